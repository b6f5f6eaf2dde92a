/-! THE REFERENCE'S FUNCTIONS THAT ONLY READ -/
theorem g6 {k n : Nat} (h : k < n) (hn : n < 2147483648) : ¬ (nI k < 0 ∨ n ≤ k) := by rw [Lt0, cLt (by omega) (by omega)]; omega
/-- what the mixes are read from -/
def MX (σ : Sp) (M : Mm) : Prop := (∀ b, b < 40 → gi M 89 b = nI (ENT σ b)) ∧ MB2 σ M ∧ (∀ b, b < NB σ → gi M 87 b = nI (PRD σ b)) ∧ gi M 77 24 = nI (LEN σ + ALL σ)
/-- what the pressures are read from -/
def MY (σ : Sp) (M : Mm) : Prop := gi M 77 1 = nI (NS σ) ∧ gi M 77 7 = nI (LEN σ) ∧ MS σ M ∧ MG σ M ∧ MU σ M ∧ (∀ b, b < NB σ → gi M 87 b = nI (PRD σ b))
section Mr
variable {σ : Sp} {M : Mm}
theorem EM_MX (h : EM' σ M) : MX σ M := ⟨fun b hb => (h.2.2.2.2.2.1 b hb).1, h.2.2.2.2.2.2.1, fun b hb => (h.2.2.2.2.2.2.2.1 b hb).2.1, h.1.2.2.2.2.1⟩
theorem EM_MY (h : EM' σ M) : MY σ M := ⟨h.1.1, h.1.2.2.1, h.2.2.2.1, h.2.2.2.2.1, h.2.2.2.2.2.2.2.2.1, fun b hb => (h.2.2.2.2.2.2.2.1 b hb).2.1⟩
theorem M_lastOf_L (h1 : gi M 77 1 = nI (NS σ)) (hS : MS σ M) (h6 : NS σ ≤ 6) : ∀ (m k x n : Nat), k + m = NS σ → m < n → fX6_lastOf_L6 n (nI x) (nI k) M = some (nI (x + sm (HOL σ) k m))
  | m, k, x, 0, h2, h3 => by omega
  | 0, k, x, n + 1, h2, h3 => by
    rw [fX6_lastOf_L6]
    dsimp only
    rw [h1, if_pos (show nI (NS σ) ≤ nI k by rw [cLe (by omega) (by omega)]; omega), sm_0, Nat.add_zero]
  | m + 1, k, x, n + 1, h2, h3 => by
    rw [fX6_lastOf_L6]
    dsimp only
    rw [h1, if_neg (show ¬ nI (NS σ) ≤ nI k by rw [cLe (by omega) (by omega)]; omega), cCl (by omega), if_pos (g6 (show k < 6 by omega) (by omega)), ((hS k (by omega)).1 (by omega)).1, cAdd, Lt1, cAdd, M_lastOf_L h1 hS h6 m (k + 1) (x + HOL σ k) n (by omega) (by omega), sm_s, Nat.add_assoc]
theorem M_lastOf (h1 : gi M 77 1 = nI (NS σ)) (hS : MS σ M) (h6 : NS σ ≤ 6) {s : Nat} (hs : s < NS σ) : fX6_lastOf (nI s) M = some (nI (off σ s)) := by
  unfold fX6_lastOf
  rw [Lt1, cAdd, Lt0, M_lastOf_L h1 hS h6 (NS σ - 1 - s) (s + 1) 0 400 (by omega) (by omega), Nat.zero_add]
  rfl
/-- one unit of the pipe -/
theorem M_unit (hY : MY σ M) (hW : WF σ) (ho : OPN σ = 1) {k : Nat} (hk : k < LEN σ) : gi M 97 k = nI (UB σ k) ∧ gi M 98 k = nI (UP σ k) ∧ gi M 87 (UB σ k) = nI (PRD σ (UB σ k)) ∧ UB σ k < 40 ∧ PRD σ (UB σ k) < 6 ∧ k < 360 ∧ UB σ k < NB σ := by
  obtain ⟨u1, u2, u3, u4, u5⟩ := WF_unit hW ho hk
  have h360 := hW.1.2.2.2.2.2.2.2.2.2.2.1
  have h := hY.2.2.2.2.1 ho k hk
  exact ⟨h.1, h.2, hY.2.2.2.2.2 _ u1, u4, u5, by omega, u1⟩
theorem M_p29 (hY : MY σ M) (hW : WF σ) (ho : OPN σ = 1) {i u s : Nat} (hi : i < NS σ) (hu : u ≤ 10) (K : Int32 → Int32 → Int32 → Int32 → Mm → Option Int32) : ∀ (m j n x y : Nat), j + m = HOL σ i → m < n → x ≤ j * 10 → fX6_pressureOf_L29 K n (nI s) (nI u) (nI y) (nI i) (nI (off σ i)) (nI x) (nI (off σ i + j)) M = K (nI s) (nI u) (nI (y + (u * (DIR σ i + (x + sm (fun j => THK σ (PRD σ (UB σ (off σ i + j)))) j m)) + 99) / 100)) (nI (i + 1)) M
  | m, j, 0, x, y, h2, h3, h4 => by omega
  | 0, j, n + 1, x, y, h2, h3, h4 => by
    have h6 := hW.1.1
    obtain ⟨w1, w2, -⟩ := hW.2.1.1 i hi
    have hd := hW.2.1.2 i (by omega)
    have hS := hY.2.2.1 i (by omega)
    have hin := off_in (hW.2.2.2.2.2.2.2.1 ho).1 hi
    have h360 := hW.1.2.2.2.2.2.2.2.2.2.2.1
    rw [fX6_pressureOf_L29]
    dsimp only
    have hm : u * (DIR σ i + (x + 0)) ≤ 10 * 800 := Nat.mul_le_mul hu (by omega)
    have g := g6 (show i < 6 by omega) (by omega)
    rw [cCl (by omega), if_pos g, (hS.1 hi).1, cAdd, if_pos (show nI (off σ i + HOL σ i) ≤ nI (off σ i + j) by rw [cLe (by omega) (by omega)]; omega), if_pos g, hS.2, cAdd, cMul, show (99 : Int32) = nI 99 from rfl, show (100 : Int32) = nI 100 from rfl, cAdd, show x + DIR σ i = DIR σ i + (x + 0) by omega, cDiv (by omega) (by omega) (by omega), cAdd, Lt1, cAdd, sm_0]
  | m + 1, j, n + 1, x, y, h2, h3, h4 => by
    have h6 := hW.1.1
    obtain ⟨w1, w2, -⟩ := hW.2.1.1 i hi
    have hS := hY.2.2.1 i (by omega)
    have hin := off_in (hW.2.2.2.2.2.2.2.1 ho).1 hi
    have hk := WF_off hW ho hi (show j < HOL σ i by omega)
    obtain ⟨u1, u2, u3, u4, u5, u6, u7⟩ := M_unit hY hW ho hk
    have hG := hY.2.2.2.1 _ u5
    have hT := (hW.2.2.1 _ u5).2.2.2.1
    rw [fX6_pressureOf_L29]
    dsimp only
    have g := g6 (show i < 6 by omega) (by omega)
    have gk := g6 u6 (by omega)
    have gb := g6 u4 (by omega)
    have gp := g6 u5 (by omega)
    rw [cCl (show i < 2147483648 by omega), if_pos g, (hS.1 hi).1, cAdd, if_neg (show ¬ nI (off σ i + HOL σ i) ≤ nI (off σ i + j) by rw [cLe (by omega) (by omega)]; omega), cCl (show off σ i + j < 2147483648 by omega), if_pos gk, u1, cCl (show UB σ (off σ i + j) < 2147483648 by omega), if_pos gb, u3, cCl (show PRD σ (UB σ (off σ i + j)) < 2147483648 by omega), if_pos gp, hG.2.1, cAdd, Lt1, cAdd, Nat.add_assoc, M_p29 hY hW ho hi hu K m (j + 1) n (x + THK σ (PRD σ (UB σ (off σ i + j)))) y (by omega) (by omega) (by omega), sm_s, Nat.add_assoc x]
theorem M_p5 (hY : MY σ M) (hW : WF σ) (ho : OPN σ = 1) {s u : Nat} (hs : s < NS σ) (hu : u ≤ 10) : ∀ (m k n y : Nat), k + m = NS σ → m < n → y = sm (fun i => frc σ i u) s (k - s) → s ≤ k → fX6_pressureOf_L5 n (nI s) (nI u) (nI y) (nI k) M = some (nI (prs σ s u))
  | m, k, 0, y, h2, h3, h4, h5 => by omega
  | 0, k, n + 1, y, h2, h3, h4, h5 => by
    have hk : k = NS σ := by omega
    have h6 := hW.1.1
    have hl : 0 < LEN σ := by have := WF_off hW ho hs (j := 0) (by have := (hW.2.1.1 s hs).1; omega); omega
    obtain ⟨u1, u2, u3, u4, u5, u6, u7⟩ := M_unit hY hW ho hl
    have hn := ned_le hW ho (s := s) hu
    have hG := hY.2.2.2.1 _ u5
    have hwg := hW.2.2.1 _ u5
    have hS := hY.2.2.1 (NS σ - 1) (by omega)
    have hws := hW.2.1.1 (NS σ - 1) (by omega)
    have gk := g6 u6 (by omega)
    have gb := g6 u4 (by omega)
    have gp := g6 u5 (by omega)
    have gn := g6 (show NS σ - 1 < 6 by omega) (by omega)
    have hmul : WEI σ (PRD σ (UB σ 0)) * HEI σ (NS σ - 1) ≤ 10 * 50 := Nat.mul_le_mul hwg.2.1 hws.2.2.1
    have hned : ned σ s u = y + WEI σ (PRD σ (UB σ 0)) * HEI σ (NS σ - 1) := by
      unfold ned hed
      rw [off_last, h4, hk, Nat.add_comm]
    rw [fX6_pressureOf_L5]
    dsimp only
    have hc0 : (nI 0).toNatClampNeg = 0 := rfl
    rw [hY.1, if_pos (show nI (NS σ) ≤ nI k by rw [cLe (by omega) (by omega)]; omega), show (0 : Int32) = nI 0 from rfl, hc0, if_pos (show ¬ (nI 0 < nI 0 ∨ 360 ≤ 0) from gk), u1, cCl (show UB σ 0 < 2147483648 by omega), if_pos (show ¬ (nI (UB σ 0) < nI 0 ∨ 40 ≤ UB σ 0) from gb), u3, cCl (show PRD σ (UB σ 0) < 2147483648 by omega), if_pos (show ¬ (nI (PRD σ (UB σ 0)) < nI 0 ∨ 6 ≤ PRD σ (UB σ 0)) from gp), Lt1, cSub (show 1 ≤ NS σ by omega), cCl (show NS σ - 1 < 2147483648 by omega), if_pos (show ¬ (nI (NS σ - 1) < nI 0 ∨ 6 ≤ NS σ - 1) from gn), hG.1, (hS.1 (by omega)).2.1, cMul, cAdd, ← hned]
    unfold prs
    by_cases z : s = 0
    · subst z
      rw [if_pos (show nI 0 ≤ nI 0 by decide), if_pos rfl, Nat.sub_zero]
      unfold fX6_pressureOf_b168
      rw [Lt0, if_pos (nI_ge0 (by omega))]
    · rw [if_neg (show ¬ nI s ≤ nI 0 by rw [cLe (by omega) (by omega)]; omega), cSub (show 1 ≤ s by omega), M_lastOf hY.1 hY.2.2.1 h6 (show s - 1 < NS σ by omega), Option.bind_some, if_neg z]
      have hk2 := WF_off hW ho (show s - 1 < NS σ by omega) (j := 0) (by have := (hW.2.1.1 (s - 1) (by omega)).1; omega)
      rw [Nat.add_zero] at hk2
      obtain ⟨v1, v2, v3, v4, v5, v6, v7⟩ := M_unit hY hW ho hk2
      have hG2 := hY.2.2.2.1 _ v5
      have hS2 := hY.2.2.1 (s - 1) (by omega)
      have hh := hed_le hW ho (show s - 1 < NS σ by omega)
      rw [cCl (show off σ (s - 1) < 2147483648 by omega), if_pos (show ¬ (nI (off σ (s - 1)) < nI 0 ∨ 360 ≤ off σ (s - 1)) from g6 v6 (by omega)), v1, cCl (show UB σ (off σ (s - 1)) < 2147483648 by omega), if_pos (show ¬ (nI (UB σ (off σ (s - 1))) < nI 0 ∨ 40 ≤ UB σ (off σ (s - 1))) from g6 v4 (by omega)), v3, cCl (show PRD σ (UB σ (off σ (s - 1))) < 2147483648 by omega), if_pos (show ¬ (nI (PRD σ (UB σ (off σ (s - 1)))) < nI 0 ∨ 6 ≤ PRD σ (UB σ (off σ (s - 1)))) from g6 v5 (by omega)), cCl (show s - 1 < 2147483648 by omega), if_pos (show ¬ (nI (s - 1) < nI 0 ∨ 6 ≤ s - 1) from g6 (by omega) (by omega)), hG2.1, (hS2.1 (by omega)).2.1, cMul]
      show fX6_pressureOf_b168 (nI (ned σ s u) - nI (hed σ (s - 1))) M = _
      unfold fX6_pressureOf_b168
      by_cases y : hed σ (s - 1) ≤ ned σ s u
      · rw [cSub y, Lt0, if_pos (nI_ge0 (by omega))]
      · have e : ¬ (0 : Int32) ≤ nI (ned σ s u) - nI (hed σ (s - 1)) := by
          rw [Int32.le_iff_toInt_le, pk_sub_toInt (by omega) (by omega)]
          have : (0 : Int32).toInt = 0 := by decide
          omega
        rw [if_neg e, show ned σ s u - hed σ (s - 1) = 0 by omega]
        rfl
  | m + 1, k, n + 1, y, h2, h3, h4, h5 => by
    have h6 := hW.1.1
    obtain ⟨w1, w2, -⟩ := hW.2.1.1 k (by omega)
    rw [fX6_pressureOf_L5]
    dsimp only
    rw [hY.1, if_neg (show ¬ nI (NS σ) ≤ nI k by rw [cLe (by omega) (by omega)]; omega), M_lastOf hY.1 hY.2.2.1 h6 (show k < NS σ by omega), Option.bind_some]
    have h29 := M_p29 (s := s) hY hW ho (show k < NS σ by omega) hu (fX6_pressureOf_L5 n) (HOL σ k) 0 400 0 y (by omega) (by omega) (by omega)
    rw [Nat.add_zero, Nat.zero_add] at h29
    rw [Lt0, h29]
    exact M_p5 hY hW ho hs hu m (k + 1) n _ (by omega) (by omega) (by
      rw [show k + 1 - s = (k - s) + 1 by omega, sm_last, ← h4, show s + (k - s) = k by omega]
      rfl) (by omega)
theorem M_pressureOf (hY : MY σ M) (hW : WF σ) (ho : OPN σ = 1) {s u : Nat} (hs : s < NS σ) (hu : u ≤ 10) : fX6_pressureOf (nI s) (nI u) M = some (nI (prs σ s u)) := by
  have h6 := hW.1.1
  unfold fX6_pressureOf
  exact M_p5 hY hW ho hs hu (NS σ - s) s 400 0 (by omega) (by omega) (by rw [Nat.sub_self, sm_0]) (Nat.le_refl s)
theorem prs_le (hW : WF σ) (ho : OPN σ = 1) {s u : Nat} (hu : u ≤ 10) : prs σ s u ≤ 1100 := by
  have := ned_le hW ho (s := s) hu
  unfold prs
  omega
theorem M_rate13 (hY : MY σ M) (hW : WF σ) (ho : OPN σ = 1) {u : Nat} (hu : u ≤ 10) (K : Int32 → Mm → Option Int32) : ∀ (m k n : Nat), k + m = NS σ → m < n → (∀ s, s < k → prs σ s u ≤ LIM σ s) → fX6_rateThatGoes_L13 K n (nI u) (nI 1) (nI k) M = fX6_rateThatGoes_b52 K (nI u) (nI (if fit σ u = true then 1 else 0)) M
  | m, k, 0, h2, h3, h4 => by omega
  | 0, k, n + 1, h2, h3, h4 => by
    have h6 := hW.1.1
    rw [fX6_rateThatGoes_L13]
    dsimp only
    rw [hY.1, if_pos (show nI (NS σ) ≤ nI k by rw [cLe (by omega) (by omega)]; omega)]
    have : fit σ u = true := by
      unfold fit
      rw [decide_eq_true_eq]
      intro s hs
      exact h4 s (by omega)
    rw [if_pos this]
  | m + 1, k, n + 1, h2, h3, h4 => by
    have h6 := hW.1.1
    have hp := prs_le hW ho (s := k) hu
    have hl := (hW.2.1.1 k (by omega)).2.2.2.2.1
    rw [fX6_rateThatGoes_L13]
    dsimp only
    rw [hY.1, if_neg (show ¬ nI (NS σ) ≤ nI k by rw [cLe (by omega) (by omega)]; omega), if_neg (show ¬ nI 1 = 0 by decide), M_pressureOf hY hW ho (show k < NS σ by omega) hu, Option.bind_some, cCl (show k < 2147483648 by omega), if_pos (g6 (show k < 6 by omega) (by omega)), ((hY.2.2.1 k (by omega)).1 (by omega)).2.2]
    by_cases z : LIM σ k < prs σ k u
    · rw [if_pos (show nI (LIM σ k) < nI (prs σ k u) by rw [cLt (by omega) (by omega)]; exact z), Lt1, cAdd]
      have hno : ¬ fit σ u = true := by
        unfold fit
        rw [decide_eq_true_eq]
        intro q
        have := q k (by omega)
        omega
      rw [if_neg hno]
      obtain ⟨n', rfl⟩ : ∃ n', n = n' + 1 := ⟨n - 1, by omega⟩
      rw [fX6_rateThatGoes_L13]
      dsimp only
      rw [hY.1]
      by_cases y : nI (NS σ) ≤ nI (k + 1)
      · rw [if_pos y]; rfl
      · rw [if_neg y, if_pos rfl]; rfl
    · rw [if_neg (show ¬ nI (LIM σ k) < nI (prs σ k u) by rw [cLt (by omega) (by omega)]; exact z), Lt1, cAdd]
      exact M_rate13 hY hW ho hu K m (k + 1) n (by omega) (by omega) (fun s hs => by
        rcases Nat.lt_or_ge s k with q | q
        · exact h4 s q
        · rw [show s = k by omega]; omega)
theorem M_rate_L (hY : MY σ M) (hW : WF σ) (ho : OPN σ = 1) : ∀ (n u : Nat), u ≤ 10 → u < n → fX6_rateThatGoes_L5 n (nI u) M = some (nI (frt σ u))
  | 0, u, h1, h2 => by omega
  | n + 1, 0, h1, h2 => by
    rw [fX6_rateThatGoes_L5]
    rfl
  | n + 1, u + 1, h1, h2 => by
    have h6 := hW.1.1
    rw [fX6_rateThatGoes_L5]
    dsimp only
    rw [if_neg (show ¬ nI (u + 1) ≤ 0 by rw [Lt0, cLe (by omega) (by omega)]; omega), Lt1, Lt0, M_rate13 hY hW ho h1 _ (NS σ) 0 400 (by omega) (by omega) (fun s hs => by omega)]
    unfold fX6_rateThatGoes_b52 frt
    by_cases e : fit σ (u + 1) = true
    · rw [if_pos e, if_pos e, if_neg (show ¬ nI 1 = 0 by decide)]
    · rw [if_neg e, if_neg e, if_pos (show nI 0 = 0 from rfl), show (-1 : Int32) = nM from rfl, cPr]
      exact M_rate_L hY hW ho n u (by omega) (by omega)
theorem M_rate (hY : MY σ M) (hR : gi M 77 27 = nI (RT σ)) (hW : WF σ) (ho : OPN σ = 1) : fX6_rateThatGoes M = some (nI (frt σ (RT σ))) := by
  unfold fX6_rateThatGoes
  rw [hR]
  exact M_rate_L hY hW ho 400 (RT σ) hW.1.2.2.2.2.1 (by have := hW.1.2.2.2.2.1; omega)
theorem M_root_L {n : Nat} (hn : n < 65025) : ∀ (m r f : Nat), r + m = isq n → m < f → r * r ≤ n → fX6_root_L2 f (nI n) (nI r) M = some (nI (isq n))
  | m, r, 0, h1, h2, h3 => by omega
  | 0, r, f + 1, h1, h2, h3 => by
    have hq := rt_gt n 255 (r + 1)
    have hi : rt n 255 = r := by unfold isq at h1; omega
    have h255 := isq_le n
    have hr : r < 255 := by
      rcases Nat.lt_or_ge r 255 with q | q
      · exact q
      · have := sq_le q
        omega
    have hq2 := hq (by omega) (by omega)
    have hb : (r + 1) * (r + 1) ≤ 256 * 256 := Nat.mul_le_mul (by omega) (by omega)
    rw [fX6_root_L2]
    dsimp only
    rw [Lt1, cAdd, cMul, if_pos (show nI n < nI ((r + 1) * (r + 1)) by rw [cLt (by omega) (by omega)]; exact hq2), ← h1, Nat.add_zero]
  | m + 1, r, f + 1, h1, h2, h3 => by
    have h255 := isq_le n
    have hle := rt_le n 255
    have hsq : (r + 1) * (r + 1) ≤ n := Nat.le_trans (sq_le (show r + 1 ≤ rt n 255 by unfold isq at h1; omega)) hle
    rw [fX6_root_L2]
    dsimp only
    rw [Lt1, cAdd, cMul, if_neg (show ¬ nI n < nI ((r + 1) * (r + 1)) by rw [cLt (by omega) (by omega)]; omega)]
    exact M_root_L hn m (r + 1) f (by omega) (by omega) hsq
theorem M_root {n : Nat} (hn : n < 65025) : fX6_root (nI n) M = some (nI (isq n)) := by
  unfold fX6_root
  have := isq_le n
  exact M_root_L hn (isq n) 0 400 (by omega) (by omega) (by omega)
/-- who has someone ahead has entered, and the other way round -/
theorem WF_ahd (hW : WF σ) {b : Nat} (hb : b < 40) : (AHD σ b = 0 ↔ b = 0 ∨ ENT σ b = 0) := by
  obtain ⟨hA, -, -, -, hB, -, hC, -, hL, -⟩ := hW
  rcases (show OPN σ = 0 ∨ OPN σ = 1 by have := hA.2.2.2.1; omega) with z | z
  · have := (hC z).2.2.2.2.1 b hb
    omega
  · have q := hL z
    by_cases y : b = 0
    · rw [y]
      exact ⟨fun _ => Or.inl rfl, fun _ => q.1⟩
    · have := q.2.1 b hb y
      omega
theorem M_mixOf (hX : MX σ M) (hW : WF σ) {b : Nat} (hb : b < 40) : fX6_mixOf (nI b) M = some (nI (mix σ b)) := by
  obtain ⟨x1, x2, x3, x4⟩ := hX
  have hM := WF_WM hW
  obtain ⟨m1, m2, m3, m4⟩ := id hM
  have h360 := hW.1.2.2.2.2.2.2.2.2.2.2.1
  obtain ⟨w1, w2, w3, w4, w5, w6⟩ := m3 b hb
  obtain ⟨b1, b2, b3, b4⟩ := x2 b hb
  have ha := WF_ahd hW hb
  unfold fX6_mixOf mix
  by_cases z : b = 0
  · rw [if_pos (ha.mpr (Or.inl z)), if_pos (show nI b < 1 by rw [Lt1, cLt (by omega) (by omega)]; omega)]
    rfl
  · have g := g6 hb (by omega)
    rw [if_neg (show ¬ nI b < 1 by rw [Lt1, cLt (by omega) (by omega)]; omega), cCl (show b < 2147483648 by omega), if_pos g, x1 b hb]
    by_cases y : ENT σ b = 0
    · rw [if_pos (ha.mpr (Or.inr y)), y, if_pos (show nI 0 = 0 from rfl)]
      rfl
    · have hne : AHD σ b ≠ 0 := fun q => by have := ha.mp q; omega
      have hc := w1 hne
      have hbN : b < NB σ := by
        rcases Nat.lt_or_ge b (NB σ) with q | q
        · exact q
        · have := (hW.2.2.2.2.1.2 b hb).2.2.2.2.2.1 q
          omega
      rw [if_neg (show ¬ nI (ENT σ b) = 0 by rw [Lt0, cEq (by omega) (by omega)]; exact y), if_neg hne, if_pos g, if_pos g, b1, nO_p (by omega), cCl (show AHD σ b - 1 < 2147483648 by omega), if_pos (g6 (show AHD σ b - 1 < 40 by omega) (by omega)), x3 b hbN, x3 _ hc]
      have p1 := m4 b hbN
      have p2 := m4 _ hc
      by_cases y2 : PRD σ (AHD σ b - 1) = PRD σ b
      · rw [if_pos y2, y2, if_pos rfl]
        rfl
      · rw [if_neg y2, if_neg (show ¬ nI (PRD σ b) = nI (PRD σ (AHD σ b - 1)) by rw [cEq (by omega) (by omega)]; exact fun q => y2 q.symm), if_pos g, b4 (by omega)]
        by_cases y3 : FG σ b = 0
        · rw [if_pos y3, if_pos y3, if_pos (show nM = -1 from rfl), if_pos g, x4, b3 hne, cSub (by omega), show LEN σ + ALL σ - (LEN σ + EBF σ b) = ALL σ - EBF σ b by omega, M_root (by omega), Option.bind_some]
        · rw [if_neg y3, if_neg y3, if_neg (show ¬ nI (KEP σ b) = -1 by rw [show (-1 : Int32) = nM from rfl, cMe (by omega)]; exact fun q => q), if_pos g]
theorem half {m p : Nat} (hm : m ≤ 255) (hp : p < 512) : (nI m + 1) / 2 ≤ nI p ↔ ¬ p * 2 < m := by
  rw [Lt1, cAdd, show (2 : Int32) = nI 2 from rfl, cDiv (by omega) (by omega) (by omega), cLe (by omega) (by omega)]
  omega
theorem M_ahead (hX : MX σ M) (hW : WF σ) {b p : Nat} (hb : b < 40) (hp : p < 512) : fX6_isMixedAhead (nI b) (nI p) M = some (nI (if m1 σ b p = true then 1 else 0)) := by
  have hm := mix_le (WF_WM hW) hb
  have hh := half hm hp
  unfold fX6_isMixedAhead m1
  rw [M_mixOf hX hW hb, Option.bind_some]
  by_cases z : p * 2 < mix σ b
  · have ha : AHD σ b ≠ 0 := fun q => by unfold mix at z; rw [if_pos q] at z; omega
    rw [if_neg (fun q => (hh.mp q) z), decide_eq_true ha, decide_eq_true z]
    rfl
  · rw [if_pos (hh.mpr z), decide_eq_false z, Bool.and_false, if_neg (by decide)]
    rfl
theorem M_behind (hX : MX σ M) (hW : WF σ) {b p : Nat} (hb : b < 40) (hp : p < ENT σ b) : fX6_isMixedBehind (nI b) (nI p) M = some (nI (if m2 σ b p = true then 1 else 0)) := by
  obtain ⟨x1, x2, x3, x4⟩ := id hX
  obtain ⟨m1', m2', m3', m4'⟩ := WF_WM hW
  obtain ⟨w1, w2, w3, w4, w5, w6⟩ := m3' b hb
  obtain ⟨b1, b2, b3, b4⟩ := x2 b hb
  have g := g6 hb (by omega)
  unfold fX6_isMixedBehind m2
  rw [cCl (show b < 2147483648 by omega), if_pos g, b2]
  by_cases z : BHD σ b = 0
  · rw [z, nO_0, if_pos (show nM = -1 from rfl), decide_eq_false (fun q => q rfl), Bool.false_and, if_neg (by decide)]
    rfl
  · have hc := w2 z
    have hm := mix_le (WF_WM hW) (show BHD σ b - 1 < 40 by omega)
    have hh := half (p := ENT σ b - 1 - p) hm (by omega)
    rw [nO_p (by omega), if_neg (show ¬ nI (BHD σ b - 1) = -1 by rw [show (-1 : Int32) = nM from rfl, cMe (by omega)]; exact fun q => q), if_pos g, if_pos (show (0 : Int32) ≤ nI (BHD σ b - 1) from nI_ge0 (by omega)), x1 b hb, Lt1, cSub (by omega), cSub (by omega)]
    unfold fX6_isMixedBehind_b32
    rw [M_mixOf hX hW (show BHD σ b - 1 < 40 by omega), Option.bind_some, decide_eq_true z, Bool.true_and]
    by_cases y : (ENT σ b - 1 - p) * 2 < mix σ (BHD σ b - 1)
    · rw [if_neg (fun q => (hh.mp q) y), decide_eq_true y, if_pos rfl]
      rfl
    · rw [if_pos (hh.mpr y), decide_eq_false y, if_neg (by decide)]
      rfl
/-! which batch enters -/
theorem isin_dec : ∀ n, n < 64 → ∀ j, j < 6 → (((ishr (nI n) (nI j)) &&& (1 : Int32)) = 1 ↔ n.testBit j = true) := by decide +kernel
theorem M_isIn {n j : Nat} (hn : n < 64) (hj : j < 6) : fX6_isIn (nI j) (nI n) M = some (nI (if n.testBit j = true then 1 else 0)) := by
  unfold fX6_isIn
  by_cases z : n.testBit j = true
  · rw [if_pos ((isin_dec n hn j hj).mpr z), if_pos z]
    rfl
  · rw [if_neg (fun q => z ((isin_dec n hn j hj).mp q)), if_neg z]
    rfl
theorem M_ent61 (h12 : gi M 77 12 = nI (NB σ)) (hX : MX σ M) (hG : MG σ M) (hW : WF σ) : ∀ (m k n : Nat), k + m = NB σ → m < n → fX6_entering_L61 n (nI (PRD σ (INL σ))) (nI k) M = some (match fnd (fun k => decide (ENT σ k = 0) && brs σ k (INL σ)) k m with | none => nM | some e => nI e)
  | m, k, 0, h1, h2 => by omega
  | 0, k, n + 1, h1, h2 => by
    have h40 := hW.1.2.2.1
    rw [fX6_entering_L61]
    dsimp only
    rw [h12, if_pos (show nI (NB σ) ≤ nI k by rw [cLe (by omega) (by omega)]; omega)]
    rfl
  | m + 1, k, n + 1, h1, h2 => by
    obtain ⟨hA, hWS, hWG, hWT, hWB, -⟩ := id hW
    have h40 := hA.2.2.1
    have hI := hA.2.2.2.2.2.2.2.2.1
    obtain ⟨x1, x2, x3, x4⟩ := id hX
    have pk := (hWB.1 k (by omega)).1
    have pi := (hWB.1 _ hI).1
    have w2 := (hWB.2 k (by omega)).2.1
    have bk := (hWG _ pk).2.2.2.2.2
    have bi := (hWG _ pi).2.2.2.2.2
    have gk := hG _ pk
    have gi' := hG _ pi
    have g0 := g6 (show k < 40 by omega) (by omega)
    rw [fX6_entering_L61]
    dsimp only
    rw [h12, if_neg (show ¬ nI (NB σ) ≤ nI k by rw [cLe (by omega) (by omega)]; omega), cCl (show k < 2147483648 by omega), if_pos g0, if_pos g0, x1 k (by omega), cCl (show PRD σ (INL σ) < 2147483648 by omega), if_pos (g6 pi (by omega)), x3 k (by omega), gi'.2.2.2, M_isIn (by omega) pk, Option.bind_some, if_pos g0, cCl (show PRD σ k < 2147483648 by omega), if_pos (g6 pk (by omega)), gk.2.2.2, M_isIn (by omega) pi, Option.bind_some, Lt1, cAdd, M_ent61 h12 hX hG hW m (k + 1) n (by omega) (by omega), fnd_s]
    unfold brs
    by_cases z : ENT σ k = 0
    · rw [if_pos (show nI (ENT σ k) = 0 by rw [z]; rfl), decide_eq_true z, Bool.true_and]
      have q0 : nI (if false = true then 1 else 0) = 0 := rfl
      have q1 : ¬ nI (if true = true then 1 else 0) = 0 := by decide
      cases h1 : (BAR σ (PRD σ k)).testBit (PRD σ (INL σ))
      · cases h2 : (BAR σ (PRD σ (INL σ))).testBit (PRD σ k)
        · rw [if_pos q0, if_pos q0, if_pos (show (!false && !false) = true from rfl)]
        · rw [if_neg q1, if_neg (show ¬ (!false && !true) = true by decide)]
      · cases h2 : (BAR σ (PRD σ (INL σ))).testBit (PRD σ k)
        · rw [if_pos q0, if_neg q1, if_neg (show ¬ (!true && !false) = true by decide)]
        · rw [if_neg q1, if_neg (show ¬ (!true && !true) = true by decide)]
    · rw [if_neg (show ¬ nI (ENT σ k) = 0 by rw [Lt0, cEq (by omega) (by omega)]; exact z), decide_eq_false z, Bool.false_and, if_neg (by decide)]
theorem M_ent2 (h12 : gi M 77 12 = nI (NB σ)) (hX : MX σ M) (hY : MY σ M) (h88 : ∀ b, b < NB σ → gi M 88 b = nI (ORD σ b)) (hW : WF σ) (ho : OPN σ = 1) : ∀ (m k n : Nat), k + m = NB σ → m < n → (ENT σ (INL σ) < ORD σ (INL σ) → k ≤ INL σ) → 1 ≤ k → fX6_entering_L2 n (nI k) M = some (match nxt σ with | none => nM | some e => nI e)
  | m, k, 0, h1, h2, h3, h4 => by omega
  | 0, k, n + 1, h1, h2, h3, h4 => by
    obtain ⟨hA, hWS, hWG, hWT, hWB, hWK, -, hWO, hWL, hWU⟩ := id hW
    have h40 := hA.2.2.1
    have hI := hA.2.2.2.2.2.2.2.2.1
    have hl : 0 < LEN σ := by
      have h1 := hA.2.2.2.2.2.2.2.1 ho
      have := WF_off hW ho (i := 0) (by omega) (j := 0) (by have := (hWS.1 0 (by omega)).1; omega)
      omega
    obtain ⟨u1, u2, u3, u4, u5, u6, u7⟩ := M_unit hY hW ho (show LEN σ - 1 < LEN σ by omega)
    have hu := (hWU ho).2.2.1
    rw [hu] at u1 u3 u4 u5 u7
    rw [fX6_entering_L2]
    dsimp only
    rw [h12, if_pos (show nI (NB σ) ≤ nI k by rw [cLe (by omega) (by omega)]; omega), hY.2.1, Lt1, cSub (by omega), cCl (show LEN σ - 1 < 2147483648 by omega), if_pos (g6 u6 (by omega)), u1, cCl (show INL σ < 2147483648 by omega), if_pos (g6 u4 (by omega)), u3, M_ent61 h12 hX hY.2.2.2.1 hW (NB σ - 1) 1 400 (by omega) (by omega)]
    unfold nxt
    rw [if_neg (fun q => by have := h3 q; omega)]
  | m + 1, k, n + 1, h1, h2, h3, h4 => by
    obtain ⟨hA, hWS, hWG, hWT, hWB, hWK, -, hWO, hWL, hWU⟩ := id hW
    have h40 := hA.2.2.1
    have w2 := (hWB.2 k (by omega)).2.1
    have w3 := (hWB.1 k (by omega)).2
    have o6 := (hWO ho).2.2.2.2.2 k (by omega)
    have g0 := g6 (show k < 40 by omega) (by omega)
    rw [fX6_entering_L2]
    dsimp only
    rw [h12, if_neg (show ¬ nI (NB σ) ≤ nI k by rw [cLe (by omega) (by omega)]; omega), cCl (show k < 2147483648 by omega), if_pos g0, if_pos g0, if_pos g0, hX.1 k (by omega), h88 k (by omega), Lt1, cAdd]
    by_cases z : ENT σ k = 0
    · rw [if_pos (show nI (ENT σ k) ≤ 0 by rw [z]; decide)]
      refine M_ent2 h12 hX hY h88 hW ho m (k + 1) n (by omega) (by omega) (fun q => ?_) (by omega)
      have := h3 q
      have := (hWO ho).2.2.2.2.1
      rcases Nat.lt_or_ge k (INL σ) with y | y
      · exact y
      · rw [show k = INL σ by omega] at z
        omega
    · rw [if_neg (show ¬ nI (ENT σ k) ≤ 0 by rw [Lt0, cLe (by omega) (by omega)]; omega)]
      by_cases y : ORD σ k ≤ ENT σ k
      · rw [if_pos (show nI (ORD σ k) ≤ nI (ENT σ k) by rw [cLe (by omega) (by omega)]; exact y)]
        refine M_ent2 h12 hX hY h88 hW ho m (k + 1) n (by omega) (by omega) (fun q => ?_) (by omega)
        have := h3 q
        rcases Nat.lt_or_ge k (INL σ) with x | x
        · exact x
        · rw [show k = INL σ by omega] at y
          omega
      · rw [if_neg (show ¬ nI (ORD σ k) ≤ nI (ENT σ k) by rw [cLe (by omega) (by omega)]; exact y)]
        have hk : k = INL σ := by
          by_cases x : k = INL σ
          · exact x
          · have := o6 (by omega) x
            omega
        unfold nxt
        rw [hk] at y
        rw [if_pos (by omega), hk]
theorem M_entering (h12 : gi M 77 12 = nI (NB σ)) (hX : MX σ M) (hY : MY σ M) (h88 : ∀ b, b < NB σ → gi M 88 b = nI (ORD σ b)) (hW : WF σ) (ho : OPN σ = 1) : fX6_entering M = some (match nxt σ with | none => nM | some e => nI e) := by
  have h40 := hW.1.2.2.1
  have h1 := hW.1.2.1
  unfold fX6_entering
  refine M_ent2 h12 hX hY h88 hW ho (NB σ - 1) 1 400 (by omega) (by omega) (fun q => ?_) (by omega)
  have hO := hW.2.2.2.2.2.2.2.1 ho
  rcases Nat.eq_zero_or_pos (INL σ) with z | z
  · rw [z] at q
    omega
  · exact z
end Mr
