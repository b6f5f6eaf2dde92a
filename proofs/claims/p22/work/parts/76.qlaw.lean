/-! THE LAW ITSELF, ON THE CLASS ALONE -/
section Q76
variable {σ σ' : Sp} {M M' : Mm} {l d o s b m len : Nat} {xs : Nat → Int32} {L : Nat}
theorem dv {z : Nat} (q : Nat) (Q : Int32) (hz : z < 2147483648) (e : Q = nI q) (a : 0 < q) (c : q < 2147483648) : nI z / Q = nI (z / q) := by rw [e]; exact cDiv hz a c
theorem rm (y q : Nat) (Q : Int32) (hy : y < 2147483648) (e : Q = nI q) (a : 0 < q) (c : q < 2147483648) : irem (nI y) Q = nI (y % q) := by rw [e]; exact cRem hy a c
theorem ad1 {y : Nat} : (1 : Int32) + nI y = nI (1 + y) := by rw [Lt1, cAdd]
theorem D_drawn (hL : L ≤ 260) {i : Nat} (hi : i < 2147483648) : ∃ j : Nat, j < 2147483648 ∧ fL_drawn xs L (nI i) M = some (nI j) := by
  unfold fL_drawn
  by_cases z : Int32.ofNat L ≤ nI i
  · obtain ⟨j, hj, e⟩ := pk_andE (((39119 : Int32) * (irem (nI i) (7919 : Int32))) + (5077 : Int32)) (m := (2147483647 : Int32)) 31 (by decide +kernel)
    exact ⟨j, by omega, by rw [if_pos z, e]⟩
  · obtain ⟨j, hj, e⟩ := pk_andE (xs i) (m := (2147483647 : Int32)) 31 (by decide +kernel)
    have hlt : i < L := by
      have z2 : ¬ nI L ≤ nI i := z
      rw [cLe (by omega) (by omega)] at z2
      omega
    exact ⟨j, by omega, by rw [if_neg z, cCl hi, if_pos (g6 hlt (by omega)), e]⟩
theorem nO_1 (n : Nat) : nI n - 1 = nO n := by
  rcases Nat.eq_zero_or_pos n with z | z
  · rw [z]
    rfl
  · rw [nO_p z, Lt1, cSub z]
theorem shr_mono {x y s : Nat} (h : x ≤ y) : shr σ s x ≤ shr σ s y := by
  unfold shr
  by_cases z : sm (wt σ) 0 4 ≤ x
  · rw [if_pos z, if_pos (Nat.le_trans z h)]
    exact Nat.le_refl _
  · rw [if_neg z]
    split
    · exact Nat.min_le_left _ _
    · have h2 : x * (1 + cl σ s) / sm (fun t => 1 + cl σ t) 0 4 ≤ y * (1 + cl σ s) / sm (fun t => 1 + cl σ t) 0 4 := Nat.div_le_div_right (Nat.mul_le_mul_right _ h)
      omega
/-- the rest of a turn, from the dirt on -/
theorem L_694 {K : Int32 → Int32 → Int32 → Int32 → Int32 → Int32 → Mm → Option Int32} (hW : WF σ) (hC : EC σ l d o M) (ho : OPN σ = 1) (x2 x3 x5 x7 : Int32) : ∀ (m k n : Nat), k + m = NS σ → m < n → fL_law_L694 xs L K n x2 x3 (nI (NS σ)) x5 (1 : Int32) x7 (nI k) M = K x2 x3 (nI (NS σ)) x5 (1 : Int32) (x7 + (1 : Int32)) M
  | m, k, 0, h1, h2 => by omega
  | 0, k, n + 1, h1, h2 => by
    have h6 := hW.1.1
    rw [fL_law_L694]
    dsimp only
    rw [if_pos (show nI (NS σ) ≤ nI k by rw [cLe (by omega) (by omega)]; omega)]
  | m + 1, k, n + 1, h1, h2 => by
    have h6 := hW.1.1
    have hk : k < NS σ := by omega
    have hd := hW.2.1.2 k (by omega)
    have p4 := prs_b hW ho (s := k) (u := 4) (by omega)
    have p34 := prs_34 (σ := σ) k
    have q3 : fL_pressure (nI k) (3 : Int32) M = some (nI (prs σ k 3)) := Q_pressure hW hC ho hk (u := 3) (by omega)
    have q4 : fL_pressure (nI k) (4 : Int32) M = some (nI (prs σ k 4)) := Q_pressure hW hC ho hk (u := 4) (by omega)
    rw [fL_law_L694]
    dsimp only
    rw [if_neg (show ¬ nI (NS σ) ≤ nI k by rw [cLe (by omega) (by omega)]; omega), if_neg (show ¬ (1 : Int32) = 0 by decide), Q_dirt hW hC hk, q3, q4]
    dsimp only [Option.bind_some]
    rw [if_neg (show ¬ nI (DIR σ k) < 0 from nI_pos (by omega)), if_neg (show ¬ (200 : Int32) < nI (DIR σ k) by rw [show (200 : Int32) = nI 200 from rfl, cLt (by omega) (by omega)]; omega), if_neg (show ¬ nI (prs σ k 4) < nI (prs σ k 3) by rw [cLt (by omega) (by omega)]; omega), show nI k + 1 = nI (k + 1) from nI_1 k]
    exact L_694 hW hC ho x2 x3 x5 x7 m (k + 1) n (by omega) (by omega)
theorem L_612 {K : Int32 → Int32 → Int32 → Int32 → Int32 → Int32 → Mm → Option Int32} (hW : WF σ) (hC : EC σ l d o M) {x : Nat} (hx : x ≤ 9999) (x2 x3 x4 x5 x7 : Int32) : ∀ (m k n : Nat), k + m = 4 → m < n → fL_law_L612 xs L K n x2 x3 x4 x5 (1 : Int32) x7 (nI (sm (fun s => shr σ s 9999) 0 k)) (nI (sm (fun s => shr σ s x) 0 k)) (nI x) (nI k) M = fL_law_b656 xs L K x2 x3 x4 x5 (1 : Int32) x7 (nI (sm (fun s => shr σ s 9999) 0 4)) (nI (sm (fun s => shr σ s x) 0 4)) (nI x) M
  | m, k, 0, h1, h2 => by omega
  | 0, k, n + 1, h1, h2 => by
    have hk : k = 4 := by omega
    rw [fL_law_L612]
    dsimp only
    rw [if_pos (show (4 : Int32) ≤ nI k by rw [show (4 : Int32) = nI 4 from rfl, cLe (by omega) (by omega)]; omega), hk]
  | m + 1, k, n + 1, h1, h2 => by
    have hk : k < 4 := by omega
    have q9 : fL_share (nI k) (9999 : Int32) M = some (nI (shr σ k 9999)) := Q_share hW hC hk (x := 9999) (by omega)
    have e9 : nI (sm (fun s => shr σ s 9999) 0 k) + nI (shr σ k 9999) = nI (sm (fun s => shr σ s 9999) 0 (k + 1)) := by
      rw [cAdd, sm_last, Nat.zero_add]
    have ex : nI (sm (fun s => shr σ s x) 0 k) + nI (shr σ k x) = nI (sm (fun s => shr σ s x) 0 (k + 1)) := by
      rw [cAdd, sm_last, Nat.zero_add]
    rw [fL_law_L612]
    dsimp only
    rw [if_neg (show ¬ (4 : Int32) ≤ nI k by rw [show (4 : Int32) = nI 4 from rfl, cLe (by omega) (by omega)]; omega), if_neg (show ¬ (1 : Int32) = 0 by decide), Q_share hW hC hk hx, q9]
    dsimp only [Option.bind_some]
    rw [e9, ex, show nI k + 1 = nI (k + 1) from nI_1 k]
    exact L_612 hW hC hx x2 x3 x4 x5 x7 m (k + 1) n (by omega) (by omega)
/-- what the next turn owes, of every state that a call may leave -/
def KO (K : Int32 → Int32 → Int32 → Int32 → Int32 → Int32 → Mm → Option Int32) (s len i B T : Nat) : Prop := ∀ (σ' : Sp) (b' t' : Nat) (M' : Mm), b' ≤ B → t' ≤ T → ST σ' s b' t' len M' → K (nI len) (nI b') (nI s) (nI t') (1 : Int32) (nI (i + 1)) M' = some 1
theorem B_595 {K : Int32 → Int32 → Int32 → Int32 → Int32 → Int32 → Mm → Option Int32} {i B T z : Nat} (hK : KO K s len i B T) (hb : b ≤ B) (hm : m ≤ T) (hz : z < 2147483648) (h : ST σ s b m len M) : fL_law_b595 xs L K (nI len) (nI b) (nI s) (nI m) (1 : Int32) (nI i) (nI z) M = some 1 := by
  have hfit := A_fits h
  have hk := hK σ b m M hb hm h
  obtain ⟨l, d, o, hW, hC, hKP, ho, hs, hb2, hm2, hl2⟩ := h
  have hx : z % 200 < 200 := Nat.mod_lt _ (by omega)
  have er : irem (nI z) (200 : Int32) = nI (z % 200) := rm z 200 200 hz rfl (by omega) (by omega)
  have s9 : sm (fun s => shr σ s 9999) 0 4 ≤ 4 * 14040 := sm_bound (fun k _ _ => shr_all hW k)
  have sx := shr_x (σ := σ) (z % 200)
  have sle : sm (fun s => shr σ s (z % 200)) 0 4 ≤ sm (fun s => shr σ s 9999) 0 4 := sm_le (fun k _ _ => shr_mono (by omega))
  unfold fL_law_b595
  rw [er]
  refine (L_612 hW hC (x := z % 200) (by omega) _ _ _ _ _ 4 0 6 (by omega) (by omega)).trans ?_
  unfold fL_law_b656
  rw [if_neg (show ¬ (1 : Int32) = 0 by decide), if_neg (show ¬ nI (z % 200) < nI (sm (fun s => shr σ s (z % 200)) 0 4) by rw [cLt (by omega) (by omega)]; omega), if_neg (show ¬ nI (sm (fun s => shr σ s 9999) 0 4) < nI (sm (fun s => shr σ s (z % 200)) 0 4) by rw [cLt (by omega) (by omega)]; omega), hfit, Option.bind_some, if_neg (show ¬ (1 : Int32) = 0 by decide)]
  subst hs
  refine (L_694 hW hC ho _ _ _ _ (NS σ) 0 8 (by omega) (by have := hW.1.1; omega)).trans ?_
  rw [show nI i + 1 = nI (i + 1) from nI_1 i]
  exact hk
/-! the turn's calls -/
theorem B_398 {K : Int32 → Int32 → Int32 → Int32 → Int32 → Int32 → Mm → Option Int32} {i B T z v w : Nat} (hK : KO K s len i B T) (hb : b ≤ B) (hm : m ≤ T) (hz : z < 2147483648) (hv : v < s) (hw : w = 0 ∨ w = v) (h : ST σ s b m len M) : fL_law_b377 xs L K (nI len) (nI b) (nI s) (nI m) (nI i) (nI z) (nO w) M = some 1 := by
  have e1 : (1 : Int32) + irem (nI z / (160 : Int32)) (3 : Int32) = nI (1 + z / 160 % 3) := by
    rw [dv 160 160 hz rfl (by omega) (by omega), rm (z / 160) 3 3 (by omega) rfl (by omega) (by omega), Lt1, cAdd]
  obtain ⟨M1, σ1, q, h1⟩ := A_leak h (v := w) (j := 1 + z / 160 % 3) (by omega) (by omega) (by omega)
  unfold fL_law_b377
  rw [e1, q]
  dsimp only [Option.bind_some]
  rw [if_pos rfl]
  unfold fL_law_b398
  exact B_595 hK hb hm hz h1
theorem B_334 {K : Int32 → Int32 → Int32 → Int32 → Int32 → Int32 → Mm → Option Int32} {i B T z v : Nat} (hK : KO K s len i B T) (hb : b ≤ B) (hm : m ≤ T) (hz : z < 2147483648) (hv : v < s) (h : ST σ s b m len M) : fL_law_b334 xs L K (nI len) (nI b) (nI s) (nI m) (nI i) (nI z) (nO v) M = some 1 := by
  have e1 : (1 : Int32) + irem (nI z / (4 : Int32)) (5 : Int32) = nI (1 + z / 4 % 5) := by
    rw [dv 4 4 hz rfl (by omega) (by omega), rm (z / 4) 5 5 (by omega) rfl (by omega) (by omega), Lt1, cAdd]
  have e2 : irem (nI z / (20 : Int32)) (4 : Int32) = nI (z / 20 % 4) := by
    rw [dv 20 20 hz rfl (by omega) (by omega), rm (z / 20) 4 4 (by omega) rfl (by omega) (by omega)]
  obtain ⟨M1, σ1, q, h1⟩ := A_drop h (v := v) (j := 1 + z / 4 % 5) (t := z / 20 % 4) hv (by omega) (by omega) (by omega)
  unfold fL_law_b334
  rw [e1, e2, q]
  dsimp only [Option.bind_some]
  rw [if_pos rfl]
  split
  · exact B_398 (w := 0) hK hb hm hz hv (Or.inl rfl) h1
  · exact B_398 (w := v) hK hb hm hz hv (Or.inr rfl) h1
def bcl (n p : Nat) : Nat := if n.testBit p = true then n - 2 ^ p else n
theorem bcl_all : ∀ n, n < 64 → ∀ p, p < 6 → (nI n &&& ((ishl (1 : Int32) (nI p)) ^^^ (-1 : Int32))) = nI (bcl n p) ∧ bcl n p ≤ 63 ∧ (bcl n p).testBit p = false := by decide +kernel
theorem B_187 {K : Int32 → Int32 → Int32 → Int32 → Int32 → Int32 → Mm → Option Int32} {i t z : Nat} (hK : KO K s len i (i - 5) (6 * (i + 1))) (hi : i < 38) (h4 : b + 6 ≤ i) (h5 : t ≤ 6 * i) (hz : z < 2147483648) (h : ST σ s b t len M) : fL_law_b187 xs L K (nI len) (nI b) (nI s) (nI t) (nI i) (nI z) M = some 1 := by
  unfold fL_law_b187
  rw [rm z 4 4 hz rfl (by omega) (by omega), dv 4 4 hz rfl (by omega) (by omega), rm (z / 4) 6 6 (by omega) rfl (by omega) (by omega), dv 24 24 hz rfl (by omega) (by omega), rm (z / 24) 40 40 (by omega) rfl (by omega) (by omega), ad1]
  obtain ⟨M1, σ1, q, g⟩ := A_order h (show b < 40 by omega) (j := z % 4) (p := z / 4 % 6) (q := 1 + z / 24 % 40) (by omega) (by omega) (by omega) (by omega)
  rw [q]
  dsimp only [Option.bind_some]
  rw [if_pos rfl]
  unfold fL_law_b225
  rw [show nI b + 1 = nI (b + 1) from nI_1 b]
  exact B_595 hK (by omega) (by omega) hz g
theorem B_239 {K : Int32 → Int32 → Int32 → Int32 → Int32 → Int32 → Mm → Option Int32} {i t z : Nat} (hK : KO K s len i (i - 5) (6 * (i + 1))) (hi : i < 38) (h4 : b + 6 ≤ i) (h5 : t ≤ 6 * i) (hz : z < 2147483648) (h : ST σ s b t len M) : fL_law_b239 xs L K (nI len) (nI b) (nI s) (nI t) (nI i) (nI z) M = some 1 := by
  have ebar := bcl_all (z / 6000 % 64) (Nat.mod_lt _ (by omega)) (z % 6) (Nat.mod_lt _ (by omega))
  obtain ⟨M1, σ1, q, g⟩ := A_product h (p := z % 6) (a' := 1 + z / 6 % 10) (b' := 1 + z / 60 % 10) (c' := z / 600 % 10) (e' := bcl (z / 6000 % 64) (z % 6)) (by omega) (by omega) (by omega) (by omega) (by omega) (by omega) ebar.2.1 ebar.2.2
  unfold fL_law_b239
  rw [rm z 6 6 hz rfl (by omega) (by omega), dv 6 6 hz rfl (by omega) (by omega), rm (z / 6) 10 10 (by omega) rfl (by omega) (by omega), dv 60 60 hz rfl (by omega) (by omega), rm (z / 60) 10 10 (by omega) rfl (by omega) (by omega), dv 600 600 hz rfl (by omega) (by omega), rm (z / 600) 10 10 (by omega) rfl (by omega) (by omega), dv 6000 6000 hz rfl (by omega) (by omega), rm (z / 6000) 64 64 (by omega) rfl (by omega) (by omega), ebar.1, ad1, ad1, q]
  dsimp only [Option.bind_some]
  rw [if_pos rfl]
  unfold fL_law_b305
  exact B_595 hK (by omega) (by omega) hz g
theorem B_317 {K : Int32 → Int32 → Int32 → Int32 → Int32 → Int32 → Mm → Option Int32} {i t z : Nat} (hK : KO K s len i (i - 5) (6 * (i + 1))) (hi : i < 38) (h4 : b + 6 ≤ i) (h5 : t ≤ 6 * i) (hz : z < 2147483648) (h : ST σ s b t len M) : fL_law_b317 xs L K (nI len) (nI b) (nI s) (nI t) (nI i) (nI z) M = some 1 := by
  have hs6 : 1 ≤ s ∧ s ≤ 6 := by
    obtain ⟨l, d, o, hW, hC, hKP, ho, hs, -⟩ := h
    exact ⟨by rw [← hs]; exact hW.1.2.2.2.2.2.2.2.1 ho, by rw [← hs]; exact hW.1.1⟩
  unfold fL_law_b317
  by_cases s1 : s = 1
  · rw [if_pos (show nI s = (1 : Int32) by rw [s1]; rfl)]
    exact B_334 (v := 0) hK (by omega) (by omega) hz (by omega) h
  · rw [if_neg (show ¬ nI s = (1 : Int32) by rw [show (1 : Int32) = nI 1 from rfl, cEq (by omega) (by omega)]; exact s1), if_pos (show ¬ nI s = 0 by rw [Lt0, cEq (by omega) (by omega)]; omega), rm z s (nI s) hz rfl (by omega) (by omega), nO_1]
    exact B_334 (v := z % s) hK (by omega) (by omega) hz (Nat.mod_lt _ (by omega)) h
theorem B_410 {K : Int32 → Int32 → Int32 → Int32 → Int32 → Int32 → Mm → Option Int32} {i t z : Nat} (hK : KO K s len i (i - 5) (6 * (i + 1))) (hi : i < 38) (h4 : b + 6 ≤ i) (h5 : t ≤ 6 * i) (hz : z < 2147483648) (h : ST σ s b t len M) : fL_law_b410 xs L K (nI len) (nI b) (nI s) (nI t) (nI i) (nI z) M = some 1 := by
  obtain ⟨v, hv, M1, σ1, q, g⟩ := A_receive h (j := z % 4) (by omega)
  obtain ⟨v2, hv2, M2, σ2, q2, g2, g3⟩ := A_empty g (t := z / 4 % 4) (by omega)
  have q3 : fL_tank (nI (z / 4 % 4)) (0 : Int32) M2 = some (nI 0) := by
    obtain ⟨l, d, o, hW, hC, -⟩ := g2
    rw [Q_t0 hW hC (by omega), g3]
  unfold fL_law_b410
  rw [rm z 4 4 hz rfl (by omega) (by omega), dv 4 4 hz rfl (by omega) (by omega), rm (z / 4) 4 4 (by omega) rfl (by omega) (by omega), q]
  dsimp only [Option.bind_some]
  rw [if_neg (show ¬ nI v < 0 from nI_pos (by omega)), q2]
  dsimp only [Option.bind_some]
  rw [if_neg (show ¬ nI v2 < 0 from nI_pos (by omega)), q3, Option.bind_some, if_pos (show nI 0 = 0 from rfl)]
  unfold fL_law_b453
  exact B_595 hK (by omega) (by omega) hz g2
theorem B_465 {K : Int32 → Int32 → Int32 → Int32 → Int32 → Int32 → Mm → Option Int32} {i t z : Nat} (hK : KO K s len i (i - 5) (6 * (i + 1))) (hi : i < 38) (h4 : b + 6 ≤ i) (h5 : t ≤ 6 * i) (hz : z < 2147483648) (h : ST σ s b t len M) : fL_law_b465 xs L K (nI len) (nI b) (nI s) (nI t) (nI i) (nI z) M = some 1 := by
  have q4 : ∀ (σ' : Sp) (M' : Mm), ST σ' s b t len M' → fL_pipe (4 : Int32) M' = some (if PIG σ' = 0 then 0 else 1) := fun σ' M' g => by
    obtain ⟨l, d, o, hW, hC, -⟩ := g
    exact Q_p4 hW hC
  unfold fL_law_b465
  rw [q4 σ M h, Option.bind_some]
  rcases A_launch h with ⟨y, q⟩ | ⟨y, M1, σ1, q, g, y1⟩
  · rw [q]
    dsimp only [Option.bind_some]
    rw [if_neg y, if_pos rfl]
    unfold fL_law_b488
    rw [if_pos rfl, q4 σ M h, Option.bind_some, if_neg y, if_pos rfl]
    unfold fL_law_b505
    exact B_595 hK (by omega) (by omega) hz h
  · rw [q]
    dsimp only [Option.bind_some]
    rw [if_pos y, if_neg (show ¬ (0 : Int32) = 1 by decide)]
    unfold fL_law_b488
    rw [if_pos rfl, q4 σ1 M1 g, Option.bind_some, if_neg y1, if_pos rfl]
    unfold fL_law_b505
    exact B_595 hK (by omega) (by omega) hz g
theorem B_517 {K : Int32 → Int32 → Int32 → Int32 → Int32 → Int32 → Mm → Option Int32} {i t z : Nat} (hK : KO K s len i (i - 5) (6 * (i + 1))) (hi : i < 38) (h4 : b + 6 ≤ i) (h5 : t ≤ 6 * i) (hz : z < 2147483648) (h : ST σ s b t len M) : fL_law_b517 xs L K (nI len) (nI b) (nI s) (nI t) (nI i) (nI z) M = some 1 := by
  obtain ⟨v, hv, M1, σ1, q, g⟩ := A_rate h (j := z % 11) (by omega)
  unfold fL_law_b517
  rw [rm z 11 11 hz rfl (by omega) (by omega), q]
  dsimp only [Option.bind_some]
  rw [if_neg (show ¬ nI v < 0 from nI_pos (by omega))]
  unfold fL_law_b534
  exact B_595 hK (by omega) (by omega) hz g
theorem B_539 {K : Int32 → Int32 → Int32 → Int32 → Int32 → Int32 → Mm → Option Int32} {i t z : Nat} (hK : KO K s len i (i - 5) (6 * (i + 1))) (hi : i < 38) (h4 : b + 6 ≤ i) (h5 : t ≤ 6 * i) (hz : z < 2147483648) (h : ST σ s b t len M) : fL_law_b539 xs L K (nI len) (nI b) (nI s) (nI t) (nI i) (nI z) M = some 1 := by
  have hz6 : z % 6 < 6 := Nat.mod_lt _ (by omega)
  unfold fL_law_b539
  rw [rm z 6 6 hz rfl (by omega) (by omega), ad1]
  generalize z % 6 = y at hz6 ⊢
  obtain ⟨v, hv, M1, σ1, q, g⟩ := A_pass h (j := 1 + y) (by omega) (by omega) (by omega)
  have q5 : fL_pipe (5 : Int32) M1 = some (nI (t + (1 + y))) := by
    obtain ⟨l, d, o, hW, hC, -, -, -, -, hm, -⟩ := g
    rw [Q_p5 hW hC, hm]
  have e10 : (10 : Int32) * nI (1 + y) = nI (10 * (1 + y)) := by rw [show (10 : Int32) = nI 10 from rfl, cMul]
  rw [q]
  dsimp only [Option.bind_some]
  rw [e10, cAdd, if_neg (show ¬ nI v < 0 from nI_pos (by omega)), if_neg (show ¬ nI (10 * (1 + y)) < nI v by rw [cLt (by omega) (by omega)]; omega), q5, Option.bind_some, if_pos rfl]
  unfold fL_law_b593
  exact B_595 hK (by omega) (by omega) hz g
theorem L_147 (hL : L ≤ 260) : ∀ (m i n : Nat) (σ : Sp) (b t : Nat) (M : Mm), i + m = 38 → m < n → 7 ≤ i → b + 6 ≤ i → t ≤ 6 * i → ST σ s b t len M → fL_law_L147 xs L n (nI len) (nI b) (nI s) (nI t) (1 : Int32) (nI i) M = some 1
  | m, i, 0, σ, b, t, M, h1, h2, h3, h4, h5, h => by omega
  | 0, i, n + 1, σ, b, t, M, h1, h2, h3, h4, h5, h => by
    rw [fL_law_L147]
    dsimp only
    rw [if_pos (show (38 : Int32) ≤ nI i by rw [show (38 : Int32) = nI 38 from rfl, cLe (by omega) (by omega)]; omega)]
  | m + 1, i, n + 1, σ, b, t, M, h1, h2, h3, h4, h5, h => by
    have hK : KO (fL_law_L147 xs L n) s len i (i - 5) (6 * (i + 1)) := fun σ' b' t' M' g1 g2 g3 => L_147 hL m (i + 1) n σ' b' t' M' (by omega) (by omega) (by omega) (by omega) (by omega) g3
    have hi : i < 38 := by omega
    obtain ⟨j, hj, ed⟩ := D_drawn (M := M) (xs := xs) hL (show i < 2147483648 by omega)
    have r16 : irem (nI j) (16 : Int32) = nI (j % 16) := rm j 16 16 hj rfl (by omega) (by omega)
    have d16 : nI j / (16 : Int32) = nI (j / 16) := dv 16 16 hj rfl (by omega) (by omega)
    have hz : j / 16 < 2147483648 := by omega
    have hk : j % 16 < 16 := Nat.mod_lt _ (by omega)
    rw [fL_law_L147]
    dsimp only
    rw [if_neg (show ¬ (38 : Int32) ≤ nI i by rw [show (38 : Int32) = nI 38 from rfl, cLe (by omega) (by omega)]; omega), if_neg (show ¬ (1 : Int32) = 0 by decide), ed, Option.bind_some, r16, d16]
    generalize j / 16 = z at hz ⊢
    generalize j % 16 = k at hk ⊢
    split
    · split
      · exact B_239 hK hi h4 h5 hz h
      · split
        · exact B_317 hK hi h4 h5 hz h
        · split
          · exact B_410 hK hi h4 h5 hz h
          · split
            · exact B_465 hK hi h4 h5 hz h
            · split
              · exact B_539 hK hi h4 h5 hz h
              · exact B_517 hK hi h4 h5 hz h
    · exact B_187 hK hi h4 h5 hz h
theorem L_32 (hL : L ≤ 260) {s : Nat} (hs1 : 1 ≤ s) (hs4 : s ≤ 4) : ∀ (m k n : Nat) (σ : Sp) (len : Nat) (M : Mm), k + m = s → m < n → SC σ k len M → fL_law_L32 xs L n (nI len) (1 : Int32) (nI s) (0 : Int32) (1 : Int32) (nI k) M = some 1
  | m, k, 0, σ, len, M, h1, h2, h => by omega
  | 0, k, n + 1, σ, len, M, h1, h2, h => by
    have hk : k = s := by omega
    obtain ⟨j, hj, ed⟩ := D_drawn (M := M) (xs := xs) hL (i := 6) (by omega)
    have ed' : fL_drawn xs L (6 : Int32) M = some (nI j) := ed
    have r6 : irem (nI j) (6 : Int32) = nI (j % 6) := rm j 6 6 hj rfl (by omega) (by omega)
    obtain ⟨M1, σ1, q, g⟩ := A_open h (p := j % 6) (by omega) (by omega)
    rw [fL_law_L32]
    dsimp only
    rw [if_pos (show nI s ≤ nI k by rw [cLe (by omega) (by omega)]; omega)]
    unfold fL_law_b114
    rw [if_neg (show ¬ (1 : Int32) = 0 by decide), ed', Option.bind_some, r6, q]
    dsimp only [Option.bind_some]
    rw [if_pos rfl]
    rw [hk] at g
    exact L_147 hL 31 7 34 σ1 1 0 M1 (by omega) (by omega) (by omega) (by omega) (by omega) g
  | m + 1, k, n + 1, σ, len, M, h1, h2, h => by
    obtain ⟨j, hj, ed⟩ := D_drawn (M := M) (xs := xs) hL (i := 1 + k) (by omega)
    have e1 : (1 : Int32) + nI k = nI (1 + k) := by rw [Lt1, cAdd]
    have e5 : (5 : Int32) + irem (nI j) (20 : Int32) = nI (5 + j % 20) := by
      rw [rm j 20 20 hj rfl (by omega) (by omega), show (5 : Int32) = nI 5 from rfl, cAdd]
    have e20 : irem (nI j / (20 : Int32)) (20 : Int32) = nI (j / 20 % 20) := by
      rw [dv 20 20 hj rfl (by omega) (by omega), rm (j / 20) 20 20 (by omega) rfl (by omega) (by omega)]
    have e400 : (100 : Int32) + irem (nI j / (400 : Int32)) (300 : Int32) = nI (100 + j / 400 % 300) := by
      rw [dv 400 400 hj rfl (by omega) (by omega), rm (j / 400) 300 300 (by omega) rfl (by omega) (by omega), show (100 : Int32) = nI 100 from rfl, cAdd]
    obtain ⟨M1, σ1, q, g⟩ := A_segment h (x' := 5 + j % 20) (y' := j / 20 % 20) (w' := 100 + j / 400 % 300) (by omega) (by omega) (by omega) (by omega) (by omega) (by omega)
    rw [fL_law_L32]
    dsimp only
    rw [if_neg (show ¬ nI s ≤ nI k by rw [cLe (by omega) (by omega)]; omega), if_neg (show ¬ (1 : Int32) = 0 by decide), e1, ed, Option.bind_some, e5, e20, e400, q]
    dsimp only [Option.bind_some]
    rw [if_pos rfl, cAdd, show nI k + 1 = nI (k + 1) from nI_1 k]
    exact L_32 hL hs1 hs4 m (k + 1) n σ1 (len + (5 + j % 20)) M1 (by omega) (by omega) g
theorem law_b8 (hL : L ≤ 260) (h : SC σ 0 0 M) : fL_law_b8 xs L M = some 1 := by
  obtain ⟨j, hj, ed⟩ := D_drawn (M := M) (xs := xs) hL (i := 0) (by omega)
  have ed' : fL_drawn xs L (0 : Int32) M = some (nI j) := ed
  have e1 : (1 : Int32) + irem (nI j) (4 : Int32) = nI (1 + j % 4) := by
    rw [rm j 4 4 hj rfl (by omega) (by omega), Lt1, cAdd]
  unfold fL_law_b8
  rw [ed', Option.bind_some, e1]
  exact L_32 hL (by omega) (by omega) (1 + j % 4) 0 8 σ 0 M (by omega) (by omega) h
end Q76
