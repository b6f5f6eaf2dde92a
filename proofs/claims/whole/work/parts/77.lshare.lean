/-! SHARES AND THE SECOND WAY TO A UNIT: BOTH SIDES -/
section L77
variable {σ σ' : Sp} {M M' : Mm} {l d o l' d' o' : Nat}
/-- what waits for a shipper, and what entered of it -/
def wtf (σ : Sp) (s b : Nat) : Nat := if SHP σ b = s then ORD σ b - ENT σ b else 0
def clf (σ : Sp) (s b : Nat) : Nat := if SHP σ b = s then ENT σ b else 0
def wt (σ : Sp) (s : Nat) : Nat := sm (wtf σ s) 1 (NB σ - 1)
def cl (σ : Sp) (s : Nat) : Nat := sm (clf σ s) 1 (NB σ - 1)
theorem wt_le (hW : WF σ) (s : Nat) : wt σ s ≤ 14040 := by
  have h40 := hW.1.2.2.1
  have a := sm_bound (f := wtf σ s) (c := 360) (a := 1) (n := NB σ - 1) (fun b h1 h2 => by
    have := (hW.2.2.2.2.1.1 b (by omega)).2.2.1
    unfold wtf
    split <;> omega)
  unfold wt
  omega
theorem cl_le (hW : WF σ) (s : Nat) : cl σ s ≤ 14040 := by
  have h40 := hW.1.2.2.1
  have a := sm_bound (f := clf σ s) (c := 360) (a := 1) (n := NB σ - 1) (fun b h1 h2 => by
    have := (hW.2.2.2.2.1.2 b (by omega)).2.1
    unfold clf
    split <;> omega)
  unfold cl
  omega
theorem C_wt_L (hC : EC σ l d o M) (hW : WF σ) {s : Nat} (hs : s < 4) : ∀ (m k n x : Nat), k + m = NB σ → m < n → 1 ≤ k → fX5_waitingFor_L4 n (nI s) (nI x) (nI k) M = some (nI (x + sm (wtf σ s) k m))
  | m, k, 0, x, h1, h2, h3 => by omega
  | 0, k, n + 1, x, h1, h2, h3 => by
    have h40 := hW.1.2.2.1
    rw [fX5_waitingFor_L4]
    dsimp only
    rw [hC.1.2.1, if_pos (show nI (NB σ) ≤ nI k by rw [cLe (by omega) (by omega)]; omega), sm_0, Nat.add_zero]
  | m + 1, k, n + 1, x, h1, h2, h3 => by
    have h40 := hW.1.2.2.1
    have g := g6 (show k < 40 by omega) (by omega)
    have e2 := (hC.2.2.2.2.2.2.2.2.1 k (by omega)).2.2 h3
    have hw := ((hW.2.2.2.2.1.1 k (by omega)).2.2.2 h3).1
    have cwa := C_waiting hC.2.2.2.2.2.2.1 hC.2.2.2.2.2.2.2.2.1 hW.2.2.2.2.1 (show k < NB σ by omega) h40
    rw [fX5_waitingFor_L4]
    dsimp only
    rw [hC.1.2.1, if_neg (show ¬ nI (NB σ) ≤ nI k by rw [cLe (by omega) (by omega)]; omega), cCl (show k < 2147483648 by omega), if_pos g, if_pos g, e2, cwa, Option.bind_some, Lt0, Lt1, cAdd, cAdd, cAdd, C_wt_L hC hW hs m (k + 1) n _ (by omega) (by omega) (by omega), C_wt_L hC hW hs m (k + 1) n _ (by omega) (by omega) (by omega), sm_s]
    unfold wtf
    by_cases z : SHP σ k = s
    · rw [if_pos (show nI (SHP σ k) = nI s by rw [z]), if_pos z, Nat.add_assoc]
    · rw [if_neg (show ¬ nI (SHP σ k) = nI s by rw [cEq (by omega) (by omega)]; exact z), if_neg z, Nat.add_assoc]
theorem C_wt (hC : EC σ l d o M) (hW : WF σ) {s : Nat} (hs : s < 4) : fX5_waitingFor (nI s) M = some (nI (wt σ s)) := by
  have h40 := hW.1.2.2.1
  have h1 := hW.1.2.1
  unfold fX5_waitingFor
  rw [Lt0, Lt1, C_wt_L hC hW hs (NB σ - 1) 1 400 0 (by omega) (by omega) (by omega), Nat.zero_add]
  rfl
theorem C_cl_L (hC : EC σ l d o M) (hW : WF σ) {s : Nat} (hs : s < 4) : ∀ (m k n x : Nat), k + m = NB σ → m < n → 1 ≤ k → fX5_claimOf_L4 n (nI s) (nI x) (nI k) M = some (nI (x + sm (clf σ s) k m))
  | m, k, 0, x, h1, h2, h3 => by omega
  | 0, k, n + 1, x, h1, h2, h3 => by
    have h40 := hW.1.2.2.1
    rw [fX5_claimOf_L4]
    dsimp only
    rw [hC.1.2.1, if_pos (show nI (NB σ) ≤ nI k by rw [cLe (by omega) (by omega)]; omega), sm_0, Nat.add_zero]
  | m + 1, k, n + 1, x, h1, h2, h3 => by
    have h40 := hW.1.2.2.1
    have g := g6 (show k < 40 by omega) (by omega)
    have e2 := (hC.2.2.2.2.2.2.2.2.1 k (by omega)).2.2 h3
    have e4 := (hC.2.2.2.2.2.2.1 k (by omega)).2.1
    have hw := ((hW.2.2.2.2.1.1 k (by omega)).2.2.2 h3).1
    rw [fX5_claimOf_L4]
    dsimp only
    rw [hC.1.2.1, if_neg (show ¬ nI (NB σ) ≤ nI k by rw [cLe (by omega) (by omega)]; omega), cCl (show k < 2147483648 by omega), if_pos g, if_pos g, e2, e4, Lt0, Lt1, cAdd, cAdd, cAdd, C_cl_L hC hW hs m (k + 1) n _ (by omega) (by omega) (by omega), C_cl_L hC hW hs m (k + 1) n _ (by omega) (by omega) (by omega), sm_s]
    unfold clf
    by_cases z : SHP σ k = s
    · rw [if_pos (show nI (SHP σ k) = nI s by rw [z]), if_pos z, Nat.add_assoc]
    · rw [if_neg (show ¬ nI (SHP σ k) = nI s by rw [cEq (by omega) (by omega)]; exact z), if_neg z, Nat.add_assoc]
theorem C_cl (hC : EC σ l d o M) (hW : WF σ) {s : Nat} (hs : s < 4) : fX5_claimOf (nI s) M = some (nI (1 + cl σ s)) := by
  have h40 := hW.1.2.2.1
  have h1 := hW.1.2.1
  unfold fX5_claimOf
  rw [Lt1, C_cl_L hC hW hs (NB σ - 1) 1 400 1 (by omega) (by omega) (by omega)]
  rfl
theorem M_wt_L (hE : EM σ M) (hW : WF σ) {s : Nat} (hs : s < 4) : ∀ (m k n x : Nat), k + m = NB σ → m < n → 1 ≤ k → fX6_waits_L4 n (nI s) (nI x) (nI k) M = some (nI (x + sm (wtf σ s) k m))
  | m, k, 0, x, h1, h2, h3 => by omega
  | 0, k, n + 1, x, h1, h2, h3 => by
    have h40 := hW.1.2.2.1
    rw [fX6_waits_L4]
    dsimp only
    rw [hE.1.1.2.2.2.1, if_pos (show nI (NB σ) ≤ nI k by rw [cLe (by omega) (by omega)]; omega), sm_0, Nat.add_zero]
  | m + 1, k, n + 1, x, h1, h2, h3 => by
    have h40 := hW.1.2.2.1
    have g := g6 (show k < 40 by omega) (by omega)
    obtain ⟨n1, n2, n3⟩ := hE.1.2.2.2.2.2.2.2.1 k (by omega)
    have e89 := (hE.1.2.2.2.2.2.1 k (by omega)).1
    have hw := (hW.2.2.2.2.1.1 k (by omega))
    have hws := (hw.2.2.2 h3).1
    rw [fX6_waits_L4]
    dsimp only
    rw [hE.1.1.2.2.2.1, if_neg (show ¬ nI (NB σ) ≤ nI k by rw [cLe (by omega) (by omega)]; omega), cCl (show k < 2147483648 by omega), if_pos g, if_pos g, if_pos g, n3 h3, n1, e89, cSub hw.2.1, Lt0, Lt1, cAdd, cAdd, cAdd, M_wt_L hE hW hs m (k + 1) n _ (by omega) (by omega) (by omega), M_wt_L hE hW hs m (k + 1) n _ (by omega) (by omega) (by omega), sm_s]
    unfold wtf
    by_cases z : SHP σ k = s
    · rw [if_pos (show nI (SHP σ k) = nI s by rw [z]), if_pos z, Nat.add_assoc]
    · rw [if_neg (show ¬ nI (SHP σ k) = nI s by rw [cEq (by omega) (by omega)]; exact z), if_neg z, Nat.add_assoc]
theorem M_wt (hE : EM σ M) (hW : WF σ) {s : Nat} (hs : s < 4) : fX6_waits (nI s) M = some (nI (wt σ s)) := by
  have h40 := hW.1.2.2.1
  have h1 := hW.1.2.1
  unfold fX6_waits
  rw [Lt0, Lt1, M_wt_L hE hW hs (NB σ - 1) 1 400 0 (by omega) (by omega) (by omega), Nat.zero_add]
  rfl
theorem M_cl_L (hE : EM σ M) (hW : WF σ) {s : Nat} (hs : s < 4) : ∀ (m k n x : Nat), k + m = NB σ → m < n → 1 ≤ k → fX6_enteredOf_L4 n (nI s) (nI x) (nI k) M = some (nI (x + sm (clf σ s) k m))
  | m, k, 0, x, h1, h2, h3 => by omega
  | 0, k, n + 1, x, h1, h2, h3 => by
    have h40 := hW.1.2.2.1
    rw [fX6_enteredOf_L4]
    dsimp only
    rw [hE.1.1.2.2.2.1, if_pos (show nI (NB σ) ≤ nI k by rw [cLe (by omega) (by omega)]; omega), sm_0, Nat.add_zero]
  | m + 1, k, n + 1, x, h1, h2, h3 => by
    have h40 := hW.1.2.2.1
    have g := g6 (show k < 40 by omega) (by omega)
    obtain ⟨n1, n2, n3⟩ := hE.1.2.2.2.2.2.2.2.1 k (by omega)
    have e89 := (hE.1.2.2.2.2.2.1 k (by omega)).1
    have hws := ((hW.2.2.2.2.1.1 k (by omega)).2.2.2 h3).1
    rw [fX6_enteredOf_L4]
    dsimp only
    rw [hE.1.1.2.2.2.1, if_neg (show ¬ nI (NB σ) ≤ nI k by rw [cLe (by omega) (by omega)]; omega), cCl (show k < 2147483648 by omega), if_pos g, if_pos g, n3 h3, e89, Lt0, Lt1, cAdd, cAdd, cAdd, M_cl_L hE hW hs m (k + 1) n _ (by omega) (by omega) (by omega), M_cl_L hE hW hs m (k + 1) n _ (by omega) (by omega) (by omega), sm_s]
    unfold clf
    by_cases z : SHP σ k = s
    · rw [if_pos (show nI (SHP σ k) = nI s by rw [z]), if_pos z, Nat.add_assoc]
    · rw [if_neg (show ¬ nI (SHP σ k) = nI s by rw [cEq (by omega) (by omega)]; exact z), if_neg z, Nat.add_assoc]
theorem M_cl (hE : EM σ M) (hW : WF σ) {s : Nat} (hs : s < 4) : fX6_enteredOf (nI s) M = some (nI (cl σ s)) := by
  have h40 := hW.1.2.2.1
  have h1 := hW.1.2.1
  unfold fX6_enteredOf
  rw [Lt0, Lt1, M_cl_L hE hW hs (NB σ - 1) 1 400 0 (by omega) (by omega) (by omega), Nat.zero_add]
  rfl
/-- the share -/
def shr (σ : Sp) (s x : Nat) : Nat := if sm (wt σ) 0 4 ≤ x then wt σ s else min (wt σ s) (x * (1 + cl σ s) / sm (fun t => 1 + cl σ t) 0 4)
theorem C_sh_L (hC : EC σ l d o M) (hW : WF σ) {s x : Nat} (hs : s < 4) (hx : x ≤ 9999) : ∀ (m k n w c : Nat), k + m = 4 → m < n → w = sm (wt σ) 0 k → c = sm (fun t => 1 + cl σ t) 0 k → fX5_share_L23 n (nI s) (nI x) (nI w) (nI c) (nI k) M = some (0, nI (shr σ s x))
  | m, k, 0, w, c, h1, h2, h3, h4 => by omega
  | 0, k, n + 1, w, c, h1, h2, h3, h4 => by
    have hk : k = 4 := by omega
    subst hk
    have b1 := wt_le hW s
    have b2 := cl_le hW s
    have bw := sm_bound (f := wt σ) (c := 14040) (a := 0) (n := 4) (fun k _ _ => wt_le hW k)
    have bc := sm_bound (f := fun t => 1 + cl σ t) (c := 14041) (a := 0) (n := 4) (fun k _ _ => by have := cl_le hW k; omega)
    have bp := sm_part (f := fun t => 1 + cl σ t) (k := 0) (a := 0) (n := 4) (by omega) (by omega)
    have hm : x * (1 + cl σ s) ≤ 9999 * (14041) := Nat.mul_le_mul hx (by omega)
    rw [fX5_share_L23]
    dsimp only
    rw [if_pos (show (4 : Int32) ≤ nI 4 by decide), C_wt hC hW hs, Option.bind_some, C_cl hC hW hs, Option.bind_some]
    unfold shr
    rw [← h3, ← h4]
    by_cases z : w ≤ x
    · rw [if_pos (show nI w ≤ nI x by rw [cLe (by omega) (by omega)]; exact z), if_pos z]
    · rw [if_neg (show ¬ nI w ≤ nI x by rw [cLe (by omega) (by omega)]; exact z), if_neg z, if_pos (show (0 : Int32) < nI c by rw [Lt0, cLt (by omega) (by omega)]; omega), if_pos (show ¬ nI c = 0 by rw [Lt0, cEq (by omega) (by omega)]; omega), cMul, cDiv (by omega) (by omega) (by omega), cMin (by omega) (by have := Nat.div_le_self (x * (1 + cl σ s)) c; omega)]
  | m + 1, k, n + 1, w, c, h1, h2, h3, h4 => by
    rw [fX5_share_L23]
    dsimp only
    rw [if_neg (show ¬ (4 : Int32) ≤ nI k by rw [show (4 : Int32) = nI 4 from rfl, cLe (by omega) (by omega)]; omega), C_wt hC hW (show k < 4 by omega), Option.bind_some, C_cl hC hW (show k < 4 by omega), Option.bind_some, cAdd, cAdd, Lt1, cAdd]
    exact C_sh_L hC hW hs hx m (k + 1) n _ _ (by omega) (by omega) (by rw [sm_last, Nat.zero_add, h3]) (by rw [sm_last, Nat.zero_add, h4])
theorem M_sh_L (hE : EM σ M) (hW : WF σ) {s x : Nat} (hs : s < 4) (hx : x ≤ 9999) : ∀ (m k n w c : Nat), k + m = 4 → m < n → w = sm (wt σ) 0 k → c = sm (fun t => 1 + cl σ t) 0 k → fX6_share_L30 n (nI s) (nI x) (nI w) (nI c) (nI k) M = some (nI (shr σ s x), M)
  | m, k, 0, w, c, h1, h2, h3, h4 => by omega
  | 0, k, n + 1, w, c, h1, h2, h3, h4 => by
    have hk : k = 4 := by omega
    subst hk
    have b1 := wt_le hW s
    have b2 := cl_le hW s
    have bw := sm_bound (f := wt σ) (c := 14040) (a := 0) (n := 4) (fun k _ _ => wt_le hW k)
    have bc := sm_bound (f := fun t => 1 + cl σ t) (c := 14041) (a := 0) (n := 4) (fun k _ _ => by have := cl_le hW k; omega)
    have bp := sm_part (f := fun t => 1 + cl σ t) (k := 0) (a := 0) (n := 4) (by omega) (by omega)
    have hm : x * (1 + cl σ s) ≤ 9999 * (14041) := Nat.mul_le_mul hx (by omega)
    have hd := Nat.div_le_self (x * (1 + cl σ s)) c
    rw [fX6_share_L30]
    dsimp only
    rw [if_pos (show (4 : Int32) ≤ nI 4 by decide), M_cl hE hW hs, Option.bind_some, if_pos (show ¬ nI c = 0 by rw [Lt0, cEq (by omega) (by omega)]; omega), M_wt hE hW hs, Option.bind_some, Option.bind_some, Lt1, cAdd, cMul, show cl σ s + 1 = 1 + cl σ s by omega, cDiv (by omega) (by omega) (by omega)]
    unfold shr
    rw [← h3, ← h4]
    by_cases z : w ≤ x
    · rw [if_pos (show nI w ≤ nI x by rw [cLe (by omega) (by omega)]; exact z), if_pos z]
    · rw [if_neg (show ¬ nI w ≤ nI x by rw [cLe (by omega) (by omega)]; exact z), if_neg z]
      by_cases y : x * (1 + cl σ s) / c ≤ wt σ s
      · rw [if_pos (show nI (x * (1 + cl σ s) / c) ≤ nI (wt σ s) by rw [cLe (by omega) (by omega)]; exact y), Nat.min_eq_right y]
      · rw [if_neg (show ¬ nI (x * (1 + cl σ s) / c) ≤ nI (wt σ s) by rw [cLe (by omega) (by omega)]; exact y), Nat.min_eq_left (by omega)]
  | m + 1, k, n + 1, w, c, h1, h2, h3, h4 => by
    rw [fX6_share_L30]
    dsimp only
    rw [if_neg (show ¬ (4 : Int32) ≤ nI k by rw [show (4 : Int32) = nI 4 from rfl, cLe (by omega) (by omega)]; omega), M_wt hE hW (show k < 4 by omega), Option.bind_some, M_cl hE hW (show k < 4 by omega), Option.bind_some, Lt1, cAdd, cAdd, cAdd, cAdd]
    exact M_sh_L hE hW hs hx m (k + 1) n _ _ (by omega) (by omega) (by rw [sm_last, Nat.zero_add, h3]) (by rw [sm_last, Nat.zero_add, h4]; omega)
theorem W_share (h : IV σ l d o M) (x y : Int32) : OK1 (fL_share x y) (fX6_share x y) M := by
  obtain ⟨hW, hC, hE⟩ := id h
  rcases idx x (n := 4) (by omega) with z | ⟨s, hs, rfl⟩
  · refine E1 h (c := 1) (v := 0) (by omega) (by omega) ?_ ?_
    · unfold fL_share fX5_share
      rw [show fX5_checkIndex x 4 M = some 3 from C_idx3 (n := 4) z, Option.bind_some]
      rfl
    · unfold fX6_share
      rw [H_no z, Option.bind_some]
      rcases isB y 0 9999 M with q | q
      · rw [q, Option.bind_some, G_1, Option.bind_some]; rfl
      · rw [q, Option.bind_some, G_1, Option.bind_some]; rfl
  · have ci : fX5_checkIndex (nI s) 4 M = some 0 := C_idx0 (n := 4) (by omega) hs
    have bad : (y < nI 0 ∨ nI 9999 < y) → OK1 (fL_share (nI s) y) (fX6_share (nI s) y) M := fun z => by
      refine E1 h (c := 2) (v := 0) (by omega) (by omega) ?_ ?_
      · unfold fL_share fX5_share
        rw [ci, Option.bind_some, if_pos rfl, show fX5_checkRange y 0 9999 M = some 1 from C_rng1 (a := 0) (b := 9999) (by omega) (by omega) (by omega) z, Option.bind_some]
        rfl
      · unfold fX6_share
        rw [H_ok hs, Option.bind_some, B_no (show y < 0 ∨ 9999 < y from z), Option.bind_some, G_2, Option.bind_some]
        rfl
    rcases rng y (a := 0) (b := 9999) (by omega) (by omega) with z | z | ⟨x, h1, h2, rfl⟩
    · exact bad (Or.inl z)
    · exact bad (Or.inr z)
    · refine R1 (v := nI (shr σ s x)) h ?_ ?_
      · unfold fL_share fX5_share
        rw [ci, Option.bind_some, if_pos rfl, show fX5_checkRange (nI x) 0 9999 M = some 0 from C_rng0 (a := 0) (b := 9999) (by omega) h1 h2, Option.bind_some, if_pos rfl, Lt0, C_sh_L hC hW hs h2 4 0 400 0 0 (by omega) (by omega) rfl rfl, Option.bind_some]
        rfl
      · have e := EM_43 (EM_103 hE (x := nI (shr σ s x)) (j := 0)) (x := nI 0) (j := 43) (by omega)
        unfold fX6_share
        rw [H_ok hs, Option.bind_some, show fX6_isBetween (nI x) 0 9999 (si M 103 0 (nI (shr σ s x))) = some 1 from B_ok (a := 0) (b := 9999) (by omega) h1 h2, Option.bind_some, G_ok, Option.bind_some]
        dsimp only
        rw [if_neg (by decide), Lt0, M_sh_L e hW hs h2 4 0 400 0 0 (by omega) (by omega) rfl rfl]
/-! the chain of the batches and the units -/
theorem dsj (hW : WF σ) (ho : OPN σ = 1) : ∀ (n b c : Nat), str σ b + str σ c < n → b < NB σ → c < NB σ → 1 ≤ ENT σ b → 1 ≤ ENT σ c → b ≠ c → str σ b + ENT σ b ≤ str σ c ∨ str σ c + ENT σ c ≤ str σ b
  | 0, b, c, h, _, _, _, _, _ => by omega
  | n + 1, b, c, h, hb, hc, eb, ec, hne => by
    have h40 := hW.1.2.2.1
    have hL := hW.2.2.2.2.2.2.2.2.1 ho
    have hO := hW.2.2.2.2.2.2.2.1 ho
    have key : ∀ b c, str σ b + str σ c < n + 1 → b < NB σ → c < NB σ → 1 ≤ ENT σ b → 1 ≤ ENT σ c → b ≠ c → str σ b ≤ str σ c → str σ b + ENT σ b ≤ str σ c ∨ str σ c + ENT σ c ≤ str σ b := by
      intro b c h hb hc eb ec hne hle
      have hlen : 5 ≤ LEN σ := by
        have := (len_b hW (hW.1.2.2.2.2.2.2.2.1 ho)).1
        rw [hO.1]; exact this
      have s0 : ∀ x, x ≠ 0 → LEN σ ≤ str σ x := fun x hx => by unfold str; rw [if_neg hx]; omega
      have z0 : str σ 0 = 0 := by unfold str; rw [if_pos rfl]
      have hc0 : c ≠ 0 := fun z => by
        subst z
        rw [z0] at hle
        have := s0 b hne
        omega
      have hca : AHD σ c ≠ 0 := fun z => by have := (hL.2.1 c (by omega) hc0).mp z; omega
      obtain ⟨k1, k2, k3, k4⟩ := hL.2.2.2.1 c (AHD σ c - 1) (by omega) (by omega)
      by_cases hab : AHD σ c - 1 = b
      · rw [hab] at k3
        exact Or.inl (by omega)
      · rcases dsj hW ho n b (AHD σ c - 1) (by omega) hb k1 eb k4 (fun z => hab z.symm) with q | q
        · exact Or.inl (by omega)
        · have heq : str σ b = str σ c := by omega
          have hb0 : b ≠ 0 := fun z => by
            subst z
            rw [z0] at heq
            have := s0 c hc0
            omega
          have hba : AHD σ b ≠ 0 := fun z => by have := (hL.2.1 b (by omega) hb0).mp z; omega
          obtain ⟨j1, j2, j3, j4⟩ := hL.2.2.2.1 b (AHD σ b - 1) (by omega) (by omega)
          by_cases haa : AHD σ b - 1 = AHD σ c - 1
          · rw [haa, k2] at j2
            omega
          · rcases dsj hW ho n (AHD σ b - 1) (AHD σ c - 1) (by omega) j1 k1 j4 k4 haa with r | r
            · omega
            · omega
    rcases Nat.le_total (str σ b) (str σ c) with q | q
    · exact key b c h hb hc eb ec hne q
    · rcases key c b (by omega) hc hb ec eb (fun z => hne z.symm) q with r | r
      · exact Or.inr r
      · exact Or.inl r
/-- ones, then noughts -/
theorem anti {f : Nat → Nat} : ∀ (m a : Nat), (∀ j, a ≤ j → j < a + m → f j = 0 ∨ f j = 1) → (∀ j, a ≤ j → j + 1 < a + m → f j = 0 → f (j + 1) = 0) → ∀ j, a ≤ j → j < a + m → (f j = 1 ↔ j < a + sm f a m)
  | 0, a, h1, h2, j, h3, h4 => by omega
  | m + 1, a, h1, h2, j, h3, h4 => by
    rw [sm_s]
    have ih := anti m (a + 1) (fun j q1 q2 => h1 j (by omega) (by omega)) (fun j q1 q2 => h2 j (by omega) (by omega))
    rcases h1 a (Nat.le_refl a) (by omega) with z | z
    · have all : ∀ t, a + t < a + (m + 1) → f (a + t) = 0 := by
        intro t
        induction t with
        | zero => intro _; exact z
        | succ t iht => intro ht; exact h2 (a + t) (by omega) (by omega) (iht (by omega))
      have hj := all (j - a) (by omega)
      rw [show a + (j - a) = j by omega] at hj
      have hs : sm f (a + 1) m = 0 := by
        have := sm_bound (f := f) (c := 0) (a := a + 1) (n := m) (fun k q1 q2 => by
          have := all (k - a) (by omega)
          rw [show a + (k - a) = k by omega] at this
          omega)
        omega
      rw [hj, z, hs]
      omega
    · rw [z]
      by_cases y : j = a
      · rw [y, z]
        omega
      · have := ih j (by omega) (by omega)
        rw [this]
        omega
end L77
