/-! THE LAW'S LOOP -/
section L80
variable {M : Mm}
theorem lc0 (x : Int64) : lg_cmp x x = 0 := by
  unfold lg_cmp
  rw [if_neg (by rw [gt_iff_lt, Int64.lt_iff_toInt_lt]; omega), if_pos rfl]
theorem J1 {f g : Mm → Option (Int32 × Mm)} (h : OK1 f g M) (K : Mm → Option Int32) (hK : ∀ N, INV N → K N = some 1) : ((f M).bind fun o2 => (g o2.2).bind fun o4 => (fX6_thrown o4.2).bind fun o5 => if o5 = o2.1 then (if o2.1 = 0 then (if ¬ ((0 : Int32) < 0 ∨ 1 ≤ (0 : Int32).toNatClampNeg) then (if lg_cmp (gi o4.2 103 (0 : Int32).toNatClampNeg).toInt64 o4.1.toInt64 = 0 then K o4.2 else some (0 : Int32)) else none) else K o4.2) else some (0 : Int32)) = some 1 := by
  obtain ⟨c, M1, v, M2, h1, h2, h3, h4, h5⟩ := h
  rw [h1, Option.bind_some]
  dsimp only
  rw [h2, Option.bind_some]
  unfold fX6_thrown
  rw [Option.bind_some]
  dsimp only
  rw [if_pos h3]
  by_cases z : c = 0
  · have hz : (0 : Int32).toNatClampNeg = 0 := rfl
    rw [if_pos z, hz, if_pos (by decide), h4 z, lc0, if_pos rfl]
    exact hK M2 h5
  · rw [if_neg z]
    exact hK M2 h5
theorem J0 {f : Mm → Option (Int32 × Mm)} {g : Mm → Option Mm} (h : OK0 f g M) (K : Mm → Option Int32) (hK : ∀ N, INV N → K N = some 1) : ((f M).bind fun o2 => (g o2.2).bind fun o4 => (fX6_thrown o4).bind fun o5 => if o5 = o2.1 then K o4 else some (0 : Int32)) = some 1 := by
  obtain ⟨c, M1, M2, h1, h2, h3, h5⟩ := h
  rw [h1, Option.bind_some]
  dsimp only
  rw [h2, Option.bind_some]
  unfold fX6_thrown
  rw [Option.bind_some, if_pos h3]
  exact hK M2 h5
theorem law_b132 {xs : Nat → Int32} {L t : Nat} (hL : L ≤ 3072) (ht : t + 6 ≤ L) (K : Int32 → Mm → Option Int32) (hK : ∀ N, INV N → K (nI (t + 6)) N = some 1) (h : INV M) : fL_law_b132 xs L K (nI t) M = some 1 := by
  obtain ⟨σ, l, d, o, hI⟩ := h
  have a1 : nI t + 1 = nI (t + 1) := by rw [show (1 : Int32) = nI 1 from rfl, cAdd]
  have c1 : (nI (t + 1)).toNatClampNeg = t + 1 := cCl (by omega)
  have g1 : ¬ (nI (t + 1) < 0 ∨ L ≤ t + 1) := g6 (by omega) (by omega)
  have a2 : nI t + 2 = nI (t + 2) := by rw [show (2 : Int32) = nI 2 from rfl, cAdd]
  have c2 : (nI (t + 2)).toNatClampNeg = t + 2 := cCl (by omega)
  have g2 : ¬ (nI (t + 2) < 0 ∨ L ≤ t + 2) := g6 (by omega) (by omega)
  have a3 : nI t + 3 = nI (t + 3) := by rw [show (3 : Int32) = nI 3 from rfl, cAdd]
  have c3 : (nI (t + 3)).toNatClampNeg = t + 3 := cCl (by omega)
  have g3 : ¬ (nI (t + 3) < 0 ∨ L ≤ t + 3) := g6 (by omega) (by omega)
  have a6 : nI t + 6 = nI (t + 6) := by rw [show (6 : Int32) = nI 6 from rfl, cAdd]
  unfold fL_law_b132
  simp only [a6, a1, c1, if_pos g1, a2, c2, if_pos g2, a3, c3, if_pos g3]
  exact J1 (W_segment hI (xs (t + 1)) (xs (t + 2)) (xs (t + 3))) _ hK
theorem law_b212 {xs : Nat → Int32} {L t : Nat} (hL : L ≤ 3072) (ht : t + 6 ≤ L) (K : Int32 → Mm → Option Int32) (hK : ∀ N, INV N → K (nI (t + 6)) N = some 1) (h : INV M) : fL_law_b212 xs L K (nI t) M = some 1 := by
  obtain ⟨σ, l, d, o, hI⟩ := h
  have a1 : nI t + 1 = nI (t + 1) := by rw [show (1 : Int32) = nI 1 from rfl, cAdd]
  have c1 : (nI (t + 1)).toNatClampNeg = t + 1 := cCl (by omega)
  have g1 : ¬ (nI (t + 1) < 0 ∨ L ≤ t + 1) := g6 (by omega) (by omega)
  have a2 : nI t + 2 = nI (t + 2) := by rw [show (2 : Int32) = nI 2 from rfl, cAdd]
  have c2 : (nI (t + 2)).toNatClampNeg = t + 2 := cCl (by omega)
  have g2 : ¬ (nI (t + 2) < 0 ∨ L ≤ t + 2) := g6 (by omega) (by omega)
  have a3 : nI t + 3 = nI (t + 3) := by rw [show (3 : Int32) = nI 3 from rfl, cAdd]
  have c3 : (nI (t + 3)).toNatClampNeg = t + 3 := cCl (by omega)
  have g3 : ¬ (nI (t + 3) < 0 ∨ L ≤ t + 3) := g6 (by omega) (by omega)
  have a4 : nI t + 4 = nI (t + 4) := by rw [show (4 : Int32) = nI 4 from rfl, cAdd]
  have c4 : (nI (t + 4)).toNatClampNeg = t + 4 := cCl (by omega)
  have g4 : ¬ (nI (t + 4) < 0 ∨ L ≤ t + 4) := g6 (by omega) (by omega)
  have a5 : nI t + 5 = nI (t + 5) := by rw [show (5 : Int32) = nI 5 from rfl, cAdd]
  have c5 : (nI (t + 5)).toNatClampNeg = t + 5 := cCl (by omega)
  have g5 : ¬ (nI (t + 5) < 0 ∨ L ≤ t + 5) := g6 (by omega) (by omega)
  have a6 : nI t + 6 = nI (t + 6) := by rw [show (6 : Int32) = nI 6 from rfl, cAdd]
  unfold fL_law_b212
  simp only [a6, a1, c1, if_pos g1, a2, c2, if_pos g2, a3, c3, if_pos g3, a4, c4, if_pos g4, a5, c5, if_pos g5]
  exact J0 (W_product hI (xs (t + 1)) (xs (t + 2)) (xs (t + 3)) (xs (t + 4)) (xs (t + 5))) _ hK
theorem law_b296 {xs : Nat → Int32} {L t : Nat} (hL : L ≤ 3072) (ht : t + 6 ≤ L) (K : Int32 → Mm → Option Int32) (hK : ∀ N, INV N → K (nI (t + 6)) N = some 1) (h : INV M) : fL_law_b296 xs L K (nI t) M = some 1 := by
  obtain ⟨σ, l, d, o, hI⟩ := h
  have a1 : nI t + 1 = nI (t + 1) := by rw [show (1 : Int32) = nI 1 from rfl, cAdd]
  have c1 : (nI (t + 1)).toNatClampNeg = t + 1 := cCl (by omega)
  have g1 : ¬ (nI (t + 1) < 0 ∨ L ≤ t + 1) := g6 (by omega) (by omega)
  have a6 : nI t + 6 = nI (t + 6) := by rw [show (6 : Int32) = nI 6 from rfl, cAdd]
  unfold fL_law_b296
  simp only [a6, a1, c1, if_pos g1]
  exact J1 (W_open hI (xs (t + 1))) _ hK
theorem law_b352 {xs : Nat → Int32} {L t : Nat} (hL : L ≤ 3072) (ht : t + 6 ≤ L) (K : Int32 → Mm → Option Int32) (hK : ∀ N, INV N → K (nI (t + 6)) N = some 1) (h : INV M) : fL_law_b352 xs L K (nI t) M = some 1 := by
  obtain ⟨σ, l, d, o, hI⟩ := h
  have a1 : nI t + 1 = nI (t + 1) := by rw [show (1 : Int32) = nI 1 from rfl, cAdd]
  have c1 : (nI (t + 1)).toNatClampNeg = t + 1 := cCl (by omega)
  have g1 : ¬ (nI (t + 1) < 0 ∨ L ≤ t + 1) := g6 (by omega) (by omega)
  have a2 : nI t + 2 = nI (t + 2) := by rw [show (2 : Int32) = nI 2 from rfl, cAdd]
  have c2 : (nI (t + 2)).toNatClampNeg = t + 2 := cCl (by omega)
  have g2 : ¬ (nI (t + 2) < 0 ∨ L ≤ t + 2) := g6 (by omega) (by omega)
  have a3 : nI t + 3 = nI (t + 3) := by rw [show (3 : Int32) = nI 3 from rfl, cAdd]
  have c3 : (nI (t + 3)).toNatClampNeg = t + 3 := cCl (by omega)
  have g3 : ¬ (nI (t + 3) < 0 ∨ L ≤ t + 3) := g6 (by omega) (by omega)
  have a6 : nI t + 6 = nI (t + 6) := by rw [show (6 : Int32) = nI 6 from rfl, cAdd]
  unfold fL_law_b352
  simp only [a6, a1, c1, if_pos g1, a2, c2, if_pos g2, a3, c3, if_pos g3]
  exact J1 (W_order hI (xs (t + 1)) (xs (t + 2)) (xs (t + 3))) _ hK
theorem law_b432 {xs : Nat → Int32} {L t : Nat} (hL : L ≤ 3072) (ht : t + 6 ≤ L) (K : Int32 → Mm → Option Int32) (hK : ∀ N, INV N → K (nI (t + 6)) N = some 1) (h : INV M) : fL_law_b432 xs L K (nI t) M = some 1 := by
  obtain ⟨σ, l, d, o, hI⟩ := h
  have a1 : nI t + 1 = nI (t + 1) := by rw [show (1 : Int32) = nI 1 from rfl, cAdd]
  have c1 : (nI (t + 1)).toNatClampNeg = t + 1 := cCl (by omega)
  have g1 : ¬ (nI (t + 1) < 0 ∨ L ≤ t + 1) := g6 (by omega) (by omega)
  have a6 : nI t + 6 = nI (t + 6) := by rw [show (6 : Int32) = nI 6 from rfl, cAdd]
  unfold fL_law_b432
  simp only [a6, a1, c1, if_pos g1]
  exact J1 (W_rate hI (xs (t + 1))) _ hK
theorem law_b488 {xs : Nat → Int32} {L t : Nat} (hL : L ≤ 3072) (ht : t + 6 ≤ L) (K : Int32 → Mm → Option Int32) (hK : ∀ N, INV N → K (nI (t + 6)) N = some 1) (h : INV M) : fL_law_b488 xs L K (nI t) M = some 1 := by
  obtain ⟨σ, l, d, o, hI⟩ := h
  have a1 : nI t + 1 = nI (t + 1) := by rw [show (1 : Int32) = nI 1 from rfl, cAdd]
  have c1 : (nI (t + 1)).toNatClampNeg = t + 1 := cCl (by omega)
  have g1 : ¬ (nI (t + 1) < 0 ∨ L ≤ t + 1) := g6 (by omega) (by omega)
  have a2 : nI t + 2 = nI (t + 2) := by rw [show (2 : Int32) = nI 2 from rfl, cAdd]
  have c2 : (nI (t + 2)).toNatClampNeg = t + 2 := cCl (by omega)
  have g2 : ¬ (nI (t + 2) < 0 ∨ L ≤ t + 2) := g6 (by omega) (by omega)
  have a3 : nI t + 3 = nI (t + 3) := by rw [show (3 : Int32) = nI 3 from rfl, cAdd]
  have c3 : (nI (t + 3)).toNatClampNeg = t + 3 := cCl (by omega)
  have g3 : ¬ (nI (t + 3) < 0 ∨ L ≤ t + 3) := g6 (by omega) (by omega)
  have a6 : nI t + 6 = nI (t + 6) := by rw [show (6 : Int32) = nI 6 from rfl, cAdd]
  unfold fL_law_b488
  simp only [a6, a1, c1, if_pos g1, a2, c2, if_pos g2, a3, c3, if_pos g3]
  exact J0 (W_drop hI (xs (t + 1)) (xs (t + 2)) (xs (t + 3))) _ hK
theorem law_b548 {xs : Nat → Int32} {L t : Nat} (hL : L ≤ 3072) (ht : t + 6 ≤ L) (K : Int32 → Mm → Option Int32) (hK : ∀ N, INV N → K (nI (t + 6)) N = some 1) (h : INV M) : fL_law_b548 xs L K (nI t) M = some 1 := by
  obtain ⟨σ, l, d, o, hI⟩ := h
  have a1 : nI t + 1 = nI (t + 1) := by rw [show (1 : Int32) = nI 1 from rfl, cAdd]
  have c1 : (nI (t + 1)).toNatClampNeg = t + 1 := cCl (by omega)
  have g1 : ¬ (nI (t + 1) < 0 ∨ L ≤ t + 1) := g6 (by omega) (by omega)
  have a2 : nI t + 2 = nI (t + 2) := by rw [show (2 : Int32) = nI 2 from rfl, cAdd]
  have c2 : (nI (t + 2)).toNatClampNeg = t + 2 := cCl (by omega)
  have g2 : ¬ (nI (t + 2) < 0 ∨ L ≤ t + 2) := g6 (by omega) (by omega)
  have a6 : nI t + 6 = nI (t + 6) := by rw [show (6 : Int32) = nI 6 from rfl, cAdd]
  unfold fL_law_b548
  simp only [a6, a1, c1, if_pos g1, a2, c2, if_pos g2]
  exact J0 (W_leak hI (xs (t + 1)) (xs (t + 2))) _ hK
theorem law_b596 {xs : Nat → Int32} {L t : Nat} (hL : L ≤ 3072) (ht : t + 6 ≤ L) (K : Int32 → Mm → Option Int32) (hK : ∀ N, INV N → K (nI (t + 6)) N = some 1) (h : INV M) : fL_law_b596 xs L K (nI t) M = some 1 := by
  obtain ⟨σ, l, d, o, hI⟩ := h
  have a1 : nI t + 1 = nI (t + 1) := by rw [show (1 : Int32) = nI 1 from rfl, cAdd]
  have c1 : (nI (t + 1)).toNatClampNeg = t + 1 := cCl (by omega)
  have g1 : ¬ (nI (t + 1) < 0 ∨ L ≤ t + 1) := g6 (by omega) (by omega)
  have a6 : nI t + 6 = nI (t + 6) := by rw [show (6 : Int32) = nI 6 from rfl, cAdd]
  unfold fL_law_b596
  simp only [a6, a1, c1, if_pos g1]
  exact J1 (W_receive hI (xs (t + 1))) _ hK
theorem law_b652 {xs : Nat → Int32} {L t : Nat} (hL : L ≤ 3072) (ht : t + 6 ≤ L) (K : Int32 → Mm → Option Int32) (hK : ∀ N, INV N → K (nI (t + 6)) N = some 1) (h : INV M) : fL_law_b652 xs L K (nI t) M = some 1 := by
  obtain ⟨σ, l, d, o, hI⟩ := h
  have a1 : nI t + 1 = nI (t + 1) := by rw [show (1 : Int32) = nI 1 from rfl, cAdd]
  have c1 : (nI (t + 1)).toNatClampNeg = t + 1 := cCl (by omega)
  have g1 : ¬ (nI (t + 1) < 0 ∨ L ≤ t + 1) := g6 (by omega) (by omega)
  have a6 : nI t + 6 = nI (t + 6) := by rw [show (6 : Int32) = nI 6 from rfl, cAdd]
  unfold fL_law_b652
  simp only [a6, a1, c1, if_pos g1]
  exact J1 (W_empty hI (xs (t + 1))) _ hK
theorem law_b708 {xs : Nat → Int32} {L t : Nat} (hL : L ≤ 3072) (ht : t + 6 ≤ L) (K : Int32 → Mm → Option Int32) (hK : ∀ N, INV N → K (nI (t + 6)) N = some 1) (h : INV M) : fL_law_b708 xs L K (nI t) M = some 1 := by
  obtain ⟨σ, l, d, o, hI⟩ := h
  have a6 : nI t + 6 = nI (t + 6) := by rw [show (6 : Int32) = nI 6 from rfl, cAdd]
  unfold fL_law_b708
  simp only [a6]
  exact J0 (W_launch hI) _ hK
theorem law_b732 {xs : Nat → Int32} {L t : Nat} (hL : L ≤ 3072) (ht : t + 6 ≤ L) (K : Int32 → Mm → Option Int32) (hK : ∀ N, INV N → K (nI (t + 6)) N = some 1) (h : INV M) : fL_law_b732 xs L K (nI t) M = some 1 := by
  obtain ⟨σ, l, d, o, hI⟩ := h
  have a1 : nI t + 1 = nI (t + 1) := by rw [show (1 : Int32) = nI 1 from rfl, cAdd]
  have c1 : (nI (t + 1)).toNatClampNeg = t + 1 := cCl (by omega)
  have g1 : ¬ (nI (t + 1) < 0 ∨ L ≤ t + 1) := g6 (by omega) (by omega)
  have a6 : nI t + 6 = nI (t + 6) := by rw [show (6 : Int32) = nI 6 from rfl, cAdd]
  unfold fL_law_b732
  simp only [a6, a1, c1, if_pos g1]
  exact J1 (W_pass hI (xs (t + 1))) _ hK
theorem law_b788 {xs : Nat → Int32} {L t : Nat} (hL : L ≤ 3072) (ht : t + 6 ≤ L) (K : Int32 → Mm → Option Int32) (hK : ∀ N, INV N → K (nI (t + 6)) N = some 1) (h : INV M) : fL_law_b788 xs L K (nI t) M = some 1 := by
  obtain ⟨σ, l, d, o, hI⟩ := h
  have a1 : nI t + 1 = nI (t + 1) := by rw [show (1 : Int32) = nI 1 from rfl, cAdd]
  have c1 : (nI (t + 1)).toNatClampNeg = t + 1 := cCl (by omega)
  have g1 : ¬ (nI (t + 1) < 0 ∨ L ≤ t + 1) := g6 (by omega) (by omega)
  have a2 : nI t + 2 = nI (t + 2) := by rw [show (2 : Int32) = nI 2 from rfl, cAdd]
  have c2 : (nI (t + 2)).toNatClampNeg = t + 2 := cCl (by omega)
  have g2 : ¬ (nI (t + 2) < 0 ∨ L ≤ t + 2) := g6 (by omega) (by omega)
  have a6 : nI t + 6 = nI (t + 6) := by rw [show (6 : Int32) = nI 6 from rfl, cAdd]
  unfold fL_law_b788
  simp only [a6, a1, c1, if_pos g1, a2, c2, if_pos g2]
  exact J1 (W_batch hI (xs (t + 1)) (xs (t + 2))) _ hK
theorem law_b856 {xs : Nat → Int32} {L t : Nat} (hL : L ≤ 3072) (ht : t + 6 ≤ L) (K : Int32 → Mm → Option Int32) (hK : ∀ N, INV N → K (nI (t + 6)) N = some 1) (h : INV M) : fL_law_b856 xs L K (nI t) M = some 1 := by
  obtain ⟨σ, l, d, o, hI⟩ := h
  have a1 : nI t + 1 = nI (t + 1) := by rw [show (1 : Int32) = nI 1 from rfl, cAdd]
  have c1 : (nI (t + 1)).toNatClampNeg = t + 1 := cCl (by omega)
  have g1 : ¬ (nI (t + 1) < 0 ∨ L ≤ t + 1) := g6 (by omega) (by omega)
  have a6 : nI t + 6 = nI (t + 6) := by rw [show (6 : Int32) = nI 6 from rfl, cAdd]
  unfold fL_law_b856
  simp only [a6, a1, c1, if_pos g1]
  exact J1 (W_unit hI (xs (t + 1))) _ hK
theorem law_b912 {xs : Nat → Int32} {L t : Nat} (hL : L ≤ 3072) (ht : t + 6 ≤ L) (K : Int32 → Mm → Option Int32) (hK : ∀ N, INV N → K (nI (t + 6)) N = some 1) (h : INV M) : fL_law_b912 xs L K (nI t) M = some 1 := by
  obtain ⟨σ, l, d, o, hI⟩ := h
  have a1 : nI t + 1 = nI (t + 1) := by rw [show (1 : Int32) = nI 1 from rfl, cAdd]
  have c1 : (nI (t + 1)).toNatClampNeg = t + 1 := cCl (by omega)
  have g1 : ¬ (nI (t + 1) < 0 ∨ L ≤ t + 1) := g6 (by omega) (by omega)
  have a6 : nI t + 6 = nI (t + 6) := by rw [show (6 : Int32) = nI 6 from rfl, cAdd]
  unfold fL_law_b912
  simp only [a6, a1, c1, if_pos g1]
  exact J1 (W_unitAnew hI (xs (t + 1))) _ hK
theorem law_b968 {xs : Nat → Int32} {L t : Nat} (hL : L ≤ 3072) (ht : t + 6 ≤ L) (K : Int32 → Mm → Option Int32) (hK : ∀ N, INV N → K (nI (t + 6)) N = some 1) (h : INV M) : fL_law_b968 xs L K (nI t) M = some 1 := by
  obtain ⟨σ, l, d, o, hI⟩ := h
  have a1 : nI t + 1 = nI (t + 1) := by rw [show (1 : Int32) = nI 1 from rfl, cAdd]
  have c1 : (nI (t + 1)).toNatClampNeg = t + 1 := cCl (by omega)
  have g1 : ¬ (nI (t + 1) < 0 ∨ L ≤ t + 1) := g6 (by omega) (by omega)
  have a2 : nI t + 2 = nI (t + 2) := by rw [show (2 : Int32) = nI 2 from rfl, cAdd]
  have c2 : (nI (t + 2)).toNatClampNeg = t + 2 := cCl (by omega)
  have g2 : ¬ (nI (t + 2) < 0 ∨ L ≤ t + 2) := g6 (by omega) (by omega)
  have a6 : nI t + 6 = nI (t + 6) := by rw [show (6 : Int32) = nI 6 from rfl, cAdd]
  unfold fL_law_b968
  simp only [a6, a1, c1, if_pos g1, a2, c2, if_pos g2]
  exact J1 (W_pressure hI (xs (t + 1)) (xs (t + 2))) _ hK
theorem law_b1036 {xs : Nat → Int32} {L t : Nat} (hL : L ≤ 3072) (ht : t + 6 ≤ L) (K : Int32 → Mm → Option Int32) (hK : ∀ N, INV N → K (nI (t + 6)) N = some 1) (h : INV M) : fL_law_b1036 xs L K (nI t) M = some 1 := by
  obtain ⟨σ, l, d, o, hI⟩ := h
  have a1 : nI t + 1 = nI (t + 1) := by rw [show (1 : Int32) = nI 1 from rfl, cAdd]
  have c1 : (nI (t + 1)).toNatClampNeg = t + 1 := cCl (by omega)
  have g1 : ¬ (nI (t + 1) < 0 ∨ L ≤ t + 1) := g6 (by omega) (by omega)
  have a2 : nI t + 2 = nI (t + 2) := by rw [show (2 : Int32) = nI 2 from rfl, cAdd]
  have c2 : (nI (t + 2)).toNatClampNeg = t + 2 := cCl (by omega)
  have g2 : ¬ (nI (t + 2) < 0 ∨ L ≤ t + 2) := g6 (by omega) (by omega)
  have a6 : nI t + 6 = nI (t + 6) := by rw [show (6 : Int32) = nI 6 from rfl, cAdd]
  unfold fL_law_b1036
  simp only [a6, a1, c1, if_pos g1, a2, c2, if_pos g2]
  exact J1 (W_tank hI (xs (t + 1)) (xs (t + 2))) _ hK
theorem law_b1104 {xs : Nat → Int32} {L t : Nat} (hL : L ≤ 3072) (ht : t + 6 ≤ L) (K : Int32 → Mm → Option Int32) (hK : ∀ N, INV N → K (nI (t + 6)) N = some 1) (h : INV M) : fL_law_b1104 xs L K (nI t) M = some 1 := by
  obtain ⟨σ, l, d, o, hI⟩ := h
  have a1 : nI t + 1 = nI (t + 1) := by rw [show (1 : Int32) = nI 1 from rfl, cAdd]
  have c1 : (nI (t + 1)).toNatClampNeg = t + 1 := cCl (by omega)
  have g1 : ¬ (nI (t + 1) < 0 ∨ L ≤ t + 1) := g6 (by omega) (by omega)
  have a6 : nI t + 6 = nI (t + 6) := by rw [show (6 : Int32) = nI 6 from rfl, cAdd]
  unfold fL_law_b1104
  simp only [a6, a1, c1, if_pos g1]
  exact J1 (W_pipe hI (xs (t + 1))) _ hK
theorem law_b1160 {xs : Nat → Int32} {L t : Nat} (hL : L ≤ 3072) (ht : t + 6 ≤ L) (K : Int32 → Mm → Option Int32) (hK : ∀ N, INV N → K (nI (t + 6)) N = some 1) (h : INV M) : fL_law_b1160 xs L K (nI t) M = some 1 := by
  obtain ⟨σ, l, d, o, hI⟩ := h
  have a1 : nI t + 1 = nI (t + 1) := by rw [show (1 : Int32) = nI 1 from rfl, cAdd]
  have c1 : (nI (t + 1)).toNatClampNeg = t + 1 := cCl (by omega)
  have g1 : ¬ (nI (t + 1) < 0 ∨ L ≤ t + 1) := g6 (by omega) (by omega)
  have a6 : nI t + 6 = nI (t + 6) := by rw [show (6 : Int32) = nI 6 from rfl, cAdd]
  unfold fL_law_b1160
  simp only [a6, a1, c1, if_pos g1]
  exact J1 (W_dirt hI (xs (t + 1))) _ hK
theorem law_b1216 {xs : Nat → Int32} {L t : Nat} (hL : L ≤ 3072) (ht : t + 6 ≤ L) (K : Int32 → Mm → Option Int32) (hK : ∀ N, INV N → K (nI (t + 6)) N = some 1) (h : INV M) : fL_law_b1216 xs L K (nI t) M = some 1 := by
  obtain ⟨σ, l, d, o, hI⟩ := h
  have a1 : nI t + 1 = nI (t + 1) := by rw [show (1 : Int32) = nI 1 from rfl, cAdd]
  have c1 : (nI (t + 1)).toNatClampNeg = t + 1 := cCl (by omega)
  have g1 : ¬ (nI (t + 1) < 0 ∨ L ≤ t + 1) := g6 (by omega) (by omega)
  have a2 : nI t + 2 = nI (t + 2) := by rw [show (2 : Int32) = nI 2 from rfl, cAdd]
  have c2 : (nI (t + 2)).toNatClampNeg = t + 2 := cCl (by omega)
  have g2 : ¬ (nI (t + 2) < 0 ∨ L ≤ t + 2) := g6 (by omega) (by omega)
  have a6 : nI t + 6 = nI (t + 6) := by rw [show (6 : Int32) = nI 6 from rfl, cAdd]
  unfold fL_law_b1216
  simp only [a6, a1, c1, if_pos g1, a2, c2, if_pos g2]
  exact J1 (W_share hI (xs (t + 1)) (xs (t + 2))) _ hK
theorem ite_1 {c : Prop} [Decidable c] {A B : Option Int32} (h1 : A = some 1) (h2 : B = some 1) : (if c then A else B) = some 1 := by
  by_cases z : c
  · rw [if_pos z]; exact h1
  · rw [if_neg z]; exact h2
theorem ctr {L t : Nat} (hL : L ≤ 3072) (ht : t < 100000) : (Int32.ofNat L - 6 < nI t) ↔ L < t + 6 := by
  have e : (Int32.ofNat L - 6 : Int32).toInt = (L : Int) - 6 := by
    show (nI L - nI 6).toInt = _
    rw [pk_sub_toInt (by omega) (by omega)]
    rfl
  rw [Int32.lt_iff_toInt_lt, e, nI_toInt (by omega)]
  omega
theorem law_all {xs : Nat → Int32} {L : Nat} (hL : L ≤ 3072) : ∀ (n t : Nat) (M : Mm), L < t + 6 * n → 0 < n → t < 50000 → INV M → fL_law_L23 xs L n (nI t) M = some 1 := by
  intro n
  induction n with
  | zero =>
    intro t M h1 h2
    omega
  | succ n ih =>
    intro t M h1 h0 h2 h3
    rw [fL_law_L23]
    dsimp only
    by_cases z : L < t + 6
    · rw [if_pos ((ctr hL (by omega)).mpr z)]
    · have ht : t + 6 ≤ L := by omega
      have g := g6 (show t < L by omega) (show L < 2147483648 by omega)
      have hK : ∀ N, INV N → fL_law_L23 xs L n (nI (t + 6)) N = some 1 := fun N hN => ih (t + 6) N (by omega) (by omega) (by omega) hN
      have a6 : nI t + 6 = nI (t + 6) := by rw [show (6 : Int32) = nI 6 from rfl, cAdd]
      rw [if_neg (fun q => z ((ctr hL (by omega)).mp q)), cCl (show t < 2147483648 by omega), if_pos g]
      refine ite_1 (law_b132 hL ht _ hK h3) ?_
      refine ite_1 (law_b212 hL ht _ hK h3) ?_
      refine ite_1 (law_b296 hL ht _ hK h3) ?_
      refine ite_1 (law_b352 hL ht _ hK h3) ?_
      refine ite_1 (law_b432 hL ht _ hK h3) ?_
      refine ite_1 (law_b488 hL ht _ hK h3) ?_
      refine ite_1 (law_b548 hL ht _ hK h3) ?_
      refine ite_1 (law_b596 hL ht _ hK h3) ?_
      refine ite_1 (law_b652 hL ht _ hK h3) ?_
      refine ite_1 (law_b708 hL ht _ hK h3) ?_
      refine ite_1 (law_b732 hL ht _ hK h3) ?_
      refine ite_1 (law_b788 hL ht _ hK h3) ?_
      refine ite_1 (law_b856 hL ht _ hK h3) ?_
      refine ite_1 (law_b912 hL ht _ hK h3) ?_
      refine ite_1 (law_b968 hL ht _ hK h3) ?_
      refine ite_1 (law_b1036 hL ht _ hK h3) ?_
      refine ite_1 (law_b1104 hL ht _ hK h3) ?_
      refine ite_1 (law_b1160 hL ht _ hK h3) ?_
      refine ite_1 (law_b1216 hL ht _ hK h3) ?_
      rw [a6]
      exact hK M h3
end L80
