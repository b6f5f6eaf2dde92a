/-! THE CLASS'S FUNCTIONS THAT ONLY READ, over a state that the cells hold -/
theorem rng (x : Int32) {a b : Nat} (ha : a < 2147483648) (hb : b < 2147483648) : x < nI a ∨ nI b < x ∨ ∃ j : Nat, a ≤ j ∧ j ≤ b ∧ x = nI j := by
  by_cases h1 : x < nI a
  · exact Or.inl h1
  · by_cases h2 : nI b < x
    · exact Or.inr (Or.inl h2)
    · rw [Int32.lt_iff_toInt_lt, nI_toInt ha] at h1
      rw [Int32.lt_iff_toInt_lt, nI_toInt hb] at h2
      refine Or.inr (Or.inr ⟨x.toInt.toNat, by omega, by omega, ?_⟩)
      apply Int32.toInt_inj.mp
      rw [nI_toInt (by omega)]
      omega
theorem lt_tr {x : Int32} {a b : Nat} (ha : a < 2147483648) (hb : b < 2147483648) (h : nI b < x) (hab : a ≤ b) : ¬ x < nI a ∧ nI a < x ∧ ¬ x ≤ nI b ∧ nI a ≤ x ∧ ¬ x = nI a := by
  rw [Int32.lt_iff_toInt_lt, nI_toInt hb] at h
  refine ⟨?_, ?_, ?_, ?_, ?_⟩
  · rw [Int32.lt_iff_toInt_lt, nI_toInt ha]; omega
  · rw [Int32.lt_iff_toInt_lt, nI_toInt ha]; omega
  · rw [Int32.le_iff_toInt_le, nI_toInt hb]; omega
  · rw [Int32.le_iff_toInt_le, nI_toInt ha]; omega
  · intro e; rw [e, nI_toInt ha] at h; omega
theorem not_lt_le {x y : Int32} (h : x < y) : ¬ y ≤ x := by
  rw [Int32.lt_iff_toInt_lt] at h
  rw [Int32.le_iff_toInt_le]; omega
theorem C_rng0 {a b j : Nat} {M : Mm} (hb : b < 2147483648) (h1 : a ≤ j) (h2 : j ≤ b) : fX5_checkRange (nI j) (nI a) (nI b) M = some 0 := by
  simp (disch := omega) only [fX5_checkRange, cLt, cLe, cEq, cCl, cAdd, cMul, cMl, cMe, cMle, cMm, Lt0, Lt1, Lt2, Lt3, Lt4, Lt5, Lt6, Lt7, Lt8, Lt9, Lt10, Lt31, Lt40, Lt50, Lt60, Lt63, Lt99, Lt100, Lt128, Lt200, Lt360, Lt500, Lt512, Lt9999, Lm, if_true, if_false, if_pos, if_neg, Option.bind_some]
theorem C_rng1 {x : Int32} {a b : Nat} {M : Mm} (ha : a < 2147483648) (hb : b < 2147483648) (hab : a ≤ b) (h : x < nI a ∨ nI b < x) : fX5_checkRange x (nI a) (nI b) M = some 1 := by
  unfold fX5_checkRange
  rcases h with h | h
  · rw [if_pos h]
  · obtain ⟨h1, h2, h3, h4, h5⟩ := lt_tr ha hb h hab
    rw [if_neg h1, if_neg h3]
theorem C_idx0 {n j : Nat} {M : Mm} (hn : n < 2147483648) (h : j < n) : fX5_checkIndex (nI j) (nI n) M = some 0 := by
  simp (disch := omega) only [fX5_checkIndex, cLt, cLe, cEq, cCl, cAdd, cMul, cMl, cMe, cMle, cMm, Lt0, Lt1, Lt2, Lt3, Lt4, Lt5, Lt6, Lt7, Lt8, Lt9, Lt10, Lt31, Lt40, Lt50, Lt60, Lt63, Lt99, Lt100, Lt128, Lt200, Lt360, Lt500, Lt512, Lt9999, Lm, if_true, if_false, if_pos, if_neg, Option.bind_some]
theorem C_idx3 {x : Int32} {n : Nat} {M : Mm} (h : x < nI 0 ∨ nI n ≤ x) : fX5_checkIndex x (nI n) M = some 3 := by
  unfold fX5_checkIndex
  by_cases h0 : x < 0
  · rw [if_pos h0]
  · rw [if_neg h0]
    rcases h with h | h
    · exact absurd h h0
    · rw [if_neg (fun q => absurd h (not_lt_le q))]
theorem idx (x : Int32) {n : Nat} (hn : n < 2147483648) : (x < nI 0 ∨ nI n ≤ x) ∨ ∃ j : Nat, j < n ∧ x = nI j := by
  rcases pk_ix x hn with h | h | h
  · exact Or.inl (Or.inl h)
  · exact Or.inl (Or.inr h)
  · exact Or.inr h
section CR
variable {σ : Sp} {M : Mm} {l d o : Nat}
theorem off_le (hN : ∀ i, i < NS σ → HOL σ i ≤ 60) (h6 : NS σ ≤ 6) (s : Nat) : off σ s ≤ 360 := by
  unfold off
  have := sm_bound (f := HOL σ) (c := 60) (a := s + 1) (n := NS σ - 1 - s) (fun k h1 h2 => hN k (by omega))
  have : (NS σ - 1 - s) * 60 ≤ 6 * 60 := Nat.mul_le_mul_right 60 (by omega)
  omega
theorem off_s {s : Nat} (h : s < NS σ) : off σ s + HOL σ s = sm (HOL σ) s (NS σ - s) := by
  unfold off
  rw [show NS σ - s = (NS σ - 1 - s) + 1 by omega, sm_s]
  omega
theorem off_p {s : Nat} (h : s + 1 < NS σ) : off σ s = off σ (s + 1) + HOL σ (s + 1) := by
  unfold off
  rw [show NS σ - 1 - s = (NS σ - 1 - (s + 1)) + 1 by omega, sm_s]
  omega
theorem off_last : off σ (NS σ - 1) = 0 := by
  unfold off
  rw [show NS σ - 1 - (NS σ - 1) = 0 by omega, sm_0]
theorem off_in (hL : LEN σ = sm (HOL σ) 0 (NS σ)) {s : Nat} (h : s < NS σ) : off σ s + HOL σ s ≤ LEN σ := by
  have h1 := off_s h
  rw [hL, show NS σ = s + (NS σ - s) by omega, sm_app, Nat.zero_add]
  omega
theorem rix_lt {i j : Nat} (h1 : LA σ i < HOL σ i) (h2 : j < HOL σ i) : rix σ i j < HOL σ i := by
  unfold rix
  split <;> omega
theorem C_fromEnd (hS : ES σ M) (hR : ER σ M) (hW : WS σ) (ho : OPN σ = 1) (h6 : NS σ ≤ 6) {i j : Nat} (hi : i < NS σ) (hj : j < HOL σ i) : fX2_fromEnd i (nI j) M = some (nI (cod (UB σ (off σ i + j)) (UP σ (off σ i + j)))) := by
  obtain ⟨h1, h2, h3⟩ := hS i (by omega)
  obtain ⟨a1, a2, a3⟩ := h1 hi
  obtain ⟨w1, w2, w3, w4, w5, w6⟩ := hW.1 i hi
  have hr := hR ho i hi j hj
  have hx := rix_lt w6 hj
  unfold rix at hr hx
  unfold fX2_fromEnd fX2_fromEnd_b22
  by_cases c : LA σ i + j < HOL σ i
  · rw [if_pos c] at hr
    simp (disch := omega) only [h3, a1, hr, cLt, cLe, cEq, cCl, cAdd, cMul, cMl, cMe, cMle, cMm, Lt0, Lt1, Lt2, Lt3, Lt4, Lt5, Lt6, Lt7, Lt8, Lt9, Lt10, Lt31, Lt40, Lt50, Lt60, Lt63, Lt99, Lt100, Lt128, Lt200, Lt360, Lt500, Lt512, Lt9999, Lm, if_true, if_false, if_pos, if_neg, Option.bind_some]
  · rw [if_neg c] at hr
    simp (disch := omega) only [h3, a1, cSub, hr, cLt, cLe, cEq, cCl, cAdd, cMul, cMl, cMe, cMle, cMm, Lt0, Lt1, Lt2, Lt3, Lt4, Lt5, Lt6, Lt7, Lt8, Lt9, Lt10, Lt31, Lt40, Lt50, Lt60, Lt63, Lt99, Lt100, Lt128, Lt200, Lt360, Lt500, Lt512, Lt9999, Lm, if_true, if_false, if_pos, if_neg, Option.bind_some]
theorem cod_div {b p : Nat} (h : p < 512) : cod b p / 512 = b := by unfold cod; omega
theorem cod_mod {b p : Nat} (h : p < 512) : cod b p % 512 = p := by unfold cod; omega
theorem C_batchOf (hP : EP σ M) {b p : Nat} (hb : b < NB σ) (hN : NB σ ≤ 40) (hp : p < 512) : fX5_batchOf (nI (cod b p)) M = some (some b) := by
  obtain ⟨-, h9, -⟩ := hP
  have e1 : cod b p < 2147483648 := by unfold cod; omega
  unfold fX5_batchOf
  simp (disch := omega) only [h9, cDiv, cod_div hp, cLt, cLe, cEq, cCl, cAdd, cMul, cMl, cMe, cMle, cMm, Lt0, Lt1, Lt2, Lt3, Lt4, Lt5, Lt6, Lt7, Lt8, Lt9, Lt10, Lt31, Lt40, Lt50, Lt60, Lt63, Lt99, Lt100, Lt128, Lt200, Lt360, Lt500, Lt512, Lt9999, Lm, if_true, if_false, if_pos, if_neg, Option.bind_some]
theorem C_placeOf {b p : Nat} (hb : b < 40) (hp : p < 512) : fX5_placeOf (nI (cod b p)) M = some (nI p) := by
  have e1 : cod b p < 2147483648 := by unfold cod; omega
  unfold fX5_placeOf
  simp (disch := omega) only [cRem, cod_mod hp, cLt, cLe, cEq, cCl, cAdd, cMul, cMl, cMe, cMle, cMm, Lt0, Lt1, Lt2, Lt3, Lt4, Lt5, Lt6, Lt7, Lt8, Lt9, Lt10, Lt31, Lt40, Lt50, Lt60, Lt63, Lt99, Lt100, Lt128, Lt200, Lt360, Lt500, Lt512, Lt9999, Lm, if_true, if_false, if_pos, if_neg, Option.bind_some]
theorem C_waiting (h1 : EB1 σ M) (h3 : EB3 σ M) (hW : WB σ) {b : Nat} (hb : b < NB σ) (hN : NB σ ≤ 40) : fX0_waiting b M = some (nI (ORD σ b - ENT σ b)) := by
  obtain ⟨-, e4, -⟩ := h1 b (by omega)
  obtain ⟨e3, -⟩ := h3 b hb
  obtain ⟨-, w2, -⟩ := hW.1 b hb
  unfold fX0_waiting
  simp (disch := omega) only [e3, e4, cSub, cLt, cLe, cEq, cCl, cAdd, cMul, cMl, cMe, cMle, cMm, Lt0, Lt1, Lt2, Lt3, Lt4, Lt5, Lt6, Lt7, Lt8, Lt9, Lt10, Lt31, Lt40, Lt50, Lt60, Lt63, Lt99, Lt100, Lt128, Lt200, Lt360, Lt500, Lt512, Lt9999, Lm, if_true, if_false, if_pos, if_neg, Option.bind_some]
theorem C_inPipe (h1 : EB1 σ M) (hW : WB σ) {b : Nat} (hb : b < 40) : fX0_inPipe b M = some (nI (ENT σ b - LEF σ b - DRO σ b - LEA σ b)) := by
  obtain ⟨-, e4, e5, e6, e7, -⟩ := h1 b hb
  obtain ⟨w1, w2, -⟩ := hW.2 b hb
  unfold fX0_inPipe
  simp (disch := omega) only [e4, e5, e6, e7, cSub, cLt, cLe, cEq, cCl, cAdd, cMul, cMl, cMe, cMle, cMm, Lt0, Lt1, Lt2, Lt3, Lt4, Lt5, Lt6, Lt7, Lt8, Lt9, Lt10, Lt31, Lt40, Lt50, Lt60, Lt63, Lt99, Lt100, Lt128, Lt200, Lt360, Lt500, Lt512, Lt9999, Lm, if_true, if_false, if_pos, if_neg, Option.bind_some]
theorem bit_dec : ∀ n, n < 64 → ∀ j, j < 6 → ((n &&& 2 ^ j = 0) ↔ n.testBit j = false) := by decide +kernel
theorem bit_z {n j : Nat} (hn : n < 64) (hj : j < 6) : ((nI n &&& ishl (nI 1) (nI j)) = nI 0) = (n.testBit j = false) := by
  have h : ishl (nI 1) (nI j) = nI (2 ^ j) := by
    unfold ishl
    rcases (show j = 0 ∨ j = 1 ∨ j = 2 ∨ j = 3 ∨ j = 4 ∨ j = 5 by omega) with rfl | rfl | rfl | rfl | rfl | rfl <;> decide
  rw [h, show nI n &&& nI (2 ^ j) = nI (n &&& 2 ^ j) from ?_, show nI 0 = nI 0 from rfl]
  · rw [cEq (by have := Nat.and_le_left (n := n) (m := 2 ^ j); omega) (by omega)]
    exact propext (bit_dec n hn j hj)
  · apply Int32.toBitVec_inj.mp
    simp [nI, BitVec.ofNat_and]
theorem C_bears (hG : EG σ M) (hW : WG σ) {p q : Nat} (hp : p < 6) (hq : q < 6) : fX1_bears p q M = some (nI (if (!(BAR σ p).testBit q && !(BAR σ q).testBit p) = true then 1 else 0)) := by
  obtain ⟨a0, -, -, -, a4⟩ := hG p hp
  obtain ⟨b0, -, -, -, b4⟩ := hG q hq
  obtain ⟨-, -, -, -, -, w1⟩ := hW p hp
  obtain ⟨-, -, -, -, -, w2⟩ := hW q hq
  unfold fX1_bears
  simp (disch := omega) only [a0, a4, b0, b4, Lt0, Lt1, Lt2, Lt3, Lt4, Lt5, Lt6, Lt7, Lt8, Lt9, Lt10, Lt31, Lt40, Lt50, Lt60, Lt63, Lt99, Lt100, Lt128, Lt200, Lt360, Lt500, Lt512, Lt9999, Lm, bit_z, if_true, if_false, if_pos, if_neg, Option.bind_some]
  cases (BAR σ p).testBit q <;> cases (BAR σ q).testBit p <;> simp
theorem C_takesMore0 (hT : ET σ l d o M) (hW : WT' σ) (hN : NS σ ≤ 6) (hl : l ≤ 10) : fX4_takesMore 0 M = some (nI (if LK σ ≠ 0 ∧ l < LKU σ then 1 else 0)) := by
  obtain ⟨t0, t1, t3, -⟩ := hT
  obtain ⟨w1, w2, -⟩ := hW
  unfold fX4_takesMore
  by_cases h : LK σ = 0
  · simp (disch := omega) only [t0, h, nO_0, cLt, cLe, cEq, cCl, cAdd, cMul, cMl, cMe, cMle, cMm, Lt0, Lt1, Lt2, Lt3, Lt4, Lt5, Lt6, Lt7, Lt8, Lt9, Lt10, Lt31, Lt40, Lt50, Lt60, Lt63, Lt99, Lt100, Lt128, Lt200, Lt360, Lt500, Lt512, Lt9999, Lm, if_true, if_false, if_pos, if_neg, Option.bind_some, if_true]
  · rw [nO_p (by omega)] at t0
    have := w1 h
    by_cases h2 : l < LKU σ
    · rw [if_pos (show LK σ ≠ 0 ∧ l < LKU σ from ⟨h, h2⟩)]
      simp (disch := omega) only [t0, t1, t3, cLt, cLe, cEq, cCl, cAdd, cMul, cMl, cMe, cMle, cMm, Lt0, Lt1, Lt2, Lt3, Lt4, Lt5, Lt6, Lt7, Lt8, Lt9, Lt10, Lt31, Lt40, Lt50, Lt60, Lt63, Lt99, Lt100, Lt128, Lt200, Lt360, Lt500, Lt512, Lt9999, Lm, if_true, if_false, if_pos, if_neg, Option.bind_some]
    · rw [if_neg (show ¬ (LK σ ≠ 0 ∧ l < LKU σ) from fun z => h2 z.2)]
      simp (disch := omega) only [t0, t1, t3, cLt, cLe, cEq, cCl, cAdd, cMul, cMl, cMe, cMle, cMm, Lt0, Lt1, Lt2, Lt3, Lt4, Lt5, Lt6, Lt7, Lt8, Lt9, Lt10, Lt31, Lt40, Lt50, Lt60, Lt63, Lt99, Lt100, Lt128, Lt200, Lt360, Lt500, Lt512, Lt9999, Lm, if_true, if_false, if_pos, if_neg, Option.bind_some]
theorem C_takesMore1 (hT : ET σ l d o M) (hW : WT' σ) (hN : NS σ ≤ 6) (hl : d ≤ 10) : fX4_takesMore 1 M = some (nI (if DR σ ≠ 0 ∧ d < DRU σ then 1 else 0)) := by
  obtain ⟨-, -, -, t0, t1, -, t3, -⟩ := hT
  obtain ⟨-, -, w1, w2, -⟩ := hW
  unfold fX4_takesMore
  by_cases h : DR σ = 0
  · simp (disch := omega) only [t0, h, nO_0, cLt, cLe, cEq, cCl, cAdd, cMul, cMl, cMe, cMle, cMm, Lt0, Lt1, Lt2, Lt3, Lt4, Lt5, Lt6, Lt7, Lt8, Lt9, Lt10, Lt31, Lt40, Lt50, Lt60, Lt63, Lt99, Lt100, Lt128, Lt200, Lt360, Lt500, Lt512, Lt9999, Lm, if_true, if_false, if_pos, if_neg, Option.bind_some, if_true]
  · rw [nO_p (by omega)] at t0
    have := w1 h
    by_cases h2 : d < DRU σ
    · rw [if_pos (show DR σ ≠ 0 ∧ d < DRU σ from ⟨h, h2⟩)]
      simp (disch := omega) only [t0, t1, t3, cLt, cLe, cEq, cCl, cAdd, cMul, cMl, cMe, cMle, cMm, Lt0, Lt1, Lt2, Lt3, Lt4, Lt5, Lt6, Lt7, Lt8, Lt9, Lt10, Lt31, Lt40, Lt50, Lt60, Lt63, Lt99, Lt100, Lt128, Lt200, Lt360, Lt500, Lt512, Lt9999, Lm, if_true, if_false, if_pos, if_neg, Option.bind_some]
    · rw [if_neg (show ¬ (DR σ ≠ 0 ∧ d < DRU σ) from fun z => h2 z.2)]
      simp (disch := omega) only [t0, t1, t3, cLt, cLe, cEq, cCl, cAdd, cMul, cMl, cMe, cMle, cMm, Lt0, Lt1, Lt2, Lt3, Lt4, Lt5, Lt6, Lt7, Lt8, Lt9, Lt10, Lt31, Lt40, Lt50, Lt60, Lt63, Lt99, Lt100, Lt128, Lt200, Lt360, Lt500, Lt512, Lt9999, Lm, if_true, if_false, if_pos, if_neg, Option.bind_some]
theorem C_nextTap (hT : ET σ l d o M) (hW : WT' σ) (hN : NS σ ≤ 6) (hl : l ≤ 10) (hd : d ≤ 10) : fX5_nextTap M = some (some (tap σ l d)) := by
  unfold fX5_nextTap tap
  rw [C_takesMore0 hT hW hN hl, Option.bind_some]
  by_cases h1 : LK σ ≠ 0 ∧ l < LKU σ
  · rw [if_pos h1, if_pos h1]
    simp (disch := omega) only [cLt, cLe, cEq, cCl, cAdd, cMul, cMl, cMe, cMle, cMm, Lt0, Lt1, Lt2, Lt3, Lt4, Lt5, Lt6, Lt7, Lt8, Lt9, Lt10, Lt31, Lt40, Lt50, Lt60, Lt63, Lt99, Lt100, Lt128, Lt200, Lt360, Lt500, Lt512, Lt9999, Lm, if_true, if_false, if_pos, if_neg, Option.bind_some]
  · rw [if_neg h1, if_neg h1, C_takesMore1 hT hW hN hd, Option.bind_some]
    by_cases h2 : DR σ ≠ 0 ∧ d < DRU σ
    · rw [if_pos h2, if_pos h2]
      simp (disch := omega) only [cLt, cLe, cEq, cCl, cAdd, cMul, cMl, cMe, cMle, cMm, Lt0, Lt1, Lt2, Lt3, Lt4, Lt5, Lt6, Lt7, Lt8, Lt9, Lt10, Lt31, Lt40, Lt50, Lt60, Lt63, Lt99, Lt100, Lt128, Lt200, Lt360, Lt500, Lt512, Lt9999, Lm, if_true, if_false, if_pos, if_neg, Option.bind_some]
    · rw [if_neg h2, if_neg h2]
      simp (disch := omega) only [cLt, cLe, cEq, cCl, cAdd, cMul, cMl, cMe, cMle, cMm, Lt0, Lt1, Lt2, Lt3, Lt4, Lt5, Lt6, Lt7, Lt8, Lt9, Lt10, Lt31, Lt40, Lt50, Lt60, Lt63, Lt99, Lt100, Lt128, Lt200, Lt360, Lt500, Lt512, Lt9999, Lm, if_true, if_false, if_pos, if_neg, Option.bind_some]
end CR
section CQ
variable {σ : Sp} {M : Mm} {l d o : Nat}
theorem WF_off (hW : WF σ) (ho : OPN σ = 1) {i j : Nat} (hi : i < NS σ) (hj : j < HOL σ i) : off σ i + j < LEN σ := by
  obtain ⟨-, -, -, -, -, -, -, hO, -⟩ := hW
  have := off_in (hO ho).1 hi
  omega
/-- the unit at a place of a segment -/
theorem WF_unit (hW : WF σ) (ho : OPN σ = 1) {k : Nat} (hk : k < LEN σ) : UB σ k < NB σ ∧ UP σ k < 512 ∧ UP σ k < ENT σ (UB σ k) ∧ UB σ k < 40 ∧ PRD σ (UB σ k) < 6 := by
  obtain ⟨hA, -, -, -, hB, -, -, -, -, hU⟩ := hW
  obtain ⟨u1, -⟩ := hU ho
  obtain ⟨g1, g2⟩ := u1 k hk
  have n40 := hA.2.2.1
  obtain ⟨-, w2, -⟩ := hB.2 (UB σ k) (by omega)
  exact ⟨g1, by omega, g2, by omega, (hB.1 _ g1).1⟩
theorem C_headAt (hC : EC σ l d o M) (hW : WF σ) (ho : OPN σ = 1) {i : Nat} (hi : i < NS σ) : fX5_headAt (nI i) M = some (nI (hed σ i)) := by
  obtain ⟨hP, -, hS, hR, -, hG, -, -, hB3, -⟩ := hC
  obtain ⟨hA, hWS, hWG, -⟩ := id hW
  have h6 := hA.1
  obtain ⟨a1, a2, a3⟩ := (hS i (by omega)).1 hi
  obtain ⟨w1, w2, w3, -⟩ := hWS.1 i hi
  have hL := WF_off hW ho hi (show 0 < HOL σ i by omega)
  have hf := C_fromEnd hS hR hWS ho h6 hi (show 0 < HOL σ i by omega)
  rw [Nat.add_zero] at hL hf
  obtain ⟨u1, u2, u3, u4, u5⟩ := WF_unit hW ho hL
  obtain ⟨-, b1, -⟩ := hB3 _ u1
  obtain ⟨-, g1, -⟩ := hG _ u5
  unfold fX5_headAt
  simp (disch := omega) only [hP.1, cLt, cLe, cEq, cCl, cAdd, cMul, cMl, cMe, cMle, cMm, Lt0, Lt1, Lt2, Lt3, Lt4, Lt5, Lt6, Lt7, Lt8, Lt9, Lt10, Lt31, Lt40, Lt50, Lt60, Lt63, Lt99, Lt100, Lt128, Lt200, Lt360, Lt500, Lt512, Lt9999, Lm, if_true, if_false, if_pos, if_neg, Option.bind_some, hf, C_batchOf hP u1 hA.2.2.1 u2, b1, g1, a2]
  rfl
theorem C_headAtM {x : Int32} (h : x < nI 0) : fX5_headAt x M = some (nI 0) := by
  unfold fX5_headAt
  rw [if_pos (show x < 0 from h)]
  rfl
/-- a product's units times its thickness, all products -/
theorem sm_cnt (t : Nat → Nat) (g : Nat → Nat) : ∀ (n a : Nat), (∀ j, a ≤ j → j < a + n → g j < 6) → sm (fun p => sm (fun j => if g j = p then 1 else 0) a n * t p) 0 6 = sm (fun j => t (g j)) a n
  | 0, a, _ => by simp [sm]
  | n + 1, a, h => by
    have ih := sm_cnt t g n (a + 1) (fun j h1 h2 => h j (by omega) (by omega))
    have h0 := h a (Nat.le_refl a) (by omega)
    rw [sm_s (fun j => t (g j)), ← ih]
    have e : sm (fun p => sm (fun j => if g j = p then 1 else 0) a (n + 1) * t p) 0 6 = sm (fun p => (if g a = p then t p else 0) + sm (fun j => if g j = p then 1 else 0) (a + 1) n * t p) 0 6 := by
      apply sm_cong
      intro p _ _
      rw [sm_s, Nat.add_mul]
      split <;> simp
    rw [e, sm_add]
    congr 1
    obtain ⟨q, hq⟩ : ∃ q, g a = q := ⟨_, rfl⟩
    rw [hq] at h0 ⊢
    rcases (show q = 0 ∨ q = 1 ∨ q = 2 ∨ q = 3 ∨ q = 4 ∨ q = 5 by omega) with rfl | rfl | rfl | rfl | rfl | rfl <;> simp [sm]
theorem C_friction_L (hU : EU σ M) (hG : EG σ M) (ho : OPN σ = 1) (h6 : NS σ ≤ 6) {i u : Nat} (hi : i < NS σ) (hWG : WG σ) (hWS : WS σ) (hu : u ≤ 10) : ∀ (n k x : Nat), k ≤ 6 → 6 - k < n → x ≤ 200 + k * 600 → fX5_friction_L8 n i (nI u) (nI x) (nI k) M = some (nI ((u * (x + sm (fun p => cnt σ i p * THK σ p) k (6 - k)) + 99) / 100))
  | 0, k, x, h1, h2, h3 => by omega
  | n + 1, k, x, h1, h2, h3 => by
    unfold fX5_friction_L8
    rcases Nat.lt_or_ge k 6 with h | h
    · have e1 := hU i (by omega) k h
      rw [if_pos ⟨ho, hi⟩] at e1
      obtain ⟨-, -, e2, -⟩ := hG k h
      obtain ⟨-, -, -, w4, -⟩ := hWG k h
      have hc : cnt σ i k ≤ 60 := by
        have := sm_bound (f := fun j => if PRD σ (UB σ (off σ i + j)) = k then 1 else 0) (c := 1) (a := 0) (n := HOL σ i) (fun j _ _ => by split <;> omega)
        have := (hWS.1 i hi).2.1
        unfold cnt; omega
      have hm : cnt σ i k * THK σ k ≤ 60 * 10 := Nat.mul_le_mul hc w4
      simp (disch := omega) only [cLt, cLe, cEq, cCl, cAdd, cMul, cMl, cMe, cMle, cMm, Lt0, Lt1, Lt2, Lt3, Lt4, Lt5, Lt6, Lt7, Lt8, Lt9, Lt10, Lt31, Lt40, Lt50, Lt60, Lt63, Lt99, Lt100, Lt128, Lt200, Lt360, Lt500, Lt512, Lt9999, Lm, if_true, if_false, if_pos, if_neg, Option.bind_some, e1, e2]
      rw [C_friction_L hU hG ho h6 hi hWG hWS hu n (k + 1) (x + cnt σ i k * THK σ k) (by omega) (by omega) (by omega), show 6 - k = (6 - (k + 1)) + 1 by omega, sm_s, Nat.add_assoc]
    · have hk : k = 6 := by omega
      subst hk
      have hm : u * x ≤ 10 * (200 + 6 * 600) := Nat.mul_le_mul hu h3
      simp (disch := omega) only [cLt, cLe, cEq, cCl, cAdd, cMul, cMl, cMe, cMle, cMm, Lt0, Lt1, Lt2, Lt3, Lt4, Lt5, Lt6, Lt7, Lt8, Lt9, Lt10, Lt31, Lt40, Lt50, Lt60, Lt63, Lt99, Lt100, Lt128, Lt200, Lt360, Lt500, Lt512, Lt9999, Lm, if_true, if_false, if_pos, if_neg, Option.bind_some, cDiv, sm_0, Nat.sub_self, Nat.add_zero]
theorem C_friction (hC : EC σ l d o M) (hW : WF σ) (ho : OPN σ = 1) {i u : Nat} (hi : i < NS σ) (hu : u ≤ 10) : fX5_friction i (nI u) M = some (nI (frc σ i u)) := by
  obtain ⟨-, -, hS, -, hU, hG, -⟩ := hC
  obtain ⟨hA, hWS, hWG, -⟩ := id hW
  obtain ⟨-, e6, -⟩ := hS i (by have := hA.1; omega)
  have h6 := hA.1
  have hd := hWS.2 i (by omega)
  unfold fX5_friction
  rw [if_pos (by omega), e6, show (0 : Int32) = nI 0 from rfl, C_friction_L hU hG ho hA.1 hi hWG hWS hu 400 0 (DIR σ i) (by omega) (by omega) (by omega)]
  unfold frc
  rw [show 6 - 0 = 6 from rfl]
  have := sm_cnt (THK σ) (fun j => PRD σ (UB σ (off σ i + j))) (HOL σ i) 0 (fun j _ h => (WF_unit hW ho (WF_off hW ho hi (by omega))).2.2.2.2)
  unfold cnt
  rw [this]
theorem hed_le (hW : WF σ) (ho : OPN σ = 1) {i : Nat} (hi : i < NS σ) : hed σ i ≤ 500 := by
  obtain ⟨hA, hWS, hWG, -⟩ := id hW
  obtain ⟨w1, w2, w3, -⟩ := hWS.1 i hi
  have hL := WF_off hW ho hi (show 0 < HOL σ i by omega)
  rw [Nat.add_zero] at hL
  obtain ⟨u1, u2, u3, u4, u5⟩ := WF_unit hW ho hL
  obtain ⟨-, g1, -⟩ := hWG _ u5
  unfold hed
  have := Nat.mul_le_mul g1 w3
  omega
theorem frc_le (hW : WF σ) (ho : OPN σ = 1) {i u : Nat} (hi : i < NS σ) (hu : u ≤ 10) : frc σ i u ≤ 100 := by
  obtain ⟨hA, hWS, hWG, -⟩ := id hW
  obtain ⟨w1, w2, w3, -⟩ := hWS.1 i hi
  have h6 := hA.1
  have hd := hWS.2 i (by omega)
  have hs : sm (fun j => THK σ (PRD σ (UB σ (off σ i + j)))) 0 (HOL σ i) ≤ HOL σ i * 10 := sm_bound (fun j _ h => by
    obtain ⟨u1, u2, u3, u4, u5⟩ := WF_unit hW ho (WF_off hW ho hi (show j < HOL σ i by omega))
    obtain ⟨-, -, -, g1, -⟩ := hWG _ u5
    exact g1)
  unfold frc
  have := Nat.mul_le_mul hu (show DIR σ i + sm (fun j => THK σ (PRD σ (UB σ (off σ i + j)))) 0 (HOL σ i) ≤ 800 by omega)
  omega
theorem ned_le (hW : WF σ) (ho : OPN σ = 1) {s u : Nat} (hu : u ≤ 10) : ned σ s u ≤ 1100 := by
  obtain ⟨hA, -⟩ := id hW
  have h6 := hA.1
  have h1 := hA.2.2.2.2.2.2.2.1 ho
  have := hed_le hW ho (show NS σ - 1 < NS σ by omega)
  have hs : sm (fun k => frc σ k u) s (NS σ - s) ≤ (NS σ - s) * 100 := sm_bound (fun k h2 h3 => frc_le hW ho (by omega) hu)
  unfold ned
  omega
theorem imx {a b : Nat} (ha : a < 1000000) (hb : b < 1000000) : imax (nI 0) (nI a - nI b) = nI (a - b) := by
  have e : (nI 0 < nI a - nI b) = (b < a) := by
    rw [Int32.lt_iff_toInt_lt, pk_sub_toInt (by omega) (by omega), nI_toInt (by omega)]
    exact propext ⟨fun h => by omega, fun h => by omega⟩
  unfold imax
  by_cases h : b < a
  · rw [if_pos (e.mpr h), cSub (by omega)]
  · rw [if_neg (fun z => h (e.mp z)), show a - b = 0 by omega]
theorem C_atBeg (hC : EC σ l d o M) (hW : WF σ) (ho : OPN σ = 1) {i a : Nat} (hi : i < NS σ) (ha : a ≤ 1100) : fX5_atBeginning (nI i) (nI a) M = some (nI (a - (if i = 0 then 0 else hed σ (i - 1)))) := by
  unfold fX5_atBeginning
  by_cases h : i = 0
  · subst h
    rw [Lt1, c01, C_headAtM (nM_lt (by omega)), Option.bind_some, if_pos rfl, Lt0, imx (by omega) (by omega)]
  · have := hed_le hW ho (show i - 1 < NS σ by omega)
    rw [Lt1, cSub (by omega), C_headAt hC hW ho (show i - 1 < NS σ by omega), Option.bind_some, if_neg h, Lt0, imx (by omega) (by omega)]
theorem C_none_L (hC : EC σ l d o M) (hW : WF σ) (ho : OPN σ = 1) {u : Nat} (hu : u ≤ 10) : ∀ (n k a : Nat), k < NS σ → k < n → a + frc σ k u = ned σ k u → fX5_noneAbove_L18 (n + 1) (nI u) (nI a) (nI k) M = some (nI (if ∀ s, s ≤ k → prs σ s u ≤ LIM σ s then 1 else 0))
  | 0, k, a, h1, h2, h3 => by omega
  | n + 1, k, a, h1, h2, h3 => by
    have h6 := hW.1.1
    obtain ⟨b1, b2, b3⟩ := (hC.2.2.1 k (by omega)).1 h1
    obtain ⟨w1, w2, w3, w4, w5, -⟩ := hW.2.1.1 k h1
    have hn := ned_le hW ho (s := k) hu
    rw [fX5_noneAbove_L18]
    simp (disch := omega) only [cLt, cLe, cEq, cCl, cAdd, cMul, cMl, cMe, cMle, cMm, Lt0, Lt1, Lt2, Lt3, Lt4, Lt5, Lt6, Lt7, Lt8, Lt9, Lt10, Lt31, Lt40, Lt50, Lt60, Lt63, Lt99, Lt100, Lt128, Lt200, Lt360, Lt500, Lt512, Lt9999, Lm, if_true, if_false, if_pos, if_neg, Option.bind_some, C_friction hC hW ho h1 hu]
    rw [h3, C_atBeg hC hW ho h1 hn, Option.bind_some, b3]
    have hp : ned σ k u - (if k = 0 then 0 else hed σ (k - 1)) = prs σ k u := rfl
    have hp2 : prs σ k u ≤ 1100 := by rw [← hp]; omega
    rw [hp]
    by_cases c : prs σ k u ≤ LIM σ k
    · simp (disch := omega) only [cLt, cLe, cEq, cCl, cAdd, cMul, cMl, cMe, cMle, cMm, Lt0, Lt1, Lt2, Lt3, Lt4, Lt5, Lt6, Lt7, Lt8, Lt9, Lt10, Lt31, Lt40, Lt50, Lt60, Lt63, Lt99, Lt100, Lt128, Lt200, Lt360, Lt500, Lt512, Lt9999, Lm, if_true, if_false, if_pos, if_neg, Option.bind_some]
      rcases Nat.eq_zero_or_pos k with hk | hk
      · subst hk
        have hall : ∀ s, s ≤ 0 → prs σ s u ≤ LIM σ s := fun s hs => by rw [show s = 0 by omega]; exact c
        rw [if_pos hall, cP0, fX5_noneAbove_L18]
        dsimp only
        rw [if_pos (show nM < 0 by decide)]
        rfl
      · rw [cPp hk, C_none_L hC hW ho hu n (k - 1) (ned σ k u) (by omega) (by omega) ?_]
        · congr 2
          by_cases e : ∀ s, s ≤ k - 1 → prs σ s u ≤ LIM σ s
          · rw [if_pos e, if_pos (fun s hs => by
              rcases Nat.lt_or_ge s k with q | q
              · exact e s (by omega)
              · rw [show s = k by omega]; exact c)]
          · rw [if_neg e, if_neg (fun z => e (fun s hs => z s (by omega)))]
        · unfold ned
          rw [show NS σ - (k - 1) = (NS σ - k) + 1 by omega, sm_s, show k - 1 + 1 = k by omega]
          omega
    · have hno : ¬ ∀ s, s ≤ k → prs σ s u ≤ LIM σ s := fun z => c (z k (Nat.le_refl k))
      rw [if_neg hno]
      simp (disch := omega) only [cLt, cLe, cEq, cCl, cAdd, cMul, cMl, cMe, cMle, cMm, Lt0, Lt1, Lt2, Lt3, Lt4, Lt5, Lt6, Lt7, Lt8, Lt9, Lt10, Lt31, Lt40, Lt50, Lt60, Lt63, Lt99, Lt100, Lt128, Lt200, Lt360, Lt500, Lt512, Lt9999, Lm, if_true, if_false, if_pos, if_neg, Option.bind_some]
theorem C_noneAbove (hC : EC σ l d o M) (hW : WF σ) (ho : OPN σ = 1) {u : Nat} (hu : u ≤ 10) : fX5_noneAbove (nI u) M = some (nI (if fit σ u = true then 1 else 0)) := by
  have h1 := hW.1.2.2.2.2.2.2.2.1 ho
  have h6 := hW.1.1
  unfold fX5_noneAbove
  rw [hC.1.1, Lt1, cSub (by omega), C_headAt hC hW ho (show NS σ - 1 < NS σ by omega), Option.bind_some, C_none_L hC hW ho hu 399 (NS σ - 1) _ (by omega) (by omega) ?_]
  · unfold fit
    by_cases e : ∀ s, s < NS σ → prs σ s u ≤ LIM σ s
    · rw [if_pos (fun s hs => e s (by omega)), if_pos (by simpa using e)]
    · rw [if_neg (fun z => e (fun s hs => z s (by omega))), if_neg (by simpa using e)]
  · unfold ned
    rw [show NS σ - (NS σ - 1) = 1 by omega, sm_s, sm_0]
    omega
theorem C_findRate_L (hC : EC σ l d o M) (hW : WF σ) (ho : OPN σ = 1) : ∀ (n u : Nat), u ≤ 10 → u < n → fX5_findRate_L5 n (nI u) M = some (nI (frt σ u))
  | 0, u, h1, h2 => by omega
  | n + 1, 0, h1, h2 => by
    rw [fX5_findRate_L5]
    rfl
  | n + 1, u + 1, h1, h2 => by
    rw [fX5_findRate_L5]
    simp (disch := omega) only [cLt, cLe, cEq, cCl, cAdd, cMul, cMl, cMe, cMle, cMm, Lt0, Lt1, Lt2, Lt3, Lt4, Lt5, Lt6, Lt7, Lt8, Lt9, Lt10, Lt31, Lt40, Lt50, Lt60, Lt63, Lt99, Lt100, Lt128, Lt200, Lt360, Lt500, Lt512, Lt9999, Lm, if_true, if_false, if_pos, if_neg, Option.bind_some, C_noneAbove hC hW ho h1]
    unfold frt
    by_cases e : fit σ (u + 1) = true
    · rw [if_pos e, if_pos e]
      simp (disch := omega) only [cLt, cLe, cEq, cCl, cAdd, cMul, cMl, cMe, cMle, cMm, Lt0, Lt1, Lt2, Lt3, Lt4, Lt5, Lt6, Lt7, Lt8, Lt9, Lt10, Lt31, Lt40, Lt50, Lt60, Lt63, Lt99, Lt100, Lt128, Lt200, Lt360, Lt500, Lt512, Lt9999, Lm, if_true, if_false, if_pos, if_neg, Option.bind_some]
    · rw [if_neg e, if_neg e]
      simp (disch := omega) only [cLt, cLe, cEq, cCl, cAdd, cMul, cMl, cMe, cMle, cMm, Lt0, Lt1, Lt2, Lt3, Lt4, Lt5, Lt6, Lt7, Lt8, Lt9, Lt10, Lt31, Lt40, Lt50, Lt60, Lt63, Lt99, Lt100, Lt128, Lt200, Lt360, Lt500, Lt512, Lt9999, Lm, if_true, if_false, if_pos, if_neg, Option.bind_some]
      rw [cPr, C_findRate_L hC hW ho n u (by omega) (by omega)]
theorem C_findRate (hC : EC σ l d o M) (hW : WF σ) (ho : OPN σ = 1) : fX5_findRate M = some (nI (frt σ (RT σ))) := by
  unfold fX5_findRate
  rw [hC.1.2.2.2.2.1]
  exact C_findRate_L hC hW ho 400 (RT σ) hW.1.2.2.2.2.1 (by have := hW.1.2.2.2.2.1; omega)
end CQ
