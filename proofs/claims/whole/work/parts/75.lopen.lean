/-! OPENING: BOTH SIDES -/
section L75
variable {σ σ' : Sp} {M M' : Mm} {l d o l' d' o' : Nat}
/-- the pipe opened, filled with the product p -/
def opn (σ : Sp) (p : Nat) : Sp := fun f i =>
  if f = 0 ∧ i = 2 then 1
  else if f = 0 ∧ i = 15 then sm (HOL σ) 0 (NS σ)
  else if f = 10 ∧ i = 0 then p
  else if f = 11 ∧ i = 0 then sm (HOL σ) 0 (NS σ)
  else if f = 12 ∧ i = 0 then sm (HOL σ) 0 (NS σ)
  else if f = 21 then 0
  else if f = 22 then i
  else σ f i
theorem opn_f {p f : Nat} (h : f ≠ 0 ∧ f ≠ 10 ∧ f ≠ 11 ∧ f ≠ 12 ∧ f ≠ 21 ∧ f ≠ 22) : opn σ p f = σ f := by
  funext i
  unfold opn
  rw [if_neg (fun z => h.1 z.1), if_neg (fun z => h.1 z.1), if_neg (fun z => h.2.1 z.1), if_neg (fun z => h.2.2.1 z.1), if_neg (fun z => h.2.2.2.1 z.1), if_neg h.2.2.2.2.1, if_neg h.2.2.2.2.2]
theorem opn_0 {p i : Nat} (h : i ≠ 2 ∧ i ≠ 15) : opn σ p 0 i = σ 0 i := by
  unfold opn
  rw [if_neg (fun z => h.1 z.2), if_neg (fun z => h.2 z.2), if_neg (by omega), if_neg (by omega), if_neg (by omega), if_neg (by omega), if_neg (by omega)]
theorem opn_b {p f i : Nat} (hf : f = 10 ∨ f = 11 ∨ f = 12) (h : i ≠ 0) : opn σ p f i = σ f i := by
  unfold opn
  rw [if_neg (by omega), if_neg (by omega), if_neg (fun z => h z.2), if_neg (fun z => h z.2), if_neg (fun z => h z.2), if_neg (by omega), if_neg (by omega)]
theorem opn_OPN {p : Nat} : OPN (opn σ p) = 1 := rfl
theorem opn_LEN {p : Nat} : LEN (opn σ p) = sm (HOL σ) 0 (NS σ) := rfl
theorem opn_PRD {p : Nat} : PRD (opn σ p) 0 = p := rfl
theorem opn_ORD {p : Nat} : ORD (opn σ p) 0 = sm (HOL σ) 0 (NS σ) := rfl
theorem opn_ENT {p : Nat} : ENT (opn σ p) 0 = sm (HOL σ) 0 (NS σ) := rfl
theorem opn_UB {p i : Nat} : UB (opn σ p) i = 0 := rfl
theorem opn_UP {p i : Nat} : UP (opn σ p) i = i := rfl
theorem len_b (hW : WF σ) (h1 : 1 ≤ NS σ) : 5 ≤ sm (HOL σ) 0 (NS σ) ∧ sm (HOL σ) 0 (NS σ) ≤ 360 := by
  have h6 := hW.1.1
  have a := sm_part (f := HOL σ) (k := 0) (a := 0) (n := NS σ) (by omega) (by omega)
  have b := sm_bound (f := HOL σ) (c := 60) (a := 0) (n := NS σ) (fun k _ hk => (hW.2.1.1 k (by omega)).2.1)
  have c := (hW.2.1.1 0 (by omega)).1
  have : NS σ * 60 ≤ 6 * 60 := Nat.mul_le_mul_right 60 h6
  omega
theorem WF_opn (hW : WF σ) (h0 : OPN σ = 0) (h1 : 1 ≤ NS σ) {p : Nat} (hp : p < 6) : WF (opn σ p) := by
  obtain ⟨hA, hWS, hWG, hWT, hWB, hWK, hWC, -⟩ := id hW
  obtain ⟨a1, a2, a3, a4, a5, a6, a7, a8, a9, a10, a11, a12⟩ := id hA
  obtain ⟨c1, c2, c3, c4, c5, c6, c7⟩ := hWC h0
  obtain ⟨lb1, lb2⟩ := len_b hW h1
  have z0 : ∀ i, i ≠ 2 ∧ i ≠ 15 → opn σ p 0 i = σ 0 i := fun i hi => opn_0 hi
  have hf : ∀ f, f ≠ 0 ∧ f ≠ 10 ∧ f ≠ 11 ∧ f ≠ 12 ∧ f ≠ 21 ∧ f ≠ 22 → opn σ p f = σ f := fun f h => opn_f h
  have e1 : NS (opn σ p) = NS σ := z0 0 (by omega)
  have e2 : NB (opn σ p) = NB σ := z0 1 (by omega)
  have e4 : INL (opn σ p) = 0 := (z0 3 (by omega)).trans c3
  have e5 : ALL (opn σ p) = 0 := (z0 4 (by omega)).trans c1
  have e6 : PIG (opn σ p) = 0 := (z0 8 (by omega)).trans c2
  have g1 : HOL (opn σ p) = HOL σ := hf 1 (by omega)
  have g4 : DIR (opn σ p) = DIR σ := hf 4 (by omega)
  have g13 : LEF (opn σ p) = LEF σ := hf 13 (by omega)
  have g14 : DRO (opn σ p) = DRO σ := hf 14 (by omega)
  have g15 : LEA (opn σ p) = LEA σ := hf 15 (by omega)
  have g16 : AHD (opn σ p) = AHD σ := hf 16 (by omega)
  have g17 : BHD (opn σ p) = BHD σ := hf 17 (by omega)
  have g18 : EBF (opn σ p) = EBF σ := hf 18 (by omega)
  have g19 : FG (opn σ p) = FG σ := hf 19 (by omega)
  have g20 : KEP (opn σ p) = KEP σ := hf 20 (by omega)
  have g28 : LA (opn σ p) = LA σ := hf 28 (by omega)
  have n12 : ∀ b, b ≠ 0 → ENT (opn σ p) b = ENT σ b := fun b hb => opn_b (by omega) hb
  have n10 : ∀ b, b ≠ 0 → PRD (opn σ p) b = PRD σ b := fun b hb => opn_b (by omega) hb
  have n11 : ∀ b, b ≠ 0 → ORD (opn σ p) b = ORD σ b := fun b hb => opn_b (by omega) hb
  have hz : ∀ b, b < 40 → LEF σ b = 0 ∧ DRO σ b = 0 ∧ LEA σ b = 0 := fun b hb => by
    have := (hWB.2 b hb).1
    have := (c5 b hb).1
    omega
  have hs : ∀ b, str (opn σ p) b = if b = 0 then 0 else sm (HOL σ) 0 (NS σ) + EBF σ b := fun b => by unfold str; rw [opn_LEN, g18]
  refine ⟨?_, ?_, ?_, ?_, ?_, ?_, fun z => by rw [opn_OPN] at z; omega, fun _ => ?_, fun _ => ?_, fun _ => ?_⟩
  · unfold WA
    rw [e1, e2, opn_OPN, e4, e5, e6, opn_LEN]
    unfold RT RF MIN at *
    rw [z0 5 (by omega), z0 6 (by omega), z0 7 (by omega)]
    exact ⟨a1, a2, a3, by omega, a5, a6, a7, fun _ => h1, by omega, by omega, lb2, by omega⟩
  · unfold WS
    rw [e1, g1, g4, g28]
    unfold HEI LIM at *
    rw [hf 2 (by omega), hf 3 (by omega)]
    exact hWS
  · unfold WG WEI THK GRD BAR at *
    rw [hf 5 (by omega), hf 6 (by omega), hf 7 (by omega), hf 8 (by omega)]
    exact hWG
  · unfold WT' at *
    rw [e1]
    unfold LK LKU DR DRU DRT RCV at *
    rw [z0 9 (by omega), z0 10 (by omega), z0 11 (by omega), z0 12 (by omega), z0 13 (by omega), z0 14 (by omega)]
    exact hWT
  · refine ⟨fun b hb => ?_, fun b hb => ?_⟩
    · rw [e2] at hb
      by_cases z : b = 0
      · subst z
        rw [opn_PRD, opn_ENT, opn_ORD]
        exact ⟨hp, Nat.le_refl _, lb2, fun q => by omega⟩
      · rw [n10 b z, n12 b z, n11 b z]
        unfold SHP at *
        rw [hf 9 (by omega)]
        exact hWB.1 b hb
    · rw [e2, e5, g13, g14, g15, g18, g19, g20]
      obtain ⟨q1, q2, q3, q4, q5, q6, q7⟩ := hWB.2 b hb
      obtain ⟨r1, r2, r3⟩ := hz b hb
      have r4 := c5 b hb
      by_cases z : b = 0
      · subst z
        rw [opn_ENT]
        exact ⟨by omega, lb2, by omega, q4, q5, fun w => by omega, fun w => by omega⟩
      · rw [n12 b z]
        exact ⟨q1, q2, by omega, q4, q5, q6, q7⟩
  · unfold WK HAS TG at *
    rw [hf 23 (by omega), hf 24 (by omega)]
    exact hWK
  · rw [opn_LEN, opn_ENT, opn_ORD, e1, g1, e5, e2, e4, opn_ENT]
    refine ⟨rfl, rfl, rfl, ?_, by omega, fun b hb h2 h3 => ?_⟩
    · have := sm_bound (f := ENT (opn σ p)) (c := 0) (a := 1) (n := NB σ - 1) (fun k hk hk2 => by
        rw [n12 k (by omega), (c5 k (by omega)).1]
        exact Nat.le_refl 0)
      omega
    · rw [n12 b h3, (c5 b (by omega)).1] at h2
      omega
  · rw [e4, e5, e2, opn_LEN, g16, g17]
    refine ⟨(c5 0 (by omega)).2.1, fun b hb h2 => ?_, fun b hb => ?_, fun b c hb h2 => ?_, fun b c hb h2 => ?_, ?_⟩
    · rw [n12 b h2]
      have := c5 b hb
      omega
    · have := c5 b hb
      by_cases z : b = 0
      · exact ⟨fun _ => Or.inr z, fun _ => this.2.2.1⟩
      · rw [n12 b z]
        exact ⟨fun _ => Or.inl this.1, fun _ => this.2.2.1⟩
    · have := (c5 b hb).2.1
      omega
    · have := (c5 b hb).2.2.1
      omega
    · rw [hs, if_pos rfl, opn_ENT]
      omega
  · rw [opn_LEN, e4, e2, g19, g13, g14, g15, opn_ENT]
    refine ⟨fun j hj => ?_, fun j hj => ?_, rfl, ?_, fun j hj _ => ?_, fun b hb => ?_⟩
    · rw [opn_UB, opn_UP, opn_ENT]
      exact ⟨by omega, hj⟩
    · rw [opn_UB, opn_UP, opn_UB, opn_UP]
      omega
    · rw [opn_UP]
      omega
    · rw [opn_UB]
      exact (c5 0 (by omega)).2.2.2
    · obtain ⟨r1, r2, r3⟩ := hz b (by omega)
      rw [r1, r2, r3]
      by_cases z : b = 0
      · subst z
        rw [opn_ENT]
        have : sm (ub1 (opn σ p) 0) 0 (sm (HOL σ) 0 (NS σ)) = sm (fun _ => 1) 0 (sm (HOL σ) 0 (NS σ)) := sm_cong (fun j _ _ => rfl)
        rw [this, sm_const]
        omega
      · rw [n12 b z, (c5 b (by omega)).1]
        have := sm_bound (f := ub1 (opn σ p) b) (c := 0) (a := 0) (n := sm (HOL σ) 0 (NS σ)) (fun j _ _ => by
          unfold ub1
          rw [opn_UB, if_neg (fun w => z w.symm)]
          exact Nat.le_refl 0)
        omega
/-! the class fills its segments -/
theorem C_fill_L {i s p H : Nat} (hi : i < 6) (hp : p < 6) (hH : H ≤ 60) : ∀ (m j n : Nat) (M : Mm), j + m = H → m < n → gi M (9 + 3 * i) 3 = nI H → (∀ j', j' < j → gi M (10 + 3 * i) j' = nI (s + j')) → ∃ M', fX2_fill_L2 n i (nI s) (nI p) (nI j) M = some M' ∧ Fr (fun k => k = 10 + 3 * i ∨ k = 11 + 3 * i) M M' ∧ M'.2 = M.2 ∧ (∀ j', j' < H → gi M' (10 + 3 * i) j' = nI (s + j')) ∧ ∀ q, gi M' (11 + 3 * i) q = if q = p then nI H else gi M (11 + 3 * i) q
  | m, j, 0, M, h1, h2, h3, h4 => by omega
  | 0, j, n + 1, M, h1, h2, h3, h4 => by
    refine ⟨si M (11 + 3 * i) p (nI H), ?_, Fr.rf.si (by omega), rfl, fun j' hj => ?_, fun q => ?_⟩
    · rw [fX2_fill_L2]
      dsimp only
      rw [if_pos hi, h3, if_pos (show nI H ≤ nI j by rw [cLe (by omega) (by omega)]; omega), cCl (show p < 2147483648 by omega), if_pos (g6 hp (by omega))]
    · rw [gi_ne (by omega)]
      exact h4 j' (by omega)
    · rw [gi_if]
      by_cases z : q = p
      · rw [if_pos ⟨rfl, z⟩, if_pos z]
      · rw [if_neg (fun w => z w.2), if_neg z]
  | m + 1, j, n + 1, M, h1, h2, h3, h4 => by
    obtain ⟨M', q1, q2, q3, q4, q5⟩ := C_fill_L hi hp hH m (j + 1) n (si M (10 + 3 * i) j (nI (s + j))) (by omega) (by omega) (by rw [gi_ne (by omega)]; exact h3) (fun j' hj => by
      by_cases z : j' = j
      · rw [gi_eq rfl z, z]
      · rw [gi_ne (by omega)]
        exact h4 j' (by omega))
    refine ⟨M', ?_, Fr.tr (Fr.rf.si (by omega)) q2, q3, q4, fun q => by rw [q5, gi_ne (by omega)]⟩
    rw [fX2_fill_L2]
    dsimp only
    rw [if_pos hi, h3, if_neg (show ¬ nI H ≤ nI j by rw [cLe (by omega) (by omega)]; omega), cCl (show j < 2147483648 by omega), if_pos (g6 (show j < 60 by omega) (by omega)), cAdd, Lt1, cAdd]
    exact q1
/-- the segments from k on are filled -/
def Fi (σ : Sp) (p k : Nat) (M : Mm) : Prop := ∀ i, k ≤ i → i < NS σ → (∀ j, j < HOL σ i → gi M (10 + 3 * i) j = nI (off σ i + j)) ∧ ∀ q, q < 6 → gi M (11 + 3 * i) q = nI (if q = p then HOL σ i else 0)
theorem C_fillS {p : Nat} (hp : p < 6) (h6 : NS σ ≤ 6) (hH : ∀ i, i < NS σ → HOL σ i ≤ 60) : ∀ (k n : Nat) (M : Mm), k ≤ NS σ → k < n → (∀ i, i < NS σ → gi M (9 + 3 * i) 3 = nI (HOL σ i)) → (∀ i, i < 6 → i < k → ∀ q, q < 6 → gi M (11 + 3 * i) q = nI 0) → Fi σ p k M → ∃ M', fX5_fillSegments_L9 n (nI p) (nI (sm (HOL σ) k (NS σ - k))) (nO k) M = some (nI (sm (HOL σ) 0 (NS σ)), M') ∧ Fr (fun r => 9 ≤ r ∧ r < 9 + 3 * NS σ ∧ r % 3 ≠ 0) M M' ∧ M'.2 = M.2 ∧ Fi σ p 0 M'
  | k, 0, M, h1, h2, h3, h4, h5 => by omega
  | 0, n + 1, M, h1, h2, h3, h4, h5 => by
    refine ⟨M, ?_, Fr.rf, rfl, h5⟩
    rw [fX5_fillSegments_L9]
    dsimp only
    rw [nO_0, if_pos (show nM < 0 from nM_lt (a := 0) (by omega))]
    rfl
  | k + 1, n + 1, M, h1, h2, h3, h4, h5 => by
    have hk : k < NS σ := by omega
    have hh := hH k hk
    have hoff : sm (HOL σ) (k + 1) (NS σ - (k + 1)) = off σ k := by unfold off; rw [show NS σ - (k + 1) = NS σ - 1 - k by omega]
    obtain ⟨M1, q1, q2, q3, q4, q5⟩ := C_fill_L (i := k) (s := off σ k) (p := p) (H := HOL σ k) (by omega) hp hh (HOL σ k) 0 400 M (by omega) (by omega) (h3 k hk) (fun j hj => by omega)
    have e9 : ∀ i, i < NS σ → gi M1 (9 + 3 * i) 3 = nI (HOL σ i) := fun i hi => by rw [q2.gi (by omega)]; exact h3 i hi
    obtain ⟨M2, r1, r2, r3, r4⟩ := C_fillS hp h6 hH k n M1 (by omega) (by omega) e9 (fun i hi hik q hq => by rw [q2.gi (by omega)]; exact h4 i hi (by omega) q hq) (fun i hi hi2 => by
      by_cases z : i = k
      · subst z
        refine ⟨q4, fun q hq => ?_⟩
        rw [q5]
        by_cases y : q = p
        · rw [if_pos y, if_pos y]
        · rw [if_neg y, if_neg y, h4 i (by omega) (by omega) q hq]
      · obtain ⟨f1, f2⟩ := h5 i (by omega) hi2
        exact ⟨fun j hj => by rw [q2.gi (by omega)]; exact f1 j hj, fun q hq => by rw [q2.gi (by omega)]; exact f2 q hq⟩)
    refine ⟨M2, ?_, Fr.tr (q2.mono (fun r hr => by omega)) r2, r3.trans q3, r4⟩
    rw [fX5_fillSegments_L9]
    dsimp only
    have g := g6 (show k < 6 by omega) (by omega)
    rw [nO_s, if_neg (show ¬ nI k < 0 by rw [Lt0, cLt (by omega) (by omega)]; omega), cCl (show k < 2147483648 by omega), if_pos g, hoff]
    unfold fX2_fill
    rw [Lt0, q1, Option.bind_some, if_pos (show ¬ (nI k < nI 0 ∨ 6 ≤ k) from g), e9 k hk, cAdd]
    have hnext : sm (HOL σ) k (NS σ - k) = off σ k + HOL σ k := (off_s hk).symm
    rw [← hnext, show nI k + -1 = nO k from ?_]
    · exact r1
    · show nI k + nM = nO k
      cases k with
      | zero => rfl
      | succ k => rw [cPr, nO_s]
theorem opn_off {p : Nat} (i : Nat) : off (opn σ p) i = off σ i := off_c (opn_0 (by omega)) (opn_f (by omega)) i
/-- the class's cells behind the opening -/
theorem EC_opn {p : Nat} (hC : EC σ l d o M) (hW : WF σ) (h0 : OPN σ = 0) (h1 : 1 ≤ NS σ) (hp : p < 6) (hF : Fr (fun r => 9 ≤ r ∧ r < 9 + 3 * NS σ ∧ r % 3 ≠ 0) M M') (h2 : M'.2 = M.2) (hFi : Fi σ p 0 M') {N : Mm}
    (hN : N = si (si (si (si (si (si (sr (si M' (33 + 0) 2 (-1)) (33 + 0) 1 (some p)) (33 + 0) 3 (nI (sm (HOL σ) 0 (NS σ)))) (33 + 0) 4 (nI (sm (HOL σ) 0 (NS σ)))) (6 + 2) 0 (nI (NS σ - 1))) (6 + 2) 1 10) (6 + 2) 2 (nI (RCV σ))) 0 10 (nI 1)) :
    EC (opn σ p) l d o N := by
  obtain ⟨hA, hWS, hWG, hWT, hWB, hWK, hWC, -⟩ := id hW
  obtain ⟨k1, k2, k3, k4, k5, k6, k7⟩ := hWC h0
  obtain ⟨c1, c2, c3, c4, c5, c6, c7, c8, c9, c10, c11⟩ := id hC
  have z0 : ∀ i, i ≠ 2 ∧ i ≠ 15 → opn σ p 0 i = σ 0 i := fun i hi => opn_0 hi
  have hf : ∀ f, f ≠ 0 ∧ f ≠ 10 ∧ f ≠ 11 ∧ f ≠ 12 ∧ f ≠ 21 ∧ f ≠ 22 → opn σ p f = σ f := fun f h => opn_f h
  have e1 : NS (opn σ p) = NS σ := z0 0 (by omega)
  have r0 : ∀ k, k ≠ 0 → k ≠ 33 → k ≠ 8 → N.1 k = M'.1 k := fun k q1 q2 q3 => by rw [hN, si_1 (by omega), si_1 (by omega), si_1 (by omega), si_1 (by omega), si_1 (by omega), si_1 (by omega), sr_1, si_1 (by omega)]
  have r1 : ∀ k, k ≠ 0 → k ≠ 33 → k ≠ 8 → ¬ (9 ≤ k ∧ k < 27 ∧ k % 3 ≠ 0) → N.1 k = M.1 k := fun k q1 q2 q3 q4 => (r0 k q1 q2 q3).trans (hF k (by have := hA.1; omega)).1
  have r2 : ∀ k, k ≠ 33 → N.2 k = M.2 k := fun k q1 => by rw [hN, si_2, si_2, si_2, si_2, si_2, si_2, sr_2 (by omega), si_2, h2]
  have m0 : ∀ j, gi M' 0 j = gi M 0 j := fun j => hF.gi (by omega) j
  have m8 : ∀ j, gi M' 8 j = gi M 8 j := fun j => hF.gi (by omega) j
  have m33 : ∀ j, gi M' 33 j = gi M 33 j := fun j => hF.gi (by omega) j
  refine ⟨?_, ?_, ES_c (fun j hj => r1 _ (by omega) (by omega) (by omega) (by omega)) e1 (hf 1 (by omega)) (hf 2 (by omega)) (hf 3 (by omega)) (hf 4 (by omega)) (hf 28 (by omega)) c3, fun _ i hi j hj => ?_, fun i hi q hq => ?_, EG_c (fun i hi => r1 _ (by omega) (by omega) (by omega) (by omega)) (hf 5 (by omega)) (hf 6 (by omega)) (hf 7 (by omega)) (hf 8 (by omega)) c6, fun b hb => ?_, fun b hb => ?_, fun b hb => ?_, EK_c (fun t ht => r1 _ (by omega) (by omega) (by omega) (by omega)) (hf 23 (by omega)) (hf 24 (by omega)) (hf 25 (by omega)) (hf 26 (by omega)) c10, EL_c (r1 5 (by omega) (by omega) (by omega) (by omega)) (hf 27 (by omega)) c11⟩
  · obtain ⟨p1, p2, p3, p4, p5, p6, p7, p8, p9⟩ := c1
    unfold EP
    rw [e1, opn_OPN, hN]
    unfold NB ALL RT RF MIN PIG INL at *
    rw [z0 1 (by omega), z0 3 (by omega), z0 4 (by omega), z0 5 (by omega), z0 6 (by omega), z0 7 (by omega), z0 8 (by omega)]
    simp (disch := omega) only [gi_eq, gi_ne, gi_sr, gr_si, gr_eq, gr_ne, m0]
    have : gr M' 0 11 = gr M 0 11 := by unfold gr; rw [h2]
    rw [this]
    exact ⟨p1, p2, trivial, p4, p5, p6, p7, p8, p9⟩
  · obtain ⟨t1, t2, t3, t4, t5, t6, t7, t8, t9, t10⟩ := c2
    have q : ∀ t, t < 2 → ∀ j, gi N (6 + t) j = gi M (6 + t) j := fun t ht j => gi_1 (r1 _ (by omega) (by omega) (by omega) (by omega)) j
    refine ⟨?_, ?_, ?_, ?_, ?_, ?_, ?_, fun w => ?_, ?_, ?_⟩
    · rw [q 0 (by omega), t1]; unfold LK; rw [z0 9 (by omega)]
    · rw [q 0 (by omega), t2]; unfold LKU; rw [z0 10 (by omega)]
    · rw [q 0 (by omega), t3]
    · rw [q 1 (by omega), t4]; unfold DR; rw [z0 11 (by omega)]
    · rw [q 1 (by omega), t5]; unfold DRU; rw [z0 12 (by omega)]
    · rw [q 1 (by omega), t6]; unfold DRT; rw [z0 13 (by omega)]
    · rw [q 1 (by omega), t7]
    · rw [hN, e1, gi_ne (by omega), gi_ne (by omega), gi_ne (by omega), gi_eq rfl rfl]
    · rw [hN, gi_ne (by omega), gi_eq rfl rfl]; unfold RCV; rw [z0 14 (by omega)]
    · rw [hN]
      simp (disch := omega) only [gi_eq, gi_ne, gi_sr, gr_si, gr_eq, gr_ne]
      rw [show (6 + 2 : Nat) = 8 from rfl, m8]
      exact t10
  · rw [e1] at hi
    have h6 := hA.1
    have g1 : HOL (opn σ p) = HOL σ := hf 1 (by omega)
    rw [g1] at hj
    have hla := (k6 i (by omega)).1
    have e28 : LA (opn σ p) i = LA σ i := by unfold LA; rw [hf 28 (by omega)]
    have hx : rix (opn σ p) i j = j := by
      unfold rix
      rw [e28, hla, g1, if_pos (by omega), Nat.zero_add]
    rw [hx, opn_off, opn_UB, opn_UP, gi_1 (r0 _ (by omega) (by omega) (by omega)), (hFi i (by omega) hi).1 j hj]
    unfold cod
    rw [Nat.zero_mul, Nat.zero_add]
  · rw [opn_OPN, e1, gi_1 (r0 _ (by omega) (by omega) (by omega))]
    by_cases z : i < NS σ
    · rw [if_pos ⟨rfl, z⟩, (hFi i (by omega) z).2 q hq]
      congr 1
      unfold cnt
      rw [opn_off]
      have g1 : HOL (opn σ p) i = HOL σ i := by unfold HOL; rw [hf 1 (by omega)]
      rw [g1]
      by_cases y : q = p
      · rw [if_pos y]
        have : sm (fun j => if PRD (opn σ p) (UB (opn σ p) (off σ i + j)) = q then 1 else 0) 0 (HOL σ i) = sm (fun _ => 1) 0 (HOL σ i) := sm_cong (fun j _ _ => by rw [opn_UB, opn_PRD, if_pos y.symm])
        rw [this, sm_const, Nat.mul_one]
      · rw [if_neg y]
        have : sm (fun j => if PRD (opn σ p) (UB (opn σ p) (off σ i + j)) = q then 1 else 0) 0 (HOL σ i) = sm (fun _ => 0) 0 (HOL σ i) := sm_cong (fun j _ _ => by rw [opn_UB, opn_PRD, if_neg (fun w => y w.symm)])
        rw [this, sm_const, Nat.mul_zero]
    · rw [if_neg (fun w => z w.2)]
      have := c5 i hi q hq
      rw [h0, if_neg (by omega)] at this
      rw [(gi_1 (hF (11 + 3 * i) (by omega)).1 q), this]
  · obtain ⟨b1, b2, b3, b4, b5, b6⟩ := c7 b hb
    by_cases z : b = 0
    · subst z
      rw [opn_ENT, hN]
      unfold LEF DRO LEA FG at *
      rw [hf 13 (by omega), hf 14 (by omega), hf 15 (by omega), hf 19 (by omega)]
      simp (disch := omega) only [gi_eq, gi_ne, gi_sr, gr_si, gr_eq, gr_ne]
      rw [show (33 + 0 : Nat) = 33 from rfl] at b1 b3 b4 b5 b6 ⊢
      rw [m33, m33, m33, m33, m33]
      exact ⟨b1, trivial, b3, b4, b5, b6⟩
    · have e12 : ENT (opn σ p) b = ENT σ b := opn_b (by omega) z
      rw [e12, gi_1 (r1 _ (by omega) (by omega) (by omega) (by omega)), gi_1 (r1 _ (by omega) (by omega) (by omega) (by omega)), gi_1 (r1 _ (by omega) (by omega) (by omega) (by omega)), gi_1 (r1 _ (by omega) (by omega) (by omega) (by omega)), gi_1 (r1 _ (by omega) (by omega) (by omega) (by omega)), gi_1 (r1 _ (by omega) (by omega) (by omega) (by omega))]
      unfold LEF DRO LEA FG at *
      rw [hf 13 (by omega), hf 14 (by omega), hf 15 (by omega), hf 19 (by omega)]
      exact ⟨b1, b2, b3, b4, b5, b6⟩
  · obtain ⟨b1, b2, b3, b4⟩ := c8 b hb
    have q1 := k5 b hb
    refine ⟨?_, ?_, fun w => ?_, fun w => ?_⟩
    · unfold AHD at *
      rw [hf 16 (by omega), ← b1]
      by_cases z : b = 0
      · subst z
        rw [hN, gr_si, gr_si, gr_si, gr_si, gr_si, gr_si, gr_ne (by omega), gr_si]
        unfold gr; rw [h2]
      · exact gr_2 (r2 _ (by omega)) 8
    · unfold BHD at *
      rw [hf 17 (by omega), ← b2]
      by_cases z : b = 0
      · subst z
        rw [hN, gr_si, gr_si, gr_si, gr_si, gr_si, gr_si, gr_ne (by omega), gr_si]
        unfold gr; rw [h2]
      · exact gr_2 (r2 _ (by omega)) 9
    · unfold AHD at *
      rw [hf 16 (by omega)] at w
      omega
    · unfold FG at *
      rw [hf 19 (by omega)] at w
      omega
  · have e2 : NB (opn σ p) = NB σ := z0 1 (by omega)
    rw [e2] at hb
    have h40 := hA.2.2.1
    by_cases z : b = 0
    · subst z
      rw [opn_ORD, opn_PRD, hN]
      simp (disch := omega) only [gi_eq, gi_ne, gi_sr, gr_si, gr_eq, gr_ne]
      exact ⟨trivial, trivial, fun w => by omega⟩
    · have e10 : PRD (opn σ p) b = PRD σ b := opn_b (by omega) z
      have e11 : ORD (opn σ p) b = ORD σ b := opn_b (by omega) z
      have e9 : SHP (opn σ p) b = SHP σ b := by unfold SHP; rw [hf 9 (by omega)]
      rw [e9, e10, e11, gi_1 (r1 _ (by omega) (by omega) (by omega) (by omega)), gi_1 (r1 _ (by omega) (by omega) (by omega) (by omega)), gr_2 (r2 _ (by omega))]
      exact c9 b hb
/-! the reference opens -/
theorem M_o106 (L : Nat) (hL : L ≤ 360) : ∀ (m j n : Nat) (M : Mm), j + m = L → m < n → gi M 77 7 = nI L → (∀ i, i < j → gi M 97 i = nI 0 ∧ gi M 98 i = nI i) → ∃ M', fX6_open_L106 n (nI j) M = some (nI L, M') ∧ Fr (fun r => r = 97 ∨ r = 98) M M' ∧ ∀ i, i < L → gi M' 97 i = nI 0 ∧ gi M' 98 i = nI i
  | m, j, 0, M, h1, h2, h3, h4 => by omega
  | 0, j, n + 1, M, h1, h2, h3, h4 => by
    refine ⟨M, ?_, Fr.rf, fun i hi => h4 i (by omega)⟩
    rw [fX6_open_L106]
    dsimp only
    rw [h3, if_pos (show nI L ≤ nI j by rw [cLe (by omega) (by omega)]; omega)]
  | m + 1, j, n + 1, M, h1, h2, h3, h4 => by
    obtain ⟨M', q1, q2, q3⟩ := M_o106 L hL m (j + 1) n (si (si M 97 j (nI 0)) 98 j (nI j)) (by omega) (by omega) (by rw [gi_ne (by omega), gi_ne (by omega)]; exact h3) (fun i hi => by
      by_cases z : i = j
      · subst z
        rw [gi_ne (by omega), gi_eq rfl rfl, gi_eq rfl rfl]
        exact ⟨rfl, rfl⟩
      · rw [gi_ne (by omega), gi_ne (by omega), gi_ne (by omega), gi_ne (by omega)]
        exact h4 i (by omega))
    refine ⟨M', ?_, Fr.tr ((Fr.rf.si (by omega)).si (by omega)) q2, q3⟩
    rw [fX6_open_L106]
    dsimp only
    have g := g6 (show j < 360 by omega) (by omega)
    rw [h3, if_neg (show ¬ nI L ≤ nI j by rw [cLe (by omega) (by omega)]; omega), cCl (show j < 2147483648 by omega), if_pos g, if_pos g, Lt1, cAdd, Lt0]
    exact q1
/-- the reference's cells behind the opening -/
theorem EM_opn {p : Nat} (hE : EM σ M) (hW : WF σ) (h0 : OPN σ = 0) (h1 : 1 ≤ NS σ) (hp : p < 6) (hs : ∀ j, j ≠ 6 → j ≠ 7 → j ≠ 24 → j < 42 → gi M' 77 j = gi M 77 j) (h6 : gi M' 77 6 = nI 1) (h7 : gi M' 77 7 = nI (sm (HOL σ) 0 (NS σ))) (h24 : gi M' 77 24 = nI (sm (HOL σ) 0 (NS σ))) (h87 : ∀ i, gi M' 87 i = if i = 0 then nI p else gi M 87 i) (h88 : ∀ i, gi M' 88 i = if i = 0 then nI (sm (HOL σ) 0 (NS σ)) else gi M 88 i) (h89 : ∀ i, gi M' 89 i = if i = 0 then nI (sm (HOL σ) 0 (NS σ)) else gi M 89 i) (hu : ∀ i, i < sm (HOL σ) 0 (NS σ) → gi M' 97 i = nI 0 ∧ gi M' 98 i = nI i) (hr : ∀ k, k ≠ 77 → ¬ (87 ≤ k ∧ k ≤ 89) → k ≠ 97 → k ≠ 98 → M'.1 k = M.1 k) : EM (opn σ p) M' := by
  obtain ⟨hA, hWS, hWG, hWT, hWB, hWK, hWC, -⟩ := id hW
  obtain ⟨k1, k2, k3, k4, k5, k6, k7⟩ := hWC h0
  obtain ⟨⟨c1, c2, c3, c4, c5, c6, c7, c8, c9, c10, c11⟩, c0⟩ := hE
  have z0 : ∀ i, i ≠ 2 ∧ i ≠ 15 → opn σ p 0 i = σ 0 i := fun i hi => opn_0 hi
  have hf : ∀ f, f ≠ 0 ∧ f ≠ 10 ∧ f ≠ 11 ∧ f ≠ 12 ∧ f ≠ 21 ∧ f ≠ 22 → opn σ p f = σ f := fun f h => opn_f h
  refine ⟨⟨?_, MT_c (fun j hj => hs j (by omega) (by omega) (by omega) (by omega)) (fun j hj => z0 j (by omega)) c2, MQ_c (fun j hj => hs j (by omega) (by omega) (by omega) (by omega)) (z0 8 (by omega)) c3, MS_c (fun k hk => hr k (by omega) (by omega) (by omega) (by omega)) (z0 0 (by omega)) (fun f h => hf f (by omega)) c4, MG_c (fun k hk => hr k (by omega) (by omega) (by omega) (by omega)) (fun f h => hf f (by omega)) c5, fun b hb => ?_, fun b hb => ?_, fun b hb => ?_, fun _ j hj => ?_, MK_c (fun k hk => hr k (by omega) (by omega) (by omega) (by omega)) (hs 38 (by omega) (by omega) (by omega) (by omega)) (fun f h => hf f (by omega)) c10, ML_c (hr 102 (by omega) (by omega) (by omega) (by omega)) (hf 27 (by omega)) c11⟩, by rw [hs 0 (by omega) (by omega) (by omega) (by omega), c0]; unfold MIN; rw [z0 7 (by omega)]⟩
  · obtain ⟨p1, p2, p3, p4, p5, p6, p7⟩ := c1
    have e5 : ALL (opn σ p) = 0 := (z0 4 (by omega)).trans k1
    unfold MP
    rw [hs 1 (by omega) (by omega) (by omega) (by omega), h6, h7, hs 12 (by omega) (by omega) (by omega) (by omega), h24, hs 27 (by omega) (by omega) (by omega) (by omega), hs 28 (by omega) (by omega) (by omega) (by omega), opn_OPN, opn_LEN, e5]
    unfold NS NB RT RF at *
    rw [z0 0 (by omega), z0 1 (by omega), z0 5 (by omega), z0 6 (by omega)]
    exact ⟨p1, rfl, rfl, p4, rfl, p6, p7⟩
  · obtain ⟨b1, b2, b3, b4⟩ := c6 b hb
    rw [h89, gi_1 (hr 90 (by omega) (by omega) (by omega) (by omega)), gi_1 (hr 91 (by omega) (by omega) (by omega) (by omega)), gi_1 (hr 92 (by omega) (by omega) (by omega) (by omega))]
    unfold LEF DRO LEA at *
    rw [hf 13 (by omega), hf 14 (by omega), hf 15 (by omega)]
    refine ⟨?_, b2, b3, b4⟩
    by_cases z : b = 0
    · rw [if_pos z, z, opn_ENT]
    · rw [if_neg z, b1]
      unfold ENT
      rw [opn_b (by omega) z]
  · obtain ⟨b1, b2, b3, b4⟩ := c7 b hb
    have q1 := k5 b hb
    unfold AHD BHD EBF FG KEP at *
    rw [hf 16 (by omega), hf 17 (by omega), hf 18 (by omega), hf 19 (by omega), hf 20 (by omega), gi_1 (hr 93 (by omega) (by omega) (by omega) (by omega)), gi_1 (hr 94 (by omega) (by omega) (by omega) (by omega)), gi_1 (hr 96 (by omega) (by omega) (by omega) (by omega))]
    exact ⟨b1, b2, fun w => absurd q1.2.1 w, b4⟩
  · have e2 : NB (opn σ p) = NB σ := z0 1 (by omega)
    rw [e2] at hb
    have e9 : SHP (opn σ p) b = SHP σ b := by unfold SHP; rw [hf 9 (by omega)]
    rw [h88, h87, gi_1 (hr 86 (by omega) (by omega) (by omega) (by omega)), e9]
    have := c8 b hb
    by_cases z : b = 0
    · rw [if_pos z, if_pos z, z, opn_ORD, opn_PRD]
      exact ⟨rfl, rfl, fun w => by omega⟩
    · rw [if_neg z, if_neg z]
      unfold ORD PRD at *
      rw [opn_b (by omega) z, opn_b (by omega) z]
      exact this
  · exact hu j hj
theorem M_o40 {p : Nat} (hE : EM σ M) (hW : WF σ) (h0 : OPN σ = 0) (h1 : 1 ≤ NS σ) (hp : p < 6) : ∀ (m k n : Nat) (N : Mm), k + m = NS σ → m < n → (∀ r, r ≠ 77 → N.1 r = M.1 r) → (∀ j, j ≠ 6 → j ≠ 7 → j < 42 → gi N 77 j = gi M 77 j) → gi N 77 6 = nI 1 → gi N 77 7 = nI (sm (HOL σ) 0 k) → ∃ N', fX6_open_L40 n (nI p) (nI k) N = some (nI (sm (HOL σ) 0 (NS σ)), N') ∧ EM (opn σ p) N' ∧ FM N N' ∧ gi N' 77 43 = gi N 77 43
  | m, k, 0, N, e1, e2, hr, hs, h6, h7 => by omega
  | 0, k, n + 1, N, e1, e2, hr, hs, h6, h7 => by
    have hk : k = NS σ := by omega
    subst hk
    obtain ⟨lb1, lb2⟩ := len_b hW h1
    have hn6 := hW.1.1
    obtain ⟨N', q1, q2, q3⟩ := M_o106 (sm (HOL σ) 0 (NS σ)) lb2 (sm (HOL σ) 0 (NS σ)) 0 400 (si (si (si (si N 87 0 (nI p)) 88 0 (nI (sm (HOL σ) 0 (NS σ)))) 89 0 (nI (sm (HOL σ) 0 (NS σ)))) 77 24 (nI (sm (HOL σ) 0 (NS σ)))) (by omega) (by omega) (by rw [gi_ne (by omega), gi_ne (by omega), gi_ne (by omega), gi_ne (by omega)]; exact h7) (fun i hi => by omega)
    refine ⟨N', ?_, EM_opn hE hW h0 h1 hp (fun j a1 a2 a3 a4 => ?_) ?_ ?_ ?_ (fun i => ?_) (fun i => ?_) (fun i => ?_) q3 (fun k a1 a2 a3 a4 => ?_), Fr.tr ((((Fr.rf.si (by omega)).si (by omega)).si (by omega)).si (by omega)) (q2.mono (fun r hr => by omega)), ?_⟩
    · rw [fX6_open_L40]
      dsimp only
      have hz : (0 : Int32).toNatClampNeg = 0 := rfl
      have g : ¬ ((0 : Int32) < 0 ∨ 40 ≤ 0) := by decide
      rw [hs 1 (by omega) (by omega) (by omega), hE.1.1.1, if_pos (show nI (NS σ) ≤ nI (NS σ) by rw [cLe (by omega) (by omega)]; omega), hz, if_pos g, if_pos g, if_pos g]
      have f7 : gi (si N 87 0 (nI p)) 77 7 = nI (sm (HOL σ) 0 (NS σ)) := by rw [gi_ne (by omega)]; exact h7
      rw [f7]
      have f8 : gi (si (si N 87 0 (nI p)) 88 0 (nI (sm (HOL σ) 0 (NS σ)))) 77 7 = nI (sm (HOL σ) 0 (NS σ)) := by rw [gi_ne (by omega)]; exact f7
      rw [f8]
      have f9 : gi (si (si (si N 87 0 (nI p)) 88 0 (nI (sm (HOL σ) 0 (NS σ)))) 89 0 (nI (sm (HOL σ) 0 (NS σ)))) 77 7 = nI (sm (HOL σ) 0 (NS σ)) := by rw [gi_ne (by omega)]; exact f8
      rw [f9]
      exact q1
    · rw [q2.gi (by omega), gi_ne (by omega), gi_ne (by omega), gi_ne (by omega), gi_ne (by omega)]
      exact hs j a1 a2 a4
    · rw [q2.gi (by omega), gi_ne (by omega), gi_ne (by omega), gi_ne (by omega), gi_ne (by omega)]
      exact h6
    · rw [q2.gi (by omega), gi_ne (by omega), gi_ne (by omega), gi_ne (by omega), gi_ne (by omega)]
      exact h7
    · rw [q2.gi (by omega), gi_eq rfl rfl]
    · rw [q2.gi (by omega), gi_ne (by omega), gi_ne (by omega), gi_ne (by omega), gi_if]
      by_cases z : i = 0
      · rw [if_pos z, if_pos ⟨rfl, z⟩]
      · rw [if_neg z, if_neg (fun w => z w.2)]
        exact gi_1 (hr 87 (by omega)) i
    · rw [q2.gi (by omega), gi_ne (by omega), gi_ne (by omega), gi_if]
      by_cases z : i = 0
      · rw [if_pos z, if_pos ⟨rfl, z⟩]
      · rw [if_neg z, if_neg (fun w => z w.2), gi_ne (by omega)]
        exact gi_1 (hr 88 (by omega)) i
    · rw [q2.gi (by omega), gi_ne (by omega), gi_if]
      by_cases z : i = 0
      · rw [if_pos z, if_pos ⟨rfl, z⟩]
      · rw [if_neg z, if_neg (fun w => z w.2), gi_ne (by omega), gi_ne (by omega)]
        exact gi_1 (hr 89 (by omega)) i
    · rw [(q2 k (by omega)).1, si_1 (by omega), si_1 (by omega), si_1 (by omega), si_1 (by omega)]
      exact hr k a1
    · rw [q2.gi (by omega), gi_ne (by omega), gi_ne (by omega), gi_ne (by omega), gi_ne (by omega)]
  | m + 1, k, n + 1, N, e1, e2, hr, hs, h6, h7 => by
    have hn6 := hW.1.1
    have e78 : gi N 78 k = nI (HOL σ k) := by rw [gi_1 (hr 78 (by omega))]; exact ((hE.1.2.2.2.1 k (by omega)).1 (by omega)).1
    obtain ⟨N', q1, q2, q3, q4⟩ := M_o40 hE hW h0 h1 hp m (k + 1) n (si N 77 7 (nI (sm (HOL σ) 0 (k + 1)))) (by omega) (by omega) (fun r hr2 => by rw [si_1 hr2]; exact hr r hr2) (fun j a1 a2 a3 => by rw [gi_ne (by omega)]; exact hs j a1 a2 a3) (by rw [gi_ne (by omega)]; exact h6) (gi_eq rfl rfl)
    refine ⟨N', ?_, q2, Fr.tr (Fr.rf.si (by omega)) q3, by rw [q4, gi_ne (by omega)]⟩
    rw [fX6_open_L40]
    dsimp only
    rw [hs 1 (by omega) (by omega) (by omega), hE.1.1.1, if_neg (show ¬ nI (NS σ) ≤ nI k by rw [cLe (by omega) (by omega)]; omega), cCl (show k < 2147483648 by omega), if_pos (g6 (show k < 6 by omega) (by omega)), h7, e78, cAdd, show sm (HOL σ) 0 k + HOL σ k = sm (HOL σ) 0 (k + 1) by rw [sm_last, Nat.zero_add], Lt1, cAdd]
    exact q1
theorem W_open (h : IV σ l d o M) (x : Int32) : OK1 (fL_open x) (fX6_open x) M := by
  obtain ⟨hW, hC, hE⟩ := id h
  obtain ⟨hA, hWS, hWG, hWT, hWB, hWK, hWC, -⟩ := id hW
  have h6 := hA.1
  have e0 : ∀ y, fX6_goes 0 y 1 M = some (0, si M 77 43 1) := fun y => G_1
  rcases idx x (n := 6) (by omega) with z | ⟨p, hp, rfl⟩
  · refine E1 h (c := 1) (v := 0) (by omega) (by omega) ?_ ?_
    · unfold fL_open fX5_open
      rw [show fX5_checkIndex x 6 M = some 3 from C_idx3 (n := 6) z, Option.bind_some]
      rfl
    · unfold fX6_open fX6_open_b23 fX6_open_b24
      rw [P_no z, Option.bind_some, e0, e0]
      split
      · split
        · rfl
        · rfl
      · rfl
  · have ci : fX5_checkIndex (nI p) 6 M = some 0 := C_idx0 (n := 6) (by omega) hp
    have b23 : fX6_open_b23 (nI p) 1 M = some (0, si M 77 43 (nI 2)) := by
      unfold fX6_open_b23 fX6_open_b24
      rw [G_2, Option.bind_some]
      rfl
    rcases (show OPN σ = 0 ∨ OPN σ = 1 by have := hA.2.2.2.1; omega) with z | z
    · rcases Nat.eq_zero_or_pos (NS σ) with y | y
      · refine E1 h (c := 2) (v := 0) (by omega) (by omega) ?_ ?_
        · unfold fL_open fX5_open
          rw [ci, Option.bind_some, if_pos rfl, hC.1.2.2.1, z, if_pos (show nI 0 = 0 from rfl), hC.1.1, y, if_pos (show nI 0 = 0 from rfl), Option.bind_some]
          rfl
        · unfold fX6_open
          rw [P_ok hp, Option.bind_some, hE.1.1.2.1, z, if_pos (show nI 0 = 0 from rfl), hE.1.1.1, y, if_pos (show nI 0 ≤ 0 by decide), b23]
      · have hcnt : ∀ i, i < 6 → i < NS σ → ∀ q, q < 6 → gi M (11 + 3 * i) q = nI 0 := fun i hi _ q hq => by
          rw [hC.2.2.2.2.1 i hi q hq, z, if_neg (by omega)]
        obtain ⟨M', q1, q2, q3, q4⟩ := C_fillS hp h6 (fun i hi => (hWS.1 i hi).2.1) (NS σ) 400 M (Nat.le_refl _) (by omega) (fun i hi => ((hC.2.2.1 i (by omega)).1 hi).1) hcnt (fun i a1 a2 => by omega)
        have hn8 : gi M' 0 8 = nI (NS σ) := by rw [q2.gi (by omega)]; exact hC.1.1
        have hr8 : gi M' 8 2 = nI (RCV σ) := by rw [q2.gi (by omega)]; exact hC.2.1.2.2.2.2.2.2.2.2.1
        refine FO (v := nI (sm (HOL σ) 0 (NS σ))) (σ' := opn σ p) hE (EC_opn hC hW z y hp q2 q3 q4 rfl) ?_ (WF_opn hW z y hp) ?_ ?_
        · refine Fr.tr (q2.mono (fun r hr => by omega)) ((((((((Fr.rf.si (by omega)).sr (by omega)).si (by omega)).si (by omega)).si (by omega)).si (by omega)).si (by omega)).si (by omega))
        · unfold fL_open fX5_open fX5_fillSegments fX0_tell fX4_tell
          rw [ci, Option.bind_some, if_pos rfl, hC.1.2.2.1, z, if_pos (show nI 0 = 0 from rfl), hC.1.1, if_neg (show ¬ nI (NS σ) = 0 by rw [Lt0, cEq (by omega) (by omega)]; omega)]
          have qq : fX5_fillSegments_L9 400 (nI p) 0 (nI (NS σ) - 1) M = some (nI (sm (HOL σ) 0 (NS σ)), M') := by
            rw [← q1, Nat.sub_self, sm_0, nO_p y, Lt1, cSub y]
            rfl
          rw [qq, Option.bind_some]
          have hz : (0 : Int32).toNatClampNeg = 0 := rfl
          have g : ¬ ((0 : Int32) < 0 ∨ 40 ≤ 0) := by decide
          dsimp only
          rw [hz, if_pos g, cCl (show p < 2147483648 by omega), if_pos (g6 hp (by omega)), if_pos (show 0 < 40 by omega), Option.bind_some, if_pos g, if_pos (show 2 < 3 by omega)]
          have w1 : gi (si (si (sr (si M' (33 + 0) 2 (-1)) (33 + 0) 1 (some p)) (33 + 0) 3 (nI (sm (HOL σ) 0 (NS σ)))) (33 + 0) 4 (nI (sm (HOL σ) 0 (NS σ)))) 0 8 - 1 = nI (NS σ - 1) := by
            rw [gi_ne (by omega), gi_ne (by omega), gi_sr, gi_ne (by omega), hn8, Lt1, cSub y]
          have w2 : gi (si (si (sr (si M' (33 + 0) 2 (-1)) (33 + 0) 1 (some p)) (33 + 0) 3 (nI (sm (HOL σ) 0 (NS σ)))) (33 + 0) 4 (nI (sm (HOL σ) 0 (NS σ)))) (6 + 2) 2 = nI (RCV σ) := by
            rw [gi_ne (by omega), gi_ne (by omega), gi_sr, gi_ne (by omega)]
            exact hr8
          rw [w1, w2, Option.bind_some]
          rfl
        · intro N hN
          have hN2 := EM_43 hN (x := 0) (j := 43) (by omega)
          obtain ⟨N', r1, r2, r3, r4⟩ := M_o40 hN2 hW z y hp (NS σ) 0 400 (si (si N 77 43 0) 77 6 (nI 1)) (by omega) (by omega) (fun r hr => si_1 hr) (fun j a1 a2 a3 => gi_ne (by omega)) (gi_eq rfl rfl) (by rw [gi_ne (by omega), gi_ne (by omega), hN.1.1.2.2.1, (hWC z).2.2.2.1]; rfl)
          refine ⟨N', ?_, r2, Fr.tr ((Fr.rf.si (by omega)).si (by omega)) r3, by rw [r4, gi_ne (by omega), gi_eq rfl rfl]; rfl⟩
          unfold fX6_open fX6_open_b24
          rw [P_ok hp, Option.bind_some, hN.1.1.2.1, z, if_pos (show nI 0 = 0 from rfl), hN.1.1.1, if_neg (show ¬ nI (NS σ) ≤ 0 by rw [Lt0, cLe (by omega) (by omega)]; omega), G_ok, Option.bind_some]
          dsimp only
          rw [if_neg (by decide)]
          exact r1
    · refine E1 h (c := 2) (v := 0) (by omega) (by omega) ?_ ?_
      · unfold fL_open fX5_open
        rw [ci, Option.bind_some, if_pos rfl, hC.1.2.2.1, z, if_neg (show ¬ nI 1 = 0 by decide), Option.bind_some]
        rfl
      · unfold fX6_open
        rw [P_ok hp, Option.bind_some, hE.1.1.2.1, z, if_neg (show ¬ nI 1 = 0 by decide), b23]
end L75
