/-! ROWS OF THE CLASS ALONE, cut by name out of those of the whole claim -/
section QL
variable {σ σ' : Sp} {M M' : Mm} {l d o l' d' o' : Nat}
theorem g6 {k n : Nat} (h : k < n) (hn : n < 2147483648) : ¬ (nI k < 0 ∨ n ≤ k) := by rw [Lt0, cLt (by omega) (by omega)]; omega
theorem ge0 {x : Int32} (h : ¬ x < 0) : ∃ j : Nat, j < 2147483648 ∧ x = nI j := by
  have h2 : (0 : Int32).toInt = 0 := by decide
  rw [Int32.lt_iff_toInt_lt, h2] at h
  have h3 := Int32.toInt_lt x
  refine ⟨x.toInt.toNat, by omega, ?_⟩
  apply Int32.toInt_inj.mp
  rw [nI_toInt (by omega)]
  omega
theorem WF_g (hW : WF σ) (h0 : ∀ i, i < 5 ∨ i = 15 → σ' 0 i = σ 0 i) (hf : ∀ f, (0 < f ∧ f < 4) ∨ (8 < f ∧ f < 23) ∨ f = 28 → σ' f = σ f) (hG : WG σ') (hT : WT' σ') (hK : WK σ') (hPIG : PIG σ' ≤ 20480 ∧ (OPN σ = 0 → PIG σ' = 0)) (hRT : RT σ' ≤ 10) (hRF : RF σ' ≤ 10) (hMIN : MIN σ' ≤ 9999) (hD : ∀ i, i < 6 → DIR σ' i ≤ 200 ∧ (OPN σ = 0 → DIR σ' i = 0)) : WF σ' := by
  obtain ⟨hA, hWS, hWG, hWT, hWB, hWK, hWC, hWO, hWL, hWU⟩ := id hW
  obtain ⟨a1, a2, a3, a4, a5, a6, a7, a8, a9, a10, a11, a12⟩ := id hA
  have e1 : NS σ' = NS σ := h0 0 (by omega)
  have e2 : NB σ' = NB σ := h0 1 (by omega)
  have e3 : OPN σ' = OPN σ := h0 2 (by omega)
  have e4 : INL σ' = INL σ := h0 3 (by omega)
  have e5 : ALL σ' = ALL σ := h0 4 (by omega)
  have e7 : LEN σ' = LEN σ := h0 15 (by omega)
  have g1 : HOL σ' = HOL σ := hf 1 (by omega)
  have g2 : HEI σ' = HEI σ := hf 2 (by omega)
  have g3 : LIM σ' = LIM σ := hf 3 (by omega)
  have g9 : SHP σ' = SHP σ := hf 9 (by omega)
  have g10 : PRD σ' = PRD σ := hf 10 (by omega)
  have g11 : ORD σ' = ORD σ := hf 11 (by omega)
  have g12 : ENT σ' = ENT σ := hf 12 (by omega)
  have g13 : LEF σ' = LEF σ := hf 13 (by omega)
  have g14 : DRO σ' = DRO σ := hf 14 (by omega)
  have g15 : LEA σ' = LEA σ := hf 15 (by omega)
  have g16 : AHD σ' = AHD σ := hf 16 (by omega)
  have g17 : BHD σ' = BHD σ := hf 17 (by omega)
  have g18 : EBF σ' = EBF σ := hf 18 (by omega)
  have g19 : FG σ' = FG σ := hf 19 (by omega)
  have g20 : KEP σ' = KEP σ := hf 20 (by omega)
  have g21 : UB σ' = UB σ := hf 21 (by omega)
  have g22 : UP σ' = UP σ := hf 22 (by omega)
  have g28 : LA σ' = LA σ := hf 28 (by omega)
  refine ⟨?_, ⟨?_, fun i hi => (hD i hi).1⟩, ?_, ?_, ?_, ?_, ?_, ?_, ?_, ?_⟩
  · unfold WA
    rw [e1, e2, e3, e4, e5, e7]
    exact ⟨a1, a2, a3, a4, hRT, hRF, hMIN, a8, a9, a10, a11, hPIG.1⟩
  · rw [e1, g1, g2, g3, g28]; exact hWS.1
  · exact hG
  · exact hT
  · unfold WB; rw [e2, e5, g9, g10, g11, g12, g13, g14, g15, g18, g19, g20]; exact hWB
  · exact hK
  · intro hz
    rw [e3] at hz
    obtain ⟨c1, c2, c3, c4, c5, c6, c7⟩ := hWC hz
    rw [e5, e4, e7, g12, g16, g17, g19, g28, g11]
    exact ⟨c1, hPIG.2 hz, c3, c4, c5, fun i hi => ⟨(c6 i hi).1, (hD i hi).2 hz⟩, c7⟩
  · unfold WO; rw [e3, e7, e1, e5, e4, e2, g1, g12, g11]; exact hWO
  · have hs : str σ' = str σ := by funext b; unfold str; rw [e7, g18]
    unfold WL; rw [hs, e3, e7, e5, e4, e2, g16, g12, g17]; exact hWL
  · have hs : str σ' = str σ := by funext b; unfold str; rw [e7, g18]
    have hu : ub1 σ' = ub1 σ := by funext b j; unfold ub1; rw [g21]
    unfold WU; rw [hs, hu, e3, e7, e4, e2, g21, g22, g12, g19, g13, g14, g15]; exact hWU
theorem EC_T' (hC : EC σ l d o M) (h6 : NS σ ≤ 6) (h40 : NB σ ≤ 40) (hT : ET σ' l' d' o' M') (hF : Fr (fun k => 6 ≤ k ∧ k < 9) M M') (h0 : ∀ i, i < 9 ∨ i = 15 → σ' 0 i = σ 0 i) (hf : ∀ f, f ≠ 0 → σ' f = σ f) : EC σ' l' d' o' M' := by
  obtain ⟨c1, c2, c3, c4, c5, c6, c7, c8, c9, c10, c11⟩ := hC
  have r1 : ∀ k, ¬ (6 ≤ k ∧ k < 9) → M'.1 k = M.1 k := fun k h => (hF k h).1
  have r2 : ∀ k, ¬ (6 ≤ k ∧ k < 9) → M'.2 k = M.2 k := fun k h => (hF k h).2
  exact ⟨EP_c (r1 0 (by omega)) (r2 0 (by omega)) (fun i _ => h0 i (by omega)) c1, hT, ES_c (fun j hj => r1 _ (by omega)) (h0 0 (by omega)) (hf 1 (by omega)) (hf 2 (by omega)) (hf 3 (by omega)) (hf 4 (by omega)) (hf 28 (by omega)) c3, ER_c (fun j hj => r1 _ (by omega)) h6 (h0 0 (by omega)) (h0 2 (by omega)) (hf 1 (by omega)) (hf 21 (by omega)) (hf 22 (by omega)) (hf 28 (by omega)) c4, EU_c (fun j hj => r1 _ (by omega)) (h0 0 (by omega)) (h0 2 (by omega)) (hf 1 (by omega)) (hf 10 (by omega)) (hf 21 (by omega)) c5, EG_c (fun i hi => r1 _ (by omega)) (hf 5 (by omega)) (hf 6 (by omega)) (hf 7 (by omega)) (hf 8 (by omega)) c6, EB1_c (fun i hi => r1 _ (by omega)) (hf 12 (by omega)) (hf 13 (by omega)) (hf 14 (by omega)) (hf 15 (by omega)) (hf 19 (by omega)) c7, EB2_c (fun i hi => ⟨r1 _ (by omega), r2 _ (by omega)⟩) (h0 4 (by omega)) (hf 10 (by omega)) (hf 16 (by omega)) (hf 17 (by omega)) (hf 18 (by omega)) (hf 19 (by omega)) (hf 20 (by omega)) c8, EB3_c (fun i hi => ⟨r1 _ (by omega), r2 _ (by omega)⟩) h40 (h0 1 (by omega)) (hf 9 (by omega)) (hf 10 (by omega)) (hf 11 (by omega)) c9, EK_c (fun t ht => r1 _ (by omega)) (hf 23 (by omega)) (hf 24 (by omega)) (hf 25 (by omega)) (hf 26 (by omega)) c10, EL_c (r1 5 (by omega)) (hf 27 (by omega)) c11⟩
theorem EC_G (hC : EC σ l d o M) (h6 : NS σ ≤ 6) (h40 : NB σ ≤ 40) (hG : EG σ' M') (hF : Fr (fun k => 27 ≤ k ∧ k < 33) M M') (hf : ∀ f, f < 5 ∨ 8 < f → σ' f = σ f) : EC σ' l d o M' := by
  obtain ⟨c1, c2, c3, c4, c5, c6, c7, c8, c9, c10, c11⟩ := hC
  have r1 : ∀ k, ¬ (27 ≤ k ∧ k < 33) → M'.1 k = M.1 k := fun k h => (hF k h).1
  have r2 : ∀ k, ¬ (27 ≤ k ∧ k < 33) → M'.2 k = M.2 k := fun k h => (hF k h).2
  have h0 : ∀ i, σ' 0 i = σ 0 i := fun i => by rw [hf 0 (by omega)]
  exact ⟨EP_c (r1 0 (by omega)) (r2 0 (by omega)) (fun i _ => h0 i) c1, ET_c (fun t ht => r1 _ (by omega)) (fun i _ _ _ _ _ _ _ => h0 i) c2, ES_c (fun j hj => r1 _ (by omega)) (h0 0) (hf 1 (by omega)) (hf 2 (by omega)) (hf 3 (by omega)) (hf 4 (by omega)) (hf 28 (by omega)) c3, ER_c (fun j hj => r1 _ (by omega)) h6 (h0 0) (h0 2) (hf 1 (by omega)) (hf 21 (by omega)) (hf 22 (by omega)) (hf 28 (by omega)) c4, EU_c (fun j hj => r1 _ (by omega)) (h0 0) (h0 2) (hf 1 (by omega)) (hf 10 (by omega)) (hf 21 (by omega)) c5, hG, EB1_c (fun i hi => r1 _ (by omega)) (hf 12 (by omega)) (hf 13 (by omega)) (hf 14 (by omega)) (hf 15 (by omega)) (hf 19 (by omega)) c7, EB2_c (fun i hi => ⟨r1 _ (by omega), r2 _ (by omega)⟩) (h0 4) (hf 10 (by omega)) (hf 16 (by omega)) (hf 17 (by omega)) (hf 18 (by omega)) (hf 19 (by omega)) (hf 20 (by omega)) c8, EB3_c (fun i hi => ⟨r1 _ (by omega), r2 _ (by omega)⟩) h40 (h0 1) (hf 9 (by omega)) (hf 10 (by omega)) (hf 11 (by omega)) c9, EK_c (fun t ht => r1 _ (by omega)) (hf 23 (by omega)) (hf 24 (by omega)) (hf 25 (by omega)) (hf 26 (by omega)) c10, EL_c (r1 5 (by omega)) (hf 27 (by omega)) c11⟩
theorem EC_pig (hC : EC σ l d o M) (h6 : NS σ ≤ 6) (h40 : NB σ ≤ 40) {v : Nat} : EC (us σ 0 8 v) l d o (si M 0 16 (nO v)) := by
  obtain ⟨c1, c2, c3, c4, c5, c6, c7, c8, c9, c10, c11⟩ := id hC
  have r1 : ∀ k, k ≠ 0 → (si M 0 16 (nO v)).1 k = M.1 k := fun k h => si_1 h
  have hf : ∀ f, f ≠ 0 → us σ 0 8 v f = σ f := fun f h => us_f h
  have h0 : ∀ j, j ≠ 8 → us σ 0 8 v 0 j = σ 0 j := fun j h => us_ne (by omega)
  refine ⟨?_, ET_c (fun t ht => r1 _ (by omega)) (fun j h8 _ _ _ _ _ _ => h0 j h8) c2, ES_c (fun j hj => r1 _ (by omega)) (h0 0 (by omega)) (hf 1 (by omega)) (hf 2 (by omega)) (hf 3 (by omega)) (hf 4 (by omega)) (hf 28 (by omega)) c3, ER_c (fun j hj => r1 _ (by omega)) h6 (h0 0 (by omega)) (h0 2 (by omega)) (hf 1 (by omega)) (hf 21 (by omega)) (hf 22 (by omega)) (hf 28 (by omega)) c4, EU_c (fun j hj => r1 _ (by omega)) (h0 0 (by omega)) (h0 2 (by omega)) (hf 1 (by omega)) (hf 10 (by omega)) (hf 21 (by omega)) c5, EG_c (fun i hi => r1 _ (by omega)) (hf 5 (by omega)) (hf 6 (by omega)) (hf 7 (by omega)) (hf 8 (by omega)) c6, EB1_c (fun i hi => r1 _ (by omega)) (hf 12 (by omega)) (hf 13 (by omega)) (hf 14 (by omega)) (hf 15 (by omega)) (hf 19 (by omega)) c7, EB2_c (fun i hi => ⟨r1 _ (by omega), rfl⟩) (h0 4 (by omega)) (hf 10 (by omega)) (hf 16 (by omega)) (hf 17 (by omega)) (hf 18 (by omega)) (hf 19 (by omega)) (hf 20 (by omega)) c8, EB3_c (fun i hi => ⟨r1 _ (by omega), rfl⟩) h40 (h0 1 (by omega)) (hf 9 (by omega)) (hf 10 (by omega)) (hf 11 (by omega)) c9, EK_c (fun t ht => r1 _ (by omega)) (hf 23 (by omega)) (hf 24 (by omega)) (hf 25 (by omega)) (hf 26 (by omega)) c10, EL_c (r1 5 (by omega)) (hf 27 (by omega)) c11⟩
  obtain ⟨p1, p2, p3, p4, p5, p6, p7, p8, p9⟩ := c1
  unfold EP
  unfold NS NB OPN ALL RT RF MIN PIG INL at *
  rw [h0 0 (by omega), h0 1 (by omega), h0 2 (by omega), h0 3 (by omega), h0 4 (by omega), h0 5 (by omega), h0 6 (by omega), h0 7 (by omega), us_eq rfl rfl]
  simp (disch := omega) only [gi_eq, gi_ne, gi_sr, gr_si, gr_eq, gr_ne]
  exact ⟨p1, p2, p3, p4, p5, p6, p7, trivial, p9⟩
theorem WF_T (hW : WF σ) (hT : WT' σ') (h0 : ∀ i, i < 9 ∨ i = 15 → σ' 0 i = σ 0 i) (hf : ∀ f, f ≠ 0 → σ' f = σ f) : WF σ' := by
  obtain ⟨hA, hWS, hWG, hWT, hWB, hWK, hWC, -⟩ := id hW
  refine WF_g hW (fun i hi => h0 i (by omega)) (fun f h => hf f (by omega)) ?_ hT ?_ ?_ ?_ ?_ ?_ ?_
  · intro p hp
    have := hWG p hp
    unfold WEI THK GRD BAR at *
    rw [hf 5 (by omega), hf 6 (by omega), hf 7 (by omega), hf 8 (by omega)]
    exact this
  · intro t ht
    have := hWK t ht
    unfold HAS TG at *
    rw [hf 23 (by omega), hf 24 (by omega)]
    exact this
  · unfold PIG OPN at *
    rw [h0 8 (by omega)]
    exact ⟨hA.2.2.2.2.2.2.2.2.2.2.2, fun z => (hWC z).2.1⟩
  · unfold RT at *; rw [h0 5 (by omega)]; exact hA.2.2.2.2.1
  · unfold RF at *; rw [h0 6 (by omega)]; exact hA.2.2.2.2.2.1
  · unfold MIN at *; rw [h0 7 (by omega)]; exact hA.2.2.2.2.2.2.1
  · intro i hi
    have h1 := hWS.2 i hi
    refine ⟨?_, fun z => ?_⟩
    · unfold DIR at *; rw [hf 4 (by omega)]; exact h1
    · have := ((hWC z).2.2.2.2.2.1 i hi).2
      unfold DIR at *; rw [hf 4 (by omega)]; exact this
theorem WF_K (hW : WF σ) (hG : WG σ') (hK : WK σ') (hf : ∀ f, ¬ (5 ≤ f ∧ f ≤ 8) → ¬ (23 ≤ f ∧ f ≤ 26) → σ' f = σ f) : WF σ' := by
  obtain ⟨hA, hWS, hWG, hWT, hWB, hWK, hWC, -⟩ := id hW
  have h0 : ∀ i, σ' 0 i = σ 0 i := fun i => by rw [hf 0 (by omega) (by omega)]
  have h4 : ∀ i, DIR σ' i = DIR σ i := fun i => by unfold DIR; rw [hf 4 (by omega) (by omega)]
  refine WF_g hW (fun i hi => h0 i) (fun f h => hf f (by omega) (by omega)) hG ?_ hK ?_ ?_ ?_ ?_ ?_
  · unfold WT' at *
    unfold LK LKU DR DRU DRT NS RCV at *
    rw [h0, h0, h0, h0, h0, h0, h0]
    exact hWT
  · unfold PIG OPN at *
    rw [h0]
    exact ⟨hA.2.2.2.2.2.2.2.2.2.2.2, fun z => (hWC z).2.1⟩
  · unfold RT at *; rw [h0]; exact hA.2.2.2.2.1
  · unfold RF at *; rw [h0]; exact hA.2.2.2.2.2.1
  · unfold MIN at *; rw [h0]; exact hA.2.2.2.2.2.2.1
  · intro i hi
    rw [h4]
    exact ⟨hWS.2 i hi, fun z => ((hWC z).2.2.2.2.2.1 i hi).2⟩
theorem WF_closed (h0 : OPN σ = 0) (a : WA σ) (b : WS σ) (c : WG σ) (d : WT' σ) (e : WB σ) (f : WK σ) (g : WC σ) : WF σ := ⟨a, b, c, d, e, f, g, fun z => by omega, fun z => by omega, fun z => by omega⟩
def nwb (σ : Sp) (s p q : Nat) : Sp := us (us (us (us σ 9 (NB σ) s) 10 (NB σ) p) 11 (NB σ) q) 0 1 (NB σ + 1)
theorem nwb_f {s p q f : Nat} (h0 : f ≠ 0) (h9 : f ≠ 9) (h10 : f ≠ 10) (h11 : f ≠ 11) : nwb σ s p q f = σ f := by
  unfold nwb; rw [us_f h0, us_f h11, us_f h10, us_f h9]
theorem nwb_0 {s p q i : Nat} (h : i ≠ 1) : nwb σ s p q 0 i = σ 0 i := by
  unfold nwb; rw [us_ne (by omega), us_f (by omega), us_f (by omega), us_f (by omega)]
theorem nwb_NB {s p q : Nat} : NB (nwb σ s p q) = NB σ + 1 := us_eq rfl rfl
theorem nwb_b {s p q b : Nat} (h : b ≠ NB σ) : SHP (nwb σ s p q) b = SHP σ b ∧ PRD (nwb σ s p q) b = PRD σ b ∧ ORD (nwb σ s p q) b = ORD σ b := by
  unfold nwb SHP PRD ORD
  simp (disch := omega) only [us_ne, and_self]
theorem nwb_n {s p q : Nat} : SHP (nwb σ s p q) (NB σ) = s ∧ PRD (nwb σ s p q) (NB σ) = p ∧ ORD (nwb σ s p q) (NB σ) = q := by
  unfold nwb SHP PRD ORD
  simp (disch := omega) only [us_eq, us_ne, and_self]
theorem WF_nwb (hW : WF σ) (hn : NB σ < 40) {s p q : Nat} (hs : s < 4) (hp : p < 6) (hq1 : 1 ≤ q) (hq2 : q ≤ 200) : WF (nwb σ s p q) := by
  obtain ⟨hA, hWS, hWG, hWT, hWB, hWK, hWC, hWO, hWL, hWU⟩ := id hW
  obtain ⟨a1, a2, a3, a4, a5, a6, a7, a8, a9, a10, a11, a12⟩ := id hA
  have h0 : ∀ i, i ≠ 1 → nwb σ s p q 0 i = σ 0 i := fun i hi => nwb_0 hi
  have hf : ∀ f, f ≠ 0 → f ≠ 9 → f ≠ 10 → f ≠ 11 → nwb σ s p q f = σ f := fun f h1 h2 h3 h4 => nwb_f h1 h2 h3 h4
  have e1 : NS (nwb σ s p q) = NS σ := h0 0 (by omega)
  have e2 : NB (nwb σ s p q) = NB σ + 1 := nwb_NB
  have e3 : OPN (nwb σ s p q) = OPN σ := h0 2 (by omega)
  have e4 : INL (nwb σ s p q) = INL σ := h0 3 (by omega)
  have e5 : ALL (nwb σ s p q) = ALL σ := h0 4 (by omega)
  have e6 : PIG (nwb σ s p q) = PIG σ := h0 8 (by omega)
  have e7 : LEN (nwb σ s p q) = LEN σ := h0 15 (by omega)
  have g1 : HOL (nwb σ s p q) = HOL σ := hf 1 (by omega) (by omega) (by omega) (by omega)
  have g4 : DIR (nwb σ s p q) = DIR σ := hf 4 (by omega) (by omega) (by omega) (by omega)
  have g12 : ENT (nwb σ s p q) = ENT σ := hf 12 (by omega) (by omega) (by omega) (by omega)
  have g13 : LEF (nwb σ s p q) = LEF σ := hf 13 (by omega) (by omega) (by omega) (by omega)
  have g14 : DRO (nwb σ s p q) = DRO σ := hf 14 (by omega) (by omega) (by omega) (by omega)
  have g15 : LEA (nwb σ s p q) = LEA σ := hf 15 (by omega) (by omega) (by omega) (by omega)
  have g16 : AHD (nwb σ s p q) = AHD σ := hf 16 (by omega) (by omega) (by omega) (by omega)
  have g17 : BHD (nwb σ s p q) = BHD σ := hf 17 (by omega) (by omega) (by omega) (by omega)
  have g18 : EBF (nwb σ s p q) = EBF σ := hf 18 (by omega) (by omega) (by omega) (by omega)
  have g19 : FG (nwb σ s p q) = FG σ := hf 19 (by omega) (by omega) (by omega) (by omega)
  have g20 : KEP (nwb σ s p q) = KEP σ := hf 20 (by omega) (by omega) (by omega) (by omega)
  have g21 : UB (nwb σ s p q) = UB σ := hf 21 (by omega) (by omega) (by omega) (by omega)
  have g22 : UP (nwb σ s p q) = UP σ := hf 22 (by omega) (by omega) (by omega) (by omega)
  have g28 : LA (nwb σ s p q) = LA σ := hf 28 (by omega) (by omega) (by omega) (by omega)
  have hO0 : 0 < NB σ := a2
  have hnew := (hWB.2 (NB σ) hn)
  have hE0 : ENT σ (NB σ) = 0 := hnew.2.2.2.2.2.1 (Nat.le_refl _)
  refine ⟨?_, ?_, ?_, ?_, ?_, ?_, ?_, ?_, ?_, ?_⟩
  · unfold WA
    rw [e1, e2, e3, e4, e5, e6, e7]
    unfold RT RF MIN at *
    rw [h0 5 (by omega), h0 6 (by omega), h0 7 (by omega)]
    exact ⟨a1, by omega, by omega, a4, a5, a6, a7, a8, by omega, a10, a11, a12⟩
  · unfold WS
    rw [e1, g1, g4, g28]
    unfold HEI LIM at *
    rw [hf 2 (by omega) (by omega) (by omega) (by omega), hf 3 (by omega) (by omega) (by omega) (by omega)]
    exact hWS
  · unfold WG WEI THK GRD BAR at *
    rw [hf 5 (by omega) (by omega) (by omega) (by omega), hf 6 (by omega) (by omega) (by omega) (by omega), hf 7 (by omega) (by omega) (by omega) (by omega), hf 8 (by omega) (by omega) (by omega) (by omega)]
    exact hWG
  · unfold WT' at *
    rw [e1]
    unfold LK LKU DR DRU DRT RCV at *
    rw [h0 9 (by omega), h0 10 (by omega), h0 11 (by omega), h0 12 (by omega), h0 13 (by omega), h0 14 (by omega)]
    exact hWT
  · refine ⟨fun b hb => ?_, fun b hb => ?_⟩
    · rw [e2] at hb
      rw [g12]
      by_cases z : b = NB σ
      · subst z
        obtain ⟨n1, n2, n3⟩ := nwb_n (σ := σ) (s := s) (p := p) (q := q)
        rw [n1, n2, n3]
        exact ⟨hp, by omega, by omega, fun _ => ⟨hs, hq1, hq2⟩⟩
      · obtain ⟨n1, n2, n3⟩ := nwb_b (s := s) (p := p) (q := q) z
        rw [n1, n2, n3]
        exact hWB.1 b (by omega)
    · rw [e2, e5, g12, g13, g14, g15, g18, g19, g20]
      obtain ⟨q1, q2, q3, q4, q5, q6, q7⟩ := hWB.2 b hb
      exact ⟨q1, q2, q3, q4, q5, fun w => q6 (by omega), q7⟩
  · unfold WK HAS TG at *
    rw [hf 23 (by omega) (by omega) (by omega) (by omega), hf 24 (by omega) (by omega) (by omega) (by omega)]
    exact hWK
  · intro z
    rw [e3] at z
    rw [e5, e6, e4, e7, g12, g16, g17, g19, g28, g4, (nwb_b (s := s) (p := p) (q := q) (show 0 ≠ NB σ by omega)).2.2]
    exact hWC z
  · intro z
    rw [e3] at z
    obtain ⟨o1, o2, o3, o4, o5, o6⟩ := hWO z
    rw [e7, e1, e5, e4, e2, g1, g12, (nwb_b (s := s) (p := p) (q := q) (show 0 ≠ NB σ by omega)).2.2]
    refine ⟨o1, o2, o3, ?_, o5, fun b hb h1 h2 => ?_⟩
    · rw [show NB σ + 1 - 1 = (NB σ - 1) + 1 by omega, sm_last, ← o4, show 1 + (NB σ - 1) = NB σ by omega, hE0, Nat.add_zero]
    · by_cases y : b = NB σ
      · rw [y, hE0] at h1; omega
      · rw [(nwb_b (s := s) (p := p) (q := q) y).2.2]
        exact o6 b (by omega) h1 h2
  · intro z
    rw [e3] at z
    have hstr : str (nwb σ s p q) = str σ := by funext b; unfold str; rw [e7, g18]
    obtain ⟨l1, l2, l3, l4, l5, l6⟩ := hWL z
    rw [hstr, e7, e5, e4, e2, g16, g12, g17]
    exact ⟨l1, l2, l3, fun b c h1 h2 => by obtain ⟨k1, k2⟩ := l4 b c h1 h2; exact ⟨by omega, k2⟩, fun b c h1 h2 => by obtain ⟨k1, k2⟩ := l5 b c h1 h2; exact ⟨by omega, k2⟩, l6⟩
  · intro z
    rw [e3] at z
    have hstr : str (nwb σ s p q) = str σ := by funext b; unfold str; rw [e7, g18]
    have hu : ub1 (nwb σ s p q) = ub1 σ := by funext b j; unfold ub1; rw [g21]
    obtain ⟨u1, u2, u3, u4, u5, u6⟩ := hWU z
    rw [hstr, hu, e7, e4, e2, g21, g22, g12, g19, g13, g14, g15]
    refine ⟨fun j hj => ⟨by have := (u1 j hj).1; omega, (u1 j hj).2⟩, u2, u3, u4, u5, fun b hb => ?_⟩
    by_cases y : b = NB σ
    · have hz : sm (ub1 σ b) 0 (LEN σ) = 0 := by
        have := sm_bound (f := ub1 σ b) (c := 0) (a := 0) (n := LEN σ) (fun j _ hj => by
          unfold ub1
          rw [if_neg (fun w => by have := (u1 j (by omega)).1; omega)]
          exact Nat.le_refl 0)
        omega
      rw [hz, y, hE0]
      omega
    · exact u6 b (by omega)
def opn (σ : Sp) (p : Nat) : Sp := fun f i =>
  if f = 0 ∧ i = 2 then 1
  else if f = 0 ∧ i = 15 then sm (HOL σ) 0 (NS σ)
  else if f = 10 ∧ i = 0 then p
  else if f = 11 ∧ i = 0 then sm (HOL σ) 0 (NS σ)
  else if f = 12 ∧ i = 0 then sm (HOL σ) 0 (NS σ)
  else if f = 21 then 0
  else if f = 22 then i
  else σ f i
theorem opn_f {p f : Nat} (h : f ≠ 0 ∧ f ≠ 10 ∧ f ≠ 11 ∧ f ≠ 12 ∧ f ≠ 21 ∧ f ≠ 22) : opn σ p f = σ f := by
  funext i
  unfold opn
  rw [if_neg (fun z => h.1 z.1), if_neg (fun z => h.1 z.1), if_neg (fun z => h.2.1 z.1), if_neg (fun z => h.2.2.1 z.1), if_neg (fun z => h.2.2.2.1 z.1), if_neg h.2.2.2.2.1, if_neg h.2.2.2.2.2]
theorem opn_0 {p i : Nat} (h : i ≠ 2 ∧ i ≠ 15) : opn σ p 0 i = σ 0 i := by
  unfold opn
  rw [if_neg (fun z => h.1 z.2), if_neg (fun z => h.2 z.2), if_neg (by omega), if_neg (by omega), if_neg (by omega), if_neg (by omega), if_neg (by omega)]
theorem opn_b {p f i : Nat} (hf : f = 10 ∨ f = 11 ∨ f = 12) (h : i ≠ 0) : opn σ p f i = σ f i := by
  unfold opn
  rw [if_neg (by omega), if_neg (by omega), if_neg (fun z => h z.2), if_neg (fun z => h z.2), if_neg (fun z => h z.2), if_neg (by omega), if_neg (by omega)]
theorem opn_OPN {p : Nat} : OPN (opn σ p) = 1 := rfl
theorem opn_LEN {p : Nat} : LEN (opn σ p) = sm (HOL σ) 0 (NS σ) := rfl
theorem opn_PRD {p : Nat} : PRD (opn σ p) 0 = p := rfl
theorem opn_ORD {p : Nat} : ORD (opn σ p) 0 = sm (HOL σ) 0 (NS σ) := rfl
theorem opn_ENT {p : Nat} : ENT (opn σ p) 0 = sm (HOL σ) 0 (NS σ) := rfl
theorem opn_UB {p i : Nat} : UB (opn σ p) i = 0 := rfl
theorem opn_UP {p i : Nat} : UP (opn σ p) i = i := rfl
theorem len_b (hW : WF σ) (h1 : 1 ≤ NS σ) : 5 ≤ sm (HOL σ) 0 (NS σ) ∧ sm (HOL σ) 0 (NS σ) ≤ 360 := by
  have h6 := hW.1.1
  have a := sm_part (f := HOL σ) (k := 0) (a := 0) (n := NS σ) (by omega) (by omega)
  have b := sm_bound (f := HOL σ) (c := 60) (a := 0) (n := NS σ) (fun k _ hk => (hW.2.1.1 k (by omega)).2.1)
  have c := (hW.2.1.1 0 (by omega)).1
  have : NS σ * 60 ≤ 6 * 60 := Nat.mul_le_mul_right 60 h6
  omega
theorem WF_opn (hW : WF σ) (h0 : OPN σ = 0) (h1 : 1 ≤ NS σ) {p : Nat} (hp : p < 6) : WF (opn σ p) := by
  obtain ⟨hA, hWS, hWG, hWT, hWB, hWK, hWC, -⟩ := id hW
  obtain ⟨a1, a2, a3, a4, a5, a6, a7, a8, a9, a10, a11, a12⟩ := id hA
  obtain ⟨c1, c2, c3, c4, c5, c6, c7⟩ := hWC h0
  obtain ⟨lb1, lb2⟩ := len_b hW h1
  have z0 : ∀ i, i ≠ 2 ∧ i ≠ 15 → opn σ p 0 i = σ 0 i := fun i hi => opn_0 hi
  have hf : ∀ f, f ≠ 0 ∧ f ≠ 10 ∧ f ≠ 11 ∧ f ≠ 12 ∧ f ≠ 21 ∧ f ≠ 22 → opn σ p f = σ f := fun f h => opn_f h
  have e1 : NS (opn σ p) = NS σ := z0 0 (by omega)
  have e2 : NB (opn σ p) = NB σ := z0 1 (by omega)
  have e4 : INL (opn σ p) = 0 := (z0 3 (by omega)).trans c3
  have e5 : ALL (opn σ p) = 0 := (z0 4 (by omega)).trans c1
  have e6 : PIG (opn σ p) = 0 := (z0 8 (by omega)).trans c2
  have g1 : HOL (opn σ p) = HOL σ := hf 1 (by omega)
  have g4 : DIR (opn σ p) = DIR σ := hf 4 (by omega)
  have g13 : LEF (opn σ p) = LEF σ := hf 13 (by omega)
  have g14 : DRO (opn σ p) = DRO σ := hf 14 (by omega)
  have g15 : LEA (opn σ p) = LEA σ := hf 15 (by omega)
  have g16 : AHD (opn σ p) = AHD σ := hf 16 (by omega)
  have g17 : BHD (opn σ p) = BHD σ := hf 17 (by omega)
  have g18 : EBF (opn σ p) = EBF σ := hf 18 (by omega)
  have g19 : FG (opn σ p) = FG σ := hf 19 (by omega)
  have g20 : KEP (opn σ p) = KEP σ := hf 20 (by omega)
  have g28 : LA (opn σ p) = LA σ := hf 28 (by omega)
  have n12 : ∀ b, b ≠ 0 → ENT (opn σ p) b = ENT σ b := fun b hb => opn_b (by omega) hb
  have n10 : ∀ b, b ≠ 0 → PRD (opn σ p) b = PRD σ b := fun b hb => opn_b (by omega) hb
  have n11 : ∀ b, b ≠ 0 → ORD (opn σ p) b = ORD σ b := fun b hb => opn_b (by omega) hb
  have hz : ∀ b, b < 40 → LEF σ b = 0 ∧ DRO σ b = 0 ∧ LEA σ b = 0 := fun b hb => by
    have := (hWB.2 b hb).1
    have := (c5 b hb).1
    omega
  have hs : ∀ b, str (opn σ p) b = if b = 0 then 0 else sm (HOL σ) 0 (NS σ) + EBF σ b := fun b => by unfold str; rw [opn_LEN, g18]
  refine ⟨?_, ?_, ?_, ?_, ?_, ?_, fun z => by rw [opn_OPN] at z; omega, fun _ => ?_, fun _ => ?_, fun _ => ?_⟩
  · unfold WA
    rw [e1, e2, opn_OPN, e4, e5, e6, opn_LEN]
    unfold RT RF MIN at *
    rw [z0 5 (by omega), z0 6 (by omega), z0 7 (by omega)]
    exact ⟨a1, a2, a3, by omega, a5, a6, a7, fun _ => h1, by omega, by omega, lb2, by omega⟩
  · unfold WS
    rw [e1, g1, g4, g28]
    unfold HEI LIM at *
    rw [hf 2 (by omega), hf 3 (by omega)]
    exact hWS
  · unfold WG WEI THK GRD BAR at *
    rw [hf 5 (by omega), hf 6 (by omega), hf 7 (by omega), hf 8 (by omega)]
    exact hWG
  · unfold WT' at *
    rw [e1]
    unfold LK LKU DR DRU DRT RCV at *
    rw [z0 9 (by omega), z0 10 (by omega), z0 11 (by omega), z0 12 (by omega), z0 13 (by omega), z0 14 (by omega)]
    exact hWT
  · refine ⟨fun b hb => ?_, fun b hb => ?_⟩
    · rw [e2] at hb
      by_cases z : b = 0
      · subst z
        rw [opn_PRD, opn_ENT, opn_ORD]
        exact ⟨hp, Nat.le_refl _, lb2, fun q => by omega⟩
      · rw [n10 b z, n12 b z, n11 b z]
        unfold SHP at *
        rw [hf 9 (by omega)]
        exact hWB.1 b hb
    · rw [e2, e5, g13, g14, g15, g18, g19, g20]
      obtain ⟨q1, q2, q3, q4, q5, q6, q7⟩ := hWB.2 b hb
      obtain ⟨r1, r2, r3⟩ := hz b hb
      have r4 := c5 b hb
      by_cases z : b = 0
      · subst z
        rw [opn_ENT]
        exact ⟨by omega, lb2, by omega, q4, q5, fun w => by omega, fun w => by omega⟩
      · rw [n12 b z]
        exact ⟨q1, q2, by omega, q4, q5, q6, q7⟩
  · unfold WK HAS TG at *
    rw [hf 23 (by omega), hf 24 (by omega)]
    exact hWK
  · rw [opn_LEN, opn_ENT, opn_ORD, e1, g1, e5, e2, e4, opn_ENT]
    refine ⟨rfl, rfl, rfl, ?_, by omega, fun b hb h2 h3 => ?_⟩
    · have := sm_bound (f := ENT (opn σ p)) (c := 0) (a := 1) (n := NB σ - 1) (fun k hk hk2 => by
        rw [n12 k (by omega), (c5 k (by omega)).1]
        exact Nat.le_refl 0)
      omega
    · rw [n12 b h3, (c5 b (by omega)).1] at h2
      omega
  · rw [e4, e5, e2, opn_LEN, g16, g17]
    refine ⟨(c5 0 (by omega)).2.1, fun b hb h2 => ?_, fun b hb => ?_, fun b c hb h2 => ?_, fun b c hb h2 => ?_, ?_⟩
    · rw [n12 b h2]
      have := c5 b hb
      omega
    · have := c5 b hb
      by_cases z : b = 0
      · exact ⟨fun _ => Or.inr z, fun _ => this.2.2.1⟩
      · rw [n12 b z]
        exact ⟨fun _ => Or.inl this.1, fun _ => this.2.2.1⟩
    · have := (c5 b hb).2.1
      omega
    · have := (c5 b hb).2.2.1
      omega
    · rw [hs, if_pos rfl, opn_ENT]
      omega
  · rw [opn_LEN, e4, e2, g19, g13, g14, g15, opn_ENT]
    refine ⟨fun j hj => ?_, fun j hj => ?_, rfl, ?_, fun j hj _ => ?_, fun b hb => ?_⟩
    · rw [opn_UB, opn_UP, opn_ENT]
      exact ⟨by omega, hj⟩
    · rw [opn_UB, opn_UP, opn_UB, opn_UP]
      omega
    · rw [opn_UP]
      omega
    · rw [opn_UB]
      exact (c5 0 (by omega)).2.2.2
    · obtain ⟨r1, r2, r3⟩ := hz b (by omega)
      rw [r1, r2, r3]
      by_cases z : b = 0
      · subst z
        rw [opn_ENT]
        have : sm (ub1 (opn σ p) 0) 0 (sm (HOL σ) 0 (NS σ)) = sm (fun _ => 1) 0 (sm (HOL σ) 0 (NS σ)) := sm_cong (fun j _ _ => rfl)
        rw [this, sm_const]
        omega
      · rw [n12 b z, (c5 b (by omega)).1]
        have := sm_bound (f := ub1 (opn σ p) b) (c := 0) (a := 0) (n := sm (HOL σ) 0 (NS σ)) (fun j _ _ => by
          unfold ub1
          rw [opn_UB, if_neg (fun w => z w.symm)]
          exact Nat.le_refl 0)
        omega
/-! the class fills its segments -/
theorem C_fill_L {i s p H : Nat} (hi : i < 6) (hp : p < 6) (hH : H ≤ 60) : ∀ (m j n : Nat) (M : Mm), j + m = H → m < n → gi M (9 + 3 * i) 3 = nI H → (∀ j', j' < j → gi M (10 + 3 * i) j' = nI (s + j')) → ∃ M', fX2_fill_L2 n i (nI s) (nI p) (nI j) M = some M' ∧ Fr (fun k => k = 10 + 3 * i ∨ k = 11 + 3 * i) M M' ∧ M'.2 = M.2 ∧ (∀ j', j' < H → gi M' (10 + 3 * i) j' = nI (s + j')) ∧ ∀ q, gi M' (11 + 3 * i) q = if q = p then nI H else gi M (11 + 3 * i) q
  | m, j, 0, M, h1, h2, h3, h4 => by omega
  | 0, j, n + 1, M, h1, h2, h3, h4 => by
    refine ⟨si M (11 + 3 * i) p (nI H), ?_, Fr.rf.si (by omega), rfl, fun j' hj => ?_, fun q => ?_⟩
    · rw [fX2_fill_L2]
      dsimp only
      rw [if_pos hi, h3, if_pos (show nI H ≤ nI j by rw [cLe (by omega) (by omega)]; omega), cCl (show p < 2147483648 by omega), if_pos (g6 hp (by omega))]
    · rw [gi_ne (by omega)]
      exact h4 j' (by omega)
    · rw [gi_if]
      by_cases z : q = p
      · rw [if_pos ⟨rfl, z⟩, if_pos z]
      · rw [if_neg (fun w => z w.2), if_neg z]
  | m + 1, j, n + 1, M, h1, h2, h3, h4 => by
    obtain ⟨M', q1, q2, q3, q4, q5⟩ := C_fill_L hi hp hH m (j + 1) n (si M (10 + 3 * i) j (nI (s + j))) (by omega) (by omega) (by rw [gi_ne (by omega)]; exact h3) (fun j' hj => by
      by_cases z : j' = j
      · rw [gi_eq rfl z, z]
      · rw [gi_ne (by omega)]
        exact h4 j' (by omega))
    refine ⟨M', ?_, Fr.tr (Fr.rf.si (by omega)) q2, q3, q4, fun q => by rw [q5, gi_ne (by omega)]⟩
    rw [fX2_fill_L2]
    dsimp only
    rw [if_pos hi, h3, if_neg (show ¬ nI H ≤ nI j by rw [cLe (by omega) (by omega)]; omega), cCl (show j < 2147483648 by omega), if_pos (g6 (show j < 60 by omega) (by omega)), cAdd, Lt1, cAdd]
    exact q1
/-- the segments from k on are filled -/
def Fi (σ : Sp) (p k : Nat) (M : Mm) : Prop := ∀ i, k ≤ i → i < NS σ → (∀ j, j < HOL σ i → gi M (10 + 3 * i) j = nI (off σ i + j)) ∧ ∀ q, q < 6 → gi M (11 + 3 * i) q = nI (if q = p then HOL σ i else 0)
theorem C_fillS {p : Nat} (hp : p < 6) (h6 : NS σ ≤ 6) (hH : ∀ i, i < NS σ → HOL σ i ≤ 60) : ∀ (k n : Nat) (M : Mm), k ≤ NS σ → k < n → (∀ i, i < NS σ → gi M (9 + 3 * i) 3 = nI (HOL σ i)) → (∀ i, i < 6 → i < k → ∀ q, q < 6 → gi M (11 + 3 * i) q = nI 0) → Fi σ p k M → ∃ M', fX5_fillSegments_L9 n (nI p) (nI (sm (HOL σ) k (NS σ - k))) (nO k) M = some (nI (sm (HOL σ) 0 (NS σ)), M') ∧ Fr (fun r => 9 ≤ r ∧ r < 9 + 3 * NS σ ∧ r % 3 ≠ 0) M M' ∧ M'.2 = M.2 ∧ Fi σ p 0 M'
  | k, 0, M, h1, h2, h3, h4, h5 => by omega
  | 0, n + 1, M, h1, h2, h3, h4, h5 => by
    refine ⟨M, ?_, Fr.rf, rfl, h5⟩
    rw [fX5_fillSegments_L9]
    dsimp only
    rw [nO_0, if_pos (show nM < 0 from nM_lt (a := 0) (by omega))]
    rfl
  | k + 1, n + 1, M, h1, h2, h3, h4, h5 => by
    have hk : k < NS σ := by omega
    have hh := hH k hk
    have hoff : sm (HOL σ) (k + 1) (NS σ - (k + 1)) = off σ k := by unfold off; rw [show NS σ - (k + 1) = NS σ - 1 - k by omega]
    obtain ⟨M1, q1, q2, q3, q4, q5⟩ := C_fill_L (i := k) (s := off σ k) (p := p) (H := HOL σ k) (by omega) hp hh (HOL σ k) 0 400 M (by omega) (by omega) (h3 k hk) (fun j hj => by omega)
    have e9 : ∀ i, i < NS σ → gi M1 (9 + 3 * i) 3 = nI (HOL σ i) := fun i hi => by rw [q2.gi (by omega)]; exact h3 i hi
    obtain ⟨M2, r1, r2, r3, r4⟩ := C_fillS hp h6 hH k n M1 (by omega) (by omega) e9 (fun i hi hik q hq => by rw [q2.gi (by omega)]; exact h4 i hi (by omega) q hq) (fun i hi hi2 => by
      by_cases z : i = k
      · subst z
        refine ⟨q4, fun q hq => ?_⟩
        rw [q5]
        by_cases y : q = p
        · rw [if_pos y, if_pos y]
        · rw [if_neg y, if_neg y, h4 i (by omega) (by omega) q hq]
      · obtain ⟨f1, f2⟩ := h5 i (by omega) hi2
        exact ⟨fun j hj => by rw [q2.gi (by omega)]; exact f1 j hj, fun q hq => by rw [q2.gi (by omega)]; exact f2 q hq⟩)
    refine ⟨M2, ?_, Fr.tr (q2.mono (fun r hr => by omega)) r2, r3.trans q3, r4⟩
    rw [fX5_fillSegments_L9]
    dsimp only
    have g := g6 (show k < 6 by omega) (by omega)
    rw [nO_s, if_neg (show ¬ nI k < 0 by rw [Lt0, cLt (by omega) (by omega)]; omega), cCl (show k < 2147483648 by omega), if_pos g, hoff]
    unfold fX2_fill
    rw [Lt0, q1, Option.bind_some, if_pos (show ¬ (nI k < nI 0 ∨ 6 ≤ k) from g), e9 k hk, cAdd]
    have hnext : sm (HOL σ) k (NS σ - k) = off σ k + HOL σ k := (off_s hk).symm
    rw [← hnext, show nI k + -1 = nO k from ?_]
    · exact r1
    · show nI k + nM = nO k
      cases k with
      | zero => rfl
      | succ k => rw [cPr, nO_s]
theorem opn_off {p : Nat} (i : Nat) : off (opn σ p) i = off σ i := off_c (opn_0 (by omega)) (opn_f (by omega)) i
/-- the class's cells behind the opening -/
theorem EC_opn {p : Nat} (hC : EC σ l d o M) (hW : WF σ) (h0 : OPN σ = 0) (h1 : 1 ≤ NS σ) (hp : p < 6) (hF : Fr (fun r => 9 ≤ r ∧ r < 9 + 3 * NS σ ∧ r % 3 ≠ 0) M M') (h2 : M'.2 = M.2) (hFi : Fi σ p 0 M') {N : Mm}
    (hN : N = si (si (si (si (si (si (sr (si M' (33 + 0) 2 (-1)) (33 + 0) 1 (some p)) (33 + 0) 3 (nI (sm (HOL σ) 0 (NS σ)))) (33 + 0) 4 (nI (sm (HOL σ) 0 (NS σ)))) (6 + 2) 0 (nI (NS σ - 1))) (6 + 2) 1 10) (6 + 2) 2 (nI (RCV σ))) 0 10 (nI 1)) :
    EC (opn σ p) l d o N := by
  obtain ⟨hA, hWS, hWG, hWT, hWB, hWK, hWC, -⟩ := id hW
  obtain ⟨k1, k2, k3, k4, k5, k6, k7⟩ := hWC h0
  obtain ⟨c1, c2, c3, c4, c5, c6, c7, c8, c9, c10, c11⟩ := id hC
  have z0 : ∀ i, i ≠ 2 ∧ i ≠ 15 → opn σ p 0 i = σ 0 i := fun i hi => opn_0 hi
  have hf : ∀ f, f ≠ 0 ∧ f ≠ 10 ∧ f ≠ 11 ∧ f ≠ 12 ∧ f ≠ 21 ∧ f ≠ 22 → opn σ p f = σ f := fun f h => opn_f h
  have e1 : NS (opn σ p) = NS σ := z0 0 (by omega)
  have r0 : ∀ k, k ≠ 0 → k ≠ 33 → k ≠ 8 → N.1 k = M'.1 k := fun k q1 q2 q3 => by rw [hN, si_1 (by omega), si_1 (by omega), si_1 (by omega), si_1 (by omega), si_1 (by omega), si_1 (by omega), sr_1, si_1 (by omega)]
  have r1 : ∀ k, k ≠ 0 → k ≠ 33 → k ≠ 8 → ¬ (9 ≤ k ∧ k < 27 ∧ k % 3 ≠ 0) → N.1 k = M.1 k := fun k q1 q2 q3 q4 => (r0 k q1 q2 q3).trans (hF k (by have := hA.1; omega)).1
  have r2 : ∀ k, k ≠ 33 → N.2 k = M.2 k := fun k q1 => by rw [hN, si_2, si_2, si_2, si_2, si_2, si_2, sr_2 (by omega), si_2, h2]
  have m0 : ∀ j, gi M' 0 j = gi M 0 j := fun j => hF.gi (by omega) j
  have m8 : ∀ j, gi M' 8 j = gi M 8 j := fun j => hF.gi (by omega) j
  have m33 : ∀ j, gi M' 33 j = gi M 33 j := fun j => hF.gi (by omega) j
  refine ⟨?_, ?_, ES_c (fun j hj => r1 _ (by omega) (by omega) (by omega) (by omega)) e1 (hf 1 (by omega)) (hf 2 (by omega)) (hf 3 (by omega)) (hf 4 (by omega)) (hf 28 (by omega)) c3, fun _ i hi j hj => ?_, fun i hi q hq => ?_, EG_c (fun i hi => r1 _ (by omega) (by omega) (by omega) (by omega)) (hf 5 (by omega)) (hf 6 (by omega)) (hf 7 (by omega)) (hf 8 (by omega)) c6, fun b hb => ?_, fun b hb => ?_, fun b hb => ?_, EK_c (fun t ht => r1 _ (by omega) (by omega) (by omega) (by omega)) (hf 23 (by omega)) (hf 24 (by omega)) (hf 25 (by omega)) (hf 26 (by omega)) c10, EL_c (r1 5 (by omega) (by omega) (by omega) (by omega)) (hf 27 (by omega)) c11⟩
  · obtain ⟨p1, p2, p3, p4, p5, p6, p7, p8, p9⟩ := c1
    unfold EP
    rw [e1, opn_OPN, hN]
    unfold NB ALL RT RF MIN PIG INL at *
    rw [z0 1 (by omega), z0 3 (by omega), z0 4 (by omega), z0 5 (by omega), z0 6 (by omega), z0 7 (by omega), z0 8 (by omega)]
    simp (disch := omega) only [gi_eq, gi_ne, gi_sr, gr_si, gr_eq, gr_ne, m0]
    have : gr M' 0 11 = gr M 0 11 := by unfold gr; rw [h2]
    rw [this]
    exact ⟨p1, p2, trivial, p4, p5, p6, p7, p8, p9⟩
  · obtain ⟨t1, t2, t3, t4, t5, t6, t7, t8, t9, t10⟩ := c2
    have q : ∀ t, t < 2 → ∀ j, gi N (6 + t) j = gi M (6 + t) j := fun t ht j => gi_1 (r1 _ (by omega) (by omega) (by omega) (by omega)) j
    refine ⟨?_, ?_, ?_, ?_, ?_, ?_, ?_, fun w => ?_, ?_, ?_⟩
    · rw [q 0 (by omega), t1]; unfold LK; rw [z0 9 (by omega)]
    · rw [q 0 (by omega), t2]; unfold LKU; rw [z0 10 (by omega)]
    · rw [q 0 (by omega), t3]
    · rw [q 1 (by omega), t4]; unfold DR; rw [z0 11 (by omega)]
    · rw [q 1 (by omega), t5]; unfold DRU; rw [z0 12 (by omega)]
    · rw [q 1 (by omega), t6]; unfold DRT; rw [z0 13 (by omega)]
    · rw [q 1 (by omega), t7]
    · rw [hN, e1, gi_ne (by omega), gi_ne (by omega), gi_ne (by omega), gi_eq rfl rfl]
    · rw [hN, gi_ne (by omega), gi_eq rfl rfl]; unfold RCV; rw [z0 14 (by omega)]
    · rw [hN]
      simp (disch := omega) only [gi_eq, gi_ne, gi_sr, gr_si, gr_eq, gr_ne]
      rw [show (6 + 2 : Nat) = 8 from rfl, m8]
      exact t10
  · rw [e1] at hi
    have h6 := hA.1
    have g1 : HOL (opn σ p) = HOL σ := hf 1 (by omega)
    rw [g1] at hj
    have hla := (k6 i (by omega)).1
    have e28 : LA (opn σ p) i = LA σ i := by unfold LA; rw [hf 28 (by omega)]
    have hx : rix (opn σ p) i j = j := by
      unfold rix
      rw [e28, hla, g1, if_pos (by omega), Nat.zero_add]
    rw [hx, opn_off, opn_UB, opn_UP, gi_1 (r0 _ (by omega) (by omega) (by omega)), (hFi i (by omega) hi).1 j hj]
    unfold cod
    rw [Nat.zero_mul, Nat.zero_add]
  · rw [opn_OPN, e1, gi_1 (r0 _ (by omega) (by omega) (by omega))]
    by_cases z : i < NS σ
    · rw [if_pos ⟨rfl, z⟩, (hFi i (by omega) z).2 q hq]
      congr 1
      unfold cnt
      rw [opn_off]
      have g1 : HOL (opn σ p) i = HOL σ i := by unfold HOL; rw [hf 1 (by omega)]
      rw [g1]
      by_cases y : q = p
      · rw [if_pos y]
        have : sm (fun j => if PRD (opn σ p) (UB (opn σ p) (off σ i + j)) = q then 1 else 0) 0 (HOL σ i) = sm (fun _ => 1) 0 (HOL σ i) := sm_cong (fun j _ _ => by rw [opn_UB, opn_PRD, if_pos y.symm])
        rw [this, sm_const, Nat.mul_one]
      · rw [if_neg y]
        have : sm (fun j => if PRD (opn σ p) (UB (opn σ p) (off σ i + j)) = q then 1 else 0) 0 (HOL σ i) = sm (fun _ => 0) 0 (HOL σ i) := sm_cong (fun j _ _ => by rw [opn_UB, opn_PRD, if_neg (fun w => y w.symm)])
        rw [this, sm_const, Nat.mul_zero]
    · rw [if_neg (fun w => z w.2)]
      have := c5 i hi q hq
      rw [h0, if_neg (by omega)] at this
      rw [(gi_1 (hF (11 + 3 * i) (by omega)).1 q), this]
  · obtain ⟨b1, b2, b3, b4, b5, b6⟩ := c7 b hb
    by_cases z : b = 0
    · subst z
      rw [opn_ENT, hN]
      unfold LEF DRO LEA FG at *
      rw [hf 13 (by omega), hf 14 (by omega), hf 15 (by omega), hf 19 (by omega)]
      simp (disch := omega) only [gi_eq, gi_ne, gi_sr, gr_si, gr_eq, gr_ne]
      rw [show (33 + 0 : Nat) = 33 from rfl] at b1 b3 b4 b5 b6 ⊢
      rw [m33, m33, m33, m33, m33]
      exact ⟨b1, trivial, b3, b4, b5, b6⟩
    · have e12 : ENT (opn σ p) b = ENT σ b := opn_b (by omega) z
      rw [e12, gi_1 (r1 _ (by omega) (by omega) (by omega) (by omega)), gi_1 (r1 _ (by omega) (by omega) (by omega) (by omega)), gi_1 (r1 _ (by omega) (by omega) (by omega) (by omega)), gi_1 (r1 _ (by omega) (by omega) (by omega) (by omega)), gi_1 (r1 _ (by omega) (by omega) (by omega) (by omega)), gi_1 (r1 _ (by omega) (by omega) (by omega) (by omega))]
      unfold LEF DRO LEA FG at *
      rw [hf 13 (by omega), hf 14 (by omega), hf 15 (by omega), hf 19 (by omega)]
      exact ⟨b1, b2, b3, b4, b5, b6⟩
  · obtain ⟨b1, b2, b3, b4⟩ := c8 b hb
    have q1 := k5 b hb
    refine ⟨?_, ?_, fun w => ?_, fun w => ?_⟩
    · unfold AHD at *
      rw [hf 16 (by omega), ← b1]
      by_cases z : b = 0
      · subst z
        rw [hN, gr_si, gr_si, gr_si, gr_si, gr_si, gr_si, gr_ne (by omega), gr_si]
        unfold gr; rw [h2]
      · exact gr_2 (r2 _ (by omega)) 8
    · unfold BHD at *
      rw [hf 17 (by omega), ← b2]
      by_cases z : b = 0
      · subst z
        rw [hN, gr_si, gr_si, gr_si, gr_si, gr_si, gr_si, gr_ne (by omega), gr_si]
        unfold gr; rw [h2]
      · exact gr_2 (r2 _ (by omega)) 9
    · unfold AHD at *
      rw [hf 16 (by omega)] at w
      omega
    · unfold FG at *
      rw [hf 19 (by omega)] at w
      omega
  · have e2 : NB (opn σ p) = NB σ := z0 1 (by omega)
    rw [e2] at hb
    have h40 := hA.2.2.1
    by_cases z : b = 0
    · subst z
      rw [opn_ORD, opn_PRD, hN]
      simp (disch := omega) only [gi_eq, gi_ne, gi_sr, gr_si, gr_eq, gr_ne]
      exact ⟨trivial, trivial, fun w => by omega⟩
    · have e10 : PRD (opn σ p) b = PRD σ b := opn_b (by omega) z
      have e11 : ORD (opn σ p) b = ORD σ b := opn_b (by omega) z
      have e9 : SHP (opn σ p) b = SHP σ b := by unfold SHP; rw [hf 9 (by omega)]
      rw [e9, e10, e11, gi_1 (r1 _ (by omega) (by omega) (by omega) (by omega)), gi_1 (r1 _ (by omega) (by omega) (by omega) (by omega)), gr_2 (r2 _ (by omega))]
      exact c9 b hb
theorem C_press_L (hC : EC σ l d o M) (hW : WF σ) (ho : OPN σ = 1) {s u : Nat} (hs : s < NS σ) (hu : u ≤ 10) : ∀ (m k n y : Nat), k + m = NS σ → m < n → y = hed σ (NS σ - 1) + sm (fun i => frc σ i u) s (k - s) → s ≤ k → fX5_pressure_L48 n (nI s) (nI u) (nI y) (nI k) M = some (0, nI (prs σ s u))
  | m, k, 0, y, h1, h2, h3, h4 => by omega
  | 0, k, n + 1, y, h1, h2, h3, h4 => by
    have h6 := hW.1.1
    have hk : k = NS σ := by omega
    have hn := ned_le hW ho (s := s) hu
    have hy : y = ned σ s u := by unfold ned; rw [h3, hk]
    rw [fX5_pressure_L48]
    dsimp only
    rw [hC.1.1, if_pos (show nI (NS σ) ≤ nI k by rw [cLe (by omega) (by omega)]; omega), hy, C_atBeg hC hW ho hs hn, Option.bind_some]
    rfl
  | m + 1, k, n + 1, y, h1, h2, h3, h4 => by
    have h6 := hW.1.1
    rw [fX5_pressure_L48]
    dsimp only
    rw [hC.1.1, if_neg (show ¬ nI (NS σ) ≤ nI k by rw [cLe (by omega) (by omega)]; omega), cCl (show k < 2147483648 by omega), if_pos (g6 (show k < 6 by omega) (by omega)), C_friction hC hW ho (show k < NS σ by omega) hu, Option.bind_some, cAdd, Lt1, cAdd]
    exact C_press_L hC hW ho hs hu m (k + 1) n _ (by omega) (by omega) (by
      rw [show k + 1 - s = (k - s) + 1 by omega, sm_last, h3, show s + (k - s) = k by omega, Nat.add_assoc]) (by omega)
theorem C_unit_L (hC : EC σ l d o M) (hW : WF σ) (ho : OPN σ = 1) : ∀ (k n x : Nat), k ≤ NS σ → k < n → x < 2147483648 → fX5_unit_L25 n (nI x) (nO k) M = some (0, if x < sm (HOL σ) 0 k then nI (UB σ (off σ (k - 1) + x)) else nM)
  | k, 0, x, h1, h2, h3 => by omega
  | 0, n + 1, x, h1, h2, h3 => by
    rw [fX5_unit_L25]
    dsimp only
    rw [nO_0, if_pos (show nM < 0 from nM_lt (a := 0) (by omega)), sm_0, if_neg (by omega)]
    rfl
  | k + 1, n + 1, x, h1, h2, h3 => by
    have h6 := hW.1.1
    have h40 := hW.1.2.2.1
    have hk : k < NS σ := by omega
    obtain ⟨w1, w2, -⟩ := hW.2.1.1 k hk
    have e3 := ((hC.2.2.1 k (by omega)).1 hk).1
    have g := g6 (show k < 6 by omega) (by omega)
    rw [fX5_unit_L25]
    dsimp only
    rw [nO_s, if_neg (show ¬ nI k < 0 by rw [Lt0, cLt (by omega) (by omega)]; omega), cCl (show k < 2147483648 by omega), if_pos g, if_pos g, if_pos g, e3, sm_last, Nat.zero_add, show k + 1 - 1 = k by omega]
    by_cases z : HOL σ k ≤ x
    · rw [if_pos (show nI (HOL σ k) ≤ nI x by rw [cLe (by omega) (by omega)]; exact z), cSub z, show nI k + -1 = nO k from ?_, C_unit_L hC hW ho k n (x - HOL σ k) (by omega) (by omega) (by omega)]
      · by_cases y : x - HOL σ k < sm (HOL σ) 0 k
        · rw [if_pos y, if_pos (show x < sm (HOL σ) 0 k + HOL σ k by omega)]
          have hk0 : 0 < k := by
            rcases Nat.eq_zero_or_pos k with q | q
            · rw [q, sm_0] at y; omega
            · exact q
          have := off_p (σ := σ) (s := k - 1) (by omega)
          rw [show k - 1 + 1 = k by omega] at this
          rw [show off σ (k - 1) + (x - HOL σ k) = off σ k + x by omega]
        · rw [if_neg y, if_neg (show ¬ x < sm (HOL σ) 0 k + HOL σ k by omega)]
      · show nI k + nM = nO k
        cases k with
        | zero => rfl
        | succ k => rw [cPr, nO_s]
    · have hx : x < HOL σ k := by omega
      have hL := WF_off hW ho hk hx
      obtain ⟨u1, u2, u3, u4, u5⟩ := WF_unit hW ho hL
      rw [if_neg (show ¬ nI (HOL σ k) ≤ nI x by rw [cLe (by omega) (by omega)]; exact z), C_fromEnd hC.2.2.1 hC.2.2.2.1 hW.2.1 ho h6 hk hx, Option.bind_some, C_batchOf hC.1 u1 h40 u2, Option.bind_some, Option.bind_some, if_pos u4, (hC.2.2.2.2.2.2.1 _ u4).1, if_pos (show x < sm (HOL σ) 0 k + HOL σ k by omega)]
theorem sm5 (f : Nat → Nat) : sm f 0 5 = f 0 + f 1 + f 2 + f 3 + f 4 := by
  show f 0 + (f 1 + (f 2 + (f 3 + (f 4 + 0)))) = _
  omega
theorem C_bal (hE : EL σ M) : fX5_latestBalance M = some (nI (sm (BAL σ) 0 5)) := by
  have h0 := hE 0 (by omega)
  have h1 := hE 1 (by omega)
  have h2 := hE 2 (by omega)
  have h3 := hE 3 (by omega)
  have h4 := hE 4 (by omega)
  have key : ∀ (m k n x : Nat), k + m = 5 → m < n → fX5_latestBalance_L4 n (nI x) (nI k) M = some (nI (x + sm (BAL σ) k m)) := by
    intro m
    induction m with
    | zero =>
      intro k n x q1 q2
      obtain ⟨n', rfl⟩ : ∃ n', n = n' + 1 := ⟨n - 1, by omega⟩
      rw [fX5_latestBalance_L4]
      dsimp only
      rw [if_pos (show (5 : Int32) ≤ nI k by rw [show (5 : Int32) = nI 5 from rfl, cLe (by omega) (by omega)]; omega), sm_0, Nat.add_zero]
    | succ m ih =>
      intro k n x q1 q2
      obtain ⟨n', rfl⟩ : ∃ n', n = n' + 1 := ⟨n - 1, by omega⟩
      rw [fX5_latestBalance_L4]
      dsimp only
      rw [if_neg (show ¬ (5 : Int32) ≤ nI k by rw [show (5 : Int32) = nI 5 from rfl, cLe (by omega) (by omega)]; omega), cCl (show k < 2147483648 by omega), if_pos (g6 (show k < 5 by omega) (by omega)), hE k (by omega), cAdd, Lt1, cAdd, ih (k + 1) n' _ (by omega) (by omega), sm_s, Nat.add_assoc]
  unfold fX5_latestBalance
  rw [Lt0, key 5 0 400 0 (by omega) (by omega), Nat.zero_add]
theorem C_spl (hE : EK σ M) : fX5_spilledInAll M = some (nI (sm (SPL σ) 0 4)) := by
  have key : ∀ (m k n x : Nat), k + m = 4 → m < n → fX5_spilledInAll_L4 n (nI x) (nI k) M = some (nI (x + sm (SPL σ) k m)) := by
    intro m
    induction m with
    | zero =>
      intro k n x q1 q2
      obtain ⟨n', rfl⟩ : ∃ n', n = n' + 1 := ⟨n - 1, by omega⟩
      rw [fX5_spilledInAll_L4]
      dsimp only
      rw [if_pos (show (4 : Int32) ≤ nI k by rw [show (4 : Int32) = nI 4 from rfl, cLe (by omega) (by omega)]; omega), sm_0, Nat.add_zero]
    | succ m ih =>
      intro k n x q1 q2
      obtain ⟨n', rfl⟩ : ∃ n', n = n' + 1 := ⟨n - 1, by omega⟩
      rw [fX5_spilledInAll_L4]
      dsimp only
      rw [if_neg (show ¬ (4 : Int32) ≤ nI k by rw [show (4 : Int32) = nI 4 from rfl, cLe (by omega) (by omega)]; omega), cCl (show k < 2147483648 by omega), if_pos (g6 (show k < 4 by omega) (by omega)), (hE k (by omega)).2.2.2, cAdd, Lt1, cAdd, ih (k + 1) n' _ (by omega) (by omega), sm_s, Nat.add_assoc]
  unfold fX5_spilledInAll
  rw [Lt0, key 4 0 400 0 (by omega) (by omega), Nat.zero_add]
def wtf (σ : Sp) (s b : Nat) : Nat := if SHP σ b = s then ORD σ b - ENT σ b else 0
def clf (σ : Sp) (s b : Nat) : Nat := if SHP σ b = s then ENT σ b else 0
def wt (σ : Sp) (s : Nat) : Nat := sm (wtf σ s) 1 (NB σ - 1)
def cl (σ : Sp) (s : Nat) : Nat := sm (clf σ s) 1 (NB σ - 1)
theorem wt_le (hW : WF σ) (s : Nat) : wt σ s ≤ 14040 := by
  have h40 := hW.1.2.2.1
  have a := sm_bound (f := wtf σ s) (c := 360) (a := 1) (n := NB σ - 1) (fun b h1 h2 => by
    have := (hW.2.2.2.2.1.1 b (by omega)).2.2.1
    unfold wtf
    split <;> omega)
  unfold wt
  omega
theorem cl_le (hW : WF σ) (s : Nat) : cl σ s ≤ 14040 := by
  have h40 := hW.1.2.2.1
  have a := sm_bound (f := clf σ s) (c := 360) (a := 1) (n := NB σ - 1) (fun b h1 h2 => by
    have := (hW.2.2.2.2.1.2 b (by omega)).2.1
    unfold clf
    split <;> omega)
  unfold cl
  omega
theorem C_wt_L (hC : EC σ l d o M) (hW : WF σ) {s : Nat} (hs : s < 4) : ∀ (m k n x : Nat), k + m = NB σ → m < n → 1 ≤ k → fX5_waitingFor_L4 n (nI s) (nI x) (nI k) M = some (nI (x + sm (wtf σ s) k m))
  | m, k, 0, x, h1, h2, h3 => by omega
  | 0, k, n + 1, x, h1, h2, h3 => by
    have h40 := hW.1.2.2.1
    rw [fX5_waitingFor_L4]
    dsimp only
    rw [hC.1.2.1, if_pos (show nI (NB σ) ≤ nI k by rw [cLe (by omega) (by omega)]; omega), sm_0, Nat.add_zero]
  | m + 1, k, n + 1, x, h1, h2, h3 => by
    have h40 := hW.1.2.2.1
    have g := g6 (show k < 40 by omega) (by omega)
    have e2 := (hC.2.2.2.2.2.2.2.2.1 k (by omega)).2.2 h3
    have hw := ((hW.2.2.2.2.1.1 k (by omega)).2.2.2 h3).1
    have cwa := C_waiting hC.2.2.2.2.2.2.1 hC.2.2.2.2.2.2.2.2.1 hW.2.2.2.2.1 (show k < NB σ by omega) h40
    rw [fX5_waitingFor_L4]
    dsimp only
    rw [hC.1.2.1, if_neg (show ¬ nI (NB σ) ≤ nI k by rw [cLe (by omega) (by omega)]; omega), cCl (show k < 2147483648 by omega), if_pos g, if_pos g, e2, cwa, Option.bind_some, Lt0, Lt1, cAdd, cAdd, cAdd, C_wt_L hC hW hs m (k + 1) n _ (by omega) (by omega) (by omega), C_wt_L hC hW hs m (k + 1) n _ (by omega) (by omega) (by omega), sm_s]
    unfold wtf
    by_cases z : SHP σ k = s
    · rw [if_pos (show nI (SHP σ k) = nI s by rw [z]), if_pos z, Nat.add_assoc]
    · rw [if_neg (show ¬ nI (SHP σ k) = nI s by rw [cEq (by omega) (by omega)]; exact z), if_neg z, Nat.add_assoc]
theorem C_wt (hC : EC σ l d o M) (hW : WF σ) {s : Nat} (hs : s < 4) : fX5_waitingFor (nI s) M = some (nI (wt σ s)) := by
  have h40 := hW.1.2.2.1
  have h1 := hW.1.2.1
  unfold fX5_waitingFor
  rw [Lt0, Lt1, C_wt_L hC hW hs (NB σ - 1) 1 400 0 (by omega) (by omega) (by omega), Nat.zero_add]
  rfl
theorem C_cl_L (hC : EC σ l d o M) (hW : WF σ) {s : Nat} (hs : s < 4) : ∀ (m k n x : Nat), k + m = NB σ → m < n → 1 ≤ k → fX5_claimOf_L4 n (nI s) (nI x) (nI k) M = some (nI (x + sm (clf σ s) k m))
  | m, k, 0, x, h1, h2, h3 => by omega
  | 0, k, n + 1, x, h1, h2, h3 => by
    have h40 := hW.1.2.2.1
    rw [fX5_claimOf_L4]
    dsimp only
    rw [hC.1.2.1, if_pos (show nI (NB σ) ≤ nI k by rw [cLe (by omega) (by omega)]; omega), sm_0, Nat.add_zero]
  | m + 1, k, n + 1, x, h1, h2, h3 => by
    have h40 := hW.1.2.2.1
    have g := g6 (show k < 40 by omega) (by omega)
    have e2 := (hC.2.2.2.2.2.2.2.2.1 k (by omega)).2.2 h3
    have e4 := (hC.2.2.2.2.2.2.1 k (by omega)).2.1
    have hw := ((hW.2.2.2.2.1.1 k (by omega)).2.2.2 h3).1
    rw [fX5_claimOf_L4]
    dsimp only
    rw [hC.1.2.1, if_neg (show ¬ nI (NB σ) ≤ nI k by rw [cLe (by omega) (by omega)]; omega), cCl (show k < 2147483648 by omega), if_pos g, if_pos g, e2, e4, Lt0, Lt1, cAdd, cAdd, cAdd, C_cl_L hC hW hs m (k + 1) n _ (by omega) (by omega) (by omega), C_cl_L hC hW hs m (k + 1) n _ (by omega) (by omega) (by omega), sm_s]
    unfold clf
    by_cases z : SHP σ k = s
    · rw [if_pos (show nI (SHP σ k) = nI s by rw [z]), if_pos z, Nat.add_assoc]
    · rw [if_neg (show ¬ nI (SHP σ k) = nI s by rw [cEq (by omega) (by omega)]; exact z), if_neg z, Nat.add_assoc]
theorem C_cl (hC : EC σ l d o M) (hW : WF σ) {s : Nat} (hs : s < 4) : fX5_claimOf (nI s) M = some (nI (1 + cl σ s)) := by
  have h40 := hW.1.2.2.1
  have h1 := hW.1.2.1
  unfold fX5_claimOf
  rw [Lt1, C_cl_L hC hW hs (NB σ - 1) 1 400 1 (by omega) (by omega) (by omega)]
  rfl
def shr (σ : Sp) (s x : Nat) : Nat := if sm (wt σ) 0 4 ≤ x then wt σ s else min (wt σ s) (x * (1 + cl σ s) / sm (fun t => 1 + cl σ t) 0 4)
theorem C_sh_L (hC : EC σ l d o M) (hW : WF σ) {s x : Nat} (hs : s < 4) (hx : x ≤ 9999) : ∀ (m k n w c : Nat), k + m = 4 → m < n → w = sm (wt σ) 0 k → c = sm (fun t => 1 + cl σ t) 0 k → fX5_share_L23 n (nI s) (nI x) (nI w) (nI c) (nI k) M = some (0, nI (shr σ s x))
  | m, k, 0, w, c, h1, h2, h3, h4 => by omega
  | 0, k, n + 1, w, c, h1, h2, h3, h4 => by
    have hk : k = 4 := by omega
    subst hk
    have b1 := wt_le hW s
    have b2 := cl_le hW s
    have bw := sm_bound (f := wt σ) (c := 14040) (a := 0) (n := 4) (fun k _ _ => wt_le hW k)
    have bc := sm_bound (f := fun t => 1 + cl σ t) (c := 14041) (a := 0) (n := 4) (fun k _ _ => by have := cl_le hW k; omega)
    have bp := sm_part (f := fun t => 1 + cl σ t) (k := 0) (a := 0) (n := 4) (by omega) (by omega)
    have hm : x * (1 + cl σ s) ≤ 9999 * (14041) := Nat.mul_le_mul hx (by omega)
    rw [fX5_share_L23]
    dsimp only
    rw [if_pos (show (4 : Int32) ≤ nI 4 by decide), C_wt hC hW hs, Option.bind_some, C_cl hC hW hs, Option.bind_some]
    unfold shr
    rw [← h3, ← h4]
    by_cases z : w ≤ x
    · rw [if_pos (show nI w ≤ nI x by rw [cLe (by omega) (by omega)]; exact z), if_pos z]
    · rw [if_neg (show ¬ nI w ≤ nI x by rw [cLe (by omega) (by omega)]; exact z), if_neg z, if_pos (show (0 : Int32) < nI c by rw [Lt0, cLt (by omega) (by omega)]; omega), if_pos (show ¬ nI c = 0 by rw [Lt0, cEq (by omega) (by omega)]; omega), cMul, cDiv (by omega) (by omega) (by omega), cMin (by omega) (by have := Nat.div_le_self (x * (1 + cl σ s)) c; omega)]
  | m + 1, k, n + 1, w, c, h1, h2, h3, h4 => by
    rw [fX5_share_L23]
    dsimp only
    rw [if_neg (show ¬ (4 : Int32) ≤ nI k by rw [show (4 : Int32) = nI 4 from rfl, cLe (by omega) (by omega)]; omega), C_wt hC hW (show k < 4 by omega), Option.bind_some, C_cl hC hW (show k < 4 by omega), Option.bind_some, cAdd, cAdd, Lt1, cAdd]
    exact C_sh_L hC hW hs hx m (k + 1) n _ _ (by omega) (by omega) (by rw [sm_last, Nat.zero_add, h3]) (by rw [sm_last, Nat.zero_add, h4])
theorem dsj (hW : WF σ) (ho : OPN σ = 1) : ∀ (n b c : Nat), str σ b + str σ c < n → b < NB σ → c < NB σ → 1 ≤ ENT σ b → 1 ≤ ENT σ c → b ≠ c → str σ b + ENT σ b ≤ str σ c ∨ str σ c + ENT σ c ≤ str σ b
  | 0, b, c, h, _, _, _, _, _ => by omega
  | n + 1, b, c, h, hb, hc, eb, ec, hne => by
    have h40 := hW.1.2.2.1
    have hL := hW.2.2.2.2.2.2.2.2.1 ho
    have hO := hW.2.2.2.2.2.2.2.1 ho
    have key : ∀ b c, str σ b + str σ c < n + 1 → b < NB σ → c < NB σ → 1 ≤ ENT σ b → 1 ≤ ENT σ c → b ≠ c → str σ b ≤ str σ c → str σ b + ENT σ b ≤ str σ c ∨ str σ c + ENT σ c ≤ str σ b := by
      intro b c h hb hc eb ec hne hle
      have hlen : 5 ≤ LEN σ := by
        have := (len_b hW (hW.1.2.2.2.2.2.2.2.1 ho)).1
        rw [hO.1]; exact this
      have s0 : ∀ x, x ≠ 0 → LEN σ ≤ str σ x := fun x hx => by unfold str; rw [if_neg hx]; omega
      have z0 : str σ 0 = 0 := by unfold str; rw [if_pos rfl]
      have hc0 : c ≠ 0 := fun z => by
        subst z
        rw [z0] at hle
        have := s0 b hne
        omega
      have hca : AHD σ c ≠ 0 := fun z => by have := (hL.2.1 c (by omega) hc0).mp z; omega
      obtain ⟨k1, k2, k3, k4⟩ := hL.2.2.2.1 c (AHD σ c - 1) (by omega) (by omega)
      by_cases hab : AHD σ c - 1 = b
      · rw [hab] at k3
        exact Or.inl (by omega)
      · rcases dsj hW ho n b (AHD σ c - 1) (by omega) hb k1 eb k4 (fun z => hab z.symm) with q | q
        · exact Or.inl (by omega)
        · have heq : str σ b = str σ c := by omega
          have hb0 : b ≠ 0 := fun z => by
            subst z
            rw [z0] at heq
            have := s0 c hc0
            omega
          have hba : AHD σ b ≠ 0 := fun z => by have := (hL.2.1 b (by omega) hb0).mp z; omega
          obtain ⟨j1, j2, j3, j4⟩ := hL.2.2.2.1 b (AHD σ b - 1) (by omega) (by omega)
          by_cases haa : AHD σ b - 1 = AHD σ c - 1
          · rw [haa, k2] at j2
            omega
          · rcases dsj hW ho n (AHD σ b - 1) (AHD σ c - 1) (by omega) j1 k1 j4 k4 haa with r | r
            · omega
            · omega
    rcases Nat.le_total (str σ b) (str σ c) with q | q
    · exact key b c h hb hc eb ec hne q
    · rcases key c b (by omega) hc hb ec eb (fun z => hne z.symm) q with r | r
      · exact Or.inr r
      · exact Or.inl r
theorem anti {f : Nat → Nat} : ∀ (m a : Nat), (∀ j, a ≤ j → j < a + m → f j = 0 ∨ f j = 1) → (∀ j, a ≤ j → j + 1 < a + m → f j = 0 → f (j + 1) = 0) → ∀ j, a ≤ j → j < a + m → (f j = 1 ↔ j < a + sm f a m)
  | 0, a, h1, h2, j, h3, h4 => by omega
  | m + 1, a, h1, h2, j, h3, h4 => by
    rw [sm_s]
    have ih := anti m (a + 1) (fun j q1 q2 => h1 j (by omega) (by omega)) (fun j q1 q2 => h2 j (by omega) (by omega))
    rcases h1 a (Nat.le_refl a) (by omega) with z | z
    · have all : ∀ t, a + t < a + (m + 1) → f (a + t) = 0 := by
        intro t
        induction t with
        | zero => intro _; exact z
        | succ t iht => intro ht; exact h2 (a + t) (by omega) (by omega) (iht (by omega))
      have hj := all (j - a) (by omega)
      rw [show a + (j - a) = j by omega] at hj
      have hs : sm f (a + 1) m = 0 := by
        have := sm_bound (f := f) (c := 0) (a := a + 1) (n := m) (fun k q1 q2 => by
          have := all (k - a) (by omega)
          rw [show a + (k - a) = k by omega] at this
          omega)
        omega
      rw [hj, z, hs]
      omega
    · rw [z]
      by_cases y : j = a
      · rw [y, z]
        omega
      · have := ih j (by omega) (by omega)
        rw [this]
        omega
theorem sm_lt {f g : Nat → Nat} {a n i : Nat} (h : ∀ k, a ≤ k → k < a + n → f k ≤ g k) (h1 : a ≤ i) (h2 : i < a + n) (h3 : f i < g i) : sm f a n < sm g a n := by
  obtain ⟨u, rfl⟩ : ∃ u, i = a + u := ⟨i - a, by omega⟩
  obtain ⟨v, rfl⟩ : ∃ v, n = u + (v + 1) := ⟨n - u - 1, by omega⟩
  rw [sm_app f, sm_app g, sm_s f, sm_s g]
  have a1 := sm_le (f := f) (g := g) (n := u) (a := a) (fun k q1 q2 => h k (by omega) (by omega))
  have a2 := sm_le (f := f) (g := g) (n := v) (a := a + u + 1) (fun k q1 q2 => h k (by omega) (by omega))
  omega
def mu (σ : Sp) (b : Nat) : Nat := sm (fun c => if 1 ≤ ENT σ c ∧ str σ b ≤ str σ c then 1 else 0) 0 40
theorem mu_le (b : Nat) : mu σ b ≤ 40 := by
  have := sm_bound (f := fun c => if 1 ≤ ENT σ c ∧ str σ b ≤ str σ c then 1 else 0) (c := 1) (a := 0) (n := 40) (fun k _ _ => by split <;> omega)
  unfold mu
  omega
theorem mu_lt {b c : Nat} (hb : b < 40) (eb : 1 ≤ ENT σ b) (h : str σ b < str σ c) : mu σ c < mu σ b := by
  unfold mu
  refine sm_lt (i := b) (fun k _ _ => ?_) (by omega) (by omega) ?_
  · by_cases z : 1 ≤ ENT σ k ∧ str σ c ≤ str σ k
    · rw [if_pos z, if_pos ⟨z.1, by omega⟩]
      exact Nat.le_refl 1
    · rw [if_neg z]
      exact Nat.zero_le _
  · rw [if_neg (fun z => by omega), if_pos ⟨eb, Nat.le_refl _⟩]
    exact Nat.lt_succ_self 0
theorem mu_pos {b : Nat} (hb : b < 40) (eb : 1 ≤ ENT σ b) : 0 < mu σ b := by
  unfold mu
  have s := sm_part (f := fun c => if 1 ≤ ENT σ c ∧ str σ b ≤ str σ c then 1 else 0) (k := b) (a := 0) (n := 40) (by omega) (by omega)
  rw [if_pos ⟨eb, Nat.le_refl _⟩] at s
  exact s
set_option maxHeartbeats 4000000 in
theorem C_anew_L (hC : EC σ l d o M) (hW : WF σ) (ho : OPN σ = 1) : ∀ (n x b q : Nat), mu σ b < n → x < 2147483648 → b < NB σ → 1 ≤ ENT σ b → q ≤ LEN σ → (∀ j, j < q → str σ (UB σ j) + UP σ j < str σ b) → (∀ j, q ≤ j → j < LEN σ → str σ b ≤ str σ (UB σ j) + UP σ j) →
    fX5_unitAnew_L25 n (nI x) (some b) M = some (0, if q + x < LEN σ then nI (UB σ (q + x)) else nM) := by
  intro n
  induction n with
  | zero =>
    intro x b q h1
    omega
  | succ n ih =>
    intro x b q h1 hx hb eb hq hl hr
    obtain ⟨hA, hWS, hWG, hWT, hWB, hWK, -, hWO, hWL, hWU⟩ := id hW
    have h40 := hA.2.2.1
    have h360 := hA.2.2.2.2.2.2.2.2.2.2.1
    obtain ⟨l1, l2, l3, l4, l5, l6⟩ := hWL ho
    obtain ⟨u1, u2, u3, u4, u5, u6⟩ := hWU ho
    have hcount := u6 b hb
    have w2 := hWB.2 b (by omega)
    have cin := C_inPipe hC.2.2.2.2.2.2.1 hWB (show b < 40 by omega)
    obtain ⟨e0, -⟩ := hC.2.2.2.2.2.2.1 b (by omega)
    obtain ⟨-, e9, -⟩ := hC.2.2.2.2.2.2.2.1 b (by omega)
    -- who isn't of b is behind it
    have beh : ∀ j, q ≤ j → j < LEN σ → UB σ j ≠ b → str σ b + ENT σ b ≤ str σ (UB σ j) := fun j j1 j2 j3 => by
      obtain ⟨g1, g2⟩ := u1 j j2
      rcases dsj hW ho (str σ b + str σ (UB σ j) + 1) b (UB σ j) (by omega) hb g1 eb (by omega) (fun z => j3 z.symm) with r | r
      · exact r
      · have := hr j j1 j2
        omega
    have mono : ∀ j j', j < j' → j' < LEN σ → str σ (UB σ j) + UP σ j < str σ (UB σ j') + UP σ j' := fun j j' g1 g2 => by
      have := val_lt u2 (j' - j - 1) j (by omega)
      rw [show j + (j' - j - 1) + 1 = j' by omega] at this
      exact this
    -- the units of b
    have hin : sm (ub1 σ b) 0 (LEN σ) = sm (ub1 σ b) q (LEN σ - q) := by
      have := sm_app (ub1 σ b) q (LEN σ - q) 0
      rw [show q + (LEN σ - q) = LEN σ by omega, Nat.zero_add] at this
      have z : sm (ub1 σ b) 0 q = 0 := by
        have := sm_bound (f := ub1 σ b) (c := 0) (a := 0) (n := q) (fun j _ hj => by
          have g := hl j (by omega)
          unfold ub1
          rw [if_neg (fun y => by rw [y] at g; omega)]
          exact Nat.le_refl 0)
        omega
      omega
    have hub : ∀ j, q ≤ j → j < LEN σ → (UB σ j = b ↔ j < q + sm (ub1 σ b) 0 (LEN σ)) := fun j j1 j2 => by
      have := anti (f := ub1 σ b) (LEN σ - q) q (fun k _ _ => by unfold ub1; split; exact Or.inr rfl; exact Or.inl rfl) (fun k k1 k2 k3 => by
        have kn : UB σ k ≠ b := fun y => by unfold ub1 at k3; rw [if_pos y] at k3; omega
        have g := beh k k1 (by omega) kn
        have g2 := mono k (k + 1) (by omega) (by omega)
        have g3 := (u1 (k + 1) (by omega)).2
        unfold ub1
        rw [if_neg (fun y => by rw [y] at g2 g3; omega)]) j j1 (by omega)
      rw [← hin] at this
      rw [← this]
      unfold ub1
      by_cases y : UB σ j = b
      · rw [if_pos y]
        exact ⟨fun _ => rfl, fun _ => y⟩
      · rw [if_neg y]
        exact ⟨fun z => absurd z y, fun z => by omega⟩
    have hne : ENT σ b - LEF σ b - DRO σ b - LEA σ b = sm (ub1 σ b) 0 (LEN σ) := by omega
    have hbnd : q + sm (ub1 σ b) 0 (LEN σ) ≤ LEN σ := by
      have := sm_bound (f := ub1 σ b) (c := 1) (a := q) (n := LEN σ - q) (fun j _ _ => by unfold ub1; split <;> omega)
      omega
    rw [hne] at cin
    generalize sm (ub1 σ b) 0 (LEN σ) = nb at *
    rw [fX5_unitAnew_L25]
    dsimp only
    rw [if_neg (by simp), Option.bind_some, if_pos (show b < 40 by omega), cin, Option.bind_some]
    by_cases z : nb ≤ x
    · rw [if_pos (show nI nb ≤ nI x by rw [cLe (by omega) (by omega)]; exact z), Option.bind_some, e9, cSub z]
      by_cases y : BHD σ b = 0
      · have hbI : b = INL σ := by
          rcases (l3 b (by omega)).mp y with w | w
          · omega
          · exact w
        have hend : LEN σ ≤ q + nb := by
          rcases Nat.lt_or_ge (q + nb) (LEN σ) with w | w
          · have g := beh (q + nb) (by omega) w (fun v => by have := (hub (q + nb) (by omega) w).mp v; omega)
            have g2 : str σ (UB σ (q + nb)) + UP σ (q + nb) ≤ str σ (UB σ (LEN σ - 1)) + UP σ (LEN σ - 1) := by
              rcases Nat.lt_or_ge (q + nb) (LEN σ - 1) with v | v
              · exact Nat.le_of_lt (mono _ _ v (by omega))
              · rw [show q + nb = LEN σ - 1 by omega]
                exact Nat.le_refl _
            rw [u3] at g2
            rw [hbI] at g
            omega
          · exact w
        rw [y, op1_0, if_neg (show ¬ q + x < LEN σ by omega)]
        cases n with
        | zero =>
          have := mu_pos (σ := σ) (show b < 40 by omega) eb
          omega
        | succ n =>
          rw [fX5_unitAnew_L25]
          rfl
      · obtain ⟨k1, k2, k3⟩ := l5 b (BHD σ b - 1) (by omega) (by omega)
        obtain ⟨m1', m2', m3', m4'⟩ := l4 (BHD σ b - 1) b (by omega) k2
        rw [op1_p y, ih (x - nb) (BHD σ b - 1) (q + nb) (by have := mu_lt (σ := σ) (b := b) (c := BHD σ b - 1) (by omega) eb (by omega); omega) (by omega) k1 k3 hbnd (fun j hj => ?_) (fun j j1 j2 => ?_), show q + nb + (x - nb) = q + x by omega]
        · rcases Nat.lt_or_ge j q with w | w
          · have := hl j w
            omega
          · have v := (hub j w (by omega)).mpr hj
            have g := (u1 j (by omega)).2
            rw [v] at g ⊢
            omega
        · have := beh j (by omega) j2 (fun v => by have := (hub j (by omega) j2).mp v; omega)
          omega
    · have hlt : q + x < LEN σ := by omega
      rw [if_neg (show ¬ nI nb ≤ nI x by rw [cLe (by omega) (by omega)]; exact z), e0, if_pos hlt, (hub (q + x) (by omega) hlt).mpr (by omega)]
end QL
