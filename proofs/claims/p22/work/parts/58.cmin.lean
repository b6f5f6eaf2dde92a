/-! THE CLASS'S MINUTE -/
section Mi
variable {σ σ' : Sp} {M M' : Mm} {l d o : Nat}
/-- only dirt, balances and the numbers told or found change -/
theorem WF_c (hW : WF σ) (h0 : ∀ i, i ≠ 5 → i ≠ 6 → i ≠ 7 → σ' 0 i = σ 0 i) (hf : ∀ f, f ≠ 0 → f ≠ 4 → f ≠ 27 → σ' f = σ f) (hRT : RT σ' ≤ 10) (hRF : RF σ' ≤ 10) (hMIN : MIN σ' ≤ 9999) (hD : ∀ i, i < 6 → DIR σ' i ≤ 200 ∧ (OPN σ = 0 → DIR σ' i = 0)) : WF σ' := by
  obtain ⟨hA, hWS, hWG, hWT, hWB, hWK, hWC, hWO, hWL, hWU⟩ := id hW
  obtain ⟨a1, a2, a3, a4, a5, a6, a7, a8, a9, a10, a11, a12⟩ := id hA
  have e1 : NS σ' = NS σ := h0 0 (by omega) (by omega) (by omega)
  have e2 : NB σ' = NB σ := h0 1 (by omega) (by omega) (by omega)
  have e3 : OPN σ' = OPN σ := h0 2 (by omega) (by omega) (by omega)
  have e4 : INL σ' = INL σ := h0 3 (by omega) (by omega) (by omega)
  have e5 : ALL σ' = ALL σ := h0 4 (by omega) (by omega) (by omega)
  have e6 : PIG σ' = PIG σ := h0 8 (by omega) (by omega) (by omega)
  have e7 : LEN σ' = LEN σ := h0 15 (by omega) (by omega) (by omega)
  have e8 : LK σ' = LK σ := h0 9 (by omega) (by omega) (by omega)
  have e9 : LKU σ' = LKU σ := h0 10 (by omega) (by omega) (by omega)
  have e10 : DR σ' = DR σ := h0 11 (by omega) (by omega) (by omega)
  have e11 : DRU σ' = DRU σ := h0 12 (by omega) (by omega) (by omega)
  have e12 : DRT σ' = DRT σ := h0 13 (by omega) (by omega) (by omega)
  have e13 : RCV σ' = RCV σ := h0 14 (by omega) (by omega) (by omega)
  have g1 : HOL σ' = HOL σ := hf 1 (by omega) (by omega) (by omega)
  have g2 : HEI σ' = HEI σ := hf 2 (by omega) (by omega) (by omega)
  have g3 : LIM σ' = LIM σ := hf 3 (by omega) (by omega) (by omega)
  have g5 : WEI σ' = WEI σ := hf 5 (by omega) (by omega) (by omega)
  have g6 : THK σ' = THK σ := hf 6 (by omega) (by omega) (by omega)
  have g7 : GRD σ' = GRD σ := hf 7 (by omega) (by omega) (by omega)
  have g8 : BAR σ' = BAR σ := hf 8 (by omega) (by omega) (by omega)
  have g9 : SHP σ' = SHP σ := hf 9 (by omega) (by omega) (by omega)
  have g10 : PRD σ' = PRD σ := hf 10 (by omega) (by omega) (by omega)
  have g11 : ORD σ' = ORD σ := hf 11 (by omega) (by omega) (by omega)
  have g12 : ENT σ' = ENT σ := hf 12 (by omega) (by omega) (by omega)
  have g13 : LEF σ' = LEF σ := hf 13 (by omega) (by omega) (by omega)
  have g14 : DRO σ' = DRO σ := hf 14 (by omega) (by omega) (by omega)
  have g15 : LEA σ' = LEA σ := hf 15 (by omega) (by omega) (by omega)
  have g16 : AHD σ' = AHD σ := hf 16 (by omega) (by omega) (by omega)
  have g17 : BHD σ' = BHD σ := hf 17 (by omega) (by omega) (by omega)
  have g18 : EBF σ' = EBF σ := hf 18 (by omega) (by omega) (by omega)
  have g19 : FG σ' = FG σ := hf 19 (by omega) (by omega) (by omega)
  have g20 : KEP σ' = KEP σ := hf 20 (by omega) (by omega) (by omega)
  have g21 : UB σ' = UB σ := hf 21 (by omega) (by omega) (by omega)
  have g22 : UP σ' = UP σ := hf 22 (by omega) (by omega) (by omega)
  have g23 : HAS σ' = HAS σ := hf 23 (by omega) (by omega) (by omega)
  have g24 : TG σ' = TG σ := hf 24 (by omega) (by omega) (by omega)
  have g28 : LA σ' = LA σ := hf 28 (by omega) (by omega) (by omega)
  refine ⟨?_, ⟨?_, fun i hi => (hD i hi).1⟩, ?_, ?_, ?_, ?_, ?_, ?_, ?_, ?_⟩
  · unfold WA
    rw [e1, e2, e3, e4, e5, e6, e7]
    exact ⟨a1, a2, a3, a4, hRT, hRF, hMIN, a8, a9, a10, a11, a12⟩
  · rw [e1, g1, g2, g3, g28]; exact hWS.1
  · unfold WG; rw [g5, g6, g7, g8]; exact hWG
  · unfold WT'; rw [e1, e8, e9, e10, e11, e12, e13]; exact hWT
  · unfold WB; rw [e2, e5, g9, g10, g11, g12, g13, g14, g15, g18, g19, g20]; exact hWB
  · unfold WK; rw [g23, g24]; exact hWK
  · intro hz
    rw [e3] at hz
    obtain ⟨c1, c2, c3, c4, c5, c6, c7⟩ := hWC hz
    rw [e5, e6, e4, e7, g12, g16, g17, g19, g28, g11]
    exact ⟨c1, c2, c3, c4, c5, fun i hi => ⟨(c6 i hi).1, (hD i hi).2 hz⟩, c7⟩
  · unfold WO; rw [e3, e7, e1, e5, e4, e2, g1, g12, g11]; exact hWO
  · have hs : str σ' = str σ := by funext b; unfold str; rw [e7, g18]
    unfold WL; rw [hs, e3, e7, e5, e4, e2, g16, g12, g17]; exact hWL
  · have hs : str σ' = str σ := by funext b; unfold str; rw [e7, g18]
    have hu : ub1 σ' = ub1 σ := by funext b j; unfold ub1; rw [g21]
    unfold WU; rw [hs, hu, e3, e7, e4, e2, g21, g22, g12, g19, g13, g14, g15]; exact hWU
/-- the dirt of one segment -/
theorem EC_D (hC : EC σ l d o M) (h6 : NS σ ≤ 6) (h40 : NB σ ≤ 40) {i v : Nat} (hi : i < 6) : EC (us σ 4 i v) l d o (si M (9 + 3 * i) 6 (nI v)) := by
  obtain ⟨c1, c2, c3, c4, c5, c6, c7, c8, c9, c10, c11⟩ := id hC
  have r1 : ∀ k, k ≠ 9 + 3 * i → (si M (9 + 3 * i) 6 (nI v)).1 k = M.1 k := fun k h => si_1 h
  have hf : ∀ f, f ≠ 4 → us σ 4 i v f = σ f := fun f h => us_f h
  refine ⟨EP_c (r1 0 (by omega)) rfl (fun i _ => by rw [hf 0 (by omega)]) c1, ET_c (fun t ht => r1 _ (by omega)) (fun i _ _ _ _ _ _ _ => by rw [hf 0 (by omega)]) c2, ?_, ER_c (fun j hj => r1 _ (by omega)) h6 (by unfold NS; rw [hf 0 (by omega)]) (by unfold OPN; rw [hf 0 (by omega)]) (hf 1 (by omega)) (hf 21 (by omega)) (hf 22 (by omega)) (hf 28 (by omega)) c4, EU_c (fun j hj => r1 _ (by omega)) (by unfold NS; rw [hf 0 (by omega)]) (by unfold OPN; rw [hf 0 (by omega)]) (hf 1 (by omega)) (hf 10 (by omega)) (hf 21 (by omega)) c5, EG_c (fun i hi => r1 _ (by omega)) (hf 5 (by omega)) (hf 6 (by omega)) (hf 7 (by omega)) (hf 8 (by omega)) c6, EB1_c (fun i hi => r1 _ (by omega)) (hf 12 (by omega)) (hf 13 (by omega)) (hf 14 (by omega)) (hf 15 (by omega)) (hf 19 (by omega)) c7, EB2_c (fun i hi => ⟨r1 _ (by omega), rfl⟩) (by unfold ALL; rw [hf 0 (by omega)]) (hf 10 (by omega)) (hf 16 (by omega)) (hf 17 (by omega)) (hf 18 (by omega)) (hf 19 (by omega)) (hf 20 (by omega)) c8, EB3_c (fun i hi => ⟨r1 _ (by omega), rfl⟩) h40 (by unfold NB; rw [hf 0 (by omega)]) (hf 9 (by omega)) (hf 10 (by omega)) (hf 11 (by omega)) c9, EK_c (fun t ht => r1 _ (by omega)) (hf 23 (by omega)) (hf 24 (by omega)) (hf 25 (by omega)) (hf 26 (by omega)) c10, EL_c (r1 5 (by omega)) (hf 27 (by omega)) c11⟩
  intro j hj
  obtain ⟨b1, b2, b3⟩ := c3 j hj
  unfold NS HOL HEI LIM LA DIR at *
  rw [hf 0 (by omega), hf 1 (by omega), hf 2 (by omega), hf 3 (by omega), hf 28 (by omega)]
  by_cases z : j = i
  · subst z
    simp (disch := omega) only [gi_eq, gi_ne, gi_sr, gr_si, gr_eq, gr_ne, us_eq]
    exact ⟨b1, trivial, b3⟩
  · simp (disch := omega) only [gi_eq, gi_ne, gi_sr, gr_si, gr_eq, gr_ne, us_ne]
    exact ⟨b1, b2, b3⟩
/-- the numbers of the pipe alone -/
theorem EC_P (hC : EC σ l d o M) (h6 : NS σ ≤ 6) (h40 : NB σ ≤ 40) {i v : Nat} (hi : i = 5 ∨ i = 6 ∨ i = 7) : EC (us σ 0 i v) l d o (si M 0 (8 + i) (nI v)) := by
  obtain ⟨c1, c2, c3, c4, c5, c6, c7, c8, c9, c10, c11⟩ := id hC
  have r1 : ∀ k, k ≠ 0 → (si M 0 (8 + i) (nI v)).1 k = M.1 k := fun k h => si_1 h
  have hf : ∀ f, f ≠ 0 → us σ 0 i v f = σ f := fun f h => us_f h
  have h0 : ∀ j, j ≠ i → us σ 0 i v 0 j = σ 0 j := fun j h => us_ne (by omega)
  refine ⟨?_, ET_c (fun t ht => r1 _ (by omega)) (fun j _ _ _ _ _ _ _ => h0 j (by omega)) c2, ES_c (fun j hj => r1 _ (by omega)) (h0 0 (by omega)) (hf 1 (by omega)) (hf 2 (by omega)) (hf 3 (by omega)) (hf 4 (by omega)) (hf 28 (by omega)) c3, ER_c (fun j hj => r1 _ (by omega)) h6 (h0 0 (by omega)) (h0 2 (by omega)) (hf 1 (by omega)) (hf 21 (by omega)) (hf 22 (by omega)) (hf 28 (by omega)) c4, EU_c (fun j hj => r1 _ (by omega)) (h0 0 (by omega)) (h0 2 (by omega)) (hf 1 (by omega)) (hf 10 (by omega)) (hf 21 (by omega)) c5, EG_c (fun i hi => r1 _ (by omega)) (hf 5 (by omega)) (hf 6 (by omega)) (hf 7 (by omega)) (hf 8 (by omega)) c6, EB1_c (fun i hi => r1 _ (by omega)) (hf 12 (by omega)) (hf 13 (by omega)) (hf 14 (by omega)) (hf 15 (by omega)) (hf 19 (by omega)) c7, EB2_c (fun i hi => ⟨r1 _ (by omega), rfl⟩) (h0 4 (by omega)) (hf 10 (by omega)) (hf 16 (by omega)) (hf 17 (by omega)) (hf 18 (by omega)) (hf 19 (by omega)) (hf 20 (by omega)) c8, EB3_c (fun i hi => ⟨r1 _ (by omega), rfl⟩) h40 (h0 1 (by omega)) (hf 9 (by omega)) (hf 10 (by omega)) (hf 11 (by omega)) c9, EK_c (fun t ht => r1 _ (by omega)) (hf 23 (by omega)) (hf 24 (by omega)) (hf 25 (by omega)) (hf 26 (by omega)) c10, EL_c (r1 5 (by omega)) (hf 27 (by omega)) c11⟩
  obtain ⟨p1, p2, p3, p4, p5, p6, p7, p8, p9⟩ := c1
  unfold EP
  unfold NS NB OPN ALL RT RF MIN PIG INL at *
  rw [h0 0 (by omega), h0 1 (by omega), h0 2 (by omega), h0 3 (by omega), h0 4 (by omega), h0 8 (by omega)]
  rcases hi with rfl | rfl | rfl
  · simp (disch := omega) only [gi_eq, gi_ne, gi_sr, gr_si, gr_eq, gr_ne, us_eq, us_ne]
    exact ⟨p1, p2, p3, p4, trivial, p6, p7, p8, p9⟩
  · simp (disch := omega) only [gi_eq, gi_ne, gi_sr, gr_si, gr_eq, gr_ne, us_eq, us_ne]
    exact ⟨p1, p2, p3, p4, p5, trivial, p7, p8, p9⟩
  · simp (disch := omega) only [gi_eq, gi_ne, gi_sr, gr_si, gr_eq, gr_ne, us_eq, us_ne]
    exact ⟨p1, p2, p3, p4, p5, p6, trivial, p8, p9⟩
theorem EC_T0 (hC : EC σ l d o M) (h6 : NS σ ≤ 6) (h40 : NB σ ≤ 40) : EC σ 0 0 0 (si (si (si M (6 + 0) 3 (nI 0)) (6 + 1) 3 (nI 0)) (6 + 2) 3 (nI 0)) := by
  obtain ⟨c1, c2, c3, c4, c5, c6, c7, c8, c9, c10, c11⟩ := id hC
  have r1 : ∀ k, ¬ (6 ≤ k ∧ k < 9) → (si (si (si M (6 + 0) 3 (nI 0)) (6 + 1) 3 (nI 0)) (6 + 2) 3 (nI 0)).1 k = M.1 k := fun k h => by rw [si_1 (by omega), si_1 (by omega), si_1 (by omega)]
  refine ⟨EP_c (r1 0 (by omega)) rfl (fun i _ => rfl) c1, ?_, ES_c (fun j hj => r1 _ (by omega)) rfl rfl rfl rfl rfl rfl c3, ER_c (fun j hj => r1 _ (by omega)) h6 rfl rfl rfl rfl rfl rfl c4, EU_c (fun j hj => r1 _ (by omega)) rfl rfl rfl rfl rfl c5, EG_c (fun i hi => r1 _ (by omega)) rfl rfl rfl rfl c6, EB1_c (fun i hi => r1 _ (by omega)) rfl rfl rfl rfl rfl c7, EB2_c (fun i hi => ⟨r1 _ (by omega), rfl⟩) rfl rfl rfl rfl rfl rfl rfl c8, EB3_c (fun i hi => ⟨r1 _ (by omega), rfl⟩) h40 rfl rfl rfl rfl c9, EK_c (fun t ht => r1 _ (by omega)) rfl rfl rfl rfl c10, EL_c (r1 5 (by omega)) rfl c11⟩
  obtain ⟨t1, t2, t3, t4, t5, t6, t7, t8, t9, t10⟩ := c2
  unfold ET
  simp (disch := omega) only [gi_eq, gi_ne, gi_sr, gr_si, gr_eq, gr_ne]
  exact ⟨t1, t2, trivial, t4, t5, t6, trivial, t8, t9, trivial⟩
theorem EC_L (hC : EC σ l d o M) (h6 : NS σ ≤ 6) (h40 : NB σ ≤ 40) {i v : Nat} (hi : i < 5) : EC (us σ 27 i v) l d o (si M 5 i (nI v)) := by
  obtain ⟨c1, c2, c3, c4, c5, c6, c7, c8, c9, c10, c11⟩ := id hC
  have r1 : ∀ k, k ≠ 5 → (si M 5 i (nI v)).1 k = M.1 k := fun k h => si_1 h
  have hf : ∀ f, f ≠ 27 → us σ 27 i v f = σ f := fun f h => us_f h
  refine ⟨EP_c (r1 0 (by omega)) rfl (fun i _ => by rw [hf 0 (by omega)]) c1, ET_c (fun t ht => r1 _ (by omega)) (fun i _ _ _ _ _ _ _ => by rw [hf 0 (by omega)]) c2, ES_c (fun j hj => r1 _ (by omega)) (by unfold NS; rw [hf 0 (by omega)]) (hf 1 (by omega)) (hf 2 (by omega)) (hf 3 (by omega)) (hf 4 (by omega)) (hf 28 (by omega)) c3, ER_c (fun j hj => r1 _ (by omega)) h6 (by unfold NS; rw [hf 0 (by omega)]) (by unfold OPN; rw [hf 0 (by omega)]) (hf 1 (by omega)) (hf 21 (by omega)) (hf 22 (by omega)) (hf 28 (by omega)) c4, EU_c (fun j hj => r1 _ (by omega)) (by unfold NS; rw [hf 0 (by omega)]) (by unfold OPN; rw [hf 0 (by omega)]) (hf 1 (by omega)) (hf 10 (by omega)) (hf 21 (by omega)) c5, EG_c (fun i hi => r1 _ (by omega)) (hf 5 (by omega)) (hf 6 (by omega)) (hf 7 (by omega)) (hf 8 (by omega)) c6, EB1_c (fun i hi => r1 _ (by omega)) (hf 12 (by omega)) (hf 13 (by omega)) (hf 14 (by omega)) (hf 15 (by omega)) (hf 19 (by omega)) c7, EB2_c (fun i hi => ⟨r1 _ (by omega), rfl⟩) (by unfold ALL; rw [hf 0 (by omega)]) (hf 10 (by omega)) (hf 16 (by omega)) (hf 17 (by omega)) (hf 18 (by omega)) (hf 19 (by omega)) (hf 20 (by omega)) c8, EB3_c (fun i hi => ⟨r1 _ (by omega), rfl⟩) h40 (by unfold NB; rw [hf 0 (by omega)]) (hf 9 (by omega)) (hf 10 (by omega)) (hf 11 (by omega)) c9, EK_c (fun t ht => r1 _ (by omega)) (hf 23 (by omega)) (hf 24 (by omega)) (hf 25 (by omega)) (hf 26 (by omega)) c10, ?_⟩
  intro j hj
  have := c11 j hj
  unfold BAL at *
  by_cases z : j = i
  · rw [gi_eq rfl z, us_eq rfl z]
  · rw [gi_ne (by omega), us_ne (by omega)]
    exact this
/-- the dirt of the segments before k -/
def sk (σ : Sp) (k : Nat) : Sp := fun f i => if f = 4 ∧ i < k then min 200 (DIR σ i + 1) else σ f i
theorem sk_s (σ : Sp) (k : Nat) : sk σ (k + 1) = us (sk σ k) 4 k (min 200 (DIR σ k + 1)) := by
  funext f i
  unfold sk us
  by_cases z : f = 4 ∧ i = k
  · rw [if_pos z, if_pos (show f = 4 ∧ i < k + 1 by omega), z.2]
  · rw [if_neg z]
    dsimp only
    by_cases y : f = 4 ∧ i < k
    · rw [if_pos y, if_pos (show f = 4 ∧ i < k + 1 by omega)]
    · rw [if_neg y, if_neg (show ¬ (f = 4 ∧ i < k + 1) by omega)]
theorem sk_f {k f : Nat} (h : f ≠ 4) : sk σ k f = σ f := by
  funext i
  unfold sk
  rw [if_neg (fun z => h z.1)]
theorem sk_sol (σ : Sp) : sk σ (NS σ) = sol σ := rfl
theorem C_soil_L (h6 : NS σ ≤ 6) (h40 : NB σ ≤ 40) (hD : ∀ i, i < 6 → DIR σ i ≤ 200) : ∀ (m k n : Nat) (M : Mm), k + m = NS σ → m < n → EC (sk σ k) l d o M → ∃ M', fX5_soil_L2 n (nI k) M = some M' ∧ EC (sol σ) l d o M' ∧ Fr (fun k => k < 77) M M'
  | m, k, 0, M, h1, h2, hC => by omega
  | 0, k, n + 1, M, h1, h2, hC => by
    have hk : k = NS σ := by omega
    subst hk
    have e : gi M 0 8 = nI (NS σ) := by rw [hC.1.1]; unfold NS; rw [sk_f (by omega)]
    refine ⟨M, ?_, hC, Fr.rf⟩
    rw [fX5_soil_L2]
    dsimp only
    rw [e, if_pos (show nI (NS σ) ≤ nI (NS σ) by rw [cLe (by omega) (by omega)]; omega)]
  | m + 1, k, n + 1, M, h1, h2, hC => by
    have e : gi M 0 8 = nI (NS σ) := by rw [hC.1.1]; unfold NS; rw [sk_f (by omega)]
    have e2 : gi M (9 + 3 * k) 6 = nI (DIR σ k) := by
      rw [(hC.2.2.1 k (by omega)).2.1]
      unfold DIR sk
      rw [if_neg (by omega)]
    have hd := hD k (by omega)
    have hC2 := EC_D hC (show sk σ k 0 0 ≤ 6 by rw [sk_f (by omega)]; exact h6) (show sk σ k 0 1 ≤ 40 by rw [sk_f (by omega)]; exact h40) (i := k) (v := min 200 (DIR σ k + 1)) (by omega)
    rw [← sk_s] at hC2
    obtain ⟨M', q1, q2, q3⟩ := C_soil_L h6 h40 hD m (k + 1) n _ (by omega) (by omega) hC2
    refine ⟨M', ?_, q2, Fr.tr (Fr.rf.si (by omega)) q3⟩
    rw [fX5_soil_L2]
    dsimp only
    have g0 : ¬ (nI k < 0 ∨ 6 ≤ k) := by rw [Lt0, cLt (by omega) (by omega)]; omega
    rw [e, if_neg (show ¬ nI (NS σ) ≤ nI k by rw [cLe (by omega) (by omega)]; omega), cCl (by omega), if_pos g0, if_pos g0, e2, Lt1, cAdd, cAdd, show (200 : Int32) = nI 200 from rfl, cMin (by omega) (by omega)]
    exact q1
theorem C_soil (hC : EC σ l d o M) (hW : WF σ) : ∃ M', fX5_soil M = some M' ∧ EC (sol σ) l d o M' ∧ Fr (fun k => k < 77) M M' := by
  unfold fX5_soil
  have h6 := hW.1.1
  refine C_soil_L hW.1.1 hW.1.2.2.1 hW.2.1.2 (NS σ) 0 400 M (by omega) (by omega) ?_
  have : sk σ 0 = σ := by
    funext f i
    unfold sk
    rw [if_neg (by omega)]
  rw [this]
  exact hC
theorem WF_sol (hW : WF σ) (ho : OPN σ = 1) : WF (sol σ) := by
  obtain ⟨hA, hWS, -⟩ := id hW
  have hf : ∀ f, f ≠ 4 → sol σ f = σ f := fun f h => sk_f h
  refine WF_c hW (fun i _ _ _ => by rw [hf 0 (by omega)]) (fun f _ h _ => hf f h) ?_ ?_ ?_ (fun i hi => ⟨?_, fun z => by omega⟩)
  · unfold RT at *; rw [hf 0 (by omega)]; exact hA.2.2.2.2.1
  · unfold RF at *; rw [hf 0 (by omega)]; exact hA.2.2.2.2.2.1
  · unfold MIN at *; rw [hf 0 (by omega)]; exact hA.2.2.2.2.2.2.1
  · have := hWS.2 i hi
    unfold DIR sol at *
    split <;> omega
/-! the moves of a minute -/
theorem mvs_inv (P : Sp → Prop) (hP : ∀ σ e τ, P σ → P (one σ e τ)) : ∀ (n : Nat) (σ : Sp) (k l d : Nat), P σ → P (mvs n σ k l d).1
  | 0, σ, k, l, d, h => h
  | n + 1, σ, k, l, d, h => by
    unfold mvs
    split
    · exact h
    · exact mvs_inv P hP n _ _ _ _ (hP _ _ _ h)
theorem mvs_WF : ∀ (n : Nat) (σ : Sp) (k l d : Nat), WF σ → OPN σ = 1 → WF (mvs n σ k l d).1 ∧ OPN (mvs n σ k l d).1 = 1
  | 0, σ, k, l, d, h, ho => ⟨h, ho⟩
  | n + 1, σ, k, l, d, h, ho => by
    unfold mvs
    split
    · exact ⟨h, ho⟩
    · rename_i e he
      exact mvs_WF n _ _ _ _ (WF_one h ho (tsg_lt h.2.2.2.1 (h.1.2.2.2.2.2.2.2.1 ho)) he) ((one_0 (by omega) (by omega) (by omega)).trans ho)
theorem mvs_k : ∀ (n : Nat) (σ : Sp) (k l d : Nat), k ≤ (mvs n σ k l d).2.1 ∧ (mvs n σ k l d).2.1 ≤ k + n ∧ l ≤ (mvs n σ k l d).2.2.1 ∧ (mvs n σ k l d).2.2.1 ≤ l + n
  | 0, σ, k, l, d => ⟨Nat.le_refl _, Nat.le_refl _, Nat.le_refl _, Nat.le_refl _⟩
  | n + 1, σ, k, l, d => by
    unfold mvs
    split
    · exact ⟨Nat.le_refl _, Nat.le_add_right _ _, Nat.le_refl _, Nat.le_add_right _ _⟩
    · rename_i e _
      have := mvs_k n (one σ e (tap σ l d)) (k + 1) (if tap σ l d = 0 then l + 1 else l) (if tap σ l d = 1 then d + 1 else d)
      split at this <;> split <;> omega
theorem C_mvs : ∀ (m x n l d o : Nat) (σ : Sp) (M : Mm), x + m = RF σ → m < n → EC σ l d o M → WF σ → OPN σ = 1 → x = l + d + o → ∃ M' o', fX5_passOne_L34 n (nI x) M = fX5_passOne_b55 (nI (mvs m σ x l d).2.1) M' ∧ EC (mvs m σ x l d).1 (mvs m σ x l d).2.2.1 (mvs m σ x l d).2.2.2 o' M' ∧ (mvs m σ x l d).2.1 = (mvs m σ x l d).2.2.1 + (mvs m σ x l d).2.2.2 + o' ∧ Fr (fun k => k < 77) M M'
  | m, x, 0, l, d, o, σ, M, h1, h2, hC, hW, ho, hx => by omega
  | 0, x, n + 1, l, d, o, σ, M, h1, h2, hC, hW, ho, hx => by
    have h10 := hW.1.2.2.2.2.2.1
    refine ⟨M, o, ?_, hC, hx, Fr.rf⟩
    rw [fX5_passOne_L34]
    dsimp only
    rw [hC.1.2.2.2.2.2.1, if_pos (show nI (RF σ) ≤ nI x by rw [cLe (by omega) (by omega)]; omega)]
    rfl
  | m + 1, x, n + 1, l, d, o, σ, M, h1, h2, hC, hW, ho, hx => by
    have h10 := hW.1.2.2.2.2.2.1
    rw [fX5_passOne_L34]
    dsimp only
    rw [hC.1.2.2.2.2.2.1, if_neg (show ¬ nI (RF σ) ≤ nI x by rw [cLe (by omega) (by omega)]; omega)]
    unfold mvs
    cases hn : nxt σ with
    | none =>
      refine ⟨M, o, ?_, hC, hx, Fr.rf⟩
      rw [C_moveOne0 hC hW hn, Option.bind_some]
      dsimp only
      rw [if_pos (show nI 0 = 0 from rfl)]
    | some e =>
      obtain ⟨M1, q1, q2, q3⟩ := C_moveOne hC hW ho (by omega) (by omega) hn
      have hW1 := WF_one (τ := tap σ l d) hW ho (tsg_lt hW.2.2.2.1 (hW.1.2.2.2.2.2.2.2.1 ho)) hn
      have hτ : tap σ l d < 3 := by unfold tap; split <;> (try split) <;> omega
      have hR : RF (one σ e (tap σ l d)) = RF σ := one_0 (by omega) (by omega) (by omega)
      obtain ⟨M2, o2, r1, r2, r3, r4⟩ := C_mvs m (x + 1) n _ _ _ (one σ e (tap σ l d)) M1 (by omega) (by omega) q2 hW1 ((one_0 (by omega) (by omega) (by omega)).trans ho) (by
        generalize tap σ l d = τ at *
        rcases (show τ = 0 ∨ τ = 1 ∨ τ = 2 by omega) with rfl | rfl | rfl
        · rw [if_pos rfl, if_neg (by omega), if_neg (by omega)]; omega
        · rw [if_neg (by omega), if_pos rfl, if_neg (by omega)]; omega
        · rw [if_neg (by omega), if_neg (by omega), if_pos rfl]; omega)
      refine ⟨M2, o2, ?_, r2, r3, q3.tr r4⟩
      rw [q1, Option.bind_some]
      dsimp only
      rw [if_neg (show ¬ nI 1 = 0 by decide), Lt1, cAdd]
      exact r1
theorem frt_le : ∀ u, frt σ u ≤ u
  | 0 => Nat.le_refl 0
  | u + 1 => by
    unfold frt
    split
    · exact Nat.le_refl _
    · exact Nat.le_succ_of_le (frt_le u)
theorem C_b63 (hC : EC σ l d o M) (hW : WF σ) {k : Nat} (hk : k = l + d + o) (hk2 : k ≤ 10) (hm : MIN σ < 9999) : fX5_passOne_b63 (nI k) M = some (nI k, si (si M 5 (MIN σ % 5) (nI l)) 0 15 (nI (MIN σ + 1))) ∧ EC (us (us σ 27 (MIN σ % 5) l) 0 7 (MIN σ + 1)) l d o (si (si M 5 (MIN σ % 5) (nI l)) 0 15 (nI (MIN σ + 1))) := by
  obtain ⟨t1, t2, t3, t4, t5, t6, t7, t8, t9, t10⟩ := hC.2.1
  have hc := hC.1.2.2.2.2.2.2.1
  refine ⟨?_, ?_⟩
  · unfold fX5_passOne_b63
    have g : ¬ (nI (MIN σ % 5) < 0 ∨ 5 ≤ (nI (MIN σ % 5)).toNatClampNeg) := gd (by omega) (by omega)
    rw [hc, show (5 : Int32) = nI 5 from rfl, cRem (by omega) (by omega) (by omega), if_pos g, cCl (by omega), t10, t7, cSub (by omega), cSub (by omega), gi_ne (by omega), hc, Lt1, cAdd, show k - o - d = l by omega]
  · have e1 := EC_L hC hW.1.1 hW.1.2.2.1 (i := MIN σ % 5) (v := l) (by omega)
    exact EC_P e1 (show us σ 27 (MIN σ % 5) l 0 0 ≤ 6 by rw [us_f (by omega)]; exact hW.1.1) (show us σ 27 (MIN σ % 5) l 0 1 ≤ 40 by rw [us_f (by omega)]; exact hW.1.2.2.1) (i := 7) (v := MIN σ + 1) (by omega)
/-- what a minute keeps -/
theorem mnt_WF (hW : WF σ) (ho : OPN σ = 1) (hm : MIN σ < 9999) : WF (mnt σ).1 ∧ OPN (mnt σ).1 = 1 ∧ MIN (mnt σ).1 = MIN σ + 1 ∧ (mnt σ).2 ≤ 10 := by
  have h5 := hW.1.2.2.2.2.1
  have hr := frt_le (σ := σ) (RT σ)
  have h1 : WF (us σ 0 6 (frt σ (RT σ))) := WF_c hW (fun i _ h _ => us_ne (by omega)) (fun f h _ _ => us_f h) (by unfold RT at *; rw [us_ne (by omega)]; exact h5) (by unfold RF; rw [us_eq rfl rfl]; omega) (by unfold MIN at *; rw [us_ne (by omega)]; omega) (fun i hi => ⟨by have := hW.2.1.2 i hi; unfold DIR at *; rw [us_f (by omega)]; exact this, fun z => by omega⟩)
  have o1 : OPN (us σ 0 6 (frt σ (RT σ))) = 1 := (us_ne (by omega)).trans ho
  obtain ⟨h2, o2⟩ := mvs_WF (frt σ (RT σ)) _ 0 0 0 h1 o1
  have hmin : MIN (mvs (frt σ (RT σ)) (us σ 0 6 (frt σ (RT σ))) 0 0 0).1 = MIN σ := mvs_inv (fun s => MIN s = MIN σ) (fun s e τ h => (one_0 (by omega) (by omega) (by omega)).trans h) _ _ _ _ _ (us_ne (by omega))
  have hk := mvs_k (frt σ (RT σ)) (us σ 0 6 (frt σ (RT σ))) 0 0 0
  unfold mnt
  dsimp only
  generalize mvs (frt σ (RT σ)) (us σ 0 6 (frt σ (RT σ))) 0 0 0 = q at *
  have h3 : WF (if 0 < q.2.1 then sol q.1 else q.1) ∧ OPN (if 0 < q.2.1 then sol q.1 else q.1) = 1 ∧ MIN (if 0 < q.2.1 then sol q.1 else q.1) = MIN σ := by
    split
    · refine ⟨WF_sol h2 o2, ?_, ?_⟩
      · unfold OPN at *; rw [show sol q.1 0 = q.1 0 from sk_f (by omega)]; exact o2
      · unfold MIN at *; rw [show sol q.1 0 = q.1 0 from sk_f (by omega)]; exact hmin
    · exact ⟨h2, o2, hmin⟩
  generalize (if 0 < q.2.1 then sol q.1 else q.1) = s at *
  obtain ⟨w, wo, wm⟩ := h3
  refine ⟨WF_c w (fun i h5 h6 h7 => by rw [us_ne (by omega), us_f (by omega)]) (fun f h0 h4 h27 => by rw [us_f h0, us_f h27]) ?_ ?_ ?_ (fun i hi => ⟨?_, fun z => by omega⟩), ?_, ?_, by omega⟩
  · have := w.1.2.2.2.2.1
    unfold RT at *; rw [us_ne (by omega), us_f (by omega)]; exact this
  · have := w.1.2.2.2.2.2.1
    unfold RF at *; rw [us_ne (by omega), us_f (by omega)]; exact this
  · unfold MIN at *; rw [us_eq rfl rfl]; omega
  · have := w.2.1.2 i hi
    unfold DIR at *; rw [us_f (by omega), us_f (by omega)]; exact this
  · unfold OPN at *; rw [us_ne (by omega), us_f (by omega)]; exact wo
  · unfold MIN at *; rw [us_eq rfl rfl, wm]
theorem C_passOne (hC : EC σ l d o M) (hW : WF σ) (ho : OPN σ = 1) (hm : MIN σ < 9999) : ∃ M' l' d' o', fX5_passOne M = some (nI (mnt σ).2, M') ∧ EC (mnt σ).1 l' d' o' M' ∧ Fr (fun k => k < 77) M M' := by
  have h6 := hW.1.1
  have h40 := hW.1.2.2.1
  have h5 := hW.1.2.2.2.2.1
  have hr := frt_le (σ := σ) (RT σ)
  have e0 := EC_T0 hC h6 h40
  have e1 := EC_P e0 h6 h40 (i := 6) (v := frt σ (RT σ)) (by omega)
  have h1 : WF (us σ 0 6 (frt σ (RT σ))) := WF_c hW (fun i _ h _ => us_ne (by omega)) (fun f h _ _ => us_f h) (by unfold RT at *; rw [us_ne (by omega)]; exact h5) (by unfold RF; rw [us_eq rfl rfl]; omega) (by unfold MIN at *; rw [us_ne (by omega)]; omega) (fun i hi => ⟨by have := hW.2.1.2 i hi; unfold DIR at *; rw [us_f (by omega)]; exact this, fun z => by omega⟩)
  have o1 : OPN (us σ 0 6 (frt σ (RT σ))) = 1 := (us_ne (by omega)).trans ho
  have hmin : MIN (mvs (frt σ (RT σ)) (us σ 0 6 (frt σ (RT σ))) 0 0 0).1 = MIN σ := mvs_inv (fun s => MIN s = MIN σ) (fun s e τ h => (one_0 (by omega) (by omega) (by omega)).trans h) _ _ _ _ _ (us_ne (by omega))
  have hRF : RF (us σ 0 6 (frt σ (RT σ))) = frt σ (RT σ) := us_eq rfl rfl
  obtain ⟨M1, o', q1, q2, q3, q4⟩ := C_mvs (frt σ (RT σ)) 0 400 0 0 0 _ _ (by omega) (by omega) e1 h1 o1 (by omega)
  have hw2 := mvs_WF (frt σ (RT σ)) _ 0 0 0 h1 o1
  have hk := mvs_k (frt σ (RT σ)) (us σ 0 6 (frt σ (RT σ))) 0 0 0
  have hpre : fX5_passOne M = fX5_passOne_L34 400 (nI 0) (si (si (si (si M (6 + 0) 3 (nI 0)) (6 + 1) 3 (nI 0)) (6 + 2) 3 (nI 0)) 0 (8 + 6) (nI (frt σ (RT σ)))) := by
    unfold fX5_passOne
    rw [show (0 : Int32) = nI 0 from rfl, C_findRate e0 hW ho, Option.bind_some]
  rw [hpre, q1]
  unfold mnt
  dsimp only
  generalize mvs (frt σ (RT σ)) (us σ 0 6 (frt σ (RT σ))) 0 0 0 = q at *
  obtain ⟨w2, wo⟩ := hw2
  unfold fX5_passOne_b55
  by_cases z : 0 < q.2.1
  · obtain ⟨M2, s1, s2, s3⟩ := C_soil q2 w2
    have hms : MIN (sol q.1) = MIN σ := by unfold MIN at *; rw [show sol q.1 0 = q.1 0 from sk_f (by omega)]; exact hmin
    obtain ⟨b1, b2⟩ := C_b63 s2 (WF_sol w2 wo) q3 (by omega) (by omega)
    refine ⟨si (si M2 5 (MIN (sol q.1) % 5) (nI q.2.2.1)) 0 15 (nI (MIN (sol q.1) + 1)), q.2.2.1, q.2.2.2, o', ?_, ?_, ?_⟩
    rotate_left
    · rw [if_pos z]
      exact b2
    · exact Fr.tr ((((Fr.rf.si (by omega)).si (by omega)).si (by omega)).si (by omega)) (q4.tr (s3.tr ((Fr.rf.si (by omega)).si (by omega))))
    · rw [if_neg (show ¬ nI q.2.1 ≤ 0 by rw [Lt0, cLe (by omega) (by omega)]; omega), s1, Option.bind_some]
      exact b1
  · obtain ⟨b1, b2⟩ := C_b63 q2 w2 q3 (by omega) (by omega)
    refine ⟨si (si M1 5 (MIN q.1 % 5) (nI q.2.2.1)) 0 15 (nI (MIN q.1 + 1)), q.2.2.1, q.2.2.2, o', ?_, ?_, ?_⟩
    rotate_left
    · rw [if_neg z]
      exact b2
    · exact Fr.tr ((((Fr.rf.si (by omega)).si (by omega)).si (by omega)).si (by omega)) (q4.tr ((Fr.rf.si (by omega)).si (by omega)))
    · rw [if_pos (show nI q.2.1 ≤ 0 by rw [Lt0, cLe (by omega) (by omega)]; omega)]
      exact b1
theorem mns_WF : ∀ (n : Nat) (σ : Sp) (k : Nat), WF σ → OPN σ = 1 → MIN σ + n ≤ 9999 → WF (mns n σ k).1 ∧ OPN (mns n σ k).1 = 1 ∧ MIN (mns n σ k).1 = MIN σ + n ∧ (mns n σ k).2 ≤ k + 10 * n
  | 0, σ, k, h, ho, hm => ⟨h, ho, rfl, Nat.le_refl _⟩
  | n + 1, σ, k, h, ho, hm => by
    unfold mns
    obtain ⟨a, b, c, e⟩ := mnt_WF h ho (by omega)
    obtain ⟨a2, b2, c2, e2⟩ := mns_WF n (mnt σ).1 (k + (mnt σ).2) a b (by omega)
    exact ⟨a2, b2, by omega, by omega⟩
theorem C_pass_L : ∀ (m j n x k l d o : Nat) (σ : Sp) (M : Mm), j + m = x → x ≤ 60 → m < n → EC σ l d o M → WF σ → OPN σ = 1 → MIN σ + m ≤ 9999 → ∃ M' l' d' o', fX5_pass_L41 n (nI x) (nI k) (nI j) M = some (0, nI (mns m σ k).2, M') ∧ EC (mns m σ k).1 l' d' o' M' ∧ Fr (fun k => k < 77) M M'
  | m, j, 0, x, k, l, d, o, σ, M, h1, h2, h3, hC, hW, ho, hm => by omega
  | 0, j, n + 1, x, k, l, d, o, σ, M, h1, h2, h3, hC, hW, ho, hm => by
    refine ⟨M, l, d, o, ?_, hC, Fr.rf⟩
    rw [fX5_pass_L41]
    dsimp only
    rw [if_pos (show nI x ≤ nI j by rw [cLe (by omega) (by omega)]; omega)]
    rfl
  | m + 1, j, n + 1, x, k, l, d, o, σ, M, h1, h2, h3, hC, hW, ho, hm => by
    obtain ⟨M1, l1, d1, o1, q1, q2, q3⟩ := C_passOne hC hW ho (by omega)
    obtain ⟨a, b, c, e⟩ := mnt_WF hW ho (by omega)
    · obtain ⟨M2, l2, d2, o2, r1, r2, r3⟩ := C_pass_L m (j + 1) n x (k + (mnt σ).2) l1 d1 o1 (mnt σ).1 M1 (by omega) h2 (by omega) q2 a b (by omega)
      refine ⟨M2, l2, d2, o2, ?_, r2, q3.tr r3⟩
      rw [fX5_pass_L41]
      dsimp only
      rw [if_neg (show ¬ nI x ≤ nI j by rw [cLe (by omega) (by omega)]; omega), q1, Option.bind_some]
      dsimp only
      rw [cAdd, Lt1, cAdd]
      exact r1
end Mi
