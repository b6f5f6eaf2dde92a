/-! TAPS, TANKS, THE PIG, PRODUCTS, MINUTES: BOTH SIDES -/
section L71
variable {σ σ' : Sp} {M M' : Mm} {l d o l' d' o' : Nat}
theorem WF_g (hW : WF σ) (h0 : ∀ i, i < 5 ∨ i = 15 → σ' 0 i = σ 0 i) (hf : ∀ f, (0 < f ∧ f < 4) ∨ (8 < f ∧ f < 23) ∨ f = 28 → σ' f = σ f) (hG : WG σ') (hT : WT' σ') (hK : WK σ') (hPIG : PIG σ' ≤ 20480 ∧ (OPN σ = 0 → PIG σ' = 0)) (hRT : RT σ' ≤ 10) (hRF : RF σ' ≤ 10) (hMIN : MIN σ' ≤ 9999) (hD : ∀ i, i < 6 → DIR σ' i ≤ 200 ∧ (OPN σ = 0 → DIR σ' i = 0)) : WF σ' := by
  obtain ⟨hA, hWS, hWG, hWT, hWB, hWK, hWC, hWO, hWL, hWU⟩ := id hW
  obtain ⟨a1, a2, a3, a4, a5, a6, a7, a8, a9, a10, a11, a12⟩ := id hA
  have e1 : NS σ' = NS σ := h0 0 (by omega)
  have e2 : NB σ' = NB σ := h0 1 (by omega)
  have e3 : OPN σ' = OPN σ := h0 2 (by omega)
  have e4 : INL σ' = INL σ := h0 3 (by omega)
  have e5 : ALL σ' = ALL σ := h0 4 (by omega)
  have e7 : LEN σ' = LEN σ := h0 15 (by omega)
  have g1 : HOL σ' = HOL σ := hf 1 (by omega)
  have g2 : HEI σ' = HEI σ := hf 2 (by omega)
  have g3 : LIM σ' = LIM σ := hf 3 (by omega)
  have g9 : SHP σ' = SHP σ := hf 9 (by omega)
  have g10 : PRD σ' = PRD σ := hf 10 (by omega)
  have g11 : ORD σ' = ORD σ := hf 11 (by omega)
  have g12 : ENT σ' = ENT σ := hf 12 (by omega)
  have g13 : LEF σ' = LEF σ := hf 13 (by omega)
  have g14 : DRO σ' = DRO σ := hf 14 (by omega)
  have g15 : LEA σ' = LEA σ := hf 15 (by omega)
  have g16 : AHD σ' = AHD σ := hf 16 (by omega)
  have g17 : BHD σ' = BHD σ := hf 17 (by omega)
  have g18 : EBF σ' = EBF σ := hf 18 (by omega)
  have g19 : FG σ' = FG σ := hf 19 (by omega)
  have g20 : KEP σ' = KEP σ := hf 20 (by omega)
  have g21 : UB σ' = UB σ := hf 21 (by omega)
  have g22 : UP σ' = UP σ := hf 22 (by omega)
  have g28 : LA σ' = LA σ := hf 28 (by omega)
  refine ⟨?_, ⟨?_, fun i hi => (hD i hi).1⟩, ?_, ?_, ?_, ?_, ?_, ?_, ?_, ?_⟩
  · unfold WA
    rw [e1, e2, e3, e4, e5, e7]
    exact ⟨a1, a2, a3, a4, hRT, hRF, hMIN, a8, a9, a10, a11, hPIG.1⟩
  · rw [e1, g1, g2, g3, g28]; exact hWS.1
  · exact hG
  · exact hT
  · unfold WB; rw [e2, e5, g9, g10, g11, g12, g13, g14, g15, g18, g19, g20]; exact hWB
  · exact hK
  · intro hz
    rw [e3] at hz
    obtain ⟨c1, c2, c3, c4, c5, c6, c7⟩ := hWC hz
    rw [e5, e4, e7, g12, g16, g17, g19, g28, g11]
    exact ⟨c1, hPIG.2 hz, c3, c4, c5, fun i hi => ⟨(c6 i hi).1, (hD i hi).2 hz⟩, c7⟩
  · unfold WO; rw [e3, e7, e1, e5, e4, e2, g1, g12, g11]; exact hWO
  · have hs : str σ' = str σ := by funext b; unfold str; rw [e7, g18]
    unfold WL; rw [hs, e3, e7, e5, e4, e2, g16, g12, g17]; exact hWL
  · have hs : str σ' = str σ := by funext b; unfold str; rw [e7, g18]
    have hu : ub1 σ' = ub1 σ := by funext b j; unfold ub1; rw [g21]
    unfold WU; rw [hs, hu, e3, e7, e4, e2, g21, g22, g12, g19, g13, g14, g15]; exact hWU
theorem EC_T' (hC : EC σ l d o M) (h6 : NS σ ≤ 6) (h40 : NB σ ≤ 40) (hT : ET σ' l' d' o' M') (hF : Fr (fun k => 6 ≤ k ∧ k < 9) M M') (h0 : ∀ i, i < 9 ∨ i = 15 → σ' 0 i = σ 0 i) (hf : ∀ f, f ≠ 0 → σ' f = σ f) : EC σ' l' d' o' M' := by
  obtain ⟨c1, c2, c3, c4, c5, c6, c7, c8, c9, c10, c11⟩ := hC
  have r1 : ∀ k, ¬ (6 ≤ k ∧ k < 9) → M'.1 k = M.1 k := fun k h => (hF k h).1
  have r2 : ∀ k, ¬ (6 ≤ k ∧ k < 9) → M'.2 k = M.2 k := fun k h => (hF k h).2
  exact ⟨EP_c (r1 0 (by omega)) (r2 0 (by omega)) (fun i _ => h0 i (by omega)) c1, hT, ES_c (fun j hj => r1 _ (by omega)) (h0 0 (by omega)) (hf 1 (by omega)) (hf 2 (by omega)) (hf 3 (by omega)) (hf 4 (by omega)) (hf 28 (by omega)) c3, ER_c (fun j hj => r1 _ (by omega)) h6 (h0 0 (by omega)) (h0 2 (by omega)) (hf 1 (by omega)) (hf 21 (by omega)) (hf 22 (by omega)) (hf 28 (by omega)) c4, EU_c (fun j hj => r1 _ (by omega)) (h0 0 (by omega)) (h0 2 (by omega)) (hf 1 (by omega)) (hf 10 (by omega)) (hf 21 (by omega)) c5, EG_c (fun i hi => r1 _ (by omega)) (hf 5 (by omega)) (hf 6 (by omega)) (hf 7 (by omega)) (hf 8 (by omega)) c6, EB1_c (fun i hi => r1 _ (by omega)) (hf 12 (by omega)) (hf 13 (by omega)) (hf 14 (by omega)) (hf 15 (by omega)) (hf 19 (by omega)) c7, EB2_c (fun i hi => ⟨r1 _ (by omega), r2 _ (by omega)⟩) (h0 4 (by omega)) (hf 10 (by omega)) (hf 16 (by omega)) (hf 17 (by omega)) (hf 18 (by omega)) (hf 19 (by omega)) (hf 20 (by omega)) c8, EB3_c (fun i hi => ⟨r1 _ (by omega), r2 _ (by omega)⟩) h40 (h0 1 (by omega)) (hf 9 (by omega)) (hf 10 (by omega)) (hf 11 (by omega)) c9, EK_c (fun t ht => r1 _ (by omega)) (hf 23 (by omega)) (hf 24 (by omega)) (hf 25 (by omega)) (hf 26 (by omega)) c10, EL_c (r1 5 (by omega)) (hf 27 (by omega)) c11⟩
theorem EC_G (hC : EC σ l d o M) (h6 : NS σ ≤ 6) (h40 : NB σ ≤ 40) (hG : EG σ' M') (hF : Fr (fun k => 27 ≤ k ∧ k < 33) M M') (hf : ∀ f, f < 5 ∨ 8 < f → σ' f = σ f) : EC σ' l d o M' := by
  obtain ⟨c1, c2, c3, c4, c5, c6, c7, c8, c9, c10, c11⟩ := hC
  have r1 : ∀ k, ¬ (27 ≤ k ∧ k < 33) → M'.1 k = M.1 k := fun k h => (hF k h).1
  have r2 : ∀ k, ¬ (27 ≤ k ∧ k < 33) → M'.2 k = M.2 k := fun k h => (hF k h).2
  have h0 : ∀ i, σ' 0 i = σ 0 i := fun i => by rw [hf 0 (by omega)]
  exact ⟨EP_c (r1 0 (by omega)) (r2 0 (by omega)) (fun i _ => h0 i) c1, ET_c (fun t ht => r1 _ (by omega)) (fun i _ _ _ _ _ _ _ => h0 i) c2, ES_c (fun j hj => r1 _ (by omega)) (h0 0) (hf 1 (by omega)) (hf 2 (by omega)) (hf 3 (by omega)) (hf 4 (by omega)) (hf 28 (by omega)) c3, ER_c (fun j hj => r1 _ (by omega)) h6 (h0 0) (h0 2) (hf 1 (by omega)) (hf 21 (by omega)) (hf 22 (by omega)) (hf 28 (by omega)) c4, EU_c (fun j hj => r1 _ (by omega)) (h0 0) (h0 2) (hf 1 (by omega)) (hf 10 (by omega)) (hf 21 (by omega)) c5, hG, EB1_c (fun i hi => r1 _ (by omega)) (hf 12 (by omega)) (hf 13 (by omega)) (hf 14 (by omega)) (hf 15 (by omega)) (hf 19 (by omega)) c7, EB2_c (fun i hi => ⟨r1 _ (by omega), r2 _ (by omega)⟩) (h0 4) (hf 10 (by omega)) (hf 16 (by omega)) (hf 17 (by omega)) (hf 18 (by omega)) (hf 19 (by omega)) (hf 20 (by omega)) c8, EB3_c (fun i hi => ⟨r1 _ (by omega), r2 _ (by omega)⟩) h40 (h0 1) (hf 9 (by omega)) (hf 10 (by omega)) (hf 11 (by omega)) c9, EK_c (fun t ht => r1 _ (by omega)) (hf 23 (by omega)) (hf 24 (by omega)) (hf 25 (by omega)) (hf 26 (by omega)) c10, EL_c (r1 5 (by omega)) (hf 27 (by omega)) c11⟩
theorem EC_pig (hC : EC σ l d o M) (h6 : NS σ ≤ 6) (h40 : NB σ ≤ 40) {v : Nat} : EC (us σ 0 8 v) l d o (si M 0 16 (nO v)) := by
  obtain ⟨c1, c2, c3, c4, c5, c6, c7, c8, c9, c10, c11⟩ := id hC
  have r1 : ∀ k, k ≠ 0 → (si M 0 16 (nO v)).1 k = M.1 k := fun k h => si_1 h
  have hf : ∀ f, f ≠ 0 → us σ 0 8 v f = σ f := fun f h => us_f h
  have h0 : ∀ j, j ≠ 8 → us σ 0 8 v 0 j = σ 0 j := fun j h => us_ne (by omega)
  refine ⟨?_, ET_c (fun t ht => r1 _ (by omega)) (fun j h8 _ _ _ _ _ _ => h0 j h8) c2, ES_c (fun j hj => r1 _ (by omega)) (h0 0 (by omega)) (hf 1 (by omega)) (hf 2 (by omega)) (hf 3 (by omega)) (hf 4 (by omega)) (hf 28 (by omega)) c3, ER_c (fun j hj => r1 _ (by omega)) h6 (h0 0 (by omega)) (h0 2 (by omega)) (hf 1 (by omega)) (hf 21 (by omega)) (hf 22 (by omega)) (hf 28 (by omega)) c4, EU_c (fun j hj => r1 _ (by omega)) (h0 0 (by omega)) (h0 2 (by omega)) (hf 1 (by omega)) (hf 10 (by omega)) (hf 21 (by omega)) c5, EG_c (fun i hi => r1 _ (by omega)) (hf 5 (by omega)) (hf 6 (by omega)) (hf 7 (by omega)) (hf 8 (by omega)) c6, EB1_c (fun i hi => r1 _ (by omega)) (hf 12 (by omega)) (hf 13 (by omega)) (hf 14 (by omega)) (hf 15 (by omega)) (hf 19 (by omega)) c7, EB2_c (fun i hi => ⟨r1 _ (by omega), rfl⟩) (h0 4 (by omega)) (hf 10 (by omega)) (hf 16 (by omega)) (hf 17 (by omega)) (hf 18 (by omega)) (hf 19 (by omega)) (hf 20 (by omega)) c8, EB3_c (fun i hi => ⟨r1 _ (by omega), rfl⟩) h40 (h0 1 (by omega)) (hf 9 (by omega)) (hf 10 (by omega)) (hf 11 (by omega)) c9, EK_c (fun t ht => r1 _ (by omega)) (hf 23 (by omega)) (hf 24 (by omega)) (hf 25 (by omega)) (hf 26 (by omega)) c10, EL_c (r1 5 (by omega)) (hf 27 (by omega)) c11⟩
  obtain ⟨p1, p2, p3, p4, p5, p6, p7, p8, p9⟩ := c1
  unfold EP
  unfold NS NB OPN ALL RT RF MIN PIG INL at *
  rw [h0 0 (by omega), h0 1 (by omega), h0 2 (by omega), h0 3 (by omega), h0 4 (by omega), h0 5 (by omega), h0 6 (by omega), h0 7 (by omega), us_eq rfl rfl]
  simp (disch := omega) only [gi_eq, gi_ne, gi_sr, gr_si, gr_eq, gr_ne]
  exact ⟨p1, p2, p3, p4, p5, p6, p7, trivial, p9⟩
/-- the reference's taps -/
theorem EM_T (hE : EM σ M) (hT : MT σ' M') (hs : ∀ j, ¬ (29 ≤ j ∧ j ≤ 34) → j < 42 → gi M' 77 j = gi M 77 j) (hr : ∀ k, k ≠ 77 → M'.1 k = M.1 k) (h0 : ∀ i, i < 9 ∨ i = 15 → σ' 0 i = σ 0 i) (hf : ∀ f, f ≠ 0 → σ' f = σ f) : EM σ' M' := by
  obtain ⟨⟨c1, c2, c3, c4, c5, c6, c7, c8, c9, c10, c11⟩, c0⟩ := hE
  exact ⟨⟨MP_c (fun j hj => hs j (by omega) (by omega)) (fun j hj => h0 j (by omega)) c1, hT, MQ_c (fun j hj => hs j (by omega) (by omega)) (h0 8 (by omega)) c3, MS_c (fun k hk => hr k (by omega)) (h0 0 (by omega)) (fun f h => hf f (by omega)) c4, MG_c (fun k hk => hr k (by omega)) (fun f h => hf f (by omega)) c5, MB1_c (fun k hk => hr k (by omega)) (fun f h => hf f (by omega)) c6, MB2_c (fun k hk => hr k (by omega)) (h0 15 (by omega)) (fun f h => hf f (by omega)) c7, MB3_c (fun k hk => hr k (by omega)) (h0 1 (by omega)) (fun f h => hf f (by omega)) c8, MU_c (fun k hk => hr k (by omega)) (h0 2 (by omega)) (h0 15 (by omega)) (fun f h => hf f (by omega)) c9, MK_c (fun k hk => hr k (by omega)) (hs 38 (by omega) (by omega)) (fun f h => hf f (by omega)) c10, ML_c (hr 102 (by omega)) (hf 27 (by omega)) c11⟩, by rw [hs 0 (by omega) (by omega), c0]; unfold MIN; rw [h0 7 (by omega)]⟩
/-- taps told anew keep what holds -/
theorem WF_T (hW : WF σ) (hT : WT' σ') (h0 : ∀ i, i < 9 ∨ i = 15 → σ' 0 i = σ 0 i) (hf : ∀ f, f ≠ 0 → σ' f = σ f) : WF σ' := by
  obtain ⟨hA, hWS, hWG, hWT, hWB, hWK, hWC, -⟩ := id hW
  refine WF_g hW (fun i hi => h0 i (by omega)) (fun f h => hf f (by omega)) ?_ hT ?_ ?_ ?_ ?_ ?_ ?_
  · intro p hp
    have := hWG p hp
    unfold WEI THK GRD BAR at *
    rw [hf 5 (by omega), hf 6 (by omega), hf 7 (by omega), hf 8 (by omega)]
    exact this
  · intro t ht
    have := hWK t ht
    unfold HAS TG at *
    rw [hf 23 (by omega), hf 24 (by omega)]
    exact this
  · unfold PIG OPN at *
    rw [h0 8 (by omega)]
    exact ⟨hA.2.2.2.2.2.2.2.2.2.2.2, fun z => (hWC z).2.1⟩
  · unfold RT at *; rw [h0 5 (by omega)]; exact hA.2.2.2.2.1
  · unfold RF at *; rw [h0 6 (by omega)]; exact hA.2.2.2.2.2.1
  · unfold MIN at *; rw [h0 7 (by omega)]; exact hA.2.2.2.2.2.2.1
  · intro i hi
    have h1 := hWS.2 i hi
    refine ⟨?_, fun z => ?_⟩
    · unfold DIR at *; rw [hf 4 (by omega)]; exact h1
    · have := ((hWC z).2.2.2.2.2.1 i hi).2
      unfold DIR at *; rw [hf 4 (by omega)]; exact this
theorem W_receive (h : IV σ l d o M) (x : Int32) : OK1 (fL_receive x) (fX6_receive x) M := by
  obtain ⟨hW, hC, hE⟩ := id h
  rcases idx x (n := 4) (by omega) with z | ⟨j, h1, rfl⟩
  · refine E1 h (c := 1) (v := 0) (by omega) (by omega) ?_ ?_
    · unfold fL_receive fX5_receive
      rw [show (4 : Int32) = nI 4 from rfl, C_idx3 z, Option.bind_some]
      rfl
    · unfold fX6_receive
      rw [T_no z, Option.bind_some, G_1, Option.bind_some]
      rfl
  · have hT := hW.2.2.2.1
    obtain ⟨t1, t2, t3, t4, t5, t6, t7, t8, t9, t10⟩ := id hC.2.1
    have h0 : ∀ i, i < 9 ∨ i = 15 → us σ 0 14 j 0 i = σ 0 i := fun i hi => us_ne (by omega)
    have hf : ∀ f, f ≠ 0 → us σ 0 14 j f = σ f := fun f h => us_f h
    refine FO (v := nI (RCV σ)) (σ' := us σ 0 14 j) hE (EC_T' (M' := si M (6 + 2) 2 (nI j)) (l' := l) (d' := d) (o' := o) hC hW.1.1 hW.1.2.2.1 ?_ (Fr.rf.si (by omega)) h0 hf) (Fr.rf.si (by omega)) (WF_T hW ?_ h0 hf) ?_ ?_
    · unfold ET
      unfold LK LKU DR DRU DRT OPN NS RCV at *
      simp (disch := omega) only [gi_eq, gi_ne, gi_sr, gr_si, gr_eq, gr_ne, us_eq, us_ne]
      exact ⟨t1, t2, t3, t4, t5, t6, t7, t8, trivial, t10⟩
    · unfold WT' at *
      unfold LK LKU DR DRU DRT NS RCV at *
      simp (disch := omega) only [us_eq, us_ne]
      exact ⟨hT.1, hT.2.1, hT.2.2.1, hT.2.2.2.1, hT.2.2.2.2.1, h1⟩
    · unfold fL_receive fX5_receive
      rw [show (4 : Int32) = nI 4 from rfl, C_idx0 (by omega) h1, Option.bind_some, t9]
      rfl
    · intro N hN
      refine ⟨si (si N 77 43 0) 77 34 (nI j), ?_, EM_T hN ?_ (fun i h1 h2 => by rw [gi_ne (by omega), gi_ne (by omega)]) (fun k hk => by rw [si_1 hk, si_1 hk]) h0 hf, (Fr.rf.si (by omega)).si (by omega), by rw [gi_ne (by omega), gi_eq rfl rfl]; rfl⟩
      · unfold fX6_receive
        rw [T_ok h1, Option.bind_some, G_ok, Option.bind_some]
        dsimp only
        rw [if_neg (by decide), gi_ne (by omega), hN.1.2.1.2.2.2.2.2]
      · obtain ⟨m1', m2', m3', m4', m5', m6'⟩ := hN.1.2.1
        unfold MT
        unfold LK LKU DR DRU DRT RCV at *
        simp (disch := omega) only [gi_eq, gi_ne, gi_sr, gr_si, gr_eq, gr_ne, us_eq, us_ne]
        exact ⟨m1', m2', m3', m4', m5', trivial⟩
/-! a place on the way -/
theorem way (x : Int32) (hC : gi M 0 8 = nI (NS σ)) (h6 : NS σ ≤ 6) : (∃ v, (v ≠ 0 → v < NS σ) ∧ v ≤ 6 ∧ x = nO v ∧ fX5_checkOnTheWay x M = some 0 ∧ ∀ N, gi N 77 1 = nI (NS σ) → fX6_isPlace x N = some 1) ∨ (fX5_checkOnTheWay x M = some 3 ∧ ∀ N, gi N 77 1 = nI (NS σ) → fX6_isPlace x N = some 0) := by
  by_cases hx : x = nM
  · left
    refine ⟨0, fun z => absurd rfl z, by omega, hx, ?_, fun N hN => ?_⟩
    · unfold fX5_checkOnTheWay
      rw [if_pos (show x = -1 from hx)]
    · unfold fX6_isPlace
      rw [if_pos (show x = -1 from hx)]
  · rcases Nat.eq_zero_or_pos (NS σ) with z | z
    · right
      rw [z] at hC
      have key : fX5_checkIndex x (nI 0 - nI 1) M = some 3 := by
        unfold fX5_checkIndex
        by_cases q : x < 0
        · rw [if_pos q]
        · have hle : ¬ x < nI 0 - nI 1 := by
            obtain ⟨j, hj, rfl⟩ := ge0 q
            rw [c01]
            have := nM_lt hj
            rw [Int32.lt_iff_toInt_lt] at this
            rw [Int32.lt_iff_toInt_lt]
            omega
          rw [if_neg q, if_neg hle]
      refine ⟨?_, fun N hN => ?_⟩
      · unfold fX5_checkOnTheWay
        rw [if_neg (show ¬ x = -1 from hx), hC, Lt1, key, Option.bind_some]
        rfl
      · unfold fX6_isPlace
        rw [if_neg (show ¬ x = -1 from hx), hN, z, B_no, Option.bind_some, if_pos rfl]
        by_cases q : x < 0
        · exact Or.inl q
        · obtain ⟨j, hj, rfl⟩ := ge0 q
          right
          have : (nI 0 - 2).toInt = -2 := by decide
          rw [Int32.lt_iff_toInt_lt, nI_toInt hj]
          omega
    · have hcs : nI (NS σ) - 1 = nI (NS σ - 1) := by rw [Lt1, cSub z]
      have hms : nI (NS σ) - 2 = nI (NS σ - 1) - nI 1 := by
        obtain ⟨k, hk⟩ : ∃ k, NS σ = k + 1 := ⟨NS σ - 1, by omega⟩
        rw [hk, show k + 1 - 1 = k by omega]
        rcases (show k = 0 ∨ k = 1 ∨ k = 2 ∨ k = 3 ∨ k = 4 ∨ k = 5 by omega) with rfl | rfl | rfl | rfl | rfl | rfl <;> decide
      rcases idx x (n := NS σ - 1) (by omega) with q | ⟨j, hj, rfl⟩
      · right
        refine ⟨?_, fun N hN => ?_⟩
        · unfold fX5_checkOnTheWay
          rw [if_neg (show ¬ x = -1 from hx), hC, hcs, C_idx3 q, Option.bind_some]
          rfl
        · unfold fX6_isPlace
          rw [if_neg (show ¬ x = -1 from hx), hN, hms, Lt0, B_no (idx_no (by omega) q), Option.bind_some]
          rfl
      · left
        refine ⟨j + 1, fun _ => by omega, by omega, (nO_s j).symm, ?_, fun N hN => ?_⟩
        · unfold fX5_checkOnTheWay
          rw [if_neg (show ¬ nI j = -1 from hx), hC, hcs, C_idx0 (by omega) hj, Option.bind_some]
          rfl
        · unfold fX6_isPlace
          rw [if_neg (show ¬ nI j = -1 from hx), hN, hms, Lt0, cSub (by omega), B_ok (by omega) (by omega) (by omega), Option.bind_some]
          rfl
theorem W_leak (h : IV σ l d o M) (x y : Int32) : OK0 (fL_leak x y) (fX6_leak x y) M := by
  obtain ⟨hW, hC, hE⟩ := id h
  rcases way x hC.1.1 hW.1.1 with ⟨v, v1, v2, v3, v4, v5⟩ | ⟨v4, v5⟩
  · have bad : (y < nI 1 ∨ nI 10 < y) → OK0 (fL_leak x y) (fX6_leak x y) M := fun z => by
      refine E0 h (c := 2) ?_ ?_
      · unfold fL_leak fX5_leak
        rw [v4, Option.bind_some, if_pos rfl, Lt1, show (10 : Int32) = nI 10 from rfl, C_rng1 (by omega) (by omega) (by omega) z, Option.bind_some]
        rfl
      · unfold fX6_leak
        rw [v5 M hE.1.1.1, Option.bind_some, B_no (show y < 1 ∨ 10 < y from z), Option.bind_some, G_2, Option.bind_some]
        rfl
    rcases rng y (a := 1) (b := 10) (by omega) (by omega) with z | z | ⟨j, h1, h2, rfl⟩
    · exact bad (Or.inl z)
    · exact bad (Or.inr z)
    · have hT := hW.2.2.2.1
      obtain ⟨t1, t2, t3, t4, t5, t6, t7, t8, t9, t10⟩ := id hC.2.1
      have h0 : ∀ i, i < 9 ∨ i = 15 → us (us σ 0 9 v) 0 10 j 0 i = σ 0 i := fun i hi => by rw [us_ne (by omega), us_ne (by omega)]
      have hf : ∀ f, f ≠ 0 → us (us σ 0 9 v) 0 10 j f = σ f := fun f h => by rw [us_f h, us_f h]
      refine FZ (σ' := us (us σ 0 9 v) 0 10 j) hE (EC_T' (M' := si (si (si M (6 + 0) 0 x) (6 + 0) 1 (nI j)) (6 + 0) 2 0) (l' := l) (d' := d) (o' := o) hC hW.1.1 hW.1.2.2.1 ?_ (((Fr.rf.si (by omega)).si (by omega)).si (by omega)) h0 hf) (((Fr.rf.si (by omega)).si (by omega)).si (by omega)) (WF_T hW ?_ h0 hf) ?_ ?_
      · unfold ET
        unfold LK LKU DR DRU DRT OPN NS RCV at *
        simp (disch := omega) only [gi_eq, gi_ne, gi_sr, gr_si, gr_eq, gr_ne, us_eq, us_ne]
        exact ⟨v3, trivial, t3, t4, t5, t6, t7, t8, t9, t10⟩
      · unfold WT' at *
        unfold LK LKU DR DRU DRT NS RCV at *
        simp (disch := omega) only [us_eq, us_ne]
        exact ⟨v1, h2, hT.2.2.1, hT.2.2.2.1, hT.2.2.2.2.1, hT.2.2.2.2.2⟩
      · unfold fL_leak fX5_leak fX4_tell
        rw [v4, Option.bind_some, if_pos rfl, Lt1, show (10 : Int32) = nI 10 from rfl, C_rng0 (by omega) (by omega) (by omega), Option.bind_some, if_pos rfl, if_pos (by omega)]
        rfl
      · intro N hN
        refine ⟨si (si (si N 77 43 0) 77 32 x) 77 33 (nI j), ?_, EM_T hN ?_ (fun i h1 h2 => by rw [gi_ne (by omega), gi_ne (by omega), gi_ne (by omega)]) (fun k hk => by rw [si_1 hk, si_1 hk, si_1 hk]) h0 hf, ((Fr.rf.si (by omega)).si (by omega)).si (by omega), by rw [gi_ne (by omega), gi_ne (by omega), gi_eq rfl rfl]; rfl⟩
        · unfold fX6_leak
          rw [v5 N hN.1.1.1, Option.bind_some, Lt1, show (10 : Int32) = nI 10 from rfl, B_ok (by omega) (by omega) (by omega), Option.bind_some]
          show (fX6_goes 1 1 1 N).bind _ = _
          rw [G_ok, Option.bind_some]
          rfl
        · obtain ⟨m1', m2', m3', m4', m5', m6'⟩ := hN.1.2.1
          unfold MT
          unfold LK LKU DR DRU DRT RCV at *
          simp (disch := omega) only [gi_eq, gi_ne, gi_sr, gr_si, gr_eq, gr_ne, us_eq, us_ne]
          exact ⟨m1', m2', m3', v3, trivial, m6'⟩
  · refine E0 h (c := 1) ?_ ?_
    · unfold fL_leak fX5_leak
      rw [v4, Option.bind_some]
      rfl
    · unfold fX6_leak
      rw [v5 M hE.1.1.1, Option.bind_some]
      unfold fX6_isBetween
      split
      · rw [Option.bind_some, G_1, Option.bind_some]; rfl
      · split
        · rw [Option.bind_some, G_1, Option.bind_some]; rfl
        · rw [Option.bind_some, G_1, Option.bind_some]; rfl
theorem W_drop (h : IV σ l d o M) (x y w : Int32) : OK0 (fL_drop x y w) (fX6_drop x y w) M := by
  obtain ⟨hW, hC, hE⟩ := id h
  have b20 : fX6_drop_b20 x y w M = some (si M 77 43 (nI 1)) := by
    unfold fX6_drop_b20 fX6_drop_b21 fX6_isBetween
    split
    · rw [Option.bind_some, G_1, Option.bind_some]; rfl
    · split
      · rw [Option.bind_some, G_1, Option.bind_some]; rfl
      · rw [Option.bind_some, G_1, Option.bind_some]; rfl
  rcases way x hC.1.1 hW.1.1 with ⟨v, v1, v2, v3, v4, v5⟩ | ⟨v4, v5⟩
  · rcases idx w (n := 4) (by omega) with q | ⟨t, ht, rfl⟩
    · refine E0 h (c := 1) ?_ ?_
      · unfold fL_drop fX5_drop
        rw [v4, Option.bind_some, if_pos rfl, show (4 : Int32) = nI 4 from rfl, C_idx3 q, Option.bind_some]
        rfl
      · unfold fX6_drop
        rw [v5 M hE.1.1.1, Option.bind_some, if_neg (by decide), T_no q, Option.bind_some, if_pos rfl, b20]
    · have bad : (y < nI 1 ∨ nI 10 < y) → OK0 (fL_drop x y (nI t)) (fX6_drop x y (nI t)) M := fun z => by
        refine E0 h (c := 2) ?_ ?_
        · unfold fL_drop fX5_drop
          rw [v4, Option.bind_some, if_pos rfl, show (4 : Int32) = nI 4 from rfl, C_idx0 (by omega) ht, Option.bind_some, if_pos rfl, Lt1, show (10 : Int32) = nI 10 from rfl, C_rng1 (by omega) (by omega) (by omega) z, Option.bind_some]
          rfl
        · unfold fX6_drop
          rw [v5 M hE.1.1.1, Option.bind_some, if_neg (by decide), T_ok ht, Option.bind_some, if_neg (by decide)]
          unfold fX6_drop_b21
          rw [B_no (show y < 1 ∨ 10 < y from z), Option.bind_some, G_2, Option.bind_some]
          rfl
      rcases rng y (a := 1) (b := 10) (by omega) (by omega) with z | z | ⟨j, h1, h2, rfl⟩
      · exact bad (Or.inl z)
      · exact bad (Or.inr z)
      · have hT := hW.2.2.2.1
        obtain ⟨t1, t2, t3, t4, t5, t6, t7, t8, t9, t10⟩ := id hC.2.1
        have h0 : ∀ i, i < 9 ∨ i = 15 → us (us (us σ 0 11 v) 0 12 j) 0 13 t 0 i = σ 0 i := fun i hi => by rw [us_ne (by omega), us_ne (by omega), us_ne (by omega)]
        have hf : ∀ f, f ≠ 0 → us (us (us σ 0 11 v) 0 12 j) 0 13 t f = σ f := fun f h => by rw [us_f h, us_f h, us_f h]
        refine FZ (σ' := us (us (us σ 0 11 v) 0 12 j) 0 13 t) hE (EC_T' (M' := si (si (si M (6 + 1) 0 x) (6 + 1) 1 (nI j)) (6 + 1) 2 (nI t)) (l' := l) (d' := d) (o' := o) hC hW.1.1 hW.1.2.2.1 ?_ (((Fr.rf.si (by omega)).si (by omega)).si (by omega)) h0 hf) (((Fr.rf.si (by omega)).si (by omega)).si (by omega)) (WF_T hW ?_ h0 hf) ?_ ?_
        · unfold ET
          unfold LK LKU DR DRU DRT OPN NS RCV at *
          simp (disch := omega) only [gi_eq, gi_ne, gi_sr, gr_si, gr_eq, gr_ne, us_eq, us_ne]
          exact ⟨t1, t2, t3, v3, trivial, trivial, t7, t8, t9, t10⟩
        · unfold WT' at *
          unfold LK LKU DR DRU DRT NS RCV at *
          simp (disch := omega) only [us_eq, us_ne]
          exact ⟨hT.1, hT.2.1, v1, h2, ht, hT.2.2.2.2.2⟩
        · unfold fL_drop fX5_drop fX4_tell
          rw [v4, Option.bind_some, if_pos rfl, show (4 : Int32) = nI 4 from rfl, C_idx0 (by omega) ht, Option.bind_some, if_pos rfl, Lt1, show (10 : Int32) = nI 10 from rfl, C_rng0 (by omega) (by omega) (by omega), Option.bind_some, if_pos rfl, if_pos (by omega)]
          rfl
        · intro N hN
          refine ⟨si (si (si (si N 77 43 0) 77 29 x) 77 30 (nI j)) 77 31 (nI t), ?_, EM_T hN ?_ (fun i h1 h2 => by rw [gi_ne (by omega), gi_ne (by omega), gi_ne (by omega), gi_ne (by omega)]) (fun k hk => by rw [si_1 hk, si_1 hk, si_1 hk, si_1 hk]) h0 hf, (((Fr.rf.si (by omega)).si (by omega)).si (by omega)).si (by omega), by rw [gi_ne (by omega), gi_ne (by omega), gi_ne (by omega), gi_eq rfl rfl]; rfl⟩
          · unfold fX6_drop
            rw [v5 N hN.1.1.1, Option.bind_some, if_neg (by decide), T_ok ht, Option.bind_some, if_neg (by decide)]
            unfold fX6_drop_b21
            rw [Lt1, show (10 : Int32) = nI 10 from rfl, B_ok (by omega) (by omega) (by omega), Option.bind_some]
            show (fX6_goes 1 1 1 N).bind _ = _
            rw [G_ok, Option.bind_some]
            rfl
          · obtain ⟨m1', m2', m3', m4', m5', m6'⟩ := hN.1.2.1
            unfold MT
            unfold LK LKU DR DRU DRT RCV at *
            simp (disch := omega) only [gi_eq, gi_ne, gi_sr, gr_si, gr_eq, gr_ne, us_eq, us_ne]
            exact ⟨v3, trivial, trivial, m4', m5', m6'⟩
  · refine E0 h (c := 1) ?_ ?_
    · unfold fL_drop fX5_drop
      rw [v4, Option.bind_some]
      rfl
    · unfold fX6_drop
      rw [v5 M hE.1.1.1, Option.bind_some, if_pos rfl, b20]
end L71
