/-! a unit goes, in the class -/
section Go
variable {σ σ' : Sp} {M M' : Mm} {l d o : Nat}
theorem EC_K (hC : EC σ l d o M) (h6 : NS σ ≤ 6) (h40 : NB σ ≤ 40) (hE : EK σ' M') (hF : Fr (fun k => 73 ≤ k ∧ k < 77) M M') (h : ∀ f, f < 23 ∨ 26 < f → σ' f = σ f) : EC σ' l d o M' := by
  obtain ⟨c1, c2, c3, c4, c5, c6, c7, c8, c9, c10, c11⟩ := hC
  have h0 : ∀ i, σ' 0 i = σ 0 i := fun i => by rw [h 0 (by omega)]
  have r1 : ∀ k, k < 73 → M'.1 k = M.1 k := fun k hk => (hF k (by omega)).1
  have r2 : ∀ k, k < 73 → M'.2 k = M.2 k := fun k hk => (hF k (by omega)).2
  exact ⟨EP_c (r1 0 (by omega)) (r2 0 (by omega)) (fun i _ => h0 i) c1, ET_c (fun t ht => r1 _ (by omega)) (fun i _ _ _ _ _ _ _ => h0 i) c2, ES_c (fun i hi => r1 _ (by omega)) (h0 0) (h 1 (by omega)) (h 2 (by omega)) (h 3 (by omega)) (h 4 (by omega)) (h 28 (by omega)) c3, ER_c (fun i hi => r1 _ (by omega)) h6 (h0 0) (h0 2) (h 1 (by omega)) (h 21 (by omega)) (h 22 (by omega)) (h 28 (by omega)) c4, EU_c (fun i hi => r1 _ (by omega)) (h0 0) (h0 2) (h 1 (by omega)) (h 10 (by omega)) (h 21 (by omega)) c5, EG_c (fun i hi => r1 _ (by omega)) (h 5 (by omega)) (h 6 (by omega)) (h 7 (by omega)) (h 8 (by omega)) c6, EB1_c (fun i hi => r1 _ (by omega)) (h 12 (by omega)) (h 13 (by omega)) (h 14 (by omega)) (h 15 (by omega)) (h 19 (by omega)) c7, EB2_c (fun i hi => ⟨r1 _ (by omega), r2 _ (by omega)⟩) (h0 4) (h 10 (by omega)) (h 16 (by omega)) (h 17 (by omega)) (h 18 (by omega)) (h 19 (by omega)) (h 20 (by omega)) c8, EB3_c (fun i hi => ⟨r1 _ (by omega), r2 _ (by omega)⟩) h40 (h0 1) (h 9 (by omega)) (h 10 (by omega)) (h 11 (by omega)) c9, hE, EL_c (r1 5 (by omega)) (h 27 (by omega)) c11⟩
/-- all but the batches' counts -/
theorem EC_B1 (hC : EC σ l d o M) {l' d' o' : Nat} (h6 : NS σ ≤ 6) (h40 : NB σ ≤ 40) (hT : ET σ' l' d' o' M') (hE : EB1 σ' M') (hE2 : EB2 σ' M') (hE3 : EB3 σ' M') (hF : Fr (fun k => (6 ≤ k ∧ k < 9) ∨ (33 ≤ k ∧ k < 73)) M M') (h : ∀ f, f < 12 ∨ 15 < f → f ≠ 19 → f ≠ 20 → σ' f = σ f) : EC σ' l' d' o' M' := by
  obtain ⟨c1, c2, c3, c4, c5, c6, c7, c8, c9, c10, c11⟩ := hC
  have h0 : ∀ i, σ' 0 i = σ 0 i := fun i => by rw [h 0 (by omega) (by omega) (by omega)]
  have r1 : ∀ k, ¬ ((6 ≤ k ∧ k < 9) ∨ (33 ≤ k ∧ k < 73)) → M'.1 k = M.1 k := fun k hk => (hF k hk).1
  have r2 : ∀ k, ¬ ((6 ≤ k ∧ k < 9) ∨ (33 ≤ k ∧ k < 73)) → M'.2 k = M.2 k := fun k hk => (hF k hk).2
  have g : ∀ f, f < 12 ∨ 20 < f ∨ (15 < f ∧ f < 19) → σ' f = σ f := fun f hf => h f (by omega) (by omega) (by omega)
  exact ⟨EP_c (r1 0 (by omega)) (r2 0 (by omega)) (fun i _ => h0 i) c1, hT, ES_c (fun i hi => r1 _ (by omega)) (h0 0) (g 1 (by omega)) (g 2 (by omega)) (g 3 (by omega)) (g 4 (by omega)) (g 28 (by omega)) c3, ER_c (fun i hi => r1 _ (by omega)) h6 (h0 0) (h0 2) (g 1 (by omega)) (g 21 (by omega)) (g 22 (by omega)) (g 28 (by omega)) c4, EU_c (fun i hi => r1 _ (by omega)) (h0 0) (h0 2) (g 1 (by omega)) (g 10 (by omega)) (g 21 (by omega)) c5, EG_c (fun i hi => r1 _ (by omega)) (g 5 (by omega)) (g 6 (by omega)) (g 7 (by omega)) (g 8 (by omega)) c6, hE, hE2, hE3, EK_c (fun i hi => r1 _ (by omega)) (g 23 (by omega)) (g 24 (by omega)) (g 25 (by omega)) (g 26 (by omega)) c10, EL_c (r1 5 (by omega)) (g 27 (by omega)) c11⟩
theorem EB3_1 (hE : EB3 σ M) {b j : Nat} {x : Int32} (hj : j ≠ 3) (hj2 : j ≠ 2) : EB3 σ (si M (33 + b) j x) := by
  intro b' hb'
  obtain ⟨a1, a2, a3⟩ := hE b' hb'
  simp (disch := omega) only [gi_eq, gi_ne, gi_sr, gr_si, gr_eq, gr_ne]
  exact ⟨a1, a2, a3⟩
theorem EB2_1 (hE : EB2 σ M) {b j : Nat} {x : Int32} (hj : j ≠ 10) (hj2 : j ≠ 12) : EB2 σ (si M (33 + b) j x) := by
  intro b' hb'
  obtain ⟨a1, a2, a3, a4⟩ := hE b' hb'
  simp (disch := omega) only [gi_eq, gi_ne, gi_sr, gr_si, gr_eq, gr_ne]
  exact ⟨a1, a2, a3, a4⟩
theorem EB3_c' (hE : EB3 σ M) (h1 : NB σ' = NB σ) (h9 : σ' 9 = σ 9) (h10 : σ' 10 = σ 10) (h11 : σ' 11 = σ 11) : EB3 σ' M := by
  intro b hb
  rw [h1] at hb
  have := hE b hb
  unfold ORD PRD SHP at this ⊢
  rw [h9, h10, h11]
  exact this
theorem EB2_c' (hE : EB2 σ M) (h4 : ALL σ' = ALL σ) (h10 : σ' 10 = σ 10) (h16 : σ' 16 = σ 16) (h17 : σ' 17 = σ 17) (h18 : σ' 18 = σ 18) (h19 : σ' 19 = σ 19) (h20 : σ' 20 = σ 20) : EB2 σ' M := by
  intro b hb
  have := hE b hb
  rw [mix_c h4 h10 h16 h18 b (by unfold FG; rw [h19]) (by unfold KEP; rw [h20])]
  unfold AHD BHD EBF FG at this ⊢
  rw [h16, h17, h18, h19]
  exact this
theorem WM_c (h0 : ∀ i, σ' 0 i = σ 0 i) (h10 : σ' 10 = σ 10) (h12 : σ' 12 = σ 12) (h16 : σ' 16 = σ 16) (h17 : σ' 17 = σ 17) (h18 : σ' 18 = σ 18) (h19 : σ' 19 = σ 19) (h20 : σ' 20 = σ 20) (hM : WM σ) : WM σ' := by
  unfold WM at hM ⊢
  unfold NB ALL AHD BHD EBF KEP FG ENT PRD at hM ⊢
  rw [h0, h0, h10, h12, h16, h17, h18, h19, h20]
  exact hM
theorem C_cnt0 (hC : EC σ l d o M) (h6 : NS σ ≤ 6) (h40 : NB σ ≤ 40) {b : Nat} (hb : b < NB σ) : EC (us σ 15 b (LEA σ b + 1)) (l + 1) d o (si (si M (6 + 0) 3 (nI (l + 1))) (33 + b) 7 (nI (LEA σ b + 1))) := by
  refine EC_B1 hC h6 h40 ?_ ?_ ?_ ?_ (((Fr.rf (S := fun k => (6 ≤ k ∧ k < 9) ∨ (33 ≤ k ∧ k < 73))).si (by omega)).si (by omega)) (fun f h1 _ _ => us_f (by omega))
  · have hT := hC.2.1
    unfold ET at hT ⊢
    unfold NS OPN LK LKU DR DRU DRT RCV at *
    simp (disch := omega) only [gi_eq, gi_ne, gi_sr, gr_si, gr_eq, gr_ne, us_ne]
    obtain ⟨t1, t2, t3, t4, t5, t6, t7, t8, t9, t10⟩ := hT
    exact ⟨t1, t2, trivial, t4, t5, t6, t7, t8, t9, t10⟩
  · intro b' hb'
    obtain ⟨a1, a2, a3, a4, a5, a6⟩ := hC.2.2.2.2.2.2.1 b' hb'
    unfold ENT LEF DRO LEA FG at *
    by_cases q : b' = b
    · subst q
      simp (disch := omega) only [gi_eq, gi_ne, gi_sr, gr_si, gr_eq, gr_ne, us_ne, us_eq]
      exact ⟨a1, a2, a3, a4, trivial, a6⟩
    · simp (disch := omega) only [gi_eq, gi_ne, gi_sr, gr_si, gr_eq, gr_ne, us_ne, us_eq]
      exact ⟨a1, a2, a3, a4, a5, a6⟩
  · refine EB2_c' (EB2_1 ?_ (by omega) (by omega)) rfl ?_ ?_ ?_ ?_ ?_ ?_
    · intro b' hb'
      obtain ⟨a1, a2, a3, a4⟩ := hC.2.2.2.2.2.2.2.1 b' hb'
      simp (disch := omega) only [gi_eq, gi_ne, gi_sr, gr_si, gr_eq, gr_ne]
      exact ⟨a1, a2, a3, a4⟩
    all_goals exact us_f (by omega)
  · refine EB3_c' (EB3_1 ?_ (by omega) (by omega)) rfl ?_ ?_ ?_
    · intro b' hb'
      obtain ⟨a1, a2, a3⟩ := hC.2.2.2.2.2.2.2.2.1 b' hb'
      simp (disch := omega) only [gi_eq, gi_ne, gi_sr, gr_si, gr_eq, gr_ne]
      exact ⟨a1, a2, a3⟩
    all_goals exact us_f (by omega)
theorem C_cnt1 (hC : EC σ l d o M) (h6 : NS σ ≤ 6) (h40 : NB σ ≤ 40) {b : Nat} (hb : b < NB σ) : EC (us σ 14 b (DRO σ b + 1)) l (d + 1) o (si (si M (6 + 1) 3 (nI (d + 1))) (33 + b) 6 (nI (DRO σ b + 1))) := by
  refine EC_B1 hC h6 h40 ?_ ?_ ?_ ?_ (((Fr.rf (S := fun k => (6 ≤ k ∧ k < 9) ∨ (33 ≤ k ∧ k < 73))).si (by omega)).si (by omega)) (fun f h1 _ _ => us_f (by omega))
  · have hT := hC.2.1
    unfold ET at hT ⊢
    unfold NS OPN LK LKU DR DRU DRT RCV at *
    simp (disch := omega) only [gi_eq, gi_ne, gi_sr, gr_si, gr_eq, gr_ne, us_ne]
    obtain ⟨t1, t2, t3, t4, t5, t6, t7, t8, t9, t10⟩ := hT
    exact ⟨t1, t2, t3, t4, t5, t6, trivial, t8, t9, t10⟩
  · intro b' hb'
    obtain ⟨a1, a2, a3, a4, a5, a6⟩ := hC.2.2.2.2.2.2.1 b' hb'
    unfold ENT LEF DRO LEA FG at *
    by_cases q : b' = b
    · subst q
      simp (disch := omega) only [gi_eq, gi_ne, gi_sr, gr_si, gr_eq, gr_ne, us_ne, us_eq]
      exact ⟨a1, a2, a3, trivial, a5, a6⟩
    · simp (disch := omega) only [gi_eq, gi_ne, gi_sr, gr_si, gr_eq, gr_ne, us_ne, us_eq]
      exact ⟨a1, a2, a3, a4, a5, a6⟩
  · refine EB2_c' (EB2_1 ?_ (by omega) (by omega)) rfl ?_ ?_ ?_ ?_ ?_ ?_
    · intro b' hb'
      obtain ⟨a1, a2, a3, a4⟩ := hC.2.2.2.2.2.2.2.1 b' hb'
      simp (disch := omega) only [gi_eq, gi_ne, gi_sr, gr_si, gr_eq, gr_ne]
      exact ⟨a1, a2, a3, a4⟩
    all_goals exact us_f (by omega)
  · refine EB3_c' (EB3_1 ?_ (by omega) (by omega)) rfl ?_ ?_ ?_
    · intro b' hb'
      obtain ⟨a1, a2, a3⟩ := hC.2.2.2.2.2.2.2.2.1 b' hb'
      simp (disch := omega) only [gi_eq, gi_ne, gi_sr, gr_si, gr_eq, gr_ne]
      exact ⟨a1, a2, a3⟩
    all_goals exact us_f (by omega)
theorem C_cnt2 (hC : EC σ l d o M) (h6 : NS σ ≤ 6) (h40 : NB σ ≤ 40) {b : Nat} (hb : b < NB σ) : EC (us σ 13 b (LEF σ b + 1)) l d (o + 1) (si (si M (6 + 2) 3 (nI (o + 1))) (33 + b) 5 (nI (LEF σ b + 1))) := by
  refine EC_B1 hC h6 h40 ?_ ?_ ?_ ?_ (((Fr.rf (S := fun k => (6 ≤ k ∧ k < 9) ∨ (33 ≤ k ∧ k < 73))).si (by omega)).si (by omega)) (fun f h1 _ _ => us_f (by omega))
  · have hT := hC.2.1
    unfold ET at hT ⊢
    unfold NS OPN LK LKU DR DRU DRT RCV at *
    simp (disch := omega) only [gi_eq, gi_ne, gi_sr, gr_si, gr_eq, gr_ne, us_ne]
    obtain ⟨t1, t2, t3, t4, t5, t6, t7, t8, t9, t10⟩ := hT
    exact ⟨t1, t2, t3, t4, t5, t6, t7, t8, t9, trivial⟩
  · intro b' hb'
    obtain ⟨a1, a2, a3, a4, a5, a6⟩ := hC.2.2.2.2.2.2.1 b' hb'
    unfold ENT LEF DRO LEA FG at *
    by_cases q : b' = b
    · subst q
      simp (disch := omega) only [gi_eq, gi_ne, gi_sr, gr_si, gr_eq, gr_ne, us_ne, us_eq]
      exact ⟨a1, a2, trivial, a4, a5, a6⟩
    · simp (disch := omega) only [gi_eq, gi_ne, gi_sr, gr_si, gr_eq, gr_ne, us_ne, us_eq]
      exact ⟨a1, a2, a3, a4, a5, a6⟩
  · refine EB2_c' (EB2_1 ?_ (by omega) (by omega)) rfl ?_ ?_ ?_ ?_ ?_ ?_
    · intro b' hb'
      obtain ⟨a1, a2, a3, a4⟩ := hC.2.2.2.2.2.2.2.1 b' hb'
      simp (disch := omega) only [gi_eq, gi_ne, gi_sr, gr_si, gr_eq, gr_ne]
      exact ⟨a1, a2, a3, a4⟩
    all_goals exact us_f (by omega)
  · refine EB3_c' (EB3_1 ?_ (by omega) (by omega)) rfl ?_ ?_ ?_
    · intro b' hb'
      obtain ⟨a1, a2, a3⟩ := hC.2.2.2.2.2.2.2.2.1 b' hb'
      simp (disch := omega) only [gi_eq, gi_ne, gi_sr, gr_si, gr_eq, gr_ne]
      exact ⟨a1, a2, a3⟩
    all_goals exact us_f (by omega)
theorem tsg_lt (hT : WT' σ) (h1 : 1 ≤ NS σ) : tsg σ (tap σ l d) < NS σ := by
  obtain ⟨w1, w2, w3, -⟩ := hT
  unfold tsg tap
  by_cases h : LK σ ≠ 0 ∧ l < LKU σ
  · rw [if_pos h, if_pos rfl]
    have := w1 h.1
    omega
  · rw [if_neg h]
    by_cases h2 : DR σ ≠ 0 ∧ d < DRU σ
    · rw [if_pos h2, if_neg (by omega), if_pos rfl]
      have := w3 h2.1
      omega
    · rw [if_neg h2, if_neg (by omega), if_neg (by omega)]
      omega
theorem tap_cell (hE : ET σ l d o M) (ho : OPN σ = 1) : gi M (6 + tap σ l d) 0 = nI (tsg σ (tap σ l d)) := by
  obtain ⟨t1, t2, t3, t4, t5, t6, t7, t8, t9, t10⟩ := hE
  unfold tsg tap
  by_cases h : LK σ ≠ 0 ∧ l < LKU σ
  · rw [if_pos h, if_pos rfl, t1, nO_p (by omega)]
  · rw [if_neg h]
    by_cases h2 : DR σ ≠ 0 ∧ d < DRU σ
    · rw [if_pos h2, if_neg (by omega), if_pos rfl, t4, nO_p (by omega)]
    · rw [if_neg h2, if_neg (by omega), if_neg (by omega), t8 ho]
/-- the dirt of the segments up to s goes -/
theorem C_clean_L {s : Nat} (hs : s < 6) : ∀ (n k : Nat) (M : Mm), k ≤ s + 1 → s + 1 - k < n → ∃ M', fX5_cleanUpTo_L2 n (nI s) (nI k) M = some M' ∧ Fr (fun r => 9 ≤ r ∧ r < 27) M M' ∧ M'.2 = M.2 ∧ ∀ i, i < 6 → ∀ j, gi M' (9 + 3 * i) j = (if j = 6 ∧ k ≤ i ∧ i ≤ s then nI 0 else gi M (9 + 3 * i) j) ∧ gi M' (10 + 3 * i) j = gi M (10 + 3 * i) j ∧ gi M' (11 + 3 * i) j = gi M (11 + 3 * i) j
  | 0, k, M, h1, h2 => by omega
  | n + 1, k, M, h1, h2 => by
    rw [fX5_cleanUpTo_L2]
    dsimp only
    rcases Nat.lt_or_ge s k with c | c
    · refine ⟨M, ?_, Fr.rf, rfl, fun i hi j => ⟨?_, rfl, rfl⟩⟩
      · simp (disch := omega) only [cLt, cLe, cEq, cCl, cAdd, cMul, cMl, cMe, cMle, cMm, Lt0, Lt1, Lt2, Lt3, Lt4, Lt5, Lt6, Lt7, Lt8, Lt9, Lt10, Lt31, Lt40, Lt50, Lt60, Lt63, Lt99, Lt100, Lt128, Lt200, Lt360, Lt500, Lt512, Lt9999, Lm, if_true, if_false, if_pos, if_neg, Option.bind_some]
      · rw [if_neg (by omega)]
    · obtain ⟨M', q1, q2, q4, q3⟩ := C_clean_L hs n (k + 1) (si M (9 + 3 * k) 6 (nI 0)) (by omega) (by omega)
      refine ⟨M', ?_, Fr.tr (Fr.rf.si (by omega)) q2, q4, fun i hi j => ?_⟩
      · simp (disch := omega) only [cLt, cLe, cEq, cCl, cAdd, cMul, cMl, cMe, cMle, cMm, Lt0, Lt1, Lt2, Lt3, Lt4, Lt5, Lt6, Lt7, Lt8, Lt9, Lt10, Lt31, Lt40, Lt50, Lt60, Lt63, Lt99, Lt100, Lt128, Lt200, Lt360, Lt500, Lt512, Lt9999, Lm, if_true, if_false, if_pos, if_neg, Option.bind_some]
        exact q1
      · obtain ⟨g1, g2, g3⟩ := q3 i hi j
        rw [g1, g2, g3]
        refine ⟨?_, gi_ne (by omega), gi_ne (by omega)⟩
        by_cases z : j = 6 ∧ k + 1 ≤ i ∧ i ≤ s
        · rw [if_pos z, if_pos (by omega)]
        · rw [if_neg z]
          by_cases y : i = k ∧ j = 6
          · rw [gi_eq (by omega) y.2, if_pos (by omega)]
          · rw [gi_ne (by omega), if_neg (by omega)]
theorem C_clean {s : Nat} (hs : s < 6) (M : Mm) : ∃ M', fX5_cleanUpTo (nI s) M = some M' ∧ Fr (fun r => 9 ≤ r ∧ r < 27) M M' ∧ M'.2 = M.2 ∧ ∀ i, i < 6 → ∀ j, gi M' (9 + 3 * i) j = (if j = 6 ∧ i ≤ s then nI 0 else gi M (9 + 3 * i) j) ∧ gi M' (10 + 3 * i) j = gi M (10 + 3 * i) j ∧ gi M' (11 + 3 * i) j = gi M (11 + 3 * i) j := by
  obtain ⟨M', q1, q2, q4, q3⟩ := C_clean_L hs 400 0 M (by omega) (by omega)
  refine ⟨M', q1, q2, q4, fun i hi j => ?_⟩
  obtain ⟨g1, g2, g3⟩ := q3 i hi j
  refine ⟨?_, g2, g3⟩
  rw [g1]
  by_cases z : j = 6 ∧ i ≤ s
  · rw [if_pos z, if_pos (by omega)]
  · rw [if_neg z, if_neg (by omega)]
/-- the first unit of a batch has gone -/
theorem C_go2 (hC : EC σ l d o M) (h6 : NS σ ≤ 6) (h40 : NB σ ≤ 40) {b : Nat} (hb : b < NB σ) (hz : FG σ b = 0) : EC (go2 σ b 0) l d o (si (si M (33 + b) 12 (nI (mix σ b))) (33 + b) 11 (nI 1)) := by
  unfold go2
  rw [if_pos rfl]
  have hx : mix (us (us σ 20 b (isq (ALL σ - EBF σ b))) 19 b 1) b = mix σ b := by
    unfold mix
    unfold FG at hz
    unfold AHD PRD FG KEP ALL EBF at *
    simp (disch := omega) only [us_ne, us_eq]
    rw [hz]
    simp only [Nat.one_ne_zero, if_false, if_true]
  have hy : ∀ b', b' ≠ b → mix (us (us σ 20 b (isq (ALL σ - EBF σ b))) 19 b 1) b' = mix σ b' := by
    intro b' h'
    unfold mix
    unfold AHD PRD FG KEP ALL EBF at *
    simp (disch := omega) only [us_ne]
  refine EC_B1 hC h6 h40 ?_ ?_ ?_ ?_ (((Fr.rf (S := fun k => (6 ≤ k ∧ k < 9) ∨ (33 ≤ k ∧ k < 73))).si (by omega)).si (by omega)) (fun f h1 h2 h3 => by rw [us_f h2, us_f h3])
  · have hT := hC.2.1
    unfold ET at hT ⊢
    unfold NS OPN LK LKU DR DRU DRT RCV at *
    simp (disch := omega) only [gi_eq, gi_ne, gi_sr, gr_si, gr_eq, gr_ne, us_ne]
    exact hT
  · intro b' hb'
    obtain ⟨a1, a2, a3, a4, a5, a6⟩ := hC.2.2.2.2.2.2.1 b' hb'
    unfold ENT LEF DRO LEA FG at *
    by_cases q : b' = b
    · subst q
      simp (disch := omega) only [gi_eq, gi_ne, gi_sr, gr_si, gr_eq, gr_ne, us_ne, us_eq]
      exact ⟨a1, a2, a3, a4, a5, trivial⟩
    · simp (disch := omega) only [gi_eq, gi_ne, gi_sr, gr_si, gr_eq, gr_ne, us_ne]
      exact ⟨a1, a2, a3, a4, a5, a6⟩
  · intro b' hb'
    obtain ⟨a1, a2, a3, a4⟩ := hC.2.2.2.2.2.2.2.1 b' hb'
    by_cases q : b' = b
    · subst q
      rw [hx]
      unfold AHD BHD EBF FG at *
      simp (disch := omega) only [gi_eq, gi_ne, gi_sr, gr_si, gr_eq, gr_ne, us_ne, us_eq]
      exact ⟨a1, a2, a3, fun _ => trivial⟩
    · rw [hy b' q]
      unfold AHD BHD EBF FG at *
      simp (disch := omega) only [gi_eq, gi_ne, gi_sr, gr_si, gr_eq, gr_ne, us_ne]
      exact ⟨a1, a2, a3, a4⟩
  · refine EB3_c' (EB3_1 (EB3_1 hC.2.2.2.2.2.2.2.2.1 (by omega) (by omega)) (by omega) (by omega)) rfl ?_ ?_ ?_
    all_goals (rw [us_f (by omega), us_f (by omega)])
theorem C_go3 (hC : EC σ l d o M) (h6 : NS σ ≤ 6) (h40 : NB σ ≤ 40) (hpg : PIG σ ≤ 20480) {b p s τ : Nat} (hb : b < 40) (hp : p < 512) (hs : s < NS σ) (hτ : τ < 3) (hc : gi M (6 + τ) 0 = nI s) : ∃ M', fX5_sendOff_b140 τ (nI (cod b p)) M = some M' ∧ EC (go3 σ s b p) l d o M' ∧ Fr (fun k => k < 77) M M' := by
  have hcod : cod b p ≤ 20479 := by unfold cod; omega
  obtain ⟨c1, c2, c3, c4, c5, c6, c7, c8, c9, c10, c11⟩ := id hC
  have hpc := c1.2.2.2.2.2.2.2.1
  unfold fX5_sendOff_b140 go3
  by_cases h : PIG σ = cod b p + 1
  · rw [if_pos h]
    rw [h, nO_s] at hpc
    obtain ⟨M', q1, q2, q4, q3⟩ := C_clean (s := s) (by omega) (si M 0 16 nM)
    refine ⟨M', ?_, ?_, Fr.tr (Fr.rf.si (by omega)) (q2.mono (fun k hk => by omega))⟩
    · rw [hpc, if_pos rfl, if_pos hτ, show (-1 : Int32) = nM from rfl, gi_ne (by omega), hc, q1]
      rfl
    · have r1 : ∀ k, ¬ (9 ≤ k ∧ k < 27) → k ≠ 0 → M'.1 k = M.1 k := fun k h1 h2 => ((q2 k h1).1).trans (si_1 h2)
      have r2 : ∀ k, M'.2 k = M.2 k := fun k => by rw [q4]; rfl
      have hf : ∀ f, f ≠ 0 → f ≠ 4 → (fun f i => if f = 0 ∧ i = 8 then 0 else if f = 4 ∧ i ≤ s then 0 else σ f i : Sp) f = σ f := by
        intro f h1 h2
        funext i
        dsimp only
        rw [if_neg (by omega), if_neg (by omega)]
      have h0 : ∀ i, i ≠ 8 → (fun f i => if f = 0 ∧ i = 8 then 0 else if f = 4 ∧ i ≤ s then 0 else σ f i : Sp) 0 i = σ 0 i := by
        intro i h1
        dsimp only
        rw [if_neg (by omega), if_neg (by omega)]
      refine ⟨?_, ET_c (fun t ht => r1 _ (by omega) (by omega)) (fun i h8 _ _ _ _ _ _ => h0 i h8) c2, ?_, ER_c (fun i hi => ?_) h6 (h0 0 (by omega)) (h0 2 (by omega)) (hf 1 (by omega) (by omega)) (hf 21 (by omega) (by omega)) (hf 22 (by omega) (by omega)) (hf 28 (by omega) (by omega)) c4, EU_c (fun i hi => ?_) (h0 0 (by omega)) (h0 2 (by omega)) (hf 1 (by omega) (by omega)) (hf 10 (by omega) (by omega)) (hf 21 (by omega) (by omega)) c5, EG_c (fun i hi => r1 _ (by omega) (by omega)) (hf 5 (by omega) (by omega)) (hf 6 (by omega) (by omega)) (hf 7 (by omega) (by omega)) (hf 8 (by omega) (by omega)) c6, EB1_c (fun i hi => r1 _ (by omega) (by omega)) (hf 12 (by omega) (by omega)) (hf 13 (by omega) (by omega)) (hf 14 (by omega) (by omega)) (hf 15 (by omega) (by omega)) (hf 19 (by omega) (by omega)) c7, EB2_c (fun i hi => ⟨r1 _ (by omega) (by omega), r2 _⟩) (h0 4 (by omega)) (hf 10 (by omega) (by omega)) (hf 16 (by omega) (by omega)) (hf 17 (by omega) (by omega)) (hf 18 (by omega) (by omega)) (hf 19 (by omega) (by omega)) (hf 20 (by omega) (by omega)) c8, EB3_c (fun i hi => ⟨r1 _ (by omega) (by omega), r2 _⟩) h40 (h0 1 (by omega)) (hf 9 (by omega) (by omega)) (hf 10 (by omega) (by omega)) (hf 11 (by omega) (by omega)) c9, EK_c (fun t ht => r1 _ (by omega) (by omega)) (hf 23 (by omega) (by omega)) (hf 24 (by omega) (by omega)) (hf 25 (by omega) (by omega)) (hf 26 (by omega) (by omega)) c10, EL_c (r1 5 (by omega) (by omega)) (hf 27 (by omega) (by omega)) c11⟩
      · obtain ⟨p1, p2, p3, p4, p5, p6, p7, p8, p9⟩ := c1
        have e0 : ∀ j, gi M' 0 j = gi (si M 0 16 nM) 0 j := fun j => gi_1 (q2 0 (by omega)).1 j
        unfold EP
        unfold NS NB OPN ALL RT RF MIN PIG INL at *
        rw [e0, e0, e0, e0, e0, e0, e0, e0, gr_2 (r2 0), h0 0 (by omega), h0 1 (by omega), h0 2 (by omega), h0 3 (by omega), h0 4 (by omega), h0 5 (by omega), h0 6 (by omega), h0 7 (by omega)]
        simp (disch := omega) only [gi_eq, gi_ne, gi_sr, gr_si, gr_eq, gr_ne]
        exact ⟨p1, p2, p3, p4, p5, p6, p7, rfl, p9⟩
      · intro i hi
        have g1 := (q3 i hi 2).1
        have g2 := (q3 i hi 3).1
        have g3 := (q3 i hi 4).1
        have g4 := (q3 i hi 5).1
        have g5 := (q3 i hi 6).1
        rw [if_neg (by omega), gi_ne (by omega)] at g1 g2 g3 g4
        obtain ⟨a1, a2, a3⟩ := c3 i hi
        unfold NS HOL HEI LIM DIR LA at *
        rw [h0 0 (by omega), hf 1 (by omega) (by omega), hf 2 (by omega) (by omega), hf 3 (by omega) (by omega), hf 28 (by omega) (by omega), g1, g2, g3, g4, g5]
        refine ⟨a1, ?_, a3⟩
        dsimp only
        by_cases z : i ≤ s
        · rw [if_pos ⟨rfl, z⟩, if_neg (by omega), if_pos ⟨rfl, z⟩]
        · rw [if_neg (fun y => z y.2), if_neg (by omega), if_neg (fun y => z y.2), gi_ne (by omega)]
          exact a2
      · funext j
        exact ((q3 i hi j).2.1).trans (gi_ne (by omega))
      · funext j
        exact ((q3 i hi j).2.2).trans (gi_ne (by omega))
  · rw [if_neg h]
    refine ⟨M, ?_, hC, Fr.rf⟩
    rw [if_neg]
    rw [hpc]
    intro e
    rcases Nat.eq_zero_or_pos (PIG σ) with z | z
    · rw [z, nO_0, cMe (by omega)] at e
      exact e
    · rw [nO_p z, cEq (by omega) (by omega)] at e
      omega
theorem gd {i n : Nat} (h : i < n) (hn : n < 2147483648) : ¬ (nI i < 0 ∨ n ≤ (nI i).toNatClampNeg) := by
  rw [Lt0, cLt (by omega) (by omega), cCl (by omega)]
  omega
theorem C_sendOff (hC : EC σ l d o M) (hW : WF σ) (ho : OPN σ = 1) : ∃ M', fX5_sendOff (tap σ l d) M = some M' ∧ EC (snd σ (tap σ l d)) (if tap σ l d = 0 then l + 1 else l) (if tap σ l d = 1 then d + 1 else d) (if tap σ l d = 2 then o + 1 else o) M' ∧ Fr (fun k => k < 77) M M' := by
  obtain ⟨hA, hWS, hWG, hWT, hWB, hWK, -, -, -, hWU⟩ := id hW
  have h6 := hA.1
  have h40 := hA.2.2.1
  have h1 := hA.2.2.2.2.2.2.2.1 ho
  have hs := tsg_lt (l := l) (d := d) hWT h1
  obtain ⟨w1, -⟩ := hWS.1 _ hs
  have hL := WF_off hW ho hs (show 0 < HOL σ (tsg σ (tap σ l d)) by omega)
  have hf := C_fromEnd hC.2.2.1 hC.2.2.2.1 hWS ho h6 hs (show 0 < HOL σ (tsg σ (tap σ l d)) by omega)
  have hcell := tap_cell (l := l) (d := d) hC.2.1 ho
  rw [Nat.add_zero] at hL hf
  obtain ⟨u1, u2, u3, u4, u5⟩ := WF_unit hW ho hL
  have hfg := (hWU ho).2.2.2.2.1 _ hL
  have hτ : tap σ l d < 3 := by unfold tap; split <;> (try split) <;> omega
  have hM := WF_WM hW
  unfold snd
  generalize off σ (tsg σ (tap σ l d)) = u at *
  generalize UB σ u = b at *
  generalize UP σ u = p at *
  generalize htg : tsg σ (tap σ l d) = s at *
  -- what comes behind the counts and the tanks
  have tail : ∀ (σ3 : Sp) (l' d' o' : Nat) (M3 : Mm), EC σ3 l' d' o' M3 → Fr (fun k => k < 77) M M3 → WM σ3 → NS σ3 = NS σ → NB σ3 = NB σ → PIG σ3 = PIG σ → FG σ3 b = FG σ b → gi M3 (6 + tap σ l d) 0 = nI s → ∃ M', fX5_sendOff_b121 (tap σ l d) (nI (cod b p)) (some b) (nI p) M3 = some M' ∧ EC (go3 (go2 σ3 b p) s b p) l' d' o' M' ∧ Fr (fun k => k < 77) M M' := by
    intro σ3 l' d' o' M3 k1 k2 k3 k4 k5 k6 k7 k8
    unfold fX5_sendOff_b121
    by_cases z : p = 0
    · subst z
      have q := C_go2 k1 (by omega) (by omega) (show b < NB σ3 by omega) (by rw [k7]; exact hfg rfl)
      have g0 : go2 σ3 b 0 = us (us σ3 20 b (isq (ALL σ3 - EBF σ3 b))) 19 b 1 := by unfold go2; rw [if_pos rfl]
      have e1 : NS (go2 σ3 b 0) = NS σ := by rw [g0]; unfold NS at *; simp (disch := omega) only [us_ne]; exact k4
      have e2 : NB (go2 σ3 b 0) = NB σ := by rw [g0]; unfold NB at *; simp (disch := omega) only [us_ne]; exact k5
      have e3 : PIG (go2 σ3 b 0) = PIG σ := by rw [g0]; unfold PIG at *; simp (disch := omega) only [us_ne]; exact k6
      obtain ⟨M', r1, r2, r3⟩ := C_go3 (b := b) (p := 0) (s := s) (τ := tap σ l d) q (by omega) (by omega) (by rw [e3]; exact hA.2.2.2.2.2.2.2.2.2.2.2) u4 (by omega) (by rw [e1]; exact hs) hτ (by rw [gi_ne (by omega), gi_ne (by omega)]; exact k8)
      refine ⟨M', ?_, r2, k2.tr (Fr.tr ((Fr.rf.si (by omega)).si (by omega)) r3)⟩
      rw [if_pos (show nI 0 = 0 from rfl), Option.bind_some, C_mixOf k1.1 k1.2.2.2.2.2.2.1 k1.2.2.2.2.2.2.2.1 k1.2.2.2.2.2.2.2.2.1 k3 (show b < NB σ3 by omega), Option.bind_some, if_pos u4]
      exact r1
    · have g0 : go2 σ3 b p = σ3 := by unfold go2; rw [if_neg z]
      rw [g0]
      obtain ⟨M', r1, r2, r3⟩ := C_go3 (b := b) (p := p) (s := s) (τ := tap σ l d) k1 (by omega) (by omega) (by rw [k6]; exact hA.2.2.2.2.2.2.2.2.2.2.2) u4 u2 (by rw [k4]; exact hs) hτ k8
      refine ⟨M', ?_, r2, k2.tr r3⟩
      rw [if_neg (show ¬ nI p = 0 by rw [Lt0, cEq (by omega) (by omega)]; exact z)]
      exact r1
  have hf' : fX2_fromEnd s 0 M = some (nI (cod b p)) := hf
  have hpre : fX5_sendOff (tap σ l d) M = (if some (tap σ l d) = some 0 then fX5_sendOff_b121 (tap σ l d) (nI (cod b p)) (some b) (nI p) (si (si M (6 + tap σ l d) 3 (gi M (6 + tap σ l d) 3 + 1)) (33 + b) 7 (gi (si M (6 + tap σ l d) 3 (gi M (6 + tap σ l d) 3 + 1)) (33 + b) 7 + 1)) else if some (tap σ l d) = some 1 then (if ¬ (gi (si (si M (6 + tap σ l d) 3 (gi M (6 + tap σ l d) 3 + 1)) (33 + b) 6 (gi (si M (6 + tap σ l d) 3 (gi M (6 + tap σ l d) 3 + 1)) (33 + b) 6 + 1)) (6 + tap σ l d) 2 < 0 ∨ 4 ≤ (gi (si (si M (6 + tap σ l d) 3 (gi M (6 + tap σ l d) 3 + 1)) (33 + b) 6 (gi (si M (6 + tap σ l d) 3 (gi M (6 + tap σ l d) 3 + 1)) (33 + b) 6 + 1)) (6 + tap σ l d) 2).toNatClampNeg) then (fX5_pour b (nI p) (gi (si (si M (6 + tap σ l d) 3 (gi M (6 + tap σ l d) 3 + 1)) (33 + b) 6 (gi (si M (6 + tap σ l d) 3 (gi M (6 + tap σ l d) 3 + 1)) (33 + b) 6 + 1)) (6 + tap σ l d) 2).toNatClampNeg (si (si M (6 + tap σ l d) 3 (gi M (6 + tap σ l d) 3 + 1)) (33 + b) 6 (gi (si M (6 + tap σ l d) 3 (gi M (6 + tap σ l d) 3 + 1)) (33 + b) 6 + 1))).bind (fun o13 => fX5_sendOff_b121 (tap σ l d) (nI (cod b p)) (some b) (nI p) o13) else none) else (if ¬ (gi (si (si M (6 + tap σ l d) 3 (gi M (6 + tap σ l d) 3 + 1)) (33 + b) 5 (gi (si M (6 + tap σ l d) 3 (gi M (6 + tap σ l d) 3 + 1)) (33 + b) 5 + 1)) (6 + tap σ l d) 2 < 0 ∨ 4 ≤ (gi (si (si M (6 + tap σ l d) 3 (gi M (6 + tap σ l d) 3 + 1)) (33 + b) 5 (gi (si M (6 + tap σ l d) 3 (gi M (6 + tap σ l d) 3 + 1)) (33 + b) 5 + 1)) (6 + tap σ l d) 2).toNatClampNeg) then (fX5_pour b (nI p) (gi (si (si M (6 + tap σ l d) 3 (gi M (6 + tap σ l d) 3 + 1)) (33 + b) 5 (gi (si M (6 + tap σ l d) 3 (gi M (6 + tap σ l d) 3 + 1)) (33 + b) 5 + 1)) (6 + tap σ l d) 2).toNatClampNeg (si (si M (6 + tap σ l d) 3 (gi M (6 + tap σ l d) 3 + 1)) (33 + b) 5 (gi (si M (6 + tap σ l d) 3 (gi M (6 + tap σ l d) 3 + 1)) (33 + b) 5 + 1))).bind (fun o17 => fX5_sendOff_b121 (tap σ l d) (nI (cod b p)) (some b) (nI p) o17) else none)) := by
    unfold fX5_sendOff
    rw [if_pos hτ, hcell, if_pos (gd (by omega) (by omega)), cCl (by omega), hf', Option.bind_some, C_batchOf hC.1 u1 h40 u2, Option.bind_some, C_placeOf u4 u2, Option.bind_some]
    simp only [Option.bind_some, if_pos u4]
  rw [hpre]
  clear hpre
  obtain ⟨t1, t2, t3, t4, t5, t6, t7, t8, t9, t10⟩ := id hC.2.1
  obtain ⟨a1, a2, a3, a4, a5, a6⟩ := hC.2.2.2.2.2.2.1 b u4
  have hWM := hM
  generalize tap σ l d = τ at *
  rcases (show τ = 0 ∨ τ = 1 ∨ τ = 2 by omega) with rfl | rfl | rfl
  · skip
    rw [if_pos rfl, t3, Lt1, cAdd, gi_ne (by omega), a5, cAdd]
    obtain ⟨M', r1, r2, r3⟩ := tail _ _ _ _ _ (C_cnt0 hC h6 h40 u1) ((Fr.rf.si (by omega)).si (by omega)) (WM_c (fun i => by rw [us_f (by omega)]) (us_f (by omega)) (us_f (by omega)) (us_f (by omega)) (us_f (by omega)) (us_f (by omega)) (us_f (by omega)) (us_f (by omega)) hM) (by unfold NS; rw [us_f (by omega)]) (by unfold NB; rw [us_f (by omega)]) (by unfold PIG; rw [us_f (by omega)]) (by unfold FG; rw [us_f (by omega)]) (by rw [gi_ne (by omega), gi_ne (by omega)]; exact hcell)
    refine ⟨M', r1, ?_, r3⟩
    unfold go1
    rw [if_pos rfl, if_pos rfl, if_neg (by omega), if_neg (by omega)]
    exact r2
  · skip
    rw [if_neg (show ¬ (some 1 = some 0) by simp), if_pos rfl, t7, Lt1, cAdd, gi_ne (show ¬ (33 + b = 6 + 1 ∧ 6 = 3) by omega), a4, cAdd, gi_ne (show ¬ (6 + 1 = 33 + b ∧ 2 = 6) by omega), gi_ne (show ¬ (6 + 1 = 6 + 1 ∧ 2 = 3) by omega), t6, if_pos (gd hWT.2.2.2.2.1 (by omega)), cCl (by have := hWT.2.2.2.2.1; omega)]
    have k := C_cnt1 hC h6 h40 u1
    have kM : WM (us σ 14 b (DRO σ b + 1)) := WM_c (fun i => by rw [us_f (by omega)]) (us_f (by omega)) (us_f (by omega)) (us_f (by omega)) (us_f (by omega)) (us_f (by omega)) (us_f (by omega)) (us_f (by omega)) hM
    have kW : WK (us σ 14 b (DRO σ b + 1)) := by
      intro t' ht'
      have := hWK t' ht'
      unfold HAS TG at *
      rw [us_f (by omega), us_f (by omega)]
      exact this
    have kG : WG (us σ 14 b (DRO σ b + 1)) := by
      intro p' hp'
      have := hWG p' hp'
      unfold WEI THK GRD BAR at *
      rw [us_f (by omega), us_f (by omega), us_f (by omega), us_f (by omega)]
      exact this
    have kp : p < ENT (us σ 14 b (DRO σ b + 1)) b := by unfold ENT at *; rw [us_f (by omega)]; exact u3
    obtain ⟨M3, v1, v2, v3⟩ := C_pour (b := b) (p := p) (t := DRT σ) k.1 k.2.2.2.2.2.1 k.2.2.2.2.2.2.1 k.2.2.2.2.2.2.2.1 k.2.2.2.2.2.2.2.2.1 k.2.2.2.2.2.2.2.2.2.1 kM kG kW (by unfold NB at *; rw [us_f (by omega)]; exact u1) kp hWT.2.2.2.2.1
    have hpf : ∀ f, f < 23 ∨ 26 < f → pur (us σ 14 b (DRO σ b + 1)) (DRT σ) b p f = us σ 14 b (DRO σ b + 1) f := by
      intro f hf2
      unfold pur
      split
      · exact us_f (by omega)
      · rw [us_f (by omega), us_f (by omega), us_f (by omega)]
    have kC := EC_K k (show us σ 14 b (DRO σ b + 1) 0 0 ≤ 6 by rw [us_f (by omega)]; exact h6) (show us σ 14 b (DRO σ b + 1) 0 1 ≤ 40 by rw [us_f (by omega)]; exact h40) v2 (v3.mono (fun k hk => by have := hWT.2.2.2.2.1; omega)) hpf
    have h00 : ∀ i, pur (us σ 14 b (DRO σ b + 1)) (DRT σ) b p 0 i = σ 0 i := fun i => by rw [hpf 0 (by omega), us_f (by omega)]
    have hff : ∀ f, f < 13 ∨ 15 < f → f < 23 ∨ 26 < f → pur (us σ 14 b (DRO σ b + 1)) (DRT σ) b p f = σ f := fun f h1 h2 => by rw [hpf f h2, us_f (by omega)]
    obtain ⟨M', r1, r2, r3⟩ := tail _ _ _ _ _ kC (Fr.tr ((Fr.rf.si (by omega)).si (by omega)) (v3.mono (fun k hk => by have := hWT.2.2.2.2.1; omega))) (WM_c h00 (hff 10 (by omega) (by omega)) (hff 12 (by omega) (by omega)) (hff 16 (by omega) (by omega)) (hff 17 (by omega) (by omega)) (hff 18 (by omega) (by omega)) (hff 19 (by omega) (by omega)) (hff 20 (by omega) (by omega)) hM) (h00 0) (h00 1) (h00 8) (by unfold FG; rw [hff 19 (by omega) (by omega)]) (by rw [v3.gi (by omega), gi_ne (by omega), gi_ne (by omega)]; exact hcell)
    refine ⟨M', ?_, ?_, r3⟩
    · rw [v1, Option.bind_some]
      exact r1
    · unfold go1
      rw [if_neg (by omega), if_pos rfl, if_neg (by omega), if_pos rfl, if_neg (by omega)]
      exact r2
  · skip
    rw [if_neg (show ¬ (some 2 = some 0) by simp), if_neg (show ¬ (some 2 = some 1) by simp), t10, Lt1, cAdd, gi_ne (show ¬ (33 + b = 6 + 2 ∧ 5 = 3) by omega), a3, cAdd, gi_ne (show ¬ (6 + 2 = 33 + b ∧ 2 = 5) by omega), gi_ne (show ¬ (6 + 2 = 6 + 2 ∧ 2 = 3) by omega), t9, if_pos (gd hWT.2.2.2.2.2 (by omega)), cCl (by have := hWT.2.2.2.2.2; omega)]
    have k := C_cnt2 hC h6 h40 u1
    have kM : WM (us σ 13 b (LEF σ b + 1)) := WM_c (fun i => by rw [us_f (by omega)]) (us_f (by omega)) (us_f (by omega)) (us_f (by omega)) (us_f (by omega)) (us_f (by omega)) (us_f (by omega)) (us_f (by omega)) hM
    have kW : WK (us σ 13 b (LEF σ b + 1)) := by
      intro t' ht'
      have := hWK t' ht'
      unfold HAS TG at *
      rw [us_f (by omega), us_f (by omega)]
      exact this
    have kG : WG (us σ 13 b (LEF σ b + 1)) := by
      intro p' hp'
      have := hWG p' hp'
      unfold WEI THK GRD BAR at *
      rw [us_f (by omega), us_f (by omega), us_f (by omega), us_f (by omega)]
      exact this
    have kp : p < ENT (us σ 13 b (LEF σ b + 1)) b := by unfold ENT at *; rw [us_f (by omega)]; exact u3
    obtain ⟨M3, v1, v2, v3⟩ := C_pour (b := b) (p := p) (t := RCV σ) k.1 k.2.2.2.2.2.1 k.2.2.2.2.2.2.1 k.2.2.2.2.2.2.2.1 k.2.2.2.2.2.2.2.2.1 k.2.2.2.2.2.2.2.2.2.1 kM kG kW (by unfold NB at *; rw [us_f (by omega)]; exact u1) kp hWT.2.2.2.2.2
    have hpf : ∀ f, f < 23 ∨ 26 < f → pur (us σ 13 b (LEF σ b + 1)) (RCV σ) b p f = us σ 13 b (LEF σ b + 1) f := by
      intro f hf2
      unfold pur
      split
      · exact us_f (by omega)
      · rw [us_f (by omega), us_f (by omega), us_f (by omega)]
    have kC := EC_K k (show us σ 13 b (LEF σ b + 1) 0 0 ≤ 6 by rw [us_f (by omega)]; exact h6) (show us σ 13 b (LEF σ b + 1) 0 1 ≤ 40 by rw [us_f (by omega)]; exact h40) v2 (v3.mono (fun k hk => by have := hWT.2.2.2.2.2; omega)) hpf
    have h00 : ∀ i, pur (us σ 13 b (LEF σ b + 1)) (RCV σ) b p 0 i = σ 0 i := fun i => by rw [hpf 0 (by omega), us_f (by omega)]
    have hff : ∀ f, f < 13 ∨ 15 < f → f < 23 ∨ 26 < f → pur (us σ 13 b (LEF σ b + 1)) (RCV σ) b p f = σ f := fun f h1 h2 => by rw [hpf f h2, us_f (by omega)]
    obtain ⟨M', r1, r2, r3⟩ := tail _ _ _ _ _ kC (Fr.tr ((Fr.rf.si (by omega)).si (by omega)) (v3.mono (fun k hk => by have := hWT.2.2.2.2.2; omega))) (WM_c h00 (hff 10 (by omega) (by omega)) (hff 12 (by omega) (by omega)) (hff 16 (by omega) (by omega)) (hff 17 (by omega) (by omega)) (hff 18 (by omega) (by omega)) (hff 19 (by omega) (by omega)) (hff 20 (by omega) (by omega)) hM) (h00 0) (h00 1) (h00 8) (by unfold FG; rw [hff 19 (by omega) (by omega)]) (by rw [v3.gi (by omega), gi_ne (by omega), gi_ne (by omega)]; exact hcell)
    refine ⟨M', ?_, ?_, r3⟩
    · rw [v1, Option.bind_some]
      exact r1
    · unfold go1
      rw [if_neg (by omega), if_neg (by omega), if_neg (by omega), if_neg (by omega), if_pos rfl]
      exact r2
end Go
