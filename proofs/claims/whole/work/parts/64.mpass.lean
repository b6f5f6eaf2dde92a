/-! THE REFERENCE'S MINUTE, WHOLE -/
section M64
variable {σ : Sp} {M : Mm} {e τ l d : Nat}
theorem EM_D (hE : EM' σ M) {i v : Nat} : EM' (us σ 4 i v) (si M 81 i (nI v)) := by
  obtain ⟨c1, c2, c3, c4, c5, c6, c7, c8, c9, c10, c11⟩ := hE
  have hr : ∀ k, k ≠ 81 → (si M 81 i (nI v)).1 k = M.1 k := fun k hk => si_1 hk
  have hf : ∀ f, f ≠ 4 → us σ 4 i v f = σ f := fun f h => us_f h
  refine ⟨MP_c (fun j hj => gi_1 (hr 77 (by omega)) j) (fun j hj => by rw [hf 0 (by omega)]) c1, MT_c (fun j hj => gi_1 (hr 77 (by omega)) j) (fun j hj => by rw [hf 0 (by omega)]) c2, MQ_c (fun j hj => gi_1 (hr 77 (by omega)) j) (by unfold PIG; rw [hf 0 (by omega)]) c3, ?_, MG_c (fun k hk => hr k (by omega)) (fun f h => hf f (by omega)) c5, MB1_c (fun k hk => hr k (by omega)) (fun f h => hf f (by omega)) c6, MB2_c (fun k hk => hr k (by omega)) (by unfold LEN; rw [hf 0 (by omega)]) (fun f h => hf f (by omega)) c7, MB3_c (fun k hk => hr k (by omega)) (by unfold NB; rw [hf 0 (by omega)]) (fun f h => hf f (by omega)) c8, MU_c (fun k hk => hr k (by omega)) (by unfold OPN; rw [hf 0 (by omega)]) (by unfold LEN; rw [hf 0 (by omega)]) (fun f h => hf f (by omega)) c9, MK_c (fun k hk => hr k (by omega)) (gi_1 (hr 77 (by omega)) 38) (fun f h => hf f (by omega)) c10, ML_c (hr 102 (by omega)) (hf 27 (by omega)) c11⟩
  intro j hj
  have := c4 j hj
  unfold NS HOL HEI LIM DIR at *
  rw [hf 0 (by omega), hf 1 (by omega), hf 2 (by omega), hf 3 (by omega), gi_1 (hr 78 (by omega)), gi_1 (hr 79 (by omega)), gi_1 (hr 80 (by omega))]
  refine ⟨this.1, ?_⟩
  by_cases z : j = i
  · rw [gi_eq rfl z, us_eq rfl z]
  · rw [gi_ne (by omega), us_ne (by omega)]
    exact this.2
theorem EM_L (hE : EM' σ M) {i v : Nat} (hi : i < 5) : EM' (us σ 27 i v) (si M 102 ((i + 1) % 5) (nI v)) := by
  obtain ⟨c1, c2, c3, c4, c5, c6, c7, c8, c9, c10, c11⟩ := hE
  have hr : ∀ k, k ≠ 102 → (si M 102 ((i + 1) % 5) (nI v)).1 k = M.1 k := fun k hk => si_1 hk
  have hf : ∀ f, f ≠ 27 → us σ 27 i v f = σ f := fun f h => us_f h
  refine ⟨MP_c (fun j hj => gi_1 (hr 77 (by omega)) j) (fun j hj => by rw [hf 0 (by omega)]) c1, MT_c (fun j hj => gi_1 (hr 77 (by omega)) j) (fun j hj => by rw [hf 0 (by omega)]) c2, MQ_c (fun j hj => gi_1 (hr 77 (by omega)) j) (by unfold PIG; rw [hf 0 (by omega)]) c3, MS_c (fun k hk => hr k (by omega)) (by unfold NS; rw [hf 0 (by omega)]) (fun f h => hf f (by omega)) c4, MG_c (fun k hk => hr k (by omega)) (fun f h => hf f (by omega)) c5, MB1_c (fun k hk => hr k (by omega)) (fun f h => hf f (by omega)) c6, MB2_c (fun k hk => hr k (by omega)) (by unfold LEN; rw [hf 0 (by omega)]) (fun f h => hf f (by omega)) c7, MB3_c (fun k hk => hr k (by omega)) (by unfold NB; rw [hf 0 (by omega)]) (fun f h => hf f (by omega)) c8, MU_c (fun k hk => hr k (by omega)) (by unfold OPN; rw [hf 0 (by omega)]) (by unfold LEN; rw [hf 0 (by omega)]) (fun f h => hf f (by omega)) c9, MK_c (fun k hk => hr k (by omega)) (gi_1 (hr 77 (by omega)) 38) (fun f h => hf f (by omega)) c10, ?_⟩
  intro j hj
  have := c11 j hj
  unfold BAL at *
  by_cases z : j = i
  · rw [gi_eq rfl (by rw [z]), us_eq rfl z]
  · rw [gi_ne (by omega), us_ne (by omega)]
    exact this
/-- the minute isn't held there -/
theorem EM_7 (hE : EM' σ M) {v : Nat} : EM' (us σ 0 7 v) M := by
  obtain ⟨c1, c2, c3, c4, c5, c6, c7, c8, c9, c10, c11⟩ := hE
  have hf : ∀ f, f ≠ 0 → us σ 0 7 v f = σ f := fun f h => us_f h
  have h0 : ∀ i, i ≠ 7 → us σ 0 7 v 0 i = σ 0 i := fun i h => us_ne (by omega)
  exact ⟨MP_c (fun _ _ => rfl) (fun j hj => h0 j (by omega)) c1, MT_c (fun _ _ => rfl) (fun j hj => h0 j (by omega)) c2, MQ_c (fun _ _ => rfl) (h0 8 (by omega)) c3, MS_c (fun _ _ => rfl) (h0 0 (by omega)) (fun f h => hf f (by omega)) c4, MG_c (fun _ _ => rfl) (fun f h => hf f (by omega)) c5, MB1_c (fun _ _ => rfl) (fun f h => hf f (by omega)) c6, MB2_c (fun _ _ => rfl) (h0 15 (by omega)) (fun f h => hf f (by omega)) c7, MB3_c (fun _ _ => rfl) (h0 1 (by omega)) (fun f h => hf f (by omega)) c8, MU_c (fun _ _ => rfl) (h0 2 (by omega)) (h0 15 (by omega)) (fun f h => hf f (by omega)) c9, MK_c (fun _ _ => rfl) rfl (fun f h => hf f (by omega)) c10, ML_c rfl (hf 27 (by omega)) c11⟩
/-- the rate that goes -/
theorem EM_6 (hE : EM' σ M) {v : Nat} : EM' (us σ 0 6 v) (si M 77 28 (nI v)) := by
  obtain ⟨c1, c2, c3, c4, c5, c6, c7, c8, c9, c10, c11⟩ := hE
  have hr : ∀ k, k ≠ 77 → (si M 77 28 (nI v)).1 k = M.1 k := fun k hk => si_1 hk
  have hs : ∀ j, j ≠ 28 → gi (si M 77 28 (nI v)) 77 j = gi M 77 j := fun j hj => gi_ne (by omega)
  have hf : ∀ f, f ≠ 0 → us σ 0 6 v f = σ f := fun f h => us_f h
  have h0 : ∀ i, i ≠ 6 → us σ 0 6 v 0 i = σ 0 i := fun i h => us_ne (by omega)
  refine ⟨?_, MT_c (fun j hj => hs j (by omega)) (fun j hj => h0 j (by omega)) c2, MQ_c (fun j hj => hs j (by omega)) (h0 8 (by omega)) c3, MS_c (fun k hk => hr k (by omega)) (h0 0 (by omega)) (fun f h => hf f (by omega)) c4, MG_c (fun k hk => hr k (by omega)) (fun f h => hf f (by omega)) c5, MB1_c (fun k hk => hr k (by omega)) (fun f h => hf f (by omega)) c6, MB2_c (fun k hk => hr k (by omega)) (h0 15 (by omega)) (fun f h => hf f (by omega)) c7, MB3_c (fun k hk => hr k (by omega)) (h0 1 (by omega)) (fun f h => hf f (by omega)) c8, MU_c (fun k hk => hr k (by omega)) (h0 2 (by omega)) (h0 15 (by omega)) (fun f h => hf f (by omega)) c9, MK_c (fun k hk => hr k (by omega)) (hs 38 (by omega)) (fun f h => hf f (by omega)) c10, ML_c (hr 102 (by omega)) (hf 27 (by omega)) c11⟩
  obtain ⟨p1, p2, p3, p4, p5, p6, p7⟩ := c1
  unfold MP NS OPN LEN NB ALL RT RF at *
  rw [hs 1 (by omega), hs 6 (by omega), hs 7 (by omega), hs 12 (by omega), hs 24 (by omega), hs 27 (by omega), gi_eq rfl rfl, h0 0 (by omega), h0 2 (by omega), h0 15 (by omega), h0 1 (by omega), h0 4 (by omega), h0 5 (by omega), us_eq rfl rfl]
  exact ⟨p1, p2, p3, p4, p5, p6, rfl⟩
theorem M_b258 (hE : EM' σ M) (h0 : gi M 77 0 = nI (MIN σ + 1)) (hm : MIN σ < 9999) {x : Int32} : fX6_passesMinute_b258 x (nI l) M = some (x, si M 102 ((MIN σ % 5 + 1) % 5) (nI l)) ∧ EM (us (us σ 27 (MIN σ % 5) l) 0 7 (MIN σ + 1)) (si M 102 ((MIN σ % 5 + 1) % 5) (nI l)) := by
  refine ⟨?_, EM_7 (EM_L hE (by omega)), ?_⟩
  · unfold fX6_passesMinute_b258
    rw [h0, show (5 : Int32) = nI 5 from rfl, cRem (by omega) (by omega) (by omega), if_pos (gd (show (MIN σ + 1) % 5 < 5 by omega) (by omega)), cCl (by omega), show (MIN σ + 1) % 5 = (MIN σ % 5 + 1) % 5 by omega]
  · rw [gi_ne (by omega), h0]
    unfold MIN
    rw [us_eq rfl rfl]
theorem M_soil_L (h6 : NS σ ≤ 6) (hD : ∀ i, i < 6 → DIR σ i ≤ 200) {k : Nat} (hk : 0 < k) (hk2 : k ≤ 10) : ∀ (m j n : Nat) (M : Mm), j + m = NS σ → m < n → EM' (sk σ j) M → ∃ M', fX6_passesMinute_L211 n (nI k) (nI l) (nI j) M = fX6_passesMinute_b258 (nI k) (nI l) M' ∧ EM' (sol σ) M' ∧ FM M M' ∧ gi M' 77 0 = gi M 77 0 ∧ gi M' 77 43 = gi M 77 43
  | m, j, 0, M, h1, h2, hE => by omega
  | 0, j, n + 1, M, h1, h2, hE => by
    have hj : j = NS σ := by omega
    subst hj
    have e : gi M 77 1 = nI (NS σ) := by rw [hE.1.1]; unfold NS; rw [sk_f (by omega)]
    refine ⟨M, ?_, hE, Fr.rf, rfl, rfl⟩
    rw [fX6_passesMinute_L211]
    dsimp only
    rw [e, if_pos (show nI (NS σ) ≤ nI (NS σ) by rw [cLe (by omega) (by omega)]; omega)]
  | m + 1, j, n + 1, M, h1, h2, hE => by
    have e : gi M 77 1 = nI (NS σ) := by rw [hE.1.1]; unfold NS; rw [sk_f (by omega)]
    have e2 : gi M 81 j = nI (DIR σ j) := by
      rw [(hE.2.2.2.1 j (by omega)).2]
      unfold DIR sk
      rw [if_neg (by omega)]
    have hd := hD j (by omega)
    have hE2 := EM_D hE (i := j) (v := min 200 (DIR σ j + 1))
    rw [← sk_s] at hE2
    obtain ⟨M', q1, q2, q3, q4⟩ := M_soil_L h6 hD hk hk2 m (j + 1) n _ (by omega) (by omega) hE2
    refine ⟨M', ?_, q2, Fr.tr (Fr.rf.si (by omega)) q3, by rw [q4.1, gi_ne (by omega)], by rw [q4.2, gi_ne (by omega)]⟩
    rw [fX6_passesMinute_L211]
    dsimp only
    have g := g6 (show j < 6 by omega) (by omega)
    rw [e, if_neg (show ¬ nI (NS σ) ≤ nI j by rw [cLe (by omega) (by omega)]; omega), if_neg (show ¬ nI k ≤ 0 by rw [Lt0, cLe (by omega) (by omega)]; omega), cCl (show j < 2147483648 by omega)]
    simp only [if_pos g]
    rw [e2, ← q1]
    by_cases z : 200 ≤ DIR σ j
    · rw [if_pos (show (200 : Int32) ≤ nI (DIR σ j) by rw [show (200 : Int32) = nI 200 from rfl, cLe (by omega) (by omega)]; exact z), Lt1, Lt0, cAdd, cAdd, show DIR σ j + 0 = min 200 (DIR σ j + 1) by omega]
    · rw [if_neg (show ¬ (200 : Int32) ≤ nI (DIR σ j) by rw [show (200 : Int32) = nI 200 from rfl, cLe (by omega) (by omega)]; exact z), Lt1, cAdd, cAdd, show min 200 (DIR σ j + 1) = DIR σ j + 1 by omega]
theorem M_mvs : ∀ (m x n l d : Nat) (σ : Sp) (M : Mm), x + m = RF σ → m + 1 < n → EM' σ M → WF σ → OPN σ = 1 → l ≤ x → d ≤ x → ∃ M', fX6_passesMinute_L30 n (nI x) (nI l) (nI d) (nI 1) (nI x) M = fX6_passesMinute_L211 400 (nI (mvs m σ x l d).2.1) (nI (mvs m σ x l d).2.2.1) (nI 0) M' ∧ EM' (mvs m σ x l d).1 M' ∧ FM M M' ∧ gi M' 77 0 = gi M 77 0 ∧ gi M' 77 43 = gi M 77 43
  | m, x, 0, l, d, σ, M, h1, h2, hE, hW, ho, hl, hd => by omega
  | 0, x, n + 1, l, d, σ, M, h1, h2, hE, hW, ho, hl, hd => by
    have h10 := hW.1.2.2.2.2.2.1
    refine ⟨M, ?_, hE, Fr.rf, rfl, rfl⟩
    rw [fX6_passesMinute_L30]
    dsimp only
    rw [hE.1.2.2.2.2.2.2, if_pos (show nI (RF σ) ≤ nI x by rw [cLe (by omega) (by omega)]; omega)]
    rfl
  | m + 1, x, n + 1, l, d, σ, M, h1, h2, hE, hW, ho, hl, hd => by
    have h10 := hW.1.2.2.2.2.2.1
    rw [fX6_passesMinute_L30]
    dsimp only
    rw [hE.1.2.2.2.2.2.2, if_neg (show ¬ nI (RF σ) ≤ nI x by rw [cLe (by omega) (by omega)]; omega), if_neg (show ¬ nI 1 = 0 by decide), M_entering hE.1.2.2.2.1 (EM_MX hE) (EM_MY hE) (fun b hb => (hE.2.2.2.2.2.2.2.1 b hb).1) hW ho, Option.bind_some]
    unfold mvs
    cases hn : nxt σ with
    | none =>
      refine ⟨M, ?_, hE, Fr.rf, rfl, rfl⟩
      dsimp only
      rw [if_pos (show nM = -1 from rfl)]
      unfold fX6_passesMinute_b61
      rw [if_pos rfl]
      obtain ⟨n', rfl⟩ : ∃ n', n = n' + 1 := ⟨n - 1, by omega⟩
      rw [fX6_passesMinute_L30]
      dsimp only
      by_cases z : gi M 77 28 ≤ nI x + 1
      · rw [if_pos z]; rfl
      · rw [if_neg z, if_pos rfl]; rfl
    | some e =>
      dsimp only
      have e40 := (nxt_WF hW ho hn).1
      have h40 := hW.1.2.2.1
      obtain ⟨M1, q1, q2, q3, q4⟩ := M_b61 (x1 := nI x) (x5 := nI x) (fX6_passesMinute_L30 n) hE hW ho (l := l) (d := d) (by omega) (by omega) hn
      have hW1 := WF_one (τ := tap σ l d) hW ho (tsg_lt hW.2.2.2.1 (hW.1.2.2.2.2.2.2.2.1 ho)) hn
      have hR : RF (one σ e (tap σ l d)) = RF σ := one_0 (by omega) (by omega) (by omega)
      obtain ⟨M2, r1, r2, r3, r4⟩ := M_mvs m (x + 1) n (if tap σ l d = 0 then l + 1 else l) (if tap σ l d = 1 then d + 1 else d) (one σ e (tap σ l d)) M1 (by omega) (by omega) q2 hW1 ((one_0 (by omega) (by omega) (by omega)).trans ho) (by split <;> omega) (by split <;> omega)
      refine ⟨M2, ?_, r2, Fr.tr q3 r3, by rw [r4.1, q4.1], by rw [r4.2, q4.2]⟩
      rw [if_neg (show ¬ nI e = -1 by rw [show (-1 : Int32) = nM from rfl, cMe (by omega)]; exact fun q => q), Lt1, q1, Lt1, cAdd]
      exact r1
theorem M_minute (hE : EM σ M) (hW : WF σ) (ho : OPN σ = 1) (hm : MIN σ < 9999) : ∃ M', fX6_passesMinute M = some (nI (mnt σ).2, M') ∧ EM (mnt σ).1 M' ∧ FM M M' ∧ gi M' 77 43 = gi M 77 43 := by
  have h6 := hW.1.1
  have h5 := hW.1.2.2.2.2.1
  have hr := frt_le (σ := σ) (RT σ)
  have e0 : EM' σ (si M 77 0 (nI (MIN σ + 1))) := EM_0 hE.1
  have e1 := EM_6 e0 (v := frt σ (RT σ))
  have h1 : WF (us σ 0 6 (frt σ (RT σ))) := WF_c hW (fun i _ h _ => us_ne (by omega)) (fun f h _ _ => us_f h) (by unfold RT at *; rw [us_ne (by omega)]; exact h5) (by unfold RF; rw [us_eq rfl rfl]; omega) (by unfold MIN at *; rw [us_ne (by omega)]; omega) (fun i hi => ⟨by have := hW.2.1.2 i hi; unfold DIR at *; rw [us_f (by omega)]; exact this, fun z => by omega⟩)
  have o1 : OPN (us σ 0 6 (frt σ (RT σ))) = 1 := (us_ne (by omega)).trans ho
  have hmin : MIN (mvs (frt σ (RT σ)) (us σ 0 6 (frt σ (RT σ))) 0 0 0).1 = MIN σ := mvs_inv (fun s => MIN s = MIN σ) (fun s e τ h => (one_0 (by omega) (by omega) (by omega)).trans h) _ _ _ _ _ (us_ne (by omega))
  have hRF : RF (us σ 0 6 (frt σ (RT σ))) = frt σ (RT σ) := us_eq rfl rfl
  obtain ⟨M1, q1, q2, q3, q4⟩ := M_mvs (frt σ (RT σ)) 0 400 0 0 _ _ (by omega) (by omega) e1 h1 o1 (Nat.le_refl 0) (Nat.le_refl 0)
  have hw2 := mvs_WF (frt σ (RT σ)) _ 0 0 0 h1 o1
  have hk := mvs_k (frt σ (RT σ)) (us σ 0 6 (frt σ (RT σ))) 0 0 0
  have hpre : fX6_passesMinute M = fX6_passesMinute_L30 400 (nI 0) (nI 0) (nI 0) (nI 1) (nI 0) (si (si M 77 0 (nI (MIN σ + 1))) 77 28 (nI (frt σ (RT σ)))) := by
    unfold fX6_passesMinute
    rw [hE.2, Lt1, cAdd, M_rate (EM_MY e0) e0.1.2.2.2.2.2.1 hW ho, Option.bind_some]
    rfl
  have h77 : gi (si (si M 77 0 (nI (MIN σ + 1))) 77 28 (nI (frt σ (RT σ)))) 77 0 = nI (MIN σ + 1) := by rw [gi_ne (by omega), gi_eq rfl rfl]
  rw [h77] at q4
  have h43 : gi M1 77 43 = gi M 77 43 := by rw [q4.2, gi_ne (by omega), gi_ne (by omega)]
  rw [hpre, q1]
  unfold mnt
  dsimp only
  generalize mvs (frt σ (RT σ)) (us σ 0 6 (frt σ (RT σ))) 0 0 0 = q at *
  obtain ⟨w2, wo⟩ := hw2
  by_cases z : 0 < q.2.1
  · have hms : MIN (sol q.1) = MIN σ := by unfold MIN at *; rw [show sol q.1 0 = q.1 0 from sk_f (by omega)]; exact hmin
    have hs0 : sk q.1 0 = q.1 := by
      funext f i
      unfold sk
      rw [if_neg (by omega)]
    obtain ⟨M2, s1, s2, s3, s4⟩ := M_soil_L (σ := q.1) (l := q.2.2.1) w2.1.1 w2.2.1.2 z (by omega) (NS q.1) 0 400 M1 (by omega) (by have := w2.1.1; omega) (by rw [hs0]; exact q2)
    obtain ⟨b1, b2⟩ := M_b258 (l := q.2.2.1) (x := nI q.2.1) s2 (by rw [s4.1, q4.1, hms]) (by omega)
    refine ⟨si M2 102 ((MIN (sol q.1) % 5 + 1) % 5) (nI q.2.2.1), ?_, ?_, ?_, by rw [gi_ne (by omega), s4.2, h43]⟩
    · rw [s1, b1]
    · rw [if_pos z]
      exact b2
    · exact Fr.tr ((Fr.rf.si (by omega)).si (by omega)) (Fr.tr q3 (Fr.tr s3 (Fr.rf.si (by omega))))
  · obtain ⟨b1, b2⟩ := M_b258 (l := q.2.2.1) (x := nI q.2.1) q2 (by rw [q4.1, hmin]) (by omega)
    refine ⟨si M1 102 ((MIN q.1 % 5 + 1) % 5) (nI q.2.2.1), ?_, ?_, ?_, by rw [gi_ne (by omega), h43]⟩
    · rw [fX6_passesMinute_L211]
      dsimp only
      rw [show (if gi M1 77 1 ≤ nI 0 then fX6_passesMinute_b258 (nI q.2.1) (nI q.2.2.1) M1 else if nI q.2.1 ≤ 0 then fX6_passesMinute_b258 (nI q.2.1) (nI q.2.2.1) M1 else if ¬ (nI 0 < 0 ∨ 6 ≤ (nI 0).toNatClampNeg) then if ¬ (nI 0 < 0 ∨ 6 ≤ (nI 0).toNatClampNeg) then if (200 : Int32) ≤ gi M1 81 (nI 0).toNatClampNeg then if ¬ (nI 0 < 0 ∨ 6 ≤ (nI 0).toNatClampNeg) then fX6_passesMinute_L211 399 (nI q.2.1) (nI q.2.2.1) (nI 0 + 1) (si M1 81 (nI 0).toNatClampNeg (gi M1 81 (nI 0).toNatClampNeg + 0)) else none else if ¬ (nI 0 < 0 ∨ 6 ≤ (nI 0).toNatClampNeg) then fX6_passesMinute_L211 399 (nI q.2.1) (nI q.2.2.1) (nI 0 + 1) (si M1 81 (nI 0).toNatClampNeg (gi M1 81 (nI 0).toNatClampNeg + 1)) else none else none else none) = fX6_passesMinute_b258 (nI q.2.1) (nI q.2.2.1) M1 from ?_, b1]
      by_cases y : gi M1 77 1 ≤ nI 0
      · rw [if_pos y]
      · rw [if_neg y, if_pos (show nI q.2.1 ≤ 0 by rw [Lt0, cLe (by omega) (by omega)]; omega)]
    · rw [if_neg z]
      exact b2
    · exact Fr.tr ((Fr.rf.si (by omega)).si (by omega)) (Fr.tr q3 (Fr.rf.si (by omega)))
theorem M_pass_L : ∀ (m j n x k : Nat) (σ : Sp) (M : Mm), j + m = x → x ≤ 60 → m < n → EM σ M → WF σ → OPN σ = 1 → MIN σ + m ≤ 9999 → ∃ M', fX6_pass_L45 n (nI x) (nI k) (nI j) M = some (nI (mns m σ k).2, M') ∧ EM (mns m σ k).1 M' ∧ FM M M' ∧ gi M' 77 43 = gi M 77 43
  | m, j, 0, x, k, σ, M, h1, h2, h3, hE, hW, ho, hm => by omega
  | 0, j, n + 1, x, k, σ, M, h1, h2, h3, hE, hW, ho, hm => by
    refine ⟨M, ?_, hE, Fr.rf, rfl⟩
    rw [fX6_pass_L45]
    dsimp only
    rw [if_pos (show nI x ≤ nI j by rw [cLe (by omega) (by omega)]; omega)]
    rfl
  | m + 1, j, n + 1, x, k, σ, M, h1, h2, h3, hE, hW, ho, hm => by
    obtain ⟨M1, q1, q2, q3, q4⟩ := M_minute hE hW ho (by omega)
    obtain ⟨a, b, c, e⟩ := mnt_WF hW ho (by omega)
    obtain ⟨M2, r1, r2, r3, r4⟩ := M_pass_L m (j + 1) n x (k + (mnt σ).2) (mnt σ).1 M1 (by omega) h2 (by omega) q2 a b (by omega)
    refine ⟨M2, ?_, r2, Fr.tr q3 r3, by rw [r4, q4]⟩
    rw [fX6_pass_L45]
    dsimp only
    rw [if_neg (show ¬ nI x ≤ nI j by rw [cLe (by omega) (by omega)]; omega), q1, Option.bind_some]
    dsimp only
    rw [cAdd, Lt1, cAdd]
    exact r1
end M64
