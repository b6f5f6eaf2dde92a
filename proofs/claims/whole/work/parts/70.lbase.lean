/-! BOTH SIDES OF ONE CALL -/
def IV (σ : Sp) (l d o : Nat) (M : Mm) : Prop := WF σ ∧ EC σ l d o M ∧ EM σ M
def OK1 (f g : Mm → Option (Int32 × Mm)) (M : Mm) : Prop := ∃ c M1 v M2, f M = some (c, M1) ∧ g M1 = some (v, M2) ∧ gi M2 77 43 = c ∧ (c = nI 0 → gi M2 103 0 = v) ∧ INV M2
def OK0 (f : Mm → Option (Int32 × Mm)) (g : Mm → Option Mm) (M : Mm) : Prop := ∃ c M1 M2, f M = some (c, M1) ∧ g M1 = some M2 ∧ gi M2 77 43 = c ∧ INV M2
section Lb
variable {σ σ' : Sp} {M M1 M2 : Mm} {l d o l' d' o' : Nat}
theorem EC_fr (hC : EC σ l d o M) (h6 : NS σ ≤ 6) (h40 : NB σ ≤ 40) (hF : Fr (fun k => 77 ≤ k) M M1) : EC σ l d o M1 := by
  obtain ⟨c1, c2, c3, c4, c5, c6, c7, c8, c9, c10, c11⟩ := hC
  have r1 : ∀ k, k < 77 → M1.1 k = M.1 k := fun k h => (hF k (by omega)).1
  have r2 : ∀ k, k < 77 → M1.2 k = M.2 k := fun k h => (hF k (by omega)).2
  exact ⟨EP_c (r1 0 (by omega)) (r2 0 (by omega)) (fun i _ => rfl) c1, ET_c (fun t ht => r1 _ (by omega)) (fun i _ _ _ _ _ _ _ => rfl) c2, ES_c (fun j hj => r1 _ (by omega)) rfl rfl rfl rfl rfl rfl c3, ER_c (fun j hj => r1 _ (by omega)) h6 rfl rfl rfl rfl rfl rfl c4, EU_c (fun j hj => r1 _ (by omega)) rfl rfl rfl rfl rfl c5, EG_c (fun i hi => r1 _ (by omega)) rfl rfl rfl rfl c6, EB1_c (fun i hi => r1 _ (by omega)) rfl rfl rfl rfl rfl c7, EB2_c (fun i hi => ⟨r1 _ (by omega), r2 _ (by omega)⟩) rfl rfl rfl rfl rfl rfl rfl c8, EB3_c (fun i hi => ⟨r1 _ (by omega), r2 _ (by omega)⟩) h40 rfl rfl rfl rfl c9, EK_c (fun t ht => r1 _ (by omega)) rfl rfl rfl rfl c10, EL_c (r1 5 (by omega)) rfl c11⟩
theorem EM_fr (hE : EM σ M) (hr : ∀ k, 77 ≤ k → k < 103 → M1.1 k = M.1 k) : EM σ M1 := by
  obtain ⟨⟨c1, c2, c3, c4, c5, c6, c7, c8, c9, c10, c11⟩, c0⟩ := hE
  have h : ∀ j, gi M1 77 j = gi M 77 j := fun j => gi_1 (hr 77 (by omega) (by omega)) j
  exact ⟨⟨MP_c (fun i _ => h i) (fun _ _ => rfl) c1, MT_c (fun i _ => h i) (fun _ _ => rfl) c2, MQ_c (fun i _ => h i) rfl c3, MS_c (fun k hk => hr k (by omega) (by omega)) rfl (fun _ _ => rfl) c4, MG_c (fun k hk => hr k (by omega) (by omega)) (fun _ _ => rfl) c5, MB1_c (fun k hk => hr k (by omega) (by omega)) (fun _ _ => rfl) c6, MB2_c (fun k hk => hr k (by omega) (by omega)) rfl (fun _ _ => rfl) c7, MB3_c (fun k hk => hr k (by omega) (by omega)) rfl (fun _ _ => rfl) c8, MU_c (fun k hk => hr k (by omega) (by omega)) rfl rfl (fun _ _ => rfl) c9, MK_c (fun k hk => hr k (by omega) (by omega)) (h 38) (fun _ _ => rfl) c10, ML_c (hr 102 (by omega) (by omega)) rfl c11⟩, by rw [h]; exact c0⟩
theorem EM_43 (hE : EM σ M) {x : Int32} {j : Nat} (hj : 42 ≤ j) : EM σ (si M 77 j x) := ⟨EM_44 hE.1 hj, by rw [gi_ne (by omega)]; exact hE.2⟩
theorem EM_103 (hE : EM σ M) {x : Int32} {j : Nat} : EM σ (si M 103 j x) := EM_fr hE (fun k h1 h2 => si_1 (by omega))
/-! refused -/
theorem E1 {f g : Mm → Option (Int32 × Mm)} {c : Nat} {v : Int32} (h : IV σ l d o M) (hc : 0 < c) (hc2 : c < 10) (hf : f M = some (nI c, M)) (hg : g M = some (v, si M 77 43 (nI c))) : OK1 f g M := by
  obtain ⟨hW, hC, hE⟩ := h
  refine ⟨nI c, M, v, si M 77 43 (nI c), hf, hg, gi_eq rfl rfl, fun z => ?_, σ, l, d, o, hW, EC_fr hC hW.1.1 hW.1.2.2.1 (Fr.rf.si (by omega)), EM_43 hE (by omega)⟩
  rw [cEq (by omega) (by omega)] at z
  omega
theorem E0 {f : Mm → Option (Int32 × Mm)} {g : Mm → Option Mm} {c : Nat} (h : IV σ l d o M) (hf : f M = some (nI c, M)) (hg : g M = some (si M 77 43 (nI c))) : OK0 f g M := by
  obtain ⟨hW, hC, hE⟩ := h
  exact ⟨nI c, M, si M 77 43 (nI c), hf, hg, gi_eq rfl rfl, σ, l, d, o, hW, EC_fr hC hW.1.1 hW.1.2.2.1 (Fr.rf.si (by omega)), EM_43 hE (by omega)⟩
/-! answered, nothing changes -/
theorem R1 {f g : Mm → Option (Int32 × Mm)} {v : Int32} (h : IV σ l d o M) (hf : f M = some (nI 0, si M 103 0 v)) (hg : g (si M 103 0 v) = some (v, si (si M 103 0 v) 77 43 (nI 0))) : OK1 f g M := by
  obtain ⟨hW, hC, hE⟩ := h
  refine ⟨nI 0, _, v, _, hf, hg, gi_eq rfl rfl, fun z => ?_, σ, l, d, o, hW, EC_fr hC hW.1.1 hW.1.2.2.1 ((Fr.rf.si (by omega)).si (by omega)), EM_43 (EM_103 hE) (by omega)⟩
  rw [gi_ne (by omega), gi_eq rfl rfl]
/-! done -/
theorem FO {f g : Mm → Option (Int32 × Mm)} {v : Int32} (hE : EM σ M) (hC' : EC σ' l' d' o' M1) (hF : Fr (fun k => k < 77) M M1) (hW' : WF σ') (hf : f M = some (nI 0, si M1 103 0 v)) (hg : ∀ N, EM σ N → ∃ N', g N = some (v, N') ∧ EM σ' N' ∧ FM N N' ∧ gi N' 77 43 = nI 0) : OK1 f g M := by
  obtain ⟨N', q1, q2, q3, q4⟩ := hg (si M1 103 0 v) (EM_103 (EM_fr hE (fun k h1 h2 => (hF k (by omega)).1)))
  refine ⟨nI 0, _, v, N', hf, q1, q4, fun _ => ?_, σ', l', d', o', hW', ?_, q2⟩
  · rw [q3.gi (by omega), gi_eq rfl rfl]
  · exact EC_fr hC' hW'.1.1 hW'.1.2.2.1 (Fr.tr (Fr.rf.si (by omega)) (q3.mono (fun k hk => by omega)))
theorem FZ {f : Mm → Option (Int32 × Mm)} {g : Mm → Option Mm} (hE : EM σ M) (hC' : EC σ' l' d' o' M1) (hF : Fr (fun k => k < 77) M M1) (hW' : WF σ') (hf : f M = some (nI 0, M1)) (hg : ∀ N, EM σ N → ∃ N', g N = some N' ∧ EM σ' N' ∧ FM N N' ∧ gi N' 77 43 = nI 0) : OK0 f g M := by
  obtain ⟨N', q1, q2, q3, q4⟩ := hg M1 (EM_fr hE (fun k h1 h2 => (hF k (by omega)).1))
  exact ⟨nI 0, _, N', hf, q1, q4, σ', l', d', o', hW', EC_fr hC' hW'.1.1 hW'.1.2.2.1 (q3.mono (fun k hk => by omega)), q2⟩
/-! the reference's checks -/
theorem G_ok : fX6_goes 1 1 1 M = some (1, si M 77 43 0) := by
  unfold fX6_goes fX6_goes_b26
  rw [if_neg (by decide), if_neg (by decide), if_neg (by decide), gi_eq rfl rfl, if_pos rfl]
theorem G_1 {x y : Int32} : fX6_goes 0 x y M = some (0, si M 77 43 1) := by
  unfold fX6_goes fX6_goes_b26
  rw [if_pos rfl, gi_eq rfl rfl, if_neg (by decide)]
theorem G_2 {y : Int32} : fX6_goes 1 0 y M = some (0, si M 77 43 2) := by
  unfold fX6_goes fX6_goes_b26
  rw [if_neg (by decide), if_pos rfl, gi_eq rfl rfl, if_neg (by decide)]
theorem G_3 : fX6_goes 1 1 0 M = some (0, si M 77 43 3) := by
  unfold fX6_goes fX6_goes_b26
  rw [if_neg (by decide), if_neg (by decide), if_pos rfl, gi_eq rfl rfl, if_neg (by decide)]
theorem B_ok {a b j : Nat} (hb : b < 2147483648) (h1 : a ≤ j) (h2 : j ≤ b) : fX6_isBetween (nI j) (nI a) (nI b) M = some 1 := by
  unfold fX6_isBetween
  rw [if_neg (show ¬ nI j < nI a by rw [cLt (by omega) (by omega)]; omega), if_neg (show ¬ nI b < nI j by rw [cLt (by omega) (by omega)]; omega)]
theorem B_no {x a b : Int32} (h : x < a ∨ b < x) : fX6_isBetween x a b M = some 0 := by
  unfold fX6_isBetween
  by_cases z : x < a
  · rw [if_pos z]
  · rw [if_neg z, if_pos (by rcases h with h | h; exact absurd h z; exact h)]
/-- out of the range of an index -/
theorem idx_no {x : Int32} {n : Nat} (hn : n < 1000000) (h : x < nI 0 ∨ nI n ≤ x) : x < nI 0 ∨ nI n - nI 1 < x := by
  rcases h with h | h
  · exact Or.inl h
  · right
    rw [Int32.le_iff_toInt_le, nI_toInt (by omega)] at h
    rw [Int32.lt_iff_toInt_lt, pk_sub_toInt (by omega) (by omega)]
    omega
theorem ge0 {x : Int32} (h : ¬ x < 0) : ∃ j : Nat, j < 2147483648 ∧ x = nI j := by
  have h2 : (0 : Int32).toInt = 0 := by decide
  rw [Int32.lt_iff_toInt_lt, h2] at h
  have h3 := Int32.toInt_lt x
  refine ⟨x.toInt.toNat, by omega, ?_⟩
  apply Int32.toInt_inj.mp
  rw [nI_toInt (by omega)]
  omega
/-! the reference's other checks -/
theorem S_ok {n j : Nat} (h1 : gi M 77 1 = nI n) (hn : n < 1000000) (hj : j < n) : fX6_isSegment (nI j) M = some 1 := by
  unfold fX6_isSegment
  rw [h1, Lt0, Lt1, cSub (by omega), B_ok (by omega) (by omega) (by omega)]
  rfl
theorem S_no {n : Nat} {x : Int32} (h1 : gi M 77 1 = nI n) (hn : n < 1000000) (h : x < nI 0 ∨ nI n ≤ x) : fX6_isSegment x M = some 0 := by
  unfold fX6_isSegment
  rw [h1, Lt0, Lt1, B_no (idx_no hn h)]
  rfl
theorem T_ok {j : Nat} (hj : j < 4) : fX6_isTank (nI j) M = some 1 := by
  unfold fX6_isTank
  rw [Lt0, show (3 : Int32) = nI 3 from rfl, B_ok (by omega) (by omega) (by omega)]
  rfl
theorem T_no {x : Int32} (h : x < nI 0 ∨ nI 4 ≤ x) : fX6_isTank x M = some 0 := by
  unfold fX6_isTank
  rw [Lt0, show (3 : Int32) = nI 4 - nI 1 from by decide, B_no (idx_no (by omega) h)]
  rfl
theorem H_ok {j : Nat} (hj : j < 4) : fX6_isShipper (nI j) M = some 1 := by
  unfold fX6_isShipper
  rw [Lt0, show (3 : Int32) = nI 3 from rfl, B_ok (by omega) (by omega) (by omega)]
  rfl
theorem H_no {x : Int32} (h : x < nI 0 ∨ nI 4 ≤ x) : fX6_isShipper x M = some 0 := by
  unfold fX6_isShipper
  rw [Lt0, show (3 : Int32) = nI 4 - nI 1 from by decide, B_no (idx_no (by omega) h)]
  rfl
theorem P_ok {j : Nat} (hj : j < 6) : fX6_isProduct (nI j) M = some 1 := by
  unfold fX6_isProduct
  rw [Lt0, show (5 : Int32) = nI 5 from rfl, B_ok (by omega) (by omega) (by omega)]
  rfl
theorem P_no {x : Int32} (h : x < nI 0 ∨ nI 6 ≤ x) : fX6_isProduct x M = some 0 := by
  unfold fX6_isProduct
  rw [Lt0, show (5 : Int32) = nI 6 - nI 1 from by decide, B_no (idx_no (by omega) h)]
  rfl
end Lb
/-! RATE, RECEIVE, TANK, DIRT -/
section L1
variable {σ : Sp} {M : Mm} {l d o : Nat}
theorem W_rate (h : IV σ l d o M) (x : Int32) : OK1 (fL_rate x) (fX6_rate x) M := by
  obtain ⟨hW, hC, hE⟩ := id h
  rcases rng x (a := 0) (b := 10) (by omega) (by omega) with z | z | ⟨j, h1, h2, rfl⟩
  · refine E1 h (c := 1) (v := 0) (by omega) (by omega) ?_ ?_
    · unfold fL_rate fX5_rate
      rw [Lt0, show (10 : Int32) = nI 10 from rfl, C_rng1 (by omega) (by omega) (by omega) (Or.inl z), Option.bind_some]
      rfl
    · unfold fX6_rate
      rw [Lt0, show (10 : Int32) = nI 10 from rfl, B_no (Or.inl z), Option.bind_some, G_1, Option.bind_some]
      rfl
  · refine E1 h (c := 1) (v := 0) (by omega) (by omega) ?_ ?_
    · unfold fL_rate fX5_rate
      rw [Lt0, show (10 : Int32) = nI 10 from rfl, C_rng1 (by omega) (by omega) (by omega) (Or.inr z), Option.bind_some]
      rfl
    · unfold fX6_rate
      rw [Lt0, show (10 : Int32) = nI 10 from rfl, B_no (Or.inr z), Option.bind_some, G_1, Option.bind_some]
      rfl
  · refine FO (v := nI (RT σ)) (σ' := us σ 0 5 j) hE (EC_P hC hW.1.1 hW.1.2.2.1 (i := 5) (v := j) (by omega)) (Fr.rf.si (by omega)) ?_ ?_ ?_
    · exact WF_c hW (fun i h5 _ _ => us_ne (by omega)) (fun f h0 _ _ => us_f h0) (by unfold RT; rw [us_eq rfl rfl]; omega) (by unfold RF; rw [us_ne (by omega)]; exact hW.1.2.2.2.2.2.1) (by unfold MIN; rw [us_ne (by omega)]; exact hW.1.2.2.2.2.2.2.1) (fun i hi => ⟨by unfold DIR; rw [us_f (by omega)]; exact hW.2.1.2 i hi, fun q => by
        unfold DIR; rw [us_f (by omega)]; exact ((hW.2.2.2.2.2.2.1 q).2.2.2.2.2.1 i hi).2⟩)
    · unfold fL_rate fX5_rate
      rw [Lt0, show (10 : Int32) = nI 10 from rfl, C_rng0 (by omega) (by omega) (by omega), Option.bind_some, hC.1.2.2.2.2.1]
      rfl
    · intro N hN
      refine ⟨si (si N 77 43 0) 77 27 (nI j), ?_, ?_, (Fr.rf.si (by omega)).si (by omega), by rw [gi_ne (by omega), gi_eq rfl rfl]; rfl⟩
      · unfold fX6_rate
        rw [Lt0, show (10 : Int32) = nI 10 from rfl, B_ok (by omega) (by omega) (by omega), Option.bind_some, G_ok, Option.bind_some]
        dsimp only
        rw [if_neg (by decide), gi_ne (by omega), hN.1.1.2.2.2.2.2.1]
        rfl
      · have e := EM_43 hN (x := 0) (j := 43) (by omega)
        obtain ⟨⟨c1, c2, c3, c4, c5, c6, c7, c8, c9, c10, c11⟩, c0⟩ := e
        have hr : ∀ k, k ≠ 77 → (si (si N 77 43 0) 77 27 (nI j)).1 k = (si N 77 43 0).1 k := fun k hk => si_1 hk
        have hs : ∀ i, i ≠ 27 → gi (si (si N 77 43 0) 77 27 (nI j)) 77 i = gi (si N 77 43 0) 77 i := fun i hi => gi_ne (by omega)
        have hf : ∀ f, f ≠ 0 → us σ 0 5 j f = σ f := fun f h => us_f h
        have h0 : ∀ i, i ≠ 5 → us σ 0 5 j 0 i = σ 0 i := fun i h => us_ne (by omega)
        refine ⟨⟨?_, MT_c (fun j hj => hs j (by omega)) (fun j hj => h0 j (by omega)) c2, MQ_c (fun j hj => hs j (by omega)) (h0 8 (by omega)) c3, MS_c (fun k hk => hr k (by omega)) (h0 0 (by omega)) (fun f h => hf f (by omega)) c4, MG_c (fun k hk => hr k (by omega)) (fun f h => hf f (by omega)) c5, MB1_c (fun k hk => hr k (by omega)) (fun f h => hf f (by omega)) c6, MB2_c (fun k hk => hr k (by omega)) (h0 15 (by omega)) (fun f h => hf f (by omega)) c7, MB3_c (fun k hk => hr k (by omega)) (h0 1 (by omega)) (fun f h => hf f (by omega)) c8, MU_c (fun k hk => hr k (by omega)) (h0 2 (by omega)) (h0 15 (by omega)) (fun f h => hf f (by omega)) c9, MK_c (fun k hk => hr k (by omega)) (hs 38 (by omega)) (fun f h => hf f (by omega)) c10, ML_c (hr 102 (by omega)) (hf 27 (by omega)) c11⟩, by rw [hs 0 (by omega), c0]; rfl⟩
        obtain ⟨p1, p2, p3, p4, p5, p6, p7⟩ := c1
        unfold MP NS OPN LEN NB ALL RT RF at *
        rw [hs 1 (by omega), hs 6 (by omega), hs 7 (by omega), hs 12 (by omega), hs 24 (by omega), hs 28 (by omega), gi_eq rfl rfl, h0 0 (by omega), h0 2 (by omega), h0 15 (by omega), h0 1 (by omega), h0 4 (by omega), h0 6 (by omega), us_eq rfl rfl]
        exact ⟨p1, p2, p3, p4, p5, rfl, p7⟩
theorem W_dirt (h : IV σ l d o M) (x : Int32) : OK1 (fL_dirt x) (fX6_dirt x) M := by
  obtain ⟨hW, hC, hE⟩ := id h
  have h6 := hW.1.1
  rcases idx x (n := NS σ) (by omega) with z | ⟨j, h1, rfl⟩
  · refine E1 h (c := 1) (v := 0) (by omega) (by omega) ?_ ?_
    · unfold fL_dirt fX5_dirt
      rw [hC.1.1, C_idx3 z, Option.bind_some]
      rfl
    · unfold fX6_dirt
      rw [S_no hE.1.1.1 (by omega) z, Option.bind_some, G_1, Option.bind_some]
      rfl
  · have g := g6 (show j < 6 by omega) (by omega)
    refine R1 (v := nI (DIR σ j)) h ?_ ?_
    · unfold fL_dirt fX5_dirt
      rw [hC.1.1, C_idx0 (by omega) h1, Option.bind_some, cCl (show j < 2147483648 by omega), if_pos rfl, if_pos g, (hC.2.2.1 j (by omega)).2.1]
      rfl
    · unfold fX6_dirt
      have e := EM_103 hE (x := nI (DIR σ j)) (j := 0)
      rw [S_ok e.1.1.1 (by omega) h1, Option.bind_some, G_ok, Option.bind_some]
      dsimp only
      rw [if_neg (by decide), cCl (show j < 2147483648 by omega), if_pos g, gi_ne (by omega), (e.1.2.2.2.1 j (by omega)).2]
      rfl
end L1
