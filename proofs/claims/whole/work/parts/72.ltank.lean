/-! TANKS, THE PIG, MINUTES, PRODUCTS: BOTH SIDES -/
section L72
variable {σ σ' : Sp} {M M' : Mm} {l d o l' d' o' : Nat}
theorem W_tank (h : IV σ l d o M) (x y : Int32) : OK1 (fL_tank x y) (fX6_tank x y) M := by
  obtain ⟨hW, hC, hE⟩ := id h
  have hK := hW.2.2.2.2.2.1
  rcases idx x (n := 4) (by omega) with z | ⟨t, ht, rfl⟩
  · refine E1 h (c := 1) (v := 0) (by omega) (by omega) ?_ ?_
    · unfold fL_tank fX5_tank
      rw [show (4 : Int32) = nI 4 from rfl, C_idx3 z, Option.bind_some]
      rfl
    · unfold fX6_tank
      rw [T_no z, Option.bind_some]
      unfold fX6_isBetween
      split
      · rw [Option.bind_some, G_1, Option.bind_some]; rfl
      · split
        · rw [Option.bind_some, G_1, Option.bind_some]; rfl
        · rw [Option.bind_some, G_1, Option.bind_some]; rfl
  · have bad : (y < nI 0 ∨ nI 2 < y) → OK1 (fL_tank (nI t) y) (fX6_tank (nI t) y) M := fun z => by
      refine E1 h (c := 2) (v := 0) (by omega) (by omega) ?_ ?_
      · unfold fL_tank fX5_tank
        rw [show (4 : Int32) = nI 4 from rfl, C_idx0 (n := 4) (by omega) ht, Option.bind_some, if_pos rfl, show fX5_checkRange y 0 2 M = some 1 from C_rng1 (a := 0) (b := 2) (by omega) (by omega) (by omega) z, Option.bind_some]
        rfl
      · unfold fX6_tank
        rw [T_ok ht, Option.bind_some, B_no (show y < 0 ∨ 2 < y from z), Option.bind_some, G_2, Option.bind_some]
        rfl
    rcases rng y (a := 0) (b := 2) (by omega) (by omega) with z | z | ⟨j, h1, h2, rfl⟩
    · exact bad (Or.inl z)
    · exact bad (Or.inr z)
    · have g := g6 ht (by omega)
      have hc := hC.2.2.2.2.2.2.2.2.2.1 t ht
      have pre : fX5_tank (nI t) (nI j) M = (if nI j = 0 then (if ¬ (nI t < 0 ∨ 4 ≤ (nI t).toNatClampNeg) then some (0, gi M (73 + (nI t).toNatClampNeg) 0) else none) else (if nI j = 1 then (if ¬ (nI t < 0 ∨ 4 ≤ (nI t).toNatClampNeg) then some (0, gi M (73 + (nI t).toNatClampNeg) 1) else none) else (if ¬ (nI t < 0 ∨ 4 ≤ (nI t).toNatClampNeg) then some (0, gi M (73 + (nI t).toNatClampNeg) 2) else none))) := by
        unfold fX5_tank
        rw [show fX5_checkIndex (nI t) 4 M = some 0 from C_idx0 (n := 4) (by omega) ht, Option.bind_some, if_pos rfl, show fX5_checkRange (nI j) 0 2 M = some 0 from C_rng0 (a := 0) (b := 2) (by omega) (by omega) (by omega), Option.bind_some, if_pos rfl]
      have mpre : ∀ N, fX6_tank (nI t) (nI j) N = (if nI j = 0 then (if ¬ (nI t < 0 ∨ 4 ≤ (nI t).toNatClampNeg) then some (gi (si N 77 43 0) 99 (nI t).toNatClampNeg, si N 77 43 0) else none) else (if nI j = 2 then (if ¬ (nI t < 0 ∨ 4 ≤ (nI t).toNatClampNeg) then some (gi (si N 77 43 0) 101 (nI t).toNatClampNeg, si N 77 43 0) else none) else (if ¬ (nI t < 0 ∨ 4 ≤ (nI t).toNatClampNeg) then (if gi (si N 77 43 0) 99 (nI t).toNatClampNeg = 0 then some (-1, si N 77 43 0) else (if ¬ (nI t < 0 ∨ 4 ≤ (nI t).toNatClampNeg) then some (gi (si N 77 43 0) 100 (nI t).toNatClampNeg, si N 77 43 0) else none)) else none))) := by
        intro N
        unfold fX6_tank
        rw [T_ok ht, Option.bind_some, show fX6_isBetween (nI j) 0 2 N = some 1 from B_ok (a := 0) (b := 2) (by omega) (by omega) (by omega), Option.bind_some, G_ok, Option.bind_some]
        rfl
      rw [cCl (show t < 2147483648 by omega)] at pre
      have hct : (nI t).toNatClampNeg = t := cCl (by omega)
      simp only [hct, if_pos g] at mpre
      simp only [if_pos g] at pre
      have hM := hE.1.2.2.2.2.2.2.2.2.2.1.1 t ht
      obtain ⟨k1, k2, k3⟩ := hK t ht
      rcases (show j = 0 ∨ j = 1 ∨ j = 2 by omega) with rfl | rfl | rfl
      · refine R1 (v := nI (HAS σ t)) h ?_ ?_
        · unfold fL_tank
          rw [pre, if_pos (show nI 0 = 0 from rfl), hc.1]
          rfl
        · rw [mpre, if_pos (show nI 0 = 0 from rfl), gi_ne (by omega), gi_ne (by omega), hM.1]
          rfl
      · refine R1 (v := nO (TG σ t)) h ?_ ?_
        · unfold fL_tank
          rw [pre, if_neg (by decide), if_pos (show nI 1 = 1 from rfl), hc.2.1]
          rfl
        · rw [mpre, if_neg (by decide), if_neg (by decide), gi_ne (by omega), gi_ne (by omega), hM.1, gi_ne (by omega), gi_ne (by omega)]
          by_cases z : HAS σ t = 0
          · rw [if_pos (show nI (HAS σ t) = 0 by rw [z]; rfl), k3.mp z]
            rfl
          · have : TG σ t ≠ 0 := fun q => z (k3.mpr q)
            rw [if_neg (show ¬ nI (HAS σ t) = 0 by rw [Lt0, cEq (by omega) (by omega)]; exact z), hM.2.1 z, nO_p (by omega)]
            rfl
      · refine R1 (v := nI (MXD σ t)) h ?_ ?_
        · unfold fL_tank
          rw [pre, if_neg (by decide), if_neg (by decide), hc.2.2.1]
          rfl
        · rw [mpre, if_neg (by decide), if_pos (show nI 2 = 2 from rfl), gi_ne (by omega), gi_ne (by omega), hM.2.2]
          rfl
/-- the reference's tanks -/
theorem EM_Kk (hE : EM σ M) (hK : MK σ' M') (hs : ∀ j, j ≠ 38 → j < 42 → gi M' 77 j = gi M 77 j) (hr : ∀ k, k ≠ 77 → ¬ (99 ≤ k ∧ k ≤ 101) → M'.1 k = M.1 k) (hf : ∀ f, ¬ (23 ≤ f ∧ f ≤ 26) → σ' f = σ f) : EM σ' M' := by
  obtain ⟨⟨c1, c2, c3, c4, c5, c6, c7, c8, c9, c10, c11⟩, c0⟩ := hE
  have h0 : ∀ i, σ' 0 i = σ 0 i := fun i => by rw [hf 0 (by omega)]
  exact ⟨⟨MP_c (fun j hj => hs j (by omega) (by omega)) (fun j hj => h0 j) c1, MT_c (fun j hj => hs j (by omega) (by omega)) (fun j hj => h0 j) c2, MQ_c (fun j hj => hs j (by omega) (by omega)) (h0 8) c3, MS_c (fun k hk => hr k (by omega) (by omega)) (h0 0) (fun f h => hf f (by omega)) c4, MG_c (fun k hk => hr k (by omega) (by omega)) (fun f h => hf f (by omega)) c5, MB1_c (fun k hk => hr k (by omega) (by omega)) (fun f h => hf f (by omega)) c6, MB2_c (fun k hk => hr k (by omega) (by omega)) (h0 15) (fun f h => hf f (by omega)) c7, MB3_c (fun k hk => hr k (by omega) (by omega)) (h0 1) (fun f h => hf f (by omega)) c8, MU_c (fun k hk => hr k (by omega) (by omega)) (h0 2) (h0 15) (fun f h => hf f (by omega)) c9, hK, ML_c (hr 102 (by omega) (by omega)) (hf 27 (by omega)) c11⟩, by rw [hs 0 (by omega) (by omega), c0]; unfold MIN; rw [h0 7]⟩
/-- a change of numbers that the chain and the units don't see -/
theorem WF_K (hW : WF σ) (hG : WG σ') (hK : WK σ') (hf : ∀ f, ¬ (5 ≤ f ∧ f ≤ 8) → ¬ (23 ≤ f ∧ f ≤ 26) → σ' f = σ f) : WF σ' := by
  obtain ⟨hA, hWS, hWG, hWT, hWB, hWK, hWC, -⟩ := id hW
  have h0 : ∀ i, σ' 0 i = σ 0 i := fun i => by rw [hf 0 (by omega) (by omega)]
  have h4 : ∀ i, DIR σ' i = DIR σ i := fun i => by unfold DIR; rw [hf 4 (by omega) (by omega)]
  refine WF_g hW (fun i hi => h0 i) (fun f h => hf f (by omega) (by omega)) hG ?_ hK ?_ ?_ ?_ ?_ ?_
  · unfold WT' at *
    unfold LK LKU DR DRU DRT NS RCV at *
    rw [h0, h0, h0, h0, h0, h0, h0]
    exact hWT
  · unfold PIG OPN at *
    rw [h0]
    exact ⟨hA.2.2.2.2.2.2.2.2.2.2.2, fun z => (hWC z).2.1⟩
  · unfold RT at *; rw [h0]; exact hA.2.2.2.2.1
  · unfold RF at *; rw [h0]; exact hA.2.2.2.2.2.1
  · unfold MIN at *; rw [h0]; exact hA.2.2.2.2.2.2.1
  · intro i hi
    rw [h4]
    exact ⟨hWS.2 i hi, fun z => ((hWC z).2.2.2.2.2.1 i hi).2⟩
theorem W_empty (h : IV σ l d o M) (x : Int32) : OK1 (fL_empty x) (fX6_empty x) M := by
  obtain ⟨hW, hC, hE⟩ := id h
  have hWK := hW.2.2.2.2.2.1
  rcases idx x (n := 4) (by omega) with z | ⟨t, ht, rfl⟩
  · refine E1 h (c := 1) (v := 0) (by omega) (by omega) ?_ ?_
    · unfold fL_empty fX5_empty
      rw [show (4 : Int32) = nI 4 from rfl, C_idx3 z, Option.bind_some]
      rfl
    · unfold fX6_empty
      rw [T_no z, Option.bind_some, G_1, Option.bind_some]
      rfl
  · have g := g6 ht (by omega)
    have hct : (nI t).toNatClampNeg = t := cCl (by omega)
    have hc := hC.2.2.2.2.2.2.2.2.2.1
    have hf : ∀ f, ¬ (23 ≤ f ∧ f ≤ 25) → us (us (us σ 23 t 0) 24 t 0) 25 t 0 f = σ f := fun f h => by rw [us_f (by omega), us_f (by omega), us_f (by omega)]
    refine FO (v := nI (HAS σ t)) (σ' := us (us (us σ 23 t 0) 24 t 0) 25 t 0) (M1 := si (si (si M (73 + t) 0 0) (73 + t) 1 (-1)) (73 + t) 2 0) hE (EC_K hC hW.1.1 hW.1.2.2.1 ?_ (((Fr.rf.si (by omega)).si (by omega)).si (by omega)) (fun f h => hf f (by omega))) (((Fr.rf.si (by omega)).si (by omega)).si (by omega)) (WF_K hW ?_ ?_ (fun f h1 h2 => hf f (by omega))) ?_ ?_
    · intro t' ht'
      have := hc t' ht'
      unfold HAS TG MXD SPL at *
      by_cases z : t' = t
      · subst z
        simp (disch := omega) only [gi_eq, gi_ne, gi_sr, gr_si, gr_eq, gr_ne, us_eq, us_ne]
        exact ⟨rfl, rfl, rfl, this.2.2.2⟩
      · simp (disch := omega) only [gi_eq, gi_ne, gi_sr, gr_si, gr_eq, gr_ne, us_ne]
        exact this
    · intro p hp
      have := hW.2.2.1 p hp
      unfold WEI THK GRD BAR at *
      rw [hf 5 (by omega), hf 6 (by omega), hf 7 (by omega), hf 8 (by omega)]
      exact this
    · intro t' ht'
      have := hWK t' ht'
      unfold HAS TG at *
      by_cases z : t' = t
      · subst z
        rw [us_f (f' := 23) (by omega), us_f (f' := 23) (by omega), us_f (f' := 24) (by omega), us_eq rfl rfl, us_eq rfl rfl]
        exact ⟨Nat.zero_le _, Nat.zero_le _, ⟨fun _ => rfl, fun _ => rfl⟩⟩
      · simp (disch := omega) only [us_ne]
        exact this
    · unfold fL_empty fX5_empty fX3_pourOut
      rw [show fX5_checkIndex (nI t) 4 M = some 0 from C_idx0 (n := 4) (by omega) ht, Option.bind_some, if_pos rfl, hct, if_pos g, if_pos ht, (hc t ht).1]
      rfl
    · intro N hN
      have hM := hN.1.2.2.2.2.2.2.2.2.2.1
      refine ⟨si (si (si (si N 77 43 0) 99 t 0) 101 t 0) 100 t 0, ?_, EM_Kk hN ?_ (fun i h1 h2 => by rw [gi_ne (by omega), gi_ne (by omega), gi_ne (by omega), gi_ne (by omega)]) (fun k hk hk2 => by rw [si_1 (by omega), si_1 (by omega), si_1 (by omega), si_1 hk]) (fun f h => hf f (by omega)), (((Fr.rf.si (by omega)).si (by omega)).si (by omega)).si (by omega), by rw [gi_ne (by omega), gi_ne (by omega), gi_ne (by omega), gi_eq rfl rfl]; rfl⟩
      · unfold fX6_empty
        rw [T_ok ht, Option.bind_some, G_ok, Option.bind_some]
        dsimp only
        simp only [hct, if_pos g]
        rw [if_neg (by decide), gi_ne (by omega), (hM.1 t ht).1]
      · refine ⟨fun t' ht' => ?_, ?_⟩
        · have := hM.1 t' ht'
          unfold HAS TG MXD at *
          by_cases z : t' = t
          · subst z
            simp (disch := omega) only [gi_eq, gi_ne, gi_sr, gr_si, gr_eq, gr_ne, us_eq, us_ne]
            exact ⟨rfl, fun q => absurd rfl q, rfl⟩
          · simp (disch := omega) only [gi_eq, gi_ne, gi_sr, gr_si, gr_eq, gr_ne, us_ne]
            exact this
        · show _ = nI (sm (us (us (us σ 23 t 0) 24 t 0) 25 t 0 26) 0 4)
          rw [hf 26 (by omega), gi_ne (by omega), gi_ne (by omega), gi_ne (by omega), gi_ne (by omega)]
          exact hM.2
theorem W_launch (h : IV σ l d o M) : OK0 fL_launch fX6_launch M := by
  obtain ⟨hW, hC, hE⟩ := id h
  obtain ⟨hA, hWS, hWG, hWT, hWB, hWK, hWC, hWO, hWL, hWU⟩ := id hW
  have b19 : fX6_launch_b19 M = some (si M 77 43 (nI 1)) := by
    unfold fX6_launch_b19 fX6_launch_b20
    rw [G_1, Option.bind_some]
    rfl
  rcases (show OPN σ = 0 ∨ OPN σ = 1 by have := hA.2.2.2.1; omega) with z | z
  · refine E0 h (c := 1) ?_ ?_
    · unfold fL_launch fX5_launch
      rw [hC.1.2.2.1, z, if_pos (show nI 0 = 0 from rfl), Option.bind_some]
      rfl
    · unfold fX6_launch
      rw [hE.1.1.2.1, z, if_pos (show nI 0 = 0 from rfl), b19]
  · by_cases y : PIG σ = 0
    · have hI := hA.2.2.2.2.2.2.2.2.1
      have h40 := hA.2.2.1
      have h360 := hA.2.2.2.2.2.2.2.2.2.2.1
      have o5 := (hWO z).2.2.2.2.1
      have hb2 := (hWB.2 (INL σ) (by omega)).2.1
      obtain ⟨e0, e4, -⟩ := hC.2.2.2.2.2.2.1 (INL σ) (by omega)
      have hl : 0 < LEN σ := by
        have h1 := hA.2.2.2.2.2.2.2.1 z
        have := WF_off hW z (i := 0) (by omega) (j := 0) (by have := (hWS.1 0 (by omega)).1; omega)
        omega
      have hu := hWU z
      have hcod : cod (INL σ) (ENT σ (INL σ) - 1) = INL σ * 512 + (ENT σ (INL σ) - 1) := rfl
      have hf : ∀ f, f ≠ 0 → us σ 0 8 (cod (INL σ) (ENT σ (INL σ) - 1) + 1) f = σ f := fun f h => us_f h
      have h0 : ∀ i, i ≠ 8 → us σ 0 8 (cod (INL σ) (ENT σ (INL σ) - 1) + 1) 0 i = σ 0 i := fun i h => us_ne (by omega)
      refine FZ (σ' := us σ 0 8 (cod (INL σ) (ENT σ (INL σ) - 1) + 1)) hE (EC_pig hC hW.1.1 hW.1.2.2.1 (v := cod (INL σ) (ENT σ (INL σ) - 1) + 1)) (Fr.rf.si (by omega)) (WF_g hW (fun i hi => h0 i (by omega)) (fun f h => hf f (by omega)) ?_ ?_ ?_ ?_ ?_ ?_ ?_ ?_) ?_ ?_
      · intro p hp
        have := hWG p hp
        unfold WEI THK GRD BAR at *
        rw [hf 5 (by omega), hf 6 (by omega), hf 7 (by omega), hf 8 (by omega)]
        exact this
      · unfold WT' at *
        unfold LK LKU DR DRU DRT NS RCV at *
        rw [h0 0 (by omega), h0 9 (by omega), h0 10 (by omega), h0 11 (by omega), h0 12 (by omega), h0 13 (by omega), h0 14 (by omega)]
        exact hWT
      · intro t ht
        have := hWK t ht
        unfold HAS TG at *
        rw [hf 23 (by omega), hf 24 (by omega)]
        exact this
      · unfold PIG
        rw [us_eq rfl rfl, hcod]
        exact ⟨by omega, fun q => by omega⟩
      · unfold RT at *; rw [h0 5 (by omega)]; exact hA.2.2.2.2.1
      · unfold RF at *; rw [h0 6 (by omega)]; exact hA.2.2.2.2.2.1
      · unfold MIN at *; rw [h0 7 (by omega)]; exact hA.2.2.2.2.2.2.1
      · intro i hi
        have := hWS.2 i hi
        exact ⟨by unfold DIR at *; rw [hf 4 (by omega)]; exact this, fun q => by omega⟩
      · unfold fL_launch fX5_launch fX5_unitOf
        rw [hC.1.2.2.1, z, if_neg (show ¬ nI 1 = 0 by decide), hC.1.2.2.2.2.2.2.2.1, y, nO_0, if_pos (show nM = -1 from rfl), hC.1.2.2.2.2.2.2.2.2, Option.bind_some, if_pos (show INL σ < 40 by omega), if_pos (show INL σ < 40 by omega), e0, e4, Lt1, cSub o5, show (512 : Int32) = nI 512 from rfl, cMul, cAdd, Option.bind_some, Option.bind_some, nO_s, hcod]
        rfl
      · intro N hN
        obtain ⟨⟨c1, c2, c3, c4, c5, c6, c7, c8, c9, c10, c11⟩, c0⟩ := hN
        obtain ⟨q1, q2⟩ := c9 z (LEN σ - 1) (by omega)
        rw [hu.2.2.1] at q1
        have q2' : gi N 98 (LEN σ - 1) = nI (ENT σ (INL σ) - 1) := by rw [q2, show UP σ (LEN σ - 1) = ENT σ (INL σ) - 1 by have := hu.2.2.2.1; omega]
        have hr : ∀ k, k ≠ 77 → (si (si (si (si N 77 43 0) 77 39 1) 77 40 (nI (INL σ))) 77 41 (nI (ENT σ (INL σ) - 1))).1 k = N.1 k := fun k hk => by rw [si_1 hk, si_1 hk, si_1 hk, si_1 hk]
        have hs : ∀ j, j < 39 → gi (si (si (si (si N 77 43 0) 77 39 1) 77 40 (nI (INL σ))) 77 41 (nI (ENT σ (INL σ) - 1))) 77 j = gi N 77 j := fun j hj => by rw [gi_ne (by omega), gi_ne (by omega), gi_ne (by omega), gi_ne (by omega)]
        refine ⟨si (si (si (si N 77 43 0) 77 39 1) 77 40 (nI (INL σ))) 77 41 (nI (ENT σ (INL σ) - 1)), ?_, ⟨⟨MP_c (fun j hj => hs j (by omega)) (fun j hj => h0 j (by omega)) c1, MT_c (fun j hj => hs j (by omega)) (fun j hj => h0 j (by omega)) c2, ?_, MS_c (fun k hk => hr k (by omega)) (h0 0 (by omega)) (fun f h => hf f (by omega)) c4, MG_c (fun k hk => hr k (by omega)) (fun f h => hf f (by omega)) c5, MB1_c (fun k hk => hr k (by omega)) (fun f h => hf f (by omega)) c6, MB2_c (fun k hk => hr k (by omega)) (h0 15 (by omega)) (fun f h => hf f (by omega)) c7, MB3_c (fun k hk => hr k (by omega)) (h0 1 (by omega)) (fun f h => hf f (by omega)) c8, MU_c (fun k hk => hr k (by omega)) (h0 2 (by omega)) (h0 15 (by omega)) (fun f h => hf f (by omega)) c9, MK_c (fun k hk => hr k (by omega)) (hs 38 (by omega)) (fun f h => hf f (by omega)) c10, ML_c (hr 102 (by omega)) (hf 27 (by omega)) c11⟩, by rw [hs 0 (by omega), c0]; rfl⟩, (((Fr.rf.si (by omega)).si (by omega)).si (by omega)).si (by omega), by rw [gi_ne (by omega), gi_ne (by omega), gi_ne (by omega), gi_eq rfl rfl]; rfl⟩
        · have g := g6 (show LEN σ - 1 < 360 by omega) (by omega)
          have h7 : gi N 77 7 - 1 = nI (LEN σ - 1) := by rw [c1.2.2.1, Lt1, cSub (by omega)]
          unfold fX6_launch fX6_launch_b20
          rw [c1.2.1, z, if_neg (show ¬ nI 1 = 0 by decide), c3.1, if_pos y, if_pos (show nI 0 = 0 from rfl), G_ok, Option.bind_some]
          dsimp only
          have h7a : gi (si (si N 77 43 0) 77 39 1) 77 7 - 1 = nI (LEN σ - 1) := by rw [gi_ne (by omega), gi_ne (by omega)]; exact h7
          rw [if_neg (by decide), h7a, cCl (show LEN σ - 1 < 2147483648 by omega), if_pos g]
          have h97 : gi (si (si N 77 43 0) 77 39 1) 97 (LEN σ - 1) = nI (INL σ) := by rw [gi_ne (by omega), gi_ne (by omega)]; exact q1
          rw [h97]
          have h7b : gi (si (si (si N 77 43 0) 77 39 1) 77 40 (nI (INL σ))) 77 7 - 1 = nI (LEN σ - 1) := by rw [gi_ne (by omega)]; exact h7a
          rw [h7b, cCl (show LEN σ - 1 < 2147483648 by omega), if_pos g, gi_ne (show ¬ (98 = 77 ∧ LEN σ - 1 = 40) by omega), gi_ne (show ¬ (98 = 77 ∧ LEN σ - 1 = 39) by omega), gi_ne (show ¬ (98 = 77 ∧ LEN σ - 1 = 43) by omega), q2']
        · unfold MQp PIG
          rw [us_eq rfl rfl, gi_ne (by omega), gi_ne (by omega), gi_eq rfl rfl, gi_ne (by omega), gi_eq rfl rfl, gi_eq rfl rfl, if_neg (by omega)]
          refine ⟨rfl, fun _ => ⟨?_, ?_⟩⟩
          · rw [show (cod (INL σ) (ENT σ (INL σ) - 1) + 1 - 1) / 512 = INL σ by omega]
          · rw [show (cod (INL σ) (ENT σ (INL σ) - 1) + 1 - 1) % 512 = ENT σ (INL σ) - 1 by omega]
    · have hp := hA.2.2.2.2.2.2.2.2.2.2.2
      refine E0 h (c := 1) ?_ ?_
      · unfold fL_launch fX5_launch
        rw [hC.1.2.2.1, z, if_neg (show ¬ nI 1 = 0 by decide), hC.1.2.2.2.2.2.2.2.1, nO_p (by omega), if_neg (show ¬ nI (PIG σ - 1) = -1 by rw [show (-1 : Int32) = nM from rfl, cMe (by omega)]; exact fun q => q), Option.bind_some]
        rfl
      · unfold fX6_launch
        rw [hE.1.1.2.1, z, if_neg (show ¬ nI 1 = 0 by decide), hE.1.2.2.1.1, if_neg y, if_neg (show ¬ nI 1 = 0 by decide), b19]
theorem W_pass (h : IV σ l d o M) (x : Int32) : OK1 (fL_pass x) (fX6_pass x) M := by
  obtain ⟨hW, hC, hE⟩ := id h
  have hA := hW.1
  have hmin := hA.2.2.2.2.2.2.1
  have bad : (x < nI 1 ∨ nI 60 < x) → OK1 (fL_pass x) (fX6_pass x) M := fun z => by
    have e : ∀ y, fX6_goes 0 y 1 M = some (0, si M 77 43 1) := fun y => G_1
    refine E1 h (c := 1) (v := 0) (by omega) (by omega) ?_ ?_
    · unfold fL_pass fX5_pass
      rw [show fX5_checkRange x 1 60 M = some 1 from C_rng1 (a := 1) (b := 60) (by omega) (by omega) (by omega) z, Option.bind_some]
      rfl
    · unfold fX6_pass fX6_pass_b31 fX6_pass_b32
      rw [B_no (show x < 1 ∨ 60 < x from z), Option.bind_some, e, e]
      split
      · rfl
      · split
        · rfl
        · rfl
  rcases rng x (a := 1) (b := 60) (by omega) (by omega) with z | z | ⟨j, h1, h2, rfl⟩
  · exact bad (Or.inl z)
  · exact bad (Or.inr z)
  · have cr : fX5_checkRange (nI j) 1 60 M = some 0 := C_rng0 (a := 1) (b := 60) (by omega) (by omega) (by omega)
    have mr : ∀ N, fX6_isBetween (nI j) 1 60 N = some 1 := fun N => B_ok (a := 1) (b := 60) (by omega) (by omega) (by omega)
    rcases (show OPN σ = 0 ∨ OPN σ = 1 by have := hA.2.2.2.1; omega) with z | z
    · refine E1 h (c := 2) (v := 0) (by omega) (by omega) ?_ ?_
      · unfold fL_pass fX5_pass
        rw [cr, Option.bind_some, if_pos rfl, hC.1.2.2.1, z, if_pos (show nI 0 = 0 from rfl), Option.bind_some]
        rfl
      · unfold fX6_pass fX6_pass_b31 fX6_pass_b32
        rw [mr, Option.bind_some, hE.1.1.2.1, z, if_pos (show nI 0 = 0 from rfl), G_2, Option.bind_some]
        rfl
    · by_cases y : MIN σ + j ≤ 9999
      · obtain ⟨M', l', d', o', q1, q2, q3⟩ := C_pass_L j 0 400 j 0 l d o σ M (by omega) (by omega) (by omega) hC hW z y
        obtain ⟨w, -, -, -⟩ := mns_WF j σ 0 hW z y
        refine FO (v := nI (mns j σ 0).2) hE q2 q3 w ?_ ?_
        · unfold fL_pass fX5_pass
          rw [cr, Option.bind_some, if_pos rfl, hC.1.2.2.1, z, if_neg (show ¬ nI 1 = 0 by decide), hC.1.2.2.2.2.2.2.1, cAdd, if_pos (show nI (MIN σ + j) ≤ 9999 by rw [show (9999 : Int32) = nI 9999 from rfl, cLe (by omega) (by omega)]; exact y), Lt0, q1, Option.bind_some]
          rfl
        · intro N hN
          have hN2 := EM_43 hN (x := 0) (j := 43) (by omega)
          obtain ⟨N', r1, r2, r3, r4⟩ := M_pass_L j 0 400 j 0 σ (si N 77 43 0) (by omega) (by omega) (by omega) hN2 hW z y
          refine ⟨N', ?_, r2, Fr.tr (Fr.rf.si (by omega)) r3, ?_⟩
          · unfold fX6_pass fX6_pass_b31 fX6_pass_b32
            rw [mr, Option.bind_some, hN.1.1.2.1, z, if_neg (show ¬ nI 1 = 0 by decide), hN.2, cAdd, if_neg (show ¬ (9999 : Int32) < nI (MIN σ + j) by rw [show (9999 : Int32) = nI 9999 from rfl, cLt (by omega) (by omega)]; omega), G_ok, Option.bind_some]
            dsimp only
            rw [if_neg (by decide), Lt0]
            exact r1
          · rw [r4, gi_eq rfl rfl]; rfl
      · refine E1 h (c := 2) (v := 0) (by omega) (by omega) ?_ ?_
        · unfold fL_pass fX5_pass
          rw [cr, Option.bind_some, if_pos rfl, hC.1.2.2.1, z, if_neg (show ¬ nI 1 = 0 by decide), hC.1.2.2.2.2.2.2.1, cAdd, if_neg (show ¬ nI (MIN σ + j) ≤ 9999 by rw [show (9999 : Int32) = nI 9999 from rfl, cLe (by omega) (by omega)]; exact y), Option.bind_some]
          rfl
        · unfold fX6_pass fX6_pass_b31 fX6_pass_b32
          rw [mr, Option.bind_some, hE.1.1.2.1, z, if_neg (show ¬ nI 1 = 0 by decide), hE.2, cAdd, if_pos (show (9999 : Int32) < nI (MIN σ + j) by rw [show (9999 : Int32) = nI 9999 from rfl, cLt (by omega) (by omega)]; omega), G_2, Option.bind_some]
          rfl
end L72
