/-! PRODUCTS, SEGMENTS, ORDERS: BOTH SIDES -/
section L73
variable {σ σ' : Sp} {M M' : Mm} {l d o l' d' o' : Nat}
theorem isB (x a b : Int32) (M : Mm) : fX6_isBetween x a b M = some 0 ∨ fX6_isBetween x a b M = some 1 := by
  unfold fX6_isBetween
  split
  · exact Or.inl rfl
  · split
    · exact Or.inl rfl
    · exact Or.inr rfl
theorem isin_dec0 : ∀ n, n < 64 → ∀ j, j < 6 → (((ishr (nI n) (nI j)) &&& (1 : Int32)) = 0 ↔ n.testBit j = false) := by decide +kernel
theorem p86_1 {x a b c e y : Int32} : fX6_product_b86 x a b c e 0 y M = some (si M 77 43 (nI 1)) := by
  unfold fX6_product_b86
  rw [G_1, Option.bind_some]
  rfl
theorem p86_2 {x a b c e : Int32} : fX6_product_b86 x a b c e 1 0 M = some (si M 77 43 (nI 2)) := by
  unfold fX6_product_b86
  rw [G_2, Option.bind_some]
  rfl
/-- whatever else is wrong, the index counts first -/
theorem p_idx {x a b c e : Int32} (h : fX6_isProduct x M = some 0) : fX6_product x a b c e M = some (si M 77 43 (nI 1)) := by
  unfold fX6_product
  rw [h, Option.bind_some]
  have k : fX6_product_b52 x a b c e 0 M = some (si M 77 43 (nI 1)) := by
    unfold fX6_product_b52 fX6_product_b53 fX6_product_b85
    rw [if_pos rfl, p86_1]
  rcases isB a 1 10 M with q | q
  · rw [q, Option.bind_some, if_pos rfl, k]
  · rw [q, Option.bind_some, if_neg (by decide)]
    rcases isB b 1 10 M with q | q
    · rw [q, Option.bind_some, if_pos rfl, k]
    · rw [q, Option.bind_some, if_neg (by decide)]
      rcases isB c 0 9 M with q | q
      · rw [q, Option.bind_some, if_pos rfl, k]
      · rw [q, Option.bind_some, if_neg (by decide)]
        rcases isB e 0 63 M with q | q
        · rw [q, Option.bind_some, if_pos rfl, k]
        · rw [q, Option.bind_some, if_neg (by decide)]
          unfold fX6_product_b53 fX6_product_b75 fX6_product_b85
          rw [if_neg (by decide), if_pos rfl, p86_1, p86_1]
          split
          · rfl
          · rfl
theorem p_k {x a b c e : Int32} : fX6_product_b52 x a b c e 1 M = some (si M 77 43 (nI 2)) := by
  unfold fX6_product_b52 fX6_product_b53 fX6_product_b85
  rw [if_pos rfl, p86_2]
/-- the reference's products -/
theorem EM_G (hE : EM σ M) (hG : MG σ' M') (hs : ∀ j, j < 42 → gi M' 77 j = gi M 77 j) (hr : ∀ k, k ≠ 77 → ¬ (82 ≤ k ∧ k ≤ 85) → M'.1 k = M.1 k) (hf : ∀ f, ¬ (5 ≤ f ∧ f ≤ 8) → σ' f = σ f) : EM σ' M' := by
  obtain ⟨⟨c1, c2, c3, c4, c5, c6, c7, c8, c9, c10, c11⟩, c0⟩ := hE
  have h0 : ∀ i, σ' 0 i = σ 0 i := fun i => by rw [hf 0 (by omega)]
  exact ⟨⟨MP_c (fun j hj => hs j (by omega)) (fun j hj => h0 j) c1, MT_c (fun j hj => hs j (by omega)) (fun j hj => h0 j) c2, MQ_c (fun j hj => hs j (by omega)) (h0 8) c3, MS_c (fun k hk => hr k (by omega) (by omega)) (h0 0) (fun f h => hf f (by omega)) c4, hG, MB1_c (fun k hk => hr k (by omega) (by omega)) (fun f h => hf f (by omega)) c6, MB2_c (fun k hk => hr k (by omega) (by omega)) (h0 15) (fun f h => hf f (by omega)) c7, MB3_c (fun k hk => hr k (by omega) (by omega)) (h0 1) (fun f h => hf f (by omega)) c8, MU_c (fun k hk => hr k (by omega) (by omega)) (h0 2) (h0 15) (fun f h => hf f (by omega)) c9, MK_c (fun k hk => hr k (by omega) (by omega)) (hs 38 (by omega)) (fun f h => hf f (by omega)) c10, ML_c (hr 102 (by omega) (by omega)) (hf 27 (by omega)) c11⟩, by rw [hs 0 (by omega), c0]; unfold MIN; rw [h0 7]⟩
theorem W_product (h : IV σ l d o M) (x a b c e : Int32) : OK0 (fL_product x a b c e) (fX6_product x a b c e) M := by
  obtain ⟨hW, hC, hE⟩ := id h
  rcases idx x (n := 6) (by omega) with z | ⟨p, hp, rfl⟩
  · refine E0 h (c := 1) ?_ ?_
    · unfold fL_product fX5_product
      rw [show fX5_checkIndex x 6 M = some 3 from C_idx3 (n := 6) z, Option.bind_some]
      rfl
    · exact p_idx (P_no z)
  · have ci : fX5_checkIndex (nI p) 6 M = some 0 := C_idx0 (n := 6) (by omega) hp
    have badc : fX5_product (nI p) a b c e M = some (1, M) → OK0 (fL_product (nI p) a b c e) (fX6_product (nI p) a b c e) M ∨ fL_product (nI p) a b c e M = some (nI 2, M) := fun q => Or.inr (by
      unfold fL_product
      rw [q, Option.bind_some]
      rfl)
    have mp : fX6_isProduct (nI p) M = some 1 := P_ok hp
    rcases rng a (a := 1) (b := 10) (by omega) (by omega) with z | z | ⟨a', ha1, ha2, rfl⟩
    · exact (badc (by unfold fX5_product; rw [ci, Option.bind_some, if_pos rfl, show fX5_checkRange a 1 10 M = some 1 from C_rng1 (a := 1) (b := 10) (by omega) (by omega) (by omega) (Or.inl z), Option.bind_some]; rfl)).elim id (fun q => E0 h q (by unfold fX6_product; rw [mp, Option.bind_some, B_no (show a < 1 ∨ 10 < a from Or.inl z), Option.bind_some, if_pos rfl, p_k]))
    · exact (badc (by unfold fX5_product; rw [ci, Option.bind_some, if_pos rfl, show fX5_checkRange a 1 10 M = some 1 from C_rng1 (a := 1) (b := 10) (by omega) (by omega) (by omega) (Or.inr z), Option.bind_some]; rfl)).elim id (fun q => E0 h q (by unfold fX6_product; rw [mp, Option.bind_some, B_no (show a < 1 ∨ 10 < a from Or.inr z), Option.bind_some, if_pos rfl, p_k]))
    · have ca : fX5_checkRange (nI a') 1 10 M = some 0 := C_rng0 (a := 1) (b := 10) (by omega) ha1 ha2
      have ma : ∀ N, fX6_isBetween (nI a') 1 10 N = some 1 := fun N => B_ok (a := 1) (b := 10) (by omega) ha1 ha2
      have bb : (b < nI 1 ∨ nI 10 < b) → OK0 (fL_product (nI p) (nI a') b c e) (fX6_product (nI p) (nI a') b c e) M := fun z => (badc (by unfold fX5_product; rw [ci, Option.bind_some, if_pos rfl, ca, Option.bind_some, if_pos rfl, show fX5_checkRange b 1 10 M = some 1 from C_rng1 (a := 1) (b := 10) (by omega) (by omega) (by omega) z, Option.bind_some]; rfl)).elim id (fun q => E0 h q (by unfold fX6_product; rw [mp, Option.bind_some, ma, Option.bind_some, if_neg (by decide), B_no (show b < 1 ∨ 10 < b from z), Option.bind_some, if_pos rfl, p_k]))
      rcases rng b (a := 1) (b := 10) (by omega) (by omega) with z | z | ⟨b', hb1, hb2, rfl⟩
      · exact bb (Or.inl z)
      · exact bb (Or.inr z)
      · have cb : fX5_checkRange (nI b') 1 10 M = some 0 := C_rng0 (a := 1) (b := 10) (by omega) hb1 hb2
        have mb : ∀ N, fX6_isBetween (nI b') 1 10 N = some 1 := fun N => B_ok (a := 1) (b := 10) (by omega) hb1 hb2
        have bc : (c < nI 0 ∨ nI 9 < c) → OK0 (fL_product (nI p) (nI a') (nI b') c e) (fX6_product (nI p) (nI a') (nI b') c e) M := fun z => (badc (by unfold fX5_product; rw [ci, Option.bind_some, if_pos rfl, ca, Option.bind_some, if_pos rfl, cb, Option.bind_some, if_pos rfl, show fX5_checkRange c 0 9 M = some 1 from C_rng1 (a := 0) (b := 9) (by omega) (by omega) (by omega) z, Option.bind_some]; rfl)).elim id (fun q => E0 h q (by unfold fX6_product; rw [mp, Option.bind_some, ma, Option.bind_some, if_neg (by decide), mb, Option.bind_some, if_neg (by decide), B_no (show c < 0 ∨ 9 < c from z), Option.bind_some, if_pos rfl, p_k]))
        rcases rng c (a := 0) (b := 9) (by omega) (by omega) with z | z | ⟨c', hc1, hc2, rfl⟩
        · exact bc (Or.inl z)
        · exact bc (Or.inr z)
        · have cc : fX5_checkRange (nI c') 0 9 M = some 0 := C_rng0 (a := 0) (b := 9) (by omega) hc1 hc2
          have mc : ∀ N, fX6_isBetween (nI c') 0 9 N = some 1 := fun N => B_ok (a := 0) (b := 9) (by omega) hc1 hc2
          have be : (e < nI 0 ∨ nI 63 < e) → OK0 (fL_product (nI p) (nI a') (nI b') (nI c') e) (fX6_product (nI p) (nI a') (nI b') (nI c') e) M := fun z => (badc (by unfold fX5_product; rw [ci, Option.bind_some, if_pos rfl, ca, Option.bind_some, if_pos rfl, cb, Option.bind_some, if_pos rfl, cc, Option.bind_some, if_pos rfl, show fX5_checkRange e 0 63 M = some 1 from C_rng1 (a := 0) (b := 63) (by omega) (by omega) (by omega) z, Option.bind_some]; rfl)).elim id (fun q => E0 h q (by unfold fX6_product; rw [mp, Option.bind_some, ma, Option.bind_some, if_neg (by decide), mb, Option.bind_some, if_neg (by decide), mc, Option.bind_some, if_neg (by decide), B_no (show e < 0 ∨ 63 < e from z), Option.bind_some, if_pos rfl, p_k]))
          rcases rng e (a := 0) (b := 63) (by omega) (by omega) with z | z | ⟨e', he1, he2, rfl⟩
          · exact be (Or.inl z)
          · exact be (Or.inr z)
          · have ce : fX5_checkRange (nI e') 0 63 M = some 0 := C_rng0 (a := 0) (b := 63) (by omega) he1 he2
            have me : ∀ N, fX6_isBetween (nI e') 0 63 N = some 1 := fun N => B_ok (a := 0) (b := 63) (by omega) he1 he2
            have hct : (nI p).toNatClampNeg = p := cCl (by omega)
            have g := g6 hp (by omega)
            have cpre : fX5_product (nI p) (nI a') (nI b') (nI c') (nI e') M = (if e'.testBit p = false then some (0, si (si (si (si M (27 + p) 1 (nI a')) (27 + p) 2 (nI b')) (27 + p) 3 (nI c')) (27 + p) 4 (nI e')) else some (1, M)) := by
              have hbz := bit_z (n := e') (j := p) (by omega) hp
              unfold fX5_product fX1_tell
              rw [ci, Option.bind_some, if_pos rfl, ca, Option.bind_some, if_pos rfl, cb, Option.bind_some, if_pos rfl, cc, Option.bind_some, if_pos rfl, ce, Option.bind_some, if_pos rfl, hct, if_pos g, if_pos hp]
              by_cases z : e'.testBit p = false
              · rw [if_pos z, if_pos (show (nI e' &&& ishl 1 (nI p)) = 0 from (cast hbz.symm z)), Option.bind_some]
              · rw [if_neg z, if_neg (show ¬ (nI e' &&& ishl 1 (nI p)) = 0 from fun q => z (cast hbz q))]
            have mpre : ∀ N, fX6_product (nI p) (nI a') (nI b') (nI c') (nI e') N = (if e'.testBit p = false then some (si (si (si (si (si N 77 43 0) 82 p (nI a')) 83 p (nI b')) 84 p (nI c')) 85 p (nI e')) else some (si N 77 43 (nI 2))) := by
              intro N
              have hbz := isin_dec0 e' (by omega) p hp
              unfold fX6_product
              rw [P_ok hp, Option.bind_some, ma, Option.bind_some, if_neg (by decide), mb, Option.bind_some, if_neg (by decide), mc, Option.bind_some, if_neg (by decide), me, Option.bind_some, if_neg (by decide)]
              unfold fX6_product_b53 fX6_product_b75
              rw [if_neg (by decide), if_neg (by decide)]
              by_cases z : e'.testBit p = false
              · rw [if_pos z, if_pos (hbz.mpr z)]
                unfold fX6_product_b86
                rw [G_ok, Option.bind_some]
                dsimp only
                simp only [hct, if_pos g]
                rw [if_neg (by decide)]
              · rw [if_neg z, if_neg (fun q => z (hbz.mp q))]
                unfold fX6_product_b85
                exact p86_2
            by_cases z : e'.testBit p = false
            · rw [if_pos z] at cpre
              have hf : ∀ f, ¬ (5 ≤ f ∧ f ≤ 8) → us (us (us (us σ 5 p a') 6 p b') 7 p c') 8 p e' f = σ f := fun f h => by rw [us_f (by omega), us_f (by omega), us_f (by omega), us_f (by omega)]
              refine FZ (σ' := us (us (us (us σ 5 p a') 6 p b') 7 p c') 8 p e') hE (EC_G (M' := si (si (si (si M (27 + p) 1 (nI a')) (27 + p) 2 (nI b')) (27 + p) 3 (nI c')) (27 + p) 4 (nI e')) hC hW.1.1 hW.1.2.2.1 ?_ ((((Fr.rf.si (by omega)).si (by omega)).si (by omega)).si (by omega)) (fun f h => hf f (by omega))) ((((Fr.rf.si (by omega)).si (by omega)).si (by omega)).si (by omega)) (WF_K hW ?_ ?_ (fun f h1 h2 => hf f h1)) ?_ ?_
              · intro q hq
                have := hC.2.2.2.2.2.1 q hq
                unfold WEI THK GRD BAR at *
                by_cases y : q = p
                · subst y
                  simp (disch := omega) only [gi_eq, gi_ne, gi_sr, gr_si, gr_eq, gr_ne, us_eq, us_ne]
                  exact ⟨this.1, trivial, trivial, trivial, trivial⟩
                · simp (disch := omega) only [gi_eq, gi_ne, gi_sr, gr_si, gr_eq, gr_ne, us_ne]
                  exact this
              · intro q hq
                have := hW.2.2.1 q hq
                unfold WEI THK GRD BAR at *
                by_cases y : q = p
                · subst y
                  simp (disch := omega) only [us_eq, us_ne]
                  exact ⟨ha1, ha2, hb1, hb2, hc2, he2⟩
                · simp (disch := omega) only [us_ne]
                  exact this
              · intro t ht
                have := hW.2.2.2.2.2.1 t ht
                unfold HAS TG at *
                rw [hf 23 (by omega), hf 24 (by omega)]
                exact this
              · unfold fL_product
                rw [cpre, Option.bind_some]
                rfl
              · intro N hN
                refine ⟨_, by rw [mpre, if_pos z], EM_G hN ?_ (fun i h1 => by rw [gi_ne (by omega), gi_ne (by omega), gi_ne (by omega), gi_ne (by omega), gi_ne (by omega)]) (fun k hk hk2 => by rw [si_1 (by omega), si_1 (by omega), si_1 (by omega), si_1 (by omega), si_1 hk]) hf, ((((Fr.rf.si (by omega)).si (by omega)).si (by omega)).si (by omega)).si (by omega), by rw [gi_ne (by omega), gi_ne (by omega), gi_ne (by omega), gi_ne (by omega), gi_eq rfl rfl]; rfl⟩
                intro q hq
                have := hN.1.2.2.2.2.1 q hq
                unfold WEI THK GRD BAR at *
                by_cases y : q = p
                · subst y
                  simp (disch := omega) only [gi_eq, gi_ne, gi_sr, gr_si, gr_eq, gr_ne, us_eq, us_ne]
                  exact ⟨trivial, trivial, trivial, trivial⟩
                · simp (disch := omega) only [gi_eq, gi_ne, gi_sr, gr_si, gr_eq, gr_ne, us_ne]
                  exact this
            · rw [if_neg z] at cpre
              exact (badc cpre).elim id (fun q => E0 h q (by rw [mpre, if_neg z]))
theorem WF_closed (h0 : OPN σ = 0) (a : WA σ) (b : WS σ) (c : WG σ) (d : WT' σ) (e : WB σ) (f : WK σ) (g : WC σ) : WF σ := ⟨a, b, c, d, e, f, g, fun z => by omega, fun z => by omega, fun z => by omega⟩
theorem W_segment (h : IV σ l d o M) (x y w : Int32) : OK1 (fL_segment x y w) (fX6_segment x y w) M := by
  obtain ⟨hW, hC, hE⟩ := id h
  obtain ⟨hA, hWS, hWG, hWT, hWB, hWK, hWC, -⟩ := id hW
  have k37 : fX6_segment_b37 x y w M = some (0, si M 77 43 (nI 1)) := by
    unfold fX6_segment_b37 fX6_segment_b38 fX6_segment_b58 fX6_segment_b59
    rw [G_1, G_1, Option.bind_some]
    split
    · rfl
    · split
      · rfl
      · rfl
  have bad : fX5_segment x y w M = some (1, 0, M) → fX6_segment x y w M = fX6_segment_b37 x y w M → OK1 (fL_segment x y w) (fX6_segment x y w) M := fun q1 q2 => by
    refine E1 h (c := 1) (v := 0) (by omega) (by omega) ?_ (by rw [q2, k37])
    unfold fL_segment
    rw [q1, Option.bind_some]
    rfl
  have bx : (x < nI 5 ∨ nI 60 < x) → OK1 (fL_segment x y w) (fX6_segment x y w) M := fun z => bad (by unfold fX5_segment; rw [show fX5_checkRange x 5 60 M = some 1 from C_rng1 (a := 5) (b := 60) (by omega) (by omega) (by omega) z, Option.bind_some]; rfl) (by unfold fX6_segment; rw [B_no (show x < 5 ∨ 60 < x from z), Option.bind_some, if_pos rfl])
  rcases rng x (a := 5) (b := 60) (by omega) (by omega) with z | z | ⟨x', hx1, hx2, rfl⟩
  · exact bx (Or.inl z)
  · exact bx (Or.inr z)
  · have cx : fX5_checkRange (nI x') 5 60 M = some 0 := C_rng0 (a := 5) (b := 60) (by omega) hx1 hx2
    have mx : ∀ N, fX6_isBetween (nI x') 5 60 N = some 1 := fun N => B_ok (a := 5) (b := 60) (by omega) hx1 hx2
    have bY : (y < nI 0 ∨ nI 50 < y) → OK1 (fL_segment (nI x') y w) (fX6_segment (nI x') y w) M := fun z => bad (by unfold fX5_segment; rw [cx, Option.bind_some, if_pos rfl, show fX5_checkRange y 0 50 M = some 1 from C_rng1 (a := 0) (b := 50) (by omega) (by omega) (by omega) z, Option.bind_some]; rfl) (by unfold fX6_segment; rw [mx, Option.bind_some, if_neg (by decide), B_no (show y < 0 ∨ 50 < y from z), Option.bind_some, if_pos rfl])
    rcases rng y (a := 0) (b := 50) (by omega) (by omega) with z | z | ⟨y', hy1, hy2, rfl⟩
    · exact bY (Or.inl z)
    · exact bY (Or.inr z)
    · have cy : fX5_checkRange (nI y') 0 50 M = some 0 := C_rng0 (a := 0) (b := 50) (by omega) hy1 hy2
      have my : ∀ N, fX6_isBetween (nI y') 0 50 N = some 1 := fun N => B_ok (a := 0) (b := 50) (by omega) hy1 hy2
      have bw : (w < nI 10 ∨ nI 500 < w) → OK1 (fL_segment (nI x') (nI y') w) (fX6_segment (nI x') (nI y') w) M := fun z => bad (by unfold fX5_segment; rw [cx, Option.bind_some, if_pos rfl, cy, Option.bind_some, if_pos rfl, show fX5_checkRange w 10 500 M = some 1 from C_rng1 (a := 10) (b := 500) (by omega) (by omega) (by omega) z, Option.bind_some]; rfl) (by unfold fX6_segment; rw [mx, Option.bind_some, if_neg (by decide), my, Option.bind_some, if_neg (by decide), B_no (show w < 10 ∨ 500 < w from z), Option.bind_some, if_pos rfl])
      rcases rng w (a := 10) (b := 500) (by omega) (by omega) with z | z | ⟨w', hw1, hw2, rfl⟩
      · exact bw (Or.inl z)
      · exact bw (Or.inr z)
      · have cw : fX5_checkRange (nI w') 10 500 M = some 0 := C_rng0 (a := 10) (b := 500) (by omega) hw1 hw2
        have mw : ∀ N, fX6_isBetween (nI w') 10 500 N = some 1 := fun N => B_ok (a := 10) (b := 500) (by omega) hw1 hw2
        have cpre : fX5_segment (nI x') (nI y') (nI w') M = (if gi M 0 10 = 0 then (if gi M 0 8 < 6 then (if ¬ (gi M 0 8 < 0 ∨ 6 ≤ (gi M 0 8).toNatClampNeg) then ((fX2_tell ((gi M 0 8).toNatClampNeg) (nI x') (nI y') (nI w') M).bind fun o7 => some (0, (gi (si o7 0 8 ((gi o7 0 8) + 1)) 0 8) - 1, si o7 0 8 ((gi o7 0 8) + 1))) else none) else some (2, 0, M)) else some (2, 0, M)) := by
          unfold fX5_segment
          rw [cx, Option.bind_some, if_pos rfl, cy, Option.bind_some, if_pos rfl, cw, Option.bind_some, if_pos rfl]
        have mpre : ∀ N, fX6_segment (nI x') (nI y') (nI w') N = fX6_segment_b38 (nI x') (nI y') (nI w') 1 N := fun N => by
          unfold fX6_segment
          rw [mx, Option.bind_some, if_neg (by decide), my, Option.bind_some, if_neg (by decide), mw, Option.bind_some, if_neg (by decide)]
        have k58 : fX6_segment_b58 (nI x') (nI y') (nI w') 1 M = some (0, si M 77 43 (nI 2)) := by
          unfold fX6_segment_b58 fX6_segment_b59
          rw [G_2, Option.bind_some]
          rfl
        have isE : fX5_segment (nI x') (nI y') (nI w') M = some (2, 0, M) → fX6_segment_b38 (nI x') (nI y') (nI w') 1 M = fX6_segment_b58 (nI x') (nI y') (nI w') 1 M → OK1 (fL_segment (nI x') (nI y') (nI w')) (fX6_segment (nI x') (nI y') (nI w')) M := fun q1 q2 => by
          refine E1 h (c := 2) (v := 0) (by omega) (by omega) ?_ (by rw [mpre, q2, k58])
          unfold fL_segment
          rw [q1, Option.bind_some]
          rfl
        rw [hC.1.1, hC.1.2.2.1] at cpre
        have m38 : ∀ N, gi N 77 1 = nI (NS σ) → gi N 77 6 = nI (OPN σ) → fX6_segment_b38 (nI x') (nI y') (nI w') 1 N = (if 6 ≤ nI (NS σ) then fX6_segment_b58 (nI x') (nI y') (nI w') 1 N else (if nI (OPN σ) = 0 then fX6_segment_b59 (nI x') (nI y') (nI w') 1 1 N else fX6_segment_b58 (nI x') (nI y') (nI w') 1 N)) := fun N e1 e2 => by
          unfold fX6_segment_b38
          rw [e1, e2]
        have h6 := hA.1
        rcases (show OPN σ = 0 ∨ OPN σ = 1 by have := hA.2.2.2.1; omega) with z | z
        · by_cases y6 : NS σ < 6
          · have g := g6 y6 (by omega)
            rw [z, if_pos (show nI 0 = 0 from rfl), if_pos (show nI (NS σ) < 6 by rw [show (6 : Int32) = nI 6 from rfl, cLt (by omega) (by omega)]; exact y6), cCl (show NS σ < 2147483648 by omega), if_pos g] at cpre
            unfold fX2_tell at cpre
            rw [if_pos y6, Option.bind_some, gi_ne (show ¬ (0 = 9 + 3 * NS σ ∧ 8 = 5) by omega), gi_ne (show ¬ (0 = 9 + 3 * NS σ ∧ 8 = 4) by omega), gi_ne (show ¬ (0 = 9 + 3 * NS σ ∧ 8 = 3) by omega), hC.1.1, Lt1, cAdd, gi_eq rfl rfl, cSub (show 1 ≤ NS σ + 1 by omega), show NS σ + 1 - 1 = NS σ by omega] at cpre
            have hf : ∀ f, f ≠ 0 → f ≠ 1 → f ≠ 2 → f ≠ 3 → us (us (us (us σ 1 (NS σ) x') 2 (NS σ) y') 3 (NS σ) w') 0 0 (NS σ + 1) f = σ f := fun f h1 h2 h3 h4 => by rw [us_f h1, us_f h4, us_f h3, us_f h2]
            have h0 : ∀ i, i ≠ 0 → us (us (us (us σ 1 (NS σ) x') 2 (NS σ) y') 3 (NS σ) w') 0 0 (NS σ + 1) 0 i = σ 0 i := fun i h1 => by rw [us_ne (by omega), us_f (by omega), us_f (by omega), us_f (by omega)]
            have hr1 : ∀ k, k ≠ 0 → k ≠ 9 + 3 * NS σ → (si (si (si (si M (9 + 3 * NS σ) 3 (nI x')) (9 + 3 * NS σ) 4 (nI y')) (9 + 3 * NS σ) 5 (nI w')) 0 8 (nI (NS σ + 1))).1 k = M.1 k := fun k h1 h2 => by rw [si_1 h1, si_1 h2, si_1 h2, si_1 h2]
            obtain ⟨c1, c2, c3, c4, c5, c6, c7, c8, c9, c10, c11⟩ := id hC
            have hN1 : NS (us (us (us (us σ 1 (NS σ) x') 2 (NS σ) y') 3 (NS σ) w') 0 0 (NS σ + 1)) = NS σ + 1 := us_eq rfl rfl
            have hO : OPN (us (us (us (us σ 1 (NS σ) x') 2 (NS σ) y') 3 (NS σ) w') 0 0 (NS σ + 1)) = 0 := (h0 2 (by omega)).trans z
            have hc := hWC z
            refine FO (v := nI (NS σ)) (σ' := us (us (us (us σ 1 (NS σ) x') 2 (NS σ) y') 3 (NS σ) w') 0 0 (NS σ + 1)) (M1 := si (si (si (si M (9 + 3 * NS σ) 3 (nI x')) (9 + 3 * NS σ) 4 (nI y')) (9 + 3 * NS σ) 5 (nI w')) 0 8 (nI (NS σ + 1))) (l' := l) (d' := d) (o' := o) hE ⟨?_, ?_, ?_, fun q => by omega, fun i hi p hp => ?_, EG_c (fun i hi => hr1 _ (by omega) (by omega)) (hf 5 (by omega) (by omega) (by omega) (by omega)) (hf 6 (by omega) (by omega) (by omega) (by omega)) (hf 7 (by omega) (by omega) (by omega) (by omega)) (hf 8 (by omega) (by omega) (by omega) (by omega)) c6, EB1_c (fun i hi => hr1 _ (by omega) (by omega)) (hf 12 (by omega) (by omega) (by omega) (by omega)) (hf 13 (by omega) (by omega) (by omega) (by omega)) (hf 14 (by omega) (by omega) (by omega) (by omega)) (hf 15 (by omega) (by omega) (by omega) (by omega)) (hf 19 (by omega) (by omega) (by omega) (by omega)) c7, EB2_c (fun i hi => ⟨hr1 _ (by omega) (by omega), rfl⟩) (h0 4 (by omega)) (hf 10 (by omega) (by omega) (by omega) (by omega)) (hf 16 (by omega) (by omega) (by omega) (by omega)) (hf 17 (by omega) (by omega) (by omega) (by omega)) (hf 18 (by omega) (by omega) (by omega) (by omega)) (hf 19 (by omega) (by omega) (by omega) (by omega)) (hf 20 (by omega) (by omega) (by omega) (by omega)) c8, EB3_c (fun i hi => ⟨hr1 _ (by omega) (by omega), rfl⟩) hW.1.2.2.1 (h0 1 (by omega)) (hf 9 (by omega) (by omega) (by omega) (by omega)) (hf 10 (by omega) (by omega) (by omega) (by omega)) (hf 11 (by omega) (by omega) (by omega) (by omega)) c9, EK_c (fun t ht => hr1 _ (by omega) (by omega)) (hf 23 (by omega) (by omega) (by omega) (by omega)) (hf 24 (by omega) (by omega) (by omega) (by omega)) (hf 25 (by omega) (by omega) (by omega) (by omega)) (hf 26 (by omega) (by omega) (by omega) (by omega)) c10, EL_c (hr1 5 (by omega) (by omega)) (hf 27 (by omega) (by omega) (by omega) (by omega)) c11⟩ ((((Fr.rf.si (by omega)).si (by omega)).si (by omega)).si (by omega)) (WF_closed hO ?_ ?_ ?_ ?_ ?_ ?_ ?_) ?_ ?_
            · obtain ⟨p1, p2, p3, p4, p5, p6, p7, p8, p9⟩ := c1
              unfold EP
              rw [hN1]
              unfold NB OPN ALL RT RF MIN PIG INL at *
              rw [h0 1 (by omega), h0 2 (by omega), h0 3 (by omega), h0 4 (by omega), h0 5 (by omega), h0 6 (by omega), h0 7 (by omega), h0 8 (by omega)]
              simp (disch := omega) only [gi_eq, gi_ne, gi_sr, gr_si, gr_eq, gr_ne]
              exact ⟨trivial, p2, p3, p4, p5, p6, p7, p8, p9⟩
            · obtain ⟨t1, t2, t3, t4, t5, t6, t7, t8, t9, t10⟩ := c2
              have q : ∀ t, t < 3 → ∀ j, gi (si (si (si (si M (9 + 3 * NS σ) 3 (nI x')) (9 + 3 * NS σ) 4 (nI y')) (9 + 3 * NS σ) 5 (nI w')) 0 8 (nI (NS σ + 1))) (6 + t) j = gi M (6 + t) j := fun t ht j => gi_1 (hr1 _ (by omega) (by omega)) j
              refine ⟨?_, ?_, ?_, ?_, ?_, ?_, ?_, fun w => by omega, ?_, ?_⟩
              · rw [q 0 (by omega), t1]; unfold LK; rw [h0 9 (by omega)]
              · rw [q 0 (by omega), t2]; unfold LKU; rw [h0 10 (by omega)]
              · rw [q 0 (by omega), t3]
              · rw [q 1 (by omega), t4]; unfold DR; rw [h0 11 (by omega)]
              · rw [q 1 (by omega), t5]; unfold DRU; rw [h0 12 (by omega)]
              · rw [q 1 (by omega), t6]; unfold DRT; rw [h0 13 (by omega)]
              · rw [q 1 (by omega), t7]
              · rw [q 2 (by omega), t9]; unfold RCV; rw [h0 14 (by omega)]
              · rw [q 2 (by omega), t10]
            · intro i hi
              have := c3 i hi
              rw [hN1]
              unfold HOL HEI LIM DIR LA at *
              rw [hf 4 (by omega) (by omega) (by omega) (by omega), hf 28 (by omega) (by omega) (by omega) (by omega)]
              by_cases q : i = NS σ
              · subst q
                simp (disch := omega) only [gi_eq, gi_ne, gi_sr, gr_si, gr_eq, gr_ne, us_eq, us_ne]
                exact ⟨fun _ => ⟨trivial, trivial, trivial⟩, this.2⟩
              · simp (disch := omega) only [gi_eq, gi_ne, gi_sr, gr_si, gr_eq, gr_ne, us_ne]
                exact ⟨fun hh => this.1 (by omega), this.2⟩
            · rw [hO, if_neg (by omega), gi_1 (hr1 _ (by omega) (by omega)), c5 i hi p hp, z, if_neg (by omega)]
            · obtain ⟨a1, a2, a3, a4, a5, a6, a7, a8, a9, a10, a11, a12⟩ := hA
              unfold WA
              rw [hN1, hO]
              unfold NB RT RF MIN INL ALL LEN PIG at *
              rw [h0 1 (by omega), h0 3 (by omega), h0 4 (by omega), h0 5 (by omega), h0 6 (by omega), h0 7 (by omega), h0 8 (by omega), h0 15 (by omega)]
              exact ⟨by omega, a2, a3, by omega, a5, a6, a7, fun q => by omega, a9, a10, a11, a12⟩
            · unfold WS
              rw [hN1]
              refine ⟨fun i hi => ?_, fun i hi => ?_⟩
              · have hla := (hc.2.2.2.2.2.1 i (by omega)).1
                have hwi := hWS.1 i
                unfold HOL HEI LIM LA at *
                rw [hf 28 (by omega) (by omega) (by omega) (by omega)]
                by_cases q : i = NS σ
                · subst q
                  simp (disch := omega) only [us_eq, us_ne]
                  exact ⟨hx1, hx2, hy2, hw1, hw2, by omega⟩
                · simp (disch := omega) only [us_ne]
                  exact hwi (by omega)
              · have := hWS.2 i hi
                unfold DIR at *
                rw [hf 4 (by omega) (by omega) (by omega) (by omega)]
                exact this
            · unfold WG WEI THK GRD BAR at *
              rw [hf 5 (by omega) (by omega) (by omega) (by omega), hf 6 (by omega) (by omega) (by omega) (by omega), hf 7 (by omega) (by omega) (by omega) (by omega), hf 8 (by omega) (by omega) (by omega) (by omega)]
              exact hWG
            · obtain ⟨b1, b2, b3, b4, b5, b6⟩ := hWT
              unfold WT'
              rw [hN1]
              unfold LK LKU DR DRU DRT RCV at *
              rw [h0 9 (by omega), h0 10 (by omega), h0 11 (by omega), h0 12 (by omega), h0 13 (by omega), h0 14 (by omega)]
              exact ⟨fun q => by have := b1 q; omega, b2, fun q => by have := b3 q; omega, b4, b5, b6⟩
            · unfold WB NB ALL PRD ENT ORD SHP LEF DRO LEA EBF KEP FG at *
              rw [h0 1 (by omega), h0 4 (by omega), hf 9 (by omega) (by omega) (by omega) (by omega), hf 10 (by omega) (by omega) (by omega) (by omega), hf 11 (by omega) (by omega) (by omega) (by omega), hf 12 (by omega) (by omega) (by omega) (by omega), hf 13 (by omega) (by omega) (by omega) (by omega), hf 14 (by omega) (by omega) (by omega) (by omega), hf 15 (by omega) (by omega) (by omega) (by omega), hf 18 (by omega) (by omega) (by omega) (by omega), hf 19 (by omega) (by omega) (by omega) (by omega), hf 20 (by omega) (by omega) (by omega) (by omega)]
              exact hWB
            · unfold WK HAS TG at *
              rw [hf 23 (by omega) (by omega) (by omega) (by omega), hf 24 (by omega) (by omega) (by omega) (by omega)]
              exact hWK
            · intro _
              unfold ALL PIG INL LEN ENT AHD BHD FG LA DIR ORD at *
              rw [h0 4 (by omega), h0 8 (by omega), h0 3 (by omega), h0 15 (by omega), hf 12 (by omega) (by omega) (by omega) (by omega), hf 16 (by omega) (by omega) (by omega) (by omega), hf 17 (by omega) (by omega) (by omega) (by omega), hf 19 (by omega) (by omega) (by omega) (by omega), hf 28 (by omega) (by omega) (by omega) (by omega), hf 4 (by omega) (by omega) (by omega) (by omega), hf 11 (by omega) (by omega) (by omega) (by omega)]
              exact hc
            · unfold fL_segment
              rw [cpre, Option.bind_some]
              rfl
            · intro N hN
              obtain ⟨⟨m1', m2', m3', m4', m5', m6', m7', m8', m9', m10', m11'⟩, m0'⟩ := id hN
              have hr : ∀ k, k ≠ 77 → ¬ (78 ≤ k ∧ k ≤ 80) → (si (si (si (si (si N 77 43 0) 78 (NS σ) (nI x')) 79 (NS σ) (nI y')) 80 (NS σ) (nI w')) 77 1 (nI (NS σ + 1))).1 k = N.1 k := fun k h1 h2 => by rw [si_1 h1, si_1 (by omega), si_1 (by omega), si_1 (by omega), si_1 h1]
              have hs : ∀ j, j ≠ 1 → j < 42 → gi (si (si (si (si (si N 77 43 0) 78 (NS σ) (nI x')) 79 (NS σ) (nI y')) 80 (NS σ) (nI w')) 77 1 (nI (NS σ + 1))) 77 j = gi N 77 j := fun j h1 h2 => by rw [gi_ne (by omega), gi_ne (by omega), gi_ne (by omega), gi_ne (by omega), gi_ne (by omega)]
              refine ⟨si (si (si (si (si N 77 43 0) 78 (NS σ) (nI x')) 79 (NS σ) (nI y')) 80 (NS σ) (nI w')) 77 1 (nI (NS σ + 1)), ?_, ⟨⟨?_, MT_c (fun j hj => hs j (by omega) (by omega)) (fun j hj => h0 j (by omega)) m2', MQ_c (fun j hj => hs j (by omega) (by omega)) (h0 8 (by omega)) m3', ?_, MG_c (fun k hk => hr k (by omega) (by omega)) (fun f h => hf f (by omega) (by omega) (by omega) (by omega)) m5', MB1_c (fun k hk => hr k (by omega) (by omega)) (fun f h => hf f (by omega) (by omega) (by omega) (by omega)) m6', MB2_c (fun k hk => hr k (by omega) (by omega)) (h0 15 (by omega)) (fun f h => hf f (by omega) (by omega) (by omega) (by omega)) m7', MB3_c (fun k hk => hr k (by omega) (by omega)) (h0 1 (by omega)) (fun f h => hf f (by omega) (by omega) (by omega) (by omega)) m8', MU_c (fun k hk => hr k (by omega) (by omega)) (h0 2 (by omega)) (h0 15 (by omega)) (fun f h => hf f (by omega) (by omega) (by omega) (by omega)) m9', MK_c (fun k hk => hr k (by omega) (by omega)) (hs 38 (by omega) (by omega)) (fun f h => hf f (by omega) (by omega) (by omega) (by omega)) m10', ML_c (hr 102 (by omega) (by omega)) (hf 27 (by omega) (by omega) (by omega) (by omega)) m11'⟩, by rw [hs 0 (by omega) (by omega), m0']; unfold MIN; rw [h0 7 (by omega)]⟩, ((((Fr.rf.si (by omega)).si (by omega)).si (by omega)).si (by omega)).si (by omega), by rw [gi_ne (by omega), gi_ne (by omega), gi_ne (by omega), gi_ne (by omega), gi_eq rfl rfl]; rfl⟩
              · rw [mpre, m38 N m1'.1 m1'.2.1, z, if_neg (show ¬ (6 : Int32) ≤ nI (NS σ) by rw [show (6 : Int32) = nI 6 from rfl, cLe (by omega) (by omega)]; omega), if_pos (show nI 0 = 0 from rfl)]
                unfold fX6_segment_b59
                rw [G_ok, Option.bind_some]
                dsimp only
                have n1 : gi (si N 77 43 0) 77 1 = nI (NS σ) := by rw [gi_ne (by omega)]; exact m1'.1
                have n2 : gi (si (si N 77 43 0) 78 (NS σ) (nI x')) 77 1 = nI (NS σ) := by rw [gi_ne (by omega)]; exact n1
                have n3 : gi (si (si (si N 77 43 0) 78 (NS σ) (nI x')) 79 (NS σ) (nI y')) 77 1 = nI (NS σ) := by rw [gi_ne (by omega)]; exact n2
                have n4 : gi (si (si (si (si N 77 43 0) 78 (NS σ) (nI x')) 79 (NS σ) (nI y')) 80 (NS σ) (nI w')) 77 1 = nI (NS σ) := by rw [gi_ne (by omega)]; exact n3
                have hcn : (nI (NS σ)).toNatClampNeg = NS σ := cCl (by omega)
                simp only [n1, hcn, n2, n3, n4, if_pos g]
                rw [if_neg (by decide), Lt1, cAdd, gi_eq rfl rfl, cSub (show 1 ≤ NS σ + 1 by omega), show NS σ + 1 - 1 = NS σ by omega]
              · obtain ⟨p1, p2, p3, p4, p5, p6, p7⟩ := m1'
                unfold MP
                rw [hN1, gi_eq rfl rfl, hs 6 (by omega) (by omega), hs 7 (by omega) (by omega), hs 12 (by omega) (by omega), hs 24 (by omega) (by omega), hs 27 (by omega) (by omega), hs 28 (by omega) (by omega)]
                unfold OPN LEN NB ALL RT RF at *
                rw [h0 2 (by omega), h0 15 (by omega), h0 1 (by omega), h0 4 (by omega), h0 5 (by omega), h0 6 (by omega)]
                exact ⟨rfl, p2, p3, p4, p5, p6, p7⟩
              · intro i hi
                have := m4' i hi
                rw [hN1]
                unfold HOL HEI LIM DIR at *
                rw [hf 4 (by omega) (by omega) (by omega) (by omega), gi_1 (hr 81 (by omega) (by omega))]
                by_cases q : i = NS σ
                · subst q
                  simp (disch := omega) only [gi_eq, gi_ne, gi_sr, gr_si, gr_eq, gr_ne, us_eq, us_ne]
                  exact ⟨fun _ => ⟨trivial, trivial, trivial⟩, this.2⟩
                · simp (disch := omega) only [gi_eq, gi_ne, gi_sr, gr_si, gr_eq, gr_ne, us_ne]
                  exact ⟨fun hh => this.1 (by omega), this.2⟩
          · refine isE ?_ ?_
            · rw [cpre, z, if_pos (show nI 0 = 0 from rfl), if_neg (show ¬ nI (NS σ) < 6 by rw [show (6 : Int32) = nI 6 from rfl, cLt (by omega) (by omega)]; exact y6)]
            · rw [m38 M hE.1.1.1 hE.1.1.2.1, if_pos (show (6 : Int32) ≤ nI (NS σ) by rw [show (6 : Int32) = nI 6 from rfl, cLe (by omega) (by omega)]; omega)]
        · refine isE ?_ ?_
          · rw [cpre, z, if_neg (show ¬ nI 1 = 0 by decide)]
          · rw [m38 M hE.1.1.1 hE.1.1.2.1, z, if_neg (show ¬ nI 1 = 0 by decide)]
            split
            · rfl
            · rfl
end L73
