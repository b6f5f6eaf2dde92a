/-! SEGMENTS TOLD, THE PIPE OPENED, ON THE CLASS ALONE -/
section Q73
variable {σ σ' : Sp} {M M' M1 : Mm} {l d o l' d' o' s b m len : Nat}
/-- the pipe closed, with k segments that hold len in all -/
def SC (σ : Sp) (k len : Nat) (M : Mm) : Prop := ∃ l d o, WF σ ∧ EC σ l d o M ∧ KP σ ∧ OPN σ = 0 ∧ NS σ = k ∧ NB σ = 1 ∧ MIN σ = 0 ∧ sm (HOL σ) 0 k = len
def sgm (σ : Sp) (x y w : Nat) : Sp := us (us (us (us σ 1 (NS σ) x) 2 (NS σ) y) 3 (NS σ) w) 0 0 (NS σ + 1)
theorem sgm_all {x' y' w' : Nat} (hW : WF σ) (hC : EC σ l d o M) (z : OPN σ = 0) (y6 : NS σ < 6) (hx1 : 5 ≤ x') (hx2 : x' ≤ 60) (hy2 : y' ≤ 50) (hw1 : 10 ≤ w') (hw2 : w' ≤ 500) : EC (sgm σ x' y' w') l d o (si (si (si (si M (9 + 3 * NS σ) 3 (nI x')) (9 + 3 * NS σ) 4 (nI y')) (9 + 3 * NS σ) 5 (nI w')) 0 8 (nI (NS σ + 1))) ∧ WF (sgm σ x' y' w') := by
  obtain ⟨hA, hWS, hWG, hWT, hWB, hWK, hWC, -⟩ := id hW
  have h6 := hA.1
  unfold sgm
  have hf : ∀ f, f ≠ 0 → f ≠ 1 → f ≠ 2 → f ≠ 3 → us (us (us (us σ 1 (NS σ) x') 2 (NS σ) y') 3 (NS σ) w') 0 0 (NS σ + 1) f = σ f := fun f h1 h2 h3 h4 => by rw [us_f h1, us_f h4, us_f h3, us_f h2]
  have h0 : ∀ i, i ≠ 0 → us (us (us (us σ 1 (NS σ) x') 2 (NS σ) y') 3 (NS σ) w') 0 0 (NS σ + 1) 0 i = σ 0 i := fun i h1 => by rw [us_ne (by omega), us_f (by omega), us_f (by omega), us_f (by omega)]
  have hr1 : ∀ k, k ≠ 0 → k ≠ 9 + 3 * NS σ → (si (si (si (si M (9 + 3 * NS σ) 3 (nI x')) (9 + 3 * NS σ) 4 (nI y')) (9 + 3 * NS σ) 5 (nI w')) 0 8 (nI (NS σ + 1))).1 k = M.1 k := fun k h1 h2 => by rw [si_1 h1, si_1 h2, si_1 h2, si_1 h2]
  obtain ⟨c1, c2, c3, c4, c5, c6, c7, c8, c9, c10, c11⟩ := id hC
  have hN1 : NS (us (us (us (us σ 1 (NS σ) x') 2 (NS σ) y') 3 (NS σ) w') 0 0 (NS σ + 1)) = NS σ + 1 := us_eq rfl rfl
  have hO : OPN (us (us (us (us σ 1 (NS σ) x') 2 (NS σ) y') 3 (NS σ) w') 0 0 (NS σ + 1)) = 0 := (h0 2 (by omega)).trans z
  have hc := hWC z
  refine ⟨⟨?_, ?_, ?_, fun q => by omega, fun i hi p hp => ?_, EG_c (fun i hi => hr1 _ (by omega) (by omega)) (hf 5 (by omega) (by omega) (by omega) (by omega)) (hf 6 (by omega) (by omega) (by omega) (by omega)) (hf 7 (by omega) (by omega) (by omega) (by omega)) (hf 8 (by omega) (by omega) (by omega) (by omega)) c6, EB1_c (fun i hi => hr1 _ (by omega) (by omega)) (hf 12 (by omega) (by omega) (by omega) (by omega)) (hf 13 (by omega) (by omega) (by omega) (by omega)) (hf 14 (by omega) (by omega) (by omega) (by omega)) (hf 15 (by omega) (by omega) (by omega) (by omega)) (hf 19 (by omega) (by omega) (by omega) (by omega)) c7, EB2_c (fun i hi => ⟨hr1 _ (by omega) (by omega), rfl⟩) (h0 4 (by omega)) (hf 10 (by omega) (by omega) (by omega) (by omega)) (hf 16 (by omega) (by omega) (by omega) (by omega)) (hf 17 (by omega) (by omega) (by omega) (by omega)) (hf 18 (by omega) (by omega) (by omega) (by omega)) (hf 19 (by omega) (by omega) (by omega) (by omega)) (hf 20 (by omega) (by omega) (by omega) (by omega)) c8, EB3_c (fun i hi => ⟨hr1 _ (by omega) (by omega), rfl⟩) hW.1.2.2.1 (h0 1 (by omega)) (hf 9 (by omega) (by omega) (by omega) (by omega)) (hf 10 (by omega) (by omega) (by omega) (by omega)) (hf 11 (by omega) (by omega) (by omega) (by omega)) c9, EK_c (fun t ht => hr1 _ (by omega) (by omega)) (hf 23 (by omega) (by omega) (by omega) (by omega)) (hf 24 (by omega) (by omega) (by omega) (by omega)) (hf 25 (by omega) (by omega) (by omega) (by omega)) (hf 26 (by omega) (by omega) (by omega) (by omega)) c10, EL_c (hr1 5 (by omega) (by omega)) (hf 27 (by omega) (by omega) (by omega) (by omega)) c11⟩, WF_closed hO ?_ ?_ ?_ ?_ ?_ ?_ ?_⟩
  · obtain ⟨p1, p2, p3, p4, p5, p6, p7, p8, p9⟩ := c1
    unfold EP
    rw [hN1]
    unfold NB OPN ALL RT RF MIN PIG INL at *
    rw [h0 1 (by omega), h0 2 (by omega), h0 3 (by omega), h0 4 (by omega), h0 5 (by omega), h0 6 (by omega), h0 7 (by omega), h0 8 (by omega)]
    simp (disch := omega) only [gi_eq, gi_ne, gi_sr, gr_si, gr_eq, gr_ne]
    exact ⟨trivial, p2, p3, p4, p5, p6, p7, p8, p9⟩
  · obtain ⟨t1, t2, t3, t4, t5, t6, t7, t8, t9, t10⟩ := c2
    have q : ∀ t, t < 3 → ∀ j, gi (si (si (si (si M (9 + 3 * NS σ) 3 (nI x')) (9 + 3 * NS σ) 4 (nI y')) (9 + 3 * NS σ) 5 (nI w')) 0 8 (nI (NS σ + 1))) (6 + t) j = gi M (6 + t) j := fun t ht j => gi_1 (hr1 _ (by omega) (by omega)) j
    refine ⟨?_, ?_, ?_, ?_, ?_, ?_, ?_, fun w => by omega, ?_, ?_⟩
    · rw [q 0 (by omega), t1]; unfold LK; rw [h0 9 (by omega)]
    · rw [q 0 (by omega), t2]; unfold LKU; rw [h0 10 (by omega)]
    · rw [q 0 (by omega), t3]
    · rw [q 1 (by omega), t4]; unfold DR; rw [h0 11 (by omega)]
    · rw [q 1 (by omega), t5]; unfold DRU; rw [h0 12 (by omega)]
    · rw [q 1 (by omega), t6]; unfold DRT; rw [h0 13 (by omega)]
    · rw [q 1 (by omega), t7]
    · rw [q 2 (by omega), t9]; unfold RCV; rw [h0 14 (by omega)]
    · rw [q 2 (by omega), t10]
  · intro i hi
    have := c3 i hi
    rw [hN1]
    unfold HOL HEI LIM DIR LA at *
    rw [hf 4 (by omega) (by omega) (by omega) (by omega), hf 28 (by omega) (by omega) (by omega) (by omega)]
    by_cases q : i = NS σ
    · subst q
      simp (disch := omega) only [gi_eq, gi_ne, gi_sr, gr_si, gr_eq, gr_ne, us_eq, us_ne]
      exact ⟨fun _ => ⟨trivial, trivial, trivial⟩, this.2⟩
    · simp (disch := omega) only [gi_eq, gi_ne, gi_sr, gr_si, gr_eq, gr_ne, us_ne]
      exact ⟨fun hh => this.1 (by omega), this.2⟩
  · rw [hO, if_neg (by omega), gi_1 (hr1 _ (by omega) (by omega)), c5 i hi p hp, z, if_neg (by omega)]
  · obtain ⟨a1, a2, a3, a4, a5, a6, a7, a8, a9, a10, a11, a12⟩ := hA
    unfold WA
    rw [hN1, hO]
    unfold NB RT RF MIN INL ALL LEN PIG at *
    rw [h0 1 (by omega), h0 3 (by omega), h0 4 (by omega), h0 5 (by omega), h0 6 (by omega), h0 7 (by omega), h0 8 (by omega), h0 15 (by omega)]
    exact ⟨by omega, a2, a3, by omega, a5, a6, a7, fun q => by omega, a9, a10, a11, a12⟩
  · unfold WS
    rw [hN1]
    refine ⟨fun i hi => ?_, fun i hi => ?_⟩
    · have hla := (hc.2.2.2.2.2.1 i (by omega)).1
      have hwi := hWS.1 i
      unfold HOL HEI LIM LA at *
      rw [hf 28 (by omega) (by omega) (by omega) (by omega)]
      by_cases q : i = NS σ
      · subst q
        simp (disch := omega) only [us_eq, us_ne]
        exact ⟨hx1, hx2, hy2, hw1, hw2, by omega⟩
      · simp (disch := omega) only [us_ne]
        exact hwi (by omega)
    · have := hWS.2 i hi
      unfold DIR at *
      rw [hf 4 (by omega) (by omega) (by omega) (by omega)]
      exact this
  · unfold WG WEI THK GRD BAR at *
    rw [hf 5 (by omega) (by omega) (by omega) (by omega), hf 6 (by omega) (by omega) (by omega) (by omega), hf 7 (by omega) (by omega) (by omega) (by omega), hf 8 (by omega) (by omega) (by omega) (by omega)]
    exact hWG
  · obtain ⟨b1, b2, b3, b4, b5, b6⟩ := hWT
    unfold WT'
    rw [hN1]
    unfold LK LKU DR DRU DRT RCV at *
    rw [h0 9 (by omega), h0 10 (by omega), h0 11 (by omega), h0 12 (by omega), h0 13 (by omega), h0 14 (by omega)]
    exact ⟨fun q => by have := b1 q; omega, b2, fun q => by have := b3 q; omega, b4, b5, b6⟩
  · unfold WB NB ALL PRD ENT ORD SHP LEF DRO LEA EBF KEP FG at *
    rw [h0 1 (by omega), h0 4 (by omega), hf 9 (by omega) (by omega) (by omega) (by omega), hf 10 (by omega) (by omega) (by omega) (by omega), hf 11 (by omega) (by omega) (by omega) (by omega), hf 12 (by omega) (by omega) (by omega) (by omega), hf 13 (by omega) (by omega) (by omega) (by omega), hf 14 (by omega) (by omega) (by omega) (by omega), hf 15 (by omega) (by omega) (by omega) (by omega), hf 18 (by omega) (by omega) (by omega) (by omega), hf 19 (by omega) (by omega) (by omega) (by omega), hf 20 (by omega) (by omega) (by omega) (by omega)]
    exact hWB
  · unfold WK HAS TG at *
    rw [hf 23 (by omega) (by omega) (by omega) (by omega), hf 24 (by omega) (by omega) (by omega) (by omega)]
    exact hWK
  · intro _
    unfold ALL PIG INL LEN ENT AHD BHD FG LA DIR ORD at *
    rw [h0 4 (by omega), h0 8 (by omega), h0 3 (by omega), h0 15 (by omega), hf 12 (by omega) (by omega) (by omega) (by omega), hf 16 (by omega) (by omega) (by omega) (by omega), hf 17 (by omega) (by omega) (by omega) (by omega), hf 19 (by omega) (by omega) (by omega) (by omega), hf 28 (by omega) (by omega) (by omega) (by omega), hf 4 (by omega) (by omega) (by omega) (by omega), hf 11 (by omega) (by omega) (by omega) (by omega)]
    exact hc

theorem A_segment {k x' y' w' : Nat} (h : SC σ k len M) (hk : k < 6) (hx1 : 5 ≤ x') (hx2 : x' ≤ 60) (hy2 : y' ≤ 50) (hw1 : 10 ≤ w') (hw2 : w' ≤ 500) : ∃ M' σ', fL_segment (nI x') (nI y') (nI w') M = some (nI k, M') ∧ SC σ' (k + 1) (len + x') M' := by
  obtain ⟨l, d, o, hW, hC, hK, z, hs, hb, hm, hl⟩ := h
  subst hs
  have y6 := hk
  obtain ⟨q1, q2⟩ := sgm_all hW hC z y6 hx1 hx2 hy2 hw1 hw2
  have h0 : ∀ i, i ≠ 0 → sgm σ x' y' w' 0 i = σ 0 i := fun i h1 => by unfold sgm; rw [us_ne (by omega), us_f (by omega), us_f (by omega), us_f (by omega)]
  have hf : ∀ f, f ≠ 0 → f ≠ 1 → f ≠ 2 → f ≠ 3 → sgm σ x' y' w' f = σ f := fun f h1 h2 h3 h4 => by unfold sgm; rw [us_f h1, us_f h4, us_f h3, us_f h2]
  have e1 : ∀ i, i ≠ NS σ → HOL (sgm σ x' y' w') i = HOL σ i := fun i hi => by unfold sgm HOL; rw [us_f (by omega), us_f (by omega), us_f (by omega), us_ne (by omega)]
  have e2 : HOL (sgm σ x' y' w') (NS σ) = x' := by unfold sgm HOL; rw [us_f (by omega), us_f (by omega), us_f (by omega), us_eq rfl rfl]
  refine ⟨_, sgm σ x' y' w', ?_, l, d, o, q2, q1, KP_c hK (fun f h => hf f (by omega) (by omega) (by omega) (by omega)), (h0 2 (by omega)).trans z, us_eq rfl rfl, (h0 1 (by omega)).trans hb, (h0 7 (by omega)).trans hm, ?_⟩
  · have cx : fX5_checkRange (nI x') 5 60 M = some 0 := C_rng0 (a := 5) (b := 60) (by omega) hx1 hx2
    have cy : fX5_checkRange (nI y') 0 50 M = some 0 := C_rng0 (a := 0) (b := 50) (by omega) (by omega) hy2
    have cw : fX5_checkRange (nI w') 10 500 M = some 0 := C_rng0 (a := 10) (b := 500) (by omega) hw1 hw2
    have cpre : fX5_segment (nI x') (nI y') (nI w') M = (if gi M 0 10 = 0 then (if gi M 0 8 < 6 then (if ¬ (gi M 0 8 < 0 ∨ 6 ≤ (gi M 0 8).toNatClampNeg) then ((fX2_tell ((gi M 0 8).toNatClampNeg) (nI x') (nI y') (nI w') M).bind fun o7 => some (0, (gi (si o7 0 8 ((gi o7 0 8) + 1)) 0 8) - 1, si o7 0 8 ((gi o7 0 8) + 1))) else none) else some (2, 0, M)) else some (2, 0, M)) := by
      unfold fX5_segment
      rw [cx, Option.bind_some, if_pos rfl, cy, Option.bind_some, if_pos rfl, cw, Option.bind_some, if_pos rfl]
    have g := g6 y6 (by omega)
    rw [hC.1.1, hC.1.2.2.1, z, if_pos (show nI 0 = 0 from rfl), if_pos (show nI (NS σ) < 6 by rw [show (6 : Int32) = nI 6 from rfl, cLt (by omega) (by omega)]; exact y6), cCl (show NS σ < 2147483648 by omega), if_pos g] at cpre
    unfold fX2_tell at cpre
    rw [if_pos y6, Option.bind_some, gi_ne (show ¬ (0 = 9 + 3 * NS σ ∧ 8 = 5) by omega), gi_ne (show ¬ (0 = 9 + 3 * NS σ ∧ 8 = 4) by omega), gi_ne (show ¬ (0 = 9 + 3 * NS σ ∧ 8 = 3) by omega), hC.1.1, Lt1, cAdd, gi_eq rfl rfl, cSub (show 1 ≤ NS σ + 1 by omega), show NS σ + 1 - 1 = NS σ by omega] at cpre
    unfold fL_segment
    rw [cpre, Option.bind_some]
    rfl
  · rw [sm_last, Nat.zero_add, e2, ← hl, sm_cong (g := HOL σ) (fun i _ hi => e1 i (by omega))]
theorem A_open {k p : Nat} (h : SC σ k len M) (hk : 1 ≤ k) (hp : p < 6) : OKS (fL_open (nI p)) (nI len) k 1 0 len M := by
  obtain ⟨l, d, o, hW, hC, hK, z, hs, hb, hm, hl⟩ := h
  subst hs
  obtain ⟨hA, hWS, hWG, hWT, hWB, hWK, hWC, -⟩ := id hW
  have h6 := hA.1
  have y := hk
  have ci : fX5_checkIndex (nI p) 6 M = some 0 := C_idx0 (n := 6) (by omega) hp
  have hcnt : ∀ i, i < 6 → i < NS σ → ∀ q, q < 6 → gi M (11 + 3 * i) q = nI 0 := fun i hi _ q hq => by
    rw [hC.2.2.2.2.1 i hi q hq, z, if_neg (by omega)]
  obtain ⟨M', q1, q2, q3, q4⟩ := C_fillS hp h6 (fun i hi => (hWS.1 i hi).2.1) (NS σ) 400 M (Nat.le_refl _) (by omega) (fun i hi => ((hC.2.2.1 i (by omega)).1 hi).1) hcnt (fun i a1 a2 => by omega)
  have hn8 : gi M' 0 8 = nI (NS σ) := by rw [q2.gi (by omega)]; exact hC.1.1
  have hr8 : gi M' 8 2 = nI (RCV σ) := by rw [q2.gi (by omega)]; exact hC.2.1.2.2.2.2.2.2.2.2.1
  have hlo : LEN (opn σ p) = len := by rw [opn_LEN]; exact hl
  rw [← hlo]
  refine mkS (σ' := opn σ p) (EC_opn hC hW z y hp q2 q3 q4 rfl) (WF_opn hW z y hp) (KP_c hK (fun f h => opn_f (by omega))) ?_ opn_OPN (opn_0 (by omega)) ((opn_0 (by omega)).trans hb) ((opn_0 (by omega)).trans hm) rfl
  rw [opn_LEN]
  unfold fL_open fX5_open fX5_fillSegments fX0_tell fX4_tell
  rw [ci, Option.bind_some, if_pos rfl, hC.1.2.2.1, z, if_pos (show nI 0 = 0 from rfl), hC.1.1, if_neg (show ¬ nI (NS σ) = 0 by rw [Lt0, cEq (by omega) (by omega)]; omega)]
  have qq : fX5_fillSegments_L9 400 (nI p) 0 (nI (NS σ) - 1) M = some (nI (sm (HOL σ) 0 (NS σ)), M') := by
    rw [← q1, Nat.sub_self, sm_0, nO_p y, Lt1, cSub y]
    rfl
  rw [qq, Option.bind_some]
  have hz : (0 : Int32).toNatClampNeg = 0 := rfl
  have g : ¬ ((0 : Int32) < 0 ∨ 40 ≤ 0) := by decide
  dsimp only
  rw [hz, if_pos g, cCl (show p < 2147483648 by omega), if_pos (g6 hp (by omega)), if_pos (show 0 < 40 by omega), Option.bind_some, if_pos g, if_pos (show 2 < 3 by omega)]
  have w1 : gi (si (si (sr (si M' (33 + 0) 2 (-1)) (33 + 0) 1 (some p)) (33 + 0) 3 (nI (sm (HOL σ) 0 (NS σ)))) (33 + 0) 4 (nI (sm (HOL σ) 0 (NS σ)))) 0 8 - 1 = nI (NS σ - 1) := by
    rw [gi_ne (by omega), gi_ne (by omega), gi_sr, gi_ne (by omega), hn8, Lt1, cSub y]
  have w2 : gi (si (si (sr (si M' (33 + 0) 2 (-1)) (33 + 0) 1 (some p)) (33 + 0) 3 (nI (sm (HOL σ) 0 (NS σ)))) (33 + 0) 4 (nI (sm (HOL σ) 0 (NS σ)))) (6 + 2) 2 = nI (RCV σ) := by
    rw [gi_ne (by omega), gi_ne (by omega), gi_sr, gi_ne (by omega)]
    exact hr8
  rw [w1, w2, Option.bind_some]
  rfl
end Q73
