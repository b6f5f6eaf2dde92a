/-! ORDERS: BOTH SIDES -/
section L74
variable {σ σ' : Sp} {M M' : Mm} {l d o l' d' o' : Nat}
/-- a new batch -/
def nwb (σ : Sp) (s p q : Nat) : Sp := us (us (us (us σ 9 (NB σ) s) 10 (NB σ) p) 11 (NB σ) q) 0 1 (NB σ + 1)
theorem nwb_f {s p q f : Nat} (h0 : f ≠ 0) (h9 : f ≠ 9) (h10 : f ≠ 10) (h11 : f ≠ 11) : nwb σ s p q f = σ f := by
  unfold nwb; rw [us_f h0, us_f h11, us_f h10, us_f h9]
theorem nwb_0 {s p q i : Nat} (h : i ≠ 1) : nwb σ s p q 0 i = σ 0 i := by
  unfold nwb; rw [us_ne (by omega), us_f (by omega), us_f (by omega), us_f (by omega)]
theorem nwb_NB {s p q : Nat} : NB (nwb σ s p q) = NB σ + 1 := us_eq rfl rfl
theorem nwb_b {s p q b : Nat} (h : b ≠ NB σ) : SHP (nwb σ s p q) b = SHP σ b ∧ PRD (nwb σ s p q) b = PRD σ b ∧ ORD (nwb σ s p q) b = ORD σ b := by
  unfold nwb SHP PRD ORD
  simp (disch := omega) only [us_ne, and_self]
theorem nwb_n {s p q : Nat} : SHP (nwb σ s p q) (NB σ) = s ∧ PRD (nwb σ s p q) (NB σ) = p ∧ ORD (nwb σ s p q) (NB σ) = q := by
  unfold nwb SHP PRD ORD
  simp (disch := omega) only [us_eq, us_ne, and_self]
theorem WF_nwb (hW : WF σ) (hn : NB σ < 40) {s p q : Nat} (hs : s < 4) (hp : p < 6) (hq1 : 1 ≤ q) (hq2 : q ≤ 200) : WF (nwb σ s p q) := by
  obtain ⟨hA, hWS, hWG, hWT, hWB, hWK, hWC, hWO, hWL, hWU⟩ := id hW
  obtain ⟨a1, a2, a3, a4, a5, a6, a7, a8, a9, a10, a11, a12⟩ := id hA
  have h0 : ∀ i, i ≠ 1 → nwb σ s p q 0 i = σ 0 i := fun i hi => nwb_0 hi
  have hf : ∀ f, f ≠ 0 → f ≠ 9 → f ≠ 10 → f ≠ 11 → nwb σ s p q f = σ f := fun f h1 h2 h3 h4 => nwb_f h1 h2 h3 h4
  have e1 : NS (nwb σ s p q) = NS σ := h0 0 (by omega)
  have e2 : NB (nwb σ s p q) = NB σ + 1 := nwb_NB
  have e3 : OPN (nwb σ s p q) = OPN σ := h0 2 (by omega)
  have e4 : INL (nwb σ s p q) = INL σ := h0 3 (by omega)
  have e5 : ALL (nwb σ s p q) = ALL σ := h0 4 (by omega)
  have e6 : PIG (nwb σ s p q) = PIG σ := h0 8 (by omega)
  have e7 : LEN (nwb σ s p q) = LEN σ := h0 15 (by omega)
  have g1 : HOL (nwb σ s p q) = HOL σ := hf 1 (by omega) (by omega) (by omega) (by omega)
  have g4 : DIR (nwb σ s p q) = DIR σ := hf 4 (by omega) (by omega) (by omega) (by omega)
  have g12 : ENT (nwb σ s p q) = ENT σ := hf 12 (by omega) (by omega) (by omega) (by omega)
  have g13 : LEF (nwb σ s p q) = LEF σ := hf 13 (by omega) (by omega) (by omega) (by omega)
  have g14 : DRO (nwb σ s p q) = DRO σ := hf 14 (by omega) (by omega) (by omega) (by omega)
  have g15 : LEA (nwb σ s p q) = LEA σ := hf 15 (by omega) (by omega) (by omega) (by omega)
  have g16 : AHD (nwb σ s p q) = AHD σ := hf 16 (by omega) (by omega) (by omega) (by omega)
  have g17 : BHD (nwb σ s p q) = BHD σ := hf 17 (by omega) (by omega) (by omega) (by omega)
  have g18 : EBF (nwb σ s p q) = EBF σ := hf 18 (by omega) (by omega) (by omega) (by omega)
  have g19 : FG (nwb σ s p q) = FG σ := hf 19 (by omega) (by omega) (by omega) (by omega)
  have g20 : KEP (nwb σ s p q) = KEP σ := hf 20 (by omega) (by omega) (by omega) (by omega)
  have g21 : UB (nwb σ s p q) = UB σ := hf 21 (by omega) (by omega) (by omega) (by omega)
  have g22 : UP (nwb σ s p q) = UP σ := hf 22 (by omega) (by omega) (by omega) (by omega)
  have g28 : LA (nwb σ s p q) = LA σ := hf 28 (by omega) (by omega) (by omega) (by omega)
  have hO0 : 0 < NB σ := a2
  have hnew := (hWB.2 (NB σ) hn)
  have hE0 : ENT σ (NB σ) = 0 := hnew.2.2.2.2.2.1 (Nat.le_refl _)
  refine ⟨?_, ?_, ?_, ?_, ?_, ?_, ?_, ?_, ?_, ?_⟩
  · unfold WA
    rw [e1, e2, e3, e4, e5, e6, e7]
    unfold RT RF MIN at *
    rw [h0 5 (by omega), h0 6 (by omega), h0 7 (by omega)]
    exact ⟨a1, by omega, by omega, a4, a5, a6, a7, a8, by omega, a10, a11, a12⟩
  · unfold WS
    rw [e1, g1, g4, g28]
    unfold HEI LIM at *
    rw [hf 2 (by omega) (by omega) (by omega) (by omega), hf 3 (by omega) (by omega) (by omega) (by omega)]
    exact hWS
  · unfold WG WEI THK GRD BAR at *
    rw [hf 5 (by omega) (by omega) (by omega) (by omega), hf 6 (by omega) (by omega) (by omega) (by omega), hf 7 (by omega) (by omega) (by omega) (by omega), hf 8 (by omega) (by omega) (by omega) (by omega)]
    exact hWG
  · unfold WT' at *
    rw [e1]
    unfold LK LKU DR DRU DRT RCV at *
    rw [h0 9 (by omega), h0 10 (by omega), h0 11 (by omega), h0 12 (by omega), h0 13 (by omega), h0 14 (by omega)]
    exact hWT
  · refine ⟨fun b hb => ?_, fun b hb => ?_⟩
    · rw [e2] at hb
      rw [g12]
      by_cases z : b = NB σ
      · subst z
        obtain ⟨n1, n2, n3⟩ := nwb_n (σ := σ) (s := s) (p := p) (q := q)
        rw [n1, n2, n3]
        exact ⟨hp, by omega, by omega, fun _ => ⟨hs, hq1, hq2⟩⟩
      · obtain ⟨n1, n2, n3⟩ := nwb_b (s := s) (p := p) (q := q) z
        rw [n1, n2, n3]
        exact hWB.1 b (by omega)
    · rw [e2, e5, g12, g13, g14, g15, g18, g19, g20]
      obtain ⟨q1, q2, q3, q4, q5, q6, q7⟩ := hWB.2 b hb
      exact ⟨q1, q2, q3, q4, q5, fun w => q6 (by omega), q7⟩
  · unfold WK HAS TG at *
    rw [hf 23 (by omega) (by omega) (by omega) (by omega), hf 24 (by omega) (by omega) (by omega) (by omega)]
    exact hWK
  · intro z
    rw [e3] at z
    rw [e5, e6, e4, e7, g12, g16, g17, g19, g28, g4, (nwb_b (s := s) (p := p) (q := q) (show 0 ≠ NB σ by omega)).2.2]
    exact hWC z
  · intro z
    rw [e3] at z
    obtain ⟨o1, o2, o3, o4, o5, o6⟩ := hWO z
    rw [e7, e1, e5, e4, e2, g1, g12, (nwb_b (s := s) (p := p) (q := q) (show 0 ≠ NB σ by omega)).2.2]
    refine ⟨o1, o2, o3, ?_, o5, fun b hb h1 h2 => ?_⟩
    · rw [show NB σ + 1 - 1 = (NB σ - 1) + 1 by omega, sm_last, ← o4, show 1 + (NB σ - 1) = NB σ by omega, hE0, Nat.add_zero]
    · by_cases y : b = NB σ
      · rw [y, hE0] at h1; omega
      · rw [(nwb_b (s := s) (p := p) (q := q) y).2.2]
        exact o6 b (by omega) h1 h2
  · intro z
    rw [e3] at z
    have hstr : str (nwb σ s p q) = str σ := by funext b; unfold str; rw [e7, g18]
    obtain ⟨l1, l2, l3, l4, l5, l6⟩ := hWL z
    rw [hstr, e7, e5, e4, e2, g16, g12, g17]
    exact ⟨l1, l2, l3, fun b c h1 h2 => by obtain ⟨k1, k2⟩ := l4 b c h1 h2; exact ⟨by omega, k2⟩, fun b c h1 h2 => by obtain ⟨k1, k2⟩ := l5 b c h1 h2; exact ⟨by omega, k2⟩, l6⟩
  · intro z
    rw [e3] at z
    have hstr : str (nwb σ s p q) = str σ := by funext b; unfold str; rw [e7, g18]
    have hu : ub1 (nwb σ s p q) = ub1 σ := by funext b j; unfold ub1; rw [g21]
    obtain ⟨u1, u2, u3, u4, u5, u6⟩ := hWU z
    rw [hstr, hu, e7, e4, e2, g21, g22, g12, g19, g13, g14, g15]
    refine ⟨fun j hj => ⟨by have := (u1 j hj).1; omega, (u1 j hj).2⟩, u2, u3, u4, u5, fun b hb => ?_⟩
    by_cases y : b = NB σ
    · have hz : sm (ub1 σ b) 0 (LEN σ) = 0 := by
        have := sm_bound (f := ub1 σ b) (c := 0) (a := 0) (n := LEN σ) (fun j _ hj => by
          unfold ub1
          rw [if_neg (fun w => by have := (u1 j (by omega)).1; omega)]
          exact Nat.le_refl 0)
        omega
      rw [hz, y, hE0]
      omega
    · exact u6 b (by omega)
theorem W_order (h : IV σ l d o M) (x y w : Int32) : OK1 (fL_order x y w) (fX6_order x y w) M := by
  obtain ⟨hW, hC, hE⟩ := id h
  obtain ⟨hA, hWS, hWG, hWT, hWB, hWK, hWC, hWO, hWL, hWU⟩ := id hW
  have h40 := hA.2.2.1
  have k19 : fX6_order_b19 x y w M = some (0, si M 77 43 (nI 1)) := by
    unfold fX6_order_b19 fX6_order_b20 fX6_order_b42
    rcases isB w 1 200 M with q | q
    · rw [q, Option.bind_some, G_1, G_1]
      split
      · rfl
      · rfl
    · rw [q, Option.bind_some, G_1, G_1]
      split
      · rfl
      · rfl
  rcases idx x (n := 4) (by omega) with z | ⟨s, hs, rfl⟩
  · refine E1 h (c := 1) (v := 0) (by omega) (by omega) ?_ ?_
    · unfold fL_order fX5_order
      rw [show fX5_checkIndex x 4 M = some 3 from C_idx3 (n := 4) z, Option.bind_some]
      rfl
    · unfold fX6_order
      rw [H_no z, Option.bind_some, if_pos rfl, k19]
  · have cs : fX5_checkIndex (nI s) 4 M = some 0 := C_idx0 (n := 4) (by omega) hs
    rcases idx y (n := 6) (by omega) with z | ⟨p, hp, rfl⟩
    · refine E1 h (c := 1) (v := 0) (by omega) (by omega) ?_ ?_
      · unfold fL_order fX5_order
        rw [cs, Option.bind_some, if_pos rfl, show fX5_checkIndex y 6 M = some 3 from C_idx3 (n := 6) z, Option.bind_some]
        rfl
      · unfold fX6_order
        rw [H_ok hs, Option.bind_some, if_neg (by decide), P_no z, Option.bind_some, if_pos rfl, k19]
    · have cp : fX5_checkIndex (nI p) 6 M = some 0 := C_idx0 (n := 6) (by omega) hp
      have mpre : ∀ N, fX6_order (nI s) (nI p) w N = fX6_order_b20 (nI s) (nI p) w 1 N := fun N => by
        unfold fX6_order
        rw [H_ok hs, Option.bind_some, if_neg (by decide), P_ok hp, Option.bind_some, if_neg (by decide)]
      have bw : (w < nI 1 ∨ nI 200 < w) → OK1 (fL_order (nI s) (nI p) w) (fX6_order (nI s) (nI p) w) M := fun z => by
        refine E1 h (c := 2) (v := 0) (by omega) (by omega) ?_ ?_
        · unfold fL_order fX5_order
          rw [cs, Option.bind_some, if_pos rfl, cp, Option.bind_some, if_pos rfl, show fX5_checkRange w 1 200 M = some 1 from C_rng1 (a := 1) (b := 200) (by omega) (by omega) (by omega) z, Option.bind_some]
          rfl
        · rw [mpre]
          unfold fX6_order_b20 fX6_order_b42
          rw [B_no (show w < 1 ∨ 200 < w from z), Option.bind_some, G_2, G_2]
          split
          · rfl
          · rfl
      rcases rng w (a := 1) (b := 200) (by omega) (by omega) with z | z | ⟨q, hq1, hq2, rfl⟩
      · exact bw (Or.inl z)
      · exact bw (Or.inr z)
      · have cq : fX5_checkRange (nI q) 1 200 M = some 0 := C_rng0 (a := 1) (b := 200) (by omega) hq1 hq2
        have mq : ∀ N, fX6_isBetween (nI q) 1 200 N = some 1 := fun N => B_ok (a := 1) (b := 200) (by omega) hq1 hq2
        by_cases hn : NB σ < 40
        · have g := g6 hn (by omega)
          have gp := g6 hp (by omega)
          have h0 : ∀ i, i ≠ 1 → nwb σ s p q 0 i = σ 0 i := fun i hi => nwb_0 hi
          have hf : ∀ f, f ≠ 0 → f ≠ 9 → f ≠ 10 → f ≠ 11 → nwb σ s p q f = σ f := fun f h1 h2 h3 h4 => nwb_f h1 h2 h3 h4
          have hW' := WF_nwb hW hn hs hp hq1 hq2
          obtain ⟨c1, c2, c3, c4, c5, c6, c7, c8, c9, c10, c11⟩ := id hC
          have hr1 : ∀ k, k ≠ 0 → k ≠ 33 + NB σ → (si (si (sr (si M (33 + NB σ) 2 (nI s)) (33 + NB σ) 1 (some p)) (33 + NB σ) 3 (nI q)) 0 9 (nI (NB σ + 1))).1 k = M.1 k := fun k h1 h2 => by rw [si_1 h1, si_1 h2, sr_1, si_1 h2]
          have hr2 : ∀ k, k ≠ 33 + NB σ → (si (si (sr (si M (33 + NB σ) 2 (nI s)) (33 + NB σ) 1 (some p)) (33 + NB σ) 3 (nI q)) 0 9 (nI (NB σ + 1))).2 k = M.2 k := fun k h2 => by rw [si_2, si_2, sr_2 h2, si_2]
          refine FO (v := nI (NB σ)) (σ' := nwb σ s p q) (M1 := si (si (sr (si M (33 + NB σ) 2 (nI s)) (33 + NB σ) 1 (some p)) (33 + NB σ) 3 (nI q)) 0 9 (nI (NB σ + 1))) (l' := l) (d' := d) (o' := o) hE ⟨?_, ET_c (fun t ht => hr1 _ (by omega) (by omega)) (fun i _ _ _ _ _ h1 _ => h0 i h1) c2, ES_c (fun j hj => hr1 _ (by omega) (by omega)) (h0 0 (by omega)) (hf 1 (by omega) (by omega) (by omega) (by omega)) (hf 2 (by omega) (by omega) (by omega) (by omega)) (hf 3 (by omega) (by omega) (by omega) (by omega)) (hf 4 (by omega) (by omega) (by omega) (by omega)) (hf 28 (by omega) (by omega) (by omega) (by omega)) c3, ER_c (fun j hj => hr1 _ (by omega) (by omega)) hA.1 (h0 0 (by omega)) (h0 2 (by omega)) (hf 1 (by omega) (by omega) (by omega) (by omega)) (hf 21 (by omega) (by omega) (by omega) (by omega)) (hf 22 (by omega) (by omega) (by omega) (by omega)) (hf 28 (by omega) (by omega) (by omega) (by omega)) c4, ?_, EG_c (fun i hi => hr1 _ (by omega) (by omega)) (hf 5 (by omega) (by omega) (by omega) (by omega)) (hf 6 (by omega) (by omega) (by omega) (by omega)) (hf 7 (by omega) (by omega) (by omega) (by omega)) (hf 8 (by omega) (by omega) (by omega) (by omega)) c6, ?_, ?_, ?_, EK_c (fun t ht => hr1 _ (by omega) (by omega)) (hf 23 (by omega) (by omega) (by omega) (by omega)) (hf 24 (by omega) (by omega) (by omega) (by omega)) (hf 25 (by omega) (by omega) (by omega) (by omega)) (hf 26 (by omega) (by omega) (by omega) (by omega)) c10, EL_c (hr1 5 (by omega) (by omega)) (hf 27 (by omega) (by omega) (by omega) (by omega)) c11⟩ ((((Fr.rf.si (by omega)).sr (by omega)).si (by omega)).si (by omega)) hW' ?_ ?_
          · obtain ⟨p1, p2, p3, p4, p5, p6, p7, p8, p9⟩ := c1
            unfold EP
            rw [nwb_NB]
            unfold NS OPN ALL RT RF MIN PIG INL at *
            rw [h0 0 (by omega), h0 2 (by omega), h0 3 (by omega), h0 4 (by omega), h0 5 (by omega), h0 6 (by omega), h0 7 (by omega), h0 8 (by omega)]
            simp (disch := omega) only [gi_eq, gi_ne, gi_sr, gr_si, gr_eq, gr_ne]
            exact ⟨p1, trivial, p3, p4, p5, p6, p7, p8, p9⟩
          · intro i hi p' hp'
            rw [gi_1 (hr1 _ (by omega) (by omega)), c5 i hi p' hp']
            have e1 : NS (nwb σ s p q) = NS σ := h0 0 (by omega)
            have e3 : OPN (nwb σ s p q) = OPN σ := h0 2 (by omega)
            rw [e1, e3]
            by_cases z : OPN σ = 1 ∧ i < NS σ
            · rw [if_pos z, if_pos z]
              congr 1
              unfold cnt
              rw [off_c e1 (hf 1 (by omega) (by omega) (by omega) (by omega))]
              show sm _ 0 (σ 1 i) = sm _ 0 (nwb σ s p q 1 i)
              rw [hf 1 (by omega) (by omega) (by omega) (by omega)]
              apply sm_cong
              intro j _ hj
              have hj : j < HOL σ i := by rw [Nat.zero_add] at hj; exact hj
              have u := (WF_unit hW z.1 (WF_off hW z.1 z.2 hj)).1
              have e21 : UB (nwb σ s p q) = UB σ := hf 21 (by omega) (by omega) (by omega) (by omega)
              rw [e21, (nwb_b (s := s) (p := p) (q := q) (show UB σ (off σ i + j) ≠ NB σ by omega)).2.1]
            · rw [if_neg z, if_neg z]
          · intro b hb
            have := c7 b hb
            unfold ENT LEF DRO LEA FG at *
            rw [hf 12 (by omega) (by omega) (by omega) (by omega), hf 13 (by omega) (by omega) (by omega) (by omega), hf 14 (by omega) (by omega) (by omega) (by omega), hf 15 (by omega) (by omega) (by omega) (by omega), hf 19 (by omega) (by omega) (by omega) (by omega)]
            simp (disch := omega) only [gi_eq, gi_ne, gi_sr, gr_si, gr_eq, gr_ne]
            exact this
          · intro b hb
            obtain ⟨b1, b2, b3, b4⟩ := c8 b hb
            have hM := WF_WM hW
            have hmix : FG σ b = 1 → mix (nwb σ s p q) b = mix σ b := fun hz => by
              have hbn : b ≠ NB σ := fun y => by
                have q1 := (hWB.2 b hb).2.2.2.2.2
                have := q1.2 hz
                have := q1.1 (by omega)
                omega
              have hb' : b < NB σ := by
                rcases Nat.lt_or_ge b (NB σ) with y | y
                · exact y
                · have q1 := (hWB.2 b hb).2.2.2.2.2
                  have := q1.2 hz
                  have := q1.1 y
                  omega
              have w1 := (hM.2.2.1 b hb).1
              have eA : AHD (nwb σ s p q) b = AHD σ b := by unfold AHD; rw [hf 16 (by omega) (by omega) (by omega) (by omega)]
              have eF : FG (nwb σ s p q) b = FG σ b := by unfold FG; rw [hf 19 (by omega) (by omega) (by omega) (by omega)]
              have eK : KEP (nwb σ s p q) b = KEP σ b := by unfold KEP; rw [hf 20 (by omega) (by omega) (by omega) (by omega)]
              unfold mix
              rw [eA, eF, eK]
              by_cases y : AHD σ b = 0
              · rw [if_pos y, if_pos y]
              · rw [if_neg y, if_neg y, (nwb_b (s := s) (p := p) (q := q) hbn).2.1, (nwb_b (s := s) (p := p) (q := q) (show AHD σ b - 1 ≠ NB σ by have := w1 y; omega)).2.1, hz, if_neg (show ¬ (1 = 0) by omega), if_neg (show ¬ (1 = 0) by omega)]
            have eF : FG (nwb σ s p q) b = FG σ b := by unfold FG; rw [hf 19 (by omega) (by omega) (by omega) (by omega)]
            refine ⟨?_, ?_, ?_, fun hz => ?_⟩
            · unfold AHD at *
              rw [hf 16 (by omega) (by omega) (by omega) (by omega)]
              simp (disch := omega) only [gi_eq, gi_ne, gi_sr, gr_si, gr_eq, gr_ne]
              exact b1
            · unfold BHD at *
              rw [hf 17 (by omega) (by omega) (by omega) (by omega)]
              simp (disch := omega) only [gi_eq, gi_ne, gi_sr, gr_si, gr_eq, gr_ne]
              exact b2
            · unfold AHD EBF at *
              rw [hf 16 (by omega) (by omega) (by omega) (by omega), hf 18 (by omega) (by omega) (by omega) (by omega)]
              simp (disch := omega) only [gi_eq, gi_ne, gi_sr, gr_si, gr_eq, gr_ne]
              exact b3
            · rw [eF] at hz
              rw [hmix hz]
              simp (disch := omega) only [gi_eq, gi_ne, gi_sr, gr_si, gr_eq, gr_ne]
              exact b4 hz
          · intro b hb
            rw [nwb_NB] at hb
            by_cases z : b = NB σ
            · subst z
              obtain ⟨n1, n2, n3⟩ := nwb_n (σ := σ) (s := s) (p := p) (q := q)
              rw [n1, n2, n3]
              simp (disch := omega) only [gi_eq, gi_ne, gi_sr, gr_si, gr_eq, gr_ne]
              exact ⟨trivial, trivial, fun _ => trivial⟩
            · obtain ⟨n1, n2, n3⟩ := nwb_b (s := s) (p := p) (q := q) z
              rw [n1, n2, n3]
              have := c9 b (by omega)
              simp (disch := omega) only [gi_eq, gi_ne, gi_sr, gr_si, gr_eq, gr_ne]
              exact this
          · unfold fL_order fX5_order fX0_tell
            rw [cs, Option.bind_some, if_pos rfl, cp, Option.bind_some, if_pos rfl, cq, Option.bind_some, if_pos rfl, c1.2.1, if_pos (show nI (NB σ) < 40 by rw [show (40 : Int32) = nI 40 from rfl, cLt (by omega) (by omega)]; exact hn), cCl (show NB σ < 2147483648 by omega), if_pos g, cCl (show p < 2147483648 by omega), if_pos gp, if_pos hn, Option.bind_some]
            have e9 : gi (si (sr (si M (33 + NB σ) 2 (nI s)) (33 + NB σ) 1 (some p)) (33 + NB σ) 3 (nI q)) 0 9 = nI (NB σ) := by rw [gi_ne (by omega), gi_sr, gi_ne (by omega)]; exact c1.2.1
            rw [e9, Lt1, cAdd, gi_eq rfl rfl, cSub (show 1 ≤ NB σ + 1 by omega), show NB σ + 1 - 1 = NB σ by omega]
            rfl
          · intro N hN
            obtain ⟨⟨m1', m2', m3', m4', m5', m6', m7', m8', m9', m10', m11'⟩, m0'⟩ := id hN
            have hr : ∀ k, k ≠ 77 → ¬ (86 ≤ k ∧ k ≤ 88) → (si (si (si (si (si N 77 43 0) 86 (NB σ) (nI s)) 87 (NB σ) (nI p)) 88 (NB σ) (nI q)) 77 12 (nI (NB σ + 1))).1 k = N.1 k := fun k h1 h2 => by rw [si_1 h1, si_1 (by omega), si_1 (by omega), si_1 (by omega), si_1 h1]
            have hs' : ∀ j, j ≠ 12 → j < 42 → gi (si (si (si (si (si N 77 43 0) 86 (NB σ) (nI s)) 87 (NB σ) (nI p)) 88 (NB σ) (nI q)) 77 12 (nI (NB σ + 1))) 77 j = gi N 77 j := fun j h1 h2 => by rw [gi_ne (by omega), gi_ne (by omega), gi_ne (by omega), gi_ne (by omega), gi_ne (by omega)]
            refine ⟨si (si (si (si (si N 77 43 0) 86 (NB σ) (nI s)) 87 (NB σ) (nI p)) 88 (NB σ) (nI q)) 77 12 (nI (NB σ + 1)), ?_, ⟨⟨?_, MT_c (fun j hj => hs' j (by omega) (by omega)) (fun j hj => h0 j (by omega)) m2', MQ_c (fun j hj => hs' j (by omega) (by omega)) (h0 8 (by omega)) m3', MS_c (fun k hk => hr k (by omega) (by omega)) (h0 0 (by omega)) (fun f h => hf f (by omega) (by omega) (by omega) (by omega)) m4', MG_c (fun k hk => hr k (by omega) (by omega)) (fun f h => hf f (by omega) (by omega) (by omega) (by omega)) m5', MB1_c (fun k hk => hr k (by omega) (by omega)) (fun f h => hf f (by omega) (by omega) (by omega) (by omega)) m6', MB2_c (fun k hk => hr k (by omega) (by omega)) (h0 15 (by omega)) (fun f h => hf f (by omega) (by omega) (by omega) (by omega)) m7', ?_, MU_c (fun k hk => hr k (by omega) (by omega)) (h0 2 (by omega)) (h0 15 (by omega)) (fun f h => hf f (by omega) (by omega) (by omega) (by omega)) m9', MK_c (fun k hk => hr k (by omega) (by omega)) (hs' 38 (by omega) (by omega)) (fun f h => hf f (by omega) (by omega) (by omega) (by omega)) m10', ML_c (hr 102 (by omega) (by omega)) (hf 27 (by omega) (by omega) (by omega) (by omega)) m11'⟩, by rw [hs' 0 (by omega) (by omega), m0']; unfold MIN; rw [h0 7 (by omega)]⟩, ((((Fr.rf.si (by omega)).si (by omega)).si (by omega)).si (by omega)).si (by omega), by rw [gi_ne (by omega), gi_ne (by omega), gi_ne (by omega), gi_ne (by omega), gi_eq rfl rfl]; rfl⟩
            · rw [mpre]
              unfold fX6_order_b20 fX6_order_b42
              rw [mq, Option.bind_some, m1'.2.2.2.1, if_neg (show ¬ (40 : Int32) ≤ nI (NB σ) by rw [show (40 : Int32) = nI 40 from rfl, cLe (by omega) (by omega)]; omega), G_ok, Option.bind_some]
              dsimp only
              have n1 : gi (si N 77 43 0) 77 12 = nI (NB σ) := by rw [gi_ne (by omega)]; exact m1'.2.2.2.1
              have n2 : gi (si (si N 77 43 0) 86 (NB σ) (nI s)) 77 12 = nI (NB σ) := by rw [gi_ne (by omega)]; exact n1
              have n3 : gi (si (si (si N 77 43 0) 86 (NB σ) (nI s)) 87 (NB σ) (nI p)) 77 12 = nI (NB σ) := by rw [gi_ne (by omega)]; exact n2
              have n4 : gi (si (si (si (si N 77 43 0) 86 (NB σ) (nI s)) 87 (NB σ) (nI p)) 88 (NB σ) (nI q)) 77 12 = nI (NB σ) := by rw [gi_ne (by omega)]; exact n3
              have hcn : (nI (NB σ)).toNatClampNeg = NB σ := cCl (by omega)
              simp only [n1, hcn, n2, n3, n4, if_pos g]
              rw [if_neg (by decide), Lt1, cAdd, gi_eq rfl rfl, cSub (show 1 ≤ NB σ + 1 by omega), show NB σ + 1 - 1 = NB σ by omega]
            · obtain ⟨p1, p2, p3, p4, p5, p6, p7⟩ := m1'
              unfold MP
              rw [nwb_NB, gi_eq rfl rfl, hs' 1 (by omega) (by omega), hs' 6 (by omega) (by omega), hs' 7 (by omega) (by omega), hs' 24 (by omega) (by omega), hs' 27 (by omega) (by omega), hs' 28 (by omega) (by omega)]
              unfold NS OPN LEN ALL RT RF at *
              rw [h0 0 (by omega), h0 2 (by omega), h0 15 (by omega), h0 4 (by omega), h0 5 (by omega), h0 6 (by omega)]
              exact ⟨p1, p2, p3, rfl, p5, p6, p7⟩
            · intro b hb
              rw [nwb_NB] at hb
              by_cases z : b = NB σ
              · subst z
                obtain ⟨n1, n2, n3⟩ := nwb_n (σ := σ) (s := s) (p := p) (q := q)
                rw [n1, n2, n3]
                simp (disch := omega) only [gi_eq, gi_ne, gi_sr, gr_si, gr_eq, gr_ne]
                exact ⟨trivial, trivial, fun _ => trivial⟩
              · obtain ⟨n1, n2, n3⟩ := nwb_b (s := s) (p := p) (q := q) z
                rw [n1, n2, n3]
                have := m8' b (by omega)
                simp (disch := omega) only [gi_eq, gi_ne, gi_sr, gr_si, gr_eq, gr_ne]
                exact this
        · refine E1 h (c := 3) (v := 0) (by omega) (by omega) ?_ ?_
          · unfold fL_order fX5_order
            rw [cs, Option.bind_some, if_pos rfl, cp, Option.bind_some, if_pos rfl, cq, Option.bind_some, if_pos rfl, hC.1.2.1, if_neg (show ¬ nI (NB σ) < 40 by rw [show (40 : Int32) = nI 40 from rfl, cLt (by omega) (by omega)]; exact hn), Option.bind_some]
            rfl
          · rw [mpre]
            unfold fX6_order_b20 fX6_order_b42
            rw [mq, Option.bind_some, hE.1.1.2.2.2.1, if_pos (show (40 : Int32) ≤ nI (NB σ) by rw [show (40 : Int32) = nI 40 from rfl, cLe (by omega) (by omega)]; omega), G_3, Option.bind_some]
            rfl
end L74
