/-! A BATCH IS TIED TO THE INLET, A UNIT COMES IN, ONE MOVE -/
section On
variable {σ σ' : Sp} {M M' : Mm} {l d o e : Nat}
theorem mix_1 (h10 : σ' 10 = σ 10) (b : Nat) (h16 : AHD σ' b = AHD σ b) (h19 : FG σ' b = FG σ b) (hz : FG σ b = 1) (h20 : KEP σ' b = KEP σ b) : mix σ' b = mix σ b := by
  unfold mix
  rw [h16, h19, h20, hz, if_neg (show ¬ (1 = 0) by omega), if_neg (show ¬ (1 = 0) by omega)]
  unfold PRD
  rw [h10]
theorem mvt_L0 {f t : Nat} (h12 : f ≠ 12) (h0 : f ≠ 0) (ht : LEN σ ≤ t) : mvt σ e t 0 f = σ f := by
  funext i
  unfold mvt
  rw [if_neg (fun z => h12 z.1), if_neg (fun z => h0 z.1), if_neg (show ¬ (t ≤ i ∧ i < LEN σ) by omega), if_neg (show ¬ (t ≤ i ∧ i < LEN σ) by omega), if_neg (show ¬ (f = 28 ∧ i < 0) by omega)]
  by_cases h1 : f = 21
  · rw [if_pos h1, h1]
  · rw [if_neg h1]
    by_cases h2 : f = 22
    · rw [if_pos h2, h2]
    · rw [if_neg h2]
theorem C_in (hC : EC σ l d o M) (h6 : NS σ ≤ 6) (h40 : NB σ ≤ 40) (he : e < NB σ) {t : Nat} (ht : LEN σ ≤ t) : EC (mvt σ e t 0) l d o (si (si M (33 + e) 4 (nI (ENT σ e + 1))) 0 12 (nI (ALL σ + 1))) := by
  obtain ⟨c1, c2, c3, c4, c5, c6, c7, c8, c9, c10, c11⟩ := id hC
  have hf : ∀ f, f ≠ 12 → f ≠ 0 → mvt σ e t 0 f = σ f := fun f h1 h2 => mvt_L0 h1 h2 ht
  have h00 : ∀ i, i ≠ 4 → mvt σ e t 0 0 i = σ 0 i := fun i hi => mvt_0 hi
  have r1 : ∀ i, i ≠ 0 → i ≠ 33 + e → (si (si M (33 + e) 4 (nI (ENT σ e + 1))) 0 12 (nI (ALL σ + 1))).1 i = M.1 i := fun i h1 h2 => by rw [si_1 h1, si_1 h2]
  refine ⟨?_, ET_c (fun t ht => r1 _ (by omega) (by omega)) (fun i _ _ h4 _ _ _ _ => h00 i h4) c2, ES_c (fun i hi => r1 _ (by omega) (by omega)) (h00 0 (by omega)) (hf 1 (by omega) (by omega)) (hf 2 (by omega) (by omega)) (hf 3 (by omega) (by omega)) (hf 4 (by omega) (by omega)) (hf 28 (by omega) (by omega)) c3, ER_c (fun i hi => r1 _ (by omega) (by omega)) h6 (h00 0 (by omega)) (h00 2 (by omega)) (hf 1 (by omega) (by omega)) (hf 21 (by omega) (by omega)) (hf 22 (by omega) (by omega)) (hf 28 (by omega) (by omega)) c4, EU_c (fun i hi => r1 _ (by omega) (by omega)) (h00 0 (by omega)) (h00 2 (by omega)) (hf 1 (by omega) (by omega)) (hf 10 (by omega) (by omega)) (hf 21 (by omega) (by omega)) c5, EG_c (fun i hi => r1 _ (by omega) (by omega)) (hf 5 (by omega) (by omega)) (hf 6 (by omega) (by omega)) (hf 7 (by omega) (by omega)) (hf 8 (by omega) (by omega)) c6, ?_, ?_, ?_, EK_c (fun t ht => r1 _ (by omega) (by omega)) (hf 23 (by omega) (by omega)) (hf 24 (by omega) (by omega)) (hf 25 (by omega) (by omega)) (hf 26 (by omega) (by omega)) c10, EL_c (r1 5 (by omega) (by omega)) (hf 27 (by omega) (by omega)) c11⟩
  · obtain ⟨p1, p2, p3, p4, p5, p6, p7, p8, p9⟩ := c1
    unfold EP
    unfold NS NB OPN ALL RT RF MIN PIG INL at *
    rw [h00 0 (by omega), h00 1 (by omega), h00 2 (by omega), h00 3 (by omega), mvt_4, h00 5 (by omega), h00 6 (by omega), h00 7 (by omega), h00 8 (by omega)]
    simp (disch := omega) only [gi_eq, gi_ne, gi_sr, gr_si, gr_eq, gr_ne]
    exact ⟨p1, p2, p3, trivial, p5, p6, p7, p8, p9⟩
  · intro b hb
    obtain ⟨b1, b2, b3, b4, b5, b6⟩ := c7 b hb
    unfold ENT LEF DRO LEA FG at *
    rw [mvt_12, hf 13 (by omega) (by omega), hf 14 (by omega) (by omega), hf 15 (by omega) (by omega), hf 19 (by omega) (by omega)]
    rw [gi_ne (by omega), gi_ne (by omega), gi_ne (by omega), gi_if, gi_ne (by omega), gi_ne (by omega), gi_ne (by omega), gi_ne (by omega), gi_ne (by omega), gi_ne (by omega), gi_ne (by omega), gi_ne (by omega)]
    refine ⟨b1, ?_, b3, b4, b5, b6⟩
    by_cases z : b = e
    · rw [if_pos z, if_pos (by omega)]
    · rw [if_neg z, if_neg (by omega), b2]
  · intro b hb
    obtain ⟨b1, b2, b3, b4⟩ := c8 b hb
    have hm : FG σ b = 1 → mix (mvt σ e t 0) b = mix σ b := fun hz => mix_1 (hf 10 (by omega) (by omega)) b (by unfold AHD; rw [hf 16 (by omega) (by omega)]) (by unfold FG; rw [hf 19 (by omega) (by omega)]) hz (by unfold KEP; rw [hf 20 (by omega) (by omega)])
    refine ⟨?_, ?_, ?_, ?_⟩
    · unfold AHD at *; rw [hf 16 (by omega) (by omega)]; exact b1
    · unfold BHD at *; rw [hf 17 (by omega) (by omega)]; exact b2
    · unfold AHD EBF at *
      rw [hf 16 (by omega) (by omega), hf 18 (by omega) (by omega), gi_ne (by omega), gi_ne (by omega)]
      exact b3
    · intro hz
      have hz : FG σ b = 1 := by unfold FG at *; rw [hf 19 (by omega) (by omega)] at hz; exact hz
      rw [hm hz, gi_ne (by omega), gi_ne (by omega)]
      exact b4 hz
  · have := EB3_1 (EB3_c' (σ' := mvt σ e t 0) c9 (h00 1 (by omega)) (hf 9 (by omega) (by omega)) (hf 10 (by omega) (by omega)) (hf 11 (by omega) (by omega))) (b := e) (j := 4) (x := nI (ENT σ e + 1)) (by omega) (by omega)
    intro b hb
    have hb2 : b < NB σ := by unfold NB at *; rw [h00 1 (by omega)] at hb; exact hb
    have := this b hb
    simp (disch := omega) only [gi_eq, gi_ne, gi_sr, gr_si, gr_eq, gr_ne] at this ⊢
    exact this
theorem WN_e (hN : WN σ) {j : Nat} (hj : j < LEN σ) : UB σ j < 40 := by
  have := (hN.2.2.2.2.2.1 j hj).1
  have := hN.2.1
  omega
theorem C_b37 (hC : EC σ l d o M) (hN : WN σ) (he : e < NB σ) (hE : ENT σ e < 512) {s : Nat} (hs : s < NS σ) : ∃ M', fX5_bringIn_b37 e (nI s) M = some M' ∧ EC (mov σ e s) l d o M' ∧ Fr (fun k => k < 77) M M' := by
  obtain ⟨n6, n40, nO1, nW, nL, nU, nP, nI1⟩ := id hN
  obtain ⟨-, e4, -⟩ := hC.2.2.2.2.2.2.1 e (by omega)
  have e0 := (hC.2.2.2.2.2.2.1 e (by omega)).1
  obtain ⟨w1, -⟩ := nW.1 s hs
  have hin := off_in nL hs
  have ht : LEN σ = off σ 0 + HOL σ 0 := by rw [off_s (by omega), Nat.sub_zero, nL]
  obtain ⟨M', q1, q2, q3⟩ := C_bring_L hN he hE hs (s + 1) 0 400 (off σ 0 + HOL σ 0) e (ENT σ e) _ (by omega) (by omega) (C_in hC n6 n40 he (by omega)) (fun _ => by
    rw [if_pos ht.symm, if_pos ht.symm]
    exact ⟨rfl, rfl, rfl⟩) (fun h => by omega)
  refine ⟨M', ?_, ?_, Fr.tr ((Fr.rf.si (by omega)).si (by omega)) q3⟩
  · unfold fX5_bringIn_b37 fX5_unitOf
    rw [if_pos (by omega), if_pos (by omega), e0, e4, Option.bind_some, gi_ne (by omega), hC.1.2.2.2.1, show (512 : Int32) = nI 512 from rfl, cMul, cAdd, show (1 : Int32) = nI 1 from rfl, cAdd, cAdd]
    exact q1
  · rw [mov_mvt (by omega)]
    exact q2
theorem lnk_f (h : e ≠ INL σ) {f : Nat} (h0 : f ≠ 0) (h16 : f ≠ 16) (h17 : f ≠ 17) (h18 : f ≠ 18) : lnk σ e f = σ f := by
  unfold lnk
  rw [if_neg h, us_f h0, us_f h18, us_f h17, us_f h16]
theorem lnk_0 (h : e ≠ INL σ) {i : Nat} (hi : i ≠ 3) : lnk σ e 0 i = σ 0 i := by
  unfold lnk
  rw [if_neg h, us_ne (by omega), us_f (by omega), us_f (by omega), us_f (by omega)]
theorem lnk_3 (h : e ≠ INL σ) : lnk σ e 0 3 = e := by
  unfold lnk
  rw [if_neg h, us_eq rfl rfl]
theorem lnk_16 (h : e ≠ INL σ) {i : Nat} : lnk σ e 16 i = if i = e then INL σ + 1 else σ 16 i := by
  unfold lnk
  rw [if_neg h, us_f (by omega), us_f (by omega), us_f (by omega)]
  unfold us
  by_cases z : i = e
  · rw [if_pos ⟨rfl, z⟩, if_pos z]
  · rw [if_neg (fun y => z y.2), if_neg z]
theorem lnk_17 (h : e ≠ INL σ) {i : Nat} : lnk σ e 17 i = if i = INL σ then e + 1 else σ 17 i := by
  unfold lnk
  rw [if_neg h, us_f (by omega), us_f (by omega)]
  unfold us
  by_cases z : i = INL σ
  · rw [if_pos ⟨rfl, z⟩, if_pos z]
  · rw [if_neg (fun y => z y.2), if_neg z, if_neg (by omega)]
theorem lnk_18 (h : e ≠ INL σ) {i : Nat} : lnk σ e 18 i = if i = e then ALL σ else σ 18 i := by
  unfold lnk
  rw [if_neg h, us_f (by omega)]
  unfold us
  by_cases z : i = e
  · rw [if_pos ⟨rfl, z⟩, if_pos z]
  · rw [if_neg (fun y => z y.2), if_neg z, if_neg (by omega), if_neg (by omega)]
theorem op1_s (n : Nat) : op1 (n + 1) = some n := rfl
theorem C_link (hC : EC σ l d o M) (h6 : NS σ ≤ 6) (h40 : NB σ ≤ 40) (hI : INL σ < NB σ) (he : e < NB σ) (hne : e ≠ INL σ) (hz : FG σ e = 0) : EC (lnk σ e) l d o (sr (si (sr (sr M (33 + e) 8 (some (INL σ))) (33 + INL σ) 9 (some e)) (33 + e) 10 (nI (ALL σ))) 0 11 (some e)) := by
  obtain ⟨c1, c2, c3, c4, c5, c6, c7, c8, c9, c10, c11⟩ := id hC
  have hf : ∀ f, f ≠ 0 → f ≠ 16 → f ≠ 17 → f ≠ 18 → lnk σ e f = σ f := fun f h1 h2 h3 h4 => lnk_f hne h1 h2 h3 h4
  have h00 : ∀ i, i ≠ 3 → lnk σ e 0 i = σ 0 i := fun i hi => lnk_0 hne hi
  have r1 : ∀ i, i ≠ 33 + e → (sr (si (sr (sr M (33 + e) 8 (some (INL σ))) (33 + INL σ) 9 (some e)) (33 + e) 10 (nI (ALL σ))) 0 11 (some e)).1 i = M.1 i := fun i h1 => by
    show (si (sr (sr M (33 + e) 8 (some (INL σ))) (33 + INL σ) 9 (some e)) (33 + e) 10 (nI (ALL σ))).1 i = _
    rw [si_1 h1]
    rfl
  refine ⟨?_, ET_c (fun t ht => r1 _ (by omega)) (fun i _ h3 _ _ _ _ _ => h00 i h3) c2, ES_c (fun i hi => r1 _ (by omega)) (h00 0 (by omega)) (hf 1 (by omega) (by omega) (by omega) (by omega)) (hf 2 (by omega) (by omega) (by omega) (by omega)) (hf 3 (by omega) (by omega) (by omega) (by omega)) (hf 4 (by omega) (by omega) (by omega) (by omega)) (hf 28 (by omega) (by omega) (by omega) (by omega)) c3, ER_c (fun i hi => r1 _ (by omega)) h6 (h00 0 (by omega)) (h00 2 (by omega)) (hf 1 (by omega) (by omega) (by omega) (by omega)) (hf 21 (by omega) (by omega) (by omega) (by omega)) (hf 22 (by omega) (by omega) (by omega) (by omega)) (hf 28 (by omega) (by omega) (by omega) (by omega)) c4, EU_c (fun i hi => r1 _ (by omega)) (h00 0 (by omega)) (h00 2 (by omega)) (hf 1 (by omega) (by omega) (by omega) (by omega)) (hf 10 (by omega) (by omega) (by omega) (by omega)) (hf 21 (by omega) (by omega) (by omega) (by omega)) c5, EG_c (fun i hi => r1 _ (by omega)) (hf 5 (by omega) (by omega) (by omega) (by omega)) (hf 6 (by omega) (by omega) (by omega) (by omega)) (hf 7 (by omega) (by omega) (by omega) (by omega)) (hf 8 (by omega) (by omega) (by omega) (by omega)) c6, ?_, ?_, ?_, EK_c (fun t ht => r1 _ (by omega)) (hf 23 (by omega) (by omega) (by omega) (by omega)) (hf 24 (by omega) (by omega) (by omega) (by omega)) (hf 25 (by omega) (by omega) (by omega) (by omega)) (hf 26 (by omega) (by omega) (by omega) (by omega)) c10, EL_c (r1 5 (by omega)) (hf 27 (by omega) (by omega) (by omega) (by omega)) c11⟩
  · obtain ⟨p1, p2, p3, p4, p5, p6, p7, p8, p9⟩ := c1
    unfold EP
    have q : ∀ j, gi (sr (si (sr (sr M (33 + e) 8 (some (INL σ))) (33 + INL σ) 9 (some e)) (33 + e) 10 (nI (ALL σ))) 0 11 (some e)) 0 j = gi M 0 j := fun j => gi_1 (r1 0 (by omega)) j
    rw [q, q, q, q, q, q, q, q, gr_eq rfl rfl]
    unfold NS NB OPN ALL RT RF MIN PIG INL at *
    rw [h00 0 (by omega), h00 1 (by omega), h00 2 (by omega), lnk_3 hne, h00 4 (by omega), h00 5 (by omega), h00 6 (by omega), h00 7 (by omega), h00 8 (by omega)]
    exact ⟨p1, p2, p3, p4, p5, p6, p7, p8, rfl⟩
  · intro b hb
    have := c7 b hb
    unfold ENT LEF DRO LEA FG at *
    rw [hf 12 (by omega) (by omega) (by omega) (by omega), hf 13 (by omega) (by omega) (by omega) (by omega), hf 14 (by omega) (by omega) (by omega) (by omega), hf 15 (by omega) (by omega) (by omega) (by omega), hf 19 (by omega) (by omega) (by omega) (by omega)]
    simp (disch := omega) only [gi_eq, gi_ne, gi_sr, gr_si, gr_eq, gr_ne]
    exact this
  · intro b hb
    obtain ⟨b1, b2, b3, b4⟩ := c8 b hb
    refine ⟨?_, ?_, ?_, ?_⟩
    · rw [gr_ne (by omega), gr_si, gr_ne (by omega)]
      unfold AHD at *
      rw [lnk_16 hne]
      by_cases z : b = e
      · rw [if_pos z, z, gr_eq rfl rfl, op1_s]
      · rw [if_neg z, gr_ne (by omega)]
        exact b1
    · rw [gr_ne (by omega), gr_si]
      unfold BHD at *
      rw [lnk_17 hne]
      by_cases z : b = INL σ
      · rw [if_pos z, z, gr_eq rfl rfl, op1_s]
      · rw [if_neg z, gr_ne (by omega), gr_ne (by omega)]
        exact b2
    · rw [gi_sr]
      unfold AHD EBF at *
      rw [lnk_16 hne, lnk_18 hne]
      by_cases z : b = e
      · intro _
        rw [if_pos z, z, gi_eq rfl rfl]
      · rw [if_neg z, if_neg z, gi_ne (by omega)]
        exact b3
    · intro hq
      have hq : FG σ b = 1 := by unfold FG at *; rw [hf 19 (by omega) (by omega) (by omega) (by omega)] at hq; exact hq
      have z : b ≠ e := fun z => by rw [z, hz] at hq; omega
      rw [gi_sr, gi_ne (by omega), gi_sr, gi_sr, mix_1 (σ := σ) (hf 10 (by omega) (by omega) (by omega) (by omega)) b (by unfold AHD; rw [lnk_16 hne, if_neg z]) (by unfold FG; rw [hf 19 (by omega) (by omega) (by omega) (by omega)]) hq (by unfold KEP; rw [hf 20 (by omega) (by omega) (by omega) (by omega)])]
      exact b4 hq
  · intro b hb
    have hb2 : b < NB σ := by unfold NB at *; rw [h00 1 (by omega)] at hb; exact hb
    have := c9 b hb2
    unfold ORD PRD SHP at *
    rw [hf 9 (by omega) (by omega) (by omega) (by omega), hf 10 (by omega) (by omega) (by omega) (by omega), hf 11 (by omega) (by omega) (by omega) (by omega)]
    simp (disch := omega) only [gi_eq, gi_ne, gi_sr, gr_si, gr_eq, gr_ne]
    exact this
theorem WN_lnk (hN : WN σ) (he : e < NB σ) (hne : e ≠ INL σ) : WN (lnk σ e) := by
  have hf : ∀ f, f ≠ 0 → f ≠ 16 → f ≠ 17 → f ≠ 18 → lnk σ e f = σ f := fun f h1 h2 h3 h4 => lnk_f hne h1 h2 h3 h4
  have h00 : ∀ i, i ≠ 3 → lnk σ e 0 i = σ 0 i := fun i hi => lnk_0 hne hi
  unfold WN WS at *
  unfold NS NB OPN LEN INL HOL HEI LIM DIR LA UB UP PRD at *
  simp only [hf 1 (by omega) (by omega) (by omega) (by omega), hf 2 (by omega) (by omega) (by omega) (by omega), hf 3 (by omega) (by omega) (by omega) (by omega), hf 4 (by omega) (by omega) (by omega) (by omega), hf 28 (by omega) (by omega) (by omega) (by omega), hf 21 (by omega) (by omega) (by omega) (by omega), hf 22 (by omega) (by omega) (by omega) (by omega), hf 10 (by omega) (by omega) (by omega) (by omega), h00 0 (by omega), h00 1 (by omega), h00 2 (by omega), h00 15 (by omega), lnk_3 hne]
  exact ⟨hN.1, hN.2.1, hN.2.2.1, hN.2.2.2.1, hN.2.2.2.2.1, hN.2.2.2.2.2.1, hN.2.2.2.2.2.2.1, he⟩
theorem C_bringIn (hC : EC σ l d o M) (hN : WN σ) (he : e < NB σ) (hE : ENT σ e < 512) (hz : e ≠ INL σ → FG σ e = 0) {s : Nat} (hs : s < NS σ) : ∃ M', fX5_bringIn e (nI s) M = some M' ∧ EC (brg σ e s) l d o M' ∧ Fr (fun k => k < 77) M M' := by
  obtain ⟨n6, n40, nO1, nW, nL, nU, nP, nI1⟩ := id hN
  have hi := hC.1.2.2.2.2.2.2.2.2
  unfold fX5_bringIn brg
  by_cases z : e = INL σ
  · obtain ⟨M', q1, q2, q3⟩ := C_b37 hC hN he hE hs
    refine ⟨M', ?_, ?_, q3⟩
    · rw [hi, if_pos (by rw [z])]
      exact q1
    · unfold lnk
      rw [if_pos z]
      exact q2
  · obtain ⟨M', q1, q2, q3⟩ := C_b37 (C_link hC n6 n40 nI1 he z (hz z)) (WN_lnk hN he z) (e := e) (s := s) (by unfold NB at *; rw [lnk_0 z (by omega)]; exact he) (by unfold ENT at *; rw [lnk_f z (by omega) (by omega) (by omega) (by omega)]; exact hE) (by unfold NS at *; rw [lnk_0 z (by omega)]; exact hs)
    refine ⟨M', ?_, q2, Fr.tr ((((Fr.rf.sr (by omega)).sr (by omega)).si (by omega)).sr (by omega)) q3⟩
    rw [hi, if_neg (by simpa using z), if_pos (by omega), gr_ne (by omega), hi, Option.bind_some, if_pos (by omega), gi_sr, gi_sr, hC.1.2.2.2.1]
    exact q1
theorem fnd_s (p : Nat → Bool) (a n : Nat) : fnd p a (n + 1) = if p a = true then some a else fnd p (a + 1) n := rfl
theorem C_next_L (hC : EC σ l d o M) (hWB : WB σ) (hWG : WG σ) (h40 : NB σ ≤ 40) (hI : INL σ < NB σ) : ∀ (m k n : Nat), k + m = NB σ → m < n → fX5_nextBatch_L17 n (nI k) M = some (fnd (fun k => decide (ENT σ k = 0) && brs σ k (INL σ)) k m)
  | m, k, 0, h1, h2 => by omega
  | 0, k, n + 1, h1, h2 => by
    rw [fX5_nextBatch_L17]
    dsimp only
    rw [hC.1.2.1, if_pos (show nI (NB σ) ≤ nI k by rw [cLe (by omega) (by omega)]; omega)]
    rfl
  | m + 1, k, n + 1, h1, h2 => by
    obtain ⟨c1, c2, c3, c4, c5, c6, c7, c8, c9, c10, c11⟩ := id hC
    have e4 := (c7 k (by omega)).2.1
    have ek := (c9 k (by omega)).2.1
    have ei := (c9 _ hI).2.1
    have pk := (hWB.1 k (by omega)).1
    have pi := (hWB.1 _ hI).1
    have w2 := (hWB.2 k (by omega)).2.1
    rw [fX5_nextBatch_L17]
    dsimp only
    have g0 : ¬ (nI k < 0 ∨ 40 ≤ k) := by rw [Lt0, cLt (by omega) (by omega)]; omega
    rw [c1.2.1, if_neg (show ¬ nI (NB σ) ≤ nI k by rw [cLe (by omega) (by omega)]; omega), cCl (by omega), if_pos g0, if_pos g0, e4, c1.2.2.2.2.2.2.2.2, Option.bind_some, if_pos (show INL σ < 40 by omega), ek, Option.bind_some, ei, Option.bind_some, if_pos pk, C_bears c6 hWG pk pi, Option.bind_some, if_pos g0, Lt1, cAdd, C_next_L hC hWB hWG h40 hI m (k + 1) n (by omega) (by omega)]
    rw [fnd_s]
    by_cases z : ENT σ k = 0
    · rw [if_pos (show nI (ENT σ k) = 0 by rw [z]; rfl)]
      rw [decide_eq_true z, Bool.true_and]
      unfold brs
      by_cases y : (!(BAR σ (PRD σ k)).testBit (PRD σ (INL σ)) && !(BAR σ (PRD σ (INL σ))).testBit (PRD σ k)) = true
      · rw [if_pos y, if_pos y, if_neg (show ¬ nI 1 = 0 by decide)]
      · rw [if_neg y, if_neg y, if_pos (show nI 0 = 0 from rfl)]
    · rw [if_neg (show ¬ nI (ENT σ k) = 0 by rw [Lt0, cEq (by omega) (by omega)]; exact z)]
      rw [decide_eq_false z, Bool.false_and, if_neg (by decide)]
theorem C_nextBatch (hC : EC σ l d o M) (hWB : WB σ) (hWG : WG σ) (h40 : NB σ ≤ 40) (hI : INL σ < NB σ) : fX5_nextBatch M = some (nxt σ) := by
  have w2 := (hWB.1 _ hI).2.1
  have w3 := (hWB.1 _ hI).2.2.1
  unfold fX5_nextBatch nxt
  rw [hC.1.2.2.2.2.2.2.2.2, Option.bind_some, if_pos (by omega), C_waiting hC.2.2.2.2.2.2.1 hC.2.2.2.2.2.2.2.2.1 hWB hI h40, Option.bind_some]
  by_cases z : ENT σ (INL σ) < ORD σ (INL σ)
  · rw [if_pos z, if_neg (show ¬ nI (ORD σ (INL σ) - ENT σ (INL σ)) ≤ 0 by rw [Lt0, cLe (by omega) (by omega)]; omega)]
  · rw [if_neg z, if_pos (show nI (ORD σ (INL σ) - ENT σ (INL σ)) ≤ 0 by rw [Lt0, cLe (by omega) (by omega)]; omega)]
    exact C_next_L hC hWB hWG h40 hI (NB σ - 1) 1 400 (by omega) (by omega)
/-! what a unit that goes changes -/
theorem pur_f {t b p f : Nat} (h : f < 23 ∨ 26 < f) : pur σ t b p f = σ f := by
  unfold pur
  split
  · exact us_f (by omega)
  · rw [us_f (by omega), us_f (by omega), us_f (by omega)]
theorem go1_f {τ b p f : Nat} (h : f < 13 ∨ (15 < f ∧ f < 23) ∨ 26 < f) : go1 σ τ b p f = σ f := by
  unfold go1
  split
  · exact us_f (by omega)
  · split
    · rw [pur_f (by omega), us_f (by omega)]
    · rw [pur_f (by omega), us_f (by omega)]
theorem go2_f {b p f : Nat} (h1 : f ≠ 19) (h2 : f ≠ 20) : go2 σ b p f = σ f := by
  unfold go2
  split
  · rw [us_f h1, us_f h2]
  · rfl
theorem go3_f {s b p f : Nat} (h1 : f ≠ 0) (h2 : f ≠ 4) : go3 σ s b p f = σ f := by
  unfold go3
  split
  · funext i
    dsimp only
    rw [if_neg (show ¬ (f = 0 ∧ i = 8) from fun z => h1 z.1), if_neg (show ¬ (f = 4 ∧ i ≤ s) from fun z => h2 z.1)]
  · rfl
theorem go3_0 {s b p i : Nat} (h : i ≠ 8) : go3 σ s b p 0 i = σ 0 i := by
  unfold go3
  split
  · dsimp only
    rw [if_neg (show ¬ (0 = 0 ∧ i = 8) from fun z => h z.2), if_neg (show ¬ (0 = 4 ∧ i ≤ s) by omega)]
  · rfl
theorem snd_f {τ f : Nat} (h : f ≠ 0 ∧ f ≠ 4 ∧ (f < 13 ∨ (15 < f ∧ f < 19) ∨ (20 < f ∧ f < 23) ∨ 26 < f)) : snd σ τ f = σ f := by
  unfold snd
  rw [go3_f (by omega) (by omega), go2_f (by omega) (by omega), go1_f (by omega)]
theorem snd_0 {τ i : Nat} (h : i ≠ 8) : snd σ τ 0 i = σ 0 i := by
  unfold snd
  rw [go3_0 h, go2_f (by omega) (by omega), go1_f (by omega)]
theorem snd_4 {τ i : Nat} : snd σ τ 4 i = if PIG σ = cod (UB σ (off σ (tsg σ τ))) (UP σ (off σ (tsg σ τ))) + 1 ∧ i ≤ tsg σ τ then 0 else σ 4 i := by
  unfold snd go3
  have hp : PIG (go2 (go1 σ τ (UB σ (off σ (tsg σ τ))) (UP σ (off σ (tsg σ τ)))) (UB σ (off σ (tsg σ τ))) (UP σ (off σ (tsg σ τ)))) = PIG σ := by unfold PIG; rw [go2_f (by omega) (by omega), go1_f (by omega)]
  rw [hp]
  have h4 : go2 (go1 σ τ (UB σ (off σ (tsg σ τ))) (UP σ (off σ (tsg σ τ)))) (UB σ (off σ (tsg σ τ))) (UP σ (off σ (tsg σ τ))) 4 = σ 4 := by rw [go2_f (by omega) (by omega), go1_f (by omega)]
  by_cases z : PIG σ = cod (UB σ (off σ (tsg σ τ))) (UP σ (off σ (tsg σ τ))) + 1
  · rw [if_pos z, if_neg (show ¬ (4 = 0 ∧ i = 8) by omega), h4]
    by_cases y : i ≤ tsg σ τ
    · rw [if_pos ⟨rfl, y⟩, if_pos ⟨z, y⟩]
    · rw [if_neg (fun q => y q.2), if_neg (fun q => y q.2)]
  · rw [if_neg z, if_neg (fun q => z q.1), h4]
theorem snd_19 {τ i : Nat} (hu : UP σ (off σ (tsg σ τ)) = 0 → FG σ (UB σ (off σ (tsg σ τ))) = 0) : snd σ τ 19 i = if UP σ (off σ (tsg σ τ)) = 0 ∧ i = UB σ (off σ (tsg σ τ)) then 1 else σ 19 i := by
  unfold snd
  rw [go3_f (by omega) (by omega)]
  unfold go2
  by_cases z : UP σ (off σ (tsg σ τ)) = 0
  · rw [if_pos z]
    unfold us
    by_cases y : i = UB σ (off σ (tsg σ τ))
    · rw [if_pos ⟨rfl, y⟩, if_pos ⟨z, y⟩]
    · rw [if_neg (fun q => y q.2), if_neg (fun q => y q.2), if_neg (by omega), go1_f (by omega)]
  · rw [if_neg z, if_neg (fun q => z q.1), go1_f (by omega)]
theorem WN_snd {τ : Nat} (hW : WF σ) (ho : OPN σ = 1) : WN (snd σ τ) := by
  obtain ⟨hA, hWS, hWG, hWT, hWB, hWK, -, hWO, -, hWU⟩ := id hW
  have h0 : ∀ i, i ≠ 8 → snd σ τ 0 i = σ 0 i := fun i hi => snd_0 hi
  have hf : ∀ f, f ≠ 0 ∧ f ≠ 4 ∧ (f < 13 ∨ (15 < f ∧ f < 19) ∨ (20 < f ∧ f < 23) ∨ 26 < f) → snd σ τ f = σ f := fun f h => snd_f h
  have hd : ∀ i, i < 6 → DIR (snd σ τ) i ≤ 200 := by
    intro i hi
    have := hWS.2 i hi
    unfold DIR at *
    rw [snd_4]
    split <;> omega
  have hu := fun j (hj : j < LEN σ) => WF_unit hW ho hj
  unfold WN
  refine ⟨?_, ?_, ?_, ⟨?_, hd⟩, ?_, ?_, ?_, ?_⟩
  · unfold NS at *; rw [h0 0 (by omega)]; exact hA.1
  · unfold NB at *; rw [h0 1 (by omega)]; exact hA.2.2.1
  · unfold OPN at *; rw [h0 2 (by omega)]; exact ho
  · have := hWS.1
    unfold NS HOL HEI LIM LA at *
    rw [h0 0 (by omega), hf 1 (by omega), hf 2 (by omega), hf 3 (by omega), hf 28 (by omega)]
    exact this
  · have := (hWO ho).1
    unfold LEN HOL NS at *
    rw [h0 15 (by omega), h0 0 (by omega), hf 1 (by omega)]
    exact this
  · intro j hj
    unfold LEN NB UB UP at *
    rw [h0 15 (by omega)] at hj
    rw [h0 1 (by omega), hf 21 (by omega), hf 22 (by omega)]
    exact ⟨(hu j hj).1, (hu j hj).2.1⟩
  · intro b hb
    have := hWB.1 b
    unfold NB PRD at *
    rw [h0 1 (by omega)] at hb
    rw [hf 10 (by omega)]
    exact (this hb).1
  · have := hA.2.2.2.2.2.2.2.2.1
    unfold INL NB at *
    rw [h0 3 (by omega), h0 1 (by omega)]
    exact this
theorem nxt_in {e : Nat} (hI : INL σ < NB σ) (h : nxt σ = some e) : e < NB σ ∧ (e ≠ INL σ → ENT σ e = 0 ∧ ENT σ (INL σ) = ORD σ (INL σ) ∨ ORD σ (INL σ) < ENT σ (INL σ)) ∧ (e = INL σ → ENT σ e < ORD σ e ∨ ENT σ e = 0) ∧ (e ≠ INL σ → 1 ≤ e ∧ ENT σ e = 0) := by
  unfold nxt at h
  by_cases z : ENT σ (INL σ) < ORD σ (INL σ)
  · rw [if_pos z] at h
    cases h
    exact ⟨hI, fun h => absurd rfl h, fun _ => Or.inl z, fun h => absurd rfl h⟩
  · rw [if_neg z] at h
    obtain ⟨h1, h2, h3, h4⟩ := fnd_some h
    rw [Bool.and_eq_true, decide_eq_true_eq] at h3
    refine ⟨by omega, fun _ => ?_, fun _ => Or.inr h3.1, fun _ => ⟨h1, h3.1⟩⟩
    rcases Nat.lt_or_ge (ORD σ (INL σ)) (ENT σ (INL σ)) with q | q
    · exact Or.inr q
    · exact Or.inl ⟨h3.1, by omega⟩
theorem C_moveOne0 (hC : EC σ l d o M) (hW : WF σ) (h : nxt σ = none) : fX5_moveOne M = some (nI 0, M) := by
  obtain ⟨hA, hWS, hWG, hWT, hWB, -⟩ := id hW
  unfold fX5_moveOne
  rw [C_nextBatch hC hWB hWG hA.2.2.1 hA.2.2.2.2.2.2.2.2.1, h, Option.bind_some, if_pos rfl]
  rfl
theorem C_moveOne (hC : EC σ l d o M) (hW : WF σ) (ho : OPN σ = 1) (hl : l ≤ 10) (hd : d ≤ 10) (h : nxt σ = some e) : ∃ M', fX5_moveOne M = some (nI 1, M') ∧ EC (one σ e (tap σ l d)) (if tap σ l d = 0 then l + 1 else l) (if tap σ l d = 1 then d + 1 else d) (if tap σ l d = 2 then o + 1 else o) M' ∧ Fr (fun k => k < 77) M M' := by
  obtain ⟨hA, hWS, hWG, hWT, hWB, hWK, -, hWO, hWL, hWU⟩ := id hW
  have h1 := hA.2.2.2.2.2.2.2.1 ho
  have hI := hA.2.2.2.2.2.2.2.2.1
  have hs := tsg_lt (l := l) (d := d) hWT h1
  obtain ⟨w1, -⟩ := hWS.1 _ hs
  have hL := WF_off hW ho hs (show 0 < HOL σ (tsg σ (tap σ l d)) by omega)
  rw [Nat.add_zero] at hL
  have hfg := (hWU ho).2.2.2.2.1 _ hL
  obtain ⟨u1, u2, u3, u4, u5⟩ := WF_unit hW ho hL
  obtain ⟨n1, n2, n3, n4⟩ := nxt_in hI h
  have e40 : e < 40 := by have := hA.2.2.1; omega
  have hτ : tap σ l d < 3 := by unfold tap; split <;> (try split) <;> omega
  obtain ⟨M1, q1, q2, q3⟩ := C_sendOff hC hW ho
  have hcell := tap_cell (l := l) (d := d) hC.2.1 ho
  have ho' : OPN (snd σ (tap σ l d)) = 1 := (snd_0 (by omega)).trans ho
  have e5 := (hWB.2 e (by omega)).2.1
  have hc2 : gi M1 (6 + tap σ l d) 0 = nI (tsg σ (tap σ l d)) := by
    obtain ⟨t1, t2, t3, t4, t5, t6, t7, t8, t9, t10⟩ := q2.2.1
    obtain ⟨s1, s2, s3, s4, s5, s6, s7, s8, s9, s10⟩ := hC.2.1
    have t8' := t8 ho'
    have s8' := s8 ho
    rw [← hcell]
    generalize tap σ l d = τ at *
    rcases (show τ = 0 ∨ τ = 1 ∨ τ = 2 by omega) with rfl | rfl | rfl
    · rw [t1, s1]; unfold LK; rw [snd_0 (by omega)]
    · rw [t4, s4]; unfold DR; rw [snd_0 (by omega)]
    · rw [t8', s8']; unfold NS; rw [snd_0 (by omega)]
  obtain ⟨M2, r1, r2, r3⟩ := C_bringIn (e := e) (s := tsg σ (tap σ l d)) q2 (WN_snd hW ho) (by unfold NB at *; rw [snd_0 (by omega)]; exact n1) (by unfold ENT at *; rw [snd_f (by omega)]; omega) (fun hne => by
    have hne : e ≠ INL σ := by unfold INL at *; rw [snd_0 (by omega)] at hne; exact hne
    obtain ⟨g1, g2⟩ := n4 hne
    have g3 := (hWB.2 e (by omega)).2.2.2.2.2.2
    have g4 := (hWB.2 e (by omega)).2.2.2.2.1
    unfold FG
    rw [snd_19 hfg, if_neg (fun z => by
      have := z.2
      rw [← this] at u3
      omega)]
    unfold FG at *
    omega) (by unfold NS at *; rw [snd_0 (by omega)]; exact hs)
  refine ⟨M2, ?_, r2, q3.tr r3⟩
  unfold fX5_moveOne
  rw [C_nextBatch hC hWB hWG hA.2.2.1 hI, h, Option.bind_some, if_neg (by simp), Option.bind_some, C_nextTap hC.2.1 hWT hA.1 hl hd, Option.bind_some, Option.bind_some, q1, Option.bind_some, if_pos hτ, hc2, r1]
  rfl
end On
