/-! THE REFERENCE'S UNITS MOVE ON; ITS MINUTE -/
section M63
variable {σ : Sp} {M : Mm} {e s τ l d : Nat}
/-- all from j on has moved, the batch e has one more -/
def Mv (σ : Sp) (e j : Nat) (M M' : Mm) : Prop := Fr (fun r => r = 77 ∨ r = 89 ∨ r = 97 ∨ r = 98) M M' ∧ (∀ i, i < 360 → gi M' 97 i = if i + 1 = LEN σ then nI e else if j ≤ i ∧ i + 1 < LEN σ then gi M 97 (i + 1) else gi M 97 i) ∧ (∀ i, i < 360 → gi M' 98 i = if i + 1 = LEN σ then gi M 89 e else if j ≤ i ∧ i + 1 < LEN σ then gi M 98 (i + 1) else gi M 98 i) ∧ (∀ i, gi M' 89 i = if i = e then gi M 89 e + 1 else gi M 89 i) ∧ (∀ i, i ≠ 24 → gi M' 77 i = gi M 77 i) ∧ gi M' 77 24 = gi M 77 24 + 1
theorem M_68 (he : e < 40) (hL1 : 1 ≤ LEN σ) (hL : LEN σ ≤ 360) : ∀ (m j n : Nat) (M : Mm), j + m + 1 = LEN σ → m < n → gi M 77 7 = nI (LEN σ) → ∃ M', fX6_moves_L68 n (nI e) (nI j) M = some M' ∧ Mv σ e j M M'
  | m, j, 0, M, h1, h2, h7 => by omega
  | 0, j, n + 1, M, h1, h2, h7 => by
    have hj : j = LEN σ - 1 := by omega
    have g := g6 (show LEN σ - 1 < 360 by omega) (by omega)
    have ge := g6 he (by omega)
    refine ⟨si (si (si (si M 97 (LEN σ - 1) (nI e)) 98 (LEN σ - 1) (gi M 89 e)) 89 e (gi M 89 e + 1)) 77 24 (gi M 77 24 + 1), ?_, (((Fr.rf.si (by omega)).si (by omega)).si (by omega)).si (by omega), fun i hi => ?_, fun i hi => ?_, fun i => ?_, fun i hi => ?_, ?_⟩
    · rw [fX6_moves_L68]
      dsimp only
      rw [h7, Lt1, cSub hL1, if_pos (show nI (LEN σ - 1) ≤ nI j by rw [cLe (by omega) (by omega)]; omega), cCl (show LEN σ - 1 < 2147483648 by omega), cCl (show e < 2147483648 by omega), if_pos g, if_pos ge, gi_ne (show ¬ (77 = 97 ∧ 7 = LEN σ - 1) by omega), h7, cSub hL1, if_pos (show ¬ (nI (LEN σ - 1) < 0 ∨ 360 ≤ (nI (LEN σ - 1)).toNatClampNeg) from gd (by omega) (by omega)), if_pos ge, if_pos ge, cCl (show LEN σ - 1 < 2147483648 by omega)]
      simp (disch := omega) only [gi_eq, gi_ne, gi_sr, gr_si, gr_eq, gr_ne]
    · rw [gi_ne (by omega), gi_ne (by omega), gi_ne (by omega), gi_if]
      by_cases z : i + 1 = LEN σ
      · rw [if_pos z, if_pos (by omega)]
      · rw [if_neg z, if_neg (show ¬ (97 = 97 ∧ i = LEN σ - 1) by omega), if_neg (show ¬ (j ≤ i ∧ i + 1 < LEN σ) by omega)]
    · rw [gi_ne (by omega), gi_ne (by omega), gi_if]
      by_cases z : i + 1 = LEN σ
      · rw [if_pos z, if_pos (by omega)]
      · rw [if_neg z, if_neg (show ¬ (98 = 98 ∧ i = LEN σ - 1) by omega), if_neg (show ¬ (j ≤ i ∧ i + 1 < LEN σ) by omega), gi_ne (by omega)]
    · rw [gi_ne (by omega), gi_if]
      by_cases z : i = e
      · rw [if_pos z, if_pos ⟨rfl, z⟩]
      · rw [if_neg z, if_neg (fun q => z q.2), gi_ne (by omega), gi_ne (by omega)]
    · rw [gi_ne (by omega), gi_ne (by omega), gi_ne (by omega), gi_ne (by omega)]
    · rw [gi_eq rfl rfl]
  | m + 1, j, n + 1, M, h1, h2, h7 => by
    have gj := g6 (show j < 360 by omega) (by omega)
    have gj1 := g6 (show j + 1 < 360 by omega) (by omega)
    obtain ⟨M', q1, q2, q3, q4, q5, q6, q7⟩ := M_68 he hL1 hL m (j + 1) n (si (si M 97 j (gi M 97 (j + 1))) 98 j (gi M 98 (j + 1))) (by omega) (by omega) (by rw [gi_ne (by omega), gi_ne (by omega)]; exact h7)
    refine ⟨M', ?_, Fr.tr ((Fr.rf.si (by omega)).si (by omega)) q2, fun i hi => ?_, fun i hi => ?_, fun i => ?_, fun i hi => ?_, ?_⟩
    · rw [fX6_moves_L68]
      dsimp only
      rw [h7, Lt1, cSub hL1, if_neg (show ¬ nI (LEN σ - 1) ≤ nI j by rw [cLe (by omega) (by omega)]; omega), cAdd, cCl (show j + 1 < 2147483648 by omega), cCl (show j < 2147483648 by omega), if_pos gj1, if_pos gj, if_pos gj1, if_pos gj, gi_ne (show ¬ (98 = 97 ∧ j + 1 = j) by omega)]
      exact q1
    · rw [q3 i hi]
      by_cases z : i + 1 = LEN σ
      · rw [if_pos z, if_pos z]
      · rw [if_neg z, if_neg z]
        by_cases y : j + 1 ≤ i ∧ i + 1 < LEN σ
        · rw [if_pos y, if_pos (show j ≤ i ∧ i + 1 < LEN σ by omega), gi_ne (by omega), gi_ne (by omega)]
        · rw [if_neg y, gi_ne (by omega), gi_if]
          by_cases x : i = j
          · rw [if_pos ⟨rfl, x⟩, if_pos (show j ≤ i ∧ i + 1 < LEN σ by omega), x]
          · rw [if_neg (fun q => x q.2), if_neg (show ¬ (j ≤ i ∧ i + 1 < LEN σ) by omega)]
    · rw [q4 i hi]
      by_cases z : i + 1 = LEN σ
      · rw [if_pos z, if_pos z, gi_ne (by omega), gi_ne (by omega)]
      · rw [if_neg z, if_neg z]
        by_cases y : j + 1 ≤ i ∧ i + 1 < LEN σ
        · rw [if_pos y, if_pos (show j ≤ i ∧ i + 1 < LEN σ by omega), gi_ne (by omega), gi_ne (by omega)]
        · rw [if_neg y, gi_if]
          by_cases x : i = j
          · rw [if_pos ⟨rfl, x⟩, if_pos (show j ≤ i ∧ i + 1 < LEN σ by omega), x]
          · rw [if_neg (fun q => x q.2), if_neg (show ¬ (j ≤ i ∧ i + 1 < LEN σ) by omega), gi_ne (by omega)]
    · rw [q5 i, gi_ne (by omega), gi_ne (by omega), gi_ne (by omega), gi_ne (by omega)]
    · rw [q6 i hi, gi_ne (by omega), gi_ne (by omega)]
    · rw [q7, gi_ne (by omega), gi_ne (by omega)]
/-- the encoding behind it -/
theorem M_mov {M' : Mm} (hE : EM' σ M) (hL : LEN σ ≤ 360) (ho : OPN σ = 1) (he : e < 40) (hs : off σ s < LEN σ) (hv : Mv σ e (off σ s) M M') : EM' (mov σ e s) M' := by
  obtain ⟨c1, c2, c3, c4, c5, c6, c7, c8, c9, c10, c11⟩ := id hE
  obtain ⟨v1, v2, v3, v4, v5, v6⟩ := hv
  have hr : ∀ k, k ≠ 77 → k ≠ 89 → k ≠ 97 → k ≠ 98 → M'.1 k = M.1 k := fun k h1 h2 h3 h4 => (v1 k (by omega)).1
  have m0 : ∀ i, i ≠ 4 → mov σ e s 0 i = σ 0 i := fun i hi => mov_0 hi
  have mf : ∀ f, f ≠ 12 → f ≠ 0 → f ≠ 21 → f ≠ 22 → f ≠ 28 → mov σ e s f = σ f := fun f h1 h2 h3 h4 h5 => mov_f h1 h2 h3 h4 h5
  refine ⟨?_, MT_c (fun j hj => v5 j (by omega)) (fun i hi => m0 i (by omega)) c2, MQ_c (fun j hj => v5 j (by omega)) (m0 8 (by omega)) c3, MS_c (fun k hk => hr k (by omega) (by omega) (by omega) (by omega)) (m0 0 (by omega)) (fun f hf => mf f (by omega) (by omega) (by omega) (by omega) (by omega)) c4, MG_c (fun k hk => hr k (by omega) (by omega) (by omega) (by omega)) (fun f hf => mf f (by omega) (by omega) (by omega) (by omega) (by omega)) c5, ?_, MB2_c (fun k hk => hr k (by omega) (by omega) (by omega) (by omega)) (m0 15 (by omega)) (fun f hf => mf f (by omega) (by omega) (by omega) (by omega) (by omega)) c7, MB3_c (fun k hk => hr k (by omega) (by omega) (by omega) (by omega)) (m0 1 (by omega)) (fun f hf => mf f (by omega) (by omega) (by omega) (by omega) (by omega)) c8, ?_, MK_c (fun k hk => hr k (by omega) (by omega) (by omega) (by omega)) (v5 38 (by omega)) (fun f hf => mf f (by omega) (by omega) (by omega) (by omega) (by omega)) c10, ML_c (hr 102 (by omega) (by omega) (by omega) (by omega)) (mf 27 (by omega) (by omega) (by omega) (by omega) (by omega)) c11⟩
  · obtain ⟨p1, p2, p3, p4, p5, p6, p7⟩ := c1
    unfold MP NS OPN LEN NB ALL RT RF at *
    rw [v5 1 (by omega), v5 6 (by omega), v5 7 (by omega), v5 12 (by omega), v6, v5 27 (by omega), v5 28 (by omega), m0 0 (by omega), m0 1 (by omega), m0 2 (by omega), mov_4, m0 5 (by omega), m0 6 (by omega), m0 15 (by omega), p5, Lt1, cAdd]
    exact ⟨p1, p2, p3, p4, rfl, p6, p7⟩
  · intro i hi
    obtain ⟨i1, i2, i3, i4⟩ := c6 i hi
    unfold ENT LEF DRO LEA at *
    rw [v4, gi_1 (hr 90 (by omega) (by omega) (by omega) (by omega)), gi_1 (hr 91 (by omega) (by omega) (by omega) (by omega)), gi_1 (hr 92 (by omega) (by omega) (by omega) (by omega)), mov_12, mf 13 (by omega) (by omega) (by omega) (by omega) (by omega), mf 14 (by omega) (by omega) (by omega) (by omega) (by omega), mf 15 (by omega) (by omega) (by omega) (by omega) (by omega)]
    refine ⟨?_, i2, i3, i4⟩
    have ee := (c6 e he).1
    by_cases z : i = e
    · rw [if_pos z, if_pos z, ee, Lt1, cAdd]
    · rw [if_neg z, if_neg z]
      exact i1
  · intro _ j hj
    have hj : j < LEN σ := by unfold LEN at *; rw [m0 15 (by omega)] at hj; exact hj
    have ee := (c6 e he).1
    unfold UB UP
    rw [v2 j (by omega), v3 j (by omega), mov_21, mov_22, ee]
    by_cases z : j + 1 = LEN σ
    · rw [if_pos z, if_pos z, if_pos z, if_pos z]
      exact ⟨rfl, rfl⟩
    · rw [if_neg z, if_neg z, if_neg z, if_neg z]
      by_cases y : off σ s ≤ j ∧ j + 1 < LEN σ
      · rw [if_pos y, if_pos y, if_pos y, if_pos y]
        exact c9 ho (j + 1) y.2
      · rw [if_neg y, if_neg y, if_neg y, if_neg y]
        exact c9 ho j hj
theorem M_link (hE : EM' σ M) (hne : e ≠ INL σ) : EM' (lnk σ e) (si (si (si M 93 e (nI (INL σ))) 94 (INL σ) (nI e)) 95 e (nI (LEN σ + ALL σ))) := by
  obtain ⟨c1, c2, c3, c4, c5, c6, c7, c8, c9, c10, c11⟩ := id hE
  have hr : ∀ k, ¬ (93 ≤ k ∧ k ≤ 95) → (si (si (si M 93 e (nI (INL σ))) 94 (INL σ) (nI e)) 95 e (nI (LEN σ + ALL σ))).1 k = M.1 k := fun k h => by rw [si_1 (by omega), si_1 (by omega), si_1 (by omega)]
  have m0 : ∀ i, i ≠ 3 → lnk σ e 0 i = σ 0 i := fun i hi => lnk_0 hne hi
  have mf : ∀ f, f ≠ 0 → f ≠ 16 → f ≠ 17 → f ≠ 18 → lnk σ e f = σ f := fun f h1 h2 h3 h4 => lnk_f hne h1 h2 h3 h4
  refine ⟨MP_c (fun j hj => gi_1 (hr 77 (by omega)) j) (fun i hi => m0 i (by omega)) c1, MT_c (fun j hj => gi_1 (hr 77 (by omega)) j) (fun i hi => m0 i (by omega)) c2, MQ_c (fun j hj => gi_1 (hr 77 (by omega)) j) (m0 8 (by omega)) c3, MS_c (fun k hk => hr k (by omega)) (m0 0 (by omega)) (fun f hf => mf f (by omega) (by omega) (by omega) (by omega)) c4, MG_c (fun k hk => hr k (by omega)) (fun f hf => mf f (by omega) (by omega) (by omega) (by omega)) c5, MB1_c (fun k hk => hr k (by omega)) (fun f hf => mf f (by omega) (by omega) (by omega) (by omega)) c6, ?_, MB3_c (fun k hk => hr k (by omega)) (m0 1 (by omega)) (fun f hf => mf f (by omega) (by omega) (by omega) (by omega)) c8, MU_c (fun k hk => hr k (by omega)) (m0 2 (by omega)) (m0 15 (by omega)) (fun f hf => mf f (by omega) (by omega) (by omega) (by omega)) c9, MK_c (fun k hk => hr k (by omega)) (gi_1 (hr 77 (by omega)) 38) (fun f hf => mf f (by omega) (by omega) (by omega) (by omega)) c10, ML_c (hr 102 (by omega)) (mf 27 (by omega) (by omega) (by omega) (by omega)) c11⟩
  intro i hi
  obtain ⟨i1, i2, i3, i4⟩ := c7 i hi
  have hl : LEN (lnk σ e) = LEN σ := m0 15 (by omega)
  rw [hl]
  unfold AHD BHD EBF FG KEP at *
  rw [lnk_16 hne, lnk_17 hne, lnk_18 hne, mf 19 (by omega) (by omega) (by omega) (by omega), mf 20 (by omega) (by omega) (by omega) (by omega)]
  refine ⟨?_, ?_, ?_, ?_⟩
  · rw [gi_ne (by omega), gi_ne (by omega), gi_if]
    by_cases z : i = e
    · rw [if_pos ⟨rfl, z⟩, if_pos z, nO_s]
    · rw [if_neg (fun q => z q.2), if_neg z]; exact i1
  · rw [gi_ne (by omega), gi_if]
    by_cases z : i = INL σ
    · rw [if_pos ⟨rfl, z⟩, if_pos z, nO_s]
    · rw [if_neg (fun q => z q.2), if_neg z, gi_ne (by omega)]; exact i2
  · by_cases z : i = e
    · rw [z, gi_eq rfl rfl, if_pos rfl, if_pos rfl]; exact fun _ => rfl
    · rw [if_neg z, if_neg z, gi_ne (by omega), gi_ne (by omega), gi_ne (by omega)]; exact i3
  · rw [gi_ne (by omega), gi_ne (by omega), gi_ne (by omega)]; exact i4
/-- one whole move -/
theorem M_moves (hE : EM' σ M) (h44 : gi M 77 44 = nI (if τ = 0 then 1 else 0)) (hW : WF σ) (ho : OPN σ = 1) (hτ : τ < 3) (h0 : τ = 0 → LK σ ≠ 0) (h1' : τ = 1 → DR σ ≠ 0) (hts : tsg σ τ < NS σ) (hn : nxt σ = some e) :
    ∃ M', fX6_moves (nI e) (nI (off σ (tsg σ τ))) (nI (tsg σ τ)) M = some M' ∧ EM' (one σ e τ) M' ∧ FM M M' ∧ gi M' 77 0 = gi M 77 0 ∧ (∀ j, 42 ≤ j → gi M' 77 j = gi M 77 j) := by
  obtain ⟨hA, hWS, hWG, hWT, hWB, hWK, -, hWO, hWL, hWU⟩ := id hW
  have h40 := hA.2.2.1
  have h6 := hA.1
  have h360 := hA.2.2.2.2.2.2.2.2.2.2.1
  have hI := hA.2.2.2.2.2.2.2.2.1
  obtain ⟨n1, n2, n3, n4⟩ := nxt_WF hW ho hn
  obtain ⟨w1, -⟩ := hWS.1 _ hts
  have hL := WF_off hW ho hts (show 0 < HOL σ (tsg σ τ) by omega)
  rw [Nat.add_zero] at hL
  obtain ⟨c1, c2, c3, c4, c5, c6, c7, c8, c9, c10, c11⟩ := id hE
  obtain ⟨u1, u2⟩ := c9 ho _ hL
  have hwB := hWB.2 e (by omega)
  have g := g6 (show off σ (tsg σ τ) < 360 by omega) (by omega)
  have ge := g6 (show e < 40 by omega) (by omega)
  obtain ⟨M1, q1, q2, q3, q4, q5⟩ := M_goesAway hE h44 hW ho hτ h0 h1' hts
  have sL : LEN (snd σ τ) = LEN σ := snd_0 (by omega)
  have sI : INL (snd σ τ) = INL σ := snd_0 (by omega)
  have sA : ALL (snd σ τ) = ALL σ := snd_0 (by omega)
  have sO : OPN (snd σ τ) = 1 := (snd_0 (by omega)).trans ho
  have sE : ENT (snd σ τ) e = ENT σ e := by unfold ENT; rw [snd_f (by omega)]
  have e89 : gi M1 89 e = nI (ENT σ e) := by rw [(q2.2.2.2.2.2.1 e (by omega)).1, sE]
  have hpre : fX6_moves (nI e) (nI (off σ (tsg σ τ))) (nI (tsg σ τ)) M = (if gi M1 89 e = 0 then fX6_moves_L68 400 (nI e) (nI (off σ (tsg σ τ))) (si (si (si M1 93 e (nI (INL σ))) 94 (INL σ) (nI e)) 95 e (nI (LEN σ + ALL σ))) else fX6_moves_L68 400 (nI e) (nI (off σ (tsg σ τ))) M1) := by
    unfold fX6_moves
    have hu3 := (q2.2.2.2.2.2.2.2.2.1 sO (LEN σ - 1) (by rw [sL]; omega)).1
    have hub : UB (snd σ τ) (LEN σ - 1) = INL σ := by unfold UB; rw [snd_f (by omega)]; exact (hWU ho).2.2.1
    rw [hub] at hu3
    have h7 : gi M1 77 7 = nI (LEN σ) := by rw [q2.1.2.2.1, sL]
    have h24 : gi M1 77 24 = nI (LEN σ + ALL σ) := by rw [q2.1.2.2.2.2.1, sL, sA]
    rw [cCl (show off σ (tsg σ τ) < 2147483648 by omega), if_pos g, if_pos g, u1, u2, q1, Option.bind_some, cCl (show e < 2147483648 by omega)]
    simp only [if_pos ge]
    rw [h7, Lt1, cSub (by omega), cCl (show LEN σ - 1 < 2147483648 by omega), if_pos (g6 (show LEN σ - 1 < 360 by omega) (by omega)), hu3, cCl (show INL σ < 2147483648 by omega), if_pos (g6 (show INL σ < 40 by omega) (by omega)), gi_ne (show ¬ (77 = 94 ∧ 24 = INL σ) by omega), gi_ne (show ¬ (77 = 93 ∧ 24 = e) by omega), h24]
  rw [hpre]
  unfold one brg
  by_cases z : e = INL σ
  · obtain ⟨M2, r1, r2⟩ := M_68 (σ := snd σ τ) (e := e) (by omega) (by omega) (by omega) (LEN σ - 1 - off σ (tsg σ τ)) (off σ (tsg σ τ)) 400 M1 (by omega) (by omega) (by rw [q2.1.2.2.1])
    have ho0 : off (snd σ τ) (tsg σ τ) = off σ (tsg σ τ) := off_c (snd_0 (by omega)) (snd_f (by omega)) _
    have hl : lnk (snd σ τ) e = snd σ τ := by unfold lnk; rw [if_pos (by rw [sI]; exact z)]
    have o5 := (hWO ho).2.2.2.2.1
    refine ⟨M2, ?_, ?_, Fr.tr q3 (r2.1.mono (fun k hk => by omega)), by rw [r2.2.2.2.2.1 0 (by omega), q4], fun j hj => by rw [r2.2.2.2.2.1 j (by omega), q5 j hj]⟩
    · rw [if_neg (show ¬ gi M1 89 e = 0 by rw [e89, Lt0, cEq (by omega) (by omega)]; rw [z]; omega)]
      exact r1
    · rw [hl]
      exact M_mov q2 (by omega) sO (by omega) (by omega) (by rw [ho0]; exact r2)
  · have hne : e ≠ INL (snd σ τ) := by rw [sI]; exact z
    have hlk := M_link q2 hne
    rw [sI, sL, sA] at hlk
    have lL : LEN (lnk (snd σ τ) e) = LEN σ := (lnk_0 hne (by omega)).trans sL
    have ho0 : off (lnk (snd σ τ) e) (tsg σ τ) = off σ (tsg σ τ) := one_off _
    obtain ⟨M2, r1, r2⟩ := M_68 (σ := lnk (snd σ τ) e) (e := e) (by omega) (by omega) (by omega) (LEN σ - 1 - off σ (tsg σ τ)) (off σ (tsg σ τ)) 400 _ (by omega) (by omega) (by rw [hlk.1.2.2.1])
    refine ⟨M2, ?_, ?_, Fr.tr q3 (Fr.tr (((Fr.rf.si (by omega)).si (by omega)).si (by omega)) (r2.1.mono (fun k hk => by omega))), by rw [r2.2.2.2.2.1 0 (by omega), gi_ne (by omega), gi_ne (by omega), gi_ne (by omega), q4], fun j hj => by rw [r2.2.2.2.2.1 j (by omega), gi_ne (by omega), gi_ne (by omega), gi_ne (by omega), q5 j hj]⟩
    · rw [if_pos (show gi M1 89 e = 0 by rw [e89, (n4 z).1]; rfl)]
      exact r1
    · exact M_mov hlk (by omega) ((lnk_0 hne (by omega)).trans sO) (by omega) (by omega) (by rw [ho0]; exact r2)
/-- 44 alone -/
theorem EM_44 {x : Int32} {j : Nat} (hE : EM' σ M) (hj : 42 ≤ j) : EM' σ (si M 77 j x) := by
  obtain ⟨c1, c2, c3, c4, c5, c6, c7, c8, c9, c10, c11⟩ := hE
  have h : ∀ i, i < 42 → gi (si M 77 j x) 77 i = gi M 77 i := fun i hi => gi_ne (by omega)
  have hr : ∀ k, k ≠ 77 → (si M 77 j x).1 k = M.1 k := fun k hk => si_1 hk
  exact ⟨MP_c (fun i hi => h i (by omega)) (fun _ _ => rfl) c1, MT_c (fun i hi => h i (by omega)) (fun _ _ => rfl) c2, MQ_c (fun i hi => h i (by omega)) rfl c3, MS_c (fun k hk => hr k (by omega)) rfl (fun _ _ => rfl) c4, MG_c (fun k hk => hr k (by omega)) (fun _ _ => rfl) c5, MB1_c (fun k hk => hr k (by omega)) (fun _ _ => rfl) c6, MB2_c (fun k hk => hr k (by omega)) rfl (fun _ _ => rfl) c7, MB3_c (fun k hk => hr k (by omega)) rfl (fun _ _ => rfl) c8, MU_c (fun k hk => hr k (by omega)) rfl rfl (fun _ _ => rfl) c9, MK_c (fun k hk => hr k (by omega)) (h 38 (by omega)) (fun _ _ => rfl) c10, ML_c (hr 102 (by omega)) rfl c11⟩
theorem EM_0 {x : Int32} (hE : EM' σ M) : EM' σ (si M 77 0 x) := by
  obtain ⟨c1, c2, c3, c4, c5, c6, c7, c8, c9, c10, c11⟩ := hE
  have h : ∀ i, i ≠ 0 → gi (si M 77 0 x) 77 i = gi M 77 i := fun i hi => gi_ne (by omega)
  have hr : ∀ k, k ≠ 77 → (si M 77 0 x).1 k = M.1 k := fun k hk => si_1 hk
  exact ⟨MP_c (fun i hi => h i (by omega)) (fun _ _ => rfl) c1, MT_c (fun i hi => h i (by omega)) (fun _ _ => rfl) c2, MQ_c (fun i hi => h i (by omega)) rfl c3, MS_c (fun k hk => hr k (by omega)) rfl (fun _ _ => rfl) c4, MG_c (fun k hk => hr k (by omega)) (fun _ _ => rfl) c5, MB1_c (fun k hk => hr k (by omega)) (fun _ _ => rfl) c6, MB2_c (fun k hk => hr k (by omega)) rfl (fun _ _ => rfl) c7, MB3_c (fun k hk => hr k (by omega)) rfl (fun _ _ => rfl) c8, MU_c (fun k hk => hr k (by omega)) rfl rfl (fun _ _ => rfl) c9, MK_c (fun k hk => hr k (by omega)) (h 38 (by omega)) (fun _ _ => rfl) c10, ML_c (hr 102 (by omega)) rfl c11⟩
/-- the segment at whose end the unit goes, and the counts -/
theorem M_b155 (K : Int32 → Int32 → Int32 → Int32 → Int32 → Mm → Option (Int32 × Mm)) (hE : EM' σ M) (hW : WF σ) (ho : OPN σ = 1) (hτ : τ = tap σ l d) (h44 : gi M 77 44 = nI (if τ = 0 then 1 else 0)) (hn : nxt σ = some e) {x1 x4 x5 : Int32} :
    ∃ M', fX6_passesMinute_b121 K x1 (nI l) (nI d) x4 x5 (nI e) (nI (if τ = 1 then 1 else 0)) M = K (x1 + 1) (nI (if τ = 0 then l + 1 else l)) (nI (if τ = 1 then d + 1 else d)) x4 (x5 + 1) M' ∧ EM' (one σ e τ) M' ∧ FM M M' ∧ gi M' 77 0 = gi M 77 0 ∧ gi M' 77 43 = gi M 77 43 := by
  obtain ⟨hA, hWS, hWG, hWT, hWB, hWK, -, hWO, hWL, hWU⟩ := id hW
  have h6 := hA.1
  have hn1 := hA.2.2.2.2.2.2.2.1 ho
  have hts := tsg_lt (l := l) (d := d) hWT hn1
  rw [← hτ] at hts
  have hτ3 : τ < 3 := by rw [hτ]; unfold tap; split <;> (try split) <;> omega
  have h0 : τ = 0 → LK σ ≠ 0 := fun z => by rw [hτ] at z; unfold tap at z; split at z; rename_i q; exact q.1; split at z <;> omega
  have h1 : τ = 1 → DR σ ≠ 0 := fun z => by rw [hτ] at z; unfold tap at z; split at z; omega; split at z; rename_i q; exact q.1; omega
  obtain ⟨M', q1, q2, q3, q4, q5⟩ := M_moves hE h44 hW ho hτ3 h0 h1 hts hn
  refine ⟨M', ?_, q2, q3, q4, q5 43 (by omega)⟩
  have b155 : fX6_passesMinute_b121 K x1 (nI l) (nI d) x4 x5 (nI e) (nI (if τ = 1 then 1 else 0)) M = fX6_passesMinute_b155 K x1 (nI l) (nI d) x4 x5 (nI e) (nI (if τ = 1 then 1 else 0)) (nI (tsg σ τ)) M := by
    unfold fX6_passesMinute_b121
    rw [h44]
    rcases (show τ = 0 ∨ τ = 1 ∨ τ = 2 by omega) with z | z | z
    · have := h0 z
      rw [if_neg (show ¬ nI (if τ = 0 then 1 else 0) = 0 by rw [if_pos z]; decide), hE.2.1.2.2.2.1, nO_p (by omega)]
      unfold tsg
      rw [if_pos z]
    · have := h1 z
      rw [if_pos (show nI (if τ = 0 then 1 else 0) = 0 by rw [if_neg (by omega)]; rfl), if_neg (show ¬ nI (if τ = 1 then 1 else 0) = 0 by rw [if_pos z]; decide), hE.2.1.1, nO_p (by omega)]
      unfold tsg
      rw [if_neg (show ¬ τ = 0 by omega), if_pos z, if_pos z]
    · rw [if_pos (show nI (if τ = 0 then 1 else 0) = 0 by rw [if_neg (by omega)]; rfl), if_pos (show nI (if τ = 1 then 1 else 0) = 0 by rw [if_neg (by omega)]; rfl), hE.1.1, Lt1, cSub hn1]
      unfold tsg
      rw [if_neg (show ¬ τ = 0 by omega), if_neg (show ¬ τ = 1 by omega), if_neg (show ¬ τ = 1 by omega)]
  have b183 : ∀ y z : Int32, fX6_passesMinute_b183 K x1 y x4 x5 (nI e) (nI (tsg σ τ)) (nI d) z M = K (x1 + 1) y (nI d + z) x4 (x5 + 1) M' := by
    intro y z
    unfold fX6_passesMinute_b183
    rw [M_lastOf hE.1.1 hE.2.2.2.1 h6 hts, Option.bind_some, q1, Option.bind_some]
  rw [b155]
  unfold fX6_passesMinute_b155 fX6_passesMinute_b170
  rw [h44, b183, b183, b183, b183]
  rcases (show τ = 0 ∨ τ = 1 ∨ τ = 2 by omega) with z | z | z
  · rw [if_neg (show ¬ nI (if τ = 0 then 1 else 0) = 0 by rw [if_pos z]; decide), if_pos (show nI (if τ = 1 then 1 else 0) = 0 by rw [if_neg (by omega)]; rfl), if_pos z, if_neg (show ¬ τ = 1 by omega), Lt1, Lt0, cAdd, cAdd]
    rfl
  · rw [if_pos (show nI (if τ = 0 then 1 else 0) = 0 by rw [if_neg (by omega)]; rfl), if_neg (show ¬ nI (if τ = 1 then 1 else 0) = 0 by rw [if_pos z]; decide), if_neg (show ¬ τ = 0 by omega), if_pos z, Lt1, Lt0, cAdd, cAdd]
    rfl
  · rw [if_pos (show nI (if τ = 0 then 1 else 0) = 0 by rw [if_neg (by omega)]; rfl), if_pos (show nI (if τ = 1 then 1 else 0) = 0 by rw [if_neg (by omega)]; rfl), if_neg (show ¬ τ = 0 by omega), if_neg (show ¬ τ = 1 by omega), Lt0, cAdd, cAdd]
    rfl
theorem M_b61 (K : Int32 → Int32 → Int32 → Int32 → Int32 → Mm → Option (Int32 × Mm)) (hE : EM' σ M) (hW : WF σ) (ho : OPN σ = 1) (hl : l ≤ 10) (hd : d ≤ 10) (hn : nxt σ = some e) {x1 x5 : Int32} :
    ∃ M', fX6_passesMinute_b61 K x1 (nI l) (nI d) x5 (nI e) (nI 1) M = K (x1 + 1) (nI (if tap σ l d = 0 then l + 1 else l)) (nI (if tap σ l d = 1 then d + 1 else d)) (nI 1) (x5 + 1) M' ∧ EM' (one σ e (tap σ l d)) M' ∧ FM M M' ∧ gi M' 77 0 = gi M 77 0 ∧ gi M' 77 43 = gi M 77 43 := by
  obtain ⟨hA, hWS, hWG, hWT, -⟩ := id hW
  have h6 := hA.1
  obtain ⟨t1, t2, t3, t4, t5, t6⟩ := hWT
  obtain ⟨m1', m2', m3', m4', m5', m6'⟩ := id hE.2.1
  have dLK := (show LK σ ≠ 0 → LK σ < NS σ from t1)
  have dDR := (show DR σ ≠ 0 → DR σ < NS σ from t3)
  -- the drop
  have b90 : ∀ c : Nat, c = (if tap σ l d = 0 then 1 else 0) → ∃ M', fX6_passesMinute_b90 K x1 (nI l) (nI d) (nI 1) x5 (nI e) (nI c) M = K (x1 + 1) (nI (if tap σ l d = 0 then l + 1 else l)) (nI (if tap σ l d = 1 then d + 1 else d)) (nI 1) (x5 + 1) M' ∧ EM' (one σ e (tap σ l d)) M' ∧ FM M M' ∧ gi M' 77 0 = gi M 77 0 ∧ gi M' 77 43 = gi M 77 43 := by
    intro c hc
    have hE2 : EM' σ (si M 77 44 (nI c)) := EM_44 hE (by omega)
    obtain ⟨M', q1, q2, q3, q4⟩ := M_b155 (x1 := x1) (x4 := nI 1) (x5 := x5) K hE2 hW ho (τ := tap σ l d) rfl (by rw [gi_eq rfl rfl, hc]) hn
    refine ⟨M', ?_, q2, Fr.tr (Fr.rf.si (by omega)) q3, by rw [q4.1, gi_ne (by omega)], by rw [q4.2, gi_ne (by omega)]⟩
    rw [← q1]
    unfold fX6_passesMinute_b90
    have g29 : gi (si M 77 44 (nI c)) 77 29 = nO (DR σ) := by rw [gi_ne (by omega)]; exact m1'
    have g30 : gi (si M 77 44 (nI c)) 77 30 = nI (DRU σ) := by rw [gi_ne (by omega)]; exact m2'
    rw [gi_eq rfl rfl, g29, g30]
    unfold fX6_passesMinute_b120
    by_cases z : tap σ l d = 0
    · rw [if_neg (show ¬ nI c = 0 by rw [hc, if_pos z]; decide), if_neg (show ¬ tap σ l d = 1 by omega)]
      rfl
    · rw [if_pos (show nI c = 0 by rw [hc, if_neg z]; rfl)]
      by_cases y : DR σ = 0
      · rw [y, nO_0, if_pos (show nM = -1 from rfl), if_neg (show ¬ tap σ l d = 1 from fun q => by unfold tap at q; split at q; omega; split at q; rename_i w; exact w.1 y; omega)]
        rfl
      · have := dDR y
        rw [nO_p (by omega), if_neg (show ¬ nI (DR σ - 1) = -1 by rw [show (-1 : Int32) = nM from rfl, cMe (by omega)]; exact fun q => q)]
        by_cases x : d < DRU σ
        · rw [if_neg (show ¬ nI (DRU σ) ≤ nI d by rw [cLe (by omega) (by omega)]; omega), if_pos (show tap σ l d = 1 by
            unfold tap at z ⊢
            split
            · rename_i w; rw [if_pos w] at z; omega
            · rw [if_pos ⟨y, x⟩])]
          rfl
        · rw [if_pos (show nI (DRU σ) ≤ nI d by rw [cLe (by omega) (by omega)]; omega), if_neg (show ¬ tap σ l d = 1 from fun q => by unfold tap at q; split at q; omega; split at q; rename_i w; exact x w.2; omega)]
          rfl
  unfold fX6_passesMinute_b61 fX6_passesMinute_b89
  rw [if_neg (show ¬ nI 1 = 0 by decide), m4', m5']
  by_cases y : LK σ = 0
  · rw [y, nO_0, if_pos (show nM = -1 from rfl)]
    exact b90 0 (by rw [if_neg]; intro q; unfold tap at q; split at q; rename_i w; exact w.1 y; split at q <;> omega)
  · have := dLK y
    rw [nO_p (by omega), if_neg (show ¬ nI (LK σ - 1) = -1 by rw [show (-1 : Int32) = nM from rfl, cMe (by omega)]; exact fun q => q)]
    by_cases x : l < LKU σ
    · rw [if_neg (show ¬ nI (LKU σ) ≤ nI l by rw [cLe (by omega) (by omega)]; omega)]
      exact b90 1 (by rw [if_pos]; unfold tap; rw [if_pos ⟨y, x⟩])
    · rw [if_pos (show nI (LKU σ) ≤ nI l by rw [cLe (by omega) (by omega)]; omega)]
      exact b90 0 (by rw [if_neg]; intro q; unfold tap at q; split at q; rename_i w; exact x w.2; split at q <;> omega)
end M63
