/-! THE REFERENCE'S MOVE AND MINUTE -/
section M62
variable {σ : Sp} {M : Mm} {b p s τ e : Nat}
theorem M_clean_L (hs : s < 6) : ∀ (m k n : Nat) (M : Mm), k + m = s + 1 → m < n → ∃ M', fX6_clean_L2 n (nI s) (nI k) M = some M' ∧ Fr (fun r => r = 77 ∨ r = 81) M M' ∧ gi M' 77 39 = nI 0 ∧ (∀ j, j ≠ 39 → gi M' 77 j = gi M 77 j) ∧ ∀ i, gi M' 81 i = if k ≤ i ∧ i ≤ s then nI 0 else gi M 81 i
  | m, k, 0, M, h1, h2 => by omega
  | 0, k, n + 1, M, h1, h2 => by
    refine ⟨si M 77 39 (nI 0), ?_, Fr.rf.si (Or.inl rfl), gi_eq rfl rfl, fun j hj => gi_ne (by omega), fun i => ?_⟩
    · rw [fX6_clean_L2]
      dsimp only
      rw [if_pos (show nI s < nI k by rw [cLt (by omega) (by omega)]; omega)]
      rfl
    · rw [if_neg (show ¬ (k ≤ i ∧ i ≤ s) by omega), gi_ne (by omega)]
  | m + 1, k, n + 1, M, h1, h2 => by
    obtain ⟨M', q1, q2, q3, q4, q5⟩ := M_clean_L hs m (k + 1) n (si M 81 k (nI 0)) (by omega) (by omega)
    refine ⟨M', ?_, Fr.tr (Fr.rf.si (Or.inr rfl)) q2, q3, fun j hj => by rw [q4 j hj, gi_ne (by omega)], fun i => ?_⟩
    · rw [fX6_clean_L2]
      dsimp only
      rw [if_neg (show ¬ nI s < nI k by rw [cLt (by omega) (by omega)]; omega), cCl (show k < 2147483648 by omega), if_pos (g6 (show k < 6 by omega) (by omega)), Lt1, cAdd]
      exact q1
    · rw [q5 i]
      by_cases z : i = k
      · subst z
        rw [if_neg (show ¬ (i + 1 ≤ i ∧ i ≤ s) by omega), if_pos (show i ≤ i ∧ i ≤ s by omega), gi_eq rfl rfl]
      · by_cases y : k + 1 ≤ i ∧ i ≤ s
        · rw [if_pos y, if_pos (show k ≤ i ∧ i ≤ s by omega)]
        · rw [if_neg y, if_neg (show ¬ (k ≤ i ∧ i ≤ s) by omega), gi_ne (by omega)]
/-- the first unit of a batch goes -/
theorem M_b101 (h24 : gi M 77 24 = nI (LEN σ + ALL σ)) (h95 : b ≠ 0 → gi M 95 b = nI (LEN σ + EBF σ b)) (hE : EBF σ b ≤ ALL σ) (hA : ALL σ ≤ 7800) (hb : b < 40) (hp : p < 512) : ∃ M', fX6_goesAway_b101 (nI b) (nI p) M = some M' ∧ Fr (fun r => r = 96) M M' ∧ ∀ i, gi M' 96 i = if p = 0 ∧ b ≠ 0 ∧ i = b then nI (isq (ALL σ - EBF σ b)) else gi M 96 i := by
  unfold fX6_goesAway_b101
  by_cases z : p = 0
  · rw [if_pos (show nI p = 0 by rw [z]; rfl)]
    by_cases y : b = 0
    · refine ⟨M, ?_, Fr.rf, fun i => by rw [if_neg (fun q => q.2.1 y)]⟩
      rw [if_pos (show nI b ≤ 0 by rw [y]; decide)]
    · refine ⟨si M 96 b (nI (isq (ALL σ - EBF σ b))), ?_, Fr.rf.si rfl, fun i => ?_⟩
      · have g := g6 hb (by omega)
        rw [if_neg (show ¬ nI b ≤ 0 by rw [Lt0, cLe (by omega) (by omega)]; omega), cCl (show b < 2147483648 by omega), if_pos g, h24, h95 y, pk_sub (by omega), show LEN σ + ALL σ - (LEN σ + EBF σ b) = ALL σ - EBF σ b by omega, M_root (by omega), Option.bind_some, if_pos g]
      · by_cases x : i = b
        · rw [if_pos ⟨z, y, x⟩, gi_eq rfl x]
        · rw [if_neg (fun q => x q.2.2), gi_ne (by omega)]
  · refine ⟨M, ?_, Fr.rf, fun i => by rw [if_neg (fun q => z q.1)]⟩
    rw [if_neg (show ¬ nI p = 0 by rw [Lt0, cEq (by omega) (by omega)]; exact z)]
theorem go1_n {i : Nat} : LEF (go1 σ τ b p) i = (if ¬ τ = 0 ∧ ¬ τ = 1 ∧ i = b then LEF σ b + 1 else LEF σ i) ∧ DRO (go1 σ τ b p) i = (if τ = 1 ∧ i = b then DRO σ b + 1 else DRO σ i) ∧ LEA (go1 σ τ b p) i = (if τ = 0 ∧ i = b then LEA σ b + 1 else LEA σ i) := by
  unfold go1 LEF DRO LEA
  by_cases z : τ = 0
  · rw [if_pos z, us_f (f' := 13) (by omega), us_f (f' := 14) (by omega), if_neg (fun q => q.1 z), if_neg (by omega)]
    refine ⟨rfl, rfl, ?_⟩
    unfold us
    by_cases y : i = b
    · rw [if_pos ⟨rfl, y⟩, if_pos ⟨z, y⟩]
    · rw [if_neg (fun q => y q.2), if_neg (fun q => y q.2)]
  · rw [if_neg z, if_neg (show ¬ (τ = 0 ∧ i = b) from fun q => z q.1)]
    by_cases x : τ = 1
    · rw [if_pos x, pur_f (by omega), pur_f (by omega), pur_f (by omega), us_f (f' := 13) (by omega), us_f (f' := 15) (by omega), if_neg (fun q => q.2.1 x)]
      refine ⟨rfl, ?_, rfl⟩
      unfold us
      by_cases y : i = b
      · rw [if_pos ⟨rfl, y⟩, if_pos ⟨x, y⟩]
      · rw [if_neg (fun q => y q.2), if_neg (fun q => y q.2)]
    · rw [if_neg x, pur_f (by omega), pur_f (by omega), pur_f (by omega), us_f (f' := 14) (by omega), us_f (f' := 15) (by omega), if_neg (show ¬ (τ = 1 ∧ i = b) from fun q => x q.1)]
      refine ⟨?_, rfl, rfl⟩
      unfold us
      by_cases y : i = b
      · rw [if_pos ⟨rfl, y⟩, if_pos ⟨z, x, y⟩]
      · rw [if_neg (fun q => y q.2), if_neg (fun q => y q.2.2)]
theorem go1_K {g : Nat} (hg : 23 ≤ g ∧ g ≤ 26) : go1 σ τ b p g = if τ = 0 then σ g else pur σ (ttk σ τ) b p g := by
  unfold go1 ttk
  by_cases z : τ = 0
  · rw [if_pos z, if_pos z, us_f (by omega)]
  · rw [if_neg z, if_neg z]
    by_cases y : τ = 1
    · rw [if_pos y, if_pos y, pur_us (by omega) hg]
    · rw [if_neg y, if_neg y, pur_us (by omega) hg]
theorem snd_g {g : Nat} (hg : g = 13 ∨ g = 14 ∨ g = 15 ∨ (23 ≤ g ∧ g ≤ 26)) : snd σ τ g = go1 σ τ (UB σ (off σ (tsg σ τ))) (UP σ (off σ (tsg σ τ))) g := by
  unfold snd
  rw [go3_f (by omega) (by omega), go2_f (by omega) (by omega)]
theorem snd_K {i : Nat} : snd σ τ 20 i = if UP σ (off σ (tsg σ τ)) = 0 ∧ i = UB σ (off σ (tsg σ τ)) then isq (ALL σ - EBF σ i) else KEP σ i := by
  unfold snd
  rw [go3_f (by omega) (by omega)]
  unfold go2
  by_cases z : UP σ (off σ (tsg σ τ)) = 0
  · rw [if_pos z, us_f (by omega)]
    unfold us
    by_cases y : i = UB σ (off σ (tsg σ τ))
    · rw [if_pos ⟨rfl, y⟩, if_pos ⟨z, y⟩, y]
      unfold ALL EBF
      rw [go1_f (by omega), go1_f (by omega)]
    · rw [if_neg (fun q => y q.2), if_neg (fun q => y q.2), go1_f (by omega)]
  · rw [if_neg z, if_neg (fun q => z q.1), go1_f (by omega)]
/-- what goes: the counts, the tank, the first unit -/
theorem M_b28 (hX : MX σ M) (hG : MG σ M) (hK : MK σ M) (h1 : MB1 σ M) (hT : MT σ M) (h77 : gi M 77 1 = nI (NS σ)) (h44 : gi M 77 44 = nI (if τ = 0 then 1 else 0)) (hW : WF σ) (ho : OPN σ = 1) (hτ : τ < 3) (h0 : τ = 0 → LK σ ≠ 0) (h1' : τ = 1 → DR σ ≠ 0) (hb : b < NB σ) (hp : p < ENT σ b) :
    ∃ M', fX6_goesAway_b28 (nI b) (nI p) (nI (tsg σ τ)) M = some M' ∧ Fr (fun r => r = 77 ∨ (90 ≤ r ∧ r ≤ 92) ∨ r = 96 ∨ (99 ≤ r ∧ r ≤ 101)) M M' ∧ (∀ j, j ≠ 38 → gi M' 77 j = gi M 77 j) ∧ MB1 (go1 σ τ b p) M' ∧ MK (go1 σ τ b p) M' ∧ (∀ i, gi M' 96 i = if p = 0 ∧ b ≠ 0 ∧ i = b then nI (isq (ALL σ - EBF σ b)) else gi M 96 i) := by
  obtain ⟨hA, hWS, hWG, hWT, hWB, hWK, -, hWO, hWL, hWU⟩ := id hW
  have h40 := hA.2.2.1
  have h6 := hA.1
  have hn1 := hA.2.2.2.2.2.2.2.1 ho
  have hB := hWB.2 b (by omega)
  have hx2 := hX.2.1 b (by omega)
  have hahd := WF_ahd hW (show b < 40 by omega)
  have g := g6 (show b < 40 by omega) (by omega)
  obtain ⟨e1, e2, e3, e4⟩ := h1 b (by omega)
  unfold fX6_goesAway_b28
  rw [h77, Lt1, cSub hn1, cCl (show b < 2147483648 by omega)]
  simp only [if_pos g]
  have n1 : ∀ i, LEF (go1 σ τ b p) i = (if ¬ τ = 0 ∧ ¬ τ = 1 ∧ i = b then LEF σ b + 1 else LEF σ i) := fun i => go1_n.1
  have n2 : ∀ i, DRO (go1 σ τ b p) i = (if τ = 1 ∧ i = b then DRO σ b + 1 else DRO σ i) := fun i => go1_n.2.1
  have n3 : ∀ i, LEA (go1 σ τ b p) i = (if τ = 0 ∧ i = b then LEA σ b + 1 else LEA σ i) := fun i => go1_n.2.2
  have nE : ∀ i, ENT (go1 σ τ b p) i = ENT σ i := fun i => by unfold ENT; rw [go1_f (by omega)]
  -- the tanks and the first unit, behind the count
  have tail : ∀ (M1 : Mm) (t : Nat), t < 4 → τ ≠ 0 → t = ttk σ τ → Fr (fun r => 90 ≤ r ∧ r ≤ 92) M M1 → ∃ M', ((fX6_comesInto (nI t) (nI b) (nI p) M1).bind fun o10 => fX6_goesAway_b101 (nI b) (nI p) o10) = some M' ∧ Fr (fun r => r = 77 ∨ r = 96 ∨ (99 ≤ r ∧ r ≤ 101)) M1 M' ∧ (∀ j, j ≠ 38 → gi M' 77 j = gi M 77 j) ∧ MK (go1 σ τ b p) M' ∧ (∀ i, gi M' 96 i = if p = 0 ∧ b ≠ 0 ∧ i = b then nI (isq (ALL σ - EBF σ b)) else gi M 96 i) := by
    intro M1 t ht hτ0 htt hF
    have hr : ∀ k, ¬ (90 ≤ k ∧ k ≤ 92) → M1.1 k = M.1 k := fun k hk => (hF k hk).1
    have hX1 : MX σ M1 := ⟨fun i hi => by rw [gi_1 (hr 89 (by omega))]; exact hX.1 i hi, MB2_c (fun k hk => hr k (by omega)) rfl (fun _ _ => rfl) hX.2.1, fun i hi => by rw [gi_1 (hr 87 (by omega))]; exact hX.2.2.1 i hi, by rw [gi_1 (hr 77 (by omega))]; exact hX.2.2.2⟩
    have hG1 : MG σ M1 := MG_c (fun k hk => hr k (by omega)) (fun _ _ => rfl) hG
    have hK1 : MK σ M1 := MK_c (fun k hk => hr k (by omega)) (gi_1 (hr 77 (by omega)) 38) (fun _ _ => rfl) hK
    obtain ⟨M2, q1, q2, q3, q4⟩ := M_comes hX1 hG1 hK1 hW hb hp ht
    obtain ⟨M3, r1, r2, r3⟩ := M_b101 (σ := σ) (M := M2) (b := b) (p := p) (by rw [q4 24 (by omega)]; exact hX1.2.2.2) (fun hb0 => by rw [q3.gi (by omega), gi_1 (hr 95 (by omega))]; exact hx2.2.2.1 (fun z => by have := hahd.mp z; omega)) hB.2.2.1 hA.2.2.2.2.2.2.2.2.2.1 (by omega) (by omega)
    refine ⟨M3, by rw [q1, Option.bind_some]; exact r1, Fr.tr (q3.mono (fun k hk => by omega)) (r2.mono (fun k hk => by omega)), fun j hj => by rw [r2.gi (by omega), q4 j hj, gi_1 (hr 77 (by omega))], ?_, fun i => by rw [r3 i, q3.gi (by omega), gi_1 (hr 96 (by omega))]⟩
    refine MK_c (σ := pur σ t b p) (M := M2) (fun k hk => (r2 k (by omega)).1) (r2.gi (by omega) 38) (fun f hf => ?_) q2
    rw [go1_K hf, if_neg hτ0, htt]
  rcases (show τ = 0 ∨ τ = 1 ∨ τ = 2 by omega) with z | z | z
  · -- leak
    have hlk := hWT.1 (h0 z)
    have hts : tsg σ τ = LK σ - 1 := by unfold tsg; rw [if_pos z]
    have := h0 z
    obtain ⟨M3, r1, r2, r3⟩ := M_b101 (σ := σ) (M := si M 92 b (nI (LEA σ b + 1))) (b := b) (p := p) (by rw [gi_ne (by omega)]; exact hX.2.2.2) (fun hb0 => by rw [gi_ne (by omega)]; exact hx2.2.2.1 (fun z => by have := hahd.mp z; omega)) hB.2.2.1 hA.2.2.2.2.2.2.2.2.2.1 (by omega) (by omega)
    refine ⟨M3, ?_, Fr.tr (Fr.rf.si (by omega)) (r2.mono (fun k hk => by omega)), fun j hj => by rw [r2.gi (by omega), gi_ne (by omega)], ?_, ?_, fun i => by rw [r3 i, gi_ne (by omega)]⟩
    · rw [if_neg (show ¬ nI (tsg σ τ) = nI (NS σ - 1) by rw [cEq (by omega) (by omega)]; omega), h44, if_neg (show ¬ nI (if τ = 0 then 1 else 0) = 0 by rw [if_pos z]; decide), e4, cAdd]
      exact r1
    · intro i hi
      obtain ⟨i1, i2, i3, i4⟩ := h1 i hi
      rw [r2.gi (by omega), r2.gi (by omega), r2.gi (by omega), r2.gi (by omega), nE, n1, n2, n3, gi_ne (by omega), gi_ne (by omega), gi_ne (by omega), if_neg (fun q => q.1 z), if_neg (by omega), gi_if]
      refine ⟨i1, i2, i3, ?_⟩
      by_cases y : i = b
      · rw [if_pos ⟨rfl, y⟩, if_pos ⟨z, y⟩]
      · rw [if_neg (fun q => y q.2), if_neg (fun q => y q.2)]
        exact i4
    · refine MK_c (σ := σ) (M := M) (fun k hk => by rw [(r2 k (by omega)).1, si_1 (by omega)]) (by rw [r2.gi (by omega), gi_ne (by omega)]) (fun f hf => ?_) hK
      rw [go1_K hf, if_pos z]
  · -- drop
    have hdr := hWT.2.2.1 (h1' z)
    have hts : tsg σ τ = DR σ - 1 := by unfold tsg; rw [if_neg (by omega), if_pos z]
    have := h1' z
    obtain ⟨M3, r1, r2, r3, r4, r5⟩ := tail (si M 91 b (nI (DRO σ b + 1))) (DRT σ) hWT.2.2.2.2.1 (by omega) (by unfold ttk; rw [if_pos z]) (Fr.rf.si (by omega))
    refine ⟨M3, ?_, Fr.tr (Fr.rf.si (by omega)) (r2.mono (fun k hk => by omega)), r3, ?_, r4, r5⟩
    · rw [if_neg (show ¬ nI (tsg σ τ) = nI (NS σ - 1) by rw [cEq (by omega) (by omega)]; omega), h44, if_pos (show nI (if τ = 0 then 1 else 0) = 0 by rw [if_neg (by omega)]; rfl), e3, cAdd, gi_ne (by omega), hT.2.2.1]
      exact r1
    · intro i hi
      obtain ⟨i1, i2, i3, i4⟩ := h1 i hi
      rw [r2.gi (by omega), r2.gi (by omega), r2.gi (by omega), r2.gi (by omega), nE, n1, n2, n3, gi_ne (by omega), gi_ne (by omega), gi_ne (k' := 92) (by omega), if_neg (fun q => q.2.1 z), if_neg (show ¬ (τ = 0 ∧ i = b) by omega), gi_if]
      refine ⟨i1, i2, ?_, i4⟩
      by_cases y : i = b
      · rw [if_pos ⟨rfl, y⟩, if_pos ⟨z, y⟩]
      · rw [if_neg (fun q => y q.2), if_neg (fun q => y q.2)]
        exact i3
  · -- outlet
    have hts : tsg σ τ = NS σ - 1 := by unfold tsg; rw [if_neg (by omega), if_neg (by omega)]
    obtain ⟨M3, r1, r2, r3, r4, r5⟩ := tail (si M 90 b (nI (LEF σ b + 1))) (RCV σ) hWT.2.2.2.2.2 (by omega) (by unfold ttk; rw [if_neg (by omega)]) (Fr.rf.si (by omega))
    refine ⟨M3, ?_, Fr.tr (Fr.rf.si (by omega)) (r2.mono (fun k hk => by omega)), r3, ?_, r4, r5⟩
    · rw [if_pos (by rw [hts]), e2, cAdd, gi_ne (by omega), hT.2.2.2.2.2]
      exact r1
    · intro i hi
      obtain ⟨i1, i2, i3, i4⟩ := h1 i hi
      rw [r2.gi (by omega), r2.gi (by omega), r2.gi (by omega), r2.gi (by omega), nE, n1, n2, n3, gi_ne (by omega), gi_ne (k' := 91) (by omega), gi_ne (k' := 92) (by omega), if_neg (show ¬ (τ = 1 ∧ i = b) by omega), if_neg (show ¬ (τ = 0 ∧ i = b) by omega), gi_if]
      refine ⟨i1, ?_, i3, i4⟩
      by_cases y : i = b
      · rw [if_pos ⟨rfl, y⟩, if_pos ⟨by omega, by omega, y⟩]
      · rw [if_neg (fun q => y q.2), if_neg (fun q => y q.2.2)]
        exact i2
theorem M_goesAway (hE : EM' σ M) (h44 : gi M 77 44 = nI (if τ = 0 then 1 else 0)) (hW : WF σ) (ho : OPN σ = 1) (hτ : τ < 3) (h0 : τ = 0 → LK σ ≠ 0) (h1' : τ = 1 → DR σ ≠ 0) (hts : tsg σ τ < NS σ) :
    ∃ M', fX6_goesAway (nI (UB σ (off σ (tsg σ τ)))) (nI (UP σ (off σ (tsg σ τ)))) (nI (tsg σ τ)) M = some M' ∧ EM' (snd σ τ) M' ∧ FM M M' ∧ gi M' 77 0 = gi M 77 0 ∧ (∀ j, 42 ≤ j → gi M' 77 j = gi M 77 j) := by
  obtain ⟨hA, hWS, hWG, hWT, hWB, hWK, -, hWO, hWL, hWU⟩ := id hW
  have h40 := hA.2.2.1
  have h6 := hA.1
  obtain ⟨w1, -⟩ := hWS.1 _ hts
  have hL := WF_off hW ho hts (show 0 < HOL σ (tsg σ τ) by omega)
  rw [Nat.add_zero] at hL
  obtain ⟨u1, u2, u3, u4, u5⟩ := WF_unit hW ho hL
  have hfg := (hWU ho).2.2.2.2.1 _ hL
  obtain ⟨c1, c2, c3, c4, c5, c6, c7, c8, c9, c10, c11⟩ := id hE
  have hP := hA.2.2.2.2.2.2.2.2.2.2.2
  -- the pig
  have pig : ∃ M1, fX6_goesAway (nI (UB σ (off σ (tsg σ τ)))) (nI (UP σ (off σ (tsg σ τ)))) (nI (tsg σ τ)) M = fX6_goesAway_b28 (nI (UB σ (off σ (tsg σ τ)))) (nI (UP σ (off σ (tsg σ τ)))) (nI (tsg σ τ)) M1 ∧ Fr (fun r => r = 77 ∨ r = 81) M M1 ∧ (∀ j, j ≠ 39 → gi M1 77 j = gi M 77 j) ∧ MQp (snd σ τ) M1 ∧ ∀ i, i < 6 → gi M1 81 i = nI (snd σ τ 4 i) := by
    unfold fX6_goesAway
    have hp8 : PIG (snd σ τ) = if PIG σ = cod (UB σ (off σ (tsg σ τ))) (UP σ (off σ (tsg σ τ))) + 1 then 0 else PIG σ := snd_08
    have hcod : cod (UB σ (off σ (tsg σ τ))) (UP σ (off σ (tsg σ τ))) = UB σ (off σ (tsg σ τ)) * 512 + UP σ (off σ (tsg σ τ)) := rfl
    have stay : ¬ PIG σ = cod (UB σ (off σ (tsg σ τ))) (UP σ (off σ (tsg σ τ))) + 1 → MQp (snd σ τ) M ∧ ∀ i, i < 6 → gi M 81 i = nI (snd σ τ 4 i) := fun z => by
      rw [if_neg z] at hp8
      refine ⟨MQ_c (fun _ _ => rfl) hp8 c3, fun i hi => ?_⟩
      rw [snd_4, if_neg (fun q => z q.1)]
      exact (c4 i hi).2
    by_cases z : PIG σ = 0
    · refine ⟨M, ?_, Fr.rf, fun _ _ => rfl, stay (by omega)⟩
      rw [c3.1, if_pos z, if_pos (show nI 0 = 0 from rfl)]
    · obtain ⟨g1, g2⟩ := c3.2 z
      rw [c3.1, if_neg z, if_neg (show ¬ nI 1 = 0 by decide), g1, g2]
      by_cases y : PIG σ = cod (UB σ (off σ (tsg σ τ))) (UP σ (off σ (tsg σ τ))) + 1
      · obtain ⟨M1, q1, q2, q3, q4, q5⟩ := M_clean_L (s := tsg σ τ) (by omega) (tsg σ τ + 1) 0 400 M (by omega) (by omega)
        rw [if_pos y] at hp8
        refine ⟨M1, ?_, q2, q4, ?_, fun i hi => ?_⟩
        · rw [if_pos (by rw [show (PIG σ - 1) / 512 = UB σ (off σ (tsg σ τ)) by omega]), if_pos (by rw [show (PIG σ - 1) % 512 = UP σ (off σ (tsg σ τ)) by omega])]
          unfold fX6_clean
          rw [Lt0, q1, Option.bind_some]
        · refine ⟨?_, fun q => absurd hp8 q⟩
          rw [q3, if_pos hp8]
        · rw [q5, snd_4]
          by_cases x : i ≤ tsg σ τ
          · rw [if_pos ⟨Nat.zero_le i, x⟩, if_pos ⟨y, x⟩]
          · rw [if_neg (fun q => x q.2), if_neg (fun q => x q.2)]
            exact (c4 i hi).2
      · refine ⟨M, ?_, Fr.rf, fun _ _ => rfl, stay y⟩
        by_cases x : UB σ (off σ (tsg σ τ)) = (PIG σ - 1) / 512
        · rw [if_pos (by rw [x])]
          rw [if_neg (show ¬ nI (UP σ (off σ (tsg σ τ))) = nI ((PIG σ - 1) % 512) by rw [cEq (by omega) (by omega)]; omega)]
        · rw [if_neg (show ¬ nI (UB σ (off σ (tsg σ τ))) = nI ((PIG σ - 1) / 512) by rw [cEq (by omega) (by omega)]; exact x)]
  obtain ⟨M1, p1, p2, p3, p4, p5⟩ := pig
  have hr : ∀ k, k ≠ 77 → k ≠ 81 → M1.1 k = M.1 k := fun k h1 h2 => (p2 k (by omega)).1
  have hX1 : MX σ M1 := ⟨fun i hi => by rw [gi_1 (hr 89 (by omega) (by omega))]; exact (c6 i hi).1, MB2_c (fun k hk => hr k (by omega) (by omega)) rfl (fun _ _ => rfl) c7, fun i hi => by rw [gi_1 (hr 87 (by omega) (by omega))]; exact (c8 i hi).2.1, by rw [p3 24 (by omega)]; exact c1.2.2.2.2.1⟩
  obtain ⟨M2, q1, q2, q3, q4, q5, q6⟩ := M_b28 hX1 (MG_c (fun k hk => hr k (by omega) (by omega)) (fun _ _ => rfl) c5) (MK_c (fun k hk => hr k (by omega) (by omega)) (p3 38 (by omega)) (fun _ _ => rfl) c10) (MB1_c (fun k hk => hr k (by omega) (by omega)) (fun _ _ => rfl) c6) (MT_c (fun j hj => p3 j (by omega)) (fun _ _ => rfl) c2) (by rw [p3 1 (by omega)]; exact c1.1) (by rw [p3 44 (by omega)]; exact h44) hW ho hτ h0 h1' u1 u3
  refine ⟨M2, by rw [p1]; exact q1, ?_, Fr.tr (p2.mono (fun k hk => by omega)) (q2.mono (fun k hk => by omega)), by rw [q3 0 (by omega), p3 0 (by omega)], fun j hj => by rw [q3 j (by omega), p3 j (by omega)]⟩
  have hr2 : ∀ k, k ≠ 77 → k ≠ 81 → ¬ (90 ≤ k ∧ k ≤ 92) → k ≠ 96 → ¬ (99 ≤ k ∧ k ≤ 101) → M2.1 k = M.1 k := fun k h1 h2 h3 h4 h5 => ((q2 k (by omega)).1).trans (hr k h1 h2)
  have s0 : ∀ i, i ≠ 8 → snd σ τ 0 i = σ 0 i := fun i hi => snd_0 hi
  have sf : ∀ f, f ≠ 0 ∧ f ≠ 4 ∧ (f < 13 ∨ (15 < f ∧ f < 19) ∨ (20 < f ∧ f < 23) ∨ 26 < f) → snd σ τ f = σ f := fun f h => snd_f h
  refine ⟨MP_c (fun j hj => by rw [q3 j (by omega), p3 j (by omega)]) (fun i hi => s0 i (by omega)) c1, MT_c (fun j hj => by rw [q3 j (by omega), p3 j (by omega)]) (fun i hi => s0 i (by omega)) c2, MQ_c (fun j hj => q3 j (by omega)) rfl p4, ?_, MG_c (fun k hk => hr2 k (by omega) (by omega) (by omega) (by omega) (by omega)) (fun f hf => sf f (by omega)) c5, ?_, ?_, MB3_c (fun k hk => hr2 k (by omega) (by omega) (by omega) (by omega) (by omega)) (s0 1 (by omega)) (fun f hf => sf f (by omega)) c8, MU_c (fun k hk => hr2 k (by omega) (by omega) (by omega) (by omega) (by omega)) (s0 2 (by omega)) (s0 15 (by omega)) (fun f hf => sf f (by omega)) c9, ?_, ML_c (hr2 102 (by omega) (by omega) (by omega) (by omega) (by omega)) (sf 27 (by omega)) c11⟩
  · intro i hi
    have := c4 i hi
    refine ⟨fun h => ?_, ?_⟩
    · have h' : i < NS σ := by unfold NS at *; rw [s0 0 (by omega)] at h; exact h
      have := this.1 h'
      unfold HOL HEI LIM at *
      rw [gi_1 (hr2 78 (by omega) (by omega) (by omega) (by omega) (by omega)), gi_1 (hr2 79 (by omega) (by omega) (by omega) (by omega) (by omega)), gi_1 (hr2 80 (by omega) (by omega) (by omega) (by omega) (by omega)), sf 1 (by omega), sf 2 (by omega), sf 3 (by omega)]
      exact this
    · rw [q2.gi (by omega)]
      exact p5 i hi
  · refine MB1_c (σ := go1 σ τ (UB σ (off σ (tsg σ τ))) (UP σ (off σ (tsg σ τ)))) (fun _ _ => rfl) (fun f hf => ?_) q4
    rcases (show f = 12 ∨ f = 13 ∨ f = 14 ∨ f = 15 by omega) with rfl | rfl | rfl | rfl
    · rw [sf 12 (by omega), go1_f (by omega)]
    · exact snd_g (by omega)
    · exact snd_g (by omega)
    · exact snd_g (by omega)
  · intro i hi
    obtain ⟨i1, i2, i3, i4⟩ := c7 i hi
    have hl : LEN (snd σ τ) = LEN σ := s0 15 (by omega)
    rw [hl]
    unfold AHD BHD EBF FG KEP at *
    rw [gi_1 (hr2 93 (by omega) (by omega) (by omega) (by omega) (by omega)), gi_1 (hr2 94 (by omega) (by omega) (by omega) (by omega) (by omega)), gi_1 (hr2 95 (by omega) (by omega) (by omega) (by omega) (by omega)), sf 16 (by omega), sf 17 (by omega), sf 18 (by omega), q6, gi_1 (hr 96 (by omega) (by omega)), snd_19 hfg, snd_K]
    refine ⟨i1, i2, i3, fun hi1 => ?_⟩
    by_cases y : UP σ (off σ (tsg σ τ)) = 0 ∧ i = UB σ (off σ (tsg σ τ))
    · rw [if_pos ⟨y.1, by omega, y.2⟩, if_pos y, if_pos y, if_neg (show ¬ (1 = 0) by omega), y.2]
    · rw [if_neg (fun q => y ⟨q.1, q.2.2⟩), if_neg y, if_neg y]
      exact i4 hi1
  · exact MK_c (σ := go1 σ τ (UB σ (off σ (tsg σ τ))) (UP σ (off σ (tsg σ τ)))) (fun _ _ => rfl) rfl (fun f hf => snd_g (by omega)) q5
end M62
