/-! ONE MOVE KEEPS WHAT HOLDS -/
section Wf
variable {σ : Sp} {e τ l d : Nat}
theorem lnk_f0 {f : Nat} (h0 : f ≠ 0) (h16 : f ≠ 16) (h17 : f ≠ 17) (h18 : f ≠ 18) : lnk σ e f = σ f := by
  by_cases h : e = INL σ
  · unfold lnk; rw [if_pos h]
  · exact lnk_f h h0 h16 h17 h18
theorem lnk_00 {i : Nat} (hi : i ≠ 3) : lnk σ e 0 i = σ 0 i := by
  by_cases h : e = INL σ
  · unfold lnk; rw [if_pos h]
  · exact lnk_0 h hi
theorem lnk_03 : lnk σ e 0 3 = e := by
  by_cases h : e = INL σ
  · unfold lnk; rw [if_pos h]; exact h.symm
  · exact lnk_3 h
theorem lnk_A {i : Nat} : lnk σ e 16 i = if e ≠ INL σ ∧ i = e then INL σ + 1 else σ 16 i := by
  by_cases h : e = INL σ
  · rw [if_neg (fun z => z.1 h)]; unfold lnk; rw [if_pos h]
  · rw [lnk_16 h]
    by_cases z : i = e
    · rw [if_pos z, if_pos ⟨h, z⟩]
    · rw [if_neg z, if_neg (fun y => z y.2)]
theorem lnk_B {i : Nat} : lnk σ e 17 i = if e ≠ INL σ ∧ i = INL σ then e + 1 else σ 17 i := by
  by_cases h : e = INL σ
  · rw [if_neg (fun z => z.1 h)]; unfold lnk; rw [if_pos h]
  · rw [lnk_17 h]
    by_cases z : i = INL σ
    · rw [if_pos z, if_pos ⟨h, z⟩]
    · rw [if_neg z, if_neg (fun y => z y.2)]
theorem lnk_E {i : Nat} : lnk σ e 18 i = if e ≠ INL σ ∧ i = e then ALL σ else σ 18 i := by
  by_cases h : e = INL σ
  · rw [if_neg (fun z => z.1 h)]; unfold lnk; rw [if_pos h]
  · rw [lnk_18 h]
    by_cases z : i = e
    · rw [if_pos z, if_pos ⟨h, z⟩]
    · rw [if_neg z, if_neg (fun y => z y.2)]
theorem mov_f {s f : Nat} (h12 : f ≠ 12) (h0 : f ≠ 0) (h21 : f ≠ 21) (h22 : f ≠ 22) (h28 : f ≠ 28) : mov σ e s f = σ f := by
  funext i
  unfold mov
  rw [if_neg (fun z => h12 z.1), if_neg (fun z => h0 z.1), if_neg h21, if_neg h22, if_neg (fun z => h28 z.1)]
theorem mov_0 {s i : Nat} (h : i ≠ 4) : mov σ e s 0 i = σ 0 i := by
  unfold mov
  rw [if_neg (by omega), if_neg (fun z => h z.2), if_neg (by omega), if_neg (by omega), if_neg (by omega)]
theorem mov_4 {s : Nat} : mov σ e s 0 4 = ALL σ + 1 := by
  unfold mov
  rw [if_neg (by omega), if_pos ⟨rfl, rfl⟩]
theorem mov_12 {s i : Nat} : mov σ e s 12 i = if i = e then ENT σ e + 1 else σ 12 i := by
  unfold mov
  by_cases h : i = e
  · rw [if_pos ⟨rfl, h⟩, if_pos h]
  · rw [if_neg (fun z => h z.2), if_neg (by omega), if_neg (by omega), if_neg (by omega), if_neg (by omega), if_neg h]
theorem mov_21 {s i : Nat} : mov σ e s 21 i = if i + 1 = LEN σ then e else if off σ s ≤ i ∧ i + 1 < LEN σ then UB σ (i + 1) else UB σ i := by
  unfold mov
  rw [if_neg (by omega), if_neg (by omega), if_pos rfl]
theorem mov_22 {s i : Nat} : mov σ e s 22 i = if i + 1 = LEN σ then ENT σ e else if off σ s ≤ i ∧ i + 1 < LEN σ then UP σ (i + 1) else UP σ i := by
  unfold mov
  rw [if_neg (by omega), if_neg (by omega), if_neg (by omega), if_pos rfl]
theorem mov_28 {s i : Nat} : mov σ e s 28 i = if i ≤ s then (if LA σ i + 1 < HOL σ i then LA σ i + 1 else 0) else σ 28 i := by
  unfold mov
  rw [if_neg (by omega), if_neg (by omega), if_neg (by omega), if_neg (by omega)]
  by_cases h : i ≤ s
  · rw [if_pos ⟨rfl, h⟩, if_pos h]
  · rw [if_neg (fun z => h z.2), if_neg h]
/-! the fields behind one move -/
theorem one_0 {i : Nat} (h3 : i ≠ 3) (h4 : i ≠ 4) (h8 : i ≠ 8) : one σ e τ 0 i = σ 0 i := by
  unfold one brg
  rw [mov_0 h4, lnk_00 h3, snd_0 h8]
theorem one_03 : one σ e τ 0 3 = e := by
  unfold one brg
  rw [mov_0 (by omega), lnk_03]
theorem one_04 : one σ e τ 0 4 = ALL σ + 1 := by
  unfold one brg
  rw [mov_4]
  unfold ALL
  rw [lnk_00 (by omega), snd_0 (by omega)]
theorem one_f {f : Nat} (h : f < 4 ∨ (4 < f ∧ f < 12) ∨ f = 27) (h0 : f ≠ 0) : one σ e τ f = σ f := by
  unfold one brg
  rw [mov_f (by omega) (by omega) (by omega) (by omega) (by omega), lnk_f0 (by omega) (by omega) (by omega) (by omega), snd_f (by omega)]
theorem one_g {f : Nat} (h : f = 4 ∨ f = 13 ∨ f = 14 ∨ f = 15 ∨ f = 19 ∨ f = 20 ∨ f = 23 ∨ f = 24 ∨ f = 25 ∨ f = 26) : one σ e τ f = snd σ τ f := by
  unfold one brg
  rw [mov_f (by omega) (by omega) (by omega) (by omega) (by omega), lnk_f0 (by omega) (by omega) (by omega) (by omega)]
theorem one_08 : one σ e τ 0 8 = snd σ τ 0 8 := by
  unfold one brg
  rw [mov_0 (by omega), lnk_00 (by omega)]
theorem one_12 {i : Nat} : one σ e τ 12 i = if i = e then ENT σ e + 1 else ENT σ i := by
  unfold one brg
  rw [mov_12]
  unfold ENT
  rw [lnk_f0 (by omega) (by omega) (by omega) (by omega), snd_f (by omega)]
theorem one_16 {i : Nat} : one σ e τ 16 i = if e ≠ INL σ ∧ i = e then INL σ + 1 else AHD σ i := by
  unfold one brg
  rw [mov_f (by omega) (by omega) (by omega) (by omega) (by omega), lnk_A]
  unfold INL
  rw [snd_0 (by omega), snd_f (by omega)]
theorem one_17 {i : Nat} : one σ e τ 17 i = if e ≠ INL σ ∧ i = INL σ then e + 1 else BHD σ i := by
  unfold one brg
  rw [mov_f (by omega) (by omega) (by omega) (by omega) (by omega), lnk_B]
  unfold INL
  rw [snd_0 (by omega), snd_f (by omega)]
theorem one_18 {i : Nat} : one σ e τ 18 i = if e ≠ INL σ ∧ i = e then ALL σ else EBF σ i := by
  unfold one brg
  rw [mov_f (by omega) (by omega) (by omega) (by omega) (by omega), lnk_E]
  unfold INL ALL
  rw [snd_0 (by omega), snd_0 (by omega), snd_f (by omega)]
theorem one_off (s : Nat) : off (lnk (snd σ τ) e) s = off σ s := off_c (by unfold NS; rw [lnk_00 (by omega), snd_0 (by omega)]) (by rw [lnk_f0 (by omega) (by omega) (by omega) (by omega), snd_f (by omega)]) s
theorem one_21 {i : Nat} : one σ e τ 21 i = if i + 1 = LEN σ then e else if off σ (tsg σ τ) ≤ i ∧ i + 1 < LEN σ then UB σ (i + 1) else UB σ i := by
  unfold one brg
  rw [mov_21, one_off]
  unfold LEN UB
  rw [lnk_00 (by omega), snd_0 (by omega), lnk_f0 (by omega) (by omega) (by omega) (by omega), snd_f (by omega)]
theorem one_22 {i : Nat} : one σ e τ 22 i = if i + 1 = LEN σ then ENT σ e else if off σ (tsg σ τ) ≤ i ∧ i + 1 < LEN σ then UP σ (i + 1) else UP σ i := by
  unfold one brg
  rw [mov_22, one_off]
  unfold LEN UP ENT
  rw [lnk_00 (by omega), snd_0 (by omega), lnk_f0 (by omega) (by omega) (by omega) (by omega), snd_f (by omega), lnk_f0 (by omega) (by omega) (by omega) (by omega), snd_f (by omega)]
theorem one_28 {i : Nat} : one σ e τ 28 i = if i ≤ tsg σ τ then (if LA σ i + 1 < HOL σ i then LA σ i + 1 else 0) else LA σ i := by
  unfold one brg
  rw [mov_28]
  unfold LA HOL
  rw [lnk_f0 (by omega) (by omega) (by omega) (by omega), snd_f (by omega), lnk_f0 (by omega) (by omega) (by omega) (by omega), snd_f (by omega)]
/-- what left the pipe, of one batch -/
def gon (σ : Sp) (b : Nat) : Nat := LEF σ b + DRO σ b + LEA σ b
theorem go1_gon {b p i : Nat} : gon (go1 σ τ b p) i = gon σ i + if i = b then 1 else 0 := by
  unfold gon go1 LEF DRO LEA
  by_cases z : τ = 0
  · rw [if_pos z, us_f (by omega), us_f (by omega)]
    unfold us
    by_cases y : i = b
    · rw [if_pos ⟨rfl, y⟩, if_pos y, y]; omega
    · rw [if_neg (fun q => y q.2), if_neg y]; omega
  · rw [if_neg z]
    by_cases x : τ = 1
    · rw [if_pos x, pur_f (by omega), pur_f (by omega), pur_f (by omega), us_f (f' := 13) (by omega), us_f (f' := 15) (by omega)]
      unfold us
      by_cases y : i = b
      · rw [if_pos ⟨rfl, y⟩, if_pos y, y]; omega
      · rw [if_neg (fun q => y q.2), if_neg y]; omega
    · rw [if_neg x, pur_f (by omega), pur_f (by omega), pur_f (by omega), us_f (f' := 14) (by omega), us_f (f' := 15) (by omega)]
      unfold us
      by_cases y : i = b
      · rw [if_pos ⟨rfl, y⟩, if_pos y, y]; omega
      · rw [if_neg (fun q => y q.2), if_neg y]; omega
theorem one_gon {i : Nat} : gon (one σ e τ) i = gon σ i + if i = UB σ (off σ (tsg σ τ)) then 1 else 0 := by
  rw [← go1_gon (τ := τ) (p := UP σ (off σ (tsg σ τ)))]
  unfold gon LEF DRO LEA
  rw [one_g (by omega), one_g (by omega), one_g (by omega)]
  unfold snd
  rw [go3_f (by omega) (by omega), go3_f (by omega) (by omega), go3_f (by omega) (by omega), go2_f (by omega) (by omega), go2_f (by omega) (by omega), go2_f (by omega) (by omega)]
theorem snd_08 : snd σ τ 0 8 = if PIG σ = cod (UB σ (off σ (tsg σ τ))) (UP σ (off σ (tsg σ τ))) + 1 then 0 else PIG σ := by
  unfold snd go3
  have hp : ∀ b p b' p', PIG (go2 (go1 σ τ b p) b' p') = PIG σ := by
    intro b p b' p'
    unfold PIG
    rw [go2_f (by omega) (by omega), go1_f (by omega)]
  rw [hp]
  split
  · dsimp only
    rw [if_pos ⟨rfl, rfl⟩]
  · exact hp _ _ _ _
theorem snd_20 (h : ∀ b, b < 40 → KEP σ b ≤ 255) {i : Nat} (hi : i < 40) : snd σ τ 20 i ≤ 255 := by
  unfold snd
  rw [go3_f (by omega) (by omega)]
  unfold go2
  split
  · rw [us_f (by omega)]
    unfold us
    split
    · exact isq_le _
    · rw [go1_f (by omega)]
      exact h i hi
  · rw [go1_f (by omega)]
    exact h i hi
theorem grd_le (hG : WG σ) (hM : WM σ) {b p : Nat} (hb : b < NB σ) : grd σ b p ≤ 9 := by
  obtain ⟨m1', m2', m3', m4'⟩ := id hM
  obtain ⟨w1, w2, -⟩ := m3' b (by omega)
  have g1 := (hG _ (m4' b hb)).2.2.2.2.1
  unfold grd
  have a1 : (if m1 σ b p = true then GRD σ (PRD σ (AHD σ b - 1)) else 0) ≤ 9 := by
    split
    · rename_i z
      unfold m1 at z
      rw [Bool.and_eq_true, decide_eq_true_eq] at z
      exact (hG _ (m4' _ (w1 z.1))).2.2.2.2.1
    · omega
  have a2 : (if m2 σ b p = true then GRD σ (PRD σ (BHD σ b - 1)) else 0) ≤ 9 := by
    split
    · rename_i z
      unfold m2 at z
      rw [Bool.and_eq_true, decide_eq_true_eq] at z
      exact (hG _ (m4' _ (w2 z.1))).2.2.2.2.1
    · omega
  omega
theorem pur_WK (hW : WK σ) (hG : WG σ) (hM : WM σ) {t b p : Nat} (hb : b < NB σ) : WK (pur σ t b p) := by
  have hg := grd_le (p := p) hG hM hb
  intro t' ht'
  obtain ⟨w1, w2, w3⟩ := hW t' ht'
  unfold pur
  split
  · unfold HAS TG at *
    rw [us_f (by omega), us_f (by omega)]
    exact ⟨w1, w2, w3⟩
  · rename_i h
    unfold HAS TG at *
    rw [us_f (f' := 23) (by omega), us_f (f' := 23) (by omega), us_f (f' := 24) (by omega)]
    by_cases z : t' = t
    · subst z
      rw [us_eq rfl rfl, us_eq rfl rfl]
      refine ⟨by omega, by omega, by omega⟩
    · rw [us_ne (by omega), us_ne (by omega), us_ne (by omega)]
      exact ⟨w1, w2, w3⟩
theorem snd_WK (hW : WF σ) {b p : Nat} (hb : b < NB σ) : WK (go1 σ τ b p) := by
  obtain ⟨hA, hWS, hWG, hWT, hWB, hWK, -⟩ := id hW
  have hM := WF_WM hW
  have key : ∀ f b v t p, f = 13 ∨ f = 14 → b < NB σ → WK (pur (us σ f b v) t b p) := by
    intro f b v t p hf hb
    refine pur_WK ?_ ?_ ?_ ?_
    · intro t' ht'
      have := hWK t' ht'
      unfold HAS TG at *
      rw [us_f (by omega), us_f (by omega)]
      exact this
    · intro p' hp'
      have := hWG p' hp'
      unfold WEI THK GRD BAR at *
      rw [us_f (by omega), us_f (by omega), us_f (by omega), us_f (by omega)]
      exact this
    · exact WM_c (fun i => by rw [us_f (by omega)]) (us_f (by omega)) (us_f (by omega)) (us_f (by omega)) (us_f (by omega)) (us_f (by omega)) (us_f (by omega)) (us_f (by omega)) hM
    · unfold NB at *; rw [us_f (by omega)]; exact hb
  unfold go1
  split
  · intro t' ht'
    have := hWK t' ht'
    unfold HAS TG at *
    rw [us_f (by omega), us_f (by omega)]
    exact this
  · split
    · exact key _ _ _ _ _ (by omega) hb
    · exact key _ _ _ _ _ (by omega) hb
/-- the units stand in the order in which they entered -/
theorem val_lt (hs : ∀ j, j + 1 < LEN σ → str σ (UB σ j) + UP σ j < str σ (UB σ (j + 1)) + UP σ (j + 1)) : ∀ (m i : Nat), i + m + 1 < LEN σ → str σ (UB σ i) + UP σ i < str σ (UB σ (i + m + 1)) + UP σ (i + m + 1)
  | 0, i, h => hs i h
  | m + 1, i, h => by
    have h1 := val_lt hs m i (by omega)
    have h2 := hs (i + m + 1) (by omega)
    rw [show i + (m + 1) + 1 = i + m + 1 + 1 by omega]
    omega
/-- one taken out, one behind the last -/
theorem sm_move {f g : Nat → Nat} {x n o : Nat} (ho : o < n) (h1 : ∀ j, j < o → g j = f j) (h2 : ∀ j, o ≤ j → j + 1 < n → g j = f (j + 1)) (h3 : g (n - 1) = x) : sm g 0 n + f o = sm f 0 n + x := by
  obtain ⟨m, rfl⟩ : ∃ m, n = o + (m + 1) := ⟨n - o - 1, by omega⟩
  have e1 := sm_app g o (m + 1) 0
  have e2 := sm_app f o (m + 1) 0
  rw [Nat.zero_add] at e1 e2
  have e3 := sm_last g m o
  have e4 := sm_s f o m
  have e5 : sm g 0 o = sm f 0 o := sm_cong (fun j _ hj => h1 j (by omega))
  have e6 : sm g o m = sm f (o + 1) m := by
    rw [← sm_shift f m o 1]
    exact sm_cong (fun j h hj => h2 j h (by omega))
  rw [show o + (m + 1) - 1 = o + m by omega] at h3
  omega
theorem nxt_WF (hW : WF σ) (ho : OPN σ = 1) (h : nxt σ = some e) : e < NB σ ∧ 1 ≤ e ∧ ENT σ e < ORD σ e ∧ (e ≠ INL σ → ENT σ e = 0 ∧ ENT σ (INL σ) = ORD σ (INL σ)) := by
  obtain ⟨hA, hWS, hWG, hWT, hWB, hWK, -, hWO, hWL, hWU⟩ := id hW
  have hI := hA.2.2.2.2.2.2.2.2.1
  obtain ⟨o1, o2, o3, o4, o5, o6⟩ := hWO ho
  have w := hWB.1 _ hI
  obtain ⟨n1, n2, n3, n4⟩ := nxt_in hI h
  by_cases z : e = INL σ
  · subst z
    have := n3 rfl
    refine ⟨n1, ?_, by omega, fun y => absurd rfl y⟩
    rcases Nat.eq_zero_or_pos (INL σ) with q | q
    · have h1 : ENT σ (INL σ) = LEN σ := by rw [q]; exact o2
      have h2 : ORD σ (INL σ) = LEN σ := by rw [q]; exact o3
      omega
    · exact q
  · have h1 := n4 z
    have h2 := (hWB.1 e n1).2.2.2 h1.1
    refine ⟨n1, h1.1, by omega, fun _ => ⟨h1.2, ?_⟩⟩
    have := n2 z
    omega
theorem WF_one (hW : WF σ) (ho : OPN σ = 1) (hτ : tsg σ τ < NS σ) (h : nxt σ = some e) : WF (one σ e τ) := by
  obtain ⟨hA, hWS, hWG, hWT, hWB, hWK, hWC, hWO, hWL, hWU⟩ := id hW
  obtain ⟨a1, a2, a3, a4, a5, a6, a7, a8, a9, a10, a11, a12⟩ := id hA
  obtain ⟨o1, o2, o3, o4, o5, o6⟩ := hWO ho
  obtain ⟨l1, l2, l3, l4, l5, l6⟩ := hWL ho
  obtain ⟨u1, u2, u3, u4, u5, u6⟩ := hWU ho
  obtain ⟨n1, n2, n3, n4⟩ := nxt_WF hW ho h
  obtain ⟨w1, -⟩ := hWS.1 _ hτ
  have hL := WF_off hW ho hτ (show 0 < HOL σ (tsg σ τ) by omega)
  rw [Nat.add_zero] at hL
  obtain ⟨v1, v2, v3, v4, v5⟩ := WF_unit hW ho hL
  have hfg := u5 _ hL
  have hM := WF_WM hW
  have f0 : ∀ i, i ≠ 3 → i ≠ 4 → i ≠ 8 → one σ e τ 0 i = σ 0 i := fun i h3 h4 h8 => one_0 h3 h4 h8
  have fNS : NS (one σ e τ) = NS σ := f0 0 (by omega) (by omega) (by omega)
  have fNB : NB (one σ e τ) = NB σ := f0 1 (by omega) (by omega) (by omega)
  have fLEN : LEN (one σ e τ) = LEN σ := f0 15 (by omega) (by omega) (by omega)
  have fINL : INL (one σ e τ) = e := one_03
  have fALL : ALL (one σ e τ) = ALL σ + 1 := one_04
  have fENT : ∀ i, ENT (one σ e τ) i = if i = e then ENT σ e + 1 else ENT σ i := fun i => one_12
  have fENTe : ENT (one σ e τ) e = ENT σ e + 1 := by rw [fENT, if_pos rfl]
  have fENTn : ∀ i, i ≠ e → ENT (one σ e τ) i = ENT σ i := fun i hi => by rw [fENT, if_neg hi]
  have fENTg : ∀ i, ENT σ i ≤ ENT (one σ e τ) i := fun i => by
    rw [fENT]
    split
    · rename_i z; rw [z]; omega
    · omega
  have fORD : ORD (one σ e τ) = ORD σ := by unfold ORD; rw [one_f (by omega) (by omega)]
  have fPRD : PRD (one σ e τ) = PRD σ := by unfold PRD; rw [one_f (by omega) (by omega)]
  have fSHP : SHP (one σ e τ) = SHP σ := by unfold SHP; rw [one_f (by omega) (by omega)]
  have fAHD : ∀ i, AHD (one σ e τ) i = if e ≠ INL σ ∧ i = e then INL σ + 1 else AHD σ i := fun i => one_16
  have fBHD : ∀ i, BHD (one σ e τ) i = if e ≠ INL σ ∧ i = INL σ then e + 1 else BHD σ i := fun i => one_17
  have fEBF : ∀ i, EBF (one σ e τ) i = if e ≠ INL σ ∧ i = e then ALL σ else EBF σ i := fun i => one_18
  have fAn : ∀ i, i ≠ e ∨ e = INL σ → AHD (one σ e τ) i = AHD σ i := fun i hi => by rw [fAHD, if_neg (by omega)]
  have fBn : ∀ i, i ≠ INL σ ∨ e = INL σ → BHD (one σ e τ) i = BHD σ i := fun i hi => by rw [fBHD, if_neg (by omega)]
  have fEn : ∀ i, i ≠ e ∨ e = INL σ → EBF (one σ e τ) i = EBF σ i := fun i hi => by rw [fEBF, if_neg (by omega)]
  have fFG : ∀ i, FG (one σ e τ) i = if UP σ (off σ (tsg σ τ)) = 0 ∧ i = UB σ (off σ (tsg σ τ)) then 1 else FG σ i := fun i => by
    unfold FG
    rw [one_g (by omega)]
    exact snd_19 hfg
  have fgon : ∀ i, gon (one σ e τ) i = gon σ i + if i = UB σ (off σ (tsg σ τ)) then 1 else 0 := fun i => one_gon
  have fUB : ∀ i, UB (one σ e τ) i = if i + 1 = LEN σ then e else if off σ (tsg σ τ) ≤ i ∧ i + 1 < LEN σ then UB σ (i + 1) else UB σ i := fun i => one_21
  have fUP : ∀ i, UP (one σ e τ) i = if i + 1 = LEN σ then ENT σ e else if off σ (tsg σ τ) ≤ i ∧ i + 1 < LEN σ then UP σ (i + 1) else UP σ i := fun i => one_22
  have e40 : e < 40 := by omega
  have hcnt := fun b hb => u6 b hb
  generalize hx : off σ (tsg σ τ) = x at *
  generalize hb0 : UB σ x = b0 at *
  generalize hp0 : UP σ x = p0 at *
  -- the unit at a place, and when it entered
  have sB : ∀ j, j < x → UB (one σ e τ) j = UB σ j ∧ UP (one σ e τ) j = UP σ j := fun j hj => by
    rw [fUB, fUP, if_neg (show ¬ j + 1 = LEN σ by omega), if_neg (show ¬ (x ≤ j ∧ j + 1 < LEN σ) by omega), if_neg (show ¬ j + 1 = LEN σ by omega), if_neg (show ¬ (x ≤ j ∧ j + 1 < LEN σ) by omega)]
    exact ⟨rfl, rfl⟩
  have sG : ∀ j, x ≤ j → j + 1 < LEN σ → UB (one σ e τ) j = UB σ (j + 1) ∧ UP (one σ e τ) j = UP σ (j + 1) := fun j hj h2 => by
    rw [fUB, fUP, if_neg (show ¬ j + 1 = LEN σ by omega), if_pos (show x ≤ j ∧ j + 1 < LEN σ from ⟨hj, h2⟩), if_neg (show ¬ j + 1 = LEN σ by omega), if_pos (show x ≤ j ∧ j + 1 < LEN σ from ⟨hj, h2⟩)]
    exact ⟨rfl, rfl⟩
  have sE : UB (one σ e τ) (LEN σ - 1) = e ∧ UP (one σ e τ) (LEN σ - 1) = ENT σ e := by
    rw [fUB, fUP, if_pos (show LEN σ - 1 + 1 = LEN σ by omega), if_pos (show LEN σ - 1 + 1 = LEN σ by omega)]
    exact ⟨rfl, rfl⟩
  have hstr : ∀ b, b ≠ e ∨ e = INL σ → str (one σ e τ) b = str σ b := fun b hb => by
    unfold str
    rw [fLEN, fEn b hb]
  have hstrE : ∀ b, 1 ≤ ENT σ b → str (one σ e τ) b = str σ b := fun b hb => hstr b (by
    by_cases z : e = INL σ
    · exact Or.inr z
    · exact Or.inl (fun y => by have := (n4 z).1; rw [y] at hb; omega))
  have hval : str (one σ e τ) e + ENT σ e = LEN σ + ALL σ := by
    by_cases z : e = INL σ
    · rw [hstr e (Or.inr z), z]; exact l6
    · have := (n4 z).1
      unfold str
      rw [if_neg (by omega), fLEN, fEBF, if_pos ⟨z, rfl⟩]
      omega
  have hlast : str σ (UB σ (LEN σ - 1)) + UP σ (LEN σ - 1) + 1 = LEN σ + ALL σ := by rw [u3]; omega
  have hEi : ∀ j, j < LEN σ → 1 ≤ ENT σ (UB σ j) := fun j hj => by have := (u1 j hj).2; omega
  -- from the old places to the new ones
  have cases : ∀ j, j < LEN σ → (∃ k, k < LEN σ ∧ k ≠ x ∧ UB (one σ e τ) j = UB σ k ∧ UP (one σ e τ) j = UP σ k) ∨ (j = LEN σ - 1) := fun j hj => by
    rcases Nat.lt_or_ge j x with q | q
    · exact Or.inl ⟨j, hj, by omega, sB j q⟩
    · rcases Nat.lt_or_ge (j + 1) (LEN σ) with q2 | q2
      · exact Or.inl ⟨j + 1, q2, by omega, sG j q q2⟩
      · exact Or.inr (by omega)
  have hub : sm (ub1 σ b0) 0 (LEN σ) ≥ 1 := by
    have := sm_part (f := ub1 σ b0) (k := x) (a := 0) (n := LEN σ) (by omega) (by omega)
    unfold ub1 at this ⊢
    rw [if_pos hb0] at this
    exact this
  have hENTle : ∀ b, b < NB σ → ENT (one σ e τ) b ≤ ORD σ b := fun b hb => by
    rw [fENT]
    split
    · rename_i z; rw [z]; omega
    · exact (hWB.1 b hb).2.1
  refine ⟨?_, ?_, ?_, ?_, ?_, ?_, ?_, ?_, ?_, ?_⟩
  · refine ⟨?_, ?_, ?_, ?_, ?_, ?_, ?_, ?_, ?_, ?_, ?_, ?_⟩
    · rw [fNS]; exact a1
    · rw [fNB]; exact a2
    · rw [fNB]; exact a3
    · unfold OPN at *; rw [f0 2 (by omega) (by omega) (by omega)]; exact a4
    · unfold RT at *; rw [f0 5 (by omega) (by omega) (by omega)]; exact a5
    · unfold RF at *; rw [f0 6 (by omega) (by omega) (by omega)]; exact a6
    · unfold MIN at *; rw [f0 7 (by omega) (by omega) (by omega)]; exact a7
    · rw [fNS]; intro _; exact a8 ho
    · rw [fINL, fNB]; exact n1
    · rw [fALL, o4]
      have hs : sm (ENT σ) 1 (NB σ - 1) + 1 ≤ (NB σ - 1) * 200 := by
        have q := sm_upd (f := ENT σ) (g := ENT (one σ e τ)) (k := e) (a := 1) (n := NB σ - 1) (by omega) (by omega) (fun j _ _ hj => fENTn j hj)
        have q2 := sm_bound (f := ENT (one σ e τ)) (c := 200) (a := 1) (n := NB σ - 1) (fun k h1 h2 => by
          have y1 := hENTle k (by omega)
          have y2 := ((hWB.1 k (by omega)).2.2.2 h1).2.2
          omega)
        rw [fENTe] at q
        omega
      have : (NB σ - 1) * 200 ≤ 39 * 200 := Nat.mul_le_mul_right 200 (by omega)
      omega
    · rw [fLEN]; exact a11
    · unfold PIG at *
      rw [one_08, snd_08]
      split
      · omega
      · exact a12
  · refine ⟨fun i hi => ?_, fun i hi => ?_⟩
    · rw [fNS] at hi
      obtain ⟨q1, q2, q3, q4, q5, q6⟩ := hWS.1 i hi
      unfold HOL HEI LIM LA at *
      rw [one_f (f := 1) (by omega) (by omega), one_f (f := 2) (by omega) (by omega), one_f (f := 3) (by omega) (by omega), one_28]
      unfold LA HOL
      refine ⟨q1, q2, q3, q4, q5, ?_⟩
      split
      · split <;> omega
      · exact q6
    · have := hWS.2 i hi
      unfold DIR at *
      rw [one_g (by omega), snd_4]
      split <;> omega
  · intro p hp
    have := hWG p hp
    unfold WEI THK GRD BAR at *
    rw [one_f (by omega) (by omega), one_f (by omega) (by omega), one_f (by omega) (by omega), one_f (by omega) (by omega)]
    exact this
  · unfold WT' at *
    rw [fNS]
    unfold LK LKU DR DRU DRT RCV at *
    rw [f0 9 (by omega) (by omega) (by omega), f0 10 (by omega) (by omega) (by omega), f0 11 (by omega) (by omega) (by omega), f0 12 (by omega) (by omega) (by omega), f0 13 (by omega) (by omega) (by omega), f0 14 (by omega) (by omega) (by omega)]
    exact hWT
  · refine ⟨fun b hb => ?_, fun b hb => ?_⟩
    · rw [fNB] at hb
      obtain ⟨q1, q2, q3, q4⟩ := hWB.1 b hb
      rw [fORD, fPRD, fSHP]
      exact ⟨q1, hENTle b hb, q3, q4⟩
    · obtain ⟨q1, q2, q3, q4, q5, q6, q7⟩ := hWB.2 b hb
      have g := fgon b
      unfold gon at g
      rw [g, fALL, fNB]
      have eg := fENTg b
      refine ⟨?_, ?_, ?_, ?_, ?_, ?_, ?_⟩
      · by_cases z : b = b0
        · subst z
          have := u6 b v1
          rw [if_pos rfl]
          omega
        · rw [if_neg z]; omega
      · rcases Nat.lt_or_ge b (NB σ) with z | z
        · have y1 := hENTle b z
          have y2 := (hWB.1 b z).2.2.1
          omega
        · rw [fENTn b (by omega)]; exact q2
      · rw [fEBF]
        split <;> omega
      · unfold KEP
        rw [one_g (by omega)]
        exact snd_20 (fun b hb => (hWB.2 b hb).2.2.2.1) hb
      · rw [fFG]
        split <;> omega
      · intro z
        rw [fENTn b (by omega)]
        exact q6 z
      · rw [fFG]
        intro z
        by_cases y : p0 = 0 ∧ b = b0
        · rw [y.2] at eg ⊢
          omega
        · rw [if_neg y] at z
          have := q7 z
          omega
  · have hk := snd_WK (τ := τ) (p := p0) hW v1
    intro t ht
    have := hk t ht
    unfold HAS TG at *
    rw [one_g (by omega), one_g (by omega)]
    unfold snd
    rw [go3_f (by omega) (by omega), go3_f (by omega) (by omega), go2_f (by omega) (by omega), go2_f (by omega) (by omega), hx]
    rw [hb0, hp0]
    exact this
  · intro hz
    unfold OPN at hz ho
    rw [f0 2 (by omega) (by omega) (by omega)] at hz
    omega
  · intro _
    rw [fLEN, fNS, fORD, fALL, fNB, fINL, fENTe]
    refine ⟨?_, ?_, o3, ?_, by omega, ?_⟩
    · rw [o1]
      unfold HOL
      rw [one_f (by omega) (by omega)]
    · rw [fENTn 0 (by omega)]; exact o2
    · have q := sm_upd (f := ENT σ) (g := ENT (one σ e τ)) (k := e) (a := 1) (n := NB σ - 1) (by omega) (by omega) (fun j _ _ hj => fENTn j hj)
      rw [fENTe] at q
      omega
    · intro b hb h1 h2
      rw [fENTn b h2] at h1 ⊢
      by_cases z : b = INL σ
      · rw [z]
        exact (n4 (by omega)).2
      · exact o6 b hb h1 z
  · intro _
    rw [fINL, fALL, fNB, fLEN, fENTe]
    refine ⟨?_, ?_, ?_, ?_, ?_, ?_⟩
    · rw [fAn 0 (Or.inl (by omega))]; exact l1
    · intro b hb h0
      by_cases z : b = e
      · subst z
        rw [fENTe]
        by_cases y : b = INL σ
        · rw [fAn b (Or.inr y)]
          have := (l2 b hb h0)
          have : AHD σ b ≠ 0 := fun w => by
            have := this.mp w
            rw [y] at this
            omega
          omega
        · rw [fAHD, if_pos ⟨y, rfl⟩]
          omega
      · rw [fAn b (Or.inl z), fENTn b z]
        exact l2 b hb h0
    · intro b hb
      have q := l3 b hb
      by_cases y : e = INL σ
      · rw [fBn b (Or.inr y)]
        by_cases z : b = e
        · rw [q]
          exact ⟨fun _ => Or.inr z, fun _ => Or.inr (by omega)⟩
        · rw [fENTn b z, q, y]
      · by_cases z : b = INL σ
        · rw [fBHD, if_pos ⟨y, z⟩, fENTn b (by omega), z]
          omega
        · rw [fBn b (Or.inl z)]
          by_cases w : b = e
          · rw [q, w]
            have := (n4 y).1
            omega
          · rw [fENTn b w, q]
            omega
    · intro b c hb hc
      by_cases w : e ≠ INL σ ∧ b = e
      · obtain ⟨w1, w2⟩ := w
        subst w2
        rw [fAHD, if_pos ⟨w1, rfl⟩] at hc
        have hc : c = INL σ := by omega
        subst hc
        refine ⟨a9, ?_, ?_, ?_⟩
        · rw [fBHD, if_pos ⟨w1, rfl⟩]
        · rw [fENTn (INL σ) (by omega), hstr (INL σ) (Or.inl (by omega))]
          have := (n4 w1).1
          omega
        · rw [fENTn (INL σ) (by omega)]; exact o5
      · have hbe : b ≠ e ∨ e = INL σ := by omega
        rw [fAn b hbe] at hc
        obtain ⟨k1, k2, k3, k4⟩ := l4 b c hb hc
        have hcI : c ≠ INL σ := fun z => by
          have := (l3 c (by omega)).mpr (Or.inr z)
          omega
        have hce : c ≠ e := fun z => by
          rcases hbe with y | y
          · by_cases yy : e = INL σ
            · omega
            · have := (n4 yy).1
              rw [z] at k4
              omega
          · omega
        refine ⟨k1, ?_, ?_, ?_⟩
        · rw [fBn c (Or.inl hcI)]; exact k2
        · rw [hstr b hbe, hstr c (Or.inl hce), fENTn c hce]; exact k3
        · rw [fENTn c hce]; exact k4
    · intro b c hb hc
      by_cases w : e ≠ INL σ ∧ b = INL σ
      · obtain ⟨w1, w2⟩ := w
        subst w2
        rw [fBHD, if_pos ⟨w1, rfl⟩] at hc
        have hc : c = e := by omega
        subst hc
        refine ⟨n1, ?_, by rw [fENTe]; omega⟩
        rw [fAHD, if_pos ⟨w1, rfl⟩]
      · have hbe : b ≠ INL σ ∨ e = INL σ := by omega
        rw [fBn b hbe] at hc
        obtain ⟨k1, k2, k3⟩ := l5 b c hb hc
        have hce : c ≠ e ∨ e = INL σ := by
          by_cases yy : e = INL σ
          · exact Or.inr yy
          · refine Or.inl (fun z => ?_)
            have := (n4 yy).1
            rw [z] at k3
            omega
        refine ⟨k1, ?_, ?_⟩
        · rw [fAn c hce]; exact k2
        · have := fENTg c
          omega
    · omega
  · intro _
    rw [fLEN, fNB, fINL, fENTe]
    refine ⟨?_, ?_, ?_, ?_, ?_, ?_⟩
    · intro j hj
      rcases cases j hj with ⟨k, k1, k2, k3, k4⟩ | k
      · rw [k3, k4]
        have q := u1 k k1
        have := fENTg (UB σ k)
        exact ⟨q.1, by omega⟩
      · rw [k, sE.1, sE.2, fENTe]
        exact ⟨n1, by omega⟩
    · intro j hj
      have q : ∀ i k, UB (one σ e τ) i = UB σ k ∧ UP (one σ e τ) i = UP σ k → k < LEN σ → str (one σ e τ) (UB (one σ e τ) i) + UP (one σ e τ) i = str σ (UB σ k) + UP σ k := by
        intro i k hh hk
        rw [hh.1, hh.2, hstrE _ (hEi k hk)]
      rcases Nat.lt_or_ge (j + 1 + 1) (LEN σ) with z | z
      · rcases Nat.lt_or_ge (j + 1) x with y | y
        · rw [q j j (sB j (by omega)) (by omega), q (j + 1) (j + 1) (sB (j + 1) y) (by omega)]
          exact u2 j hj
        · rw [q (j + 1) (j + 1 + 1) (sG (j + 1) y z) z]
          rcases Nat.lt_or_ge j x with w | w
          · rw [q j j (sB j w) (by omega)]
            have := u2 j hj
            have := u2 (j + 1) z
            omega
          · rw [q j (j + 1) (sG j w hj) hj]
            exact u2 (j + 1) z
      · have hj1 : j + 1 = LEN σ - 1 := by omega
        rw [hj1, sE.1, sE.2, hval]
        rcases Nat.lt_or_ge j x with w | w
        · rw [q j j (sB j w) (by omega)]
          have := u2 j hj
          rw [hj1] at this
          omega
        · rw [q j (j + 1) (sG j w hj) hj, hj1]
          omega
    · exact sE.1
    · rw [sE.2]
    · intro j hj
      rcases cases j hj with ⟨k, k1, k2, k3, k4⟩ | k
      · rw [k3, k4, fFG]
        intro z
        rw [if_neg (fun y => k2 ?_)]
        · exact u5 k k1 z
        · rcases Nat.lt_trichotomy k x with t | t | t
          · have := val_lt u2 (x - k - 1) k (by omega)
            rw [show k + (x - k - 1) + 1 = x by omega, hb0, hp0, y.2] at this
            omega
          · exact t
          · have := val_lt u2 (k - x - 1) x (by omega)
            rw [show x + (k - x - 1) + 1 = k by omega, hb0, hp0, y.2] at this
            omega
      · rw [k, sE.1, sE.2, fFG]
        intro z
        have hne : e ≠ INL σ := fun y => by rw [y] at z; omega
        rw [if_neg (fun y => by rw [y.2] at z; omega)]
        have g3 := (hWB.2 e e40).2.2.2.2.2.2
        have g4 := (hWB.2 e e40).2.2.2.2.1
        omega
    · intro b hb
      have g := fgon b
      unfold gon at g
      have q := sm_move (f := ub1 σ b) (g := ub1 (one σ e τ) b) (x := if e = b then 1 else 0) (n := LEN σ) (o := x) hL (fun j hj => by unfold ub1; rw [(sB j hj).1]) (fun j h1 h2 => by unfold ub1; rw [(sG j h1 h2).1]) (by unfold ub1; rw [sE.1])
      have q2 := u6 b hb
      have q3 : ub1 σ b x = if b = b0 then 1 else 0 := by
        unfold ub1
        rw [hb0]
        by_cases z : b = b0
        · rw [if_pos z, if_pos z.symm]
        · rw [if_neg z, if_neg (fun y => z y.symm)]
      rw [q3] at q
      rw [fENT]
      by_cases z : b = e
      · have iz : (if e = b then 1 else 0) = 1 := if_pos z.symm
        rw [iz] at q
        have ez : ENT σ e = ENT σ b := by rw [z]
        rw [if_pos z]
        omega
      · have iz : (if e = b then 1 else 0) = 0 := if_neg (fun y => z y.symm)
        rw [iz] at q
        rw [if_neg z]
        omega
end Wf
