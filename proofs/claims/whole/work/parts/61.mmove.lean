/-! THE REFERENCE MOVES A UNIT -/
section McCong
variable {σ σ' : Sp} {M M' : Mm}
theorem MP_c (h : ∀ j, j = 1 ∨ j = 6 ∨ j = 7 ∨ j = 12 ∨ j = 24 ∨ j = 27 ∨ j = 28 → gi M' 77 j = gi M 77 j) (h0 : ∀ i, i = 0 ∨ i = 1 ∨ i = 2 ∨ i = 4 ∨ i = 5 ∨ i = 6 ∨ i = 15 → σ' 0 i = σ 0 i) (hE : MP σ M) : MP σ' M' := by
  unfold MP NS OPN LEN NB ALL RT RF at *
  rw [h 1 (by omega), h 6 (by omega), h 7 (by omega), h 12 (by omega), h 24 (by omega), h 27 (by omega), h 28 (by omega), h0 0 (by omega), h0 1 (by omega), h0 2 (by omega), h0 4 (by omega), h0 5 (by omega), h0 6 (by omega), h0 15 (by omega)]
  exact hE
theorem MT_c (h : ∀ j, 29 ≤ j ∧ j ≤ 34 → gi M' 77 j = gi M 77 j) (h0 : ∀ i, 9 ≤ i ∧ i ≤ 14 → σ' 0 i = σ 0 i) (hE : MT σ M) : MT σ' M' := by
  unfold MT DR DRU DRT LK LKU RCV at *
  rw [h 29 (by omega), h 30 (by omega), h 31 (by omega), h 32 (by omega), h 33 (by omega), h 34 (by omega), h0 9 (by omega), h0 10 (by omega), h0 11 (by omega), h0 12 (by omega), h0 13 (by omega), h0 14 (by omega)]
  exact hE
theorem MQ_c (h : ∀ j, 39 ≤ j ∧ j ≤ 41 → gi M' 77 j = gi M 77 j) (h0 : PIG σ' = PIG σ) (hE : MQp σ M) : MQp σ' M' := by
  unfold MQp at *
  rw [h 39 (by omega), h 40 (by omega), h 41 (by omega), h0]
  exact hE
theorem MS_c (h : ∀ k, 78 ≤ k ∧ k ≤ 81 → M'.1 k = M.1 k) (h0 : NS σ' = NS σ) (hf : ∀ f, 1 ≤ f ∧ f ≤ 4 → σ' f = σ f) (hE : MS σ M) : MS σ' M' := by
  intro i hi
  have := hE i hi
  unfold HOL HEI LIM DIR at *
  rw [gi_1 (h 78 (by omega)), gi_1 (h 79 (by omega)), gi_1 (h 80 (by omega)), gi_1 (h 81 (by omega)), h0, hf 1 (by omega), hf 2 (by omega), hf 3 (by omega), hf 4 (by omega)]
  exact this
theorem MG_c (h : ∀ k, 82 ≤ k ∧ k ≤ 85 → M'.1 k = M.1 k) (hf : ∀ f, 5 ≤ f ∧ f ≤ 8 → σ' f = σ f) (hE : MG σ M) : MG σ' M' := by
  intro i hi
  have := hE i hi
  unfold WEI THK GRD BAR at *
  rw [gi_1 (h 82 (by omega)), gi_1 (h 83 (by omega)), gi_1 (h 84 (by omega)), gi_1 (h 85 (by omega)), hf 5 (by omega), hf 6 (by omega), hf 7 (by omega), hf 8 (by omega)]
  exact this
theorem MB1_c (h : ∀ k, 89 ≤ k ∧ k ≤ 92 → M'.1 k = M.1 k) (hf : ∀ f, 12 ≤ f ∧ f ≤ 15 → σ' f = σ f) (hE : MB1 σ M) : MB1 σ' M' := by
  intro i hi
  have := hE i hi
  unfold ENT LEF DRO LEA at *
  rw [gi_1 (h 89 (by omega)), gi_1 (h 90 (by omega)), gi_1 (h 91 (by omega)), gi_1 (h 92 (by omega)), hf 12 (by omega), hf 13 (by omega), hf 14 (by omega), hf 15 (by omega)]
  exact this
theorem MB2_c (h : ∀ k, 93 ≤ k ∧ k ≤ 96 → M'.1 k = M.1 k) (h0 : LEN σ' = LEN σ) (hf : ∀ f, 16 ≤ f ∧ f ≤ 20 → σ' f = σ f) (hE : MB2 σ M) : MB2 σ' M' := by
  intro i hi
  have := hE i hi
  unfold AHD BHD EBF FG KEP at *
  rw [gi_1 (h 93 (by omega)), gi_1 (h 94 (by omega)), gi_1 (h 95 (by omega)), gi_1 (h 96 (by omega)), h0, hf 16 (by omega), hf 17 (by omega), hf 18 (by omega), hf 19 (by omega), hf 20 (by omega)]
  exact this
theorem MB3_c (h : ∀ k, 86 ≤ k ∧ k ≤ 88 → M'.1 k = M.1 k) (h0 : NB σ' = NB σ) (hf : ∀ f, 9 ≤ f ∧ f ≤ 11 → σ' f = σ f) (hE : MB3 σ M) : MB3 σ' M' := by
  intro i hi
  rw [h0] at hi
  have := hE i hi
  unfold ORD PRD SHP at *
  rw [gi_1 (h 86 (by omega)), gi_1 (h 87 (by omega)), gi_1 (h 88 (by omega)), hf 9 (by omega), hf 10 (by omega), hf 11 (by omega)]
  exact this
theorem MU_c (h : ∀ k, 97 ≤ k ∧ k ≤ 98 → M'.1 k = M.1 k) (h0 : OPN σ' = OPN σ) (h1 : LEN σ' = LEN σ) (hf : ∀ f, 21 ≤ f ∧ f ≤ 22 → σ' f = σ f) (hE : MU σ M) : MU σ' M' := by
  unfold MU UB UP at *
  rw [h0, h1, hf 21 (by omega), hf 22 (by omega)]
  intro ho j hj
  rw [gi_1 (h 97 (by omega)), gi_1 (h 98 (by omega))]
  exact hE ho j hj
theorem MK_c (h : ∀ k, 99 ≤ k ∧ k ≤ 101 → M'.1 k = M.1 k) (h8 : gi M' 77 38 = gi M 77 38) (hf : ∀ f, 23 ≤ f ∧ f ≤ 26 → σ' f = σ f) (hE : MK σ M) : MK σ' M' := by
  unfold MK at *
  refine ⟨fun t ht => ?_, ?_⟩
  · have := hE.1 t ht
    unfold HAS TG MXD at *
    rw [gi_1 (h 99 (by omega)), gi_1 (h 100 (by omega)), gi_1 (h 101 (by omega)), hf 23 (by omega), hf 24 (by omega), hf 25 (by omega)]
    exact this
  · have := hE.2
    show _ = nI (sm (σ' 26) 0 4)
    rw [h8, hf 26 (by omega)]
    exact this
theorem ML_c (h : M'.1 102 = M.1 102) (hf : σ' 27 = σ 27) (hE : ML σ M) : ML σ' M' := by
  intro j hj
  have := hE j hj
  unfold BAL at *
  rw [gi_1 h, hf]
  exact this
end McCong
/-- the reference's rows -/
def FM (M M' : Mm) : Prop := Fr (fun k => 77 ≤ k ∧ k < 103) M M'
section Mm1
variable {σ : Sp} {M : Mm} {b p t : Nat}
theorem M_b175 (hK : MK σ M) (ht : t < 4) {a c v : Nat} (ha : a ≤ 1) (hc : c ≤ 1) : fX6_comesInto_b175 (nI t) (nI a) (nI c) (nI t) (nI v) M = some (si (si (si M 100 t (nI v)) 99 t (nI (HAS σ t + 1))) 101 t (nI (MXD σ t + if a = 0 ∧ c = 0 then 0 else 1))) := by
  obtain ⟨k1, k2, k3⟩ := hK.1 t ht
  have g := g6 ht (by omega)
  unfold fX6_comesInto_b175
  rw [cCl (show t < 2147483648 by omega)]
  simp only [if_pos g]
  simp (disch := omega) only [gi_eq, gi_ne, gi_sr, gr_si, gr_eq, gr_ne, k1, k3, Lt0, Lt1, Lt2, Lt3, Lt4, Lt5, Lt6, Lt7, Lt8, Lt9, Lt10, Lt31, Lt40, Lt50, Lt60, Lt63, Lt99, Lt100, Lt128, Lt200, Lt360, Lt500, Lt512, Lt9999, Lm, cAdd]
  rcases (show a = 0 ∨ a = 1 by omega) with rfl | rfl
  · rcases (show c = 0 ∨ c = 1 by omega) with rfl | rfl
    · rw [if_pos rfl, if_pos rfl, if_pos ⟨rfl, rfl⟩]
    · rw [if_pos rfl, if_neg (show ¬ nI 1 = nI 0 by decide), if_neg (show ¬ (0 = 0 ∧ 1 = 0) by omega)]
  · rw [if_neg (show ¬ nI 1 = nI 0 by decide), if_neg (show ¬ (1 = 0 ∧ c = 0) by omega)]
theorem M_b139 (hK : MK σ M) (hW : WK σ) (ht : t < 4) {a c g : Nat} (ha : a ≤ 1) (hc : c ≤ 1) (hg : g ≤ 9) : fX6_comesInto_b139 (nI t) (nI g) (nI a) (nI c) M = some (si (si (si M 100 t (nI (max (TG σ t) (g + 1) - 1))) 99 t (nI (HAS σ t + 1))) 101 t (nI (MXD σ t + if a = 0 ∧ c = 0 then 0 else 1))) := by
  obtain ⟨k1, k2, k3⟩ := hK.1 t ht
  obtain ⟨w1, w2, w3⟩ := hW t ht
  have g0 := g6 ht (by omega)
  unfold fX6_comesInto_b139
  rw [cCl (show t < 2147483648 by omega), if_pos g0, if_pos g0, if_pos g0, k1]
  by_cases z : HAS σ t = 0
  · have hz := w3.mp z
    rw [if_pos (show nI (HAS σ t) = 0 by rw [z]; rfl)]
    unfold fX6_comesInto_b164
    rw [M_b175 hK ht ha hc, show max (TG σ t) (g + 1) - 1 = g by omega]
  · have hz : TG σ t ≠ 0 := fun q => z (w3.mpr q)
    rw [if_neg (show ¬ nI (HAS σ t) = 0 by rw [Lt0, cEq (by omega) (by omega)]; exact z), k2 z]
    by_cases y : g ≤ TG σ t - 1
    · rw [if_pos (show nI g ≤ nI (TG σ t - 1) by rw [cLe (by omega) (by omega)]; exact y), M_b175 hK ht ha hc, show max (TG σ t) (g + 1) - 1 = TG σ t - 1 by omega]
    · rw [if_neg (show ¬ nI g ≤ nI (TG σ t - 1) by rw [cLe (by omega) (by omega)]; exact y)]
      unfold fX6_comesInto_b164
      rw [M_b175 hK ht ha hc, show max (TG σ t) (g + 1) - 1 = g by omega]
/-- what the tanks then hold -/
theorem MK_in (hK : MK σ M) (hW : WK σ) (ht : t < 4) {e g : Nat} : MK (us (us (us σ 23 t (HAS σ t + 1)) 24 t (max (TG σ t) (g + 1))) 25 t (MXD σ t + e)) (si (si (si M 100 t (nI (max (TG σ t) (g + 1) - 1))) 99 t (nI (HAS σ t + 1))) 101 t (nI (MXD σ t + e))) := by
  refine ⟨fun t' ht' => ?_, ?_⟩
  · obtain ⟨k1, k2, k3⟩ := hK.1 t' ht'
    by_cases z : t' = t
    · subst z
      unfold HAS TG MXD at *
      simp (disch := omega) only [gi_eq, gi_ne, gi_sr, gr_si, gr_eq, gr_ne, us_eq, us_ne]
      exact ⟨trivial, fun _ => trivial, trivial⟩
    · unfold HAS TG MXD at *
      simp (disch := omega) only [gi_eq, gi_ne, gi_sr, gr_si, gr_eq, gr_ne, us_eq, us_ne]
      exact ⟨k1, k2, k3⟩
  · have := hK.2
    show _ = nI (sm (us (us (us σ 23 t (HAS σ t + 1)) 24 t (max (TG σ t) (g + 1))) 25 t (MXD σ t + e) 26) 0 4)
    rw [us_f (by omega), us_f (by omega), us_f (by omega), gi_ne (by omega), gi_ne (by omega), gi_ne (by omega)]
    exact this
theorem M_comes (hX : MX σ M) (hG : MG σ M) (hK : MK σ M) (hW : WF σ) (hb : b < NB σ) (hp : p < ENT σ b) (ht : t < 4) : ∃ M', fX6_comesInto (nI t) (nI b) (nI p) M = some M' ∧ MK (pur σ t b p) M' ∧ Fr (fun k => k = 77 ∨ (99 ≤ k ∧ k < 102)) M M' ∧ ∀ j, j ≠ 38 → gi M' 77 j = gi M 77 j := by
  obtain ⟨hA, hWS, hWG, hWT, hWB, hWK, -⟩ := id hW
  have h40 := hA.2.2.1
  have hM := WF_WM hW
  obtain ⟨q1, q2, q3, q4⟩ := id hM
  obtain ⟨w1, w2, w3, w4, w5, w6⟩ := q3 b (by omega)
  obtain ⟨k1, k2, k3⟩ := hK.1 t ht
  obtain ⟨v1, v2, v3⟩ := hWK t ht
  obtain ⟨x1, x2, x3, x4⟩ := id hX
  obtain ⟨b1, b2, b3, b4⟩ := x2 b (by omega)
  have g0 := g6 ht (by omega)
  have gb := g6 (show b < 40 by omega) (by omega)
  unfold fX6_comesInto pur
  rw [cCl (show t < 2147483648 by omega), if_pos g0, k1]
  by_cases z : HAS σ t = 100
  · rw [if_pos (show nI (HAS σ t) = 100 by rw [z]; rfl), if_pos (show 100 ≤ HAS σ t by omega)]
    refine ⟨_, rfl, ?_, Fr.rf.si (Or.inl rfl), fun j hj => gi_ne (by omega)⟩
    refine ⟨fun t' ht' => ?_, ?_⟩
    · have := hK.1 t' ht'
      unfold HAS TG MXD at *
      rw [us_f (by omega), us_f (by omega), us_f (by omega), gi_ne (by omega), gi_ne (by omega), gi_ne (by omega)]
      exact this
    · rw [gi_eq rfl rfl, hK.2, Lt1, cAdd]
      congr 1
      have := sm_upd (f := SPL σ) (g := SPL (us σ 26 t (SPL σ t + 1))) (k := t) (a := 0) (n := 4) (by omega) (by omega) (fun j _ _ hj => us_ne (by omega))
      have e : SPL (us σ 26 t (SPL σ t + 1)) t = SPL σ t + 1 := us_eq rfl rfl
      omega
  · rw [if_neg (show ¬ nI (HAS σ t) = 100 by rw [show (100 : Int32) = nI 100 from rfl, cEq (by omega) (by omega)]; exact z), if_neg (show ¬ 100 ≤ HAS σ t by omega)]
    have hpb := q4 b hb
    have gp := g6 hpb (by omega)
    have Gb := (hG _ hpb).2.2.1
    have gG := (hWG _ hpb).2.2.2.2.1
    rw [cCl (show b < 2147483648 by omega), if_pos gb, x3 b hb, cCl (show PRD σ b < 2147483648 by omega), if_pos gp, Gb, M_ahead hX hW (by omega) (by omega), Option.bind_some, M_behind hX hW (by omega) hp, Option.bind_some, if_pos gb]
    -- behind
    have h95 : ∀ g, g ≤ 9 → fX6_comesInto_b95 (nI t) (nI b) (nI g) (nI (if m1 σ b p = true then 1 else 0)) (nI (if m2 σ b p = true then 1 else 0)) M = fX6_comesInto_b139 (nI t) (nI (max g (if m2 σ b p = true then GRD σ (PRD σ (BHD σ b - 1)) else 0))) (nI (if m1 σ b p = true then 1 else 0)) (nI (if m2 σ b p = true then 1 else 0)) M := by
      intro g hg
      unfold fX6_comesInto_b95
      by_cases y : m2 σ b p = true
      · have hc := w2 (by unfold m2 at y; rw [Bool.and_eq_true, decide_eq_true_eq] at y; exact y.1)
        have hne : BHD σ b ≠ 0 := by unfold m2 at y; rw [Bool.and_eq_true, decide_eq_true_eq] at y; exact y.1
        have hpc := q4 _ hc
        have Gc := (hG _ hpc).2.2.1
        have gc := (hWG _ hpc).2.2.2.2.1
        rw [if_pos y, if_pos y, if_neg (show ¬ nI 1 = 0 by decide), cCl (show b < 2147483648 by omega), if_pos gb, b2, nO_p (by omega), cCl (show BHD σ b - 1 < 2147483648 by omega), if_pos (g6 (show BHD σ b - 1 < 40 by omega) (by omega)), x3 _ hc, cCl (show PRD σ (BHD σ b - 1) < 2147483648 by omega), if_pos (g6 hpc (by omega)), Gc, if_pos gb, if_pos (g6 (show BHD σ b - 1 < 40 by omega) (by omega)), if_pos (g6 hpc (by omega))]
        by_cases x : GRD σ (PRD σ (BHD σ b - 1)) ≤ g
        · rw [if_pos (show nI (GRD σ (PRD σ (BHD σ b - 1))) ≤ nI g by rw [cLe (by omega) (by omega)]; exact x), show max g (GRD σ (PRD σ (BHD σ b - 1))) = g by omega]
        · rw [if_neg (show ¬ nI (GRD σ (PRD σ (BHD σ b - 1))) ≤ nI g by rw [cLe (by omega) (by omega)]; exact x), show max g (GRD σ (PRD σ (BHD σ b - 1))) = GRD σ (PRD σ (BHD σ b - 1)) by omega]
      · rw [if_neg y, if_neg y, if_pos (show nI 0 = 0 from rfl), show max g 0 = g by omega]
    have fin : ∀ g, g ≤ 9 → g = grd σ b p → fX6_comesInto_b139 (nI t) (nI g) (nI (if m1 σ b p = true then 1 else 0)) (nI (if m2 σ b p = true then 1 else 0)) M = some (si (si (si M 100 t (nI (max (TG σ t) (grd σ b p + 1) - 1))) 99 t (nI (HAS σ t + 1))) 101 t (nI (MXD σ t + if (m1 σ b p || m2 σ b p) = true then 1 else 0))) := by
      intro g hg he
      rw [M_b139 hK hWK ht (by split <;> omega) (by split <;> omega) hg, he]
      cases m1 σ b p <;> cases m2 σ b p <;> rfl
    refine ⟨_, ?_, MK_in hK hWK ht, ((Fr.rf.si (by omega)).si (by omega)).si (by omega), fun j hj => by rw [gi_ne (by omega), gi_ne (by omega), gi_ne (by omega)]⟩
    by_cases y : m1 σ b p = true
    · have hne : AHD σ b ≠ 0 := by unfold m1 at y; rw [Bool.and_eq_true, decide_eq_true_eq] at y; exact y.1
      have hc := w1 hne
      have hpc := q4 _ hc
      have Gc := (hG _ hpc).2.2.1
      have gc := (hWG _ hpc).2.2.2.2.1
      have hgr := grd_le (p := p) hWG hM hb
      have g1 : grd σ b p = max (max (GRD σ (PRD σ b)) (GRD σ (PRD σ (AHD σ b - 1)))) (if m2 σ b p = true then GRD σ (PRD σ (BHD σ b - 1)) else 0) := by unfold grd; rw [if_pos y]
      rw [if_neg (show ¬ nI (if m1 σ b p = true then 1 else 0) = 0 by rw [if_pos y]; decide), b1, nO_p (by omega), cCl (show AHD σ b - 1 < 2147483648 by omega), if_pos (g6 (show AHD σ b - 1 < 40 by omega) (by omega)), x3 _ hc, cCl (show PRD σ (AHD σ b - 1) < 2147483648 by omega), if_pos (g6 hpc (by omega)), Gc, if_pos gb, if_pos (g6 (show AHD σ b - 1 < 40 by omega) (by omega)), if_pos (g6 hpc (by omega))]
      by_cases x : GRD σ (PRD σ (AHD σ b - 1)) ≤ GRD σ (PRD σ b)
      · rw [if_pos (show nI (GRD σ (PRD σ (AHD σ b - 1))) ≤ nI (GRD σ (PRD σ b)) by rw [cLe (by omega) (by omega)]; exact x), h95 _ (by omega)]
        rw [show max (GRD σ (PRD σ b)) (GRD σ (PRD σ (AHD σ b - 1))) = GRD σ (PRD σ b) by omega] at g1
        rw [← g1]
        exact fin _ hgr rfl
      · rw [if_neg (show ¬ nI (GRD σ (PRD σ (AHD σ b - 1))) ≤ nI (GRD σ (PRD σ b)) by rw [cLe (by omega) (by omega)]; exact x), h95 _ (by omega)]
        rw [show max (GRD σ (PRD σ b)) (GRD σ (PRD σ (AHD σ b - 1))) = GRD σ (PRD σ (AHD σ b - 1)) by omega] at g1
        rw [← g1]
        exact fin _ hgr rfl
    · have hgr := grd_le (p := p) hWG hM hb
      have g1 : grd σ b p = max (GRD σ (PRD σ b)) (if m2 σ b p = true then GRD σ (PRD σ (BHD σ b - 1)) else 0) := by unfold grd; rw [if_neg y, Nat.max_zero]
      rw [if_pos (show nI (if m1 σ b p = true then 1 else 0) = 0 by rw [if_neg y]; rfl), h95 _ (by omega), ← g1]
      exact fin _ hgr rfl
/-! what a unit that goes changes, field by field -/
theorem pur_us {f v g : Nat} (hf : f = 13 ∨ f = 14) (hg : 23 ≤ g ∧ g ≤ 26) : pur (us σ f b v) t b p g = pur σ t b p g := by
  have e : ∀ h, h ≠ 13 → h ≠ 14 → us σ f b v h = σ h := fun h h1 h2 => us_f (by omega)
  have eg : grd (us σ f b v) b p = grd σ b p := by
    unfold grd m1 m2 mix AHD BHD GRD PRD FG KEP EBF ENT ALL
    rw [e 7 (by omega) (by omega), e 10 (by omega) (by omega), e 16 (by omega) (by omega), e 17 (by omega) (by omega), e 19 (by omega) (by omega), e 20 (by omega) (by omega), e 18 (by omega) (by omega), e 12 (by omega) (by omega), e 0 (by omega) (by omega)]
  have e1 : m1 (us σ f b v) b p = m1 σ b p := by
    unfold m1 mix AHD PRD FG KEP EBF ALL
    rw [e 10 (by omega) (by omega), e 16 (by omega) (by omega), e 19 (by omega) (by omega), e 20 (by omega) (by omega), e 18 (by omega) (by omega), e 0 (by omega) (by omega)]
  have e2 : m2 (us σ f b v) b p = m2 σ b p := by
    unfold m2 mix AHD BHD PRD FG KEP EBF ENT ALL
    rw [e 10 (by omega) (by omega), e 16 (by omega) (by omega), e 17 (by omega) (by omega), e 19 (by omega) (by omega), e 20 (by omega) (by omega), e 18 (by omega) (by omega), e 12 (by omega) (by omega), e 0 (by omega) (by omega)]
  unfold pur
  rw [eg, e1, e2]
  unfold HAS TG MXD SPL
  rw [e 23 (by omega) (by omega), e 24 (by omega) (by omega), e 25 (by omega) (by omega), e 26 (by omega) (by omega)]
  funext i
  split
  · unfold us
    by_cases z : g = 26 ∧ i = t
    · rw [if_pos z, if_pos z]
    · rw [if_neg z, if_neg z, if_neg (by omega)]
  · unfold us
    by_cases z : g = 25 ∧ i = t
    · rw [if_pos z, if_pos z]
    · rw [if_neg z, if_neg z]
      by_cases y : g = 24 ∧ i = t
      · rw [if_pos y, if_pos y]
      · rw [if_neg y, if_neg y]
        by_cases x : g = 23 ∧ i = t
        · rw [if_pos x, if_pos x]
        · rw [if_neg x, if_neg x, if_neg (by omega)]
end Mm1
