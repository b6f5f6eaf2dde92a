/-! THE LAW'S CALLS THAT CHANGE SOMETHING, ON THE CLASS ALONE -/
section Q72
variable {σ σ' : Sp} {M M' M1 : Mm} {l d o l' d' o' s b m len : Nat}
/-- the pipe open, with so many segments, batches, minutes, units -/
def ST (σ : Sp) (s b m len : Nat) (M : Mm) : Prop := ∃ l d o, WF σ ∧ EC σ l d o M ∧ KP σ ∧ OPN σ = 1 ∧ NS σ = s ∧ NB σ = b ∧ MIN σ = m ∧ LEN σ = len
def OKS (f : Mm → Option (Int32 × Mm)) (v : Int32) (s b m len : Nat) (M : Mm) : Prop := ∃ M' σ', f M = some (v, M') ∧ ST σ' s b m len M'
theorem mkS {f : Mm → Option (Int32 × Mm)} {v : Int32} (hC' : EC σ' l' d' o' M1) (hW' : WF σ') (hK : KP σ') (hf : f M = some (v, M1)) (h2 : OPN σ' = 1) (h0 : NS σ' = s) (h1 : NB σ' = b) (h7 : MIN σ' = m) (h15 : LEN σ' = len) : OKS f v s b m len M := ⟨M1, σ', hf, l', d', o', hW', hC', hK, h2, h0, h1, h7, h15⟩
theorem A_rate (h : ST σ s b m len M) {j : Nat} (hj : j ≤ 10) : ∃ v : Nat, v ≤ 10 ∧ OKS (fL_rate (nI j)) (nI v) s b m len M := by
  obtain ⟨l, d, o, hW, hC, hK, ho, hs, hb, hm, hl⟩ := h
  refine ⟨RT σ, hW.1.2.2.2.2.1, mkS (σ' := us σ 0 5 j) (EC_P hC hW.1.1 hW.1.2.2.1 (i := 5) (v := j) (by omega)) ?_ (KP_c hK (fun f hf => us_f (by omega))) ?_ ((us_ne (by omega)).trans ho) ((us_ne (by omega)).trans hs) ((us_ne (by omega)).trans hb) ((us_ne (by omega)).trans hm) ((us_ne (by omega)).trans hl)⟩
  · exact WF_c hW (fun i h5 _ _ => us_ne (by omega)) (fun f h0 _ _ => us_f h0) (by unfold RT; rw [us_eq rfl rfl]; omega) (by unfold RF; rw [us_ne (by omega)]; exact hW.1.2.2.2.2.2.1) (by unfold MIN; rw [us_ne (by omega)]; exact hW.1.2.2.2.2.2.2.1) (fun i hi => ⟨by unfold DIR; rw [us_f (by omega)]; exact hW.2.1.2 i hi, fun q => by
        unfold DIR; rw [us_f (by omega)]; exact ((hW.2.2.2.2.2.2.1 q).2.2.2.2.2.1 i hi).2⟩)
  · unfold fL_rate fX5_rate
    rw [Lt0, show (10 : Int32) = nI 10 from rfl, C_rng0 (by omega) (by omega) (by omega), Option.bind_some, hC.1.2.2.2.2.1]
    rfl
theorem A_receive (h : ST σ s b m len M) {j : Nat} (h1 : j < 4) : ∃ v : Nat, v < 4 ∧ OKS (fL_receive (nI j)) (nI v) s b m len M := by
  obtain ⟨l, d, o, hW, hC, hK, ho, hs, hb, hm, hl⟩ := h
  have hT := hW.2.2.2.1
  obtain ⟨t1, t2, t3, t4, t5, t6, t7, t8, t9, t10⟩ := id hC.2.1
  have h0 : ∀ i, i < 9 ∨ i = 15 → us σ 0 14 j 0 i = σ 0 i := fun i hi => us_ne (by omega)
  have hf : ∀ f, f ≠ 0 → us σ 0 14 j f = σ f := fun f h => us_f h
  refine ⟨RCV σ, hT.2.2.2.2.2, mkS (σ' := us σ 0 14 j) (EC_T' (M' := si M (6 + 2) 2 (nI j)) (l' := l) (d' := d) (o' := o) hC hW.1.1 hW.1.2.2.1 ?_ (Fr.rf.si (by omega)) h0 hf) (WF_T hW ?_ h0 hf) (KP_c hK (fun f h => hf f (by omega))) ?_ ((h0 2 (by omega)).trans ho) ((h0 0 (by omega)).trans hs) ((h0 1 (by omega)).trans hb) ((h0 7 (by omega)).trans hm) ((h0 15 (by omega)).trans hl)⟩
  · unfold ET
    unfold LK LKU DR DRU DRT OPN NS RCV at *
    simp (disch := omega) only [gi_eq, gi_ne, gi_sr, gr_si, gr_eq, gr_ne, us_eq, us_ne]
    exact ⟨t1, t2, t3, t4, t5, t6, t7, t8, trivial, t10⟩
  · unfold WT' at *
    unfold LK LKU DR DRU DRT NS RCV at *
    simp (disch := omega) only [us_eq, us_ne]
    exact ⟨hT.1, hT.2.1, hT.2.2.1, hT.2.2.2.1, hT.2.2.2.2.1, h1⟩
  · unfold fL_receive fX5_receive
    rw [show (4 : Int32) = nI 4 from rfl, C_idx0 (by omega) h1, Option.bind_some, t9]
    rfl
theorem C_way (hC : gi M 0 8 = nI (NS σ)) (h6 : NS σ ≤ 6) {v : Nat} (hv : v < NS σ) : fX5_checkOnTheWay (nO v) M = some 0 := by
  unfold fX5_checkOnTheWay
  rcases Nat.eq_zero_or_pos v with z | z
  · rw [z, if_pos (show nO 0 = -1 from rfl)]
  · rw [nO_p z, if_neg (show ¬ nI (v - 1) = -1 by rw [show (-1 : Int32) = nM from rfl, cMe (by omega)]; exact fun q => q), hC, Lt1, cSub (show 1 ≤ NS σ by omega), C_idx0 (by omega) (show v - 1 < NS σ - 1 by omega), Option.bind_some]
    rfl
theorem A_leak (h : ST σ s b m len M) {v j : Nat} (hv : v < s) (h1 : 1 ≤ j) (h2 : j ≤ 10) : OKS (fL_leak (nO v) (nI j)) 0 s b m len M := by
  obtain ⟨l, d, o, hW, hC, hK, ho, hs, hb, hm, hl⟩ := h
  have v4 := C_way hC.1.1 hW.1.1 (show v < NS σ by omega)
  have hT := hW.2.2.2.1
  obtain ⟨t1, t2, t3, t4, t5, t6, t7, t8, t9, t10⟩ := id hC.2.1
  have h0 : ∀ i, i < 9 ∨ i = 15 → us (us σ 0 9 v) 0 10 j 0 i = σ 0 i := fun i hi => by rw [us_ne (by omega), us_ne (by omega)]
  have hf : ∀ f, f ≠ 0 → us (us σ 0 9 v) 0 10 j f = σ f := fun f h => by rw [us_f h, us_f h]
  refine mkS (σ' := us (us σ 0 9 v) 0 10 j) (EC_T' (M' := si (si (si M (6 + 0) 0 (nO v)) (6 + 0) 1 (nI j)) (6 + 0) 2 0) (l' := l) (d' := d) (o' := o) hC hW.1.1 hW.1.2.2.1 ?_ (((Fr.rf.si (by omega)).si (by omega)).si (by omega)) h0 hf) (WF_T hW ?_ h0 hf) (KP_c hK (fun f h => hf f (by omega))) ?_ ((h0 2 (by omega)).trans ho) ((h0 0 (by omega)).trans hs) ((h0 1 (by omega)).trans hb) ((h0 7 (by omega)).trans hm) ((h0 15 (by omega)).trans hl)
  · unfold ET
    unfold LK LKU DR DRU DRT OPN NS RCV at *
    simp (disch := omega) only [gi_eq, gi_ne, gi_sr, gr_si, gr_eq, gr_ne, us_eq, us_ne]
    exact ⟨trivial, trivial, t3, t4, t5, t6, t7, t8, t9, t10⟩
  · unfold WT' at *
    unfold LK LKU DR DRU DRT NS RCV at *
    simp (disch := omega) only [us_eq, us_ne]
    exact ⟨fun _ => by omega, h2, hT.2.2.1, hT.2.2.2.1, hT.2.2.2.2.1, hT.2.2.2.2.2⟩
  · unfold fL_leak fX5_leak fX4_tell
    rw [v4, Option.bind_some, if_pos rfl, Lt1, show (10 : Int32) = nI 10 from rfl, C_rng0 (by omega) (by omega) (by omega), Option.bind_some, if_pos rfl, if_pos (by omega)]
    rfl
theorem A_drop (h : ST σ s b m len M) {v j t : Nat} (hv : v < s) (h1 : 1 ≤ j) (h2 : j ≤ 10) (ht : t < 4) : OKS (fL_drop (nO v) (nI j) (nI t)) 0 s b m len M := by
  obtain ⟨l, d, o, hW, hC, hK, ho, hs, hb, hm, hl⟩ := h
  have v4 := C_way hC.1.1 hW.1.1 (show v < NS σ by omega)
  have hT := hW.2.2.2.1
  obtain ⟨t1, t2, t3, t4, t5, t6, t7, t8, t9, t10⟩ := id hC.2.1
  have h0 : ∀ i, i < 9 ∨ i = 15 → us (us (us σ 0 11 v) 0 12 j) 0 13 t 0 i = σ 0 i := fun i hi => by rw [us_ne (by omega), us_ne (by omega), us_ne (by omega)]
  have hf : ∀ f, f ≠ 0 → us (us (us σ 0 11 v) 0 12 j) 0 13 t f = σ f := fun f h => by rw [us_f h, us_f h, us_f h]
  refine mkS (σ' := us (us (us σ 0 11 v) 0 12 j) 0 13 t) (EC_T' (M' := si (si (si M (6 + 1) 0 (nO v)) (6 + 1) 1 (nI j)) (6 + 1) 2 (nI t)) (l' := l) (d' := d) (o' := o) hC hW.1.1 hW.1.2.2.1 ?_ (((Fr.rf.si (by omega)).si (by omega)).si (by omega)) h0 hf) (WF_T hW ?_ h0 hf) (KP_c hK (fun f h => hf f (by omega))) ?_ ((h0 2 (by omega)).trans ho) ((h0 0 (by omega)).trans hs) ((h0 1 (by omega)).trans hb) ((h0 7 (by omega)).trans hm) ((h0 15 (by omega)).trans hl)
  · unfold ET
    unfold LK LKU DR DRU DRT OPN NS RCV at *
    simp (disch := omega) only [gi_eq, gi_ne, gi_sr, gr_si, gr_eq, gr_ne, us_eq, us_ne]
    exact ⟨t1, t2, t3, trivial, trivial, trivial, t7, t8, t9, t10⟩
  · unfold WT' at *
    unfold LK LKU DR DRU DRT NS RCV at *
    simp (disch := omega) only [us_eq, us_ne]
    exact ⟨hT.1, hT.2.1, fun _ => by omega, h2, ht, hT.2.2.2.2.2⟩
  · unfold fL_drop fX5_drop fX4_tell
    rw [v4, Option.bind_some, if_pos rfl, show (4 : Int32) = nI 4 from rfl, C_idx0 (by omega) ht, Option.bind_some, if_pos rfl, Lt1, show (10 : Int32) = nI 10 from rfl, C_rng0 (by omega) (by omega) (by omega), Option.bind_some, if_pos rfl, if_pos (by omega)]
    rfl
theorem A_empty (h : ST σ s b m len M) {t : Nat} (ht : t < 4) : ∃ v : Nat, v ≤ 100 ∧ ∃ M' σ', fL_empty (nI t) M = some (nI v, M') ∧ ST σ' s b m len M' ∧ HAS σ' t = 0 := by
  obtain ⟨l, d, o, hW, hC, hK, ho, hs, hb, hm, hl⟩ := h
  have hWK := hW.2.2.2.2.2.1
  have g := g6 ht (by omega)
  have hct : (nI t).toNatClampNeg = t := cCl (by omega)
  have hc := hC.2.2.2.2.2.2.2.2.2.1
  have hf : ∀ f, ¬ (23 ≤ f ∧ f ≤ 25) → us (us (us σ 23 t 0) 24 t 0) 25 t 0 f = σ f := fun f h => by rw [us_f (by omega), us_f (by omega), us_f (by omega)]
  have h0 : ∀ i, us (us (us σ 23 t 0) 24 t 0) 25 t 0 0 i = σ 0 i := fun i => by rw [hf 0 (by omega)]
  have a1 : ∀ k, HAS (us (us (us σ 23 t 0) 24 t 0) 25 t 0) k = if k = t then 0 else HAS σ k := fun k => by
    unfold HAS
    rw [us_ne (by omega), us_ne (by omega)]
    by_cases z : k = t
    · rw [if_pos z, us_eq rfl z]
    · rw [if_neg z, us_ne (by omega)]
  refine ⟨HAS σ t, (hWK t ht).1, si (si (si M (73 + t) 0 0) (73 + t) 1 (-1)) (73 + t) 2 0, us (us (us σ 23 t 0) 24 t 0) 25 t 0, ?_, ⟨l, d, o, WF_K hW ?_ ?_ (fun f h1 h2 => hf f (by omega)), EC_K hC hW.1.1 hW.1.2.2.1 ?_ (((Fr.rf.si (by omega)).si (by omega)).si (by omega)) (fun f h => hf f (by omega)), ?_, (h0 2).trans ho, (h0 0).trans hs, (h0 1).trans hb, (h0 7).trans hm, (h0 15).trans hl⟩, by rw [a1, if_pos rfl]⟩
  · unfold fL_empty fX5_empty fX3_pourOut
    rw [show fX5_checkIndex (nI t) 4 M = some 0 from C_idx0 (n := 4) (by omega) ht, Option.bind_some, if_pos rfl, hct, if_pos g, if_pos ht, (hc t ht).1]
    rfl
  · intro p hp
    have := hW.2.2.1 p hp
    unfold WEI THK GRD BAR at *
    rw [hf 5 (by omega), hf 6 (by omega), hf 7 (by omega), hf 8 (by omega)]
    exact this
  · intro t' ht'
    have := hWK t' ht'
    unfold HAS TG at *
    by_cases z : t' = t
    · subst z
      rw [us_f (f' := 23) (by omega), us_f (f' := 23) (by omega), us_f (f' := 24) (by omega), us_eq rfl rfl, us_eq rfl rfl]
      exact ⟨Nat.zero_le _, Nat.zero_le _, ⟨fun _ => rfl, fun _ => rfl⟩⟩
    · simp (disch := omega) only [us_ne]
      exact this
  · intro t' ht'
    have := hc t' ht'
    unfold HAS TG MXD SPL at *
    by_cases z : t' = t
    · subst z
      simp (disch := omega) only [gi_eq, gi_ne, gi_sr, gr_si, gr_eq, gr_ne, us_eq, us_ne]
      exact ⟨rfl, rfl, rfl, this.2.2.2⟩
    · simp (disch := omega) only [gi_eq, gi_ne, gi_sr, gr_si, gr_eq, gr_ne, us_ne]
      exact this
  · have g13 : LEF (us (us (us σ 23 t 0) 24 t 0) 25 t 0) = LEF σ := hf 13 (by omega)
    have g14 : DRO (us (us (us σ 23 t 0) 24 t 0) 25 t 0) = DRO σ := hf 14 (by omega)
    have g26 : SPL (us (us (us σ 23 t 0) 24 t 0) 25 t 0) = SPL σ := hf 26 (by omega)
    have hle : sm (HAS (us (us (us σ 23 t 0) 24 t 0) 25 t 0)) 0 4 ≤ sm (HAS σ) 0 4 := sm_le (fun k _ _ => by rw [a1]; split <;> omega)
    unfold KP
    rw [g13, g14, g26]
    refine ⟨by have := hK.1; omega, fun k hk => ?_⟩
    rw [a1]
    by_cases z : k = t
    · rw [if_pos z]
      unfold MXD
      rw [us_eq rfl z]
      exact Nat.le_refl 0
    · rw [if_neg z]
      unfold MXD
      rw [us_ne (by omega), us_ne (by omega), us_ne (by omega)]
      exact hK.2 k hk
theorem A_launch (h : ST σ s b m len M) : (PIG σ ≠ 0 ∧ fL_launch M = some (-103, M)) ∨ (PIG σ = 0 ∧ ∃ M' σ', fL_launch M = some (0, M') ∧ ST σ' s b m len M' ∧ PIG σ' ≠ 0) := by
  obtain ⟨l, d, o, hW, hC, hK, z, hs, hb, hm, hl⟩ := h
  obtain ⟨hA, hWS, hWG, hWT, hWB, hWK, hWC, hWO, hWL, hWU⟩ := id hW
  by_cases y : PIG σ = 0
  · right
    refine ⟨y, ?_⟩
    have hI := hA.2.2.2.2.2.2.2.2.1
    have h40 := hA.2.2.1
    have o5 := (hWO z).2.2.2.2.1
    have hb2 := (hWB.2 (INL σ) (by omega)).2.1
    obtain ⟨e0, e4, -⟩ := hC.2.2.2.2.2.2.1 (INL σ) (by omega)
    have hcod : cod (INL σ) (ENT σ (INL σ) - 1) = INL σ * 512 + (ENT σ (INL σ) - 1) := rfl
    have hf : ∀ f, f ≠ 0 → us σ 0 8 (cod (INL σ) (ENT σ (INL σ) - 1) + 1) f = σ f := fun f h => us_f h
    have h0 : ∀ i, i ≠ 8 → us σ 0 8 (cod (INL σ) (ENT σ (INL σ) - 1) + 1) 0 i = σ 0 i := fun i h => us_ne (by omega)
    refine ⟨si M 0 16 (nO (cod (INL σ) (ENT σ (INL σ) - 1) + 1)), us σ 0 8 (cod (INL σ) (ENT σ (INL σ) - 1) + 1), ?_, ⟨l, d, o, WF_g hW (fun i hi => h0 i (by omega)) (fun f h => hf f (by omega)) ?_ ?_ ?_ ?_ ?_ ?_ ?_ ?_, EC_pig hC hW.1.1 hW.1.2.2.1 (v := cod (INL σ) (ENT σ (INL σ) - 1) + 1), KP_c hK (fun f h => hf f (by omega)), (h0 2 (by omega)).trans z, (h0 0 (by omega)).trans hs, (h0 1 (by omega)).trans hb, (h0 7 (by omega)).trans hm, (h0 15 (by omega)).trans hl⟩, ?_⟩
    · unfold fL_launch fX5_launch fX5_unitOf
      rw [hC.1.2.2.1, z, if_neg (show ¬ nI 1 = 0 by decide), hC.1.2.2.2.2.2.2.2.1, y, nO_0, if_pos (show nM = -1 from rfl), hC.1.2.2.2.2.2.2.2.2, Option.bind_some, if_pos (show INL σ < 40 by omega), if_pos (show INL σ < 40 by omega), e0, e4, Lt1, cSub o5, show (512 : Int32) = nI 512 from rfl, cMul, cAdd, Option.bind_some, Option.bind_some, nO_s, hcod]
      rfl
    · intro p hp
      have := hWG p hp
      unfold WEI THK GRD BAR at *
      rw [hf 5 (by omega), hf 6 (by omega), hf 7 (by omega), hf 8 (by omega)]
      exact this
    · unfold WT' at *
      unfold LK LKU DR DRU DRT NS RCV at *
      rw [h0 0 (by omega), h0 9 (by omega), h0 10 (by omega), h0 11 (by omega), h0 12 (by omega), h0 13 (by omega), h0 14 (by omega)]
      exact hWT
    · intro t ht
      have := hWK t ht
      unfold HAS TG at *
      rw [hf 23 (by omega), hf 24 (by omega)]
      exact this
    · unfold PIG
      rw [us_eq rfl rfl, hcod]
      exact ⟨by omega, fun q => by omega⟩
    · unfold RT at *; rw [h0 5 (by omega)]; exact hA.2.2.2.2.1
    · unfold RF at *; rw [h0 6 (by omega)]; exact hA.2.2.2.2.2.1
    · unfold MIN at *; rw [h0 7 (by omega)]; exact hA.2.2.2.2.2.2.1
    · intro i hi
      have := hWS.2 i hi
      exact ⟨by unfold DIR at *; rw [hf 4 (by omega)]; exact this, fun q => by omega⟩
    · unfold PIG
      rw [us_eq rfl rfl]
      omega
  · left
    refine ⟨y, ?_⟩
    have hp := hA.2.2.2.2.2.2.2.2.2.2.2
    unfold fL_launch fX5_launch
    rw [hC.1.2.2.1, z, if_neg (show ¬ nI 1 = 0 by decide), hC.1.2.2.2.2.2.2.2.1, nO_p (by omega), if_neg (show ¬ nI (PIG σ - 1) = -1 by rw [show (-1 : Int32) = nM from rfl, cMe (by omega)]; exact fun q => q), Option.bind_some]
    rfl
theorem A_pass (h : ST σ s b m len M) {j : Nat} (h1 : 1 ≤ j) (h2 : j ≤ 60) (y : m + j ≤ 9999) : ∃ v : Nat, v ≤ 10 * j ∧ OKS (fL_pass (nI j)) (nI v) s b (m + j) len M := by
  obtain ⟨l, d, o, hW, hC, hK, z, hs, hb, hm, hl⟩ := h
  rw [← hm] at y ⊢
  have cr : fX5_checkRange (nI j) 1 60 M = some 0 := C_rng0 (a := 1) (b := 60) (by omega) (by omega) (by omega)
  obtain ⟨M', l', d', o', q1, q2, q3⟩ := C_pass_L j 0 400 j 0 l d o σ M (by omega) (by omega) (by omega) hC hW z y
  obtain ⟨w, w2, w3, w4⟩ := mns_WF j σ 0 hW z y
  refine ⟨(mns j σ 0).2, by omega, mkS (l' := l') (d' := d') (o' := o') q2 w (mns_KP j σ 0 hW z y hK) ?_ w2 ((mns_0 (by omega) j σ 0).trans hs) ((mns_0 (by omega) j σ 0).trans hb) w3 ((mns_0 (by omega) j σ 0).trans hl)⟩
  unfold fL_pass fX5_pass
  rw [cr, Option.bind_some, if_pos rfl, hC.1.2.2.1, z, if_neg (show ¬ nI 1 = 0 by decide), hC.1.2.2.2.2.2.2.1, cAdd, if_pos (show nI (MIN σ + j) ≤ 9999 by rw [show (9999 : Int32) = nI 9999 from rfl, cLe (by omega) (by omega)]; exact y), Lt0, q1, Option.bind_some]
  rfl
theorem A_product (h : ST σ s b m len M) {p a' b' c' e' : Nat} (hp : p < 6) (ha1 : 1 ≤ a') (ha2 : a' ≤ 10) (hb1 : 1 ≤ b') (hb2 : b' ≤ 10) (hc2 : c' ≤ 9) (he2 : e' ≤ 63) (z : e'.testBit p = false) : OKS (fL_product (nI p) (nI a') (nI b') (nI c') (nI e')) 0 s b m len M := by
  obtain ⟨l, d, o, hW, hC, hK, ho, hs, hb, hm, hl⟩ := h
  have ci : fX5_checkIndex (nI p) 6 M = some 0 := C_idx0 (n := 6) (by omega) hp
  have ca : fX5_checkRange (nI a') 1 10 M = some 0 := C_rng0 (a := 1) (b := 10) (by omega) ha1 ha2
  have cb : fX5_checkRange (nI b') 1 10 M = some 0 := C_rng0 (a := 1) (b := 10) (by omega) hb1 hb2
  have cc : fX5_checkRange (nI c') 0 9 M = some 0 := C_rng0 (a := 0) (b := 9) (by omega) (by omega) hc2
  have ce : fX5_checkRange (nI e') 0 63 M = some 0 := C_rng0 (a := 0) (b := 63) (by omega) (by omega) he2
  have hct : (nI p).toNatClampNeg = p := cCl (by omega)
  have g := g6 hp (by omega)
  have hbz := bit_z (n := e') (j := p) (by omega) hp
  have hf : ∀ f, ¬ (5 ≤ f ∧ f ≤ 8) → us (us (us (us σ 5 p a') 6 p b') 7 p c') 8 p e' f = σ f := fun f h => by rw [us_f (by omega), us_f (by omega), us_f (by omega), us_f (by omega)]
  have h0 : ∀ i, us (us (us (us σ 5 p a') 6 p b') 7 p c') 8 p e' 0 i = σ 0 i := fun i => by rw [hf 0 (by omega)]
  refine mkS (σ' := us (us (us (us σ 5 p a') 6 p b') 7 p c') 8 p e') (EC_G (M' := si (si (si (si M (27 + p) 1 (nI a')) (27 + p) 2 (nI b')) (27 + p) 3 (nI c')) (27 + p) 4 (nI e')) hC hW.1.1 hW.1.2.2.1 ?_ ((((Fr.rf.si (by omega)).si (by omega)).si (by omega)).si (by omega)) (fun f h => hf f (by omega))) (WF_K hW ?_ ?_ (fun f h1 h2 => hf f h1)) (KP_c hK (fun f h => hf f (by omega))) ?_ ((h0 2).trans ho) ((h0 0).trans hs) ((h0 1).trans hb) ((h0 7).trans hm) ((h0 15).trans hl)
  · intro q hq
    have := hC.2.2.2.2.2.1 q hq
    unfold WEI THK GRD BAR at *
    by_cases y : q = p
    · subst y
      simp (disch := omega) only [gi_eq, gi_ne, gi_sr, gr_si, gr_eq, gr_ne, us_eq, us_ne]
      exact ⟨this.1, trivial, trivial, trivial, trivial⟩
    · simp (disch := omega) only [gi_eq, gi_ne, gi_sr, gr_si, gr_eq, gr_ne, us_ne]
      exact this
  · intro q hq
    have := hW.2.2.1 q hq
    unfold WEI THK GRD BAR at *
    by_cases y : q = p
    · subst y
      simp (disch := omega) only [us_eq, us_ne]
      exact ⟨ha1, ha2, hb1, hb2, hc2, he2⟩
    · simp (disch := omega) only [us_ne]
      exact this
  · intro t ht
    have := hW.2.2.2.2.2.1 t ht
    unfold HAS TG at *
    rw [hf 23 (by omega), hf 24 (by omega)]
    exact this
  · unfold fL_product fX5_product fX1_tell
    rw [ci, Option.bind_some, if_pos rfl, ca, Option.bind_some, if_pos rfl, cb, Option.bind_some, if_pos rfl, cc, Option.bind_some, if_pos rfl, ce, Option.bind_some, if_pos rfl, hct, if_pos g, if_pos hp, if_pos (show (nI e' &&& ishl 1 (nI p)) = 0 from (cast hbz.symm z)), Option.bind_some]
    rfl
theorem EC_nwb (hC : EC σ l d o M) (hW : WF σ) (hn : NB σ < 40) {s p q : Nat} (hp : p < 6) : EC (nwb σ s p q) l d o (si (si (sr (si M (33 + NB σ) 2 (nI s)) (33 + NB σ) 1 (some p)) (33 + NB σ) 3 (nI q)) 0 9 (nI (NB σ + 1))) := by
  obtain ⟨hA, hWS, hWG, hWT, hWB, hWK, hWC, hWO, hWL, hWU⟩ := id hW
  have h40 := hA.2.2.1
  have h0 : ∀ i, i ≠ 1 → nwb σ s p q 0 i = σ 0 i := fun i hi => nwb_0 hi
  have hf : ∀ f, f ≠ 0 → f ≠ 9 → f ≠ 10 → f ≠ 11 → nwb σ s p q f = σ f := fun f h1 h2 h3 h4 => nwb_f h1 h2 h3 h4
  obtain ⟨c1, c2, c3, c4, c5, c6, c7, c8, c9, c10, c11⟩ := id hC
  have hr1 : ∀ k, k ≠ 0 → k ≠ 33 + NB σ → (si (si (sr (si M (33 + NB σ) 2 (nI s)) (33 + NB σ) 1 (some p)) (33 + NB σ) 3 (nI q)) 0 9 (nI (NB σ + 1))).1 k = M.1 k := fun k h1 h2 => by rw [si_1 h1, si_1 h2, sr_1, si_1 h2]
  have hr2 : ∀ k, k ≠ 33 + NB σ → (si (si (sr (si M (33 + NB σ) 2 (nI s)) (33 + NB σ) 1 (some p)) (33 + NB σ) 3 (nI q)) 0 9 (nI (NB σ + 1))).2 k = M.2 k := fun k h2 => by rw [si_2, si_2, sr_2 h2, si_2]
  refine ⟨?_, ET_c (fun t ht => hr1 _ (by omega) (by omega)) (fun i _ _ _ _ _ h1 _ => h0 i h1) c2, ES_c (fun j hj => hr1 _ (by omega) (by omega)) (h0 0 (by omega)) (hf 1 (by omega) (by omega) (by omega) (by omega)) (hf 2 (by omega) (by omega) (by omega) (by omega)) (hf 3 (by omega) (by omega) (by omega) (by omega)) (hf 4 (by omega) (by omega) (by omega) (by omega)) (hf 28 (by omega) (by omega) (by omega) (by omega)) c3, ER_c (fun j hj => hr1 _ (by omega) (by omega)) hA.1 (h0 0 (by omega)) (h0 2 (by omega)) (hf 1 (by omega) (by omega) (by omega) (by omega)) (hf 21 (by omega) (by omega) (by omega) (by omega)) (hf 22 (by omega) (by omega) (by omega) (by omega)) (hf 28 (by omega) (by omega) (by omega) (by omega)) c4, ?_, EG_c (fun i hi => hr1 _ (by omega) (by omega)) (hf 5 (by omega) (by omega) (by omega) (by omega)) (hf 6 (by omega) (by omega) (by omega) (by omega)) (hf 7 (by omega) (by omega) (by omega) (by omega)) (hf 8 (by omega) (by omega) (by omega) (by omega)) c6, ?_, ?_, ?_, EK_c (fun t ht => hr1 _ (by omega) (by omega)) (hf 23 (by omega) (by omega) (by omega) (by omega)) (hf 24 (by omega) (by omega) (by omega) (by omega)) (hf 25 (by omega) (by omega) (by omega) (by omega)) (hf 26 (by omega) (by omega) (by omega) (by omega)) c10, EL_c (hr1 5 (by omega) (by omega)) (hf 27 (by omega) (by omega) (by omega) (by omega)) c11⟩
  · obtain ⟨p1, p2, p3, p4, p5, p6, p7, p8, p9⟩ := c1
    unfold EP
    rw [nwb_NB]
    unfold NS OPN ALL RT RF MIN PIG INL at *
    rw [h0 0 (by omega), h0 2 (by omega), h0 3 (by omega), h0 4 (by omega), h0 5 (by omega), h0 6 (by omega), h0 7 (by omega), h0 8 (by omega)]
    simp (disch := omega) only [gi_eq, gi_ne, gi_sr, gr_si, gr_eq, gr_ne]
    exact ⟨p1, trivial, p3, p4, p5, p6, p7, p8, p9⟩
  · intro i hi p' hp'
    rw [gi_1 (hr1 _ (by omega) (by omega)), c5 i hi p' hp']
    have e1 : NS (nwb σ s p q) = NS σ := h0 0 (by omega)
    have e3 : OPN (nwb σ s p q) = OPN σ := h0 2 (by omega)
    rw [e1, e3]
    by_cases z : OPN σ = 1 ∧ i < NS σ
    · rw [if_pos z, if_pos z]
      congr 1
      unfold cnt
      rw [off_c e1 (hf 1 (by omega) (by omega) (by omega) (by omega))]
      show sm _ 0 (σ 1 i) = sm _ 0 (nwb σ s p q 1 i)
      rw [hf 1 (by omega) (by omega) (by omega) (by omega)]
      apply sm_cong
      intro j _ hj
      have hj : j < HOL σ i := by rw [Nat.zero_add] at hj; exact hj
      have u := (WF_unit hW z.1 (WF_off hW z.1 z.2 hj)).1
      have e21 : UB (nwb σ s p q) = UB σ := hf 21 (by omega) (by omega) (by omega) (by omega)
      rw [e21, (nwb_b (s := s) (p := p) (q := q) (show UB σ (off σ i + j) ≠ NB σ by omega)).2.1]
    · rw [if_neg z, if_neg z]
  · intro b hb
    have := c7 b hb
    unfold ENT LEF DRO LEA FG at *
    rw [hf 12 (by omega) (by omega) (by omega) (by omega), hf 13 (by omega) (by omega) (by omega) (by omega), hf 14 (by omega) (by omega) (by omega) (by omega), hf 15 (by omega) (by omega) (by omega) (by omega), hf 19 (by omega) (by omega) (by omega) (by omega)]
    simp (disch := omega) only [gi_eq, gi_ne, gi_sr, gr_si, gr_eq, gr_ne]
    exact this
  · intro b hb
    obtain ⟨b1, b2, b3, b4⟩ := c8 b hb
    have hM := WF_WM hW
    have hmix : FG σ b = 1 → mix (nwb σ s p q) b = mix σ b := fun hz => by
      have hbn : b ≠ NB σ := fun y => by
        have q1 := (hWB.2 b hb).2.2.2.2.2
        have := q1.2 hz
        have := q1.1 (by omega)
        omega
      have hb' : b < NB σ := by
        rcases Nat.lt_or_ge b (NB σ) with y | y
        · exact y
        · have q1 := (hWB.2 b hb).2.2.2.2.2
          have := q1.2 hz
          have := q1.1 y
          omega
      have w1 := (hM.2.2.1 b hb).1
      have eA : AHD (nwb σ s p q) b = AHD σ b := by unfold AHD; rw [hf 16 (by omega) (by omega) (by omega) (by omega)]
      have eF : FG (nwb σ s p q) b = FG σ b := by unfold FG; rw [hf 19 (by omega) (by omega) (by omega) (by omega)]
      have eK : KEP (nwb σ s p q) b = KEP σ b := by unfold KEP; rw [hf 20 (by omega) (by omega) (by omega) (by omega)]
      unfold mix
      rw [eA, eF, eK]
      by_cases y : AHD σ b = 0
      · rw [if_pos y, if_pos y]
      · rw [if_neg y, if_neg y, (nwb_b (s := s) (p := p) (q := q) hbn).2.1, (nwb_b (s := s) (p := p) (q := q) (show AHD σ b - 1 ≠ NB σ by have := w1 y; omega)).2.1, hz, if_neg (show ¬ (1 = 0) by omega), if_neg (show ¬ (1 = 0) by omega)]
    have eF : FG (nwb σ s p q) b = FG σ b := by unfold FG; rw [hf 19 (by omega) (by omega) (by omega) (by omega)]
    refine ⟨?_, ?_, ?_, fun hz => ?_⟩
    · unfold AHD at *
      rw [hf 16 (by omega) (by omega) (by omega) (by omega)]
      simp (disch := omega) only [gi_eq, gi_ne, gi_sr, gr_si, gr_eq, gr_ne]
      exact b1
    · unfold BHD at *
      rw [hf 17 (by omega) (by omega) (by omega) (by omega)]
      simp (disch := omega) only [gi_eq, gi_ne, gi_sr, gr_si, gr_eq, gr_ne]
      exact b2
    · unfold AHD EBF at *
      rw [hf 16 (by omega) (by omega) (by omega) (by omega), hf 18 (by omega) (by omega) (by omega) (by omega)]
      simp (disch := omega) only [gi_eq, gi_ne, gi_sr, gr_si, gr_eq, gr_ne]
      exact b3
    · rw [eF] at hz
      rw [hmix hz]
      simp (disch := omega) only [gi_eq, gi_ne, gi_sr, gr_si, gr_eq, gr_ne]
      exact b4 hz
  · intro b hb
    rw [nwb_NB] at hb
    by_cases z : b = NB σ
    · subst z
      obtain ⟨n1, n2, n3⟩ := nwb_n (σ := σ) (s := s) (p := p) (q := q)
      rw [n1, n2, n3]
      simp (disch := omega) only [gi_eq, gi_ne, gi_sr, gr_si, gr_eq, gr_ne]
      exact ⟨trivial, trivial, fun _ => trivial⟩
    · obtain ⟨n1, n2, n3⟩ := nwb_b (s := s) (p := p) (q := q) z
      rw [n1, n2, n3]
      have := c9 b (by omega)
      simp (disch := omega) only [gi_eq, gi_ne, gi_sr, gr_si, gr_eq, gr_ne]
      exact this

theorem A_order (h : ST σ s b m len M) (hn : b < 40) {j p q : Nat} (hj : j < 4) (hp : p < 6) (hq1 : 1 ≤ q) (hq2 : q ≤ 200) : OKS (fL_order (nI j) (nI p) (nI q)) (nI b) s (b + 1) m len M := by
  obtain ⟨l, d, o, hW, hC, hK, ho, hs, hb, hm, hl⟩ := h
  rw [← hb] at hn ⊢
  have h40 := hW.1.2.2.1
  have cs : fX5_checkIndex (nI j) 4 M = some 0 := C_idx0 (n := 4) (by omega) hj
  have cp : fX5_checkIndex (nI p) 6 M = some 0 := C_idx0 (n := 6) (by omega) hp
  have cq : fX5_checkRange (nI q) 1 200 M = some 0 := C_rng0 (a := 1) (b := 200) (by omega) hq1 hq2
  have g := g6 hn (by omega)
  have gp := g6 hp (by omega)
  have c1 := hC.1
  refine mkS (σ' := nwb σ j p q) (l' := l) (d' := d) (o' := o) (EC_nwb hC hW hn hp) (WF_nwb hW hn hj hp hq1 hq2) (KP_c hK (fun f h => nwb_f (by omega) (by omega) (by omega) (by omega))) ?_ ((nwb_0 (by omega)).trans ho) ((nwb_0 (by omega)).trans hs) nwb_NB ((nwb_0 (by omega)).trans hm) ((nwb_0 (by omega)).trans hl)
  unfold fL_order fX5_order fX0_tell
  rw [cs, Option.bind_some, if_pos rfl, cp, Option.bind_some, if_pos rfl, cq, Option.bind_some, if_pos rfl, c1.2.1, if_pos (show nI (NB σ) < 40 by rw [show (40 : Int32) = nI 40 from rfl, cLt (by omega) (by omega)]; exact hn), cCl (show NB σ < 2147483648 by omega), if_pos g, cCl (show p < 2147483648 by omega), if_pos gp, if_pos hn, Option.bind_some]
  have e9 : gi (si (sr (si M (33 + NB σ) 2 (nI j)) (33 + NB σ) 1 (some p)) (33 + NB σ) 3 (nI q)) 0 9 = nI (NB σ) := by rw [gi_ne (by omega), gi_sr, gi_ne (by omega)]; exact c1.2.1
  rw [e9, Lt1, cAdd, gi_eq rfl rfl, cSub (show 1 ≤ NB σ + 1 by omega), show NB σ + 1 - 1 = NB σ by omega]
  rfl
end Q72
