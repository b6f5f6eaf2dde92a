/-! WHAT GOES AND WHERE: the tanks hold at most what went -/
section Q71
variable {σ σ' : Sp} {M M' M1 : Mm} {l d o l' d' o' : Nat}
def KP (σ : Sp) : Prop := sm (HAS σ) 0 4 + sm (SPL σ) 0 4 ≤ sm (fun b => LEF σ b + DRO σ b) 0 40 ∧ ∀ t, t < 4 → MXD σ t ≤ HAS σ t
theorem KP_c (h : KP σ) (hf : ∀ f, f = 13 ∨ f = 14 ∨ f = 23 ∨ f = 25 ∨ f = 26 → σ' f = σ f) : KP σ' := by
  have g13 : LEF σ' = LEF σ := hf 13 (by omega)
  have g14 : DRO σ' = DRO σ := hf 14 (by omega)
  have g23 : HAS σ' = HAS σ := hf 23 (by omega)
  have g25 : MXD σ' = MXD σ := hf 25 (by omega)
  have g26 : SPL σ' = SPL σ := hf 26 (by omega)
  unfold KP
  rw [g13, g14, g23, g25, g26]
  exact h
/-- the tanks alone -/
def KQ (σ : Sp) (n : Nat) : Prop := sm (HAS σ) 0 4 + sm (SPL σ) 0 4 ≤ n ∧ ∀ t, t < 4 → MXD σ t ≤ HAS σ t
theorem KQ_c {n : Nat} (h : KQ σ n) (hf : ∀ f, f = 23 ∨ f = 25 ∨ f = 26 → σ' f = σ f) : KQ σ' n := by
  have g23 : HAS σ' = HAS σ := hf 23 (by omega)
  have g25 : MXD σ' = MXD σ := hf 25 (by omega)
  have g26 : SPL σ' = SPL σ := hf 26 (by omega)
  unfold KQ
  rw [g23, g25, g26]
  exact h
theorem KQ_pur {t b p n : Nat} (ht : t < 4) (h : KQ σ n) : KQ (pur σ t b p) (n + 1) := by
  obtain ⟨h1, h2⟩ := h
  unfold pur
  split
  · have g23 : HAS (us σ 26 t (SPL σ t + 1)) = HAS σ := us_f (by omega)
    have g25 : MXD (us σ 26 t (SPL σ t + 1)) = MXD σ := us_f (by omega)
    have e : sm (SPL (us σ 26 t (SPL σ t + 1))) 0 4 + SPL σ t = sm (SPL σ) 0 4 + SPL (us σ 26 t (SPL σ t + 1)) t := sm_upd (by omega) (by omega) (fun j _ _ hj => us_ne (by omega))
    have e2 : SPL (us σ 26 t (SPL σ t + 1)) t = SPL σ t + 1 := us_eq rfl rfl
    unfold KQ
    rw [g23, g25]
    exact ⟨by omega, h2⟩
  · generalize hz : (if (m1 σ b p || m2 σ b p) = true then 1 else 0) = x
    have hx : x ≤ 1 := by rw [← hz]; split <;> omega
    generalize hq : us (us (us σ 23 t (HAS σ t + 1)) 24 t (max (TG σ t) (grd σ b p + 1))) 25 t (MXD σ t + x) = q
    have g26 : SPL q = SPL σ := by rw [← hq]; exact (us_f (by omega)).trans ((us_f (by omega)).trans (us_f (by omega)))
    have a1 : HAS q t = HAS σ t + 1 := by rw [← hq]; unfold HAS; rw [us_ne (by omega), us_ne (by omega), us_eq rfl rfl]
    have a2 : ∀ j, j ≠ t → HAS q j = HAS σ j := fun j hj => by rw [← hq]; unfold HAS; rw [us_ne (by omega), us_ne (by omega), us_ne (by omega)]
    have a3 : MXD q t = MXD σ t + x := by rw [← hq]; exact us_eq rfl rfl
    have a4 : ∀ j, j ≠ t → MXD q j = MXD σ j := fun j hj => by rw [← hq]; unfold MXD; rw [us_ne (by omega), us_ne (by omega), us_ne (by omega)]
    have e : sm (HAS q) 0 4 + HAS σ t = sm (HAS σ) 0 4 + HAS q t := sm_upd (by omega) (by omega) (fun j _ _ hj => a2 j hj)
    unfold KQ
    rw [g26]
    refine ⟨by omega, fun j hj => ?_⟩
    by_cases z : j = t
    · subst z
      have := h2 j hj
      omega
    · rw [a2 j z, a4 j z]
      exact h2 j hj
theorem KP_go1 {τ b p : Nat} (hT : WT' σ) (hb : b < 40) (h : KP σ) : KP (go1 σ τ b p) := by
  obtain ⟨t1, t2, t3, t4, t5, t6⟩ := hT
  unfold go1
  split
  · exact KP_c h (fun f hf => us_f (by omega))
  · split
    · generalize hs : us σ 14 b (DRO σ b + 1) = s
      have q : KQ s (sm (fun b => LEF σ b + DRO σ b) 0 40) := KQ_c h (fun f hf => by rw [← hs]; exact us_f (by omega))
      have r := KQ_pur (b := b) (p := p) t5 q
      have g13 : LEF (pur s (DRT σ) b p) = LEF σ := by rw [show LEF (pur s (DRT σ) b p) = LEF s from pur_f (by omega), ← hs]; exact us_f (by omega)
      have g14 : DRO (pur s (DRT σ) b p) = DRO s := pur_f (by omega)
      have e : sm (fun b => LEF σ b + DRO s b) 0 40 + (LEF σ b + DRO σ b) = sm (fun b => LEF σ b + DRO σ b) 0 40 + (LEF σ b + DRO s b) := sm_upd (f := fun b => LEF σ b + DRO σ b) (g := fun b => LEF σ b + DRO s b) (by omega) (by omega) (fun j _ _ hj => by
        have : DRO s j = DRO σ j := by rw [← hs]; exact us_ne (by omega)
        rw [this])
      have e2 : DRO s b = DRO σ b + 1 := by rw [← hs]; exact us_eq rfl rfl
      unfold KP
      rw [g13, g14]
      exact ⟨by have := r.1; omega, r.2⟩
    · generalize hs : us σ 13 b (LEF σ b + 1) = s
      have q : KQ s (sm (fun b => LEF σ b + DRO σ b) 0 40) := KQ_c h (fun f hf => by rw [← hs]; exact us_f (by omega))
      have r := KQ_pur (b := b) (p := p) t6 q
      have g14 : DRO (pur s (RCV σ) b p) = DRO σ := by rw [show DRO (pur s (RCV σ) b p) = DRO s from pur_f (by omega), ← hs]; exact us_f (by omega)
      have g13 : LEF (pur s (RCV σ) b p) = LEF s := pur_f (by omega)
      have e : sm (fun b => LEF s b + DRO σ b) 0 40 + (LEF σ b + DRO σ b) = sm (fun b => LEF σ b + DRO σ b) 0 40 + (LEF s b + DRO σ b) := sm_upd (f := fun b => LEF σ b + DRO σ b) (g := fun b => LEF s b + DRO σ b) (by omega) (by omega) (fun j _ _ hj => by
        have : LEF s j = LEF σ j := by rw [← hs]; exact us_ne (by omega)
        rw [this])
      have e2 : LEF s b = LEF σ b + 1 := by rw [← hs]; exact us_eq rfl rfl
      unfold KP
      rw [g13, g14]
      exact ⟨by have := r.1; omega, r.2⟩
theorem KP_one {e τ : Nat} (hW : WF σ) (ho : OPN σ = 1) (hτ : tsg σ τ < NS σ) (h : KP σ) : KP (one σ e τ) := by
  have hL := WF_off hW ho hτ (show 0 < HOL σ (tsg σ τ) by have := (hW.2.1.1 _ hτ).1; omega)
  rw [Nat.add_zero] at hL
  have hb := (WF_unit hW ho hL).2.2.2.1
  have k1 := KP_go1 (τ := τ) (p := UP σ (off σ (tsg σ τ))) hW.2.2.2.1 hb h
  have k2 : KP (snd σ τ) := by
    unfold snd
    refine KP_c (σ := go1 σ τ (UB σ (off σ (tsg σ τ))) (UP σ (off σ (tsg σ τ)))) k1 (fun f hf => ?_)
    have e1 : go2 (go1 σ τ (UB σ (off σ (tsg σ τ))) (UP σ (off σ (tsg σ τ)))) (UB σ (off σ (tsg σ τ))) (UP σ (off σ (tsg σ τ))) f = go1 σ τ (UB σ (off σ (tsg σ τ))) (UP σ (off σ (tsg σ τ))) f := by
      unfold go2
      split
      · rw [us_f (by omega), us_f (by omega)]
      · rfl
    rw [← e1]
    unfold go3
    split
    · funext i
      dsimp only
      rw [if_neg (by omega), if_neg (by omega)]
    · rfl
  unfold one brg
  refine KP_c k2 (fun f hf => ?_)
  have e1 : lnk (snd σ τ) e f = snd σ τ f := by
    unfold lnk
    split
    · rfl
    · rw [us_f (by omega), us_f (by omega), us_f (by omega), us_f (by omega)]
  rw [← e1]
  funext i
  unfold mov
  rw [if_neg (by omega), if_neg (by omega), if_neg (by omega), if_neg (by omega), if_neg (by omega)]
theorem mvs_KP : ∀ (n : Nat) (σ : Sp) (k l d : Nat), WF σ → OPN σ = 1 → KP σ → KP (mvs n σ k l d).1
  | 0, σ, k, l, d, h, ho, hk => hk
  | n + 1, σ, k, l, d, h, ho, hk => by
    unfold mvs
    split
    · exact hk
    · rename_i e he
      have ht := tsg_lt (l := l) (d := d) h.2.2.2.1 (h.1.2.2.2.2.2.2.2.1 ho)
      exact mvs_KP n _ _ _ _ (WF_one h ho ht he) ((one_0 (by omega) (by omega) (by omega)).trans ho) (KP_one h ho ht hk)
theorem mnt_KP (hW : WF σ) (ho : OPN σ = 1) (h : KP σ) : KP (mnt σ).1 := by
  have h5 := hW.1.2.2.2.2.1
  have hr := frt_le (σ := σ) (RT σ)
  have hm := hW.1.2.2.2.2.2.2.1
  have h1 : WF (us σ 0 6 (frt σ (RT σ))) := WF_c hW (fun i _ h _ => us_ne (by omega)) (fun f h _ _ => us_f h) (by unfold RT at *; rw [us_ne (by omega)]; exact h5) (by unfold RF; rw [us_eq rfl rfl]; omega) (by unfold MIN at *; rw [us_ne (by omega)]; omega) (fun i hi => ⟨by have := hW.2.1.2 i hi; unfold DIR at *; rw [us_f (by omega)]; exact this, fun z => by omega⟩)
  have o1 : OPN (us σ 0 6 (frt σ (RT σ))) = 1 := (us_ne (by omega)).trans ho
  have k1 : KP (us σ 0 6 (frt σ (RT σ))) := KP_c h (fun f hf => us_f (by omega))
  have k2 := mvs_KP (frt σ (RT σ)) _ 0 0 0 h1 o1 k1
  unfold mnt
  dsimp only
  generalize mvs (frt σ (RT σ)) (us σ 0 6 (frt σ (RT σ))) 0 0 0 = q at *
  have k3 : KP (if 0 < q.2.1 then sol q.1 else q.1) := by
    split
    · refine KP_c k2 (fun f hf => ?_)
      funext i
      unfold sol
      rw [if_neg (by omega)]
    · exact k2
  exact KP_c k3 (fun f hf => by rw [us_f (by omega), us_f (by omega)])
theorem mns_KP : ∀ (n : Nat) (σ : Sp) (k : Nat), WF σ → OPN σ = 1 → MIN σ + n ≤ 9999 → KP σ → KP (mns n σ k).1
  | 0, σ, k, h, ho, hm, hk => hk
  | n + 1, σ, k, h, ho, hm, hk => by
    unfold mns
    obtain ⟨a, b, c, e⟩ := mnt_WF h ho (by omega)
    exact mns_KP n (mnt σ).1 _ a b (by omega) (mnt_KP h ho hk)
/-- a minute leaves the pipe as it is told -/
theorem mnt_0 {i : Nat} (h : i < 3 ∨ 8 < i) : (mnt σ).1 0 i = σ 0 i := by
  have e := mvs_inv (fun s => s 0 i = σ 0 i) (fun s e τ h => (one_0 (by omega) (by omega) (by omega)).trans h) (frt σ (RT σ)) (us σ 0 6 (frt σ (RT σ))) 0 0 0 (us_ne (by omega))
  unfold mnt
  dsimp only
  generalize mvs (frt σ (RT σ)) (us σ 0 6 (frt σ (RT σ))) 0 0 0 = q at *
  rw [us_ne (by omega), us_f (by omega)]
  split
  · rw [show sol q.1 0 = q.1 0 from sk_f (by omega)]
    exact e
  · exact e
theorem mns_0 {i : Nat} (h : i < 3 ∨ 8 < i) : ∀ (n : Nat) (σ : Sp) (k : Nat), (mns n σ k).1 0 i = σ 0 i
  | 0, σ, k => rfl
  | n + 1, σ, k => by
    unfold mns
    rw [mns_0 h n, mnt_0 h]
end Q71
