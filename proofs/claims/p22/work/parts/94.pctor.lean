/-! THE PIPE'S CONSTRUCTOR, WHOLE -/
abbrev gPre5 (D : va_G) (cy : Nat → ClassId) (a : Nat) (E : Nat → va_E) : Array Value → State → Prop := va_Pc [.ref (a + 0)] (fun U => GT D cy a 1 E U ∧ AO U)
theorem AO.moved {u U : State} (hvm : u.vm.Alike U.vm) (h : AO u) : AO U := ⟨va_AO.moved hvm h.1, va_AO.moved hvm h.2.1, va_AO.moved hvm h.2.2.1, va_AO.moved hvm h.2.2.2⟩
theorem g5Blind {D : va_G} {cy : Nat → ClassId} {a : Nat} {E : Nat → va_E} : FrameBlind (gPre5 D cy a E) := fun _ U _ _ h => ⟨h.1, GT.calling h.2.1, AO.moved (u := U) (Vm.Alike.refl U.vm) h.2.2⟩
theorem g5S {D : va_G} {cy : Nat → ClassId} {a : Nat} {E : Nat → va_E} {s : State} {H : Heap} (hK : KS D cy s) (hO : AO s) (hw : GP D a 1 E H) (hs : H.size = a + 1) : PreS s H (gPre5 D cy a E) [.ref (a + 0)] := ⟨g5Blind, fun _ hU hW => ⟨rfl, GT.of hw hs hK hU hW, AO.moved hW.alike hO⟩⟩
set_option maxRecDepth 100000 in
set_option maxHeartbeats 4000000 in
theorem ctX5_init {l : Launch} {D : va_G} {cy : Nat → ClassId} {a : Nat} {E : Nat → va_E} (he : E 0 = .inr (5, cPn)) : Met l yX5_init wsX5_init rI5 (gPre5 D cy a E) (gPost D a 77 (EI cy a (cP a (.ref (a + 33))) 6 6 40 4)) 76 1077 (Aq a) := by
  refine Met.ofW (cc := cX5_init) (maxL := 2) (ret := none) (by decide +kernel) rfl ?_
  intro p e s m args below meth c s₁ B hml hv
  obtain ⟨rfl, ⟨hw, hsz, hK⟩, hO⟩ := hv
  have hS : va_S (Aq a) s.heap s.heap [] := va_S.rf
  have hl := lv_entry ([.ref (a + 0)]) (n := 2) (Nat.le_of_ble_eq_true rfl)
  rw [lg_entry_eq]
  generalize (lg_sl ([.ref (a + 0)]) ++ List.replicate (2 - (lg_sl ([.ref (a + 0)])).length) Slot.unset).toArray = ls at hl ⊢
  have hx := B.exec
  have hb := B.bytes
  have hown := findClass_of_methodNamed B.named
  have hmn := (name_of_methodNamed B.named B.method).1
  have hts : ∀ w ∈ wsX5_init, w.before _ s = true := atoms_spec (ws := wsX5_init) B.pre
  refine bX5_init_0 (l := l) hx hb hml hown hmn hts hK hO hsz he hw hS hl (fun H locs hw hS => ?_)
  refine lv_iconst (v := (0 : Int32)) hx hb dX5_init_89 (by decide) ?_
  refine lv_istore_n (lv' := [(1, .int (nI 0)), (0, .ref (a + 0))]) hx hb dX5_init_90 rfl hl (Nat.le_of_ble_eq_true rfl) rfl (fun ls hl => ?_)
  refine bX5_init_91 (l := l) hx hb hml hown hts hK hsz (fun H locs ls hw hS hl => ?_) 6 0 H locs ls 8 73 rfl rfl rfl hw hS hl
  refine lv_iconst (v := (0 : Int32)) hx hb dX5_init_116 (by decide) ?_
  refine lv_istore_n (lv' := [(1, .int (nI 0)), (0, .ref (a + 0))]) hx hb dX5_init_117 rfl hl (Nat.le_of_ble_eq_true rfl) rfl (fun ls hl => ?_)
  refine bX5_init_118 (l := l) hx hb hml hown hts hK hsz (fun H locs ls hw hS hl => ?_) 6 0 H locs ls 26 511 rfl rfl rfl hw hS hl
  refine lv_iconst (v := (0 : Int32)) hx hb dX5_init_144 (by decide) ?_
  refine lv_istore_n (lv' := [(1, .int (nI 0)), (0, .ref (a + 0))]) hx hb dX5_init_145 rfl hl (Nat.le_of_ble_eq_true rfl) rfl (fun ls hl => ?_)
  refine bX5_init_146 (l := l) hx hb hml hown hts hK hsz (fun H locs ls hw hS hl => ?_) 40 0 H locs ls 32 541 rfl rfl rfl hw hS hl
  refine lv_iconst (v := (0 : Int32)) hx hb dX5_init_178 (by decide) ?_
  refine lv_istore_n (lv' := [(1, .int (nI 0)), (0, .ref (a + 0))]) hx hb dX5_init_179 rfl hl (Nat.le_of_ble_eq_true rfl) rfl (fun ls hl => ?_)
  refine bX5_init_180 (l := l) hx hb hml hown hts hK hsz (fun H locs ls hw hS hl => ?_) 4 0 H locs ls 72 1061 rfl rfl rfl hw hS hl
  refine lv_aload_n hx hb dX5_init_204 rfl (lv_at hl 1 rfl) ?_
  refine lv_aload_n hx hb dX5_init_205 rfl (lv_at hl 1 rfl) ?_
  refine gGet hx hb hts iX5_init_X5 hown hK hw (k := 0) (by omega) (fs := cP a .null) (ci := 5) rfl rfl 2 (by decide) (hts _ (by decide +kernel)) rfl rfl dX5_init_206 ?_
  refine lv_iconst (v := (0 : Int32)) hx hb dX5_init_209 (by decide) ?_
  refine va_aldq (f := fun j => if j < 40 then some (a + (33 + j)) else none) hx hb hK.1 hw 3 4 (by rw [GW_at (by omega)]; rfl) rfl (show ¬ ((0 : Int32) < 0 ∨ 40 ≤ (0 : Int32).toNatClampNeg) from by decide) dX5_init_210 ?_
  refine gPut hx hb hts iX5_init_X5 tyX5 tyX5_ok nmX5 hown hK hw hS (k := 0) (v := .ref (a + 33)) (by decide) (fs := cP a .null) (ci := 5) rfl rfl 11 (by decide) (hts _ (by decide +kernel)) rfl rfl rfl rfl (Nat.le_of_ble_eq_true rfl) dX5_init_211 (fun H locs hw hS => ?_)
  refine gVret hx hb B.returns B.notSynchronized (n := 77) (hw := ?_) hS (by omega) (by omega) dX5_init_214
  show va_P D vwCl (GW a 77 _) _
  rw [show GW a 77 (EI cy a (cP a (.ref (a + 33))) 6 6 40 4) = _ from GW_c (fun k hk => ?_)]
  · exact hw
  · by_cases h1 : k = 0
    · subst h1
      rw [va_up_self]
      rfl
    · rw [va_up_ne _ _ h1]
      rcases Nat.lt_or_ge k 9 with h5 | h5
      · rcases (show k = 1 ∨ k = 2 ∨ k = 3 ∨ k = 4 ∨ k = 5 ∨ k = 6 ∨ k = 7 ∨ k = 8 by omega) with rfl | rfl | rfl | rfl | rfl | rfl | rfl | rfl <;> rfl
      · exact EI_9 h5
