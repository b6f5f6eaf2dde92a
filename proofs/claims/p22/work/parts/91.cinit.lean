/-! THE NESTED CONSTRUCTORS -/
def GT (D : va_G) (cy : Nat → ClassId) (a n : Nat) (E : Nat → va_E) (U : State) : Prop := GP D a n E U.heap ∧ U.heap.size = a + n ∧ KS D cy U
theorem GT.calling {D : va_G} {cy : Nat → ClassId} {a n : Nat} {E : Nat → va_E} {U : State} {g : JFrame} {mk : MethodId} {av : Array Value} (h : GT D cy a n E U) : GT D cy a n E (U.calling g mk av) := by
  obtain ⟨h1, h2, h3⟩ := h
  exact ⟨h1, h2, va_K.moved (u := U) (U := U.calling g mk av) (Vm.Alike.refl U.vm) h3.1, NW.same (s := U) rfl h3.2⟩
theorem GT.of {D : va_G} {cy : Nat → ClassId} {a n : Nat} {E : Nat → va_E} {s U : State} {H : Heap} (hw : GP D a n E H) (hs : H.size = a + n) (hK : KS D cy s) (hU : U.heap = H) (hW : s.WarmedH U.vm) : GT D cy a n E U := ⟨by rw [hU]; exact hw, by rw [hU]; exact hs, KS.warm hW hK⟩
abbrev gPre (D : va_G) (cy : Nat → ClassId) (a n : Nat) (E : Nat → va_E) (av : List Value) : Array Value → State → Prop := va_Pc av (fun U => GT D cy a n E U)
abbrev gPost (D : va_G) (a n : Nat) (E : Nat → va_E) : Array Value → State → Outcome → State → Prop := va_Qv (fun (_ : Unit) => True) (fun _ t => GP D a n E t.heap ∧ t.heap.size = a + n) (Aq a)
section Ci
variable {p : Program} {l : Launch} {e : Env} {R : Room} {s : State} {m : MethodId} {args : Array Value} {below : List Frame} {meth : Method} {c : Code} {H : Heap} {locs : List Loc} {cells slots : Nat} {Q : State → Prop}
variable {cc : ByteArray} {pc : Nat} {ls : Array Slot} {rest st0 : List Value} {D : va_G} {cy : Nat → ClassId} {a n : Nat} {E : Nat → va_E} {own : String} {Ts : List Cond}
theorem gBlind {av : List Value} : FrameBlind (gPre D cy a n E av) := fun _ _ _ _ h => ⟨h.1, GT.calling h.2⟩
theorem gS (hK : KS D cy s) (hw : GP D a n E H) (hs : H.size = a + n) {As : List Value} : PreS s H (gPre D cy a n E As) As := ⟨gBlind, fun _ hU hW => ⟨rfl, GT.of hw hs hK hU hW⟩⟩
theorem gVret (hx : p.tables.exec = Jvm.exec) (hb : c.code = cc) (hr : meth.sig.returnType = none) (hlocks : meth.locks = false) (hw : GP D a n E H) (hS : va_S (Aq a) s.heap H locs) (hn0 : 0 < n) (hsz : s.heap.size + cells = a + n) (hdg : decode cc pc = .ok (.return_, 1)) : W p l e R s m args below meth c H locs cells slots (MQ below (gPost D a n E) args s cells slots (Aq a)) (F0 m pc ls []) :=
  W_sz (fun hz => W.vret hx hb hr (fun t ht _ => ⟨⟨(), rfl, trivial, (ht ▸ hw : GP D a n E t.heap), by
    rw [ht]
    have := GP_lt hw (show n - 1 < n by omega)
    omega⟩, hS.F ht⟩) hS.2.2 hdg hlocks)
theorem gCall {mc ms n1 : Nat} {E1 : Nat → va_E} {av : Array Value} (hr : va_Run p l e R s m args below meth c H locs cells slots mc ms (F0 m pc ls st0) rest (gPost D a n1 E1 av) (Aq a)) (hS : va_S (Aq a) s.heap H locs)
    (kk : ∀ (H1 : Heap) (locs1 : List Loc), GP D a n1 E1 H1 → H1.size = a + n1 → va_S (Aq a) s.heap H1 locs1 → W p l e R s m args below meth c H1 locs1 (cells + mc) (slots + ms) Q (F0 m (pc + 3) ls rest)) : W p l e R s m args below meth c H locs cells slots Q (F0 m pc ls st0) :=
  va_callv hr hS (fun _ _ h => h) (fun _ h => h) (fun _ t H1 locs1 ht _ _ hB _ _ hS1 => kk H1 locs1 (by rw [← ht]; exact hB.1) (by rw [← ht]; exact hB.2) hS1)
/-- the size, from the cells that were made -/
theorem gSz (hw : GP D a n E H) (hn0 : 0 < n) (hsz : s.heap.size + cells = a + n) {g : JFrame} (kk : H.size = a + n → W p l e R s m args below meth c H locs cells slots Q g) : W p l e R s m args below meth c H locs cells slots Q g :=
  W_sz (fun hz => kk (by
    have := GP_lt hw (show n - 1 < n by omega)
    omega))
end Ci
def rI4 : Room := { frames := 1, cells := 0, slots := 0, locals := 12 }
theorem va_up2 {α : Type} (f : Nat → α) (k : Nat) (u v : α) : va_up (va_up f k u) k v = va_up f k v := by
  funext j
  unfold va_up
  split <;> rfl
set_option maxRecDepth 20000 in
theorem iX4_init_X4 : ∀ w ∈ wsX40, w ∈ wsX4_init := by decide +kernel
set_option maxRecDepth 100000 in
set_option maxHeartbeats 4000000 in
theorem ctX4_init {l : Launch} {D : va_G} {cy : Nat → ClassId} {a n : Nat} {E : Nat → va_E} {k : Nat}  (hk : k < n) (he : E k = .inr (4, eFour (fun _ => 0))) : Met l yX4_init wsX4_init rI4 (gPre D cy a n E [.ref (a + k)]) (gPost D a n (va_up E k (.inr (4, eFour (upd (fun _ => 0) 0 (-1)))))) 0 0 (Aq a) := by
  refine Met.ofW (cc := cX4_init) (maxL := 1) (ret := none) (by decide +kernel) rfl ?_
  intro p e s m args below meth c s₁ B hml hv
  obtain ⟨rfl, hw, hsz, hK⟩ := hv
  have hS : va_S (Aq a) s.heap s.heap [] := va_S.rf
  have hl := lv_entry ([.ref (a + k)]) (n := 1) (Nat.le_of_ble_eq_true rfl)
  rw [lg_entry_eq]
  generalize (lg_sl ([.ref (a + k)]) ++ List.replicate (1 - (lg_sl ([.ref (a + k)])).length) Slot.unset).toArray = ls at hl ⊢
  have hx := B.exec
  have hb := B.bytes
  have hown := findClass_of_methodNamed B.named
  have hmn := (name_of_methodNamed B.named B.method).1
  have hts : ∀ w ∈ wsX4_init, w.before _ s = true := atoms_spec (ws := wsX4_init) B.pre
  refine lv_aload_n hx hb dX4_init_0 rfl (lv_at hl 0 rfl) ?_
  refine W.objInit hx hb hown (hts _ (by decide +kernel)) (hts _ (by decide +kernel)) (hts _ (by decide +kernel)) rfl (by rw [hml]; exact hl.1) rfl dX4_init_1 (Nat.le_of_ble_eq_true rfl) (Nat.le_of_ble_eq_true rfl) ?_
  refine lv_aload_n hx hb dX4_init_4 rfl (lv_at hl 0 rfl) ?_
  refine lv_iconst (v := (-1 : Int32)) hx hb dX4_init_5 (by decide) ?_
  refine gPut hx hb hts iX4_init_X4 tyX4 tyX4_ok nmX4 hown hK hw hS hk he rfl 0 (by decide) (hts _ (by decide +kernel)) rfl rfl rfl rfl (Nat.le_of_ble_eq_true rfl) dX4_init_6 (fun H locs hw hS => ?_)
  exact gVret hx hb B.returns B.notSynchronized hw hS (by omega) (by omega) dX4_init_9
set_option maxRecDepth 20000 in
theorem iX3_init_X3 : ∀ w ∈ wsX30, w ∈ wsX3_init := by decide +kernel
set_option maxRecDepth 100000 in
set_option maxHeartbeats 4000000 in
theorem ctX3_init {l : Launch} {D : va_G} {cy : Nat → ClassId} {a n : Nat} {E : Nat → va_E} {k : Nat}  (hk : k < n) (he : E k = .inr (3, eFour (fun _ => 0))) : Met l yX3_init wsX3_init rI4 (gPre D cy a n E [.ref (a + k)]) (gPost D a n (va_up E k (.inr (3, eFour (upd (fun _ => 0) 1 (-1)))))) 0 0 (Aq a) := by
  refine Met.ofW (cc := cX3_init) (maxL := 1) (ret := none) (by decide +kernel) rfl ?_
  intro p e s m args below meth c s₁ B hml hv
  obtain ⟨rfl, hw, hsz, hK⟩ := hv
  have hS : va_S (Aq a) s.heap s.heap [] := va_S.rf
  have hl := lv_entry ([.ref (a + k)]) (n := 1) (Nat.le_of_ble_eq_true rfl)
  rw [lg_entry_eq]
  generalize (lg_sl ([.ref (a + k)]) ++ List.replicate (1 - (lg_sl ([.ref (a + k)])).length) Slot.unset).toArray = ls at hl ⊢
  have hx := B.exec
  have hb := B.bytes
  have hown := findClass_of_methodNamed B.named
  have hmn := (name_of_methodNamed B.named B.method).1
  have hts : ∀ w ∈ wsX3_init, w.before _ s = true := atoms_spec (ws := wsX3_init) B.pre
  refine lv_aload_n hx hb dX3_init_0 rfl (lv_at hl 0 rfl) ?_
  refine W.objInit hx hb hown (hts _ (by decide +kernel)) (hts _ (by decide +kernel)) (hts _ (by decide +kernel)) rfl (by rw [hml]; exact hl.1) rfl dX3_init_1 (Nat.le_of_ble_eq_true rfl) (Nat.le_of_ble_eq_true rfl) ?_
  refine lv_aload_n hx hb dX3_init_4 rfl (lv_at hl 0 rfl) ?_
  refine lv_iconst (v := (-1 : Int32)) hx hb dX3_init_5 (by decide) ?_
  refine gPut hx hb hts iX3_init_X3 tyX3 tyX3_ok nmX3 hown hK hw hS hk he rfl 1 (by decide) (hts _ (by decide +kernel)) rfl rfl rfl rfl (Nat.le_of_ble_eq_true rfl) dX3_init_6 (fun H locs hw hS => ?_)
  exact gVret hx hb B.returns B.notSynchronized hw hS (by omega) (by omega) dX3_init_9
set_option maxRecDepth 20000 in
theorem iX1_init_X1 : ∀ w ∈ wsX10, w ∈ wsX1_init := by decide +kernel
set_option maxRecDepth 100000 in
set_option maxHeartbeats 4000000 in
theorem ctX1_init {l : Launch} {D : va_G} {cy : Nat → ClassId} {a n : Nat} {E : Nat → va_E} {k : Nat} {i : Int32} (hk : k < n) (he : E k = .inr (1, eProd (fun _ => 0))) : Met l yX1_init wsX1_init rI4 (gPre D cy a n E [.ref (a + k), .int i]) (gPost D a n (va_up E k (.inr (1, [.int i, .int 8, .int 3, .int i, .int 0])))) 0 0 (Aq a) := by
  refine Met.ofW (cc := cX1_init) (maxL := 2) (ret := none) (by decide +kernel) rfl ?_
  intro p e s m args below meth c s₁ B hml hv
  obtain ⟨rfl, hw, hsz, hK⟩ := hv
  have hS : va_S (Aq a) s.heap s.heap [] := va_S.rf
  have hl := lv_entry ([.ref (a + k), .int i]) (n := 2) (Nat.le_of_ble_eq_true rfl)
  rw [lg_entry_eq]
  generalize (lg_sl ([.ref (a + k), .int i]) ++ List.replicate (2 - (lg_sl ([.ref (a + k), .int i])).length) Slot.unset).toArray = ls at hl ⊢
  have hx := B.exec
  have hb := B.bytes
  have hown := findClass_of_methodNamed B.named
  have hmn := (name_of_methodNamed B.named B.method).1
  have hts : ∀ w ∈ wsX1_init, w.before _ s = true := atoms_spec (ws := wsX1_init) B.pre
  refine lv_aload_n hx hb dX1_init_0 rfl (lv_at hl 0 rfl) ?_
  refine W.objInit hx hb hown (hts _ (by decide +kernel)) (hts _ (by decide +kernel)) (hts _ (by decide +kernel)) rfl (by rw [hml]; exact hl.1) rfl dX1_init_1 (Nat.le_of_ble_eq_true rfl) (Nat.le_of_ble_eq_true rfl) ?_
  refine lv_aload_n hx hb dX1_init_4 rfl (lv_at hl 0 rfl) ?_
  refine lv_bipush (v := (8 : Int32)) hx hb dX1_init_5 (by decide) ?_
  refine gPut hx hb hts iX1_init_X1 tyX1 tyX1_ok nmX1 hown hK hw hS hk he rfl 1 (by decide) (hts _ (by decide +kernel)) rfl rfl rfl rfl (Nat.le_of_ble_eq_true rfl) dX1_init_7 (fun H locs hw hS => ?_)
  refine lv_aload_n hx hb dX1_init_10 rfl (lv_at hl 0 rfl) ?_
  refine lv_iconst (v := (3 : Int32)) hx hb dX1_init_11 (by decide) ?_
  refine gPut hx hb hts iX1_init_X1 tyX1 tyX1_ok nmX1 hown hK hw hS hk (va_up_self _ _ _) rfl 2 (by decide) (hts _ (by decide +kernel)) rfl rfl rfl rfl (Nat.le_of_ble_eq_true rfl) dX1_init_12 (fun H locs hw hS => ?_)
  refine lv_aload_n hx hb dX1_init_15 rfl (lv_at hl 0 rfl) ?_
  refine lv_iload_n hx hb dX1_init_16 rfl (lv_at hl 1 rfl) ?_
  refine gPutF hx hb hts iX1_init_X1 tyX1 tyX1_ok nmX1 hown hmn hK hw hS hk (va_up_self _ _ _) rfl 0 (by decide) (hts _ (by decide +kernel)) rfl rfl rfl rfl rfl (Nat.le_of_ble_eq_true rfl) dX1_init_17 (fun H locs hw hS => ?_)
  refine lv_aload_n hx hb dX1_init_20 rfl (lv_at hl 0 rfl) ?_
  refine lv_iload_n hx hb dX1_init_21 rfl (lv_at hl 1 rfl) ?_
  refine gPut hx hb hts iX1_init_X1 tyX1 tyX1_ok nmX1 hown hK hw hS hk (va_up_self _ _ _) rfl 3 (by decide) (hts _ (by decide +kernel)) rfl rfl rfl rfl (Nat.le_of_ble_eq_true rfl) dX1_init_22 (fun H locs hw hS => ?_)
  simp only [va_up2] at hw
  exact gVret hx hb B.returns B.notSynchronized hw hS (by omega) (by omega) dX1_init_25
set_option maxRecDepth 20000 in
theorem iX0_init_X0 : ∀ w ∈ wsX00, w ∈ wsX0_init := by decide +kernel
set_option maxRecDepth 100000 in
set_option maxHeartbeats 4000000 in
theorem ctX0_init {l : Launch} {D : va_G} {cy : Nat → ClassId} {a n : Nat} {E : Nat → va_E} {k : Nat} {i : Int32} {q : Nat} (hk : k < n) (he : E k = .inr (0, eBatch a (fun _ => 0) (fun _ => none))) : Met l yX0_init wsX0_init rI4 (gPre D cy a n E [.ref (a + k), .int i, .ref q]) (gPost D a n (va_up E k (.inr (0, [.int i, .ref q, .int (-1), .int 0, .int 0, .int 0, .int 0, .int 0, .null, .null, .int 0, .int 0, .int 0])))) 0 0 (Aq a) := by
  refine Met.ofW (cc := cX0_init) (maxL := 3) (ret := none) (by decide +kernel) rfl ?_
  intro p e s m args below meth c s₁ B hml hv
  obtain ⟨rfl, hw, hsz, hK⟩ := hv
  have hS : va_S (Aq a) s.heap s.heap [] := va_S.rf
  have hl := lv_entry ([.ref (a + k), .int i, .ref q]) (n := 3) (Nat.le_of_ble_eq_true rfl)
  rw [lg_entry_eq]
  generalize (lg_sl ([.ref (a + k), .int i, .ref q]) ++ List.replicate (3 - (lg_sl ([.ref (a + k), .int i, .ref q])).length) Slot.unset).toArray = ls at hl ⊢
  have hx := B.exec
  have hb := B.bytes
  have hown := findClass_of_methodNamed B.named
  have hmn := (name_of_methodNamed B.named B.method).1
  have hts : ∀ w ∈ wsX0_init, w.before _ s = true := atoms_spec (ws := wsX0_init) B.pre
  refine lv_aload_n hx hb dX0_init_0 rfl (lv_at hl 0 rfl) ?_
  refine W.objInit hx hb hown (hts _ (by decide +kernel)) (hts _ (by decide +kernel)) (hts _ (by decide +kernel)) rfl (by rw [hml]; exact hl.1) rfl dX0_init_1 (Nat.le_of_ble_eq_true rfl) (Nat.le_of_ble_eq_true rfl) ?_
  refine lv_aload_n hx hb dX0_init_4 rfl (lv_at hl 0 rfl) ?_
  refine lv_iconst (v := (-1 : Int32)) hx hb dX0_init_5 (by decide) ?_
  refine gPut hx hb hts iX0_init_X0 tyX0 tyX0_ok nmX0 hown hK hw hS hk he rfl 2 (by decide) (hts _ (by decide +kernel)) rfl rfl rfl rfl (Nat.le_of_ble_eq_true rfl) dX0_init_6 (fun H locs hw hS => ?_)
  refine lv_aload_n hx hb dX0_init_9 rfl (lv_at hl 0 rfl) ?_
  refine lv_iload_n hx hb dX0_init_10 rfl (lv_at hl 1 rfl) ?_
  refine gPutF hx hb hts iX0_init_X0 tyX0 tyX0_ok nmX0 hown hmn hK hw hS hk (va_up_self _ _ _) rfl 0 (by decide) (hts _ (by decide +kernel)) rfl rfl rfl rfl rfl (Nat.le_of_ble_eq_true rfl) dX0_init_11 (fun H locs hw hS => ?_)
  refine lv_aload_n hx hb dX0_init_14 rfl (lv_at hl 0 rfl) ?_
  refine lv_aload_n hx hb dX0_init_15 rfl (lv_at hl 2 rfl) ?_
  refine gPut hx hb hts iX0_init_X0 tyX0 tyX0_ok nmX0 hown hK hw hS hk (va_up_self _ _ _) rfl 1 (by decide) (hts _ (by decide +kernel)) rfl rfl rfl rfl (Nat.le_of_ble_eq_true rfl) dX0_init_16 (fun H locs hw hS => ?_)
  simp only [va_up2] at hw
  exact gVret hx hb B.returns B.notSynchronized hw hS (by omega) (by omega) dX0_init_19
def rI2 : Room := { frames := 1, cells := 2, slots := 66, locals := 12 }
set_option maxRecDepth 20000 in
theorem iX2_init_X2 : ∀ w ∈ wsX20, w ∈ wsX2_init := by decide +kernel
set_option maxRecDepth 100000 in
set_option maxHeartbeats 4000000 in
theorem ctX2_init {l : Launch} {D : va_G} {cy : Nat → ClassId} {a n : Nat} {E : Nat → va_E} {k : Nat}  (hk : k < n) (he : E k = .inr (2, [.null, .null, .int 0, .int 0, .int 0, .int 0, .int 0])) : Met l yX2_init wsX2_init rI2 (gPre D cy a n E [.ref (a + k)]) (gPost D a (n + 2) (va_up (va_up (va_up E k (.inr (2, [.ref (a + n), .ref (a + (n + 1)), .int 0, .int 5, .int 0, .int 0, .int 0]))) n (.inl (cy 0, 60, .inl (fun _ => 0)))) (n + 1) (.inl (cy 0, 6, .inl (fun _ => 0))))) 2 66 (Aq a) := by
  refine Met.ofW (cc := cX2_init) (maxL := 1) (ret := none) (by decide +kernel) rfl ?_
  intro p e s m args below meth c s₁ B hml hv
  obtain ⟨rfl, hw, hsz, hK⟩ := hv
  have hS : va_S (Aq a) s.heap s.heap [] := va_S.rf
  have hl := lv_entry ([.ref (a + k)]) (n := 1) (Nat.le_of_ble_eq_true rfl)
  rw [lg_entry_eq]
  generalize (lg_sl ([.ref (a + k)]) ++ List.replicate (1 - (lg_sl ([.ref (a + k)])).length) Slot.unset).toArray = ls at hl ⊢
  have hx := B.exec
  have hb := B.bytes
  have hown := findClass_of_methodNamed B.named
  have hmn := (name_of_methodNamed B.named B.method).1
  have hts : ∀ w ∈ wsX2_init, w.before _ s = true := atoms_spec (ws := wsX2_init) B.pre
  refine lv_aload_n hx hb dX2_init_0 rfl (lv_at hl 0 rfl) ?_
  refine W.objInit hx hb hown (hts _ (by decide +kernel)) (hts _ (by decide +kernel)) (hts _ (by decide +kernel)) rfl (by rw [hml]; exact hl.1) rfl dX2_init_1 (Nat.le_of_ble_eq_true rfl) (Nat.le_of_ble_eq_true rfl) ?_
  refine lv_aload_n hx hb dX2_init_4 rfl (lv_at hl 0 rfl) ?_
  refine lv_bipush (v := (60 : Int32)) hx hb dX2_init_5 (by decide) ?_
  refine gNewa (ty := .int) (t0 := 0) (N' := 60) (a0 := (60, .inl (fun _ => 0))) hx hb (hts _ (by decide +kernel)) rfl hK rfl (fun _ h => h) hw hS (by omega) (by omega) (fun _ => rfl) (by decide) rfl (Nat.le_of_ble_eq_true rfl) (Nat.le_of_ble_eq_true rfl) (Nat.le_of_ble_eq_true rfl) dX2_init_7 (fun H hw hS => ?_)
  refine gPutF hx hb hts iX2_init_X2 tyX2 tyX2_ok nmX2 hown hmn hK hw hS (by omega) (by rw [va_up_ne _ _ (by omega)]; exact he) rfl 0 (by decide) (hts _ (by decide +kernel)) rfl rfl rfl rfl rfl (Nat.le_of_ble_eq_true rfl) dX2_init_9 (fun H locs hw hS => ?_)
  refine lv_aload_n hx hb dX2_init_12 rfl (lv_at hl 0 rfl) ?_
  refine lv_bipush (v := (6 : Int32)) hx hb dX2_init_13 (by decide) ?_
  refine gNewa (ty := .int) (t0 := 0) (N' := 6) (a0 := (6, .inl (fun _ => 0))) hx hb (hts _ (by decide +kernel)) rfl hK rfl (fun _ h => h) hw hS (by omega) (by omega) (fun _ => rfl) (by decide) rfl (Nat.le_of_ble_eq_true rfl) (Nat.le_of_ble_eq_true rfl) (Nat.le_of_ble_eq_true rfl) dX2_init_15 (fun H hw hS => ?_)
  refine gPutF hx hb hts iX2_init_X2 tyX2 tyX2_ok nmX2 hown hmn hK hw hS (by omega) (by rw [va_up_ne _ _ (by omega)]; exact va_up_self _ _ _) rfl 1 (by decide) (hts _ (by decide +kernel)) rfl rfl rfl rfl rfl (Nat.le_of_ble_eq_true rfl) dX2_init_17 (fun H locs hw hS => ?_)
  refine lv_aload_n hx hb dX2_init_20 rfl (lv_at hl 0 rfl) ?_
  refine lv_iconst (v := (5 : Int32)) hx hb dX2_init_21 (by decide) ?_
  refine gPut hx hb hts iX2_init_X2 tyX2 tyX2_ok nmX2 hown hK hw hS (by omega) (va_up_self _ _ _) rfl 3 (by decide) (hts _ (by decide +kernel)) rfl rfl rfl rfl (Nat.le_of_ble_eq_true rfl) dX2_init_22 (fun H locs hw hS => ?_)
  refine gVret hx hb B.returns B.notSynchronized (n := n + 2) (hw := ?_) hS (by omega) (by omega) dX2_init_25
  show va_P D vwCl (GW a (n + 2) _) _
  rw [show GW a (n + 2) (va_up (va_up (va_up E k (.inr (2, [.ref (a + n), .ref (a + (n + 1)), .int 0, .int 5, .int 0, .int 0, .int 0]))) n (.inl (cy 0, 60, .inl (fun _ => 0)))) (n + 1) (.inl (cy 0, 6, .inl (fun _ => 0)))) = _ from GW_c (fun j hj => ?_)]
  · exact hw
  · unfold va_up
    by_cases h1 : j = k
    · rw [if_pos h1, if_neg (show ¬ j = n + 1 by omega), if_neg (show ¬ j = n by omega), if_pos h1]
      rfl
    · by_cases h2 : j = n + 1
      · rw [if_pos h2, if_neg h1, if_neg h1, if_pos h2]
      · by_cases h3 : j = n
        · rw [if_neg h2, if_pos h3, if_neg h1, if_neg h1, if_neg h2, if_neg h1, if_pos h3]
        · rw [if_neg h2, if_neg h3, if_neg h1, if_neg h1, if_neg h1, if_neg h2, if_neg h1, if_neg h3]
