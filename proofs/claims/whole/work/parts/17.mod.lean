def rX6_thrown : Room := { frames := 0, cells := 0, slots := 0, locals := 0 }
noncomputable def fX6_thrown (M : Mm) : Option (Int32) := some (gi M 77 43)
set_option maxRecDepth 20000 in
theorem iX6_thrown_X6 : ∀ w ∈ wsX60, w ∈ wsX6_thrown := by decide +kernel
set_option maxRecDepth 20000 in
theorem kX6_thrown_0 : Cond.fieldLink RX6 95 "BatchPipeModel" "thrown" "I" ∈ wsX6_thrown := by decide +kernel
set_option maxRecDepth 100000 in
set_option maxHeartbeats 4000000 in
theorem bX6_thrown_0 {p : Program} {l : Launch} {e : Env} {s : State} {m : MethodId} {args : Array Value} {below : List Frame} {meth : Method} {c : Code} {D : va_G} {cy : Nat → ClassId} {a : Nat} (hx : p.tables.exec = Jvm.exec) (hb : c.code = cX6_thrown) (hr : meth.sig.returnType = (some .int)) (hml : c.maxLocals = 1) (hown : s.vm.findClass RX6 = some m.cls) (hts : ∀ w ∈ wsX6_thrown, w.before args s = true) (hlocks : meth.locks = false) (hK : KS D cy s) (hZ : ZZ a s s.heap) {out : Int32} : ∀ (M : Mm) (H : Heap) (locs : List Loc) (ls : Array Slot), HP D cy a M H → va_S (Aq a) s.heap H locs → lv_has ls 1 [(0, .ref (a + 77))] → fX6_thrown  M = some out → W p l e rX6_thrown s m args below meth c H locs 0 0 (MQ below (QI D cy a out M) args s 0 0 (Aq a)) (F0 m 0 ls []) := by
  intro M H locs ls hw hS hl hf
  unfold fX6_thrown at hf
  refine lv_aload_n hx hb dX6_thrown_0 rfl (lv_at hl 0 rfl) ?_
  refine rGetI hx hb hts iX6_thrown_X6 hown hK hw (Nat.le_of_ble_eq_true rfl) en_model rfl 43 (by decide) (hts _ kX6_thrown_0) rfl ge6_43 dX6_thrown_1 ?_
  obtain rfl := Option.some.inj hf
  exact rIret hx hb hr hlocks hw hS dX6_thrown_4
set_option maxRecDepth 100000 in
set_option maxHeartbeats 4000000 in
theorem ctX6_thrown {l : Launch} {D : va_G} {cy : Nat → ClassId} {a : Nat} {M : Mm} {out : Int32} (hf : fX6_thrown  M = some out) : Met l yX6_thrown wsX6_thrown rX6_thrown (Pre D cy a M [.ref (a + 77)]) (QI D cy a out M) 0 0 (Aq a) := by
  refine Met.ofW (cc := cX6_thrown) (maxL := 1) (ret := (some .int)) (by decide +kernel) rfl ?_
  intro p e s m args below meth c s₁ B hml hv
  obtain ⟨rfl, hw, hK, hZ⟩ := hv
  have hS : va_S (Aq a) s.heap s.heap [] := va_S.rf
  have hl := lv_entry ([.ref (a + 77)]) (n := 1) (Nat.le_of_ble_eq_true rfl)
  rw [lg_entry_eq]
  generalize (lg_sl ([.ref (a + 77)]) ++ List.replicate (1 - (lg_sl ([.ref (a + 77)])).length) Slot.unset).toArray = ls at hl ⊢
  exact bX6_thrown_0 B.exec B.bytes B.returns hml (findClass_of_methodNamed B.named) (atoms_spec (ws := wsX6_thrown) B.pre) B.notSynchronized hK hZ _ _ _ _ hw hS hl hf
def rX6_goes : Room := { frames := 0, cells := 0, slots := 0, locals := 0 }
noncomputable def fX6_goes_b26 (xs1 : Int32) (M : Mm) : Option (Int32 × Mm) := (if (gi (si M 77 43 xs1) 77 43) = 0 then some ((1 : Int32), si M 77 43 xs1) else some ((0 : Int32), si M 77 43 xs1))
noncomputable def fX6_goes (x1 : Int32) (x2 : Int32) (x3 : Int32) (M : Mm) : Option (Int32 × Mm) := (if x1 = 0 then fX6_goes_b26 (1 : Int32) M else (if x2 = 0 then fX6_goes_b26 (2 : Int32) M else (if x3 = 0 then fX6_goes_b26 (3 : Int32) M else fX6_goes_b26 (0 : Int32) M)))
set_option maxRecDepth 20000 in
theorem iX6_goes_X6 : ∀ w ∈ wsX60, w ∈ wsX6_goes := by decide +kernel
set_option maxRecDepth 20000 in
theorem kX6_goes_0 : Cond.fieldLink RX6 95 "BatchPipeModel" "thrown" "I" ∈ wsX6_goes := by decide +kernel
set_option maxRecDepth 100000 in
set_option maxHeartbeats 4000000 in
theorem bX6_goes_26 {p : Program} {l : Launch} {e : Env} {s : State} {m : MethodId} {args : Array Value} {below : List Frame} {meth : Method} {c : Code} {D : va_G} {cy : Nat → ClassId} {a : Nat} (hx : p.tables.exec = Jvm.exec) (hb : c.code = cX6_goes) (hr : meth.sig.returnType = (some .boolean)) (hml : c.maxLocals = 4) (hown : s.vm.findClass RX6 = some m.cls) (hts : ∀ w ∈ wsX6_goes, w.before args s = true) (hlocks : meth.locks = false) (hK : KS D cy s) (hZ : ZZ a s s.heap) {out : Int32 × Mm} : ∀ (xs1 : Int32) (M : Mm) (H : Heap) (locs : List Loc) (ls : Array Slot), HP D cy a M H → va_S (Aq a) s.heap H locs → lv_has ls 4 [(0, .ref (a + 77))] → fX6_goes_b26 xs1 M = some out → W p l e rX6_goes s m args below meth c H locs 0 0 (MQ below (QB D cy a out.1 out.2) args s 0 0 (Aq a)) (F0 m 26 ls [.int xs1, .ref (a + 77)]) := by
  intro xs1 M H locs ls hw hS hl hf
  unfold fX6_goes_b26 at hf
  refine rPut hx hb hts iX6_goes_X6 tyX6 tyX6_ok nmX6 hown hK hw hS (Nat.le_of_ble_eq_true rfl) en_model rfl 43 (by decide) (hts _ kX6_goes_0) rfl rfl rfl rfl (Nat.le_of_ble_eq_true rfl) hs6_43 dX6_goes_26 (fun H locs hw hS => ?_)
  refine lv_aload_n hx hb dX6_goes_29 rfl (lv_at hl 0 rfl) ?_
  refine rGetI hx hb hts iX6_goes_X6 hown hK hw (Nat.le_of_ble_eq_true rfl) en_model rfl 43 (by decide) (hts _ kX6_goes_0) rfl ge6_43 dX6_goes_30 ?_
  refine lv_if_ne (tgt := 40) hx hb dX6_goes_33 (by decide) (fun c1 => ?_) (fun c1 => ?_)
  · have hf := iq c1 hf
    refine lv_iconst (v := (0 : Int32)) hx hb dX6_goes_40 (by decide) ?_
    obtain rfl := Option.some.inj hf
    exact rBret (x := (0 : Int32)) hx hb hr hlocks hw hS rfl dX6_goes_41
  · have hf := ip c1 hf
    refine lv_iconst (v := (1 : Int32)) hx hb dX6_goes_36 (by decide) ?_
    refine lv_goto (tgt := 41) hx hb dX6_goes_37 (by decide) ?_
    obtain rfl := Option.some.inj hf
    exact rBret (x := (1 : Int32)) hx hb hr hlocks hw hS rfl dX6_goes_41
set_option maxRecDepth 100000 in
set_option maxHeartbeats 4000000 in
theorem bX6_goes_0 {p : Program} {l : Launch} {e : Env} {s : State} {m : MethodId} {args : Array Value} {below : List Frame} {meth : Method} {c : Code} {D : va_G} {cy : Nat → ClassId} {a : Nat} (hx : p.tables.exec = Jvm.exec) (hb : c.code = cX6_goes) (hr : meth.sig.returnType = (some .boolean)) (hml : c.maxLocals = 4) (hown : s.vm.findClass RX6 = some m.cls) (hts : ∀ w ∈ wsX6_goes, w.before args s = true) (hlocks : meth.locks = false) (hK : KS D cy s) (hZ : ZZ a s s.heap) {out : Int32 × Mm} : ∀ (x1 : Int32) (x2 : Int32) (x3 : Int32) (M : Mm) (H : Heap) (locs : List Loc) (ls : Array Slot), HP D cy a M H → va_S (Aq a) s.heap H locs → lv_has ls 4 [(0, .ref (a + 77)), (1, .int x1), (2, .int x2), (3, .int x3)] → fX6_goes x1 x2 x3 M = some out → W p l e rX6_goes s m args below meth c H locs 0 0 (MQ below (QB D cy a out.1 out.2) args s 0 0 (Aq a)) (F0 m 0 ls []) := by
  intro x1 x2 x3 M H locs ls hw hS hl hf
  unfold fX6_goes at hf
  refine lv_aload_n hx hb dX6_goes_0 rfl (lv_at hl 0 rfl) ?_
  refine lv_iload_n hx hb dX6_goes_1 rfl (lv_at hl 1 rfl) ?_
  refine lv_if_ne (tgt := 9) hx hb dX6_goes_2 (by decide) (fun c1 => ?_) (fun c1 => ?_)
  · have hf := iq c1 hf
    refine lv_iload_n hx hb dX6_goes_9 rfl (lv_at hl 2 rfl) ?_
    refine lv_if_ne (tgt := 17) hx hb dX6_goes_10 (by decide) (fun c2 => ?_) (fun c2 => ?_)
    · have hf := iq c2 hf
      refine lv_iload_n hx hb dX6_goes_17 rfl (lv_at hl 3 rfl) ?_
      refine lv_if_ne (tgt := 25) hx hb dX6_goes_18 (by decide) (fun c3 => ?_) (fun c3 => ?_)
      · have hf := iq c3 hf
        refine lv_iconst (v := (0 : Int32)) hx hb dX6_goes_25 (by decide) ?_
        exact bX6_goes_26 hx hb hr hml hown hts hlocks hK hZ _ _ _ _ _ hw hS (lv_sub hl [0] rfl) hf
      · have hf := ip c3 hf
        refine lv_iconst (v := (3 : Int32)) hx hb dX6_goes_21 (by decide) ?_
        refine lv_goto (tgt := 26) hx hb dX6_goes_22 (by decide) ?_
        exact bX6_goes_26 hx hb hr hml hown hts hlocks hK hZ _ _ _ _ _ hw hS (lv_sub hl [0] rfl) hf
    · have hf := ip c2 hf
      refine lv_iconst (v := (2 : Int32)) hx hb dX6_goes_13 (by decide) ?_
      refine lv_goto (tgt := 26) hx hb dX6_goes_14 (by decide) ?_
      exact bX6_goes_26 hx hb hr hml hown hts hlocks hK hZ _ _ _ _ _ hw hS (lv_sub hl [0] rfl) hf
  · have hf := ip c1 hf
    refine lv_iconst (v := (1 : Int32)) hx hb dX6_goes_5 (by decide) ?_
    refine lv_goto (tgt := 26) hx hb dX6_goes_6 (by decide) ?_
    exact bX6_goes_26 hx hb hr hml hown hts hlocks hK hZ _ _ _ _ _ hw hS (lv_sub hl [0] rfl) hf
set_option maxRecDepth 100000 in
set_option maxHeartbeats 4000000 in
theorem ctX6_goes {l : Launch} {D : va_G} {cy : Nat → ClassId} {a : Nat} {x1 : Int32} {x2 : Int32} {x3 : Int32} {M : Mm} {out : Int32 × Mm} (hf : fX6_goes x1 x2 x3 M = some out) : Met l yX6_goes wsX6_goes rX6_goes (Pre D cy a M [.ref (a + 77), .int x1, .int x2, .int x3]) (QB D cy a out.1 out.2) 0 0 (Aq a) := by
  refine Met.ofW (cc := cX6_goes) (maxL := 4) (ret := (some .boolean)) (by decide +kernel) rfl ?_
  intro p e s m args below meth c s₁ B hml hv
  obtain ⟨rfl, hw, hK, hZ⟩ := hv
  have hS : va_S (Aq a) s.heap s.heap [] := va_S.rf
  have hl := lv_entry ([.ref (a + 77), .int x1, .int x2, .int x3]) (n := 4) (Nat.le_of_ble_eq_true rfl)
  rw [lg_entry_eq]
  generalize (lg_sl ([.ref (a + 77), .int x1, .int x2, .int x3]) ++ List.replicate (4 - (lg_sl ([.ref (a + 77), .int x1, .int x2, .int x3])).length) Slot.unset).toArray = ls at hl ⊢
  exact bX6_goes_0 B.exec B.bytes B.returns hml (findClass_of_methodNamed B.named) (atoms_spec (ws := wsX6_goes) B.pre) B.notSynchronized hK hZ _ _ _ _ _ _ _ hw hS hl hf
def rX6_isBetween : Room := { frames := 0, cells := 0, slots := 0, locals := 0 }
noncomputable def fX6_isBetween (x0 : Int32) (x1 : Int32) (x2 : Int32) (M : Mm) : Option (Int32) := (if x0 < x1 then some ((0 : Int32)) else (if x2 < x0 then some ((0 : Int32)) else some ((1 : Int32))))
set_option maxRecDepth 100000 in
set_option maxHeartbeats 4000000 in
theorem bX6_isBetween_0 {p : Program} {l : Launch} {e : Env} {s : State} {m : MethodId} {args : Array Value} {below : List Frame} {meth : Method} {c : Code} {D : va_G} {cy : Nat → ClassId} {a : Nat} (hx : p.tables.exec = Jvm.exec) (hb : c.code = cX6_isBetween) (hr : meth.sig.returnType = (some .boolean)) (hml : c.maxLocals = 3) (hown : s.vm.findClass RX6 = some m.cls) (hts : ∀ w ∈ wsX6_isBetween, w.before args s = true) (hlocks : meth.locks = false) (hK : KS D cy s) (hZ : ZZ a s s.heap) {out : Int32} : ∀ (x0 : Int32) (x1 : Int32) (x2 : Int32) (M : Mm) (H : Heap) (locs : List Loc) (ls : Array Slot), HP D cy a M H → va_S (Aq a) s.heap H locs → lv_has ls 3 [(0, .int x0), (1, .int x1), (2, .int x2)] → fX6_isBetween x0 x1 x2 M = some out → W p l e rX6_isBetween s m args below meth c H locs 0 0 (MQ below (QB D cy a out M) args s 0 0 (Aq a)) (F0 m 0 ls []) := by
  intro x0 x1 x2 M H locs ls hw hS hl hf
  unfold fX6_isBetween at hf
  refine lv_iload_n hx hb dX6_isBetween_0 rfl (lv_at hl 0 rfl) ?_
  refine lv_iload_n hx hb dX6_isBetween_1 rfl (lv_at hl 1 rfl) ?_
  refine lv_icmp_lt (tgt := 14) hx hb dX6_isBetween_2 (by decide) (fun c1 => ?_) (fun c1 => ?_)
  · have hf := ip c1 hf
    refine lv_iconst (v := (0 : Int32)) hx hb dX6_isBetween_14 (by decide) ?_
    obtain rfl := Option.some.inj hf
    exact rBret (x := (0 : Int32)) hx hb hr hlocks hw hS rfl dX6_isBetween_15
  · have hf := iq c1 hf
    refine lv_iload_n hx hb dX6_isBetween_5 rfl (lv_at hl 0 rfl) ?_
    refine lv_iload_n hx hb dX6_isBetween_6 rfl (lv_at hl 2 rfl) ?_
    refine lv_icmp_gt (tgt := 14) hx hb dX6_isBetween_7 (by decide) (fun c2 => ?_) (fun c2 => ?_)
    · have hf := ip c2 hf
      refine lv_iconst (v := (0 : Int32)) hx hb dX6_isBetween_14 (by decide) ?_
      obtain rfl := Option.some.inj hf
      exact rBret (x := (0 : Int32)) hx hb hr hlocks hw hS rfl dX6_isBetween_15
    · have hf := iq c2 hf
      refine lv_iconst (v := (1 : Int32)) hx hb dX6_isBetween_10 (by decide) ?_
      refine lv_goto (tgt := 15) hx hb dX6_isBetween_11 (by decide) ?_
      obtain rfl := Option.some.inj hf
      exact rBret (x := (1 : Int32)) hx hb hr hlocks hw hS rfl dX6_isBetween_15
set_option maxRecDepth 100000 in
set_option maxHeartbeats 4000000 in
theorem ctX6_isBetween {l : Launch} {D : va_G} {cy : Nat → ClassId} {a : Nat} {x0 : Int32} {x1 : Int32} {x2 : Int32} {M : Mm} {out : Int32} (hf : fX6_isBetween x0 x1 x2 M = some out) : Met l yX6_isBetween wsX6_isBetween rX6_isBetween (Pre D cy a M [.int x0, .int x1, .int x2]) (QB D cy a out M) 0 0 (Aq a) := by
  refine Met.ofW (cc := cX6_isBetween) (maxL := 3) (ret := (some .boolean)) (by decide +kernel) rfl ?_
  intro p e s m args below meth c s₁ B hml hv
  obtain ⟨rfl, hw, hK, hZ⟩ := hv
  have hS : va_S (Aq a) s.heap s.heap [] := va_S.rf
  have hl := lv_entry ([.int x0, .int x1, .int x2]) (n := 3) (Nat.le_of_ble_eq_true rfl)
  rw [lg_entry_eq]
  generalize (lg_sl ([.int x0, .int x1, .int x2]) ++ List.replicate (3 - (lg_sl ([.int x0, .int x1, .int x2])).length) Slot.unset).toArray = ls at hl ⊢
  exact bX6_isBetween_0 B.exec B.bytes B.returns hml (findClass_of_methodNamed B.named) (atoms_spec (ws := wsX6_isBetween) B.pre) B.notSynchronized hK hZ _ _ _ _ _ _ _ hw hS hl hf
def rX6_isProduct : Room := { frames := 1, cells := 0, slots := 0, locals := 22 }
noncomputable def fX6_isProduct (x0 : Int32) (M : Mm) : Option (Int32) := ((fX6_isBetween x0 (0 : Int32) (5 : Int32) M).bind fun o1 => some (o1))
set_option maxRecDepth 100000 in
set_option maxHeartbeats 4000000 in
theorem bX6_isProduct_0 {p : Program} {l : Launch} {e : Env} {s : State} {m : MethodId} {args : Array Value} {below : List Frame} {meth : Method} {c : Code} {D : va_G} {cy : Nat → ClassId} {a : Nat} (hx : p.tables.exec = Jvm.exec) (hb : c.code = cX6_isProduct) (hr : meth.sig.returnType = (some .boolean)) (hml : c.maxLocals = 1) (hown : s.vm.findClass RX6 = some m.cls) (hts : ∀ w ∈ wsX6_isProduct, w.before args s = true) (hlocks : meth.locks = false) (hK : KS D cy s) (hZ : ZZ a s s.heap) {out : Int32} : ∀ (x0 : Int32) (M : Mm) (H : Heap) (locs : List Loc) (ls : Array Slot), HP D cy a M H → va_S (Aq a) s.heap H locs → lv_has ls 1 [(0, .int x0)] → fX6_isProduct x0 M = some out → W p l e rX6_isProduct s m args below meth c H locs 0 0 (MQ below (QB D cy a out M) args s 0 0 (Aq a)) (F0 m 0 ls []) := by
  intro x0 M H locs ls hw hS hl hf
  unfold fX6_isProduct at hf
  refine lv_iload_n hx hb dX6_isProduct_0 rfl (lv_at hl 0 rfl) ?_
  refine lv_iconst (v := (0 : Int32)) hx hb dX6_isProduct_1 (by decide) ?_
  refine lv_iconst (v := (5 : Int32)) hx hb dX6_isProduct_2 (by decide) ?_
  obtain ⟨o1, ho1, hf⟩ := ob hf
  refine rCallB (va_runS (As := [.int x0, .int (0 : Int32), .int (5 : Int32)]) (rest := []) ⟨hx, hb, hml, hown, hts⟩ (ctX6_isBetween (l := l) (D := D) (cy := cy) (a := a) ho1) (va_cwS 3 hts gX6_isProduct_X6_isBetween rfl rfl rfl (by decide +kernel) ⟨Nat.le_of_ble_eq_true rfl, Nat.le_of_ble_eq_true rfl⟩) (pS hK hZ hw hS) rfl rfl hl.1 rfl (lv_room (Nat.le_of_ble_eq_true rfl)) dX6_isProduct_3 ⟨Nat.le_of_ble_eq_true rfl, Nat.le_of_ble_eq_true rfl⟩) hS (fun H locs hw hS ho1b => ?_)
  obtain rfl := Option.some.inj hf
  exact rBret (x := o1) hx hb hr hlocks hw hS ho1b dX6_isProduct_6
set_option maxRecDepth 100000 in
set_option maxHeartbeats 4000000 in
theorem ctX6_isProduct {l : Launch} {D : va_G} {cy : Nat → ClassId} {a : Nat} {x0 : Int32} {M : Mm} {out : Int32} (hf : fX6_isProduct x0 M = some out) : Met l yX6_isProduct wsX6_isProduct rX6_isProduct (Pre D cy a M [.int x0]) (QB D cy a out M) 0 0 (Aq a) := by
  refine Met.ofW (cc := cX6_isProduct) (maxL := 1) (ret := (some .boolean)) (by decide +kernel) rfl ?_
  intro p e s m args below meth c s₁ B hml hv
  obtain ⟨rfl, hw, hK, hZ⟩ := hv
  have hS : va_S (Aq a) s.heap s.heap [] := va_S.rf
  have hl := lv_entry ([.int x0]) (n := 1) (Nat.le_of_ble_eq_true rfl)
  rw [lg_entry_eq]
  generalize (lg_sl ([.int x0]) ++ List.replicate (1 - (lg_sl ([.int x0])).length) Slot.unset).toArray = ls at hl ⊢
  exact bX6_isProduct_0 B.exec B.bytes B.returns hml (findClass_of_methodNamed B.named) (atoms_spec (ws := wsX6_isProduct) B.pre) B.notSynchronized hK hZ _ _ _ _ _ hw hS hl hf
def rX6_isTank : Room := { frames := 1, cells := 0, slots := 0, locals := 22 }
noncomputable def fX6_isTank (x0 : Int32) (M : Mm) : Option (Int32) := ((fX6_isBetween x0 (0 : Int32) (3 : Int32) M).bind fun o1 => some (o1))
set_option maxRecDepth 100000 in
set_option maxHeartbeats 4000000 in
theorem bX6_isTank_0 {p : Program} {l : Launch} {e : Env} {s : State} {m : MethodId} {args : Array Value} {below : List Frame} {meth : Method} {c : Code} {D : va_G} {cy : Nat → ClassId} {a : Nat} (hx : p.tables.exec = Jvm.exec) (hb : c.code = cX6_isTank) (hr : meth.sig.returnType = (some .boolean)) (hml : c.maxLocals = 1) (hown : s.vm.findClass RX6 = some m.cls) (hts : ∀ w ∈ wsX6_isTank, w.before args s = true) (hlocks : meth.locks = false) (hK : KS D cy s) (hZ : ZZ a s s.heap) {out : Int32} : ∀ (x0 : Int32) (M : Mm) (H : Heap) (locs : List Loc) (ls : Array Slot), HP D cy a M H → va_S (Aq a) s.heap H locs → lv_has ls 1 [(0, .int x0)] → fX6_isTank x0 M = some out → W p l e rX6_isTank s m args below meth c H locs 0 0 (MQ below (QB D cy a out M) args s 0 0 (Aq a)) (F0 m 0 ls []) := by
  intro x0 M H locs ls hw hS hl hf
  unfold fX6_isTank at hf
  refine lv_iload_n hx hb dX6_isTank_0 rfl (lv_at hl 0 rfl) ?_
  refine lv_iconst (v := (0 : Int32)) hx hb dX6_isTank_1 (by decide) ?_
  refine lv_iconst (v := (3 : Int32)) hx hb dX6_isTank_2 (by decide) ?_
  obtain ⟨o1, ho1, hf⟩ := ob hf
  refine rCallB (va_runS (As := [.int x0, .int (0 : Int32), .int (3 : Int32)]) (rest := []) ⟨hx, hb, hml, hown, hts⟩ (ctX6_isBetween (l := l) (D := D) (cy := cy) (a := a) ho1) (va_cwS 3 hts gX6_isTank_X6_isBetween rfl rfl rfl (by decide +kernel) ⟨Nat.le_of_ble_eq_true rfl, Nat.le_of_ble_eq_true rfl⟩) (pS hK hZ hw hS) rfl rfl hl.1 rfl (lv_room (Nat.le_of_ble_eq_true rfl)) dX6_isTank_3 ⟨Nat.le_of_ble_eq_true rfl, Nat.le_of_ble_eq_true rfl⟩) hS (fun H locs hw hS ho1b => ?_)
  obtain rfl := Option.some.inj hf
  exact rBret (x := o1) hx hb hr hlocks hw hS ho1b dX6_isTank_6
set_option maxRecDepth 100000 in
set_option maxHeartbeats 4000000 in
theorem ctX6_isTank {l : Launch} {D : va_G} {cy : Nat → ClassId} {a : Nat} {x0 : Int32} {M : Mm} {out : Int32} (hf : fX6_isTank x0 M = some out) : Met l yX6_isTank wsX6_isTank rX6_isTank (Pre D cy a M [.int x0]) (QB D cy a out M) 0 0 (Aq a) := by
  refine Met.ofW (cc := cX6_isTank) (maxL := 1) (ret := (some .boolean)) (by decide +kernel) rfl ?_
  intro p e s m args below meth c s₁ B hml hv
  obtain ⟨rfl, hw, hK, hZ⟩ := hv
  have hS : va_S (Aq a) s.heap s.heap [] := va_S.rf
  have hl := lv_entry ([.int x0]) (n := 1) (Nat.le_of_ble_eq_true rfl)
  rw [lg_entry_eq]
  generalize (lg_sl ([.int x0]) ++ List.replicate (1 - (lg_sl ([.int x0])).length) Slot.unset).toArray = ls at hl ⊢
  exact bX6_isTank_0 B.exec B.bytes B.returns hml (findClass_of_methodNamed B.named) (atoms_spec (ws := wsX6_isTank) B.pre) B.notSynchronized hK hZ _ _ _ _ _ hw hS hl hf
def rX6_isShipper : Room := { frames := 1, cells := 0, slots := 0, locals := 22 }
noncomputable def fX6_isShipper (x0 : Int32) (M : Mm) : Option (Int32) := ((fX6_isBetween x0 (0 : Int32) (3 : Int32) M).bind fun o1 => some (o1))
set_option maxRecDepth 100000 in
set_option maxHeartbeats 4000000 in
theorem bX6_isShipper_0 {p : Program} {l : Launch} {e : Env} {s : State} {m : MethodId} {args : Array Value} {below : List Frame} {meth : Method} {c : Code} {D : va_G} {cy : Nat → ClassId} {a : Nat} (hx : p.tables.exec = Jvm.exec) (hb : c.code = cX6_isShipper) (hr : meth.sig.returnType = (some .boolean)) (hml : c.maxLocals = 1) (hown : s.vm.findClass RX6 = some m.cls) (hts : ∀ w ∈ wsX6_isShipper, w.before args s = true) (hlocks : meth.locks = false) (hK : KS D cy s) (hZ : ZZ a s s.heap) {out : Int32} : ∀ (x0 : Int32) (M : Mm) (H : Heap) (locs : List Loc) (ls : Array Slot), HP D cy a M H → va_S (Aq a) s.heap H locs → lv_has ls 1 [(0, .int x0)] → fX6_isShipper x0 M = some out → W p l e rX6_isShipper s m args below meth c H locs 0 0 (MQ below (QB D cy a out M) args s 0 0 (Aq a)) (F0 m 0 ls []) := by
  intro x0 M H locs ls hw hS hl hf
  unfold fX6_isShipper at hf
  refine lv_iload_n hx hb dX6_isShipper_0 rfl (lv_at hl 0 rfl) ?_
  refine lv_iconst (v := (0 : Int32)) hx hb dX6_isShipper_1 (by decide) ?_
  refine lv_iconst (v := (3 : Int32)) hx hb dX6_isShipper_2 (by decide) ?_
  obtain ⟨o1, ho1, hf⟩ := ob hf
  refine rCallB (va_runS (As := [.int x0, .int (0 : Int32), .int (3 : Int32)]) (rest := []) ⟨hx, hb, hml, hown, hts⟩ (ctX6_isBetween (l := l) (D := D) (cy := cy) (a := a) ho1) (va_cwS 3 hts gX6_isShipper_X6_isBetween rfl rfl rfl (by decide +kernel) ⟨Nat.le_of_ble_eq_true rfl, Nat.le_of_ble_eq_true rfl⟩) (pS hK hZ hw hS) rfl rfl hl.1 rfl (lv_room (Nat.le_of_ble_eq_true rfl)) dX6_isShipper_3 ⟨Nat.le_of_ble_eq_true rfl, Nat.le_of_ble_eq_true rfl⟩) hS (fun H locs hw hS ho1b => ?_)
  obtain rfl := Option.some.inj hf
  exact rBret (x := o1) hx hb hr hlocks hw hS ho1b dX6_isShipper_6
set_option maxRecDepth 100000 in
set_option maxHeartbeats 4000000 in
theorem ctX6_isShipper {l : Launch} {D : va_G} {cy : Nat → ClassId} {a : Nat} {x0 : Int32} {M : Mm} {out : Int32} (hf : fX6_isShipper x0 M = some out) : Met l yX6_isShipper wsX6_isShipper rX6_isShipper (Pre D cy a M [.int x0]) (QB D cy a out M) 0 0 (Aq a) := by
  refine Met.ofW (cc := cX6_isShipper) (maxL := 1) (ret := (some .boolean)) (by decide +kernel) rfl ?_
  intro p e s m args below meth c s₁ B hml hv
  obtain ⟨rfl, hw, hK, hZ⟩ := hv
  have hS : va_S (Aq a) s.heap s.heap [] := va_S.rf
  have hl := lv_entry ([.int x0]) (n := 1) (Nat.le_of_ble_eq_true rfl)
  rw [lg_entry_eq]
  generalize (lg_sl ([.int x0]) ++ List.replicate (1 - (lg_sl ([.int x0])).length) Slot.unset).toArray = ls at hl ⊢
  exact bX6_isShipper_0 B.exec B.bytes B.returns hml (findClass_of_methodNamed B.named) (atoms_spec (ws := wsX6_isShipper) B.pre) B.notSynchronized hK hZ _ _ _ _ _ hw hS hl hf
def rX6_isSegment : Room := { frames := 1, cells := 0, slots := 0, locals := 22 }
noncomputable def fX6_isSegment (x1 : Int32) (M : Mm) : Option (Int32) := ((fX6_isBetween x1 (0 : Int32) ((gi M 77 1) - (1 : Int32)) M).bind fun o1 => some (o1))
set_option maxRecDepth 20000 in
theorem iX6_isSegment_X6 : ∀ w ∈ wsX60, w ∈ wsX6_isSegment := by decide +kernel
set_option maxRecDepth 20000 in
theorem kX6_isSegment_0 : Cond.fieldLink RX6 102 "BatchPipeModel" "segments" "I" ∈ wsX6_isSegment := by decide +kernel
set_option maxRecDepth 100000 in
set_option maxHeartbeats 4000000 in
theorem bX6_isSegment_0 {p : Program} {l : Launch} {e : Env} {s : State} {m : MethodId} {args : Array Value} {below : List Frame} {meth : Method} {c : Code} {D : va_G} {cy : Nat → ClassId} {a : Nat} (hx : p.tables.exec = Jvm.exec) (hb : c.code = cX6_isSegment) (hr : meth.sig.returnType = (some .boolean)) (hml : c.maxLocals = 2) (hown : s.vm.findClass RX6 = some m.cls) (hts : ∀ w ∈ wsX6_isSegment, w.before args s = true) (hlocks : meth.locks = false) (hK : KS D cy s) (hZ : ZZ a s s.heap) {out : Int32} : ∀ (x1 : Int32) (M : Mm) (H : Heap) (locs : List Loc) (ls : Array Slot), HP D cy a M H → va_S (Aq a) s.heap H locs → lv_has ls 2 [(0, .ref (a + 77)), (1, .int x1)] → fX6_isSegment x1 M = some out → W p l e rX6_isSegment s m args below meth c H locs 0 0 (MQ below (QB D cy a out M) args s 0 0 (Aq a)) (F0 m 0 ls []) := by
  intro x1 M H locs ls hw hS hl hf
  unfold fX6_isSegment at hf
  refine lv_iload_n hx hb dX6_isSegment_0 rfl (lv_at hl 1 rfl) ?_
  refine lv_iconst (v := (0 : Int32)) hx hb dX6_isSegment_1 (by decide) ?_
  refine lv_aload_n hx hb dX6_isSegment_2 rfl (lv_at hl 0 rfl) ?_
  refine rGetI hx hb hts iX6_isSegment_X6 hown hK hw (Nat.le_of_ble_eq_true rfl) en_model rfl 1 (by decide) (hts _ kX6_isSegment_0) rfl ge6_1 dX6_isSegment_3 ?_
  refine lv_iconst (v := (1 : Int32)) hx hb dX6_isSegment_6 (by decide) ?_
  refine lv_isub hx hb dX6_isSegment_7 ?_
  obtain ⟨o1, ho1, hf⟩ := ob hf
  refine rCallB (va_runS (As := [.int x1, .int (0 : Int32), .int ((gi M 77 1) - (1 : Int32))]) (rest := []) ⟨hx, hb, hml, hown, hts⟩ (ctX6_isBetween (l := l) (D := D) (cy := cy) (a := a) ho1) (va_cwS 3 hts gX6_isSegment_X6_isBetween rfl rfl rfl (by decide +kernel) ⟨Nat.le_of_ble_eq_true rfl, Nat.le_of_ble_eq_true rfl⟩) (pS hK hZ hw hS) rfl rfl hl.1 rfl (lv_room (Nat.le_of_ble_eq_true rfl)) dX6_isSegment_8 ⟨Nat.le_of_ble_eq_true rfl, Nat.le_of_ble_eq_true rfl⟩) hS (fun H locs hw hS ho1b => ?_)
  obtain rfl := Option.some.inj hf
  exact rBret (x := o1) hx hb hr hlocks hw hS ho1b dX6_isSegment_11
set_option maxRecDepth 100000 in
set_option maxHeartbeats 4000000 in
theorem ctX6_isSegment {l : Launch} {D : va_G} {cy : Nat → ClassId} {a : Nat} {x1 : Int32} {M : Mm} {out : Int32} (hf : fX6_isSegment x1 M = some out) : Met l yX6_isSegment wsX6_isSegment rX6_isSegment (Pre D cy a M [.ref (a + 77), .int x1]) (QB D cy a out M) 0 0 (Aq a) := by
  refine Met.ofW (cc := cX6_isSegment) (maxL := 2) (ret := (some .boolean)) (by decide +kernel) rfl ?_
  intro p e s m args below meth c s₁ B hml hv
  obtain ⟨rfl, hw, hK, hZ⟩ := hv
  have hS : va_S (Aq a) s.heap s.heap [] := va_S.rf
  have hl := lv_entry ([.ref (a + 77), .int x1]) (n := 2) (Nat.le_of_ble_eq_true rfl)
  rw [lg_entry_eq]
  generalize (lg_sl ([.ref (a + 77), .int x1]) ++ List.replicate (2 - (lg_sl ([.ref (a + 77), .int x1])).length) Slot.unset).toArray = ls at hl ⊢
  exact bX6_isSegment_0 B.exec B.bytes B.returns hml (findClass_of_methodNamed B.named) (atoms_spec (ws := wsX6_isSegment) B.pre) B.notSynchronized hK hZ _ _ _ _ _ hw hS hl hf
def rX6_isPlace : Room := { frames := 1, cells := 0, slots := 0, locals := 22 }
noncomputable def fX6_isPlace (x1 : Int32) (M : Mm) : Option (Int32) := (if x1 = (-1 : Int32) then some ((1 : Int32)) else ((fX6_isBetween x1 (0 : Int32) ((gi M 77 1) - (2 : Int32)) M).bind fun o2 => (if o2 = 0 then some ((0 : Int32)) else some ((1 : Int32)))))
set_option maxRecDepth 20000 in
theorem iX6_isPlace_X6 : ∀ w ∈ wsX60, w ∈ wsX6_isPlace := by decide +kernel
set_option maxRecDepth 20000 in
theorem kX6_isPlace_0 : Cond.fieldLink RX6 102 "BatchPipeModel" "segments" "I" ∈ wsX6_isPlace := by decide +kernel
set_option maxRecDepth 100000 in
set_option maxHeartbeats 4000000 in
theorem bX6_isPlace_0 {p : Program} {l : Launch} {e : Env} {s : State} {m : MethodId} {args : Array Value} {below : List Frame} {meth : Method} {c : Code} {D : va_G} {cy : Nat → ClassId} {a : Nat} (hx : p.tables.exec = Jvm.exec) (hb : c.code = cX6_isPlace) (hr : meth.sig.returnType = (some .boolean)) (hml : c.maxLocals = 2) (hown : s.vm.findClass RX6 = some m.cls) (hts : ∀ w ∈ wsX6_isPlace, w.before args s = true) (hlocks : meth.locks = false) (hK : KS D cy s) (hZ : ZZ a s s.heap) {out : Int32} : ∀ (x1 : Int32) (M : Mm) (H : Heap) (locs : List Loc) (ls : Array Slot), HP D cy a M H → va_S (Aq a) s.heap H locs → lv_has ls 2 [(0, .ref (a + 77)), (1, .int x1)] → fX6_isPlace x1 M = some out → W p l e rX6_isPlace s m args below meth c H locs 0 0 (MQ below (QB D cy a out M) args s 0 0 (Aq a)) (F0 m 0 ls []) := by
  intro x1 M H locs ls hw hS hl hf
  unfold fX6_isPlace at hf
  refine lv_iload_n hx hb dX6_isPlace_0 rfl (lv_at hl 1 rfl) ?_
  refine lv_iconst (v := (-1 : Int32)) hx hb dX6_isPlace_1 (by decide) ?_
  refine lv_icmp_eq (tgt := 19) hx hb dX6_isPlace_2 (by decide) (fun c1 => ?_) (fun c1 => ?_)
  · have hf := ip c1 hf
    refine lv_iconst (v := (1 : Int32)) hx hb dX6_isPlace_19 (by decide) ?_
    refine lv_goto (tgt := 24) hx hb dX6_isPlace_20 (by decide) ?_
    obtain rfl := Option.some.inj hf
    exact rBret (x := (1 : Int32)) hx hb hr hlocks hw hS rfl dX6_isPlace_24
  · have hf := iq c1 hf
    refine lv_iload_n hx hb dX6_isPlace_5 rfl (lv_at hl 1 rfl) ?_
    refine lv_iconst (v := (0 : Int32)) hx hb dX6_isPlace_6 (by decide) ?_
    refine lv_aload_n hx hb dX6_isPlace_7 rfl (lv_at hl 0 rfl) ?_
    refine rGetI hx hb hts iX6_isPlace_X6 hown hK hw (Nat.le_of_ble_eq_true rfl) en_model rfl 1 (by decide) (hts _ kX6_isPlace_0) rfl ge6_1 dX6_isPlace_8 ?_
    refine lv_iconst (v := (2 : Int32)) hx hb dX6_isPlace_11 (by decide) ?_
    refine lv_isub hx hb dX6_isPlace_12 ?_
    obtain ⟨o2, ho2, hf⟩ := ob hf
    refine rCallB (va_runS (As := [.int x1, .int (0 : Int32), .int ((gi M 77 1) - (2 : Int32))]) (rest := []) ⟨hx, hb, hml, hown, hts⟩ (ctX6_isBetween (l := l) (D := D) (cy := cy) (a := a) ho2) (va_cwS 3 hts gX6_isPlace_X6_isBetween rfl rfl rfl (by decide +kernel) ⟨Nat.le_of_ble_eq_true rfl, Nat.le_of_ble_eq_true rfl⟩) (pS hK hZ hw hS) rfl rfl hl.1 rfl (lv_room (Nat.le_of_ble_eq_true rfl)) dX6_isPlace_13 ⟨Nat.le_of_ble_eq_true rfl, Nat.le_of_ble_eq_true rfl⟩) hS (fun H locs hw hS ho2b => ?_)
    refine lv_if_eq (tgt := 23) hx hb dX6_isPlace_16 (by decide) (fun c3 => ?_) (fun c3 => ?_)
    · have hf := ip c3 hf
      refine lv_iconst (v := (0 : Int32)) hx hb dX6_isPlace_23 (by decide) ?_
      obtain rfl := Option.some.inj hf
      exact rBret (x := (0 : Int32)) hx hb hr hlocks hw hS rfl dX6_isPlace_24
    · have hf := iq c3 hf
      refine lv_iconst (v := (1 : Int32)) hx hb dX6_isPlace_19 (by decide) ?_
      refine lv_goto (tgt := 24) hx hb dX6_isPlace_20 (by decide) ?_
      obtain rfl := Option.some.inj hf
      exact rBret (x := (1 : Int32)) hx hb hr hlocks hw hS rfl dX6_isPlace_24
set_option maxRecDepth 100000 in
set_option maxHeartbeats 4000000 in
theorem ctX6_isPlace {l : Launch} {D : va_G} {cy : Nat → ClassId} {a : Nat} {x1 : Int32} {M : Mm} {out : Int32} (hf : fX6_isPlace x1 M = some out) : Met l yX6_isPlace wsX6_isPlace rX6_isPlace (Pre D cy a M [.ref (a + 77), .int x1]) (QB D cy a out M) 0 0 (Aq a) := by
  refine Met.ofW (cc := cX6_isPlace) (maxL := 2) (ret := (some .boolean)) (by decide +kernel) rfl ?_
  intro p e s m args below meth c s₁ B hml hv
  obtain ⟨rfl, hw, hK, hZ⟩ := hv
  have hS : va_S (Aq a) s.heap s.heap [] := va_S.rf
  have hl := lv_entry ([.ref (a + 77), .int x1]) (n := 2) (Nat.le_of_ble_eq_true rfl)
  rw [lg_entry_eq]
  generalize (lg_sl ([.ref (a + 77), .int x1]) ++ List.replicate (2 - (lg_sl ([.ref (a + 77), .int x1])).length) Slot.unset).toArray = ls at hl ⊢
  exact bX6_isPlace_0 B.exec B.bytes B.returns hml (findClass_of_methodNamed B.named) (atoms_spec (ws := wsX6_isPlace) B.pre) B.notSynchronized hK hZ _ _ _ _ _ hw hS hl hf
def rX6_segment : Room := { frames := 1, cells := 0, slots := 0, locals := 23 }
noncomputable def fX6_segment_b59 (x1 : Int32) (x2 : Int32) (x3 : Int32) (xs1 : Int32) (xs2 : Int32) (M : Mm) : Option (Int32 × Mm) := ((fX6_goes xs1 xs2 (1 : Int32) M).bind fun o1 => (if o1.1 = 0 then some ((0 : Int32), o1.2) else (if ¬ ((gi o1.2 77 1) < 0 ∨ 6 ≤ (gi o1.2 77 1).toNatClampNeg) then (if ¬ ((gi (si o1.2 78 (gi o1.2 77 1).toNatClampNeg x1) 77 1) < 0 ∨ 6 ≤ (gi (si o1.2 78 (gi o1.2 77 1).toNatClampNeg x1) 77 1).toNatClampNeg) then (if ¬ ((gi (si (si o1.2 78 (gi o1.2 77 1).toNatClampNeg x1) 79 (gi (si o1.2 78 (gi o1.2 77 1).toNatClampNeg x1) 77 1).toNatClampNeg x2) 77 1) < 0 ∨ 6 ≤ (gi (si (si o1.2 78 (gi o1.2 77 1).toNatClampNeg x1) 79 (gi (si o1.2 78 (gi o1.2 77 1).toNatClampNeg x1) 77 1).toNatClampNeg x2) 77 1).toNatClampNeg) then some ((gi (si (si (si (si o1.2 78 (gi o1.2 77 1).toNatClampNeg x1) 79 (gi (si o1.2 78 (gi o1.2 77 1).toNatClampNeg x1) 77 1).toNatClampNeg x2) 80 (gi (si (si o1.2 78 (gi o1.2 77 1).toNatClampNeg x1) 79 (gi (si o1.2 78 (gi o1.2 77 1).toNatClampNeg x1) 77 1).toNatClampNeg x2) 77 1).toNatClampNeg x3) 77 1 ((gi (si (si (si o1.2 78 (gi o1.2 77 1).toNatClampNeg x1) 79 (gi (si o1.2 78 (gi o1.2 77 1).toNatClampNeg x1) 77 1).toNatClampNeg x2) 80 (gi (si (si o1.2 78 (gi o1.2 77 1).toNatClampNeg x1) 79 (gi (si o1.2 78 (gi o1.2 77 1).toNatClampNeg x1) 77 1).toNatClampNeg x2) 77 1).toNatClampNeg x3) 77 1) + (1 : Int32))) 77 1) - (1 : Int32), si (si (si (si o1.2 78 (gi o1.2 77 1).toNatClampNeg x1) 79 (gi (si o1.2 78 (gi o1.2 77 1).toNatClampNeg x1) 77 1).toNatClampNeg x2) 80 (gi (si (si o1.2 78 (gi o1.2 77 1).toNatClampNeg x1) 79 (gi (si o1.2 78 (gi o1.2 77 1).toNatClampNeg x1) 77 1).toNatClampNeg x2) 77 1).toNatClampNeg x3) 77 1 ((gi (si (si (si o1.2 78 (gi o1.2 77 1).toNatClampNeg x1) 79 (gi (si o1.2 78 (gi o1.2 77 1).toNatClampNeg x1) 77 1).toNatClampNeg x2) 80 (gi (si (si o1.2 78 (gi o1.2 77 1).toNatClampNeg x1) 79 (gi (si o1.2 78 (gi o1.2 77 1).toNatClampNeg x1) 77 1).toNatClampNeg x2) 77 1).toNatClampNeg x3) 77 1) + (1 : Int32))) else none) else none) else none)))
noncomputable def fX6_segment_b58 (x1 : Int32) (x2 : Int32) (x3 : Int32) (xs1 : Int32) (M : Mm) : Option (Int32 × Mm) := fX6_segment_b59 x1 x2 x3 xs1 (0 : Int32) M
noncomputable def fX6_segment_b38 (x1 : Int32) (x2 : Int32) (x3 : Int32) (xs1 : Int32) (M : Mm) : Option (Int32 × Mm) := (if (6 : Int32) ≤ (gi M 77 1) then fX6_segment_b58 x1 x2 x3 xs1 M else (if (gi M 77 6) = 0 then fX6_segment_b59 x1 x2 x3 xs1 (1 : Int32) M else fX6_segment_b58 x1 x2 x3 xs1 M))
noncomputable def fX6_segment_b37 (x1 : Int32) (x2 : Int32) (x3 : Int32) (M : Mm) : Option (Int32 × Mm) := fX6_segment_b38 x1 x2 x3 (0 : Int32) M
noncomputable def fX6_segment (x1 : Int32) (x2 : Int32) (x3 : Int32) (M : Mm) : Option (Int32 × Mm) := ((fX6_isBetween x1 (5 : Int32) (60 : Int32) M).bind fun o1 => (if o1 = 0 then fX6_segment_b37 x1 x2 x3 M else ((fX6_isBetween x2 (0 : Int32) (50 : Int32) M).bind fun o3 => (if o3 = 0 then fX6_segment_b37 x1 x2 x3 M else ((fX6_isBetween x3 (10 : Int32) (500 : Int32) M).bind fun o5 => (if o5 = 0 then fX6_segment_b37 x1 x2 x3 M else fX6_segment_b38 x1 x2 x3 (1 : Int32) M))))))
set_option maxRecDepth 20000 in
theorem iX6_segment_X6 : ∀ w ∈ wsX60, w ∈ wsX6_segment := by decide +kernel
set_option maxRecDepth 20000 in
theorem kX6_segment_0 : Cond.fieldLink RX6 7 "BatchPipeModel" "holds" "[I" ∈ wsX6_segment := by decide +kernel
set_option maxRecDepth 20000 in
theorem kX6_segment_1 : Cond.fieldLink RX6 102 "BatchPipeModel" "segments" "I" ∈ wsX6_segment := by decide +kernel
set_option maxRecDepth 20000 in
theorem kX6_segment_2 : Cond.fieldLink RX6 13 "BatchPipeModel" "height" "[I" ∈ wsX6_segment := by decide +kernel
set_option maxRecDepth 20000 in
theorem kX6_segment_3 : Cond.fieldLink RX6 16 "BatchPipeModel" "limit" "[I" ∈ wsX6_segment := by decide +kernel
set_option maxRecDepth 20000 in
theorem kX6_segment_4 : Cond.fieldLink RX6 105 "BatchPipeModel" "isOpen" "Z" ∈ wsX6_segment := by decide +kernel
set_option maxRecDepth 100000 in
set_option maxHeartbeats 4000000 in
theorem bX6_segment_59 {p : Program} {l : Launch} {e : Env} {s : State} {m : MethodId} {args : Array Value} {below : List Frame} {meth : Method} {c : Code} {D : va_G} {cy : Nat → ClassId} {a : Nat} (hx : p.tables.exec = Jvm.exec) (hb : c.code = cX6_segment) (hr : meth.sig.returnType = (some .int)) (hml : c.maxLocals = 4) (hown : s.vm.findClass RX6 = some m.cls) (hts : ∀ w ∈ wsX6_segment, w.before args s = true) (hlocks : meth.locks = false) (hK : KS D cy s) (hZ : ZZ a s s.heap) {out : Int32 × Mm} : ∀ (x1 : Int32) (x2 : Int32) (x3 : Int32) (xs1 : Int32) (xs2 : Int32) (M : Mm) (H : Heap) (locs : List Loc) (ls : Array Slot), HP D cy a M H → va_S (Aq a) s.heap H locs → lv_has ls 4 [(0, .ref (a + 77)), (1, .int x1), (2, .int x2), (3, .int x3)] → narrow .boolean (.int xs1) = .int xs1 → narrow .boolean (.int xs2) = .int xs2 → fX6_segment_b59 x1 x2 x3 xs1 xs2 M = some out → W p l e rX6_segment s m args below meth c H locs 0 0 (MQ below (QI D cy a out.1 out.2) args s 0 0 (Aq a)) (F0 m 59 ls [.int xs2, .int xs1, .ref (a + 77)]) := by
  intro x1 x2 x3 xs1 xs2 M H locs ls hw hS hl hbs1 hbs2 hf
  unfold fX6_segment_b59 at hf
  refine lv_iconst (v := (1 : Int32)) hx hb dX6_segment_59 (by decide) ?_
  obtain ⟨o1, ho1, hf⟩ := ob hf
  refine rCallB (va_runV (As := [.int xs1, .int xs2, .int (1 : Int32)]) (rest := []) ⟨hx, hb, hml, hown, hts⟩ (ctX6_goes (l := l) (D := D) (cy := cy) (a := a) ho1) (cwV 3 hts gX6_segment_X6_goes rfl rfl rfl (by decide +kernel) ⟨Nat.le_of_ble_eq_true rfl, Nat.le_of_ble_eq_true rfl⟩) (pV hK hZ hw hS (rRecv hK hw (Nat.le_of_ble_eq_true rfl) en_model rfl)) rfl rfl hl.1 rfl (lv_room (Nat.le_of_ble_eq_true rfl)) dX6_segment_60 ⟨Nat.le_of_ble_eq_true rfl, Nat.le_of_ble_eq_true rfl⟩) hS (fun H locs hw hS ho1b => ?_)
  refine lv_if_ne (tgt := 68) hx hb dX6_segment_63 (by decide) (fun c2 => ?_) (fun c2 => ?_)
  · have hf := iq c2 hf
    refine lv_aload_n hx hb dX6_segment_68 rfl (lv_at hl 0 rfl) ?_
    refine rGet hx hb hts iX6_segment_X6 hown hK hw (Nat.le_of_ble_eq_true rfl) en_model rfl 2 (by decide) (hts _ kX6_segment_0) rfl rfl dX6_segment_69 ?_
    refine lv_aload_n hx hb dX6_segment_72 rfl (lv_at hl 0 rfl) ?_
    refine rGetI hx hb hts iX6_segment_X6 hown hK hw (Nat.le_of_ble_eq_true rfl) en_model rfl 1 (by decide) (hts _ kX6_segment_1) rfl ge6_1 dX6_segment_73 ?_
    refine lv_iload_n hx hb dX6_segment_76 rfl (lv_at hl 1 rfl) ?_
    obtain ⟨hg3, hf⟩ := og hf
    refine rIast hx hb hK hw hS (Nat.le_of_ble_eq_true rfl) (fun _ => en_a78) hg3 dX6_segment_77 (fun H locs hw hS => ?_)
    refine lv_aload_n hx hb dX6_segment_78 rfl (lv_at hl 0 rfl) ?_
    refine rGet hx hb hts iX6_segment_X6 hown hK hw (Nat.le_of_ble_eq_true rfl) en_model rfl 3 (by decide) (hts _ kX6_segment_2) rfl rfl dX6_segment_79 ?_
    refine lv_aload_n hx hb dX6_segment_82 rfl (lv_at hl 0 rfl) ?_
    refine rGetI hx hb hts iX6_segment_X6 hown hK hw (Nat.le_of_ble_eq_true rfl) en_model rfl 1 (by decide) (hts _ kX6_segment_1) rfl ge6_1 dX6_segment_83 ?_
    refine lv_iload_n hx hb dX6_segment_86 rfl (lv_at hl 2 rfl) ?_
    obtain ⟨hg4, hf⟩ := og hf
    refine rIast hx hb hK hw hS (Nat.le_of_ble_eq_true rfl) (fun _ => en_a79) hg4 dX6_segment_87 (fun H locs hw hS => ?_)
    refine lv_aload_n hx hb dX6_segment_88 rfl (lv_at hl 0 rfl) ?_
    refine rGet hx hb hts iX6_segment_X6 hown hK hw (Nat.le_of_ble_eq_true rfl) en_model rfl 4 (by decide) (hts _ kX6_segment_3) rfl rfl dX6_segment_89 ?_
    refine lv_aload_n hx hb dX6_segment_92 rfl (lv_at hl 0 rfl) ?_
    refine rGetI hx hb hts iX6_segment_X6 hown hK hw (Nat.le_of_ble_eq_true rfl) en_model rfl 1 (by decide) (hts _ kX6_segment_1) rfl ge6_1 dX6_segment_93 ?_
    refine lv_iload_n hx hb dX6_segment_96 rfl (lv_at hl 3 rfl) ?_
    obtain ⟨hg5, hf⟩ := og hf
    refine rIast hx hb hK hw hS (Nat.le_of_ble_eq_true rfl) (fun _ => en_a80) hg5 dX6_segment_97 (fun H locs hw hS => ?_)
    refine lv_aload_n hx hb dX6_segment_98 rfl (lv_at hl 0 rfl) ?_
    refine lv_dup hx hb dX6_segment_99 rfl ?_
    refine rGetI hx hb hts iX6_segment_X6 hown hK hw (Nat.le_of_ble_eq_true rfl) en_model rfl 1 (by decide) (hts _ kX6_segment_1) rfl ge6_1 dX6_segment_100 ?_
    refine lv_iconst (v := (1 : Int32)) hx hb dX6_segment_103 (by decide) ?_
    refine lv_iadd hx hb dX6_segment_104 ?_
    refine rPut hx hb hts iX6_segment_X6 tyX6 tyX6_ok nmX6 hown hK hw hS (Nat.le_of_ble_eq_true rfl) en_model rfl 1 (by decide) (hts _ kX6_segment_1) rfl rfl rfl rfl (Nat.le_of_ble_eq_true rfl) hs6_1 dX6_segment_105 (fun H locs hw hS => ?_)
    refine lv_aload_n hx hb dX6_segment_108 rfl (lv_at hl 0 rfl) ?_
    refine rGetI hx hb hts iX6_segment_X6 hown hK hw (Nat.le_of_ble_eq_true rfl) en_model rfl 1 (by decide) (hts _ kX6_segment_1) rfl ge6_1 dX6_segment_109 ?_
    refine lv_iconst (v := (1 : Int32)) hx hb dX6_segment_112 (by decide) ?_
    refine lv_isub hx hb dX6_segment_113 ?_
    obtain rfl := Option.some.inj hf
    exact rIret hx hb hr hlocks hw hS dX6_segment_114
  · have hf := ip c2 hf
    refine lv_iconst (v := (0 : Int32)) hx hb dX6_segment_66 (by decide) ?_
    obtain rfl := Option.some.inj hf
    exact rIret hx hb hr hlocks hw hS dX6_segment_67
set_option maxRecDepth 100000 in
set_option maxHeartbeats 4000000 in
theorem bX6_segment_58 {p : Program} {l : Launch} {e : Env} {s : State} {m : MethodId} {args : Array Value} {below : List Frame} {meth : Method} {c : Code} {D : va_G} {cy : Nat → ClassId} {a : Nat} (hx : p.tables.exec = Jvm.exec) (hb : c.code = cX6_segment) (hr : meth.sig.returnType = (some .int)) (hml : c.maxLocals = 4) (hown : s.vm.findClass RX6 = some m.cls) (hts : ∀ w ∈ wsX6_segment, w.before args s = true) (hlocks : meth.locks = false) (hK : KS D cy s) (hZ : ZZ a s s.heap) {out : Int32 × Mm} : ∀ (x1 : Int32) (x2 : Int32) (x3 : Int32) (xs1 : Int32) (M : Mm) (H : Heap) (locs : List Loc) (ls : Array Slot), HP D cy a M H → va_S (Aq a) s.heap H locs → lv_has ls 4 [(0, .ref (a + 77)), (1, .int x1), (2, .int x2), (3, .int x3)] → narrow .boolean (.int xs1) = .int xs1 → fX6_segment_b58 x1 x2 x3 xs1 M = some out → W p l e rX6_segment s m args below meth c H locs 0 0 (MQ below (QI D cy a out.1 out.2) args s 0 0 (Aq a)) (F0 m 58 ls [.int xs1, .ref (a + 77)]) := by
  intro x1 x2 x3 xs1 M H locs ls hw hS hl hbs1 hf
  unfold fX6_segment_b58 at hf
  refine lv_iconst (v := (0 : Int32)) hx hb dX6_segment_58 (by decide) ?_
  exact bX6_segment_59 hx hb hr hml hown hts hlocks hK hZ _ _ _ _ _ _ _ _ _ hw hS (lv_sub hl [0, 1, 2, 3] rfl) hbs1 rfl hf
set_option maxRecDepth 100000 in
set_option maxHeartbeats 4000000 in
theorem bX6_segment_38 {p : Program} {l : Launch} {e : Env} {s : State} {m : MethodId} {args : Array Value} {below : List Frame} {meth : Method} {c : Code} {D : va_G} {cy : Nat → ClassId} {a : Nat} (hx : p.tables.exec = Jvm.exec) (hb : c.code = cX6_segment) (hr : meth.sig.returnType = (some .int)) (hml : c.maxLocals = 4) (hown : s.vm.findClass RX6 = some m.cls) (hts : ∀ w ∈ wsX6_segment, w.before args s = true) (hlocks : meth.locks = false) (hK : KS D cy s) (hZ : ZZ a s s.heap) {out : Int32 × Mm} : ∀ (x1 : Int32) (x2 : Int32) (x3 : Int32) (xs1 : Int32) (M : Mm) (H : Heap) (locs : List Loc) (ls : Array Slot), HP D cy a M H → va_S (Aq a) s.heap H locs → lv_has ls 4 [(0, .ref (a + 77)), (1, .int x1), (2, .int x2), (3, .int x3)] → narrow .boolean (.int xs1) = .int xs1 → fX6_segment_b38 x1 x2 x3 xs1 M = some out → W p l e rX6_segment s m args below meth c H locs 0 0 (MQ below (QI D cy a out.1 out.2) args s 0 0 (Aq a)) (F0 m 38 ls [.int xs1, .ref (a + 77)]) := by
  intro x1 x2 x3 xs1 M H locs ls hw hS hl hbs1 hf
  unfold fX6_segment_b38 at hf
  refine lv_aload_n hx hb dX6_segment_38 rfl (lv_at hl 0 rfl) ?_
  refine rGetI hx hb hts iX6_segment_X6 hown hK hw (Nat.le_of_ble_eq_true rfl) en_model rfl 1 (by decide) (hts _ kX6_segment_1) rfl ge6_1 dX6_segment_39 ?_
  refine lv_bipush (v := (6 : Int32)) hx hb dX6_segment_42 (by decide) ?_
  refine lv_icmp_ge (tgt := 58) hx hb dX6_segment_44 (by decide) (fun c1 => ?_) (fun c1 => ?_)
  · have hf := ip c1 hf
    exact bX6_segment_58 hx hb hr hml hown hts hlocks hK hZ _ _ _ _ _ _ _ _ hw hS (lv_sub hl [0, 1, 2, 3] rfl) hbs1 hf
  · have hf := iq c1 hf
    refine lv_aload_n hx hb dX6_segment_47 rfl (lv_at hl 0 rfl) ?_
    refine rGetI hx hb hts iX6_segment_X6 hown hK hw (Nat.le_of_ble_eq_true rfl) en_model rfl 6 (by decide) (hts _ kX6_segment_4) rfl ge6_6 dX6_segment_48 ?_
    refine lv_if_ne (tgt := 58) hx hb dX6_segment_51 (by decide) (fun c2 => ?_) (fun c2 => ?_)
    · have hf := iq c2 hf
      exact bX6_segment_58 hx hb hr hml hown hts hlocks hK hZ _ _ _ _ _ _ _ _ hw hS (lv_sub hl [0, 1, 2, 3] rfl) hbs1 hf
    · have hf := ip c2 hf
      refine lv_iconst (v := (1 : Int32)) hx hb dX6_segment_54 (by decide) ?_
      refine lv_goto (tgt := 59) hx hb dX6_segment_55 (by decide) ?_
      exact bX6_segment_59 hx hb hr hml hown hts hlocks hK hZ _ _ _ _ _ _ _ _ _ hw hS (lv_sub hl [0, 1, 2, 3] rfl) hbs1 rfl hf
set_option maxRecDepth 100000 in
set_option maxHeartbeats 4000000 in
theorem bX6_segment_37 {p : Program} {l : Launch} {e : Env} {s : State} {m : MethodId} {args : Array Value} {below : List Frame} {meth : Method} {c : Code} {D : va_G} {cy : Nat → ClassId} {a : Nat} (hx : p.tables.exec = Jvm.exec) (hb : c.code = cX6_segment) (hr : meth.sig.returnType = (some .int)) (hml : c.maxLocals = 4) (hown : s.vm.findClass RX6 = some m.cls) (hts : ∀ w ∈ wsX6_segment, w.before args s = true) (hlocks : meth.locks = false) (hK : KS D cy s) (hZ : ZZ a s s.heap) {out : Int32 × Mm} : ∀ (x1 : Int32) (x2 : Int32) (x3 : Int32) (M : Mm) (H : Heap) (locs : List Loc) (ls : Array Slot), HP D cy a M H → va_S (Aq a) s.heap H locs → lv_has ls 4 [(0, .ref (a + 77)), (1, .int x1), (2, .int x2), (3, .int x3)] → fX6_segment_b37 x1 x2 x3 M = some out → W p l e rX6_segment s m args below meth c H locs 0 0 (MQ below (QI D cy a out.1 out.2) args s 0 0 (Aq a)) (F0 m 37 ls [.ref (a + 77)]) := by
  intro x1 x2 x3 M H locs ls hw hS hl hf
  unfold fX6_segment_b37 at hf
  refine lv_iconst (v := (0 : Int32)) hx hb dX6_segment_37 (by decide) ?_
  exact bX6_segment_38 hx hb hr hml hown hts hlocks hK hZ _ _ _ _ _ _ _ _ hw hS (lv_sub hl [0, 1, 2, 3] rfl) rfl hf
set_option maxRecDepth 100000 in
set_option maxHeartbeats 4000000 in
theorem bX6_segment_0 {p : Program} {l : Launch} {e : Env} {s : State} {m : MethodId} {args : Array Value} {below : List Frame} {meth : Method} {c : Code} {D : va_G} {cy : Nat → ClassId} {a : Nat} (hx : p.tables.exec = Jvm.exec) (hb : c.code = cX6_segment) (hr : meth.sig.returnType = (some .int)) (hml : c.maxLocals = 4) (hown : s.vm.findClass RX6 = some m.cls) (hts : ∀ w ∈ wsX6_segment, w.before args s = true) (hlocks : meth.locks = false) (hK : KS D cy s) (hZ : ZZ a s s.heap) {out : Int32 × Mm} : ∀ (x1 : Int32) (x2 : Int32) (x3 : Int32) (M : Mm) (H : Heap) (locs : List Loc) (ls : Array Slot), HP D cy a M H → va_S (Aq a) s.heap H locs → lv_has ls 4 [(0, .ref (a + 77)), (1, .int x1), (2, .int x2), (3, .int x3)] → fX6_segment x1 x2 x3 M = some out → W p l e rX6_segment s m args below meth c H locs 0 0 (MQ below (QI D cy a out.1 out.2) args s 0 0 (Aq a)) (F0 m 0 ls []) := by
  intro x1 x2 x3 M H locs ls hw hS hl hf
  unfold fX6_segment at hf
  refine lv_aload_n hx hb dX6_segment_0 rfl (lv_at hl 0 rfl) ?_
  refine lv_iload_n hx hb dX6_segment_1 rfl (lv_at hl 1 rfl) ?_
  refine lv_iconst (v := (5 : Int32)) hx hb dX6_segment_2 (by decide) ?_
  refine lv_bipush (v := (60 : Int32)) hx hb dX6_segment_3 (by decide) ?_
  obtain ⟨o1, ho1, hf⟩ := ob hf
  refine rCallB (va_runS (As := [.int x1, .int (5 : Int32), .int (60 : Int32)]) (rest := [.ref (a + 77)]) ⟨hx, hb, hml, hown, hts⟩ (ctX6_isBetween (l := l) (D := D) (cy := cy) (a := a) ho1) (va_cwS 3 hts gX6_segment_X6_isBetween rfl rfl rfl (by decide +kernel) ⟨Nat.le_of_ble_eq_true rfl, Nat.le_of_ble_eq_true rfl⟩) (pS hK hZ hw hS) rfl rfl hl.1 rfl (lv_room (Nat.le_of_ble_eq_true rfl)) dX6_segment_5 ⟨Nat.le_of_ble_eq_true rfl, Nat.le_of_ble_eq_true rfl⟩) hS (fun H locs hw hS ho1b => ?_)
  refine lv_if_eq (tgt := 37) hx hb dX6_segment_8 (by decide) (fun c2 => ?_) (fun c2 => ?_)
  · have hf := ip c2 hf
    exact bX6_segment_37 hx hb hr hml hown hts hlocks hK hZ _ _ _ _ _ _ _ hw hS (lv_sub hl [0, 1, 2, 3] rfl) hf
  · have hf := iq c2 hf
    refine lv_iload_n hx hb dX6_segment_11 rfl (lv_at hl 2 rfl) ?_
    refine lv_iconst (v := (0 : Int32)) hx hb dX6_segment_12 (by decide) ?_
    refine lv_bipush (v := (50 : Int32)) hx hb dX6_segment_13 (by decide) ?_
    obtain ⟨o3, ho3, hf⟩ := ob hf
    refine rCallB (va_runS (As := [.int x2, .int (0 : Int32), .int (50 : Int32)]) (rest := [.ref (a + 77)]) ⟨hx, hb, hml, hown, hts⟩ (ctX6_isBetween (l := l) (D := D) (cy := cy) (a := a) ho3) (va_cwS 3 hts gX6_segment_X6_isBetween rfl rfl rfl (by decide +kernel) ⟨Nat.le_of_ble_eq_true rfl, Nat.le_of_ble_eq_true rfl⟩) (pS hK hZ hw hS) rfl rfl hl.1 rfl (lv_room (Nat.le_of_ble_eq_true rfl)) dX6_segment_15 ⟨Nat.le_of_ble_eq_true rfl, Nat.le_of_ble_eq_true rfl⟩) hS (fun H locs hw hS ho3b => ?_)
    refine lv_if_eq (tgt := 37) hx hb dX6_segment_18 (by decide) (fun c4 => ?_) (fun c4 => ?_)
    · have hf := ip c4 hf
      exact bX6_segment_37 hx hb hr hml hown hts hlocks hK hZ _ _ _ _ _ _ _ hw hS (lv_sub hl [0, 1, 2, 3] rfl) hf
    · have hf := iq c4 hf
      refine lv_iload_n hx hb dX6_segment_21 rfl (lv_at hl 3 rfl) ?_
      refine lv_bipush (v := (10 : Int32)) hx hb dX6_segment_22 (by decide) ?_
      refine lv_sipush (v := (500 : Int32)) hx hb dX6_segment_24 (by decide) ?_
      obtain ⟨o5, ho5, hf⟩ := ob hf
      refine rCallB (va_runS (As := [.int x3, .int (10 : Int32), .int (500 : Int32)]) (rest := [.ref (a + 77)]) ⟨hx, hb, hml, hown, hts⟩ (ctX6_isBetween (l := l) (D := D) (cy := cy) (a := a) ho5) (va_cwS 3 hts gX6_segment_X6_isBetween rfl rfl rfl (by decide +kernel) ⟨Nat.le_of_ble_eq_true rfl, Nat.le_of_ble_eq_true rfl⟩) (pS hK hZ hw hS) rfl rfl hl.1 rfl (lv_room (Nat.le_of_ble_eq_true rfl)) dX6_segment_27 ⟨Nat.le_of_ble_eq_true rfl, Nat.le_of_ble_eq_true rfl⟩) hS (fun H locs hw hS ho5b => ?_)
      refine lv_if_eq (tgt := 37) hx hb dX6_segment_30 (by decide) (fun c6 => ?_) (fun c6 => ?_)
      · have hf := ip c6 hf
        exact bX6_segment_37 hx hb hr hml hown hts hlocks hK hZ _ _ _ _ _ _ _ hw hS (lv_sub hl [0, 1, 2, 3] rfl) hf
      · have hf := iq c6 hf
        refine lv_iconst (v := (1 : Int32)) hx hb dX6_segment_33 (by decide) ?_
        refine lv_goto (tgt := 38) hx hb dX6_segment_34 (by decide) ?_
        exact bX6_segment_38 hx hb hr hml hown hts hlocks hK hZ _ _ _ _ _ _ _ _ hw hS (lv_sub hl [0, 1, 2, 3] rfl) rfl hf
set_option maxRecDepth 100000 in
set_option maxHeartbeats 4000000 in
theorem ctX6_segment {l : Launch} {D : va_G} {cy : Nat → ClassId} {a : Nat} {x1 : Int32} {x2 : Int32} {x3 : Int32} {M : Mm} {out : Int32 × Mm} (hf : fX6_segment x1 x2 x3 M = some out) : Met l yX6_segment wsX6_segment rX6_segment (Pre D cy a M [.ref (a + 77), .int x1, .int x2, .int x3]) (QI D cy a out.1 out.2) 0 0 (Aq a) := by
  refine Met.ofW (cc := cX6_segment) (maxL := 4) (ret := (some .int)) (by decide +kernel) rfl ?_
  intro p e s m args below meth c s₁ B hml hv
  obtain ⟨rfl, hw, hK, hZ⟩ := hv
  have hS : va_S (Aq a) s.heap s.heap [] := va_S.rf
  have hl := lv_entry ([.ref (a + 77), .int x1, .int x2, .int x3]) (n := 4) (Nat.le_of_ble_eq_true rfl)
  rw [lg_entry_eq]
  generalize (lg_sl ([.ref (a + 77), .int x1, .int x2, .int x3]) ++ List.replicate (4 - (lg_sl ([.ref (a + 77), .int x1, .int x2, .int x3])).length) Slot.unset).toArray = ls at hl ⊢
  exact bX6_segment_0 B.exec B.bytes B.returns hml (findClass_of_methodNamed B.named) (atoms_spec (ws := wsX6_segment) B.pre) B.notSynchronized hK hZ _ _ _ _ _ _ _ hw hS hl hf
def rX6_product : Room := { frames := 2, cells := 0, slots := 0, locals := 42 }
noncomputable def fX6_product_b86 (x1 : Int32) (x2 : Int32) (x3 : Int32) (x4 : Int32) (x5 : Int32) (xs1 : Int32) (xs2 : Int32) (M : Mm) : Option (Mm) := ((fX6_goes xs1 xs2 (1 : Int32) M).bind fun o1 => (if o1.1 = 0 then some (o1.2) else (if ¬ (x1 < 0 ∨ 6 ≤ x1.toNatClampNeg) then (if ¬ (x1 < 0 ∨ 6 ≤ x1.toNatClampNeg) then (if ¬ (x1 < 0 ∨ 6 ≤ x1.toNatClampNeg) then (if ¬ (x1 < 0 ∨ 6 ≤ x1.toNatClampNeg) then some (si (si (si (si o1.2 82 x1.toNatClampNeg x2) 83 x1.toNatClampNeg x3) 84 x1.toNatClampNeg x4) 85 x1.toNatClampNeg x5) else none) else none) else none) else none)))
noncomputable def fX6_product_b85 (x1 : Int32) (x2 : Int32) (x3 : Int32) (x4 : Int32) (x5 : Int32) (xs1 : Int32) (M : Mm) : Option (Mm) := fX6_product_b86 x1 x2 x3 x4 x5 xs1 (0 : Int32) M
noncomputable def fX6_product_b75 (x1 : Int32) (x2 : Int32) (x3 : Int32) (x4 : Int32) (x5 : Int32) (xs1 : Int32) (xs2 : Int32) (xs3 : Int32) (M : Mm) : Option (Mm) := (if ((ishr xs2 xs3) &&& (1 : Int32)) = 0 then fX6_product_b86 x1 x2 x3 x4 x5 xs1 (1 : Int32) M else fX6_product_b85 x1 x2 x3 x4 x5 xs1 M)
noncomputable def fX6_product_b53 (x1 : Int32) (x2 : Int32) (x3 : Int32) (x4 : Int32) (x5 : Int32) (x6 : Int32) (xs0 : Int32) (M : Mm) : Option (Mm) := (if xs0 = 0 then fX6_product_b85 x1 x2 x3 x4 x5 x6 M else (if x6 = 0 then fX6_product_b75 x1 x2 x3 x4 x5 x6 x5 (0 : Int32) M else fX6_product_b75 x1 x2 x3 x4 x5 x6 x5 x1 M))
noncomputable def fX6_product_b52 (x1 : Int32) (x2 : Int32) (x3 : Int32) (x4 : Int32) (x5 : Int32) (x6 : Int32) (M : Mm) : Option (Mm) := fX6_product_b53 x1 x2 x3 x4 x5 x6 (0 : Int32) M
noncomputable def fX6_product (x1 : Int32) (x2 : Int32) (x3 : Int32) (x4 : Int32) (x5 : Int32) (M : Mm) : Option (Mm) := ((fX6_isProduct x1 M).bind fun o1 => ((fX6_isBetween x2 (1 : Int32) (10 : Int32) M).bind fun o2 => (if o2 = 0 then fX6_product_b52 x1 x2 x3 x4 x5 o1 M else ((fX6_isBetween x3 (1 : Int32) (10 : Int32) M).bind fun o4 => (if o4 = 0 then fX6_product_b52 x1 x2 x3 x4 x5 o1 M else ((fX6_isBetween x4 (0 : Int32) (9 : Int32) M).bind fun o6 => (if o6 = 0 then fX6_product_b52 x1 x2 x3 x4 x5 o1 M else ((fX6_isBetween x5 (0 : Int32) (63 : Int32) M).bind fun o8 => (if o8 = 0 then fX6_product_b52 x1 x2 x3 x4 x5 o1 M else fX6_product_b53 x1 x2 x3 x4 x5 o1 (1 : Int32) M)))))))))
set_option maxRecDepth 20000 in
theorem iX6_product_X6 : ∀ w ∈ wsX60, w ∈ wsX6_product := by decide +kernel
set_option maxRecDepth 20000 in
theorem kX6_product_0 : Cond.fieldLink RX6 22 "BatchPipeModel" "weight" "[I" ∈ wsX6_product := by decide +kernel
set_option maxRecDepth 20000 in
theorem kX6_product_1 : Cond.fieldLink RX6 25 "BatchPipeModel" "thickness" "[I" ∈ wsX6_product := by decide +kernel
set_option maxRecDepth 20000 in
theorem kX6_product_2 : Cond.fieldLink RX6 28 "BatchPipeModel" "grade" "[I" ∈ wsX6_product := by decide +kernel
set_option maxRecDepth 20000 in
theorem kX6_product_3 : Cond.fieldLink RX6 31 "BatchPipeModel" "barred" "[I" ∈ wsX6_product := by decide +kernel
set_option maxRecDepth 100000 in
set_option maxHeartbeats 4000000 in
theorem bX6_product_86 {p : Program} {l : Launch} {e : Env} {s : State} {m : MethodId} {args : Array Value} {below : List Frame} {meth : Method} {c : Code} {D : va_G} {cy : Nat → ClassId} {a : Nat} (hx : p.tables.exec = Jvm.exec) (hb : c.code = cX6_product) (hr : meth.sig.returnType = none) (hml : c.maxLocals = 8) (hown : s.vm.findClass RX6 = some m.cls) (hts : ∀ w ∈ wsX6_product, w.before args s = true) (hlocks : meth.locks = false) (hK : KS D cy s) (hZ : ZZ a s s.heap) {out : Mm} : ∀ (x1 : Int32) (x2 : Int32) (x3 : Int32) (x4 : Int32) (x5 : Int32) (xs1 : Int32) (xs2 : Int32) (M : Mm) (H : Heap) (locs : List Loc) (ls : Array Slot), HP D cy a M H → va_S (Aq a) s.heap H locs → lv_has ls 8 [(0, .ref (a + 77)), (1, .int x1), (2, .int x2), (3, .int x3), (4, .int x4), (5, .int x5)] → narrow .boolean (.int xs1) = .int xs1 → narrow .boolean (.int xs2) = .int xs2 → fX6_product_b86 x1 x2 x3 x4 x5 xs1 xs2 M = some out → W p l e rX6_product s m args below meth c H locs 0 0 (MQ below (QV D cy a out) args s 0 0 (Aq a)) (F0 m 86 ls [.int xs2, .int xs1, .ref (a + 77)]) := by
  intro x1 x2 x3 x4 x5 xs1 xs2 M H locs ls hw hS hl hbs1 hbs2 hf
  unfold fX6_product_b86 at hf
  refine lv_iconst (v := (1 : Int32)) hx hb dX6_product_86 (by decide) ?_
  obtain ⟨o1, ho1, hf⟩ := ob hf
  refine rCallB (va_runV (As := [.int xs1, .int xs2, .int (1 : Int32)]) (rest := []) ⟨hx, hb, hml, hown, hts⟩ (ctX6_goes (l := l) (D := D) (cy := cy) (a := a) ho1) (cwV 3 hts gX6_product_X6_goes rfl rfl rfl (by decide +kernel) ⟨Nat.le_of_ble_eq_true rfl, Nat.le_of_ble_eq_true rfl⟩) (pV hK hZ hw hS (rRecv hK hw (Nat.le_of_ble_eq_true rfl) en_model rfl)) rfl rfl hl.1 rfl (lv_room (Nat.le_of_ble_eq_true rfl)) dX6_product_87 ⟨Nat.le_of_ble_eq_true rfl, Nat.le_of_ble_eq_true rfl⟩) hS (fun H locs hw hS ho1b => ?_)
  refine lv_if_ne (tgt := 94) hx hb dX6_product_90 (by decide) (fun c2 => ?_) (fun c2 => ?_)
  · have hf := iq c2 hf
    refine lv_aload_n hx hb dX6_product_94 rfl (lv_at hl 0 rfl) ?_
    refine rGet hx hb hts iX6_product_X6 hown hK hw (Nat.le_of_ble_eq_true rfl) en_model rfl 8 (by decide) (hts _ kX6_product_0) rfl rfl dX6_product_95 ?_
    refine lv_iload_n hx hb dX6_product_98 rfl (lv_at hl 1 rfl) ?_
    refine lv_iload_n hx hb dX6_product_99 rfl (lv_at hl 2 rfl) ?_
    obtain ⟨hg3, hf⟩ := og hf
    refine rIast hx hb hK hw hS (Nat.le_of_ble_eq_true rfl) (fun _ => en_a82) hg3 dX6_product_100 (fun H locs hw hS => ?_)
    refine lv_aload_n hx hb dX6_product_101 rfl (lv_at hl 0 rfl) ?_
    refine rGet hx hb hts iX6_product_X6 hown hK hw (Nat.le_of_ble_eq_true rfl) en_model rfl 9 (by decide) (hts _ kX6_product_1) rfl rfl dX6_product_102 ?_
    refine lv_iload_n hx hb dX6_product_105 rfl (lv_at hl 1 rfl) ?_
    refine lv_iload_n hx hb dX6_product_106 rfl (lv_at hl 3 rfl) ?_
    obtain ⟨hg4, hf⟩ := og hf
    refine rIast hx hb hK hw hS (Nat.le_of_ble_eq_true rfl) (fun _ => en_a83) hg4 dX6_product_107 (fun H locs hw hS => ?_)
    refine lv_aload_n hx hb dX6_product_108 rfl (lv_at hl 0 rfl) ?_
    refine rGet hx hb hts iX6_product_X6 hown hK hw (Nat.le_of_ble_eq_true rfl) en_model rfl 10 (by decide) (hts _ kX6_product_2) rfl rfl dX6_product_109 ?_
    refine lv_iload_n hx hb dX6_product_112 rfl (lv_at hl 1 rfl) ?_
    refine lv_iload hx hb dX6_product_113 (lv_at hl 4 rfl) ?_
    obtain ⟨hg5, hf⟩ := og hf
    refine rIast hx hb hK hw hS (Nat.le_of_ble_eq_true rfl) (fun _ => en_a84) hg5 dX6_product_115 (fun H locs hw hS => ?_)
    refine lv_aload_n hx hb dX6_product_116 rfl (lv_at hl 0 rfl) ?_
    refine rGet hx hb hts iX6_product_X6 hown hK hw (Nat.le_of_ble_eq_true rfl) en_model rfl 11 (by decide) (hts _ kX6_product_3) rfl rfl dX6_product_117 ?_
    refine lv_iload_n hx hb dX6_product_120 rfl (lv_at hl 1 rfl) ?_
    refine lv_iload hx hb dX6_product_121 (lv_at hl 5 rfl) ?_
    obtain ⟨hg6, hf⟩ := og hf
    refine rIast hx hb hK hw hS (Nat.le_of_ble_eq_true rfl) (fun _ => en_a85) hg6 dX6_product_123 (fun H locs hw hS => ?_)
    obtain rfl := Option.some.inj hf
    exact rVret hx hb hr hlocks hw hS dX6_product_124
  · have hf := ip c2 hf
    obtain rfl := Option.some.inj hf
    exact rVret hx hb hr hlocks hw hS dX6_product_93
set_option maxRecDepth 100000 in
set_option maxHeartbeats 4000000 in
theorem bX6_product_85 {p : Program} {l : Launch} {e : Env} {s : State} {m : MethodId} {args : Array Value} {below : List Frame} {meth : Method} {c : Code} {D : va_G} {cy : Nat → ClassId} {a : Nat} (hx : p.tables.exec = Jvm.exec) (hb : c.code = cX6_product) (hr : meth.sig.returnType = none) (hml : c.maxLocals = 8) (hown : s.vm.findClass RX6 = some m.cls) (hts : ∀ w ∈ wsX6_product, w.before args s = true) (hlocks : meth.locks = false) (hK : KS D cy s) (hZ : ZZ a s s.heap) {out : Mm} : ∀ (x1 : Int32) (x2 : Int32) (x3 : Int32) (x4 : Int32) (x5 : Int32) (xs1 : Int32) (M : Mm) (H : Heap) (locs : List Loc) (ls : Array Slot), HP D cy a M H → va_S (Aq a) s.heap H locs → lv_has ls 8 [(0, .ref (a + 77)), (1, .int x1), (2, .int x2), (3, .int x3), (4, .int x4), (5, .int x5)] → narrow .boolean (.int xs1) = .int xs1 → fX6_product_b85 x1 x2 x3 x4 x5 xs1 M = some out → W p l e rX6_product s m args below meth c H locs 0 0 (MQ below (QV D cy a out) args s 0 0 (Aq a)) (F0 m 85 ls [.int xs1, .ref (a + 77)]) := by
  intro x1 x2 x3 x4 x5 xs1 M H locs ls hw hS hl hbs1 hf
  unfold fX6_product_b85 at hf
  refine lv_iconst (v := (0 : Int32)) hx hb dX6_product_85 (by decide) ?_
  exact bX6_product_86 hx hb hr hml hown hts hlocks hK hZ _ _ _ _ _ _ _ _ _ _ _ hw hS (lv_sub hl [0, 1, 2, 3, 4, 5] rfl) hbs1 rfl hf
set_option maxRecDepth 100000 in
set_option maxHeartbeats 4000000 in
theorem bX6_product_75 {p : Program} {l : Launch} {e : Env} {s : State} {m : MethodId} {args : Array Value} {below : List Frame} {meth : Method} {c : Code} {D : va_G} {cy : Nat → ClassId} {a : Nat} (hx : p.tables.exec = Jvm.exec) (hb : c.code = cX6_product) (hr : meth.sig.returnType = none) (hml : c.maxLocals = 8) (hown : s.vm.findClass RX6 = some m.cls) (hts : ∀ w ∈ wsX6_product, w.before args s = true) (hlocks : meth.locks = false) (hK : KS D cy s) (hZ : ZZ a s s.heap) {out : Mm} : ∀ (x1 : Int32) (x2 : Int32) (x3 : Int32) (x4 : Int32) (x5 : Int32) (xs1 : Int32) (xs2 : Int32) (xs3 : Int32) (M : Mm) (H : Heap) (locs : List Loc) (ls : Array Slot), HP D cy a M H → va_S (Aq a) s.heap H locs → lv_has ls 8 [(0, .ref (a + 77)), (1, .int x1), (2, .int x2), (3, .int x3), (4, .int x4), (5, .int x5)] → narrow .boolean (.int xs1) = .int xs1 → fX6_product_b75 x1 x2 x3 x4 x5 xs1 xs2 xs3 M = some out → W p l e rX6_product s m args below meth c H locs 0 0 (MQ below (QV D cy a out) args s 0 0 (Aq a)) (F0 m 75 ls [.int xs3, .int xs2, .int xs1, .ref (a + 77)]) := by
  intro x1 x2 x3 x4 x5 xs1 xs2 xs3 M H locs ls hw hS hl hbs1 hf
  unfold fX6_product_b75 at hf
  refine lv_ishr hx hb dX6_product_75 ?_
  refine lv_iconst (v := (1 : Int32)) hx hb dX6_product_76 (by decide) ?_
  refine lv_iand hx hb dX6_product_77 ?_
  refine lv_if_ne (tgt := 85) hx hb dX6_product_78 (by decide) (fun c1 => ?_) (fun c1 => ?_)
  · have hf := iq c1 hf
    exact bX6_product_85 hx hb hr hml hown hts hlocks hK hZ _ _ _ _ _ _ _ _ _ _ hw hS (lv_sub hl [0, 1, 2, 3, 4, 5] rfl) hbs1 hf
  · have hf := ip c1 hf
    refine lv_iconst (v := (1 : Int32)) hx hb dX6_product_81 (by decide) ?_
    refine lv_goto (tgt := 86) hx hb dX6_product_82 (by decide) ?_
    exact bX6_product_86 hx hb hr hml hown hts hlocks hK hZ _ _ _ _ _ _ _ _ _ _ _ hw hS (lv_sub hl [0, 1, 2, 3, 4, 5] rfl) hbs1 rfl hf
set_option maxRecDepth 100000 in
set_option maxHeartbeats 4000000 in
theorem bX6_product_53 {p : Program} {l : Launch} {e : Env} {s : State} {m : MethodId} {args : Array Value} {below : List Frame} {meth : Method} {c : Code} {D : va_G} {cy : Nat → ClassId} {a : Nat} (hx : p.tables.exec = Jvm.exec) (hb : c.code = cX6_product) (hr : meth.sig.returnType = none) (hml : c.maxLocals = 8) (hown : s.vm.findClass RX6 = some m.cls) (hts : ∀ w ∈ wsX6_product, w.before args s = true) (hlocks : meth.locks = false) (hK : KS D cy s) (hZ : ZZ a s s.heap) {out : Mm} : ∀ (x1 : Int32) (x2 : Int32) (x3 : Int32) (x4 : Int32) (x5 : Int32) (x6 : Int32) (xs0 : Int32) (M : Mm) (H : Heap) (locs : List Loc) (ls : Array Slot), HP D cy a M H → va_S (Aq a) s.heap H locs → lv_has ls 8 [(0, .ref (a + 77)), (1, .int x1), (2, .int x2), (3, .int x3), (4, .int x4), (5, .int x5), (6, .int x6)] → narrow .boolean (.int x6) = .int x6 → narrow .boolean (.int xs0) = .int xs0 → fX6_product_b53 x1 x2 x3 x4 x5 x6 xs0 M = some out → W p l e rX6_product s m args below meth c H locs 0 0 (MQ below (QV D cy a out) args s 0 0 (Aq a)) (F0 m 53 ls [.int xs0]) := by
  intro x1 x2 x3 x4 x5 x6 xs0 M H locs ls hw hS hl hb6 hbs0 hf
  unfold fX6_product_b53 at hf
  refine lv_istore (lv' := [(7, .int xs0), (0, .ref (a + 77)), (1, .int x1), (2, .int x2), (3, .int x3), (4, .int x4), (5, .int x5), (6, .int x6)]) hx hb dX6_product_53 hl (Nat.le_of_ble_eq_true rfl) rfl (fun ls hl => ?_)
  refine lv_aload_n hx hb dX6_product_55 rfl (lv_at hl 1 rfl) ?_
  refine lv_iload hx hb dX6_product_56 (lv_at hl 7 rfl) ?_
  refine lv_iload hx hb dX6_product_58 (lv_at hl 0 rfl) ?_
  refine lv_if_eq (tgt := 85) hx hb dX6_product_60 (by decide) (fun c1 => ?_) (fun c1 => ?_)
  · have hf := ip c1 hf
    exact bX6_product_85 hx hb hr hml hown hts hlocks hK hZ _ _ _ _ _ _ _ _ _ _ hw hS (lv_sub hl [1, 2, 3, 4, 5, 6] rfl) hb6 hf
  · have hf := iq c1 hf
    refine lv_iload hx hb dX6_product_63 (lv_at hl 6 rfl) ?_
    refine lv_iload hx hb dX6_product_65 (lv_at hl 7 rfl) ?_
    refine lv_if_eq (tgt := 74) hx hb dX6_product_67 (by decide) (fun c2 => ?_) (fun c2 => ?_)
    · have hf := ip c2 hf
      refine lv_iconst (v := (0 : Int32)) hx hb dX6_product_74 (by decide) ?_
      exact bX6_product_75 hx hb hr hml hown hts hlocks hK hZ _ _ _ _ _ _ _ _ _ _ _ _ hw hS (lv_sub hl [1, 2, 3, 4, 5, 6] rfl) hb6 hf
    · have hf := iq c2 hf
      refine lv_iload_n hx hb dX6_product_70 rfl (lv_at hl 2 rfl) ?_
      refine lv_goto (tgt := 75) hx hb dX6_product_71 (by decide) ?_
      exact bX6_product_75 hx hb hr hml hown hts hlocks hK hZ _ _ _ _ _ _ _ _ _ _ _ _ hw hS (lv_sub hl [1, 2, 3, 4, 5, 6] rfl) hb6 hf
set_option maxRecDepth 100000 in
set_option maxHeartbeats 4000000 in
theorem bX6_product_52 {p : Program} {l : Launch} {e : Env} {s : State} {m : MethodId} {args : Array Value} {below : List Frame} {meth : Method} {c : Code} {D : va_G} {cy : Nat → ClassId} {a : Nat} (hx : p.tables.exec = Jvm.exec) (hb : c.code = cX6_product) (hr : meth.sig.returnType = none) (hml : c.maxLocals = 8) (hown : s.vm.findClass RX6 = some m.cls) (hts : ∀ w ∈ wsX6_product, w.before args s = true) (hlocks : meth.locks = false) (hK : KS D cy s) (hZ : ZZ a s s.heap) {out : Mm} : ∀ (x1 : Int32) (x2 : Int32) (x3 : Int32) (x4 : Int32) (x5 : Int32) (x6 : Int32) (M : Mm) (H : Heap) (locs : List Loc) (ls : Array Slot), HP D cy a M H → va_S (Aq a) s.heap H locs → lv_has ls 8 [(0, .ref (a + 77)), (1, .int x1), (2, .int x2), (3, .int x3), (4, .int x4), (5, .int x5), (6, .int x6)] → narrow .boolean (.int x6) = .int x6 → fX6_product_b52 x1 x2 x3 x4 x5 x6 M = some out → W p l e rX6_product s m args below meth c H locs 0 0 (MQ below (QV D cy a out) args s 0 0 (Aq a)) (F0 m 52 ls []) := by
  intro x1 x2 x3 x4 x5 x6 M H locs ls hw hS hl hb6 hf
  unfold fX6_product_b52 at hf
  refine lv_iconst (v := (0 : Int32)) hx hb dX6_product_52 (by decide) ?_
  exact bX6_product_53 hx hb hr hml hown hts hlocks hK hZ _ _ _ _ _ _ _ _ _ _ _ hw hS (lv_sub hl [0, 1, 2, 3, 4, 5, 6] rfl) hb6 rfl hf
set_option maxRecDepth 100000 in
set_option maxHeartbeats 4000000 in
theorem bX6_product_0 {p : Program} {l : Launch} {e : Env} {s : State} {m : MethodId} {args : Array Value} {below : List Frame} {meth : Method} {c : Code} {D : va_G} {cy : Nat → ClassId} {a : Nat} (hx : p.tables.exec = Jvm.exec) (hb : c.code = cX6_product) (hr : meth.sig.returnType = none) (hml : c.maxLocals = 8) (hown : s.vm.findClass RX6 = some m.cls) (hts : ∀ w ∈ wsX6_product, w.before args s = true) (hlocks : meth.locks = false) (hK : KS D cy s) (hZ : ZZ a s s.heap) {out : Mm} : ∀ (x1 : Int32) (x2 : Int32) (x3 : Int32) (x4 : Int32) (x5 : Int32) (M : Mm) (H : Heap) (locs : List Loc) (ls : Array Slot), HP D cy a M H → va_S (Aq a) s.heap H locs → lv_has ls 8 [(0, .ref (a + 77)), (1, .int x1), (2, .int x2), (3, .int x3), (4, .int x4), (5, .int x5)] → fX6_product x1 x2 x3 x4 x5 M = some out → W p l e rX6_product s m args below meth c H locs 0 0 (MQ below (QV D cy a out) args s 0 0 (Aq a)) (F0 m 0 ls []) := by
  intro x1 x2 x3 x4 x5 M H locs ls hw hS hl hf
  unfold fX6_product at hf
  refine lv_iload_n hx hb dX6_product_0 rfl (lv_at hl 1 rfl) ?_
  obtain ⟨o1, ho1, hf⟩ := ob hf
  refine rCallB (va_runS (As := [.int x1]) (rest := []) ⟨hx, hb, hml, hown, hts⟩ (ctX6_isProduct (l := l) (D := D) (cy := cy) (a := a) ho1) (va_cwS 1 hts gX6_product_X6_isProduct rfl rfl rfl (by decide +kernel) ⟨Nat.le_of_ble_eq_true rfl, Nat.le_of_ble_eq_true rfl⟩) (pS hK hZ hw hS) rfl rfl hl.1 rfl (lv_room (Nat.le_of_ble_eq_true rfl)) dX6_product_1 ⟨Nat.le_of_ble_eq_true rfl, Nat.le_of_ble_eq_true rfl⟩) hS (fun H locs hw hS ho1b => ?_)
  refine lv_istore (lv' := [(6, .int o1), (0, .ref (a + 77)), (1, .int x1), (2, .int x2), (3, .int x3), (4, .int x4), (5, .int x5)]) hx hb dX6_product_4 hl (Nat.le_of_ble_eq_true rfl) rfl (fun ls hl => ?_)
  refine lv_iload_n hx hb dX6_product_6 rfl (lv_at hl 3 rfl) ?_
  refine lv_iconst (v := (1 : Int32)) hx hb dX6_product_7 (by decide) ?_
  refine lv_bipush (v := (10 : Int32)) hx hb dX6_product_8 (by decide) ?_
  obtain ⟨o2, ho2, hf⟩ := ob hf
  refine rCallB (va_runS (As := [.int x2, .int (1 : Int32), .int (10 : Int32)]) (rest := []) ⟨hx, hb, hml, hown, hts⟩ (ctX6_isBetween (l := l) (D := D) (cy := cy) (a := a) ho2) (va_cwS 3 hts gX6_product_X6_isBetween rfl rfl rfl (by decide +kernel) ⟨Nat.le_of_ble_eq_true rfl, Nat.le_of_ble_eq_true rfl⟩) (pS hK hZ hw hS) rfl rfl hl.1 rfl (lv_room (Nat.le_of_ble_eq_true rfl)) dX6_product_10 ⟨Nat.le_of_ble_eq_true rfl, Nat.le_of_ble_eq_true rfl⟩) hS (fun H locs hw hS ho2b => ?_)
  refine lv_if_eq (tgt := 52) hx hb dX6_product_13 (by decide) (fun c3 => ?_) (fun c3 => ?_)
  · have hf := ip c3 hf
    exact bX6_product_52 hx hb hr hml hown hts hlocks hK hZ _ _ _ _ _ _ _ _ _ _ hw hS (lv_sub hl [1, 2, 3, 4, 5, 6, 0] rfl) ho1b hf
  · have hf := iq c3 hf
    refine lv_iload_n hx hb dX6_product_16 rfl (lv_at hl 4 rfl) ?_
    refine lv_iconst (v := (1 : Int32)) hx hb dX6_product_17 (by decide) ?_
    refine lv_bipush (v := (10 : Int32)) hx hb dX6_product_18 (by decide) ?_
    obtain ⟨o4, ho4, hf⟩ := ob hf
    refine rCallB (va_runS (As := [.int x3, .int (1 : Int32), .int (10 : Int32)]) (rest := []) ⟨hx, hb, hml, hown, hts⟩ (ctX6_isBetween (l := l) (D := D) (cy := cy) (a := a) ho4) (va_cwS 3 hts gX6_product_X6_isBetween rfl rfl rfl (by decide +kernel) ⟨Nat.le_of_ble_eq_true rfl, Nat.le_of_ble_eq_true rfl⟩) (pS hK hZ hw hS) rfl rfl hl.1 rfl (lv_room (Nat.le_of_ble_eq_true rfl)) dX6_product_20 ⟨Nat.le_of_ble_eq_true rfl, Nat.le_of_ble_eq_true rfl⟩) hS (fun H locs hw hS ho4b => ?_)
    refine lv_if_eq (tgt := 52) hx hb dX6_product_23 (by decide) (fun c5 => ?_) (fun c5 => ?_)
    · have hf := ip c5 hf
      exact bX6_product_52 hx hb hr hml hown hts hlocks hK hZ _ _ _ _ _ _ _ _ _ _ hw hS (lv_sub hl [1, 2, 3, 4, 5, 6, 0] rfl) ho1b hf
    · have hf := iq c5 hf
      refine lv_iload hx hb dX6_product_26 (lv_at hl 5 rfl) ?_
      refine lv_iconst (v := (0 : Int32)) hx hb dX6_product_28 (by decide) ?_
      refine lv_bipush (v := (9 : Int32)) hx hb dX6_product_29 (by decide) ?_
      obtain ⟨o6, ho6, hf⟩ := ob hf
      refine rCallB (va_runS (As := [.int x4, .int (0 : Int32), .int (9 : Int32)]) (rest := []) ⟨hx, hb, hml, hown, hts⟩ (ctX6_isBetween (l := l) (D := D) (cy := cy) (a := a) ho6) (va_cwS 3 hts gX6_product_X6_isBetween rfl rfl rfl (by decide +kernel) ⟨Nat.le_of_ble_eq_true rfl, Nat.le_of_ble_eq_true rfl⟩) (pS hK hZ hw hS) rfl rfl hl.1 rfl (lv_room (Nat.le_of_ble_eq_true rfl)) dX6_product_31 ⟨Nat.le_of_ble_eq_true rfl, Nat.le_of_ble_eq_true rfl⟩) hS (fun H locs hw hS ho6b => ?_)
      refine lv_if_eq (tgt := 52) hx hb dX6_product_34 (by decide) (fun c7 => ?_) (fun c7 => ?_)
      · have hf := ip c7 hf
        exact bX6_product_52 hx hb hr hml hown hts hlocks hK hZ _ _ _ _ _ _ _ _ _ _ hw hS (lv_sub hl [1, 2, 3, 4, 5, 6, 0] rfl) ho1b hf
      · have hf := iq c7 hf
        refine lv_iload hx hb dX6_product_37 (lv_at hl 6 rfl) ?_
        refine lv_iconst (v := (0 : Int32)) hx hb dX6_product_39 (by decide) ?_
        refine lv_bipush (v := (63 : Int32)) hx hb dX6_product_40 (by decide) ?_
        obtain ⟨o8, ho8, hf⟩ := ob hf
        refine rCallB (va_runS (As := [.int x5, .int (0 : Int32), .int (63 : Int32)]) (rest := []) ⟨hx, hb, hml, hown, hts⟩ (ctX6_isBetween (l := l) (D := D) (cy := cy) (a := a) ho8) (va_cwS 3 hts gX6_product_X6_isBetween rfl rfl rfl (by decide +kernel) ⟨Nat.le_of_ble_eq_true rfl, Nat.le_of_ble_eq_true rfl⟩) (pS hK hZ hw hS) rfl rfl hl.1 rfl (lv_room (Nat.le_of_ble_eq_true rfl)) dX6_product_42 ⟨Nat.le_of_ble_eq_true rfl, Nat.le_of_ble_eq_true rfl⟩) hS (fun H locs hw hS ho8b => ?_)
        refine lv_if_eq (tgt := 52) hx hb dX6_product_45 (by decide) (fun c9 => ?_) (fun c9 => ?_)
        · have hf := ip c9 hf
          exact bX6_product_52 hx hb hr hml hown hts hlocks hK hZ _ _ _ _ _ _ _ _ _ _ hw hS (lv_sub hl [1, 2, 3, 4, 5, 6, 0] rfl) ho1b hf
        · have hf := iq c9 hf
          refine lv_iconst (v := (1 : Int32)) hx hb dX6_product_48 (by decide) ?_
          refine lv_goto (tgt := 53) hx hb dX6_product_49 (by decide) ?_
          exact bX6_product_53 hx hb hr hml hown hts hlocks hK hZ _ _ _ _ _ _ _ _ _ _ _ hw hS (lv_sub hl [1, 2, 3, 4, 5, 6, 0] rfl) ho1b rfl hf
set_option maxRecDepth 100000 in
set_option maxHeartbeats 4000000 in
theorem ctX6_product {l : Launch} {D : va_G} {cy : Nat → ClassId} {a : Nat} {x1 : Int32} {x2 : Int32} {x3 : Int32} {x4 : Int32} {x5 : Int32} {M : Mm} {out : Mm} (hf : fX6_product x1 x2 x3 x4 x5 M = some out) : Met l yX6_product wsX6_product rX6_product (Pre D cy a M [.ref (a + 77), .int x1, .int x2, .int x3, .int x4, .int x5]) (QV D cy a out) 0 0 (Aq a) := by
  refine Met.ofW (cc := cX6_product) (maxL := 8) (ret := none) (by decide +kernel) rfl ?_
  intro p e s m args below meth c s₁ B hml hv
  obtain ⟨rfl, hw, hK, hZ⟩ := hv
  have hS : va_S (Aq a) s.heap s.heap [] := va_S.rf
  have hl := lv_entry ([.ref (a + 77), .int x1, .int x2, .int x3, .int x4, .int x5]) (n := 8) (Nat.le_of_ble_eq_true rfl)
  rw [lg_entry_eq]
  generalize (lg_sl ([.ref (a + 77), .int x1, .int x2, .int x3, .int x4, .int x5]) ++ List.replicate (8 - (lg_sl ([.ref (a + 77), .int x1, .int x2, .int x3, .int x4, .int x5])).length) Slot.unset).toArray = ls at hl ⊢
  exact bX6_product_0 B.exec B.bytes B.returns hml (findClass_of_methodNamed B.named) (atoms_spec (ws := wsX6_product) B.pre) B.notSynchronized hK hZ _ _ _ _ _ _ _ _ _ hw hS hl hf
