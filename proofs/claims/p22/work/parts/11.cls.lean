def rX0_tell : Room := { frames := 0, cells := 0, slots := 0, locals := 0 }
noncomputable def fX0_tell (i0 : Nat) (x1 : Int32) (i2 : Nat) (x3 : Int32) (M : Mm) : Option (Mm) := (if i0 < 40 then some (si (sr (si M (33 + i0) 2 x1) (33 + i0) 1 (some i2)) (33 + i0) 3 x3) else none)
set_option maxRecDepth 20000 in
theorem iX0_tell_X0 : ∀ w ∈ wsX00, w ∈ wsX0_tell := by decide +kernel
set_option maxRecDepth 20000 in
theorem kX0_tell_0 : Cond.fieldLink RX0 9 "BatchPipe$Batch" "shipper" "I" ∈ wsX0_tell := by decide +kernel
set_option maxRecDepth 20000 in
theorem kX0_tell_1 : Cond.fieldLink RX0 18 "BatchPipe$Batch" "oil" "LBatchPipe$Product;" ∈ wsX0_tell := by decide +kernel
set_option maxRecDepth 20000 in
theorem kX0_tell_2 : Cond.fieldLink RX0 22 "BatchPipe$Batch" "ordered" "I" ∈ wsX0_tell := by decide +kernel
set_option maxRecDepth 100000 in
set_option maxHeartbeats 4000000 in
theorem bX0_tell_0 {p : Program} {l : Launch} {e : Env} {s : State} {m : MethodId} {args : Array Value} {below : List Frame} {meth : Method} {c : Code} {D : va_G} {cy : Nat → ClassId} {a : Nat} (hx : p.tables.exec = Jvm.exec) (hb : c.code = cX0_tell) (hr : meth.sig.returnType = none) (hml : c.maxLocals = 4) (hown : s.vm.findClass RX0 = some m.cls) (hts : ∀ w ∈ wsX0_tell, w.before args s = true) (hlocks : meth.locks = false) (hK : KS D cy s) (hZ : ZZ a s s.heap) {out : Mm} : ∀ (i0 : Nat) (x1 : Int32) (i2 : Nat) (x3 : Int32) (M : Mm) (H : Heap) (locs : List Loc) (ls : Array Slot), HP D cy a M H → va_S (Aq a) s.heap H locs → lv_has ls 4 [(0, .ref (a + (33 + i0))), (1, .int x1), (2, .ref (a + (27 + i2))), (3, .int x3)] → fX0_tell i0 x1 i2 x3 M = some out → W p l e rX0_tell s m args below meth c H locs 0 0 (MQ below (QV D cy a out) args s 0 0 (Aq a)) (F0 m 0 ls []) := by
  intro i0 x1 i2 x3 M H locs ls hw hS hl hf
  unfold fX0_tell at hf
  refine lv_aload_n hx hb dX0_tell_0 rfl (lv_at hl 0 rfl) ?_
  refine lv_iload_n hx hb dX0_tell_1 rfl (lv_at hl 1 rfl) ?_
  obtain ⟨hi1, hf⟩ := og hf
  refine rPut hx hb hts iX0_tell_X0 tyX0 tyX0_ok nmX0 hown hK hw hS (kbat hi1) (en_bat hi1) rfl 2 (by decide) (hts _ kX0_tell_0) rfl rfl rfl rfl (Nat.le_of_ble_eq_true rfl) (hs0_2 hi1) dX0_tell_2 (fun H locs hw hS => ?_)
  refine lv_aload_n hx hb dX0_tell_5 rfl (lv_at hl 0 rfl) ?_
  refine lv_aload_n hx hb dX0_tell_6 rfl (lv_at hl 2 rfl) ?_
  refine rPutR hx hb hts iX0_tell_X0 tyX0 tyX0_ok nmX0 hown hK hw hS (kbat hi1) (en_bat hi1) rfl 1 (by decide) (hts _ kX0_tell_1) rfl rfl (K := "BatchPipe$Product") rfl (base := 27) (o := (some i2)) (Nat.le_of_ble_eq_true rfl) (hs0_1 hi1) dX0_tell_7 (fun H locs hw hS => ?_)
  refine lv_aload_n hx hb dX0_tell_10 rfl (lv_at hl 0 rfl) ?_
  refine lv_iload_n hx hb dX0_tell_11 rfl (lv_at hl 3 rfl) ?_
  refine rPut hx hb hts iX0_tell_X0 tyX0 tyX0_ok nmX0 hown hK hw hS (kbat hi1) (en_bat hi1) rfl 3 (by decide) (hts _ kX0_tell_2) rfl rfl rfl rfl (Nat.le_of_ble_eq_true rfl) (hs0_3 hi1) dX0_tell_12 (fun H locs hw hS => ?_)
  obtain rfl := Option.some.inj hf
  exact rVret hx hb hr hlocks hw hS dX0_tell_15
set_option maxRecDepth 100000 in
set_option maxHeartbeats 4000000 in
theorem ctX0_tell {l : Launch} {D : va_G} {cy : Nat → ClassId} {a : Nat} {i0 : Nat} {x1 : Int32} {i2 : Nat} {x3 : Int32} {M : Mm} {out : Mm} (hf : fX0_tell i0 x1 i2 x3 M = some out) : Met l yX0_tell wsX0_tell rX0_tell (Pre D cy a M [.ref (a + (33 + i0)), .int x1, .ref (a + (27 + i2)), .int x3]) (QV D cy a out) 0 0 (Aq a) := by
  refine Met.ofW (cc := cX0_tell) (maxL := 4) (ret := none) (by decide +kernel) rfl ?_
  intro p e s m args below meth c s₁ B hml hv
  obtain ⟨rfl, hw, hK, hZ⟩ := hv
  have hS : va_S (Aq a) s.heap s.heap [] := va_S.rf
  have hl := lv_entry ([.ref (a + (33 + i0)), .int x1, .ref (a + (27 + i2)), .int x3]) (n := 4) (Nat.le_of_ble_eq_true rfl)
  rw [lg_entry_eq]
  generalize (lg_sl ([.ref (a + (33 + i0)), .int x1, .ref (a + (27 + i2)), .int x3]) ++ List.replicate (4 - (lg_sl ([.ref (a + (33 + i0)), .int x1, .ref (a + (27 + i2)), .int x3])).length) Slot.unset).toArray = ls at hl ⊢
  exact bX0_tell_0 B.exec B.bytes B.returns hml (findClass_of_methodNamed B.named) (atoms_spec (ws := wsX0_tell) B.pre) B.notSynchronized hK hZ _ _ _ _ _ _ _ _ hw hS hl hf
def rX0_inPipe : Room := { frames := 0, cells := 0, slots := 0, locals := 0 }
noncomputable def fX0_inPipe (i0 : Nat) (M : Mm) : Option (Int32) := (if i0 < 40 then some ((((gi M (33 + i0) 4) - (gi M (33 + i0) 5)) - (gi M (33 + i0) 6)) - (gi M (33 + i0) 7)) else none)
set_option maxRecDepth 20000 in
theorem iX0_inPipe_X0 : ∀ w ∈ wsX00, w ∈ wsX0_inPipe := by decide +kernel
set_option maxRecDepth 20000 in
theorem kX0_inPipe_0 : Cond.fieldLink RX0 25 "BatchPipe$Batch" "entered" "I" ∈ wsX0_inPipe := by decide +kernel
set_option maxRecDepth 20000 in
theorem kX0_inPipe_1 : Cond.fieldLink RX0 28 "BatchPipe$Batch" "left" "I" ∈ wsX0_inPipe := by decide +kernel
set_option maxRecDepth 20000 in
theorem kX0_inPipe_2 : Cond.fieldLink RX0 31 "BatchPipe$Batch" "dropped" "I" ∈ wsX0_inPipe := by decide +kernel
set_option maxRecDepth 20000 in
theorem kX0_inPipe_3 : Cond.fieldLink RX0 34 "BatchPipe$Batch" "leaked" "I" ∈ wsX0_inPipe := by decide +kernel
set_option maxRecDepth 100000 in
set_option maxHeartbeats 4000000 in
theorem bX0_inPipe_0 {p : Program} {l : Launch} {e : Env} {s : State} {m : MethodId} {args : Array Value} {below : List Frame} {meth : Method} {c : Code} {D : va_G} {cy : Nat → ClassId} {a : Nat} (hx : p.tables.exec = Jvm.exec) (hb : c.code = cX0_inPipe) (hr : meth.sig.returnType = (some .int)) (hml : c.maxLocals = 1) (hown : s.vm.findClass RX0 = some m.cls) (hts : ∀ w ∈ wsX0_inPipe, w.before args s = true) (hlocks : meth.locks = false) (hK : KS D cy s) (hZ : ZZ a s s.heap) {out : Int32} : ∀ (i0 : Nat) (M : Mm) (H : Heap) (locs : List Loc) (ls : Array Slot), HP D cy a M H → va_S (Aq a) s.heap H locs → lv_has ls 1 [(0, .ref (a + (33 + i0)))] → fX0_inPipe i0 M = some out → W p l e rX0_inPipe s m args below meth c H locs 0 0 (MQ below (QI D cy a out M) args s 0 0 (Aq a)) (F0 m 0 ls []) := by
  intro i0 M H locs ls hw hS hl hf
  unfold fX0_inPipe at hf
  refine lv_aload_n hx hb dX0_inPipe_0 rfl (lv_at hl 0 rfl) ?_
  obtain ⟨hi1, hf⟩ := og hf
  refine rGetI hx hb hts iX0_inPipe_X0 hown hK hw (kbat hi1) (en_bat hi1) rfl 4 (by decide) (hts _ kX0_inPipe_0) rfl ge0_4 dX0_inPipe_1 ?_
  refine lv_aload_n hx hb dX0_inPipe_4 rfl (lv_at hl 0 rfl) ?_
  refine rGetI hx hb hts iX0_inPipe_X0 hown hK hw (kbat hi1) (en_bat hi1) rfl 5 (by decide) (hts _ kX0_inPipe_1) rfl ge0_5 dX0_inPipe_5 ?_
  refine lv_isub hx hb dX0_inPipe_8 ?_
  refine lv_aload_n hx hb dX0_inPipe_9 rfl (lv_at hl 0 rfl) ?_
  refine rGetI hx hb hts iX0_inPipe_X0 hown hK hw (kbat hi1) (en_bat hi1) rfl 6 (by decide) (hts _ kX0_inPipe_2) rfl ge0_6 dX0_inPipe_10 ?_
  refine lv_isub hx hb dX0_inPipe_13 ?_
  refine lv_aload_n hx hb dX0_inPipe_14 rfl (lv_at hl 0 rfl) ?_
  refine rGetI hx hb hts iX0_inPipe_X0 hown hK hw (kbat hi1) (en_bat hi1) rfl 7 (by decide) (hts _ kX0_inPipe_3) rfl ge0_7 dX0_inPipe_15 ?_
  refine lv_isub hx hb dX0_inPipe_18 ?_
  obtain rfl := Option.some.inj hf
  exact rIret hx hb hr hlocks hw hS dX0_inPipe_19
set_option maxRecDepth 100000 in
set_option maxHeartbeats 4000000 in
theorem ctX0_inPipe {l : Launch} {D : va_G} {cy : Nat → ClassId} {a : Nat} {i0 : Nat} {M : Mm} {out : Int32} (hf : fX0_inPipe i0 M = some out) : Met l yX0_inPipe wsX0_inPipe rX0_inPipe (Pre D cy a M [.ref (a + (33 + i0))]) (QI D cy a out M) 0 0 (Aq a) := by
  refine Met.ofW (cc := cX0_inPipe) (maxL := 1) (ret := (some .int)) (by decide +kernel) rfl ?_
  intro p e s m args below meth c s₁ B hml hv
  obtain ⟨rfl, hw, hK, hZ⟩ := hv
  have hS : va_S (Aq a) s.heap s.heap [] := va_S.rf
  have hl := lv_entry ([.ref (a + (33 + i0))]) (n := 1) (Nat.le_of_ble_eq_true rfl)
  rw [lg_entry_eq]
  generalize (lg_sl ([.ref (a + (33 + i0))]) ++ List.replicate (1 - (lg_sl ([.ref (a + (33 + i0))])).length) Slot.unset).toArray = ls at hl ⊢
  exact bX0_inPipe_0 B.exec B.bytes B.returns hml (findClass_of_methodNamed B.named) (atoms_spec (ws := wsX0_inPipe) B.pre) B.notSynchronized hK hZ _ _ _ _ _ hw hS hl hf
def rX0_waiting : Room := { frames := 0, cells := 0, slots := 0, locals := 0 }
noncomputable def fX0_waiting (i0 : Nat) (M : Mm) : Option (Int32) := (if i0 < 40 then some ((gi M (33 + i0) 3) - (gi M (33 + i0) 4)) else none)
set_option maxRecDepth 20000 in
theorem iX0_waiting_X0 : ∀ w ∈ wsX00, w ∈ wsX0_waiting := by decide +kernel
set_option maxRecDepth 20000 in
theorem kX0_waiting_0 : Cond.fieldLink RX0 22 "BatchPipe$Batch" "ordered" "I" ∈ wsX0_waiting := by decide +kernel
set_option maxRecDepth 20000 in
theorem kX0_waiting_1 : Cond.fieldLink RX0 25 "BatchPipe$Batch" "entered" "I" ∈ wsX0_waiting := by decide +kernel
set_option maxRecDepth 100000 in
set_option maxHeartbeats 4000000 in
theorem bX0_waiting_0 {p : Program} {l : Launch} {e : Env} {s : State} {m : MethodId} {args : Array Value} {below : List Frame} {meth : Method} {c : Code} {D : va_G} {cy : Nat → ClassId} {a : Nat} (hx : p.tables.exec = Jvm.exec) (hb : c.code = cX0_waiting) (hr : meth.sig.returnType = (some .int)) (hml : c.maxLocals = 1) (hown : s.vm.findClass RX0 = some m.cls) (hts : ∀ w ∈ wsX0_waiting, w.before args s = true) (hlocks : meth.locks = false) (hK : KS D cy s) (hZ : ZZ a s s.heap) {out : Int32} : ∀ (i0 : Nat) (M : Mm) (H : Heap) (locs : List Loc) (ls : Array Slot), HP D cy a M H → va_S (Aq a) s.heap H locs → lv_has ls 1 [(0, .ref (a + (33 + i0)))] → fX0_waiting i0 M = some out → W p l e rX0_waiting s m args below meth c H locs 0 0 (MQ below (QI D cy a out M) args s 0 0 (Aq a)) (F0 m 0 ls []) := by
  intro i0 M H locs ls hw hS hl hf
  unfold fX0_waiting at hf
  refine lv_aload_n hx hb dX0_waiting_0 rfl (lv_at hl 0 rfl) ?_
  obtain ⟨hi1, hf⟩ := og hf
  refine rGetI hx hb hts iX0_waiting_X0 hown hK hw (kbat hi1) (en_bat hi1) rfl 3 (by decide) (hts _ kX0_waiting_0) rfl ge0_3 dX0_waiting_1 ?_
  refine lv_aload_n hx hb dX0_waiting_4 rfl (lv_at hl 0 rfl) ?_
  refine rGetI hx hb hts iX0_waiting_X0 hown hK hw (kbat hi1) (en_bat hi1) rfl 4 (by decide) (hts _ kX0_waiting_1) rfl ge0_4 dX0_waiting_5 ?_
  refine lv_isub hx hb dX0_waiting_8 ?_
  obtain rfl := Option.some.inj hf
  exact rIret hx hb hr hlocks hw hS dX0_waiting_9
set_option maxRecDepth 100000 in
set_option maxHeartbeats 4000000 in
theorem ctX0_waiting {l : Launch} {D : va_G} {cy : Nat → ClassId} {a : Nat} {i0 : Nat} {M : Mm} {out : Int32} (hf : fX0_waiting i0 M = some out) : Met l yX0_waiting wsX0_waiting rX0_waiting (Pre D cy a M [.ref (a + (33 + i0))]) (QI D cy a out M) 0 0 (Aq a) := by
  refine Met.ofW (cc := cX0_waiting) (maxL := 1) (ret := (some .int)) (by decide +kernel) rfl ?_
  intro p e s m args below meth c s₁ B hml hv
  obtain ⟨rfl, hw, hK, hZ⟩ := hv
  have hS : va_S (Aq a) s.heap s.heap [] := va_S.rf
  have hl := lv_entry ([.ref (a + (33 + i0))]) (n := 1) (Nat.le_of_ble_eq_true rfl)
  rw [lg_entry_eq]
  generalize (lg_sl ([.ref (a + (33 + i0))]) ++ List.replicate (1 - (lg_sl ([.ref (a + (33 + i0))])).length) Slot.unset).toArray = ls at hl ⊢
  exact bX0_waiting_0 B.exec B.bytes B.returns hml (findClass_of_methodNamed B.named) (atoms_spec (ws := wsX0_waiting) B.pre) B.notSynchronized hK hZ _ _ _ _ _ hw hS hl hf
def rX1_tell : Room := { frames := 0, cells := 0, slots := 0, locals := 0 }
noncomputable def fX1_tell (i0 : Nat) (x1 : Int32) (x2 : Int32) (x3 : Int32) (x4 : Int32) (M : Mm) : Option (Mm) := (if i0 < 6 then some (si (si (si (si M (27 + i0) 1 x1) (27 + i0) 2 x2) (27 + i0) 3 x3) (27 + i0) 4 x4) else none)
set_option maxRecDepth 20000 in
theorem iX1_tell_X1 : ∀ w ∈ wsX10, w ∈ wsX1_tell := by decide +kernel
set_option maxRecDepth 20000 in
theorem kX1_tell_0 : Cond.fieldLink RX1 7 "BatchPipe$Product" "weight" "I" ∈ wsX1_tell := by decide +kernel
set_option maxRecDepth 20000 in
theorem kX1_tell_1 : Cond.fieldLink RX1 13 "BatchPipe$Product" "thickness" "I" ∈ wsX1_tell := by decide +kernel
set_option maxRecDepth 20000 in
theorem kX1_tell_2 : Cond.fieldLink RX1 19 "BatchPipe$Product" "grade" "I" ∈ wsX1_tell := by decide +kernel
set_option maxRecDepth 20000 in
theorem kX1_tell_3 : Cond.fieldLink RX1 22 "BatchPipe$Product" "barred" "I" ∈ wsX1_tell := by decide +kernel
set_option maxRecDepth 100000 in
set_option maxHeartbeats 4000000 in
theorem bX1_tell_0 {p : Program} {l : Launch} {e : Env} {s : State} {m : MethodId} {args : Array Value} {below : List Frame} {meth : Method} {c : Code} {D : va_G} {cy : Nat → ClassId} {a : Nat} (hx : p.tables.exec = Jvm.exec) (hb : c.code = cX1_tell) (hr : meth.sig.returnType = none) (hml : c.maxLocals = 5) (hown : s.vm.findClass RX1 = some m.cls) (hts : ∀ w ∈ wsX1_tell, w.before args s = true) (hlocks : meth.locks = false) (hK : KS D cy s) (hZ : ZZ a s s.heap) {out : Mm} : ∀ (i0 : Nat) (x1 : Int32) (x2 : Int32) (x3 : Int32) (x4 : Int32) (M : Mm) (H : Heap) (locs : List Loc) (ls : Array Slot), HP D cy a M H → va_S (Aq a) s.heap H locs → lv_has ls 5 [(0, .ref (a + (27 + i0))), (1, .int x1), (2, .int x2), (3, .int x3), (4, .int x4)] → fX1_tell i0 x1 x2 x3 x4 M = some out → W p l e rX1_tell s m args below meth c H locs 0 0 (MQ below (QV D cy a out) args s 0 0 (Aq a)) (F0 m 0 ls []) := by
  intro i0 x1 x2 x3 x4 M H locs ls hw hS hl hf
  unfold fX1_tell at hf
  refine lv_aload_n hx hb dX1_tell_0 rfl (lv_at hl 0 rfl) ?_
  refine lv_iload_n hx hb dX1_tell_1 rfl (lv_at hl 1 rfl) ?_
  obtain ⟨hi1, hf⟩ := og hf
  refine rPut hx hb hts iX1_tell_X1 tyX1 tyX1_ok nmX1 hown hK hw hS (kprod hi1) (en_prod hi1) rfl 1 (by decide) (hts _ kX1_tell_0) rfl rfl rfl rfl (Nat.le_of_ble_eq_true rfl) (hs1_1 hi1) dX1_tell_2 (fun H locs hw hS => ?_)
  refine lv_aload_n hx hb dX1_tell_5 rfl (lv_at hl 0 rfl) ?_
  refine lv_iload_n hx hb dX1_tell_6 rfl (lv_at hl 2 rfl) ?_
  refine rPut hx hb hts iX1_tell_X1 tyX1 tyX1_ok nmX1 hown hK hw hS (kprod hi1) (en_prod hi1) rfl 2 (by decide) (hts _ kX1_tell_1) rfl rfl rfl rfl (Nat.le_of_ble_eq_true rfl) (hs1_2 hi1) dX1_tell_7 (fun H locs hw hS => ?_)
  refine lv_aload_n hx hb dX1_tell_10 rfl (lv_at hl 0 rfl) ?_
  refine lv_iload_n hx hb dX1_tell_11 rfl (lv_at hl 3 rfl) ?_
  refine rPut hx hb hts iX1_tell_X1 tyX1 tyX1_ok nmX1 hown hK hw hS (kprod hi1) (en_prod hi1) rfl 3 (by decide) (hts _ kX1_tell_2) rfl rfl rfl rfl (Nat.le_of_ble_eq_true rfl) (hs1_3 hi1) dX1_tell_12 (fun H locs hw hS => ?_)
  refine lv_aload_n hx hb dX1_tell_15 rfl (lv_at hl 0 rfl) ?_
  refine lv_iload hx hb dX1_tell_16 (lv_at hl 4 rfl) ?_
  refine rPut hx hb hts iX1_tell_X1 tyX1 tyX1_ok nmX1 hown hK hw hS (kprod hi1) (en_prod hi1) rfl 4 (by decide) (hts _ kX1_tell_3) rfl rfl rfl rfl (Nat.le_of_ble_eq_true rfl) (hs1_4 hi1) dX1_tell_18 (fun H locs hw hS => ?_)
  obtain rfl := Option.some.inj hf
  exact rVret hx hb hr hlocks hw hS dX1_tell_21
set_option maxRecDepth 100000 in
set_option maxHeartbeats 4000000 in
theorem ctX1_tell {l : Launch} {D : va_G} {cy : Nat → ClassId} {a : Nat} {i0 : Nat} {x1 : Int32} {x2 : Int32} {x3 : Int32} {x4 : Int32} {M : Mm} {out : Mm} (hf : fX1_tell i0 x1 x2 x3 x4 M = some out) : Met l yX1_tell wsX1_tell rX1_tell (Pre D cy a M [.ref (a + (27 + i0)), .int x1, .int x2, .int x3, .int x4]) (QV D cy a out) 0 0 (Aq a) := by
  refine Met.ofW (cc := cX1_tell) (maxL := 5) (ret := none) (by decide +kernel) rfl ?_
  intro p e s m args below meth c s₁ B hml hv
  obtain ⟨rfl, hw, hK, hZ⟩ := hv
  have hS : va_S (Aq a) s.heap s.heap [] := va_S.rf
  have hl := lv_entry ([.ref (a + (27 + i0)), .int x1, .int x2, .int x3, .int x4]) (n := 5) (Nat.le_of_ble_eq_true rfl)
  rw [lg_entry_eq]
  generalize (lg_sl ([.ref (a + (27 + i0)), .int x1, .int x2, .int x3, .int x4]) ++ List.replicate (5 - (lg_sl ([.ref (a + (27 + i0)), .int x1, .int x2, .int x3, .int x4])).length) Slot.unset).toArray = ls at hl ⊢
  exact bX1_tell_0 B.exec B.bytes B.returns hml (findClass_of_methodNamed B.named) (atoms_spec (ws := wsX1_tell) B.pre) B.notSynchronized hK hZ _ _ _ _ _ _ _ _ _ hw hS hl hf
def rX1_bears : Room := { frames := 0, cells := 0, slots := 0, locals := 0 }
noncomputable def fX1_bears (i0 : Nat) (i1 : Nat) (M : Mm) : Option (Int32) := (if i0 < 6 then (if i1 < 6 then (if ((gi M (27 + i0) 4) &&& (ishl (1 : Int32) (gi M (27 + i1) 0))) = 0 then (if ((gi M (27 + i1) 4) &&& (ishl (1 : Int32) (gi M (27 + i0) 0))) = 0 then some ((1 : Int32)) else some ((0 : Int32))) else some ((0 : Int32))) else none) else none)
set_option maxRecDepth 20000 in
theorem iX1_bears_X1 : ∀ w ∈ wsX10, w ∈ wsX1_bears := by decide +kernel
set_option maxRecDepth 20000 in
theorem kX1_bears_0 : Cond.fieldLink RX1 22 "BatchPipe$Product" "barred" "I" ∈ wsX1_bears := by decide +kernel
set_option maxRecDepth 20000 in
theorem kX1_bears_1 : Cond.fieldLink RX1 16 "BatchPipe$Product" "number" "I" ∈ wsX1_bears := by decide +kernel
set_option maxRecDepth 100000 in
set_option maxHeartbeats 4000000 in
theorem bX1_bears_0 {p : Program} {l : Launch} {e : Env} {s : State} {m : MethodId} {args : Array Value} {below : List Frame} {meth : Method} {c : Code} {D : va_G} {cy : Nat → ClassId} {a : Nat} (hx : p.tables.exec = Jvm.exec) (hb : c.code = cX1_bears) (hr : meth.sig.returnType = (some .boolean)) (hml : c.maxLocals = 2) (hown : s.vm.findClass RX1 = some m.cls) (hts : ∀ w ∈ wsX1_bears, w.before args s = true) (hlocks : meth.locks = false) (hK : KS D cy s) (hZ : ZZ a s s.heap) {out : Int32} : ∀ (i0 : Nat) (i1 : Nat) (M : Mm) (H : Heap) (locs : List Loc) (ls : Array Slot), HP D cy a M H → va_S (Aq a) s.heap H locs → lv_has ls 2 [(0, .ref (a + (27 + i0))), (1, .ref (a + (27 + i1)))] → fX1_bears i0 i1 M = some out → W p l e rX1_bears s m args below meth c H locs 0 0 (MQ below (QB D cy a out M) args s 0 0 (Aq a)) (F0 m 0 ls []) := by
  intro i0 i1 M H locs ls hw hS hl hf
  unfold fX1_bears at hf
  refine lv_aload_n hx hb dX1_bears_0 rfl (lv_at hl 0 rfl) ?_
  obtain ⟨hi1, hf⟩ := og hf
  refine rGetI hx hb hts iX1_bears_X1 hown hK hw (kprod hi1) (en_prod hi1) rfl 4 (by decide) (hts _ kX1_bears_0) rfl ge1_4 dX1_bears_1 ?_
  refine lv_iconst (v := (1 : Int32)) hx hb dX1_bears_4 (by decide) ?_
  refine lv_aload_n hx hb dX1_bears_5 rfl (lv_at hl 1 rfl) ?_
  obtain ⟨hi2, hf⟩ := og hf
  refine rGetI hx hb hts iX1_bears_X1 hown hK hw (kprod hi2) (en_prod hi2) rfl 0 (by decide) (hts _ kX1_bears_1) rfl ge1_0 dX1_bears_6 ?_
  refine lv_ishl hx hb dX1_bears_9 ?_
  refine lv_iand hx hb dX1_bears_10 ?_
  refine lv_if_ne (tgt := 32) hx hb dX1_bears_11 (by decide) (fun c3 => ?_) (fun c3 => ?_)
  · have hf := iq c3 hf
    refine lv_iconst (v := (0 : Int32)) hx hb dX1_bears_32 (by decide) ?_
    obtain rfl := Option.some.inj hf
    exact rBret (x := (0 : Int32)) hx hb hr hlocks hw hS rfl dX1_bears_33
  · have hf := ip c3 hf
    refine lv_aload_n hx hb dX1_bears_14 rfl (lv_at hl 1 rfl) ?_
    refine rGetI hx hb hts iX1_bears_X1 hown hK hw (kprod hi2) (en_prod hi2) rfl 4 (by decide) (hts _ kX1_bears_0) rfl ge1_4 dX1_bears_15 ?_
    refine lv_iconst (v := (1 : Int32)) hx hb dX1_bears_18 (by decide) ?_
    refine lv_aload_n hx hb dX1_bears_19 rfl (lv_at hl 0 rfl) ?_
    refine rGetI hx hb hts iX1_bears_X1 hown hK hw (kprod hi1) (en_prod hi1) rfl 0 (by decide) (hts _ kX1_bears_1) rfl ge1_0 dX1_bears_20 ?_
    refine lv_ishl hx hb dX1_bears_23 ?_
    refine lv_iand hx hb dX1_bears_24 ?_
    refine lv_if_ne (tgt := 32) hx hb dX1_bears_25 (by decide) (fun c4 => ?_) (fun c4 => ?_)
    · have hf := iq c4 hf
      refine lv_iconst (v := (0 : Int32)) hx hb dX1_bears_32 (by decide) ?_
      obtain rfl := Option.some.inj hf
      exact rBret (x := (0 : Int32)) hx hb hr hlocks hw hS rfl dX1_bears_33
    · have hf := ip c4 hf
      refine lv_iconst (v := (1 : Int32)) hx hb dX1_bears_28 (by decide) ?_
      refine lv_goto (tgt := 33) hx hb dX1_bears_29 (by decide) ?_
      obtain rfl := Option.some.inj hf
      exact rBret (x := (1 : Int32)) hx hb hr hlocks hw hS rfl dX1_bears_33
set_option maxRecDepth 100000 in
set_option maxHeartbeats 4000000 in
theorem ctX1_bears {l : Launch} {D : va_G} {cy : Nat → ClassId} {a : Nat} {i0 : Nat} {i1 : Nat} {M : Mm} {out : Int32} (hf : fX1_bears i0 i1 M = some out) : Met l yX1_bears wsX1_bears rX1_bears (Pre D cy a M [.ref (a + (27 + i0)), .ref (a + (27 + i1))]) (QB D cy a out M) 0 0 (Aq a) := by
  refine Met.ofW (cc := cX1_bears) (maxL := 2) (ret := (some .boolean)) (by decide +kernel) rfl ?_
  intro p e s m args below meth c s₁ B hml hv
  obtain ⟨rfl, hw, hK, hZ⟩ := hv
  have hS : va_S (Aq a) s.heap s.heap [] := va_S.rf
  have hl := lv_entry ([.ref (a + (27 + i0)), .ref (a + (27 + i1))]) (n := 2) (Nat.le_of_ble_eq_true rfl)
  rw [lg_entry_eq]
  generalize (lg_sl ([.ref (a + (27 + i0)), .ref (a + (27 + i1))]) ++ List.replicate (2 - (lg_sl ([.ref (a + (27 + i0)), .ref (a + (27 + i1))])).length) Slot.unset).toArray = ls at hl ⊢
  exact bX1_bears_0 B.exec B.bytes B.returns hml (findClass_of_methodNamed B.named) (atoms_spec (ws := wsX1_bears) B.pre) B.notSynchronized hK hZ _ _ _ _ _ _ hw hS hl hf
def rX2_tell : Room := { frames := 0, cells := 0, slots := 0, locals := 0 }
noncomputable def fX2_tell (i0 : Nat) (x1 : Int32) (x2 : Int32) (x3 : Int32) (M : Mm) : Option (Mm) := (if i0 < 6 then some (si (si (si M (9 + 3 * i0) 3 x1) (9 + 3 * i0) 4 x2) (9 + 3 * i0) 5 x3) else none)
set_option maxRecDepth 20000 in
theorem iX2_tell_X2 : ∀ w ∈ wsX20, w ∈ wsX2_tell := by decide +kernel
set_option maxRecDepth 20000 in
theorem kX2_tell_0 : Cond.fieldLink RX2 18 "BatchPipe$Segment" "holds" "I" ∈ wsX2_tell := by decide +kernel
set_option maxRecDepth 20000 in
theorem kX2_tell_1 : Cond.fieldLink RX2 22 "BatchPipe$Segment" "height" "I" ∈ wsX2_tell := by decide +kernel
set_option maxRecDepth 20000 in
theorem kX2_tell_2 : Cond.fieldLink RX2 25 "BatchPipe$Segment" "limit" "I" ∈ wsX2_tell := by decide +kernel
set_option maxRecDepth 100000 in
set_option maxHeartbeats 4000000 in
theorem bX2_tell_0 {p : Program} {l : Launch} {e : Env} {s : State} {m : MethodId} {args : Array Value} {below : List Frame} {meth : Method} {c : Code} {D : va_G} {cy : Nat → ClassId} {a : Nat} (hx : p.tables.exec = Jvm.exec) (hb : c.code = cX2_tell) (hr : meth.sig.returnType = none) (hml : c.maxLocals = 4) (hown : s.vm.findClass RX2 = some m.cls) (hts : ∀ w ∈ wsX2_tell, w.before args s = true) (hlocks : meth.locks = false) (hK : KS D cy s) (hZ : ZZ a s s.heap) {out : Mm} : ∀ (i0 : Nat) (x1 : Int32) (x2 : Int32) (x3 : Int32) (M : Mm) (H : Heap) (locs : List Loc) (ls : Array Slot), HP D cy a M H → va_S (Aq a) s.heap H locs → lv_has ls 4 [(0, .ref (a + (9 + 3 * i0))), (1, .int x1), (2, .int x2), (3, .int x3)] → fX2_tell i0 x1 x2 x3 M = some out → W p l e rX2_tell s m args below meth c H locs 0 0 (MQ below (QV D cy a out) args s 0 0 (Aq a)) (F0 m 0 ls []) := by
  intro i0 x1 x2 x3 M H locs ls hw hS hl hf
  unfold fX2_tell at hf
  refine lv_aload_n hx hb dX2_tell_0 rfl (lv_at hl 0 rfl) ?_
  refine lv_iload_n hx hb dX2_tell_1 rfl (lv_at hl 1 rfl) ?_
  obtain ⟨hi1, hf⟩ := og hf
  refine rPut hx hb hts iX2_tell_X2 tyX2 tyX2_ok nmX2 hown hK hw hS (kseg hi1) (en_seg hi1) rfl 3 (by decide) (hts _ kX2_tell_0) rfl rfl rfl rfl (Nat.le_of_ble_eq_true rfl) (hs2_3 hi1) dX2_tell_2 (fun H locs hw hS => ?_)
  refine lv_aload_n hx hb dX2_tell_5 rfl (lv_at hl 0 rfl) ?_
  refine lv_iload_n hx hb dX2_tell_6 rfl (lv_at hl 2 rfl) ?_
  refine rPut hx hb hts iX2_tell_X2 tyX2 tyX2_ok nmX2 hown hK hw hS (kseg hi1) (en_seg hi1) rfl 4 (by decide) (hts _ kX2_tell_1) rfl rfl rfl rfl (Nat.le_of_ble_eq_true rfl) (hs2_4 hi1) dX2_tell_7 (fun H locs hw hS => ?_)
  refine lv_aload_n hx hb dX2_tell_10 rfl (lv_at hl 0 rfl) ?_
  refine lv_iload_n hx hb dX2_tell_11 rfl (lv_at hl 3 rfl) ?_
  refine rPut hx hb hts iX2_tell_X2 tyX2 tyX2_ok nmX2 hown hK hw hS (kseg hi1) (en_seg hi1) rfl 5 (by decide) (hts _ kX2_tell_2) rfl rfl rfl rfl (Nat.le_of_ble_eq_true rfl) (hs2_5 hi1) dX2_tell_12 (fun H locs hw hS => ?_)
  obtain rfl := Option.some.inj hf
  exact rVret hx hb hr hlocks hw hS dX2_tell_15
set_option maxRecDepth 100000 in
set_option maxHeartbeats 4000000 in
theorem ctX2_tell {l : Launch} {D : va_G} {cy : Nat → ClassId} {a : Nat} {i0 : Nat} {x1 : Int32} {x2 : Int32} {x3 : Int32} {M : Mm} {out : Mm} (hf : fX2_tell i0 x1 x2 x3 M = some out) : Met l yX2_tell wsX2_tell rX2_tell (Pre D cy a M [.ref (a + (9 + 3 * i0)), .int x1, .int x2, .int x3]) (QV D cy a out) 0 0 (Aq a) := by
  refine Met.ofW (cc := cX2_tell) (maxL := 4) (ret := none) (by decide +kernel) rfl ?_
  intro p e s m args below meth c s₁ B hml hv
  obtain ⟨rfl, hw, hK, hZ⟩ := hv
  have hS : va_S (Aq a) s.heap s.heap [] := va_S.rf
  have hl := lv_entry ([.ref (a + (9 + 3 * i0)), .int x1, .int x2, .int x3]) (n := 4) (Nat.le_of_ble_eq_true rfl)
  rw [lg_entry_eq]
  generalize (lg_sl ([.ref (a + (9 + 3 * i0)), .int x1, .int x2, .int x3]) ++ List.replicate (4 - (lg_sl ([.ref (a + (9 + 3 * i0)), .int x1, .int x2, .int x3])).length) Slot.unset).toArray = ls at hl ⊢
  exact bX2_tell_0 B.exec B.bytes B.returns hml (findClass_of_methodNamed B.named) (atoms_spec (ws := wsX2_tell) B.pre) B.notSynchronized hK hZ _ _ _ _ _ _ _ _ hw hS hl hf
def rX2_fill : Room := { frames := 0, cells := 0, slots := 0, locals := 0 }
noncomputable def fX2_fill_L2 : Nat → Nat → Int32 → Int32 → Int32 → Mm → Option (Mm)
  | 0 => fun _ _ _ _ _ => none
  | n + 1 => fun i0 x1 x2 x3 M => (if i0 < 6 then (if (gi M (9 + 3 * i0) 3) ≤ x3 then (if ¬ (x2 < 0 ∨ 6 ≤ x2.toNatClampNeg) then some (si M (11 + 3 * i0) x2.toNatClampNeg (gi M (9 + 3 * i0) 3)) else none) else (if ¬ (x3 < 0 ∨ 60 ≤ x3.toNatClampNeg) then (fX2_fill_L2 n) i0 x1 x2 (x3 + (1 : Int32)) (si M (10 + 3 * i0) x3.toNatClampNeg (x1 + x3)) else none)) else none)
noncomputable def fX2_fill (i0 : Nat) (x1 : Int32) (x2 : Int32) (M : Mm) : Option (Mm) := fX2_fill_L2 400 i0 x1 x2 (0 : Int32) M
set_option maxRecDepth 20000 in
theorem iX2_fill_X2 : ∀ w ∈ wsX20, w ∈ wsX2_fill := by decide +kernel
set_option maxRecDepth 20000 in
theorem kX2_fill_0 : Cond.fieldLink RX2 18 "BatchPipe$Segment" "holds" "I" ∈ wsX2_fill := by decide +kernel
set_option maxRecDepth 20000 in
theorem kX2_fill_1 : Cond.fieldLink RX2 15 "BatchPipe$Segment" "unitsOf" "[I" ∈ wsX2_fill := by decide +kernel
set_option maxRecDepth 20000 in
theorem kX2_fill_2 : Cond.fieldLink RX2 9 "BatchPipe$Segment" "ring" "[I" ∈ wsX2_fill := by decide +kernel
set_option maxRecDepth 100000 in
set_option maxHeartbeats 4000000 in
theorem bX2_fill_2 {p : Program} {l : Launch} {e : Env} {s : State} {m : MethodId} {args : Array Value} {below : List Frame} {meth : Method} {c : Code} {D : va_G} {cy : Nat → ClassId} {a : Nat} (hx : p.tables.exec = Jvm.exec) (hb : c.code = cX2_fill) (hr : meth.sig.returnType = none) (hml : c.maxLocals = 4) (hown : s.vm.findClass RX2 = some m.cls) (hts : ∀ w ∈ wsX2_fill, w.before args s = true) (hlocks : meth.locks = false) (hK : KS D cy s) (hZ : ZZ a s s.heap) {out : Mm} : ∀ (n : Nat), ∀ (i0 : Nat) (x1 : Int32) (x2 : Int32) (x3 : Int32) (M : Mm) (H : Heap) (locs : List Loc) (ls : Array Slot), HP D cy a M H → va_S (Aq a) s.heap H locs → lv_has ls 4 [(0, .ref (a + (9 + 3 * i0))), (1, .int x1), (2, .int x2), (3, .int x3)] → fX2_fill_L2 n i0 x1 x2 x3 M = some out → W p l e rX2_fill s m args below meth c H locs 0 0 (MQ below (QV D cy a out) args s 0 0 (Aq a)) (F0 m 2 ls []) := by
  intro n
  induction n with
  | zero =>
    intro i0 x1 x2 x3 M H locs ls hw hS hl hf
    have hf : (none : Option (Mm)) = some out := hf
    cases hf
  | succ n ih =>
    intro i0 x1 x2 x3 M H locs ls hw hS hl hf
    unfold fX2_fill_L2 at hf
    refine lv_iload_n hx hb dX2_fill_2 rfl (lv_at hl 3 rfl) ?_
    refine lv_aload_n hx hb dX2_fill_3 rfl (lv_at hl 0 rfl) ?_
    obtain ⟨hi1, hf⟩ := og hf
    refine rGetI hx hb hts iX2_fill_X2 hown hK hw (kseg hi1) (en_seg hi1) rfl 3 (by decide) (hts _ kX2_fill_0) rfl ge2_3 dX2_fill_4 ?_
    refine lv_icmp_ge (tgt := 25) hx hb dX2_fill_7 (by decide) (fun c2 => ?_) (fun c2 => ?_)
    · have hf := ip c2 hf
      refine lv_aload_n hx hb dX2_fill_25 rfl (lv_at hl 0 rfl) ?_
      refine rGet hx hb hts iX2_fill_X2 hown hK hw (kseg hi1) (en_seg hi1) rfl 1 (by decide) (hts _ kX2_fill_1) rfl rfl dX2_fill_26 ?_
      refine lv_iload_n hx hb dX2_fill_29 rfl (lv_at hl 2 rfl) ?_
      refine lv_aload_n hx hb dX2_fill_30 rfl (lv_at hl 0 rfl) ?_
      refine rGetI hx hb hts iX2_fill_X2 hown hK hw (kseg hi1) (en_seg hi1) rfl 3 (by decide) (hts _ kX2_fill_0) rfl ge2_3 dX2_fill_31 ?_
      obtain ⟨hg3, hf⟩ := og hf
      refine rIast hx hb hK hw hS (kuof hi1) (fun _ => (en_uof hi1)) hg3 dX2_fill_34 (fun H locs hw hS => ?_)
      obtain rfl := Option.some.inj hf
      exact rVret hx hb hr hlocks hw hS dX2_fill_35
    · have hf := iq c2 hf
      refine lv_aload_n hx hb dX2_fill_10 rfl (lv_at hl 0 rfl) ?_
      refine rGet hx hb hts iX2_fill_X2 hown hK hw (kseg hi1) (en_seg hi1) rfl 0 (by decide) (hts _ kX2_fill_2) rfl rfl dX2_fill_11 ?_
      refine lv_iload_n hx hb dX2_fill_14 rfl (lv_at hl 3 rfl) ?_
      refine lv_iload_n hx hb dX2_fill_15 rfl (lv_at hl 1 rfl) ?_
      refine lv_iload_n hx hb dX2_fill_16 rfl (lv_at hl 3 rfl) ?_
      refine lv_iadd hx hb dX2_fill_17 ?_
      obtain ⟨hg4, hf⟩ := og hf
      refine rIast hx hb hK hw hS (kring hi1) (fun _ => (en_ring hi1)) hg4 dX2_fill_18 (fun H locs hw hS => ?_)
      refine lv_iinc (v := x3 + (1 : Int32)) (lv' := [(3, .int (x3 + (1 : Int32))), (0, .ref (a + (9 + 3 * i0))), (1, .int x1), (2, .int x2)]) hx hb dX2_fill_19 hl (k := 3) rfl rfl (Nat.le_of_ble_eq_true rfl) rfl (fun ls hl => ?_)
      refine lv_goto (tgt := 2) hx hb dX2_fill_22 (by decide) ?_
      exact ih _ _ _ _ _ _ _ _ hw hS (lv_sub hl [1, 2, 3, 0] rfl) hf
set_option maxRecDepth 100000 in
set_option maxHeartbeats 4000000 in
theorem bX2_fill_0 {p : Program} {l : Launch} {e : Env} {s : State} {m : MethodId} {args : Array Value} {below : List Frame} {meth : Method} {c : Code} {D : va_G} {cy : Nat → ClassId} {a : Nat} (hx : p.tables.exec = Jvm.exec) (hb : c.code = cX2_fill) (hr : meth.sig.returnType = none) (hml : c.maxLocals = 4) (hown : s.vm.findClass RX2 = some m.cls) (hts : ∀ w ∈ wsX2_fill, w.before args s = true) (hlocks : meth.locks = false) (hK : KS D cy s) (hZ : ZZ a s s.heap) {out : Mm} : ∀ (i0 : Nat) (x1 : Int32) (x2 : Int32) (M : Mm) (H : Heap) (locs : List Loc) (ls : Array Slot), HP D cy a M H → va_S (Aq a) s.heap H locs → lv_has ls 4 [(0, .ref (a + (9 + 3 * i0))), (1, .int x1), (2, .int x2)] → fX2_fill i0 x1 x2 M = some out → W p l e rX2_fill s m args below meth c H locs 0 0 (MQ below (QV D cy a out) args s 0 0 (Aq a)) (F0 m 0 ls []) := by
  intro i0 x1 x2 M H locs ls hw hS hl hf
  unfold fX2_fill at hf
  refine lv_iconst (v := (0 : Int32)) hx hb dX2_fill_0 (by decide) ?_
  refine lv_istore_n (lv' := [(3, .int (0 : Int32)), (0, .ref (a + (9 + 3 * i0))), (1, .int x1), (2, .int x2)]) hx hb dX2_fill_1 rfl hl (Nat.le_of_ble_eq_true rfl) rfl (fun ls hl => ?_)
  exact bX2_fill_2 hx hb hr hml hown hts hlocks hK hZ 400 _ _ _ _ _ _ _ _ hw hS (lv_sub hl [1, 2, 3, 0] rfl) hf
set_option maxRecDepth 100000 in
set_option maxHeartbeats 4000000 in
theorem ctX2_fill {l : Launch} {D : va_G} {cy : Nat → ClassId} {a : Nat} {i0 : Nat} {x1 : Int32} {x2 : Int32} {M : Mm} {out : Mm} (hf : fX2_fill i0 x1 x2 M = some out) : Met l yX2_fill wsX2_fill rX2_fill (Pre D cy a M [.ref (a + (9 + 3 * i0)), .int x1, .int x2]) (QV D cy a out) 0 0 (Aq a) := by
  refine Met.ofW (cc := cX2_fill) (maxL := 4) (ret := none) (by decide +kernel) rfl ?_
  intro p e s m args below meth c s₁ B hml hv
  obtain ⟨rfl, hw, hK, hZ⟩ := hv
  have hS : va_S (Aq a) s.heap s.heap [] := va_S.rf
  have hl := lv_entry ([.ref (a + (9 + 3 * i0)), .int x1, .int x2]) (n := 4) (Nat.le_of_ble_eq_true rfl)
  rw [lg_entry_eq]
  generalize (lg_sl ([.ref (a + (9 + 3 * i0)), .int x1, .int x2]) ++ List.replicate (4 - (lg_sl ([.ref (a + (9 + 3 * i0)), .int x1, .int x2])).length) Slot.unset).toArray = ls at hl ⊢
  exact bX2_fill_0 B.exec B.bytes B.returns hml (findClass_of_methodNamed B.named) (atoms_spec (ws := wsX2_fill) B.pre) B.notSynchronized hK hZ _ _ _ _ _ _ _ hw hS hl hf
def rX2_fromEnd : Room := { frames := 0, cells := 0, slots := 0, locals := 0 }
noncomputable def fX2_fromEnd_b22 (i0 : Nat) (x2 : Int32) (M : Mm) : Option (Int32) := (if x2 < 0 then some ((0 : Int32)) else (if i0 < 6 then (if (gi M (9 + 3 * i0) 3) ≤ x2 then some ((0 : Int32)) else (if ¬ (x2 < 0 ∨ 60 ≤ x2.toNatClampNeg) then some (gi M (10 + 3 * i0) x2.toNatClampNeg) else none)) else none))
noncomputable def fX2_fromEnd (i0 : Nat) (x1 : Int32) (M : Mm) : Option (Int32) := (if i0 < 6 then (if ((gi M (9 + 3 * i0) 2) + x1) < (gi M (9 + 3 * i0) 3) then fX2_fromEnd_b22 i0 ((gi M (9 + 3 * i0) 2) + x1) M else fX2_fromEnd_b22 i0 (((gi M (9 + 3 * i0) 2) + x1) - (gi M (9 + 3 * i0) 3)) M) else none)
set_option maxRecDepth 20000 in
theorem iX2_fromEnd_X2 : ∀ w ∈ wsX20, w ∈ wsX2_fromEnd := by decide +kernel
set_option maxRecDepth 20000 in
theorem kX2_fromEnd_0 : Cond.fieldLink RX2 18 "BatchPipe$Segment" "holds" "I" ∈ wsX2_fromEnd := by decide +kernel
set_option maxRecDepth 20000 in
theorem kX2_fromEnd_1 : Cond.fieldLink RX2 9 "BatchPipe$Segment" "ring" "[I" ∈ wsX2_fromEnd := by decide +kernel
set_option maxRecDepth 20000 in
theorem kX2_fromEnd_2 : Cond.fieldLink RX2 28 "BatchPipe$Segment" "last" "I" ∈ wsX2_fromEnd := by decide +kernel
set_option maxRecDepth 100000 in
set_option maxHeartbeats 4000000 in
theorem bX2_fromEnd_22 {p : Program} {l : Launch} {e : Env} {s : State} {m : MethodId} {args : Array Value} {below : List Frame} {meth : Method} {c : Code} {D : va_G} {cy : Nat → ClassId} {a : Nat} (hx : p.tables.exec = Jvm.exec) (hb : c.code = cX2_fromEnd) (hr : meth.sig.returnType = (some .int)) (hml : c.maxLocals = 3) (hown : s.vm.findClass RX2 = some m.cls) (hts : ∀ w ∈ wsX2_fromEnd, w.before args s = true) (hlocks : meth.locks = false) (hK : KS D cy s) (hZ : ZZ a s s.heap) {out : Int32} : ∀ (i0 : Nat) (x2 : Int32) (M : Mm) (H : Heap) (locs : List Loc) (ls : Array Slot), HP D cy a M H → va_S (Aq a) s.heap H locs → lv_has ls 3 [(0, .ref (a + (9 + 3 * i0))), (2, .int x2)] → fX2_fromEnd_b22 i0 x2 M = some out → W p l e rX2_fromEnd s m args below meth c H locs 0 0 (MQ below (QI D cy a out M) args s 0 0 (Aq a)) (F0 m 22 ls []) := by
  intro i0 x2 M H locs ls hw hS hl hf
  unfold fX2_fromEnd_b22 at hf
  refine lv_iload_n hx hb dX2_fromEnd_22 rfl (lv_at hl 1 rfl) ?_
  refine lv_if_lt (tgt := 43) hx hb dX2_fromEnd_23 (by decide) (fun c1 => ?_) (fun c1 => ?_)
  · have hf := ip c1 hf
    refine lv_iconst (v := (0 : Int32)) hx hb dX2_fromEnd_43 (by decide) ?_
    obtain rfl := Option.some.inj hf
    exact rIret hx hb hr hlocks hw hS dX2_fromEnd_44
  · have hf := iq c1 hf
    refine lv_iload_n hx hb dX2_fromEnd_26 rfl (lv_at hl 1 rfl) ?_
    refine lv_aload_n hx hb dX2_fromEnd_27 rfl (lv_at hl 0 rfl) ?_
    obtain ⟨hi2, hf⟩ := og hf
    refine rGetI hx hb hts iX2_fromEnd_X2 hown hK hw (kseg hi2) (en_seg hi2) rfl 3 (by decide) (hts _ kX2_fromEnd_0) rfl ge2_3 dX2_fromEnd_28 ?_
    refine lv_icmp_ge (tgt := 43) hx hb dX2_fromEnd_31 (by decide) (fun c3 => ?_) (fun c3 => ?_)
    · have hf := ip c3 hf
      refine lv_iconst (v := (0 : Int32)) hx hb dX2_fromEnd_43 (by decide) ?_
      obtain rfl := Option.some.inj hf
      exact rIret hx hb hr hlocks hw hS dX2_fromEnd_44
    · have hf := iq c3 hf
      refine lv_aload_n hx hb dX2_fromEnd_34 rfl (lv_at hl 0 rfl) ?_
      refine rGet hx hb hts iX2_fromEnd_X2 hown hK hw (kseg hi2) (en_seg hi2) rfl 0 (by decide) (hts _ kX2_fromEnd_1) rfl rfl dX2_fromEnd_35 ?_
      refine lv_iload_n hx hb dX2_fromEnd_38 rfl (lv_at hl 1 rfl) ?_
      obtain ⟨hg4, hf⟩ := og hf
      refine rIald hx hb hK hw (kring hi2) (en_ring hi2) hg4 dX2_fromEnd_39 ?_
      refine lv_goto (tgt := 44) hx hb dX2_fromEnd_40 (by decide) ?_
      obtain rfl := Option.some.inj hf
      exact rIret hx hb hr hlocks hw hS dX2_fromEnd_44
set_option maxRecDepth 100000 in
set_option maxHeartbeats 4000000 in
theorem bX2_fromEnd_0 {p : Program} {l : Launch} {e : Env} {s : State} {m : MethodId} {args : Array Value} {below : List Frame} {meth : Method} {c : Code} {D : va_G} {cy : Nat → ClassId} {a : Nat} (hx : p.tables.exec = Jvm.exec) (hb : c.code = cX2_fromEnd) (hr : meth.sig.returnType = (some .int)) (hml : c.maxLocals = 3) (hown : s.vm.findClass RX2 = some m.cls) (hts : ∀ w ∈ wsX2_fromEnd, w.before args s = true) (hlocks : meth.locks = false) (hK : KS D cy s) (hZ : ZZ a s s.heap) {out : Int32} : ∀ (i0 : Nat) (x1 : Int32) (M : Mm) (H : Heap) (locs : List Loc) (ls : Array Slot), HP D cy a M H → va_S (Aq a) s.heap H locs → lv_has ls 3 [(0, .ref (a + (9 + 3 * i0))), (1, .int x1)] → fX2_fromEnd i0 x1 M = some out → W p l e rX2_fromEnd s m args below meth c H locs 0 0 (MQ below (QI D cy a out M) args s 0 0 (Aq a)) (F0 m 0 ls []) := by
  intro i0 x1 M H locs ls hw hS hl hf
  unfold fX2_fromEnd at hf
  refine lv_aload_n hx hb dX2_fromEnd_0 rfl (lv_at hl 0 rfl) ?_
  obtain ⟨hi1, hf⟩ := og hf
  refine rGetI hx hb hts iX2_fromEnd_X2 hown hK hw (kseg hi1) (en_seg hi1) rfl 2 (by decide) (hts _ kX2_fromEnd_2) rfl ge2_2 dX2_fromEnd_1 ?_
  refine lv_iload_n hx hb dX2_fromEnd_4 rfl (lv_at hl 1 rfl) ?_
  refine lv_iadd hx hb dX2_fromEnd_5 ?_
  refine lv_istore_n (lv' := [(2, .int ((gi M (9 + 3 * i0) 2) + x1)), (0, .ref (a + (9 + 3 * i0))), (1, .int x1)]) hx hb dX2_fromEnd_6 rfl hl (Nat.le_of_ble_eq_true rfl) rfl (fun ls hl => ?_)
  refine lv_iload_n hx hb dX2_fromEnd_7 rfl (lv_at hl 0 rfl) ?_
  refine lv_aload_n hx hb dX2_fromEnd_8 rfl (lv_at hl 1 rfl) ?_
  refine rGetI hx hb hts iX2_fromEnd_X2 hown hK hw (kseg hi1) (en_seg hi1) rfl 3 (by decide) (hts _ kX2_fromEnd_0) rfl ge2_3 dX2_fromEnd_9 ?_
  refine lv_icmp_lt (tgt := 22) hx hb dX2_fromEnd_12 (by decide) (fun c2 => ?_) (fun c2 => ?_)
  · have hf := ip c2 hf
    exact bX2_fromEnd_22 hx hb hr hml hown hts hlocks hK hZ _ _ _ _ _ _ hw hS (lv_sub hl [1, 0] rfl) hf
  · have hf := iq c2 hf
    refine lv_iload_n hx hb dX2_fromEnd_15 rfl (lv_at hl 0 rfl) ?_
    refine lv_aload_n hx hb dX2_fromEnd_16 rfl (lv_at hl 1 rfl) ?_
    refine rGetI hx hb hts iX2_fromEnd_X2 hown hK hw (kseg hi1) (en_seg hi1) rfl 3 (by decide) (hts _ kX2_fromEnd_0) rfl ge2_3 dX2_fromEnd_17 ?_
    refine lv_isub hx hb dX2_fromEnd_20 ?_
    refine lv_istore_n (lv' := [(2, .int (((gi M (9 + 3 * i0) 2) + x1) - (gi M (9 + 3 * i0) 3))), (0, .ref (a + (9 + 3 * i0))), (1, .int x1)]) hx hb dX2_fromEnd_21 rfl hl (Nat.le_of_ble_eq_true rfl) rfl (fun ls hl => ?_)
    exact bX2_fromEnd_22 hx hb hr hml hown hts hlocks hK hZ _ _ _ _ _ _ hw hS (lv_sub hl [1, 0] rfl) hf
set_option maxRecDepth 100000 in
set_option maxHeartbeats 4000000 in
theorem ctX2_fromEnd {l : Launch} {D : va_G} {cy : Nat → ClassId} {a : Nat} {i0 : Nat} {x1 : Int32} {M : Mm} {out : Int32} (hf : fX2_fromEnd i0 x1 M = some out) : Met l yX2_fromEnd wsX2_fromEnd rX2_fromEnd (Pre D cy a M [.ref (a + (9 + 3 * i0)), .int x1]) (QI D cy a out M) 0 0 (Aq a) := by
  refine Met.ofW (cc := cX2_fromEnd) (maxL := 3) (ret := (some .int)) (by decide +kernel) rfl ?_
  intro p e s m args below meth c s₁ B hml hv
  obtain ⟨rfl, hw, hK, hZ⟩ := hv
  have hS : va_S (Aq a) s.heap s.heap [] := va_S.rf
  have hl := lv_entry ([.ref (a + (9 + 3 * i0)), .int x1]) (n := 3) (Nat.le_of_ble_eq_true rfl)
  rw [lg_entry_eq]
  generalize (lg_sl ([.ref (a + (9 + 3 * i0)), .int x1]) ++ List.replicate (3 - (lg_sl ([.ref (a + (9 + 3 * i0)), .int x1])).length) Slot.unset).toArray = ls at hl ⊢
  exact bX2_fromEnd_0 B.exec B.bytes B.returns hml (findClass_of_methodNamed B.named) (atoms_spec (ws := wsX2_fromEnd) B.pre) B.notSynchronized hK hZ _ _ _ _ _ _ hw hS hl hf
def rX2_moveOn : Room := { frames := 0, cells := 0, slots := 0, locals := 0 }
noncomputable def fX2_moveOn (i0 : Nat) (x1 : Int32) (M : Mm) : Option (Mm) := (if i0 < 6 then (if ¬ ((gi M (9 + 3 * i0) 2) < 0 ∨ 60 ≤ (gi M (9 + 3 * i0) 2).toNatClampNeg) then (if (gi (si M (10 + 3 * i0) (gi M (9 + 3 * i0) 2).toNatClampNeg x1) (9 + 3 * i0) 3) ≤ ((gi (si M (10 + 3 * i0) (gi M (9 + 3 * i0) 2).toNatClampNeg x1) (9 + 3 * i0) 2) + (1 : Int32)) then some (si (si M (10 + 3 * i0) (gi M (9 + 3 * i0) 2).toNatClampNeg x1) (9 + 3 * i0) 2 (0 : Int32)) else some (si (si M (10 + 3 * i0) (gi M (9 + 3 * i0) 2).toNatClampNeg x1) (9 + 3 * i0) 2 ((gi (si M (10 + 3 * i0) (gi M (9 + 3 * i0) 2).toNatClampNeg x1) (9 + 3 * i0) 2) + (1 : Int32)))) else none) else none)
set_option maxRecDepth 20000 in
theorem iX2_moveOn_X2 : ∀ w ∈ wsX20, w ∈ wsX2_moveOn := by decide +kernel
set_option maxRecDepth 20000 in
theorem kX2_moveOn_0 : Cond.fieldLink RX2 9 "BatchPipe$Segment" "ring" "[I" ∈ wsX2_moveOn := by decide +kernel
set_option maxRecDepth 20000 in
theorem kX2_moveOn_1 : Cond.fieldLink RX2 28 "BatchPipe$Segment" "last" "I" ∈ wsX2_moveOn := by decide +kernel
set_option maxRecDepth 20000 in
theorem kX2_moveOn_2 : Cond.fieldLink RX2 18 "BatchPipe$Segment" "holds" "I" ∈ wsX2_moveOn := by decide +kernel
set_option maxRecDepth 100000 in
set_option maxHeartbeats 4000000 in
theorem bX2_moveOn_0 {p : Program} {l : Launch} {e : Env} {s : State} {m : MethodId} {args : Array Value} {below : List Frame} {meth : Method} {c : Code} {D : va_G} {cy : Nat → ClassId} {a : Nat} (hx : p.tables.exec = Jvm.exec) (hb : c.code = cX2_moveOn) (hr : meth.sig.returnType = none) (hml : c.maxLocals = 2) (hown : s.vm.findClass RX2 = some m.cls) (hts : ∀ w ∈ wsX2_moveOn, w.before args s = true) (hlocks : meth.locks = false) (hK : KS D cy s) (hZ : ZZ a s s.heap) {out : Mm} : ∀ (i0 : Nat) (x1 : Int32) (M : Mm) (H : Heap) (locs : List Loc) (ls : Array Slot), HP D cy a M H → va_S (Aq a) s.heap H locs → lv_has ls 2 [(0, .ref (a + (9 + 3 * i0))), (1, .int x1)] → fX2_moveOn i0 x1 M = some out → W p l e rX2_moveOn s m args below meth c H locs 0 0 (MQ below (QV D cy a out) args s 0 0 (Aq a)) (F0 m 0 ls []) := by
  intro i0 x1 M H locs ls hw hS hl hf
  unfold fX2_moveOn at hf
  refine lv_aload_n hx hb dX2_moveOn_0 rfl (lv_at hl 0 rfl) ?_
  obtain ⟨hi1, hf⟩ := og hf
  refine rGet hx hb hts iX2_moveOn_X2 hown hK hw (kseg hi1) (en_seg hi1) rfl 0 (by decide) (hts _ kX2_moveOn_0) rfl rfl dX2_moveOn_1 ?_
  refine lv_aload_n hx hb dX2_moveOn_4 rfl (lv_at hl 0 rfl) ?_
  refine rGetI hx hb hts iX2_moveOn_X2 hown hK hw (kseg hi1) (en_seg hi1) rfl 2 (by decide) (hts _ kX2_moveOn_1) rfl ge2_2 dX2_moveOn_5 ?_
  refine lv_iload_n hx hb dX2_moveOn_8 rfl (lv_at hl 1 rfl) ?_
  obtain ⟨hg2, hf⟩ := og hf
  refine rIast hx hb hK hw hS (kring hi1) (fun _ => (en_ring hi1)) hg2 dX2_moveOn_9 (fun H locs hw hS => ?_)
  refine lv_aload_n hx hb dX2_moveOn_10 rfl (lv_at hl 0 rfl) ?_
  refine lv_aload_n hx hb dX2_moveOn_11 rfl (lv_at hl 0 rfl) ?_
  refine rGetI hx hb hts iX2_moveOn_X2 hown hK hw (kseg hi1) (en_seg hi1) rfl 2 (by decide) (hts _ kX2_moveOn_1) rfl ge2_2 dX2_moveOn_12 ?_
  refine lv_iconst (v := (1 : Int32)) hx hb dX2_moveOn_15 (by decide) ?_
  refine lv_iadd hx hb dX2_moveOn_16 ?_
  refine lv_aload_n hx hb dX2_moveOn_17 rfl (lv_at hl 0 rfl) ?_
  refine rGetI hx hb hts iX2_moveOn_X2 hown hK hw (kseg hi1) (en_seg hi1) rfl 3 (by decide) (hts _ kX2_moveOn_2) rfl ge2_3 dX2_moveOn_18 ?_
  refine lv_icmp_ge (tgt := 33) hx hb dX2_moveOn_21 (by decide) (fun c3 => ?_) (fun c3 => ?_)
  · have hf := ip c3 hf
    refine lv_iconst (v := (0 : Int32)) hx hb dX2_moveOn_33 (by decide) ?_
    refine rPut hx hb hts iX2_moveOn_X2 tyX2 tyX2_ok nmX2 hown hK hw hS (kseg hi1) (en_seg hi1) rfl 2 (by decide) (hts _ kX2_moveOn_1) rfl rfl rfl rfl (Nat.le_of_ble_eq_true rfl) (hs2_2 hi1) dX2_moveOn_34 (fun H locs hw hS => ?_)
    obtain rfl := Option.some.inj hf
    exact rVret hx hb hr hlocks hw hS dX2_moveOn_37
  · have hf := iq c3 hf
    refine lv_aload_n hx hb dX2_moveOn_24 rfl (lv_at hl 0 rfl) ?_
    refine rGetI hx hb hts iX2_moveOn_X2 hown hK hw (kseg hi1) (en_seg hi1) rfl 2 (by decide) (hts _ kX2_moveOn_1) rfl ge2_2 dX2_moveOn_25 ?_
    refine lv_iconst (v := (1 : Int32)) hx hb dX2_moveOn_28 (by decide) ?_
    refine lv_iadd hx hb dX2_moveOn_29 ?_
    refine lv_goto (tgt := 34) hx hb dX2_moveOn_30 (by decide) ?_
    refine rPut hx hb hts iX2_moveOn_X2 tyX2 tyX2_ok nmX2 hown hK hw hS (kseg hi1) (en_seg hi1) rfl 2 (by decide) (hts _ kX2_moveOn_1) rfl rfl rfl rfl (Nat.le_of_ble_eq_true rfl) (hs2_2 hi1) dX2_moveOn_34 (fun H locs hw hS => ?_)
    obtain rfl := Option.some.inj hf
    exact rVret hx hb hr hlocks hw hS dX2_moveOn_37
set_option maxRecDepth 100000 in
set_option maxHeartbeats 4000000 in
theorem ctX2_moveOn {l : Launch} {D : va_G} {cy : Nat → ClassId} {a : Nat} {i0 : Nat} {x1 : Int32} {M : Mm} {out : Mm} (hf : fX2_moveOn i0 x1 M = some out) : Met l yX2_moveOn wsX2_moveOn rX2_moveOn (Pre D cy a M [.ref (a + (9 + 3 * i0)), .int x1]) (QV D cy a out) 0 0 (Aq a) := by
  refine Met.ofW (cc := cX2_moveOn) (maxL := 2) (ret := none) (by decide +kernel) rfl ?_
  intro p e s m args below meth c s₁ B hml hv
  obtain ⟨rfl, hw, hK, hZ⟩ := hv
  have hS : va_S (Aq a) s.heap s.heap [] := va_S.rf
  have hl := lv_entry ([.ref (a + (9 + 3 * i0)), .int x1]) (n := 2) (Nat.le_of_ble_eq_true rfl)
  rw [lg_entry_eq]
  generalize (lg_sl ([.ref (a + (9 + 3 * i0)), .int x1]) ++ List.replicate (2 - (lg_sl ([.ref (a + (9 + 3 * i0)), .int x1])).length) Slot.unset).toArray = ls at hl ⊢
  exact bX2_moveOn_0 B.exec B.bytes B.returns hml (findClass_of_methodNamed B.named) (atoms_spec (ws := wsX2_moveOn) B.pre) B.notSynchronized hK hZ _ _ _ _ _ _ hw hS hl hf
def rX3_take : Room := { frames := 1, cells := 0, slots := 0, locals := 21 }
noncomputable def fX3_take (i0 : Nat) (x1 : Int32) (x2 : Int32) (M : Mm) : Option (Mm) := (if i0 < 4 then (if (gi M (73 + i0) 0) < (100 : Int32) then (if x2 = 0 then some (si (si (si M (73 + i0) 0 ((gi M (73 + i0) 0) + (1 : Int32))) (73 + i0) 1 (imax (gi (si M (73 + i0) 0 ((gi M (73 + i0) 0) + (1 : Int32))) (73 + i0) 1) x1)) (73 + i0) 2 ((gi (si (si M (73 + i0) 0 ((gi M (73 + i0) 0) + (1 : Int32))) (73 + i0) 1 (imax (gi (si M (73 + i0) 0 ((gi M (73 + i0) 0) + (1 : Int32))) (73 + i0) 1) x1)) (73 + i0) 2) + (0 : Int32))) else some (si (si (si M (73 + i0) 0 ((gi M (73 + i0) 0) + (1 : Int32))) (73 + i0) 1 (imax (gi (si M (73 + i0) 0 ((gi M (73 + i0) 0) + (1 : Int32))) (73 + i0) 1) x1)) (73 + i0) 2 ((gi (si (si M (73 + i0) 0 ((gi M (73 + i0) 0) + (1 : Int32))) (73 + i0) 1 (imax (gi (si M (73 + i0) 0 ((gi M (73 + i0) 0) + (1 : Int32))) (73 + i0) 1) x1)) (73 + i0) 2) + (1 : Int32)))) else some (si M (73 + i0) 3 ((gi M (73 + i0) 3) + (1 : Int32)))) else none)
set_option maxRecDepth 20000 in
theorem iX3_take_X3 : ∀ w ∈ wsX30, w ∈ wsX3_take := by decide +kernel
set_option maxRecDepth 20000 in
theorem kX3_take_0 : Cond.fieldLink RX3 15 "BatchPipe$Tank" "has" "I" ∈ wsX3_take := by decide +kernel
set_option maxRecDepth 20000 in
theorem kX3_take_1 : Cond.fieldLink RX3 9 "BatchPipe$Tank" "grade" "I" ∈ wsX3_take := by decide +kernel
set_option maxRecDepth 20000 in
theorem kX3_take_2 : Cond.methodLink RX3 21 Lib.Math.max.name ∈ wsX3_take := by decide +kernel
set_option maxRecDepth 20000 in
theorem kX3_take_3 : Cond.static Lib.Math.max.name ∈ wsX3_take := by decide +kernel
set_option maxRecDepth 20000 in
theorem kX3_take_4 : Cond.initialized "java/lang/Math" ∈ wsX3_take := by decide +kernel
set_option maxRecDepth 20000 in
theorem kX3_take_5 : Cond.code Lib.Math.max.name Lib.Math.max.code 2 (some .int) ∈ wsX3_take := by decide +kernel
set_option maxRecDepth 20000 in
theorem kX3_take_6 : Cond.fieldLink RX3 27 "BatchPipe$Tank" "mixed" "I" ∈ wsX3_take := by decide +kernel
set_option maxRecDepth 20000 in
theorem kX3_take_7 : Cond.fieldLink RX3 18 "BatchPipe$Tank" "spilled" "I" ∈ wsX3_take := by decide +kernel
set_option maxRecDepth 100000 in
set_option maxHeartbeats 4000000 in
theorem bX3_take_0 {p : Program} {l : Launch} {e : Env} {s : State} {m : MethodId} {args : Array Value} {below : List Frame} {meth : Method} {c : Code} {D : va_G} {cy : Nat → ClassId} {a : Nat} (hx : p.tables.exec = Jvm.exec) (hb : c.code = cX3_take) (hr : meth.sig.returnType = none) (hml : c.maxLocals = 3) (hown : s.vm.findClass RX3 = some m.cls) (hts : ∀ w ∈ wsX3_take, w.before args s = true) (hlocks : meth.locks = false) (hK : KS D cy s) (hZ : ZZ a s s.heap) {out : Mm} : ∀ (i0 : Nat) (x1 : Int32) (x2 : Int32) (M : Mm) (H : Heap) (locs : List Loc) (ls : Array Slot), HP D cy a M H → va_S (Aq a) s.heap H locs → lv_has ls 3 [(0, .ref (a + (73 + i0))), (1, .int x1), (2, .int x2)] → fX3_take i0 x1 x2 M = some out → W p l e rX3_take s m args below meth c H locs 0 0 (MQ below (QV D cy a out) args s 0 0 (Aq a)) (F0 m 0 ls []) := by
  intro i0 x1 x2 M H locs ls hw hS hl hf
  unfold fX3_take at hf
  refine lv_aload_n hx hb dX3_take_0 rfl (lv_at hl 0 rfl) ?_
  obtain ⟨hi1, hf⟩ := og hf
  refine rGetI hx hb hts iX3_take_X3 hown hK hw (ktank hi1) (en_tank hi1) rfl 0 (by decide) (hts _ kX3_take_0) rfl ge3_0 dX3_take_1 ?_
  refine lv_bipush (v := (100 : Int32)) hx hb dX3_take_4 (by decide) ?_
  refine lv_icmp_lt (tgt := 20) hx hb dX3_take_6 (by decide) (fun c2 => ?_) (fun c2 => ?_)
  · have hf := ip c2 hf
    refine lv_aload_n hx hb dX3_take_20 rfl (lv_at hl 0 rfl) ?_
    refine lv_dup hx hb dX3_take_21 rfl ?_
    refine rGetI hx hb hts iX3_take_X3 hown hK hw (ktank hi1) (en_tank hi1) rfl 0 (by decide) (hts _ kX3_take_0) rfl ge3_0 dX3_take_22 ?_
    refine lv_iconst (v := (1 : Int32)) hx hb dX3_take_25 (by decide) ?_
    refine lv_iadd hx hb dX3_take_26 ?_
    refine rPut hx hb hts iX3_take_X3 tyX3 tyX3_ok nmX3 hown hK hw hS (ktank hi1) (en_tank hi1) rfl 0 (by decide) (hts _ kX3_take_0) rfl rfl rfl rfl (Nat.le_of_ble_eq_true rfl) (hs3_0 hi1) dX3_take_27 (fun H locs hw hS => ?_)
    refine lv_aload_n hx hb dX3_take_30 rfl (lv_at hl 0 rfl) ?_
    refine lv_aload_n hx hb dX3_take_31 rfl (lv_at hl 0 rfl) ?_
    refine rGetI hx hb hts iX3_take_X3 hown hK hw (ktank hi1) (en_tank hi1) rfl 1 (by decide) (hts _ kX3_take_1) rfl ge3_1 dX3_take_32 ?_
    refine lv_iload_n hx hb dX3_take_35 rfl (lv_at hl 1 rfl) ?_
    refine rMax hx hb hml hl hown (hts _ kX3_take_2) (hts _ kX3_take_3) (hts _ kX3_take_4) (hts _ kX3_take_5) (Nat.le_of_ble_eq_true rfl) (Nat.le_of_ble_eq_true rfl) (Nat.le_of_ble_eq_true rfl) (Nat.le_of_ble_eq_true rfl) dX3_take_36 ?_
    refine rPut hx hb hts iX3_take_X3 tyX3 tyX3_ok nmX3 hown hK hw hS (ktank hi1) (en_tank hi1) rfl 1 (by decide) (hts _ kX3_take_1) rfl rfl rfl rfl (Nat.le_of_ble_eq_true rfl) (hs3_1 hi1) dX3_take_39 (fun H locs hw hS => ?_)
    refine lv_aload_n hx hb dX3_take_42 rfl (lv_at hl 0 rfl) ?_
    refine lv_dup hx hb dX3_take_43 rfl ?_
    refine rGetI hx hb hts iX3_take_X3 hown hK hw (ktank hi1) (en_tank hi1) rfl 2 (by decide) (hts _ kX3_take_6) rfl ge3_2 dX3_take_44 ?_
    refine lv_iload_n hx hb dX3_take_47 rfl (lv_at hl 2 rfl) ?_
    refine lv_if_eq (tgt := 55) hx hb dX3_take_48 (by decide) (fun c3 => ?_) (fun c3 => ?_)
    · have hf := ip c3 hf
      refine lv_iconst (v := (0 : Int32)) hx hb dX3_take_55 (by decide) ?_
      refine lv_iadd hx hb dX3_take_56 ?_
      refine rPut hx hb hts iX3_take_X3 tyX3 tyX3_ok nmX3 hown hK hw hS (ktank hi1) (en_tank hi1) rfl 2 (by decide) (hts _ kX3_take_6) rfl rfl rfl rfl (Nat.le_of_ble_eq_true rfl) (hs3_2 hi1) dX3_take_57 (fun H locs hw hS => ?_)
      obtain rfl := Option.some.inj hf
      exact rVret hx hb hr hlocks hw hS dX3_take_60
    · have hf := iq c3 hf
      refine lv_iconst (v := (1 : Int32)) hx hb dX3_take_51 (by decide) ?_
      refine lv_goto (tgt := 56) hx hb dX3_take_52 (by decide) ?_
      refine lv_iadd hx hb dX3_take_56 ?_
      refine rPut hx hb hts iX3_take_X3 tyX3 tyX3_ok nmX3 hown hK hw hS (ktank hi1) (en_tank hi1) rfl 2 (by decide) (hts _ kX3_take_6) rfl rfl rfl rfl (Nat.le_of_ble_eq_true rfl) (hs3_2 hi1) dX3_take_57 (fun H locs hw hS => ?_)
      obtain rfl := Option.some.inj hf
      exact rVret hx hb hr hlocks hw hS dX3_take_60
  · have hf := iq c2 hf
    refine lv_aload_n hx hb dX3_take_9 rfl (lv_at hl 0 rfl) ?_
    refine lv_dup hx hb dX3_take_10 rfl ?_
    refine rGetI hx hb hts iX3_take_X3 hown hK hw (ktank hi1) (en_tank hi1) rfl 3 (by decide) (hts _ kX3_take_7) rfl ge3_3 dX3_take_11 ?_
    refine lv_iconst (v := (1 : Int32)) hx hb dX3_take_14 (by decide) ?_
    refine lv_iadd hx hb dX3_take_15 ?_
    refine rPut hx hb hts iX3_take_X3 tyX3 tyX3_ok nmX3 hown hK hw hS (ktank hi1) (en_tank hi1) rfl 3 (by decide) (hts _ kX3_take_7) rfl rfl rfl rfl (Nat.le_of_ble_eq_true rfl) (hs3_3 hi1) dX3_take_16 (fun H locs hw hS => ?_)
    obtain rfl := Option.some.inj hf
    exact rVret hx hb hr hlocks hw hS dX3_take_19
set_option maxRecDepth 100000 in
set_option maxHeartbeats 4000000 in
theorem ctX3_take {l : Launch} {D : va_G} {cy : Nat → ClassId} {a : Nat} {i0 : Nat} {x1 : Int32} {x2 : Int32} {M : Mm} {out : Mm} (hf : fX3_take i0 x1 x2 M = some out) : Met l yX3_take wsX3_take rX3_take (Pre D cy a M [.ref (a + (73 + i0)), .int x1, .int x2]) (QV D cy a out) 0 0 (Aq a) := by
  refine Met.ofW (cc := cX3_take) (maxL := 3) (ret := none) (by decide +kernel) rfl ?_
  intro p e s m args below meth c s₁ B hml hv
  obtain ⟨rfl, hw, hK, hZ⟩ := hv
  have hS : va_S (Aq a) s.heap s.heap [] := va_S.rf
  have hl := lv_entry ([.ref (a + (73 + i0)), .int x1, .int x2]) (n := 3) (Nat.le_of_ble_eq_true rfl)
  rw [lg_entry_eq]
  generalize (lg_sl ([.ref (a + (73 + i0)), .int x1, .int x2]) ++ List.replicate (3 - (lg_sl ([.ref (a + (73 + i0)), .int x1, .int x2])).length) Slot.unset).toArray = ls at hl ⊢
  exact bX3_take_0 B.exec B.bytes B.returns hml (findClass_of_methodNamed B.named) (atoms_spec (ws := wsX3_take) B.pre) B.notSynchronized hK hZ _ _ _ _ _ _ _ hw hS hl hf
def rX3_pourOut : Room := { frames := 0, cells := 0, slots := 0, locals := 0 }
noncomputable def fX3_pourOut (i0 : Nat) (M : Mm) : Option (Int32 × Mm) := (if i0 < 4 then some (gi M (73 + i0) 0, si (si (si M (73 + i0) 0 (0 : Int32)) (73 + i0) 1 (-1 : Int32)) (73 + i0) 2 (0 : Int32)) else none)
set_option maxRecDepth 20000 in
theorem iX3_pourOut_X3 : ∀ w ∈ wsX30, w ∈ wsX3_pourOut := by decide +kernel
set_option maxRecDepth 20000 in
theorem kX3_pourOut_0 : Cond.fieldLink RX3 15 "BatchPipe$Tank" "has" "I" ∈ wsX3_pourOut := by decide +kernel
set_option maxRecDepth 20000 in
theorem kX3_pourOut_1 : Cond.fieldLink RX3 9 "BatchPipe$Tank" "grade" "I" ∈ wsX3_pourOut := by decide +kernel
set_option maxRecDepth 20000 in
theorem kX3_pourOut_2 : Cond.fieldLink RX3 27 "BatchPipe$Tank" "mixed" "I" ∈ wsX3_pourOut := by decide +kernel
set_option maxRecDepth 100000 in
set_option maxHeartbeats 4000000 in
theorem bX3_pourOut_0 {p : Program} {l : Launch} {e : Env} {s : State} {m : MethodId} {args : Array Value} {below : List Frame} {meth : Method} {c : Code} {D : va_G} {cy : Nat → ClassId} {a : Nat} (hx : p.tables.exec = Jvm.exec) (hb : c.code = cX3_pourOut) (hr : meth.sig.returnType = (some .int)) (hml : c.maxLocals = 2) (hown : s.vm.findClass RX3 = some m.cls) (hts : ∀ w ∈ wsX3_pourOut, w.before args s = true) (hlocks : meth.locks = false) (hK : KS D cy s) (hZ : ZZ a s s.heap) {out : Int32 × Mm} : ∀ (i0 : Nat) (M : Mm) (H : Heap) (locs : List Loc) (ls : Array Slot), HP D cy a M H → va_S (Aq a) s.heap H locs → lv_has ls 2 [(0, .ref (a + (73 + i0)))] → fX3_pourOut i0 M = some out → W p l e rX3_pourOut s m args below meth c H locs 0 0 (MQ below (QI D cy a out.1 out.2) args s 0 0 (Aq a)) (F0 m 0 ls []) := by
  intro i0 M H locs ls hw hS hl hf
  unfold fX3_pourOut at hf
  refine lv_aload_n hx hb dX3_pourOut_0 rfl (lv_at hl 0 rfl) ?_
  obtain ⟨hi1, hf⟩ := og hf
  refine rGetI hx hb hts iX3_pourOut_X3 hown hK hw (ktank hi1) (en_tank hi1) rfl 0 (by decide) (hts _ kX3_pourOut_0) rfl ge3_0 dX3_pourOut_1 ?_
  refine lv_istore_n (lv' := [(1, .int (gi M (73 + i0) 0)), (0, .ref (a + (73 + i0)))]) hx hb dX3_pourOut_4 rfl hl (Nat.le_of_ble_eq_true rfl) rfl (fun ls hl => ?_)
  refine lv_aload_n hx hb dX3_pourOut_5 rfl (lv_at hl 1 rfl) ?_
  refine lv_iconst (v := (0 : Int32)) hx hb dX3_pourOut_6 (by decide) ?_
  refine rPut hx hb hts iX3_pourOut_X3 tyX3 tyX3_ok nmX3 hown hK hw hS (ktank hi1) (en_tank hi1) rfl 0 (by decide) (hts _ kX3_pourOut_0) rfl rfl rfl rfl (Nat.le_of_ble_eq_true rfl) (hs3_0 hi1) dX3_pourOut_7 (fun H locs hw hS => ?_)
  refine lv_aload_n hx hb dX3_pourOut_10 rfl (lv_at hl 1 rfl) ?_
  refine lv_iconst (v := (-1 : Int32)) hx hb dX3_pourOut_11 (by decide) ?_
  refine rPut hx hb hts iX3_pourOut_X3 tyX3 tyX3_ok nmX3 hown hK hw hS (ktank hi1) (en_tank hi1) rfl 1 (by decide) (hts _ kX3_pourOut_1) rfl rfl rfl rfl (Nat.le_of_ble_eq_true rfl) (hs3_1 hi1) dX3_pourOut_12 (fun H locs hw hS => ?_)
  refine lv_aload_n hx hb dX3_pourOut_15 rfl (lv_at hl 1 rfl) ?_
  refine lv_iconst (v := (0 : Int32)) hx hb dX3_pourOut_16 (by decide) ?_
  refine rPut hx hb hts iX3_pourOut_X3 tyX3 tyX3_ok nmX3 hown hK hw hS (ktank hi1) (en_tank hi1) rfl 2 (by decide) (hts _ kX3_pourOut_2) rfl rfl rfl rfl (Nat.le_of_ble_eq_true rfl) (hs3_2 hi1) dX3_pourOut_17 (fun H locs hw hS => ?_)
  refine lv_iload_n hx hb dX3_pourOut_20 rfl (lv_at hl 0 rfl) ?_
  obtain rfl := Option.some.inj hf
  exact rIret hx hb hr hlocks hw hS dX3_pourOut_21
set_option maxRecDepth 100000 in
set_option maxHeartbeats 4000000 in
theorem ctX3_pourOut {l : Launch} {D : va_G} {cy : Nat → ClassId} {a : Nat} {i0 : Nat} {M : Mm} {out : Int32 × Mm} (hf : fX3_pourOut i0 M = some out) : Met l yX3_pourOut wsX3_pourOut rX3_pourOut (Pre D cy a M [.ref (a + (73 + i0))]) (QI D cy a out.1 out.2) 0 0 (Aq a) := by
  refine Met.ofW (cc := cX3_pourOut) (maxL := 2) (ret := (some .int)) (by decide +kernel) rfl ?_
  intro p e s m args below meth c s₁ B hml hv
  obtain ⟨rfl, hw, hK, hZ⟩ := hv
  have hS : va_S (Aq a) s.heap s.heap [] := va_S.rf
  have hl := lv_entry ([.ref (a + (73 + i0))]) (n := 2) (Nat.le_of_ble_eq_true rfl)
  rw [lg_entry_eq]
  generalize (lg_sl ([.ref (a + (73 + i0))]) ++ List.replicate (2 - (lg_sl ([.ref (a + (73 + i0))])).length) Slot.unset).toArray = ls at hl ⊢
  exact bX3_pourOut_0 B.exec B.bytes B.returns hml (findClass_of_methodNamed B.named) (atoms_spec (ws := wsX3_pourOut) B.pre) B.notSynchronized hK hZ _ _ _ _ _ hw hS hl hf
def rX4_tell : Room := { frames := 0, cells := 0, slots := 0, locals := 0 }
noncomputable def fX4_tell (i0 : Nat) (x1 : Int32) (x2 : Int32) (x3 : Int32) (M : Mm) : Option (Mm) := (if i0 < 3 then some (si (si (si M (6 + i0) 0 x1) (6 + i0) 1 x2) (6 + i0) 2 x3) else none)
set_option maxRecDepth 20000 in
theorem iX4_tell_X4 : ∀ w ∈ wsX40, w ∈ wsX4_tell := by decide +kernel
set_option maxRecDepth 20000 in
theorem kX4_tell_0 : Cond.fieldLink RX4 9 "BatchPipe$Tap" "segment" "I" ∈ wsX4_tell := by decide +kernel
set_option maxRecDepth 20000 in
theorem kX4_tell_1 : Cond.fieldLink RX4 15 "BatchPipe$Tap" "units" "I" ∈ wsX4_tell := by decide +kernel
set_option maxRecDepth 20000 in
theorem kX4_tell_2 : Cond.fieldLink RX4 18 "BatchPipe$Tap" "tank" "I" ∈ wsX4_tell := by decide +kernel
set_option maxRecDepth 100000 in
set_option maxHeartbeats 4000000 in
theorem bX4_tell_0 {p : Program} {l : Launch} {e : Env} {s : State} {m : MethodId} {args : Array Value} {below : List Frame} {meth : Method} {c : Code} {D : va_G} {cy : Nat → ClassId} {a : Nat} (hx : p.tables.exec = Jvm.exec) (hb : c.code = cX4_tell) (hr : meth.sig.returnType = none) (hml : c.maxLocals = 4) (hown : s.vm.findClass RX4 = some m.cls) (hts : ∀ w ∈ wsX4_tell, w.before args s = true) (hlocks : meth.locks = false) (hK : KS D cy s) (hZ : ZZ a s s.heap) {out : Mm} : ∀ (i0 : Nat) (x1 : Int32) (x2 : Int32) (x3 : Int32) (M : Mm) (H : Heap) (locs : List Loc) (ls : Array Slot), HP D cy a M H → va_S (Aq a) s.heap H locs → lv_has ls 4 [(0, .ref (a + (6 + i0))), (1, .int x1), (2, .int x2), (3, .int x3)] → fX4_tell i0 x1 x2 x3 M = some out → W p l e rX4_tell s m args below meth c H locs 0 0 (MQ below (QV D cy a out) args s 0 0 (Aq a)) (F0 m 0 ls []) := by
  intro i0 x1 x2 x3 M H locs ls hw hS hl hf
  unfold fX4_tell at hf
  refine lv_aload_n hx hb dX4_tell_0 rfl (lv_at hl 0 rfl) ?_
  refine lv_iload_n hx hb dX4_tell_1 rfl (lv_at hl 1 rfl) ?_
  obtain ⟨hi1, hf⟩ := og hf
  refine rPut hx hb hts iX4_tell_X4 tyX4 tyX4_ok nmX4 hown hK hw hS (ktap hi1) (en_tap hi1) rfl 0 (by decide) (hts _ kX4_tell_0) rfl rfl rfl rfl (Nat.le_of_ble_eq_true rfl) (hs4_0 hi1) dX4_tell_2 (fun H locs hw hS => ?_)
  refine lv_aload_n hx hb dX4_tell_5 rfl (lv_at hl 0 rfl) ?_
  refine lv_iload_n hx hb dX4_tell_6 rfl (lv_at hl 2 rfl) ?_
  refine rPut hx hb hts iX4_tell_X4 tyX4 tyX4_ok nmX4 hown hK hw hS (ktap hi1) (en_tap hi1) rfl 1 (by decide) (hts _ kX4_tell_1) rfl rfl rfl rfl (Nat.le_of_ble_eq_true rfl) (hs4_1 hi1) dX4_tell_7 (fun H locs hw hS => ?_)
  refine lv_aload_n hx hb dX4_tell_10 rfl (lv_at hl 0 rfl) ?_
  refine lv_iload_n hx hb dX4_tell_11 rfl (lv_at hl 3 rfl) ?_
  refine rPut hx hb hts iX4_tell_X4 tyX4 tyX4_ok nmX4 hown hK hw hS (ktap hi1) (en_tap hi1) rfl 2 (by decide) (hts _ kX4_tell_2) rfl rfl rfl rfl (Nat.le_of_ble_eq_true rfl) (hs4_2 hi1) dX4_tell_12 (fun H locs hw hS => ?_)
  obtain rfl := Option.some.inj hf
  exact rVret hx hb hr hlocks hw hS dX4_tell_15
set_option maxRecDepth 100000 in
set_option maxHeartbeats 4000000 in
theorem ctX4_tell {l : Launch} {D : va_G} {cy : Nat → ClassId} {a : Nat} {i0 : Nat} {x1 : Int32} {x2 : Int32} {x3 : Int32} {M : Mm} {out : Mm} (hf : fX4_tell i0 x1 x2 x3 M = some out) : Met l yX4_tell wsX4_tell rX4_tell (Pre D cy a M [.ref (a + (6 + i0)), .int x1, .int x2, .int x3]) (QV D cy a out) 0 0 (Aq a) := by
  refine Met.ofW (cc := cX4_tell) (maxL := 4) (ret := none) (by decide +kernel) rfl ?_
  intro p e s m args below meth c s₁ B hml hv
  obtain ⟨rfl, hw, hK, hZ⟩ := hv
  have hS : va_S (Aq a) s.heap s.heap [] := va_S.rf
  have hl := lv_entry ([.ref (a + (6 + i0)), .int x1, .int x2, .int x3]) (n := 4) (Nat.le_of_ble_eq_true rfl)
  rw [lg_entry_eq]
  generalize (lg_sl ([.ref (a + (6 + i0)), .int x1, .int x2, .int x3]) ++ List.replicate (4 - (lg_sl ([.ref (a + (6 + i0)), .int x1, .int x2, .int x3])).length) Slot.unset).toArray = ls at hl ⊢
  exact bX4_tell_0 B.exec B.bytes B.returns hml (findClass_of_methodNamed B.named) (atoms_spec (ws := wsX4_tell) B.pre) B.notSynchronized hK hZ _ _ _ _ _ _ _ _ hw hS hl hf
def rX4_takesMore : Room := { frames := 0, cells := 0, slots := 0, locals := 0 }
noncomputable def fX4_takesMore (i0 : Nat) (M : Mm) : Option (Int32) := (if i0 < 3 then (if (gi M (6 + i0) 0) = (-1 : Int32) then some ((0 : Int32)) else (if (gi M (6 + i0) 1) ≤ (gi M (6 + i0) 3) then some ((0 : Int32)) else some ((1 : Int32)))) else none)
set_option maxRecDepth 20000 in
theorem iX4_takesMore_X4 : ∀ w ∈ wsX40, w ∈ wsX4_takesMore := by decide +kernel
set_option maxRecDepth 20000 in
theorem kX4_takesMore_0 : Cond.fieldLink RX4 9 "BatchPipe$Tap" "segment" "I" ∈ wsX4_takesMore := by decide +kernel
set_option maxRecDepth 20000 in
theorem kX4_takesMore_1 : Cond.fieldLink RX4 21 "BatchPipe$Tap" "taken" "I" ∈ wsX4_takesMore := by decide +kernel
set_option maxRecDepth 20000 in
theorem kX4_takesMore_2 : Cond.fieldLink RX4 15 "BatchPipe$Tap" "units" "I" ∈ wsX4_takesMore := by decide +kernel
set_option maxRecDepth 100000 in
set_option maxHeartbeats 4000000 in
theorem bX4_takesMore_0 {p : Program} {l : Launch} {e : Env} {s : State} {m : MethodId} {args : Array Value} {below : List Frame} {meth : Method} {c : Code} {D : va_G} {cy : Nat → ClassId} {a : Nat} (hx : p.tables.exec = Jvm.exec) (hb : c.code = cX4_takesMore) (hr : meth.sig.returnType = (some .boolean)) (hml : c.maxLocals = 1) (hown : s.vm.findClass RX4 = some m.cls) (hts : ∀ w ∈ wsX4_takesMore, w.before args s = true) (hlocks : meth.locks = false) (hK : KS D cy s) (hZ : ZZ a s s.heap) {out : Int32} : ∀ (i0 : Nat) (M : Mm) (H : Heap) (locs : List Loc) (ls : Array Slot), HP D cy a M H → va_S (Aq a) s.heap H locs → lv_has ls 1 [(0, .ref (a + (6 + i0)))] → fX4_takesMore i0 M = some out → W p l e rX4_takesMore s m args below meth c H locs 0 0 (MQ below (QB D cy a out M) args s 0 0 (Aq a)) (F0 m 0 ls []) := by
  intro i0 M H locs ls hw hS hl hf
  unfold fX4_takesMore at hf
  refine lv_aload_n hx hb dX4_takesMore_0 rfl (lv_at hl 0 rfl) ?_
  obtain ⟨hi1, hf⟩ := og hf
  refine rGetI hx hb hts iX4_takesMore_X4 hown hK hw (ktap hi1) (en_tap hi1) rfl 0 (by decide) (hts _ kX4_takesMore_0) rfl ge4_0 dX4_takesMore_1 ?_
  refine lv_iconst (v := (-1 : Int32)) hx hb dX4_takesMore_4 (by decide) ?_
  refine lv_icmp_eq (tgt := 23) hx hb dX4_takesMore_5 (by decide) (fun c2 => ?_) (fun c2 => ?_)
  · have hf := ip c2 hf
    refine lv_iconst (v := (0 : Int32)) hx hb dX4_takesMore_23 (by decide) ?_
    obtain rfl := Option.some.inj hf
    exact rBret (x := (0 : Int32)) hx hb hr hlocks hw hS rfl dX4_takesMore_24
  · have hf := iq c2 hf
    refine lv_aload_n hx hb dX4_takesMore_8 rfl (lv_at hl 0 rfl) ?_
    refine rGetI hx hb hts iX4_takesMore_X4 hown hK hw (ktap hi1) (en_tap hi1) rfl 3 (by decide) (hts _ kX4_takesMore_1) rfl ge4_3 dX4_takesMore_9 ?_
    refine lv_aload_n hx hb dX4_takesMore_12 rfl (lv_at hl 0 rfl) ?_
    refine rGetI hx hb hts iX4_takesMore_X4 hown hK hw (ktap hi1) (en_tap hi1) rfl 1 (by decide) (hts _ kX4_takesMore_2) rfl ge4_1 dX4_takesMore_13 ?_
    refine lv_icmp_ge (tgt := 23) hx hb dX4_takesMore_16 (by decide) (fun c3 => ?_) (fun c3 => ?_)
    · have hf := ip c3 hf
      refine lv_iconst (v := (0 : Int32)) hx hb dX4_takesMore_23 (by decide) ?_
      obtain rfl := Option.some.inj hf
      exact rBret (x := (0 : Int32)) hx hb hr hlocks hw hS rfl dX4_takesMore_24
    · have hf := iq c3 hf
      refine lv_iconst (v := (1 : Int32)) hx hb dX4_takesMore_19 (by decide) ?_
      refine lv_goto (tgt := 24) hx hb dX4_takesMore_20 (by decide) ?_
      obtain rfl := Option.some.inj hf
      exact rBret (x := (1 : Int32)) hx hb hr hlocks hw hS rfl dX4_takesMore_24
set_option maxRecDepth 100000 in
set_option maxHeartbeats 4000000 in
theorem ctX4_takesMore {l : Launch} {D : va_G} {cy : Nat → ClassId} {a : Nat} {i0 : Nat} {M : Mm} {out : Int32} (hf : fX4_takesMore i0 M = some out) : Met l yX4_takesMore wsX4_takesMore rX4_takesMore (Pre D cy a M [.ref (a + (6 + i0))]) (QB D cy a out M) 0 0 (Aq a) := by
  refine Met.ofW (cc := cX4_takesMore) (maxL := 1) (ret := (some .boolean)) (by decide +kernel) rfl ?_
  intro p e s m args below meth c s₁ B hml hv
  obtain ⟨rfl, hw, hK, hZ⟩ := hv
  have hS : va_S (Aq a) s.heap s.heap [] := va_S.rf
  have hl := lv_entry ([.ref (a + (6 + i0))]) (n := 1) (Nat.le_of_ble_eq_true rfl)
  rw [lg_entry_eq]
  generalize (lg_sl ([.ref (a + (6 + i0))]) ++ List.replicate (1 - (lg_sl ([.ref (a + (6 + i0))])).length) Slot.unset).toArray = ls at hl ⊢
  exact bX4_takesMore_0 B.exec B.bytes B.returns hml (findClass_of_methodNamed B.named) (atoms_spec (ws := wsX4_takesMore) B.pre) B.notSynchronized hK hZ _ _ _ _ _ hw hS hl hf
def rX5_checkRange : Room := { frames := 6, cells := 1, slots := 6, locals := 90 }
noncomputable def fX5_checkRange (x1 : Int32) (x2 : Int32) (x3 : Int32) (M : Mm) : Option (Nat) := (if x1 < x2 then some (1) else (if x1 ≤ x3 then some (0) else some (1)))
set_option maxRecDepth 20000 in
theorem kX5_checkRange_0 : Cond.classLink RX5 94 "java/lang/IllegalArgumentException" ∈ wsX5_checkRange := by decide +kernel
set_option maxRecDepth 20000 in
theorem kX5_checkRange_1 : Cond.initialized "java/lang/IllegalArgumentException" ∈ wsX5_checkRange := by decide +kernel
set_option maxRecDepth 20000 in
theorem xX5_checkRange_1 : ∀ w ∈ (vx_atS RX5 98 (exN 1) ["java/lang/RuntimeException", "java/lang/Exception"]).filter goodWord, w ∈ wsX5_checkRange := by decide +kernel
set_option maxRecDepth 100000 in
set_option maxHeartbeats 4000000 in
theorem bX5_checkRange_0 {p : Program} {l : Launch} {e : Env} {s : State} {m : MethodId} {args : Array Value} {below : List Frame} {meth : Method} {c : Code} {D : va_G} {cy : Nat → ClassId} {a : Nat} (hx : p.tables.exec = Jvm.exec) (hb : c.code = cX5_checkRange) (hr : meth.sig.returnType = none) (hml : c.maxLocals = 4) (hown : s.vm.findClass RX5 = some m.cls) (hts : ∀ w ∈ wsX5_checkRange, w.before args s = true) (hlocks : meth.locks = false) (hK : KS D cy s) (hZ : ZZ a s s.heap) (htb : ∀ x ∈ c.exceptionTable.toList, False) (hfl : l.stackTraces = false) {out : Nat} : ∀ (x1 : Int32) (x2 : Int32) (x3 : Int32) (M : Mm) (H : Heap) (locs : List Loc) (ls : Array Slot), HP D cy a M H → va_S (Aq a) s.heap H locs → lv_has ls 4 [(0, .ref (a + 0)), (1, .int x1), (2, .int x2), (3, .int x3)] → fX5_checkRange x1 x2 x3 M = some out → W p l e rX5_checkRange s m args below meth c H locs 0 0 (vx_MQ below (QVx D cy a out M) (XT D cy a out M) args s 1 6 (Aq a)) (F0 m 0 ls []) := by
  intro x1 x2 x3 M H locs ls hw hS hl hf
  unfold fX5_checkRange at hf
  refine lv_iload_n hx hb dX5_checkRange_0 rfl (lv_at hl 1 rfl) ?_
  refine lv_iload_n hx hb dX5_checkRange_1 rfl (lv_at hl 2 rfl) ?_
  refine lv_icmp_lt (tgt := 10) hx hb dX5_checkRange_2 (by decide) (fun c1 => ?_) (fun c1 => ?_)
  · have hf := ip c1 hf
    obtain rfl := Option.some.inj hf
    exact rThrow hx hb hfl 1 (by decide) (by decide +kernel) hts hown hK hZ hw hS kX5_checkRange_0 kX5_checkRange_1 nwS_239 xX5_checkRange_1 xbad_1_98 xgood_1_98_94 hml hl dX5_checkRange_10 dX5_checkRange_13 dX5_checkRange_14 dX5_checkRange_16 dX5_checkRange_19 htb (Nat.le_of_ble_eq_true rfl) (Nat.le_of_ble_eq_true rfl) (Nat.le_of_ble_eq_true rfl) (Nat.le_of_ble_eq_true rfl) hlocks (Nat.le_of_ble_eq_true rfl) (Nat.le_of_ble_eq_true rfl)
  · have hf := iq c1 hf
    refine lv_iload_n hx hb dX5_checkRange_5 rfl (lv_at hl 1 rfl) ?_
    refine lv_iload_n hx hb dX5_checkRange_6 rfl (lv_at hl 3 rfl) ?_
    refine lv_icmp_le (tgt := 20) hx hb dX5_checkRange_7 (by decide) (fun c2 => ?_) (fun c2 => ?_)
    · have hf := ip c2 hf
      obtain rfl := Option.some.inj hf
      refine W.widen (k := 1) (n := 6) (Nat.le_of_ble_eq_true rfl) (Nat.le_of_ble_eq_true rfl) ?_
      exact rxVret hx hb hr hlocks hw hS dX5_checkRange_20
    · have hf := iq c2 hf
      obtain rfl := Option.some.inj hf
      exact rThrow hx hb hfl 1 (by decide) (by decide +kernel) hts hown hK hZ hw hS kX5_checkRange_0 kX5_checkRange_1 nwS_239 xX5_checkRange_1 xbad_1_98 xgood_1_98_94 hml hl dX5_checkRange_10 dX5_checkRange_13 dX5_checkRange_14 dX5_checkRange_16 dX5_checkRange_19 htb (Nat.le_of_ble_eq_true rfl) (Nat.le_of_ble_eq_true rfl) (Nat.le_of_ble_eq_true rfl) (Nat.le_of_ble_eq_true rfl) hlocks (Nat.le_of_ble_eq_true rfl) (Nat.le_of_ble_eq_true rfl)
set_option maxRecDepth 100000 in
set_option maxHeartbeats 4000000 in
theorem ctX5_checkRange {l : Launch} {D : va_G} {cy : Nat → ClassId} {a : Nat} (hfl : l.stackTraces = false) {x1 : Int32} {x2 : Int32} {x3 : Int32} {M : Mm} {out : Nat} (hf : fX5_checkRange x1 x2 x3 M = some out) : vx_Met l yX5_checkRange wsX5_checkRange rX5_checkRange (Pre D cy a M [.ref (a + 0), .int x1, .int x2, .int x3]) (QVx D cy a out M) (XT D cy a out M) 1 6 (Aq a) := by
  refine vx_ofW (cc := cX5_checkRange) (maxL := 4) (ret := none) (by decide +kernel) rfl ?_
  intro p e s m args below meth c s₁ B hml htb hv
  obtain ⟨rfl, hw, hK, hZ⟩ := hv
  have hS : va_S (Aq a) s.heap s.heap [] := va_S.rf
  have hl := lv_entry ([.ref (a + 0), .int x1, .int x2, .int x3]) (n := 4) (Nat.le_of_ble_eq_true rfl)
  rw [lg_entry_eq]
  generalize (lg_sl ([.ref (a + 0), .int x1, .int x2, .int x3]) ++ List.replicate (4 - (lg_sl ([.ref (a + 0), .int x1, .int x2, .int x3])).length) Slot.unset).toArray = ls at hl ⊢
  exact bX5_checkRange_0 B.exec B.bytes B.returns hml (findClass_of_methodNamed B.named) (atoms_spec (ws := wsX5_checkRange) B.pre) B.notSynchronized hK hZ htb hfl _ _ _ _ _ _ _ hw hS hl hf
def rX5_segment : Room := { frames := 7, cells := 4, slots := 24, locals := 113 }
noncomputable def fX5_segment (x1 : Int32) (x2 : Int32) (x3 : Int32) (M : Mm) : Option (Nat × Int32 × Mm) := ((fX5_checkRange x1 (5 : Int32) (60 : Int32) M).bind fun o1 => if o1 = 0 then ((fX5_checkRange x2 (0 : Int32) (50 : Int32) M).bind fun o2 => if o2 = 0 then ((fX5_checkRange x3 (10 : Int32) (500 : Int32) M).bind fun o3 => if o3 = 0 then (if (gi M 0 10) = 0 then (if (gi M 0 8) < (6 : Int32) then (if ¬ ((gi M 0 8) < 0 ∨ 6 ≤ (gi M 0 8).toNatClampNeg) then ((fX2_tell ((gi M 0 8).toNatClampNeg) x1 x2 x3 M).bind fun o7 => some (0, (gi (si o7 0 8 ((gi o7 0 8) + (1 : Int32))) 0 8) - (1 : Int32), si o7 0 8 ((gi o7 0 8) + (1 : Int32)))) else none) else some (2, 0, M)) else some (2, 0, M)) else some (o3, 0, M)) else some (o2, 0, M)) else some (o1, 0, M))
set_option maxRecDepth 20000 in
theorem iX5_segment_X5 : ∀ w ∈ wsX50, w ∈ wsX5_segment := by decide +kernel
set_option maxRecDepth 20000 in
theorem kX5_segment_0 : Cond.fieldLink RX5 73 "BatchPipe" "isOpen" "Z" ∈ wsX5_segment := by decide +kernel
set_option maxRecDepth 20000 in
theorem kX5_segment_1 : Cond.classLink RX5 80 "java/lang/IllegalStateException" ∈ wsX5_segment := by decide +kernel
set_option maxRecDepth 20000 in
theorem kX5_segment_2 : Cond.initialized "java/lang/IllegalStateException" ∈ wsX5_segment := by decide +kernel
set_option maxRecDepth 20000 in
theorem kX5_segment_3 : Cond.fieldLink RX5 77 "BatchPipe" "segmentCount" "I" ∈ wsX5_segment := by decide +kernel
set_option maxRecDepth 20000 in
theorem kX5_segment_4 : Cond.fieldLink RX5 11 "BatchPipe" "segments" "[LBatchPipe$Segment;" ∈ wsX5_segment := by decide +kernel
set_option maxRecDepth 20000 in
theorem kX5_segment_5 : Cond.initialized RX2 ∈ wsX5_segment := by decide +kernel
set_option maxRecDepth 20000 in
theorem kX5_segment_6 : Cond.instanceMethod yX2_tell ∈ wsX5_segment := by decide +kernel
set_option maxRecDepth 20000 in
theorem kX5_segment_7 : Cond.selects RX2 yX2_tell yX2_tell ∈ wsX5_segment := by decide +kernel
set_option maxRecDepth 20000 in
theorem xX5_segment_2 : ∀ w ∈ (vx_atS RX5 84 (exN 2) ["java/lang/RuntimeException", "java/lang/Exception"]).filter goodWord, w ∈ wsX5_segment := by decide +kernel
set_option maxRecDepth 100000 in
set_option maxHeartbeats 4000000 in
theorem bX5_segment_0 {p : Program} {l : Launch} {e : Env} {s : State} {m : MethodId} {args : Array Value} {below : List Frame} {meth : Method} {c : Code} {D : va_G} {cy : Nat → ClassId} {a : Nat} (hx : p.tables.exec = Jvm.exec) (hb : c.code = cX5_segment) (hr : meth.sig.returnType = (some .int)) (hml : c.maxLocals = 4) (hown : s.vm.findClass RX5 = some m.cls) (hts : ∀ w ∈ wsX5_segment, w.before args s = true) (hlocks : meth.locks = false) (hK : KS D cy s) (hZ : ZZ a s s.heap) (htb : ∀ x ∈ c.exceptionTable.toList, False) (hfl : l.stackTraces = false) {out : Nat × Int32 × Mm} : ∀ (x1 : Int32) (x2 : Int32) (x3 : Int32) (M : Mm) (H : Heap) (locs : List Loc) (ls : Array Slot), HP D cy a M H → va_S (Aq a) s.heap H locs → lv_has ls 4 [(0, .ref (a + 0)), (1, .int x1), (2, .int x2), (3, .int x3)] → fX5_segment x1 x2 x3 M = some out → W p l e rX5_segment s m args below meth c H locs 0 0 (vx_MQ below (QIx D cy a out.1 out.2.1 out.2.2) (XT D cy a out.1 out.2.2) args s 4 24 (Aq a)) (F0 m 0 ls []) := by
  intro x1 x2 x3 M H locs ls hw hS hl hf
  unfold fX5_segment at hf
  refine lv_aload_n hx hb dX5_segment_0 rfl (lv_at hl 0 rfl) ?_
  refine lv_iload_n hx hb dX5_segment_1 rfl (lv_at hl 1 rfl) ?_
  refine lv_iconst (v := (5 : Int32)) hx hb dX5_segment_2 (by decide) ?_
  refine lv_bipush (v := (60 : Int32)) hx hb dX5_segment_3 (by decide) ?_
  obtain ⟨o1, ho1, hf⟩ := ob hf
  refine rxCallV (vx_runV (As := [.int x1, .int (5 : Int32), .int (60 : Int32)]) (rest := []) ⟨hx, hb, hml, hown, hts⟩ (ctX5_checkRange (l := l) (D := D) (cy := cy) (a := a) hfl ho1) (cwV 3 hts gX5_segment_X5_checkRange rfl rfl rfl (by decide +kernel) ⟨Nat.le_of_ble_eq_true rfl, Nat.le_of_ble_eq_true rfl⟩) (pV hK hZ hw hS (rRecv hK hw (Nat.le_of_ble_eq_true rfl) en_pipe rfl)) rfl rfl hl.1 rfl (lv_room (Nat.le_of_ble_eq_true rfl)) dX5_segment_5 ⟨Nat.le_of_ble_eq_true rfl, Nat.le_of_ble_eq_true rfl⟩) hS (fun ce q9 H locs hn hw hS h1 h2 h3 => ?_) (fun H locs hn hw hS => ?_)
  · have hf := iq hn hf
    obtain rfl := Option.some.inj hf
    exact rOut htb hlocks hn hw hS h1 h2 h3 (Nat.le_of_ble_eq_true rfl) (Nat.le_of_ble_eq_true rfl)
  · have hf := ip hn hf
    refine lv_aload_n hx hb dX5_segment_8 rfl (lv_at hl 0 rfl) ?_
    refine lv_iload_n hx hb dX5_segment_9 rfl (lv_at hl 2 rfl) ?_
    refine lv_iconst (v := (0 : Int32)) hx hb dX5_segment_10 (by decide) ?_
    refine lv_bipush (v := (50 : Int32)) hx hb dX5_segment_11 (by decide) ?_
    obtain ⟨o2, ho2, hf⟩ := ob hf
    refine rxCallV (vx_runV (As := [.int x2, .int (0 : Int32), .int (50 : Int32)]) (rest := []) ⟨hx, hb, hml, hown, hts⟩ (ctX5_checkRange (l := l) (D := D) (cy := cy) (a := a) hfl ho2) (cwV 3 hts gX5_segment_X5_checkRange rfl rfl rfl (by decide +kernel) ⟨Nat.le_of_ble_eq_true rfl, Nat.le_of_ble_eq_true rfl⟩) (pV hK hZ hw hS (rRecv hK hw (Nat.le_of_ble_eq_true rfl) en_pipe rfl)) rfl rfl hl.1 rfl (lv_room (Nat.le_of_ble_eq_true rfl)) dX5_segment_13 ⟨Nat.le_of_ble_eq_true rfl, Nat.le_of_ble_eq_true rfl⟩) hS (fun ce q9 H locs hn hw hS h1 h2 h3 => ?_) (fun H locs hn hw hS => ?_)
    · have hf := iq hn hf
      obtain rfl := Option.some.inj hf
      exact rOut htb hlocks hn hw hS h1 h2 h3 (Nat.le_of_ble_eq_true rfl) (Nat.le_of_ble_eq_true rfl)
    · have hf := ip hn hf
      refine lv_aload_n hx hb dX5_segment_16 rfl (lv_at hl 0 rfl) ?_
      refine lv_iload_n hx hb dX5_segment_17 rfl (lv_at hl 3 rfl) ?_
      refine lv_bipush (v := (10 : Int32)) hx hb dX5_segment_18 (by decide) ?_
      refine lv_sipush (v := (500 : Int32)) hx hb dX5_segment_20 (by decide) ?_
      obtain ⟨o3, ho3, hf⟩ := ob hf
      refine rxCallV (vx_runV (As := [.int x3, .int (10 : Int32), .int (500 : Int32)]) (rest := []) ⟨hx, hb, hml, hown, hts⟩ (ctX5_checkRange (l := l) (D := D) (cy := cy) (a := a) hfl ho3) (cwV 3 hts gX5_segment_X5_checkRange rfl rfl rfl (by decide +kernel) ⟨Nat.le_of_ble_eq_true rfl, Nat.le_of_ble_eq_true rfl⟩) (pV hK hZ hw hS (rRecv hK hw (Nat.le_of_ble_eq_true rfl) en_pipe rfl)) rfl rfl hl.1 rfl (lv_room (Nat.le_of_ble_eq_true rfl)) dX5_segment_23 ⟨Nat.le_of_ble_eq_true rfl, Nat.le_of_ble_eq_true rfl⟩) hS (fun ce q9 H locs hn hw hS h1 h2 h3 => ?_) (fun H locs hn hw hS => ?_)
      · have hf := iq hn hf
        obtain rfl := Option.some.inj hf
        exact rOut htb hlocks hn hw hS h1 h2 h3 (Nat.le_of_ble_eq_true rfl) (Nat.le_of_ble_eq_true rfl)
      · have hf := ip hn hf
        refine lv_aload_n hx hb dX5_segment_26 rfl (lv_at hl 0 rfl) ?_
        refine rGetI hx hb hts iX5_segment_X5 hown hK hw (Nat.le_of_ble_eq_true rfl) en_pipe rfl 10 (by decide) (hts _ kX5_segment_0) rfl ge5_10 dX5_segment_27 ?_
        refine lv_if_ne (tgt := 42) hx hb dX5_segment_30 (by decide) (fun c4 => ?_) (fun c4 => ?_)
        · have hf := iq c4 hf
          obtain rfl := Option.some.inj hf
          exact rThrow hx hb hfl 2 (by decide) (by decide +kernel) hts hown hK hZ hw hS kX5_segment_1 kX5_segment_2 nwS_82 xX5_segment_2 xbad_2_84 xgood_2_84_80 hml hl dX5_segment_42 dX5_segment_45 dX5_segment_46 dX5_segment_48 dX5_segment_51 htb (Nat.le_of_ble_eq_true rfl) (Nat.le_of_ble_eq_true rfl) (Nat.le_of_ble_eq_true rfl) (Nat.le_of_ble_eq_true rfl) hlocks (Nat.le_of_ble_eq_true rfl) (Nat.le_of_ble_eq_true rfl)
        · have hf := ip c4 hf
          refine lv_aload_n hx hb dX5_segment_33 rfl (lv_at hl 0 rfl) ?_
          refine rGetI hx hb hts iX5_segment_X5 hown hK hw (Nat.le_of_ble_eq_true rfl) en_pipe rfl 8 (by decide) (hts _ kX5_segment_3) rfl ge5_8 dX5_segment_34 ?_
          refine lv_bipush (v := (6 : Int32)) hx hb dX5_segment_37 (by decide) ?_
          refine lv_icmp_lt (tgt := 52) hx hb dX5_segment_39 (by decide) (fun c5 => ?_) (fun c5 => ?_)
          · have hf := ip c5 hf
            refine lv_aload_n hx hb dX5_segment_52 rfl (lv_at hl 0 rfl) ?_
            refine rGet hx hb hts iX5_segment_X5 hown hK hw (Nat.le_of_ble_eq_true rfl) en_pipe rfl 0 (by decide) (hts _ kX5_segment_4) rfl rfl dX5_segment_53 ?_
            refine lv_aload_n hx hb dX5_segment_56 rfl (lv_at hl 0 rfl) ?_
            refine rGetI hx hb hts iX5_segment_X5 hown hK hw (Nat.le_of_ble_eq_true rfl) en_pipe rfl 8 (by decide) (hts _ kX5_segment_3) rfl ge5_8 dX5_segment_57 ?_
            obtain ⟨hg6, hf⟩ := og hf
            refine rAald hx hb hK hw (k := 1) (Nat.le_of_ble_eq_true rfl) 2 en_segs rfl hg6 dX5_segment_60 ?_
            refine lv_iload_n hx hb dX5_segment_61 rfl (lv_at hl 1 rfl) ?_
            refine lv_iload_n hx hb dX5_segment_62 rfl (lv_at hl 2 rfl) ?_
            refine lv_iload_n hx hb dX5_segment_63 rfl (lv_at hl 3 rfl) ?_
            obtain ⟨o7, ho7, hf⟩ := ob hf
            refine rCallV (va_runVN (As := [.int x1, .int x2, .int x3]) (rest := []) ⟨hx, hb, hml, hown, hts⟩ (ctX2_tell (l := l) (D := D) (cy := cy) (a := a) ho7) ⟨va_cnB 3 hts gX5_segment_X2_tell_n87 rfl rfl rfl (hK.2.2.1 _ nwM_87) (hts _ kX5_segment_5) (by decide +kernel) ⟨Nat.le_of_ble_eq_true rfl, Nat.le_of_ble_eq_true rfl⟩, (hts _ kX5_segment_6), (hts _ kX5_segment_7)⟩ (pV hK hZ hw hS (rRecv hK hw (kseg (vi hg6)) (en_seg (vi hg6)) rfl)) rfl rfl hl.1 rfl (lv_room (Nat.le_of_ble_eq_true rfl)) dX5_segment_64 ⟨Nat.le_of_ble_eq_true rfl, Nat.le_of_ble_eq_true rfl⟩) hS (fun H locs hw hS => ?_)
            refine lv_aload_n hx hb dX5_segment_67 rfl (lv_at hl 0 rfl) ?_
            refine lv_dup hx hb dX5_segment_68 rfl ?_
            refine rGetI hx hb hts iX5_segment_X5 hown hK hw (Nat.le_of_ble_eq_true rfl) en_pipe rfl 8 (by decide) (hts _ kX5_segment_3) rfl ge5_8 dX5_segment_69 ?_
            refine lv_iconst (v := (1 : Int32)) hx hb dX5_segment_72 (by decide) ?_
            refine lv_iadd hx hb dX5_segment_73 ?_
            refine rPut hx hb hts iX5_segment_X5 tyX5 tyX5_ok nmX5 hown hK hw hS (Nat.le_of_ble_eq_true rfl) en_pipe rfl 8 (by decide) (hts _ kX5_segment_3) rfl rfl rfl rfl (Nat.le_of_ble_eq_true rfl) hs5_8 dX5_segment_74 (fun H locs hw hS => ?_)
            refine lv_aload_n hx hb dX5_segment_77 rfl (lv_at hl 0 rfl) ?_
            refine rGetI hx hb hts iX5_segment_X5 hown hK hw (Nat.le_of_ble_eq_true rfl) en_pipe rfl 8 (by decide) (hts _ kX5_segment_3) rfl ge5_8 dX5_segment_78 ?_
            refine lv_iconst (v := (1 : Int32)) hx hb dX5_segment_81 (by decide) ?_
            refine lv_isub hx hb dX5_segment_82 ?_
            obtain rfl := Option.some.inj hf
            refine W.widen (k := 4) (n := 24) (Nat.le_of_ble_eq_true rfl) (Nat.le_of_ble_eq_true rfl) ?_
            exact rxIret hx hb hr hlocks hw hS dX5_segment_83
          · have hf := iq c5 hf
            obtain rfl := Option.some.inj hf
            exact rThrow hx hb hfl 2 (by decide) (by decide +kernel) hts hown hK hZ hw hS kX5_segment_1 kX5_segment_2 nwS_82 xX5_segment_2 xbad_2_84 xgood_2_84_80 hml hl dX5_segment_42 dX5_segment_45 dX5_segment_46 dX5_segment_48 dX5_segment_51 htb (Nat.le_of_ble_eq_true rfl) (Nat.le_of_ble_eq_true rfl) (Nat.le_of_ble_eq_true rfl) (Nat.le_of_ble_eq_true rfl) hlocks (Nat.le_of_ble_eq_true rfl) (Nat.le_of_ble_eq_true rfl)
set_option maxRecDepth 100000 in
set_option maxHeartbeats 4000000 in
theorem ctX5_segment {l : Launch} {D : va_G} {cy : Nat → ClassId} {a : Nat} (hfl : l.stackTraces = false) {x1 : Int32} {x2 : Int32} {x3 : Int32} {M : Mm} {out : Nat × Int32 × Mm} (hf : fX5_segment x1 x2 x3 M = some out) : vx_Met l yX5_segment wsX5_segment rX5_segment (Pre D cy a M [.ref (a + 0), .int x1, .int x2, .int x3]) (QIx D cy a out.1 out.2.1 out.2.2) (XT D cy a out.1 out.2.2) 4 24 (Aq a) := by
  refine vx_ofW (cc := cX5_segment) (maxL := 4) (ret := (some .int)) (by decide +kernel) rfl ?_
  intro p e s m args below meth c s₁ B hml htb hv
  obtain ⟨rfl, hw, hK, hZ⟩ := hv
  have hS : va_S (Aq a) s.heap s.heap [] := va_S.rf
  have hl := lv_entry ([.ref (a + 0), .int x1, .int x2, .int x3]) (n := 4) (Nat.le_of_ble_eq_true rfl)
  rw [lg_entry_eq]
  generalize (lg_sl ([.ref (a + 0), .int x1, .int x2, .int x3]) ++ List.replicate (4 - (lg_sl ([.ref (a + 0), .int x1, .int x2, .int x3])).length) Slot.unset).toArray = ls at hl ⊢
  exact bX5_segment_0 B.exec B.bytes B.returns hml (findClass_of_methodNamed B.named) (atoms_spec (ws := wsX5_segment) B.pre) B.notSynchronized hK hZ htb hfl _ _ _ _ _ _ _ hw hS hl hf
def rX5_checkIndex : Room := { frames := 6, cells := 1, slots := 6, locals := 90 }
noncomputable def fX5_checkIndex (x1 : Int32) (x2 : Int32) (M : Mm) : Option (Nat) := (if x1 < 0 then some (3) else (if x1 < x2 then some (0) else some (3)))
set_option maxRecDepth 20000 in
theorem kX5_checkIndex_0 : Cond.classLink RX5 144 "java/lang/IndexOutOfBoundsException" ∈ wsX5_checkIndex := by decide +kernel
set_option maxRecDepth 20000 in
theorem kX5_checkIndex_1 : Cond.initialized "java/lang/IndexOutOfBoundsException" ∈ wsX5_checkIndex := by decide +kernel
set_option maxRecDepth 20000 in
theorem xX5_checkIndex_3 : ∀ w ∈ (vx_atS RX5 148 (exN 3) ["java/lang/RuntimeException", "java/lang/Exception"]).filter goodWord, w ∈ wsX5_checkIndex := by decide +kernel
set_option maxRecDepth 100000 in
set_option maxHeartbeats 4000000 in
theorem bX5_checkIndex_0 {p : Program} {l : Launch} {e : Env} {s : State} {m : MethodId} {args : Array Value} {below : List Frame} {meth : Method} {c : Code} {D : va_G} {cy : Nat → ClassId} {a : Nat} (hx : p.tables.exec = Jvm.exec) (hb : c.code = cX5_checkIndex) (hr : meth.sig.returnType = none) (hml : c.maxLocals = 3) (hown : s.vm.findClass RX5 = some m.cls) (hts : ∀ w ∈ wsX5_checkIndex, w.before args s = true) (hlocks : meth.locks = false) (hK : KS D cy s) (hZ : ZZ a s s.heap) (htb : ∀ x ∈ c.exceptionTable.toList, False) (hfl : l.stackTraces = false) {out : Nat} : ∀ (x1 : Int32) (x2 : Int32) (M : Mm) (H : Heap) (locs : List Loc) (ls : Array Slot), HP D cy a M H → va_S (Aq a) s.heap H locs → lv_has ls 3 [(0, .ref (a + 0)), (1, .int x1), (2, .int x2)] → fX5_checkIndex x1 x2 M = some out → W p l e rX5_checkIndex s m args below meth c H locs 0 0 (vx_MQ below (QVx D cy a out M) (XT D cy a out M) args s 1 6 (Aq a)) (F0 m 0 ls []) := by
  intro x1 x2 M H locs ls hw hS hl hf
  unfold fX5_checkIndex at hf
  refine lv_iload_n hx hb dX5_checkIndex_0 rfl (lv_at hl 1 rfl) ?_
  refine lv_if_lt (tgt := 9) hx hb dX5_checkIndex_1 (by decide) (fun c1 => ?_) (fun c1 => ?_)
  · have hf := ip c1 hf
    obtain rfl := Option.some.inj hf
    exact rThrow hx hb hfl 3 (by decide) (by decide +kernel) hts hown hK hZ hw hS kX5_checkIndex_0 kX5_checkIndex_1 nwS_237 xX5_checkIndex_3 xbad_3_148 xgood_3_148_144 hml hl dX5_checkIndex_9 dX5_checkIndex_12 dX5_checkIndex_13 dX5_checkIndex_15 dX5_checkIndex_18 htb (Nat.le_of_ble_eq_true rfl) (Nat.le_of_ble_eq_true rfl) (Nat.le_of_ble_eq_true rfl) (Nat.le_of_ble_eq_true rfl) hlocks (Nat.le_of_ble_eq_true rfl) (Nat.le_of_ble_eq_true rfl)
  · have hf := iq c1 hf
    refine lv_iload_n hx hb dX5_checkIndex_4 rfl (lv_at hl 1 rfl) ?_
    refine lv_iload_n hx hb dX5_checkIndex_5 rfl (lv_at hl 2 rfl) ?_
    refine lv_icmp_lt (tgt := 19) hx hb dX5_checkIndex_6 (by decide) (fun c2 => ?_) (fun c2 => ?_)
    · have hf := ip c2 hf
      obtain rfl := Option.some.inj hf
      refine W.widen (k := 1) (n := 6) (Nat.le_of_ble_eq_true rfl) (Nat.le_of_ble_eq_true rfl) ?_
      exact rxVret hx hb hr hlocks hw hS dX5_checkIndex_19
    · have hf := iq c2 hf
      obtain rfl := Option.some.inj hf
      exact rThrow hx hb hfl 3 (by decide) (by decide +kernel) hts hown hK hZ hw hS kX5_checkIndex_0 kX5_checkIndex_1 nwS_237 xX5_checkIndex_3 xbad_3_148 xgood_3_148_144 hml hl dX5_checkIndex_9 dX5_checkIndex_12 dX5_checkIndex_13 dX5_checkIndex_15 dX5_checkIndex_18 htb (Nat.le_of_ble_eq_true rfl) (Nat.le_of_ble_eq_true rfl) (Nat.le_of_ble_eq_true rfl) (Nat.le_of_ble_eq_true rfl) hlocks (Nat.le_of_ble_eq_true rfl) (Nat.le_of_ble_eq_true rfl)
set_option maxRecDepth 100000 in
set_option maxHeartbeats 4000000 in
theorem ctX5_checkIndex {l : Launch} {D : va_G} {cy : Nat → ClassId} {a : Nat} (hfl : l.stackTraces = false) {x1 : Int32} {x2 : Int32} {M : Mm} {out : Nat} (hf : fX5_checkIndex x1 x2 M = some out) : vx_Met l yX5_checkIndex wsX5_checkIndex rX5_checkIndex (Pre D cy a M [.ref (a + 0), .int x1, .int x2]) (QVx D cy a out M) (XT D cy a out M) 1 6 (Aq a) := by
  refine vx_ofW (cc := cX5_checkIndex) (maxL := 3) (ret := none) (by decide +kernel) rfl ?_
  intro p e s m args below meth c s₁ B hml htb hv
  obtain ⟨rfl, hw, hK, hZ⟩ := hv
  have hS : va_S (Aq a) s.heap s.heap [] := va_S.rf
  have hl := lv_entry ([.ref (a + 0), .int x1, .int x2]) (n := 3) (Nat.le_of_ble_eq_true rfl)
  rw [lg_entry_eq]
  generalize (lg_sl ([.ref (a + 0), .int x1, .int x2]) ++ List.replicate (3 - (lg_sl ([.ref (a + 0), .int x1, .int x2])).length) Slot.unset).toArray = ls at hl ⊢
  exact bX5_checkIndex_0 B.exec B.bytes B.returns hml (findClass_of_methodNamed B.named) (atoms_spec (ws := wsX5_checkIndex) B.pre) B.notSynchronized hK hZ htb hfl _ _ _ _ _ _ hw hS hl hf
