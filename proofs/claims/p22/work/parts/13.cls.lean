def rX5_batchOf : Room := { frames := 0, cells := 0, slots := 0, locals := 0 }
noncomputable def fX5_batchOf (x1 : Int32) (M : Mm) : Option (Option Nat) := (if (x1 / (512 : Int32)) < 0 then (if ¬ ((0 : Int32) < 0 ∨ 40 ≤ (0 : Int32).toNatClampNeg) then some (some ((0 : Int32).toNatClampNeg)) else none) else (if (gi M 0 9) ≤ (x1 / (512 : Int32)) then (if ¬ ((0 : Int32) < 0 ∨ 40 ≤ (0 : Int32).toNatClampNeg) then some (some ((0 : Int32).toNatClampNeg)) else none) else (if ¬ ((x1 / (512 : Int32)) < 0 ∨ 40 ≤ (x1 / (512 : Int32)).toNatClampNeg) then some (some ((x1 / (512 : Int32)).toNatClampNeg)) else none)))
set_option maxRecDepth 20000 in
theorem iX5_batchOf_X5 : ∀ w ∈ wsX50, w ∈ wsX5_batchOf := by decide +kernel
set_option maxRecDepth 20000 in
theorem kX5_batchOf_0 : Cond.fieldLink RX5 23 "BatchPipe" "batches" "[LBatchPipe$Batch;" ∈ wsX5_batchOf := by decide +kernel
set_option maxRecDepth 20000 in
theorem kX5_batchOf_1 : Cond.fieldLink RX5 50 "BatchPipe" "batchCount" "I" ∈ wsX5_batchOf := by decide +kernel
set_option maxRecDepth 100000 in
set_option maxHeartbeats 4000000 in
theorem bX5_batchOf_0 {p : Program} {l : Launch} {e : Env} {s : State} {m : MethodId} {args : Array Value} {below : List Frame} {meth : Method} {c : Code} {D : va_G} {cy : Nat → ClassId} {a : Nat} (hx : p.tables.exec = Jvm.exec) (hb : c.code = cX5_batchOf) (hr : meth.sig.returnType = (some (.object "BatchPipe$Batch"))) (hml : c.maxLocals = 3) (hown : s.vm.findClass RX5 = some m.cls) (hts : ∀ w ∈ wsX5_batchOf, w.before args s = true) (hlocks : meth.locks = false) (hK : KS D cy s) (hZ : ZZ a s s.heap) {out : Option Nat} : ∀ (x1 : Int32) (M : Mm) (H : Heap) (locs : List Loc) (ls : Array Slot), HP D cy a M H → va_S (Aq a) s.heap H locs → lv_has ls 3 [(0, .ref (a + 0)), (1, .int x1)] → fX5_batchOf x1 M = some out → W p l e rX5_batchOf s m args below meth c H locs 0 0 (MQ below (QR D cy a 33 out M) args s 0 0 (Aq a)) (F0 m 0 ls []) := by
  intro x1 M H locs ls hw hS hl hf
  unfold fX5_batchOf at hf
  refine lv_iload_n hx hb dX5_batchOf_0 rfl (lv_at hl 1 rfl) ?_
  refine lv_sipush (v := (512 : Int32)) hx hb dX5_batchOf_1 (by decide) ?_
  refine lv_idiv hx hb dX5_batchOf_4 (by decide) ?_
  refine lv_istore_n (lv' := [(2, .int (x1 / (512 : Int32))), (0, .ref (a + 0)), (1, .int x1)]) hx hb dX5_batchOf_5 rfl hl (Nat.le_of_ble_eq_true rfl) rfl (fun ls hl => ?_)
  refine lv_iload_n hx hb dX5_batchOf_6 rfl (lv_at hl 0 rfl) ?_
  refine lv_if_lt (tgt := 27) hx hb dX5_batchOf_7 (by decide) (fun c1 => ?_) (fun c1 => ?_)
  · have hf := ip c1 hf
    refine lv_aload_n hx hb dX5_batchOf_27 rfl (lv_at hl 1 rfl) ?_
    refine rGet hx hb hts iX5_batchOf_X5 hown hK hw (Nat.le_of_ble_eq_true rfl) en_pipe rfl 2 (by decide) (hts _ kX5_batchOf_0) rfl rfl dX5_batchOf_28 ?_
    refine lv_iconst (v := (0 : Int32)) hx hb dX5_batchOf_31 (by decide) ?_
    obtain ⟨hg2, hf⟩ := og hf
    refine rAald hx hb hK hw (k := 3) (Nat.le_of_ble_eq_true rfl) 4 en_bats rfl hg2 dX5_batchOf_32 ?_
    obtain rfl := Option.some.inj hf
    exact rRret (base := 33) (o := some ((0 : Int32).toNatClampNeg)) hx hb hr hlocks hw hS dX5_batchOf_33
  · have hf := iq c1 hf
    refine lv_iload_n hx hb dX5_batchOf_10 rfl (lv_at hl 0 rfl) ?_
    refine lv_aload_n hx hb dX5_batchOf_11 rfl (lv_at hl 1 rfl) ?_
    refine rGetI hx hb hts iX5_batchOf_X5 hown hK hw (Nat.le_of_ble_eq_true rfl) en_pipe rfl 9 (by decide) (hts _ kX5_batchOf_1) rfl ge5_9 dX5_batchOf_12 ?_
    refine lv_icmp_ge (tgt := 27) hx hb dX5_batchOf_15 (by decide) (fun c3 => ?_) (fun c3 => ?_)
    · have hf := ip c3 hf
      refine lv_aload_n hx hb dX5_batchOf_27 rfl (lv_at hl 1 rfl) ?_
      refine rGet hx hb hts iX5_batchOf_X5 hown hK hw (Nat.le_of_ble_eq_true rfl) en_pipe rfl 2 (by decide) (hts _ kX5_batchOf_0) rfl rfl dX5_batchOf_28 ?_
      refine lv_iconst (v := (0 : Int32)) hx hb dX5_batchOf_31 (by decide) ?_
      obtain ⟨hg4, hf⟩ := og hf
      refine rAald hx hb hK hw (k := 3) (Nat.le_of_ble_eq_true rfl) 4 en_bats rfl hg4 dX5_batchOf_32 ?_
      obtain rfl := Option.some.inj hf
      exact rRret (base := 33) (o := some ((0 : Int32).toNatClampNeg)) hx hb hr hlocks hw hS dX5_batchOf_33
    · have hf := iq c3 hf
      refine lv_aload_n hx hb dX5_batchOf_18 rfl (lv_at hl 1 rfl) ?_
      refine rGet hx hb hts iX5_batchOf_X5 hown hK hw (Nat.le_of_ble_eq_true rfl) en_pipe rfl 2 (by decide) (hts _ kX5_batchOf_0) rfl rfl dX5_batchOf_19 ?_
      refine lv_iload_n hx hb dX5_batchOf_22 rfl (lv_at hl 0 rfl) ?_
      obtain ⟨hg5, hf⟩ := og hf
      refine rAald hx hb hK hw (k := 3) (Nat.le_of_ble_eq_true rfl) 4 en_bats rfl hg5 dX5_batchOf_23 ?_
      refine lv_goto (tgt := 33) hx hb dX5_batchOf_24 (by decide) ?_
      obtain rfl := Option.some.inj hf
      exact rRret (base := 33) (o := some ((x1 / (512 : Int32)).toNatClampNeg)) hx hb hr hlocks hw hS dX5_batchOf_33
set_option maxRecDepth 100000 in
set_option maxHeartbeats 4000000 in
theorem ctX5_batchOf {l : Launch} {D : va_G} {cy : Nat → ClassId} {a : Nat} {x1 : Int32} {M : Mm} {out : Option Nat} (hf : fX5_batchOf x1 M = some out) : Met l yX5_batchOf wsX5_batchOf rX5_batchOf (Pre D cy a M [.ref (a + 0), .int x1]) (QR D cy a 33 out M) 0 0 (Aq a) := by
  refine Met.ofW (cc := cX5_batchOf) (maxL := 3) (ret := (some (.object "BatchPipe$Batch"))) (by decide +kernel) rfl ?_
  intro p e s m args below meth c s₁ B hml hv
  obtain ⟨rfl, hw, hK, hZ⟩ := hv
  have hS : va_S (Aq a) s.heap s.heap [] := va_S.rf
  have hl := lv_entry ([.ref (a + 0), .int x1]) (n := 3) (Nat.le_of_ble_eq_true rfl)
  rw [lg_entry_eq]
  generalize (lg_sl ([.ref (a + 0), .int x1]) ++ List.replicate (3 - (lg_sl ([.ref (a + 0), .int x1])).length) Slot.unset).toArray = ls at hl ⊢
  exact bX5_batchOf_0 B.exec B.bytes B.returns hml (findClass_of_methodNamed B.named) (atoms_spec (ws := wsX5_batchOf) B.pre) B.notSynchronized hK hZ _ _ _ _ _ hw hS hl hf
def rX5_headAt : Room := { frames := 1, cells := 0, slots := 0, locals := 22 }
noncomputable def fX5_headAt (x1 : Int32) (M : Mm) : Option (Int32) := (if x1 < 0 then some ((0 : Int32)) else (if x1 < (gi M 0 8) then (if ¬ (x1 < 0 ∨ 6 ≤ x1.toNatClampNeg) then ((fX2_fromEnd x1.toNatClampNeg (0 : Int32) M).bind fun o4 => ((fX5_batchOf o4 M).bind fun o5 => (o5.bind fun j6 => (if j6 < 40 then ((gr M (33 + j6) 1).bind fun j8 => (if j8 < 6 then (if ¬ (x1 < 0 ∨ 6 ≤ x1.toNatClampNeg) then some ((gi M (27 + j8) 1) * (gi M (9 + 3 * x1.toNatClampNeg) 4)) else none) else none)) else none)))) else none) else some ((0 : Int32))))
set_option maxRecDepth 20000 in
theorem iX5_headAt_X0 : ∀ w ∈ wsX00, w ∈ wsX5_headAt := by decide +kernel
set_option maxRecDepth 20000 in
theorem iX5_headAt_X1 : ∀ w ∈ wsX10, w ∈ wsX5_headAt := by decide +kernel
set_option maxRecDepth 20000 in
theorem iX5_headAt_X2 : ∀ w ∈ wsX20, w ∈ wsX5_headAt := by decide +kernel
set_option maxRecDepth 20000 in
theorem iX5_headAt_X5 : ∀ w ∈ wsX50, w ∈ wsX5_headAt := by decide +kernel
set_option maxRecDepth 20000 in
theorem kX5_headAt_0 : Cond.fieldLink RX5 77 "BatchPipe" "segmentCount" "I" ∈ wsX5_headAt := by decide +kernel
set_option maxRecDepth 20000 in
theorem kX5_headAt_1 : Cond.fieldLink RX5 11 "BatchPipe" "segments" "[LBatchPipe$Segment;" ∈ wsX5_headAt := by decide +kernel
set_option maxRecDepth 20000 in
theorem kX5_headAt_2 : Cond.initialized RX2 ∈ wsX5_headAt := by decide +kernel
set_option maxRecDepth 20000 in
theorem kX5_headAt_3 : Cond.instanceMethod yX2_fromEnd ∈ wsX5_headAt := by decide +kernel
set_option maxRecDepth 20000 in
theorem kX5_headAt_4 : Cond.selects RX2 yX2_fromEnd yX2_fromEnd ∈ wsX5_headAt := by decide +kernel
set_option maxRecDepth 100000 in
set_option maxHeartbeats 4000000 in
theorem bX5_headAt_0 {p : Program} {l : Launch} {e : Env} {s : State} {m : MethodId} {args : Array Value} {below : List Frame} {meth : Method} {c : Code} {D : va_G} {cy : Nat → ClassId} {a : Nat} (hx : p.tables.exec = Jvm.exec) (hb : c.code = cX5_headAt) (hr : meth.sig.returnType = (some .int)) (hml : c.maxLocals = 2) (hown : s.vm.findClass RX5 = some m.cls) (hts : ∀ w ∈ wsX5_headAt, w.before args s = true) (hlocks : meth.locks = false) (hK : KS D cy s) (hZ : ZZ a s s.heap) {out : Int32} : ∀ (x1 : Int32) (M : Mm) (H : Heap) (locs : List Loc) (ls : Array Slot), HP D cy a M H → va_S (Aq a) s.heap H locs → lv_has ls 2 [(0, .ref (a + 0)), (1, .int x1)] → fX5_headAt x1 M = some out → W p l e rX5_headAt s m args below meth c H locs 0 0 (MQ below (QI D cy a out M) args s 0 0 (Aq a)) (F0 m 0 ls []) := by
  intro x1 M H locs ls hw hS hl hf
  unfold fX5_headAt at hf
  refine lv_iload_n hx hb dX5_headAt_0 rfl (lv_at hl 1 rfl) ?_
  refine lv_if_lt (tgt := 12) hx hb dX5_headAt_1 (by decide) (fun c1 => ?_) (fun c1 => ?_)
  · have hf := ip c1 hf
    refine lv_iconst (v := (0 : Int32)) hx hb dX5_headAt_12 (by decide) ?_
    obtain rfl := Option.some.inj hf
    exact rIret hx hb hr hlocks hw hS dX5_headAt_13
  · have hf := iq c1 hf
    refine lv_iload_n hx hb dX5_headAt_4 rfl (lv_at hl 1 rfl) ?_
    refine lv_aload_n hx hb dX5_headAt_5 rfl (lv_at hl 0 rfl) ?_
    refine rGetI hx hb hts iX5_headAt_X5 hown hK hw (Nat.le_of_ble_eq_true rfl) en_pipe rfl 8 (by decide) (hts _ kX5_headAt_0) rfl ge5_8 dX5_headAt_6 ?_
    refine lv_icmp_lt (tgt := 14) hx hb dX5_headAt_9 (by decide) (fun c2 => ?_) (fun c2 => ?_)
    · have hf := ip c2 hf
      refine lv_aload_n hx hb dX5_headAt_14 rfl (lv_at hl 0 rfl) ?_
      refine lv_aload_n hx hb dX5_headAt_15 rfl (lv_at hl 0 rfl) ?_
      refine rGet hx hb hts iX5_headAt_X5 hown hK hw (Nat.le_of_ble_eq_true rfl) en_pipe rfl 0 (by decide) (hts _ kX5_headAt_1) rfl rfl dX5_headAt_16 ?_
      refine lv_iload_n hx hb dX5_headAt_19 rfl (lv_at hl 1 rfl) ?_
      obtain ⟨hg3, hf⟩ := og hf
      refine rAald hx hb hK hw (k := 1) (Nat.le_of_ble_eq_true rfl) 2 en_segs rfl hg3 dX5_headAt_20 ?_
      refine lv_iconst (v := (0 : Int32)) hx hb dX5_headAt_21 (by decide) ?_
      obtain ⟨o4, ho4, hf⟩ := ob hf
      refine rCallI (va_runVN (As := [.int (0 : Int32)]) (rest := [.ref (a + 0)]) ⟨hx, hb, hml, hown, hts⟩ (ctX2_fromEnd (l := l) (D := D) (cy := cy) (a := a) ho4) ⟨va_cnB 1 hts gX5_headAt_X2_fromEnd_n181 rfl rfl rfl (hK.2.2.1 _ nwM_181) (hts _ kX5_headAt_2) (by decide +kernel) ⟨Nat.le_of_ble_eq_true rfl, Nat.le_of_ble_eq_true rfl⟩, (hts _ kX5_headAt_3), (hts _ kX5_headAt_4)⟩ (pV hK hZ hw hS (rRecv hK hw (kseg (vi hg3)) (en_seg (vi hg3)) rfl)) rfl rfl hl.1 rfl (lv_room (Nat.le_of_ble_eq_true rfl)) dX5_headAt_22 ⟨Nat.le_of_ble_eq_true rfl, Nat.le_of_ble_eq_true rfl⟩) hS (fun H locs hw hS => ?_)
      obtain ⟨o5, ho5, hf⟩ := ob hf
      refine rCallR (va_runV (As := [.int o4]) (rest := []) ⟨hx, hb, hml, hown, hts⟩ (ctX5_batchOf (l := l) (D := D) (cy := cy) (a := a) ho5) (cwV 1 hts gX5_headAt_X5_batchOf rfl rfl rfl (by decide +kernel) ⟨Nat.le_of_ble_eq_true rfl, Nat.le_of_ble_eq_true rfl⟩) (pV hK hZ hw hS (rRecv hK hw (Nat.le_of_ble_eq_true rfl) en_pipe rfl)) rfl rfl hl.1 rfl (lv_room (Nat.le_of_ble_eq_true rfl)) dX5_headAt_25 ⟨Nat.le_of_ble_eq_true rfl, Nat.le_of_ble_eq_true rfl⟩) hS (fun H locs hw hS => ?_)
      obtain ⟨j6, ej6, hf⟩ := ob hf
      refine rDer ej6 ?_
      obtain ⟨hi7, hf⟩ := og hf
      refine rGetNR hx hb hts iX5_headAt_X0 hown hK hw (kbat hi7) (en_bat hi7) rfl 1 (by decide) nwF_168 rfl (base := 27) ge0_1 dX5_headAt_28 ?_
      obtain ⟨j8, ej8, hf⟩ := ob hf
      refine rDer ej8 ?_
      obtain ⟨hi9, hf⟩ := og hf
      refine rGetNI hx hb hts iX5_headAt_X1 hown hK hw (kprod hi9) (en_prod hi9) rfl 1 (by decide) nwF_269 rfl ge1_1 dX5_headAt_31 ?_
      refine lv_aload_n hx hb dX5_headAt_34 rfl (lv_at hl 0 rfl) ?_
      refine rGet hx hb hts iX5_headAt_X5 hown hK hw (Nat.le_of_ble_eq_true rfl) en_pipe rfl 0 (by decide) (hts _ kX5_headAt_1) rfl rfl dX5_headAt_35 ?_
      refine lv_iload_n hx hb dX5_headAt_38 rfl (lv_at hl 1 rfl) ?_
      obtain ⟨hg10, hf⟩ := og hf
      refine rAald hx hb hK hw (k := 1) (Nat.le_of_ble_eq_true rfl) 2 en_segs rfl hg10 dX5_headAt_39 ?_
      refine rGetNI hx hb hts iX5_headAt_X2 hown hK hw (kseg (vi hg10)) (en_seg (vi hg10)) rfl 4 (by decide) nwF_272 rfl ge2_4 dX5_headAt_40 ?_
      refine lv_imul hx hb dX5_headAt_43 ?_
      obtain rfl := Option.some.inj hf
      exact rIret hx hb hr hlocks hw hS dX5_headAt_44
    · have hf := iq c2 hf
      refine lv_iconst (v := (0 : Int32)) hx hb dX5_headAt_12 (by decide) ?_
      obtain rfl := Option.some.inj hf
      exact rIret hx hb hr hlocks hw hS dX5_headAt_13
set_option maxRecDepth 100000 in
set_option maxHeartbeats 4000000 in
theorem ctX5_headAt {l : Launch} {D : va_G} {cy : Nat → ClassId} {a : Nat} {x1 : Int32} {M : Mm} {out : Int32} (hf : fX5_headAt x1 M = some out) : Met l yX5_headAt wsX5_headAt rX5_headAt (Pre D cy a M [.ref (a + 0), .int x1]) (QI D cy a out M) 0 0 (Aq a) := by
  refine Met.ofW (cc := cX5_headAt) (maxL := 2) (ret := (some .int)) (by decide +kernel) rfl ?_
  intro p e s m args below meth c s₁ B hml hv
  obtain ⟨rfl, hw, hK, hZ⟩ := hv
  have hS : va_S (Aq a) s.heap s.heap [] := va_S.rf
  have hl := lv_entry ([.ref (a + 0), .int x1]) (n := 2) (Nat.le_of_ble_eq_true rfl)
  rw [lg_entry_eq]
  generalize (lg_sl ([.ref (a + 0), .int x1]) ++ List.replicate (2 - (lg_sl ([.ref (a + 0), .int x1])).length) Slot.unset).toArray = ls at hl ⊢
  exact bX5_headAt_0 B.exec B.bytes B.returns hml (findClass_of_methodNamed B.named) (atoms_spec (ws := wsX5_headAt) B.pre) B.notSynchronized hK hZ _ _ _ _ _ hw hS hl hf
def rX5_friction : Room := { frames := 0, cells := 0, slots := 0, locals := 0 }
noncomputable def fX5_friction_L8 : Nat → Nat → Int32 → Int32 → Int32 → Mm → Option (Int32)
  | 0 => fun _ _ _ _ _ => none
  | n + 1 => fun i1 x2 x3 x4 M => (if (6 : Int32) ≤ x4 then some (((x2 * x3) + (99 : Int32)) / (100 : Int32)) else (if i1 < 6 then (if ¬ (x4 < 0 ∨ 6 ≤ x4.toNatClampNeg) then (if ¬ (x4 < 0 ∨ 6 ≤ x4.toNatClampNeg) then (fX5_friction_L8 n) i1 x2 (x3 + ((gi M (11 + 3 * i1) x4.toNatClampNeg) * (gi M (27 + x4.toNatClampNeg) 2))) (x4 + (1 : Int32)) M else none) else none) else none))
noncomputable def fX5_friction (i1 : Nat) (x2 : Int32) (M : Mm) : Option (Int32) := (if i1 < 6 then fX5_friction_L8 400 i1 x2 (gi M (9 + 3 * i1) 6) (0 : Int32) M else none)
set_option maxRecDepth 20000 in
theorem iX5_friction_X1 : ∀ w ∈ wsX10, w ∈ wsX5_friction := by decide +kernel
set_option maxRecDepth 20000 in
theorem iX5_friction_X2 : ∀ w ∈ wsX20, w ∈ wsX5_friction := by decide +kernel
set_option maxRecDepth 20000 in
theorem iX5_friction_X5 : ∀ w ∈ wsX50, w ∈ wsX5_friction := by decide +kernel
set_option maxRecDepth 20000 in
theorem kX5_friction_0 : Cond.fieldLink RX5 17 "BatchPipe" "products" "[LBatchPipe$Product;" ∈ wsX5_friction := by decide +kernel
set_option maxRecDepth 100000 in
set_option maxHeartbeats 4000000 in
theorem bX5_friction_8 {p : Program} {l : Launch} {e : Env} {s : State} {m : MethodId} {args : Array Value} {below : List Frame} {meth : Method} {c : Code} {D : va_G} {cy : Nat → ClassId} {a : Nat} (hx : p.tables.exec = Jvm.exec) (hb : c.code = cX5_friction) (hr : meth.sig.returnType = (some .int)) (hml : c.maxLocals = 5) (hown : s.vm.findClass RX5 = some m.cls) (hts : ∀ w ∈ wsX5_friction, w.before args s = true) (hlocks : meth.locks = false) (hK : KS D cy s) (hZ : ZZ a s s.heap) {out : Int32} : ∀ (n : Nat), ∀ (i1 : Nat) (x2 : Int32) (x3 : Int32) (x4 : Int32) (M : Mm) (H : Heap) (locs : List Loc) (ls : Array Slot), HP D cy a M H → va_S (Aq a) s.heap H locs → lv_has ls 5 [(0, .ref (a + 0)), (1, .ref (a + (9 + 3 * i1))), (2, .int x2), (3, .int x3), (4, .int x4)] → fX5_friction_L8 n i1 x2 x3 x4 M = some out → W p l e rX5_friction s m args below meth c H locs 0 0 (MQ below (QI D cy a out M) args s 0 0 (Aq a)) (F0 m 8 ls []) := by
  intro n
  induction n with
  | zero =>
    intro i1 x2 x3 x4 M H locs ls hw hS hl hf
    have hf : (none : Option (Int32)) = some out := hf
    cases hf
  | succ n ih =>
    intro i1 x2 x3 x4 M H locs ls hw hS hl hf
    unfold fX5_friction_L8 at hf
    refine lv_iload hx hb dX5_friction_8 (lv_at hl 4 rfl) ?_
    refine lv_bipush (v := (6 : Int32)) hx hb dX5_friction_10 (by decide) ?_
    refine lv_icmp_ge (tgt := 42) hx hb dX5_friction_12 (by decide) (fun c1 => ?_) (fun c1 => ?_)
    · have hf := ip c1 hf
      refine lv_iload_n hx hb dX5_friction_42 rfl (lv_at hl 2 rfl) ?_
      refine lv_iload_n hx hb dX5_friction_43 rfl (lv_at hl 3 rfl) ?_
      refine lv_imul hx hb dX5_friction_44 ?_
      refine lv_bipush (v := (99 : Int32)) hx hb dX5_friction_45 (by decide) ?_
      refine lv_iadd hx hb dX5_friction_47 ?_
      refine lv_bipush (v := (100 : Int32)) hx hb dX5_friction_48 (by decide) ?_
      refine lv_idiv hx hb dX5_friction_50 (by decide) ?_
      obtain rfl := Option.some.inj hf
      exact rIret hx hb hr hlocks hw hS dX5_friction_51
    · have hf := iq c1 hf
      refine lv_iload_n hx hb dX5_friction_15 rfl (lv_at hl 3 rfl) ?_
      refine lv_aload_n hx hb dX5_friction_16 rfl (lv_at hl 1 rfl) ?_
      obtain ⟨hi2, hf⟩ := og hf
      refine rGetN hx hb hts iX5_friction_X2 hown hK hw (kseg hi2) (en_seg hi2) rfl 1 (by decide) nwF_275 rfl rfl dX5_friction_17 ?_
      refine lv_iload hx hb dX5_friction_20 (lv_at hl 4 rfl) ?_
      obtain ⟨hg3, hf⟩ := og hf
      refine rIald hx hb hK hw (kuof hi2) (en_uof hi2) hg3 dX5_friction_22 ?_
      refine lv_aload_n hx hb dX5_friction_23 rfl (lv_at hl 0 rfl) ?_
      refine rGet hx hb hts iX5_friction_X5 hown hK hw (Nat.le_of_ble_eq_true rfl) en_pipe rfl 1 (by decide) (hts _ kX5_friction_0) rfl rfl dX5_friction_24 ?_
      refine lv_iload hx hb dX5_friction_27 (lv_at hl 4 rfl) ?_
      obtain ⟨hg4, hf⟩ := og hf
      refine rAald hx hb hK hw (k := 2) (Nat.le_of_ble_eq_true rfl) 3 en_prods rfl hg4 dX5_friction_29 ?_
      refine rGetNI hx hb hts iX5_friction_X1 hown hK hw (kprod (vi hg4)) (en_prod (vi hg4)) rfl 2 (by decide) nwF_278 rfl ge1_2 dX5_friction_30 ?_
      refine lv_imul hx hb dX5_friction_33 ?_
      refine lv_iadd hx hb dX5_friction_34 ?_
      refine lv_istore_n (lv' := [(3, .int (x3 + ((gi M (11 + 3 * i1) x4.toNatClampNeg) * (gi M (27 + x4.toNatClampNeg) 2)))), (0, .ref (a + 0)), (1, .ref (a + (9 + 3 * i1))), (2, .int x2), (4, .int x4)]) hx hb dX5_friction_35 rfl hl (Nat.le_of_ble_eq_true rfl) rfl (fun ls hl => ?_)
      refine lv_iinc (v := x4 + (1 : Int32)) (lv' := [(4, .int (x4 + (1 : Int32))), (3, .int (x3 + ((gi M (11 + 3 * i1) x4.toNatClampNeg) * (gi M (27 + x4.toNatClampNeg) 2)))), (0, .ref (a + 0)), (1, .ref (a + (9 + 3 * i1))), (2, .int x2)]) hx hb dX5_friction_36 hl (k := 4) rfl rfl (Nat.le_of_ble_eq_true rfl) rfl (fun ls hl => ?_)
      refine lv_goto (tgt := 8) hx hb dX5_friction_39 (by decide) ?_
      exact ih _ _ _ _ _ _ _ _ hw hS (lv_sub hl [2, 3, 4, 1, 0] rfl) hf
set_option maxRecDepth 100000 in
set_option maxHeartbeats 4000000 in
theorem bX5_friction_0 {p : Program} {l : Launch} {e : Env} {s : State} {m : MethodId} {args : Array Value} {below : List Frame} {meth : Method} {c : Code} {D : va_G} {cy : Nat → ClassId} {a : Nat} (hx : p.tables.exec = Jvm.exec) (hb : c.code = cX5_friction) (hr : meth.sig.returnType = (some .int)) (hml : c.maxLocals = 5) (hown : s.vm.findClass RX5 = some m.cls) (hts : ∀ w ∈ wsX5_friction, w.before args s = true) (hlocks : meth.locks = false) (hK : KS D cy s) (hZ : ZZ a s s.heap) {out : Int32} : ∀ (i1 : Nat) (x2 : Int32) (M : Mm) (H : Heap) (locs : List Loc) (ls : Array Slot), HP D cy a M H → va_S (Aq a) s.heap H locs → lv_has ls 5 [(0, .ref (a + 0)), (1, .ref (a + (9 + 3 * i1))), (2, .int x2)] → fX5_friction i1 x2 M = some out → W p l e rX5_friction s m args below meth c H locs 0 0 (MQ below (QI D cy a out M) args s 0 0 (Aq a)) (F0 m 0 ls []) := by
  intro i1 x2 M H locs ls hw hS hl hf
  unfold fX5_friction at hf
  refine lv_aload_n hx hb dX5_friction_0 rfl (lv_at hl 1 rfl) ?_
  obtain ⟨hi1, hf⟩ := og hf
  refine rGetNI hx hb hts iX5_friction_X2 hown hK hw (kseg hi1) (en_seg hi1) rfl 6 (by decide) nwF_223 rfl ge2_6 dX5_friction_1 ?_
  refine lv_istore_n (lv' := [(3, .int (gi M (9 + 3 * i1) 6)), (0, .ref (a + 0)), (1, .ref (a + (9 + 3 * i1))), (2, .int x2)]) hx hb dX5_friction_4 rfl hl (Nat.le_of_ble_eq_true rfl) rfl (fun ls hl => ?_)
  refine lv_iconst (v := (0 : Int32)) hx hb dX5_friction_5 (by decide) ?_
  refine lv_istore (lv' := [(4, .int (0 : Int32)), (3, .int (gi M (9 + 3 * i1) 6)), (0, .ref (a + 0)), (1, .ref (a + (9 + 3 * i1))), (2, .int x2)]) hx hb dX5_friction_6 hl (Nat.le_of_ble_eq_true rfl) rfl (fun ls hl => ?_)
  exact bX5_friction_8 hx hb hr hml hown hts hlocks hK hZ 400 _ _ _ _ _ _ _ _ hw hS (lv_sub hl [2, 3, 4, 1, 0] rfl) hf
set_option maxRecDepth 100000 in
set_option maxHeartbeats 4000000 in
theorem ctX5_friction {l : Launch} {D : va_G} {cy : Nat → ClassId} {a : Nat} {i1 : Nat} {x2 : Int32} {M : Mm} {out : Int32} (hf : fX5_friction i1 x2 M = some out) : Met l yX5_friction wsX5_friction rX5_friction (Pre D cy a M [.ref (a + 0), .ref (a + (9 + 3 * i1)), .int x2]) (QI D cy a out M) 0 0 (Aq a) := by
  refine Met.ofW (cc := cX5_friction) (maxL := 5) (ret := (some .int)) (by decide +kernel) rfl ?_
  intro p e s m args below meth c s₁ B hml hv
  obtain ⟨rfl, hw, hK, hZ⟩ := hv
  have hS : va_S (Aq a) s.heap s.heap [] := va_S.rf
  have hl := lv_entry ([.ref (a + 0), .ref (a + (9 + 3 * i1)), .int x2]) (n := 5) (Nat.le_of_ble_eq_true rfl)
  rw [lg_entry_eq]
  generalize (lg_sl ([.ref (a + 0), .ref (a + (9 + 3 * i1)), .int x2]) ++ List.replicate (5 - (lg_sl ([.ref (a + 0), .ref (a + (9 + 3 * i1)), .int x2])).length) Slot.unset).toArray = ls at hl ⊢
  exact bX5_friction_0 B.exec B.bytes B.returns hml (findClass_of_methodNamed B.named) (atoms_spec (ws := wsX5_friction) B.pre) B.notSynchronized hK hZ _ _ _ _ _ _ hw hS hl hf
def rX5_atBeginning : Room := { frames := 2, cells := 0, slots := 0, locals := 43 }
noncomputable def fX5_atBeginning (x1 : Int32) (x2 : Int32) (M : Mm) : Option (Int32) := ((fX5_headAt (x1 - (1 : Int32)) M).bind fun o1 => some (imax (0 : Int32) (x2 - o1)))
set_option maxRecDepth 20000 in
theorem kX5_atBeginning_0 : Cond.methodLink RX5 266 Lib.Math.max.name ∈ wsX5_atBeginning := by decide +kernel
set_option maxRecDepth 20000 in
theorem kX5_atBeginning_1 : Cond.static Lib.Math.max.name ∈ wsX5_atBeginning := by decide +kernel
set_option maxRecDepth 20000 in
theorem kX5_atBeginning_2 : Cond.initialized "java/lang/Math" ∈ wsX5_atBeginning := by decide +kernel
set_option maxRecDepth 20000 in
theorem kX5_atBeginning_3 : Cond.code Lib.Math.max.name Lib.Math.max.code 2 (some .int) ∈ wsX5_atBeginning := by decide +kernel
set_option maxRecDepth 100000 in
set_option maxHeartbeats 4000000 in
theorem bX5_atBeginning_0 {p : Program} {l : Launch} {e : Env} {s : State} {m : MethodId} {args : Array Value} {below : List Frame} {meth : Method} {c : Code} {D : va_G} {cy : Nat → ClassId} {a : Nat} (hx : p.tables.exec = Jvm.exec) (hb : c.code = cX5_atBeginning) (hr : meth.sig.returnType = (some .int)) (hml : c.maxLocals = 3) (hown : s.vm.findClass RX5 = some m.cls) (hts : ∀ w ∈ wsX5_atBeginning, w.before args s = true) (hlocks : meth.locks = false) (hK : KS D cy s) (hZ : ZZ a s s.heap) {out : Int32} : ∀ (x1 : Int32) (x2 : Int32) (M : Mm) (H : Heap) (locs : List Loc) (ls : Array Slot), HP D cy a M H → va_S (Aq a) s.heap H locs → lv_has ls 3 [(0, .ref (a + 0)), (1, .int x1), (2, .int x2)] → fX5_atBeginning x1 x2 M = some out → W p l e rX5_atBeginning s m args below meth c H locs 0 0 (MQ below (QI D cy a out M) args s 0 0 (Aq a)) (F0 m 0 ls []) := by
  intro x1 x2 M H locs ls hw hS hl hf
  unfold fX5_atBeginning at hf
  refine lv_iconst (v := (0 : Int32)) hx hb dX5_atBeginning_0 (by decide) ?_
  refine lv_iload_n hx hb dX5_atBeginning_1 rfl (lv_at hl 2 rfl) ?_
  refine lv_aload_n hx hb dX5_atBeginning_2 rfl (lv_at hl 0 rfl) ?_
  refine lv_iload_n hx hb dX5_atBeginning_3 rfl (lv_at hl 1 rfl) ?_
  refine lv_iconst (v := (1 : Int32)) hx hb dX5_atBeginning_4 (by decide) ?_
  refine lv_isub hx hb dX5_atBeginning_5 ?_
  obtain ⟨o1, ho1, hf⟩ := ob hf
  refine rCallI (va_runV (As := [.int (x1 - (1 : Int32))]) (rest := [.int x2, .int (0 : Int32)]) ⟨hx, hb, hml, hown, hts⟩ (ctX5_headAt (l := l) (D := D) (cy := cy) (a := a) ho1) (cwV 1 hts gX5_atBeginning_X5_headAt rfl rfl rfl (by decide +kernel) ⟨Nat.le_of_ble_eq_true rfl, Nat.le_of_ble_eq_true rfl⟩) (pV hK hZ hw hS (rRecv hK hw (Nat.le_of_ble_eq_true rfl) en_pipe rfl)) rfl rfl hl.1 rfl (lv_room (Nat.le_of_ble_eq_true rfl)) dX5_atBeginning_6 ⟨Nat.le_of_ble_eq_true rfl, Nat.le_of_ble_eq_true rfl⟩) hS (fun H locs hw hS => ?_)
  refine lv_isub hx hb dX5_atBeginning_9 ?_
  refine rMax hx hb hml hl hown (hts _ kX5_atBeginning_0) (hts _ kX5_atBeginning_1) (hts _ kX5_atBeginning_2) (hts _ kX5_atBeginning_3) (Nat.le_of_ble_eq_true rfl) (Nat.le_of_ble_eq_true rfl) (Nat.le_of_ble_eq_true rfl) (Nat.le_of_ble_eq_true rfl) dX5_atBeginning_10 ?_
  obtain rfl := Option.some.inj hf
  exact rIret hx hb hr hlocks hw hS dX5_atBeginning_13
set_option maxRecDepth 100000 in
set_option maxHeartbeats 4000000 in
theorem ctX5_atBeginning {l : Launch} {D : va_G} {cy : Nat → ClassId} {a : Nat} {x1 : Int32} {x2 : Int32} {M : Mm} {out : Int32} (hf : fX5_atBeginning x1 x2 M = some out) : Met l yX5_atBeginning wsX5_atBeginning rX5_atBeginning (Pre D cy a M [.ref (a + 0), .int x1, .int x2]) (QI D cy a out M) 0 0 (Aq a) := by
  refine Met.ofW (cc := cX5_atBeginning) (maxL := 3) (ret := (some .int)) (by decide +kernel) rfl ?_
  intro p e s m args below meth c s₁ B hml hv
  obtain ⟨rfl, hw, hK, hZ⟩ := hv
  have hS : va_S (Aq a) s.heap s.heap [] := va_S.rf
  have hl := lv_entry ([.ref (a + 0), .int x1, .int x2]) (n := 3) (Nat.le_of_ble_eq_true rfl)
  rw [lg_entry_eq]
  generalize (lg_sl ([.ref (a + 0), .int x1, .int x2]) ++ List.replicate (3 - (lg_sl ([.ref (a + 0), .int x1, .int x2])).length) Slot.unset).toArray = ls at hl ⊢
  exact bX5_atBeginning_0 B.exec B.bytes B.returns hml (findClass_of_methodNamed B.named) (atoms_spec (ws := wsX5_atBeginning) B.pre) B.notSynchronized hK hZ _ _ _ _ _ _ hw hS hl hf
def rX5_noneAbove : Room := { frames := 3, cells := 0, slots := 0, locals := 65 }
noncomputable def fX5_noneAbove_L18 : Nat → Int32 → Int32 → Int32 → Mm → Option (Int32)
  | 0 => fun _ _ _ _ => none
  | n + 1 => fun x1 x2 x3 M => (if x3 < 0 then some ((1 : Int32)) else (if ¬ (x3 < 0 ∨ 6 ≤ x3.toNatClampNeg) then ((fX5_friction x3.toNatClampNeg x1 M).bind fun o3 => ((fX5_atBeginning x3 (x2 + o3) M).bind fun o4 => (if ¬ (x3 < 0 ∨ 6 ≤ x3.toNatClampNeg) then (if o4 ≤ (gi M (9 + 3 * x3.toNatClampNeg) 5) then (fX5_noneAbove_L18 n) x1 (x2 + o3) (x3 + (-1 : Int32)) M else some ((0 : Int32))) else none))) else none))
noncomputable def fX5_noneAbove (x1 : Int32) (M : Mm) : Option (Int32) := ((fX5_headAt ((gi M 0 8) - (1 : Int32)) M).bind fun o1 => fX5_noneAbove_L18 400 x1 o1 ((gi M 0 8) - (1 : Int32)) M)
set_option maxRecDepth 20000 in
theorem iX5_noneAbove_X2 : ∀ w ∈ wsX20, w ∈ wsX5_noneAbove := by decide +kernel
set_option maxRecDepth 20000 in
theorem iX5_noneAbove_X5 : ∀ w ∈ wsX50, w ∈ wsX5_noneAbove := by decide +kernel
set_option maxRecDepth 20000 in
theorem kX5_noneAbove_0 : Cond.fieldLink RX5 11 "BatchPipe" "segments" "[LBatchPipe$Segment;" ∈ wsX5_noneAbove := by decide +kernel
set_option maxRecDepth 20000 in
theorem kX5_noneAbove_1 : Cond.fieldLink RX5 77 "BatchPipe" "segmentCount" "I" ∈ wsX5_noneAbove := by decide +kernel
set_option maxRecDepth 100000 in
set_option maxHeartbeats 4000000 in
theorem bX5_noneAbove_18 {p : Program} {l : Launch} {e : Env} {s : State} {m : MethodId} {args : Array Value} {below : List Frame} {meth : Method} {c : Code} {D : va_G} {cy : Nat → ClassId} {a : Nat} (hx : p.tables.exec = Jvm.exec) (hb : c.code = cX5_noneAbove) (hr : meth.sig.returnType = (some .boolean)) (hml : c.maxLocals = 4) (hown : s.vm.findClass RX5 = some m.cls) (hts : ∀ w ∈ wsX5_noneAbove, w.before args s = true) (hlocks : meth.locks = false) (hK : KS D cy s) (hZ : ZZ a s s.heap) {out : Int32} : ∀ (n : Nat), ∀ (x1 : Int32) (x2 : Int32) (x3 : Int32) (M : Mm) (H : Heap) (locs : List Loc) (ls : Array Slot), HP D cy a M H → va_S (Aq a) s.heap H locs → lv_has ls 4 [(0, .ref (a + 0)), (1, .int x1), (2, .int x2), (3, .int x3)] → fX5_noneAbove_L18 n x1 x2 x3 M = some out → W p l e rX5_noneAbove s m args below meth c H locs 0 0 (MQ below (QB D cy a out M) args s 0 0 (Aq a)) (F0 m 18 ls []) := by
  intro n
  induction n with
  | zero =>
    intro x1 x2 x3 M H locs ls hw hS hl hf
    have hf : (none : Option (Int32)) = some out := hf
    cases hf
  | succ n ih =>
    intro x1 x2 x3 M H locs ls hw hS hl hf
    unfold fX5_noneAbove_L18 at hf
    refine lv_iload_n hx hb dX5_noneAbove_18 rfl (lv_at hl 3 rfl) ?_
    refine lv_if_lt (tgt := 62) hx hb dX5_noneAbove_19 (by decide) (fun c1 => ?_) (fun c1 => ?_)
    · have hf := ip c1 hf
      refine lv_iconst (v := (1 : Int32)) hx hb dX5_noneAbove_62 (by decide) ?_
      obtain rfl := Option.some.inj hf
      exact rBret (x := (1 : Int32)) hx hb hr hlocks hw hS rfl dX5_noneAbove_63
    · have hf := iq c1 hf
      refine lv_iload_n hx hb dX5_noneAbove_22 rfl (lv_at hl 2 rfl) ?_
      refine lv_aload_n hx hb dX5_noneAbove_23 rfl (lv_at hl 0 rfl) ?_
      refine lv_aload_n hx hb dX5_noneAbove_24 rfl (lv_at hl 0 rfl) ?_
      refine rGet hx hb hts iX5_noneAbove_X5 hown hK hw (Nat.le_of_ble_eq_true rfl) en_pipe rfl 0 (by decide) (hts _ kX5_noneAbove_0) rfl rfl dX5_noneAbove_25 ?_
      refine lv_iload_n hx hb dX5_noneAbove_28 rfl (lv_at hl 3 rfl) ?_
      obtain ⟨hg2, hf⟩ := og hf
      refine rAald hx hb hK hw (k := 1) (Nat.le_of_ble_eq_true rfl) 2 en_segs rfl hg2 dX5_noneAbove_29 ?_
      refine lv_iload_n hx hb dX5_noneAbove_30 rfl (lv_at hl 1 rfl) ?_
      obtain ⟨o3, ho3, hf⟩ := ob hf
      refine rCallI (va_runV (As := [.ref (a + (9 + 3 * x3.toNatClampNeg)), .int x1]) (rest := [.int x2]) ⟨hx, hb, hml, hown, hts⟩ (ctX5_friction (l := l) (D := D) (cy := cy) (a := a) ho3) (cwV 2 hts gX5_noneAbove_X5_friction rfl rfl rfl (by decide +kernel) ⟨Nat.le_of_ble_eq_true rfl, Nat.le_of_ble_eq_true rfl⟩) (pV hK hZ hw hS (rRecv hK hw (Nat.le_of_ble_eq_true rfl) en_pipe rfl)) rfl rfl hl.1 rfl (lv_room (Nat.le_of_ble_eq_true rfl)) dX5_noneAbove_31 ⟨Nat.le_of_ble_eq_true rfl, Nat.le_of_ble_eq_true rfl⟩) hS (fun H locs hw hS => ?_)
      refine lv_iadd hx hb dX5_noneAbove_34 ?_
      refine lv_istore_n (lv' := [(2, .int (x2 + o3)), (0, .ref (a + 0)), (1, .int x1), (3, .int x3)]) hx hb dX5_noneAbove_35 rfl hl (Nat.le_of_ble_eq_true rfl) rfl (fun ls hl => ?_)
      refine lv_aload_n hx hb dX5_noneAbove_36 rfl (lv_at hl 1 rfl) ?_
      refine lv_iload_n hx hb dX5_noneAbove_37 rfl (lv_at hl 3 rfl) ?_
      refine lv_iload_n hx hb dX5_noneAbove_38 rfl (lv_at hl 0 rfl) ?_
      obtain ⟨o4, ho4, hf⟩ := ob hf
      refine rCallI (va_runV (As := [.int x3, .int (x2 + o3)]) (rest := []) ⟨hx, hb, hml, hown, hts⟩ (ctX5_atBeginning (l := l) (D := D) (cy := cy) (a := a) ho4) (cwV 2 hts gX5_noneAbove_X5_atBeginning rfl rfl rfl (by decide +kernel) ⟨Nat.le_of_ble_eq_true rfl, Nat.le_of_ble_eq_true rfl⟩) (pV hK hZ hw hS (rRecv hK hw (Nat.le_of_ble_eq_true rfl) en_pipe rfl)) rfl rfl hl.1 rfl (lv_room (Nat.le_of_ble_eq_true rfl)) dX5_noneAbove_39 ⟨Nat.le_of_ble_eq_true rfl, Nat.le_of_ble_eq_true rfl⟩) hS (fun H locs hw hS => ?_)
      refine lv_aload_n hx hb dX5_noneAbove_42 rfl (lv_at hl 1 rfl) ?_
      refine rGet hx hb hts iX5_noneAbove_X5 hown hK hw (Nat.le_of_ble_eq_true rfl) en_pipe rfl 0 (by decide) (hts _ kX5_noneAbove_0) rfl rfl dX5_noneAbove_43 ?_
      refine lv_iload_n hx hb dX5_noneAbove_46 rfl (lv_at hl 3 rfl) ?_
      obtain ⟨hg5, hf⟩ := og hf
      refine rAald hx hb hK hw (k := 1) (Nat.le_of_ble_eq_true rfl) 2 en_segs rfl hg5 dX5_noneAbove_47 ?_
      refine rGetNI hx hb hts iX5_noneAbove_X2 hown hK hw (kseg (vi hg5)) (en_seg (vi hg5)) rfl 5 (by decide) nwF_263 rfl ge2_5 dX5_noneAbove_48 ?_
      refine lv_icmp_le (tgt := 56) hx hb dX5_noneAbove_51 (by decide) (fun c6 => ?_) (fun c6 => ?_)
      · have hf := ip c6 hf
        refine lv_iinc (v := x3 + (-1 : Int32)) (lv' := [(3, .int (x3 + (-1 : Int32))), (2, .int (x2 + o3)), (0, .ref (a + 0)), (1, .int x1)]) hx hb dX5_noneAbove_56 hl (k := 3) rfl rfl (Nat.le_of_ble_eq_true rfl) rfl (fun ls hl => ?_)
        refine lv_goto (tgt := 18) hx hb dX5_noneAbove_59 (by decide) ?_
        exact ih _ _ _ _ _ _ _ hw hS (lv_sub hl [2, 3, 1, 0] rfl) hf
      · have hf := iq c6 hf
        refine lv_iconst (v := (0 : Int32)) hx hb dX5_noneAbove_54 (by decide) ?_
        obtain rfl := Option.some.inj hf
        exact rBret (x := (0 : Int32)) hx hb hr hlocks hw hS rfl dX5_noneAbove_55
set_option maxRecDepth 100000 in
set_option maxHeartbeats 4000000 in
theorem bX5_noneAbove_0 {p : Program} {l : Launch} {e : Env} {s : State} {m : MethodId} {args : Array Value} {below : List Frame} {meth : Method} {c : Code} {D : va_G} {cy : Nat → ClassId} {a : Nat} (hx : p.tables.exec = Jvm.exec) (hb : c.code = cX5_noneAbove) (hr : meth.sig.returnType = (some .boolean)) (hml : c.maxLocals = 4) (hown : s.vm.findClass RX5 = some m.cls) (hts : ∀ w ∈ wsX5_noneAbove, w.before args s = true) (hlocks : meth.locks = false) (hK : KS D cy s) (hZ : ZZ a s s.heap) {out : Int32} : ∀ (x1 : Int32) (M : Mm) (H : Heap) (locs : List Loc) (ls : Array Slot), HP D cy a M H → va_S (Aq a) s.heap H locs → lv_has ls 4 [(0, .ref (a + 0)), (1, .int x1)] → fX5_noneAbove x1 M = some out → W p l e rX5_noneAbove s m args below meth c H locs 0 0 (MQ below (QB D cy a out M) args s 0 0 (Aq a)) (F0 m 0 ls []) := by
  intro x1 M H locs ls hw hS hl hf
  unfold fX5_noneAbove at hf
  refine lv_aload_n hx hb dX5_noneAbove_0 rfl (lv_at hl 0 rfl) ?_
  refine lv_aload_n hx hb dX5_noneAbove_1 rfl (lv_at hl 0 rfl) ?_
  refine rGetI hx hb hts iX5_noneAbove_X5 hown hK hw (Nat.le_of_ble_eq_true rfl) en_pipe rfl 8 (by decide) (hts _ kX5_noneAbove_1) rfl ge5_8 dX5_noneAbove_2 ?_
  refine lv_iconst (v := (1 : Int32)) hx hb dX5_noneAbove_5 (by decide) ?_
  refine lv_isub hx hb dX5_noneAbove_6 ?_
  obtain ⟨o1, ho1, hf⟩ := ob hf
  refine rCallI (va_runV (As := [.int ((gi M 0 8) - (1 : Int32))]) (rest := []) ⟨hx, hb, hml, hown, hts⟩ (ctX5_headAt (l := l) (D := D) (cy := cy) (a := a) ho1) (cwV 1 hts gX5_noneAbove_X5_headAt rfl rfl rfl (by decide +kernel) ⟨Nat.le_of_ble_eq_true rfl, Nat.le_of_ble_eq_true rfl⟩) (pV hK hZ hw hS (rRecv hK hw (Nat.le_of_ble_eq_true rfl) en_pipe rfl)) rfl rfl hl.1 rfl (lv_room (Nat.le_of_ble_eq_true rfl)) dX5_noneAbove_7 ⟨Nat.le_of_ble_eq_true rfl, Nat.le_of_ble_eq_true rfl⟩) hS (fun H locs hw hS => ?_)
  refine lv_istore_n (lv' := [(2, .int o1), (0, .ref (a + 0)), (1, .int x1)]) hx hb dX5_noneAbove_10 rfl hl (Nat.le_of_ble_eq_true rfl) rfl (fun ls hl => ?_)
  refine lv_aload_n hx hb dX5_noneAbove_11 rfl (lv_at hl 1 rfl) ?_
  refine rGetI hx hb hts iX5_noneAbove_X5 hown hK hw (Nat.le_of_ble_eq_true rfl) en_pipe rfl 8 (by decide) (hts _ kX5_noneAbove_1) rfl ge5_8 dX5_noneAbove_12 ?_
  refine lv_iconst (v := (1 : Int32)) hx hb dX5_noneAbove_15 (by decide) ?_
  refine lv_isub hx hb dX5_noneAbove_16 ?_
  refine lv_istore_n (lv' := [(3, .int ((gi M 0 8) - (1 : Int32))), (2, .int o1), (0, .ref (a + 0)), (1, .int x1)]) hx hb dX5_noneAbove_17 rfl hl (Nat.le_of_ble_eq_true rfl) rfl (fun ls hl => ?_)
  exact bX5_noneAbove_18 hx hb hr hml hown hts hlocks hK hZ 400 _ _ _ _ _ _ _ hw hS (lv_sub hl [2, 3, 1, 0] rfl) hf
set_option maxRecDepth 100000 in
set_option maxHeartbeats 4000000 in
theorem ctX5_noneAbove {l : Launch} {D : va_G} {cy : Nat → ClassId} {a : Nat} {x1 : Int32} {M : Mm} {out : Int32} (hf : fX5_noneAbove x1 M = some out) : Met l yX5_noneAbove wsX5_noneAbove rX5_noneAbove (Pre D cy a M [.ref (a + 0), .int x1]) (QB D cy a out M) 0 0 (Aq a) := by
  refine Met.ofW (cc := cX5_noneAbove) (maxL := 4) (ret := (some .boolean)) (by decide +kernel) rfl ?_
  intro p e s m args below meth c s₁ B hml hv
  obtain ⟨rfl, hw, hK, hZ⟩ := hv
  have hS : va_S (Aq a) s.heap s.heap [] := va_S.rf
  have hl := lv_entry ([.ref (a + 0), .int x1]) (n := 4) (Nat.le_of_ble_eq_true rfl)
  rw [lg_entry_eq]
  generalize (lg_sl ([.ref (a + 0), .int x1]) ++ List.replicate (4 - (lg_sl ([.ref (a + 0), .int x1])).length) Slot.unset).toArray = ls at hl ⊢
  exact bX5_noneAbove_0 B.exec B.bytes B.returns hml (findClass_of_methodNamed B.named) (atoms_spec (ws := wsX5_noneAbove) B.pre) B.notSynchronized hK hZ _ _ _ _ _ hw hS hl hf
def rX5_findRate : Room := { frames := 4, cells := 0, slots := 0, locals := 88 }
noncomputable def fX5_findRate_L5 : Nat → Int32 → Mm → Option (Int32)
  | 0 => fun _ _ => none
  | n + 1 => fun x1 M => (if x1 ≤ 0 then some ((0 : Int32)) else ((fX5_noneAbove x1 M).bind fun o2 => (if o2 = 0 then (fX5_findRate_L5 n) (x1 + (-1 : Int32)) M else some (x1))))
noncomputable def fX5_findRate (M : Mm) : Option (Int32) := fX5_findRate_L5 400 (gi M 0 13) M
set_option maxRecDepth 20000 in
theorem iX5_findRate_X5 : ∀ w ∈ wsX50, w ∈ wsX5_findRate := by decide +kernel
set_option maxRecDepth 20000 in
theorem kX5_findRate_0 : Cond.fieldLink RX5 120 "BatchPipe" "rateTold" "I" ∈ wsX5_findRate := by decide +kernel
set_option maxRecDepth 100000 in
set_option maxHeartbeats 4000000 in
theorem bX5_findRate_5 {p : Program} {l : Launch} {e : Env} {s : State} {m : MethodId} {args : Array Value} {below : List Frame} {meth : Method} {c : Code} {D : va_G} {cy : Nat → ClassId} {a : Nat} (hx : p.tables.exec = Jvm.exec) (hb : c.code = cX5_findRate) (hr : meth.sig.returnType = (some .int)) (hml : c.maxLocals = 2) (hown : s.vm.findClass RX5 = some m.cls) (hts : ∀ w ∈ wsX5_findRate, w.before args s = true) (hlocks : meth.locks = false) (hK : KS D cy s) (hZ : ZZ a s s.heap) {out : Int32} : ∀ (n : Nat), ∀ (x1 : Int32) (M : Mm) (H : Heap) (locs : List Loc) (ls : Array Slot), HP D cy a M H → va_S (Aq a) s.heap H locs → lv_has ls 2 [(0, .ref (a + 0)), (1, .int x1)] → fX5_findRate_L5 n x1 M = some out → W p l e rX5_findRate s m args below meth c H locs 0 0 (MQ below (QI D cy a out M) args s 0 0 (Aq a)) (F0 m 5 ls []) := by
  intro n
  induction n with
  | zero =>
    intro x1 M H locs ls hw hS hl hf
    have hf : (none : Option (Int32)) = some out := hf
    cases hf
  | succ n ih =>
    intro x1 M H locs ls hw hS hl hf
    unfold fX5_findRate_L5 at hf
    refine lv_iload_n hx hb dX5_findRate_5 rfl (lv_at hl 1 rfl) ?_
    refine lv_if_le (tgt := 25) hx hb dX5_findRate_6 (by decide) (fun c1 => ?_) (fun c1 => ?_)
    · have hf := ip c1 hf
      refine lv_iconst (v := (0 : Int32)) hx hb dX5_findRate_25 (by decide) ?_
      obtain rfl := Option.some.inj hf
      exact rIret hx hb hr hlocks hw hS dX5_findRate_26
    · have hf := iq c1 hf
      refine lv_aload_n hx hb dX5_findRate_9 rfl (lv_at hl 0 rfl) ?_
      refine lv_iload_n hx hb dX5_findRate_10 rfl (lv_at hl 1 rfl) ?_
      obtain ⟨o2, ho2, hf⟩ := ob hf
      refine rCallB (va_runV (As := [.int x1]) (rest := []) ⟨hx, hb, hml, hown, hts⟩ (ctX5_noneAbove (l := l) (D := D) (cy := cy) (a := a) ho2) (cwV 1 hts gX5_findRate_X5_noneAbove rfl rfl rfl (by decide +kernel) ⟨Nat.le_of_ble_eq_true rfl, Nat.le_of_ble_eq_true rfl⟩) (pV hK hZ hw hS (rRecv hK hw (Nat.le_of_ble_eq_true rfl) en_pipe rfl)) rfl rfl hl.1 rfl (lv_room (Nat.le_of_ble_eq_true rfl)) dX5_findRate_11 ⟨Nat.le_of_ble_eq_true rfl, Nat.le_of_ble_eq_true rfl⟩) hS (fun H locs hw hS ho2b => ?_)
      refine lv_if_eq (tgt := 19) hx hb dX5_findRate_14 (by decide) (fun c3 => ?_) (fun c3 => ?_)
      · have hf := ip c3 hf
        refine lv_iinc (v := x1 + (-1 : Int32)) (lv' := [(1, .int (x1 + (-1 : Int32))), (0, .ref (a + 0))]) hx hb dX5_findRate_19 hl (k := 1) rfl rfl (Nat.le_of_ble_eq_true rfl) rfl (fun ls hl => ?_)
        refine lv_goto (tgt := 5) hx hb dX5_findRate_22 (by decide) ?_
        exact ih _ _ _ _ _ hw hS (lv_sub hl [1, 0] rfl) hf
      · have hf := iq c3 hf
        refine lv_iload_n hx hb dX5_findRate_17 rfl (lv_at hl 1 rfl) ?_
        obtain rfl := Option.some.inj hf
        exact rIret hx hb hr hlocks hw hS dX5_findRate_18
set_option maxRecDepth 100000 in
set_option maxHeartbeats 4000000 in
theorem bX5_findRate_0 {p : Program} {l : Launch} {e : Env} {s : State} {m : MethodId} {args : Array Value} {below : List Frame} {meth : Method} {c : Code} {D : va_G} {cy : Nat → ClassId} {a : Nat} (hx : p.tables.exec = Jvm.exec) (hb : c.code = cX5_findRate) (hr : meth.sig.returnType = (some .int)) (hml : c.maxLocals = 2) (hown : s.vm.findClass RX5 = some m.cls) (hts : ∀ w ∈ wsX5_findRate, w.before args s = true) (hlocks : meth.locks = false) (hK : KS D cy s) (hZ : ZZ a s s.heap) {out : Int32} : ∀ (M : Mm) (H : Heap) (locs : List Loc) (ls : Array Slot), HP D cy a M H → va_S (Aq a) s.heap H locs → lv_has ls 2 [(0, .ref (a + 0))] → fX5_findRate  M = some out → W p l e rX5_findRate s m args below meth c H locs 0 0 (MQ below (QI D cy a out M) args s 0 0 (Aq a)) (F0 m 0 ls []) := by
  intro M H locs ls hw hS hl hf
  unfold fX5_findRate at hf
  refine lv_aload_n hx hb dX5_findRate_0 rfl (lv_at hl 0 rfl) ?_
  refine rGetI hx hb hts iX5_findRate_X5 hown hK hw (Nat.le_of_ble_eq_true rfl) en_pipe rfl 13 (by decide) (hts _ kX5_findRate_0) rfl ge5_13 dX5_findRate_1 ?_
  refine lv_istore_n (lv' := [(1, .int (gi M 0 13)), (0, .ref (a + 0))]) hx hb dX5_findRate_4 rfl hl (Nat.le_of_ble_eq_true rfl) rfl (fun ls hl => ?_)
  exact bX5_findRate_5 hx hb hr hml hown hts hlocks hK hZ 400 _ _ _ _ _ hw hS (lv_sub hl [1, 0] rfl) hf
set_option maxRecDepth 100000 in
set_option maxHeartbeats 4000000 in
theorem ctX5_findRate {l : Launch} {D : va_G} {cy : Nat → ClassId} {a : Nat} {M : Mm} {out : Int32} (hf : fX5_findRate  M = some out) : Met l yX5_findRate wsX5_findRate rX5_findRate (Pre D cy a M [.ref (a + 0)]) (QI D cy a out M) 0 0 (Aq a) := by
  refine Met.ofW (cc := cX5_findRate) (maxL := 2) (ret := (some .int)) (by decide +kernel) rfl ?_
  intro p e s m args below meth c s₁ B hml hv
  obtain ⟨rfl, hw, hK, hZ⟩ := hv
  have hS : va_S (Aq a) s.heap s.heap [] := va_S.rf
  have hl := lv_entry ([.ref (a + 0)]) (n := 2) (Nat.le_of_ble_eq_true rfl)
  rw [lg_entry_eq]
  generalize (lg_sl ([.ref (a + 0)]) ++ List.replicate (2 - (lg_sl ([.ref (a + 0)])).length) Slot.unset).toArray = ls at hl ⊢
  exact bX5_findRate_0 B.exec B.bytes B.returns hml (findClass_of_methodNamed B.named) (atoms_spec (ws := wsX5_findRate) B.pre) B.notSynchronized hK hZ _ _ _ _ hw hS hl hf
def rX5_nextBatch : Room := { frames := 1, cells := 0, slots := 0, locals := 21 }
noncomputable def fX5_nextBatch_L17 : Nat → Int32 → Mm → Option (Option Nat)
  | 0 => fun _ _ => none
  | n + 1 => fun x1 M => (if (gi M 0 9) ≤ x1 then some (none) else (if ¬ (x1 < 0 ∨ 40 ≤ x1.toNatClampNeg) then (if (gi M (33 + x1.toNatClampNeg) 4) = 0 then (if ¬ (x1 < 0 ∨ 40 ≤ x1.toNatClampNeg) then ((gr M 0 11).bind fun j5 => (if j5 < 40 then ((gr M (33 + x1.toNatClampNeg) 1).bind fun j7 => ((gr M (33 + j5) 1).bind fun j8 => (if j7 < 6 then ((fX1_bears j7 j8 M).bind fun o10 => (if o10 = 0 then (fX5_nextBatch_L17 n) (x1 + (1 : Int32)) M else (if ¬ (x1 < 0 ∨ 40 ≤ x1.toNatClampNeg) then some (some x1.toNatClampNeg) else none))) else none))) else none)) else none) else (fX5_nextBatch_L17 n) (x1 + (1 : Int32)) M) else none))
noncomputable def fX5_nextBatch (M : Mm) : Option (Option Nat) := ((gr M 0 11).bind fun j1 => (if j1 < 40 then ((fX0_waiting j1 M).bind fun o3 => (if o3 ≤ 0 then fX5_nextBatch_L17 400 (1 : Int32) M else some (gr M 0 11))) else none))
set_option maxRecDepth 20000 in
theorem iX5_nextBatch_X0 : ∀ w ∈ wsX00, w ∈ wsX5_nextBatch := by decide +kernel
set_option maxRecDepth 20000 in
theorem iX5_nextBatch_X5 : ∀ w ∈ wsX50, w ∈ wsX5_nextBatch := by decide +kernel
set_option maxRecDepth 20000 in
theorem kX5_nextBatch_0 : Cond.fieldLink RX5 50 "BatchPipe" "batchCount" "I" ∈ wsX5_nextBatch := by decide +kernel
set_option maxRecDepth 20000 in
theorem kX5_nextBatch_1 : Cond.fieldLink RX5 23 "BatchPipe" "batches" "[LBatchPipe$Batch;" ∈ wsX5_nextBatch := by decide +kernel
set_option maxRecDepth 20000 in
theorem kX5_nextBatch_2 : Cond.fieldLink RX5 65 "BatchPipe" "inletBatch" "LBatchPipe$Batch;" ∈ wsX5_nextBatch := by decide +kernel
set_option maxRecDepth 20000 in
theorem kX5_nextBatch_3 : Cond.initialized RX1 ∈ wsX5_nextBatch := by decide +kernel
set_option maxRecDepth 20000 in
theorem kX5_nextBatch_4 : Cond.instanceMethod yX1_bears ∈ wsX5_nextBatch := by decide +kernel
set_option maxRecDepth 20000 in
theorem kX5_nextBatch_5 : Cond.selects RX1 yX1_bears yX1_bears ∈ wsX5_nextBatch := by decide +kernel
set_option maxRecDepth 20000 in
theorem kX5_nextBatch_6 : Cond.initialized RX0 ∈ wsX5_nextBatch := by decide +kernel
set_option maxRecDepth 20000 in
theorem kX5_nextBatch_7 : Cond.instanceMethod yX0_waiting ∈ wsX5_nextBatch := by decide +kernel
set_option maxRecDepth 20000 in
theorem kX5_nextBatch_8 : Cond.selects RX0 yX0_waiting yX0_waiting ∈ wsX5_nextBatch := by decide +kernel
set_option maxRecDepth 100000 in
set_option maxHeartbeats 4000000 in
theorem bX5_nextBatch_17 {p : Program} {l : Launch} {e : Env} {s : State} {m : MethodId} {args : Array Value} {below : List Frame} {meth : Method} {c : Code} {D : va_G} {cy : Nat → ClassId} {a : Nat} (hx : p.tables.exec = Jvm.exec) (hb : c.code = cX5_nextBatch) (hr : meth.sig.returnType = (some (.object "BatchPipe$Batch"))) (hml : c.maxLocals = 2) (hown : s.vm.findClass RX5 = some m.cls) (hts : ∀ w ∈ wsX5_nextBatch, w.before args s = true) (hlocks : meth.locks = false) (hK : KS D cy s) (hZ : ZZ a s s.heap) {out : Option Nat} : ∀ (n : Nat), ∀ (x1 : Int32) (M : Mm) (H : Heap) (locs : List Loc) (ls : Array Slot), HP D cy a M H → va_S (Aq a) s.heap H locs → lv_has ls 2 [(0, .ref (a + 0)), (1, .int x1)] → fX5_nextBatch_L17 n x1 M = some out → W p l e rX5_nextBatch s m args below meth c H locs 0 0 (MQ below (QR D cy a 33 out M) args s 0 0 (Aq a)) (F0 m 17 ls []) := by
  intro n
  induction n with
  | zero =>
    intro x1 M H locs ls hw hS hl hf
    have hf : (none : Option (Option Nat)) = some out := hf
    cases hf
  | succ n ih =>
    intro x1 M H locs ls hw hS hl hf
    unfold fX5_nextBatch_L17 at hf
    refine lv_iload_n hx hb dX5_nextBatch_17 rfl (lv_at hl 1 rfl) ?_
    refine lv_aload_n hx hb dX5_nextBatch_18 rfl (lv_at hl 0 rfl) ?_
    refine rGetI hx hb hts iX5_nextBatch_X5 hown hK hw (Nat.le_of_ble_eq_true rfl) en_pipe rfl 9 (by decide) (hts _ kX5_nextBatch_0) rfl ge5_9 dX5_nextBatch_19 ?_
    refine lv_icmp_ge (tgt := 72) hx hb dX5_nextBatch_22 (by decide) (fun c1 => ?_) (fun c1 => ?_)
    · have hf := ip c1 hf
      refine lv_null hx hb dX5_nextBatch_72 ?_
      obtain rfl := Option.some.inj hf
      exact rRret (base := 33) (o := none) hx hb hr hlocks hw hS dX5_nextBatch_73
    · have hf := iq c1 hf
      refine lv_aload_n hx hb dX5_nextBatch_25 rfl (lv_at hl 0 rfl) ?_
      refine rGet hx hb hts iX5_nextBatch_X5 hown hK hw (Nat.le_of_ble_eq_true rfl) en_pipe rfl 2 (by decide) (hts _ kX5_nextBatch_1) rfl rfl dX5_nextBatch_26 ?_
      refine lv_iload_n hx hb dX5_nextBatch_29 rfl (lv_at hl 1 rfl) ?_
      obtain ⟨hg2, hf⟩ := og hf
      refine rAald hx hb hK hw (k := 3) (Nat.le_of_ble_eq_true rfl) 4 en_bats rfl hg2 dX5_nextBatch_30 ?_
      refine rGetNI hx hb hts iX5_nextBatch_X0 hown hK hw (kbat (vi hg2)) (en_bat (vi hg2)) rfl 4 (by decide) nwF_111 rfl ge0_4 dX5_nextBatch_31 ?_
      refine lv_if_ne (tgt := 66) hx hb dX5_nextBatch_34 (by decide) (fun c3 => ?_) (fun c3 => ?_)
      · have hf := iq c3 hf
        refine lv_iinc (v := x1 + (1 : Int32)) (lv' := [(1, .int (x1 + (1 : Int32))), (0, .ref (a + 0))]) hx hb dX5_nextBatch_66 hl (k := 1) rfl rfl (Nat.le_of_ble_eq_true rfl) rfl (fun ls hl => ?_)
        refine lv_goto (tgt := 17) hx hb dX5_nextBatch_69 (by decide) ?_
        exact ih _ _ _ _ _ hw hS (lv_sub hl [1, 0] rfl) hf
      · have hf := ip c3 hf
        refine lv_aload_n hx hb dX5_nextBatch_37 rfl (lv_at hl 0 rfl) ?_
        refine rGet hx hb hts iX5_nextBatch_X5 hown hK hw (Nat.le_of_ble_eq_true rfl) en_pipe rfl 2 (by decide) (hts _ kX5_nextBatch_1) rfl rfl dX5_nextBatch_38 ?_
        refine lv_iload_n hx hb dX5_nextBatch_41 rfl (lv_at hl 1 rfl) ?_
        obtain ⟨hg4, hf⟩ := og hf
        refine rAald hx hb hK hw (k := 3) (Nat.le_of_ble_eq_true rfl) 4 en_bats rfl hg4 dX5_nextBatch_42 ?_
        refine rGetNR hx hb hts iX5_nextBatch_X0 hown hK hw (kbat (vi hg4)) (en_bat (vi hg4)) rfl 1 (by decide) nwF_168 rfl (base := 27) ge0_1 dX5_nextBatch_43 ?_
        refine lv_aload_n hx hb dX5_nextBatch_46 rfl (lv_at hl 0 rfl) ?_
        refine rGetR hx hb hts iX5_nextBatch_X5 hown hK hw (Nat.le_of_ble_eq_true rfl) en_pipe rfl 11 (by decide) (hts _ kX5_nextBatch_2) rfl (base := 33) ge5_11 dX5_nextBatch_47 ?_
        obtain ⟨j5, ej5, hf⟩ := ob hf
        refine rDer ej5 ?_
        obtain ⟨hi6, hf⟩ := og hf
        refine rGetNR hx hb hts iX5_nextBatch_X0 hown hK hw (kbat hi6) (en_bat hi6) rfl 1 (by decide) nwF_168 rfl (base := 27) ge0_1 dX5_nextBatch_50 ?_
        obtain ⟨j7, ej7, hf⟩ := ob hf
        obtain ⟨j8, ej8, hf⟩ := ob hf
        refine W.eq (g2 := F0 m 53 ls [.ref (a + (27 + j8)), .ref (a + (27 + j7))]) (by rw [ej8, ej7]; rfl) ?_
        obtain ⟨hi9, hf⟩ := og hf
        obtain ⟨o10, ho10, hf⟩ := ob hf
        refine rCallB (va_runVN (As := [.ref (a + (27 + j8))]) (rest := []) ⟨hx, hb, hml, hown, hts⟩ (ctX1_bears (l := l) (D := D) (cy := cy) (a := a) ho10) ⟨va_cnB 1 hts gX5_nextBatch_X1_bears_n300 rfl rfl rfl (hK.2.2.1 _ nwM_300) (hts _ kX5_nextBatch_3) (by decide +kernel) ⟨Nat.le_of_ble_eq_true rfl, Nat.le_of_ble_eq_true rfl⟩, (hts _ kX5_nextBatch_4), (hts _ kX5_nextBatch_5)⟩ (pV hK hZ hw hS (rRecv hK hw (kprod hi9) (en_prod hi9) rfl)) rfl rfl hl.1 rfl (lv_room (Nat.le_of_ble_eq_true rfl)) dX5_nextBatch_53 ⟨Nat.le_of_ble_eq_true rfl, Nat.le_of_ble_eq_true rfl⟩) hS (fun H locs hw hS ho10b => ?_)
        refine lv_if_eq (tgt := 66) hx hb dX5_nextBatch_56 (by decide) (fun c11 => ?_) (fun c11 => ?_)
        · have hf := ip c11 hf
          refine lv_iinc (v := x1 + (1 : Int32)) (lv' := [(1, .int (x1 + (1 : Int32))), (0, .ref (a + 0))]) hx hb dX5_nextBatch_66 hl (k := 1) rfl rfl (Nat.le_of_ble_eq_true rfl) rfl (fun ls hl => ?_)
          refine lv_goto (tgt := 17) hx hb dX5_nextBatch_69 (by decide) ?_
          exact ih _ _ _ _ _ hw hS (lv_sub hl [1, 0] rfl) hf
        · have hf := iq c11 hf
          refine lv_aload_n hx hb dX5_nextBatch_59 rfl (lv_at hl 0 rfl) ?_
          refine rGet hx hb hts iX5_nextBatch_X5 hown hK hw (Nat.le_of_ble_eq_true rfl) en_pipe rfl 2 (by decide) (hts _ kX5_nextBatch_1) rfl rfl dX5_nextBatch_60 ?_
          refine lv_iload_n hx hb dX5_nextBatch_63 rfl (lv_at hl 1 rfl) ?_
          obtain ⟨hg12, hf⟩ := og hf
          refine rAald hx hb hK hw (k := 3) (Nat.le_of_ble_eq_true rfl) 4 en_bats rfl hg12 dX5_nextBatch_64 ?_
          obtain rfl := Option.some.inj hf
          exact rRret (base := 33) (o := some x1.toNatClampNeg) hx hb hr hlocks hw hS dX5_nextBatch_65
set_option maxRecDepth 100000 in
set_option maxHeartbeats 4000000 in
theorem bX5_nextBatch_0 {p : Program} {l : Launch} {e : Env} {s : State} {m : MethodId} {args : Array Value} {below : List Frame} {meth : Method} {c : Code} {D : va_G} {cy : Nat → ClassId} {a : Nat} (hx : p.tables.exec = Jvm.exec) (hb : c.code = cX5_nextBatch) (hr : meth.sig.returnType = (some (.object "BatchPipe$Batch"))) (hml : c.maxLocals = 2) (hown : s.vm.findClass RX5 = some m.cls) (hts : ∀ w ∈ wsX5_nextBatch, w.before args s = true) (hlocks : meth.locks = false) (hK : KS D cy s) (hZ : ZZ a s s.heap) {out : Option Nat} : ∀ (M : Mm) (H : Heap) (locs : List Loc) (ls : Array Slot), HP D cy a M H → va_S (Aq a) s.heap H locs → lv_has ls 2 [(0, .ref (a + 0))] → fX5_nextBatch  M = some out → W p l e rX5_nextBatch s m args below meth c H locs 0 0 (MQ below (QR D cy a 33 out M) args s 0 0 (Aq a)) (F0 m 0 ls []) := by
  intro M H locs ls hw hS hl hf
  unfold fX5_nextBatch at hf
  refine lv_aload_n hx hb dX5_nextBatch_0 rfl (lv_at hl 0 rfl) ?_
  refine rGetR hx hb hts iX5_nextBatch_X5 hown hK hw (Nat.le_of_ble_eq_true rfl) en_pipe rfl 11 (by decide) (hts _ kX5_nextBatch_2) rfl (base := 33) ge5_11 dX5_nextBatch_1 ?_
  obtain ⟨j1, ej1, hf⟩ := ob hf
  refine W.eq (g2 := F0 m 4 ls [.ref (a + (33 + j1))]) (by rw [ej1]; rfl) ?_
  obtain ⟨hi2, hf⟩ := og hf
  obtain ⟨o3, ho3, hf⟩ := ob hf
  refine rCallI (va_runVN (As := []) (rest := []) ⟨hx, hb, hml, hown, hts⟩ (ctX0_waiting (l := l) (D := D) (cy := cy) (a := a) ho3) ⟨va_cnB 0 hts gX5_nextBatch_X0_waiting_n161 rfl rfl rfl (hK.2.2.1 _ nwM_161) (hts _ kX5_nextBatch_6) (by decide +kernel) ⟨Nat.le_of_ble_eq_true rfl, Nat.le_of_ble_eq_true rfl⟩, (hts _ kX5_nextBatch_7), (hts _ kX5_nextBatch_8)⟩ (pV hK hZ hw hS (rRecv hK hw (kbat hi2) (en_bat hi2) rfl)) rfl rfl hl.1 rfl (lv_room (Nat.le_of_ble_eq_true rfl)) dX5_nextBatch_4 ⟨Nat.le_of_ble_eq_true rfl, Nat.le_of_ble_eq_true rfl⟩) hS (fun H locs hw hS => ?_)
  refine lv_if_le (tgt := 15) hx hb dX5_nextBatch_7 (by decide) (fun c4 => ?_) (fun c4 => ?_)
  · have hf := ip c4 hf
    refine lv_iconst (v := (1 : Int32)) hx hb dX5_nextBatch_15 (by decide) ?_
    refine lv_istore_n (lv' := [(1, .int (1 : Int32)), (0, .ref (a + 0))]) hx hb dX5_nextBatch_16 rfl hl (Nat.le_of_ble_eq_true rfl) rfl (fun ls hl => ?_)
    exact bX5_nextBatch_17 hx hb hr hml hown hts hlocks hK hZ 400 _ _ _ _ _ hw hS (lv_sub hl [1, 0] rfl) hf
  · have hf := iq c4 hf
    refine lv_aload_n hx hb dX5_nextBatch_10 rfl (lv_at hl 0 rfl) ?_
    refine rGetR hx hb hts iX5_nextBatch_X5 hown hK hw (Nat.le_of_ble_eq_true rfl) en_pipe rfl 11 (by decide) (hts _ kX5_nextBatch_2) rfl (base := 33) ge5_11 dX5_nextBatch_11 ?_
    obtain rfl := Option.some.inj hf
    exact rRret (base := 33) (o := gr M 0 11) hx hb hr hlocks hw hS dX5_nextBatch_14
set_option maxRecDepth 100000 in
set_option maxHeartbeats 4000000 in
theorem ctX5_nextBatch {l : Launch} {D : va_G} {cy : Nat → ClassId} {a : Nat} {M : Mm} {out : Option Nat} (hf : fX5_nextBatch  M = some out) : Met l yX5_nextBatch wsX5_nextBatch rX5_nextBatch (Pre D cy a M [.ref (a + 0)]) (QR D cy a 33 out M) 0 0 (Aq a) := by
  refine Met.ofW (cc := cX5_nextBatch) (maxL := 2) (ret := (some (.object "BatchPipe$Batch"))) (by decide +kernel) rfl ?_
  intro p e s m args below meth c s₁ B hml hv
  obtain ⟨rfl, hw, hK, hZ⟩ := hv
  have hS : va_S (Aq a) s.heap s.heap [] := va_S.rf
  have hl := lv_entry ([.ref (a + 0)]) (n := 2) (Nat.le_of_ble_eq_true rfl)
  rw [lg_entry_eq]
  generalize (lg_sl ([.ref (a + 0)]) ++ List.replicate (2 - (lg_sl ([.ref (a + 0)])).length) Slot.unset).toArray = ls at hl ⊢
  exact bX5_nextBatch_0 B.exec B.bytes B.returns hml (findClass_of_methodNamed B.named) (atoms_spec (ws := wsX5_nextBatch) B.pre) B.notSynchronized hK hZ _ _ _ _ hw hS hl hf
def rX5_nextTap : Room := { frames := 1, cells := 0, slots := 0, locals := 20 }
noncomputable def fX5_nextTap (M : Mm) : Option (Option Nat) := ((fX4_takesMore 0 M).bind fun o1 => (if o1 = 0 then ((fX4_takesMore 1 M).bind fun o3 => (if o3 = 0 then some (some 2) else some (some 1))) else some (some 0)))
set_option maxRecDepth 20000 in
theorem iX5_nextTap_X5 : ∀ w ∈ wsX50, w ∈ wsX5_nextTap := by decide +kernel
set_option maxRecDepth 20000 in
theorem kX5_nextTap_0 : Cond.fieldLink RX5 40 "BatchPipe" "leakTap" "LBatchPipe$Tap;" ∈ wsX5_nextTap := by decide +kernel
set_option maxRecDepth 20000 in
theorem kX5_nextTap_1 : Cond.initialized RX4 ∈ wsX5_nextTap := by decide +kernel
set_option maxRecDepth 20000 in
theorem kX5_nextTap_2 : Cond.instanceMethod yX4_takesMore ∈ wsX5_nextTap := by decide +kernel
set_option maxRecDepth 20000 in
theorem kX5_nextTap_3 : Cond.selects RX4 yX4_takesMore yX4_takesMore ∈ wsX5_nextTap := by decide +kernel
set_option maxRecDepth 20000 in
theorem kX5_nextTap_4 : Cond.fieldLink RX5 44 "BatchPipe" "dropTap" "LBatchPipe$Tap;" ∈ wsX5_nextTap := by decide +kernel
set_option maxRecDepth 20000 in
theorem kX5_nextTap_5 : Cond.fieldLink RX5 47 "BatchPipe" "outlet" "LBatchPipe$Tap;" ∈ wsX5_nextTap := by decide +kernel
set_option maxRecDepth 100000 in
set_option maxHeartbeats 4000000 in
theorem bX5_nextTap_0 {p : Program} {l : Launch} {e : Env} {s : State} {m : MethodId} {args : Array Value} {below : List Frame} {meth : Method} {c : Code} {D : va_G} {cy : Nat → ClassId} {a : Nat} (hx : p.tables.exec = Jvm.exec) (hb : c.code = cX5_nextTap) (hr : meth.sig.returnType = (some (.object "BatchPipe$Tap"))) (hml : c.maxLocals = 1) (hown : s.vm.findClass RX5 = some m.cls) (hts : ∀ w ∈ wsX5_nextTap, w.before args s = true) (hlocks : meth.locks = false) (hK : KS D cy s) (hZ : ZZ a s s.heap) {out : Option Nat} : ∀ (M : Mm) (H : Heap) (locs : List Loc) (ls : Array Slot), HP D cy a M H → va_S (Aq a) s.heap H locs → lv_has ls 1 [(0, .ref (a + 0))] → fX5_nextTap  M = some out → W p l e rX5_nextTap s m args below meth c H locs 0 0 (MQ below (QR D cy a 6 out M) args s 0 0 (Aq a)) (F0 m 0 ls []) := by
  intro M H locs ls hw hS hl hf
  unfold fX5_nextTap at hf
  refine lv_aload_n hx hb dX5_nextTap_0 rfl (lv_at hl 0 rfl) ?_
  refine rGet hx hb hts iX5_nextTap_X5 hown hK hw (Nat.le_of_ble_eq_true rfl) en_pipe rfl 5 (by decide) (hts _ kX5_nextTap_0) rfl rfl dX5_nextTap_1 ?_
  obtain ⟨o1, ho1, hf⟩ := ob hf
  refine rCallB (va_runVN (As := []) (rest := []) ⟨hx, hb, hml, hown, hts⟩ (ctX4_takesMore (l := l) (D := D) (cy := cy) (a := a) ho1) ⟨va_cnB 0 hts gX5_nextTap_X4_takesMore_n304 rfl rfl rfl (hK.2.2.1 _ nwM_304) (hts _ kX5_nextTap_1) (by decide +kernel) ⟨Nat.le_of_ble_eq_true rfl, Nat.le_of_ble_eq_true rfl⟩, (hts _ kX5_nextTap_2), (hts _ kX5_nextTap_3)⟩ (pV hK hZ hw hS (rRecv hK hw (ktap (Nat.le_of_ble_eq_true rfl)) (en_tap (Nat.le_of_ble_eq_true rfl)) rfl)) rfl rfl hl.1 rfl (lv_room (Nat.le_of_ble_eq_true rfl)) dX5_nextTap_4 ⟨Nat.le_of_ble_eq_true rfl, Nat.le_of_ble_eq_true rfl⟩) hS (fun H locs hw hS ho1b => ?_)
  refine lv_if_eq (tgt := 15) hx hb dX5_nextTap_7 (by decide) (fun c2 => ?_) (fun c2 => ?_)
  · have hf := ip c2 hf
    refine lv_aload_n hx hb dX5_nextTap_15 rfl (lv_at hl 0 rfl) ?_
    refine rGet hx hb hts iX5_nextTap_X5 hown hK hw (Nat.le_of_ble_eq_true rfl) en_pipe rfl 6 (by decide) (hts _ kX5_nextTap_4) rfl rfl dX5_nextTap_16 ?_
    obtain ⟨o3, ho3, hf⟩ := ob hf
    refine rCallB (va_runVN (As := []) (rest := []) ⟨hx, hb, hml, hown, hts⟩ (ctX4_takesMore (l := l) (D := D) (cy := cy) (a := a) ho3) ⟨va_cnB 0 hts gX5_nextTap_X4_takesMore_n304 rfl rfl rfl (hK.2.2.1 _ nwM_304) (hts _ kX5_nextTap_1) (by decide +kernel) ⟨Nat.le_of_ble_eq_true rfl, Nat.le_of_ble_eq_true rfl⟩, (hts _ kX5_nextTap_2), (hts _ kX5_nextTap_3)⟩ (pV hK hZ hw hS (rRecv hK hw (ktap (Nat.le_of_ble_eq_true rfl)) (en_tap (Nat.le_of_ble_eq_true rfl)) rfl)) rfl rfl hl.1 rfl (lv_room (Nat.le_of_ble_eq_true rfl)) dX5_nextTap_19 ⟨Nat.le_of_ble_eq_true rfl, Nat.le_of_ble_eq_true rfl⟩) hS (fun H locs hw hS ho3b => ?_)
    refine lv_if_eq (tgt := 32) hx hb dX5_nextTap_22 (by decide) (fun c4 => ?_) (fun c4 => ?_)
    · have hf := ip c4 hf
      refine lv_aload_n hx hb dX5_nextTap_32 rfl (lv_at hl 0 rfl) ?_
      refine rGet hx hb hts iX5_nextTap_X5 hown hK hw (Nat.le_of_ble_eq_true rfl) en_pipe rfl 7 (by decide) (hts _ kX5_nextTap_5) rfl rfl dX5_nextTap_33 ?_
      obtain rfl := Option.some.inj hf
      exact rRret (base := 6) (o := some 2) hx hb hr hlocks hw hS dX5_nextTap_36
    · have hf := iq c4 hf
      refine lv_aload_n hx hb dX5_nextTap_25 rfl (lv_at hl 0 rfl) ?_
      refine rGet hx hb hts iX5_nextTap_X5 hown hK hw (Nat.le_of_ble_eq_true rfl) en_pipe rfl 6 (by decide) (hts _ kX5_nextTap_4) rfl rfl dX5_nextTap_26 ?_
      refine lv_goto (tgt := 36) hx hb dX5_nextTap_29 (by decide) ?_
      obtain rfl := Option.some.inj hf
      exact rRret (base := 6) (o := some 1) hx hb hr hlocks hw hS dX5_nextTap_36
  · have hf := iq c2 hf
    refine lv_aload_n hx hb dX5_nextTap_10 rfl (lv_at hl 0 rfl) ?_
    refine rGet hx hb hts iX5_nextTap_X5 hown hK hw (Nat.le_of_ble_eq_true rfl) en_pipe rfl 5 (by decide) (hts _ kX5_nextTap_0) rfl rfl dX5_nextTap_11 ?_
    obtain rfl := Option.some.inj hf
    exact rRret (base := 6) (o := some 0) hx hb hr hlocks hw hS dX5_nextTap_14
set_option maxRecDepth 100000 in
set_option maxHeartbeats 4000000 in
theorem ctX5_nextTap {l : Launch} {D : va_G} {cy : Nat → ClassId} {a : Nat} {M : Mm} {out : Option Nat} (hf : fX5_nextTap  M = some out) : Met l yX5_nextTap wsX5_nextTap rX5_nextTap (Pre D cy a M [.ref (a + 0)]) (QR D cy a 6 out M) 0 0 (Aq a) := by
  refine Met.ofW (cc := cX5_nextTap) (maxL := 1) (ret := (some (.object "BatchPipe$Tap"))) (by decide +kernel) rfl ?_
  intro p e s m args below meth c s₁ B hml hv
  obtain ⟨rfl, hw, hK, hZ⟩ := hv
  have hS : va_S (Aq a) s.heap s.heap [] := va_S.rf
  have hl := lv_entry ([.ref (a + 0)]) (n := 1) (Nat.le_of_ble_eq_true rfl)
  rw [lg_entry_eq]
  generalize (lg_sl ([.ref (a + 0)]) ++ List.replicate (1 - (lg_sl ([.ref (a + 0)])).length) Slot.unset).toArray = ls at hl ⊢
  exact bX5_nextTap_0 B.exec B.bytes B.returns hml (findClass_of_methodNamed B.named) (atoms_spec (ws := wsX5_nextTap) B.pre) B.notSynchronized hK hZ _ _ _ _ hw hS hl hf
def rX5_placeOf : Room := { frames := 0, cells := 0, slots := 0, locals := 0 }
noncomputable def fX5_placeOf (x1 : Int32) (M : Mm) : Option (Int32) := some (irem x1 (512 : Int32))
set_option maxRecDepth 100000 in
set_option maxHeartbeats 4000000 in
theorem bX5_placeOf_0 {p : Program} {l : Launch} {e : Env} {s : State} {m : MethodId} {args : Array Value} {below : List Frame} {meth : Method} {c : Code} {D : va_G} {cy : Nat → ClassId} {a : Nat} (hx : p.tables.exec = Jvm.exec) (hb : c.code = cX5_placeOf) (hr : meth.sig.returnType = (some .int)) (hml : c.maxLocals = 2) (hown : s.vm.findClass RX5 = some m.cls) (hts : ∀ w ∈ wsX5_placeOf, w.before args s = true) (hlocks : meth.locks = false) (hK : KS D cy s) (hZ : ZZ a s s.heap) {out : Int32} : ∀ (x1 : Int32) (M : Mm) (H : Heap) (locs : List Loc) (ls : Array Slot), HP D cy a M H → va_S (Aq a) s.heap H locs → lv_has ls 2 [(0, .ref (a + 0)), (1, .int x1)] → fX5_placeOf x1 M = some out → W p l e rX5_placeOf s m args below meth c H locs 0 0 (MQ below (QI D cy a out M) args s 0 0 (Aq a)) (F0 m 0 ls []) := by
  intro x1 M H locs ls hw hS hl hf
  unfold fX5_placeOf at hf
  refine lv_iload_n hx hb dX5_placeOf_0 rfl (lv_at hl 1 rfl) ?_
  refine lv_sipush (v := (512 : Int32)) hx hb dX5_placeOf_1 (by decide) ?_
  refine lv_irem hx hb dX5_placeOf_4 (by decide) ?_
  obtain rfl := Option.some.inj hf
  exact rIret hx hb hr hlocks hw hS dX5_placeOf_5
set_option maxRecDepth 100000 in
set_option maxHeartbeats 4000000 in
theorem ctX5_placeOf {l : Launch} {D : va_G} {cy : Nat → ClassId} {a : Nat} {x1 : Int32} {M : Mm} {out : Int32} (hf : fX5_placeOf x1 M = some out) : Met l yX5_placeOf wsX5_placeOf rX5_placeOf (Pre D cy a M [.ref (a + 0), .int x1]) (QI D cy a out M) 0 0 (Aq a) := by
  refine Met.ofW (cc := cX5_placeOf) (maxL := 2) (ret := (some .int)) (by decide +kernel) rfl ?_
  intro p e s m args below meth c s₁ B hml hv
  obtain ⟨rfl, hw, hK, hZ⟩ := hv
  have hS : va_S (Aq a) s.heap s.heap [] := va_S.rf
  have hl := lv_entry ([.ref (a + 0), .int x1]) (n := 2) (Nat.le_of_ble_eq_true rfl)
  rw [lg_entry_eq]
  generalize (lg_sl ([.ref (a + 0), .int x1]) ++ List.replicate (2 - (lg_sl ([.ref (a + 0), .int x1])).length) Slot.unset).toArray = ls at hl ⊢
  exact bX5_placeOf_0 B.exec B.bytes B.returns hml (findClass_of_methodNamed B.named) (atoms_spec (ws := wsX5_placeOf) B.pre) B.notSynchronized hK hZ _ _ _ _ _ hw hS hl hf
def rX5_wholeRoot : Room := { frames := 0, cells := 0, slots := 0, locals := 0 }
noncomputable def fX5_wholeRoot_L6 : Nat → Int32 → Int32 → Int32 → Mm → Option (Int32)
  | 0 => fun _ _ _ _ => none
  | n + 1 => fun x1 x2 x3 M => (if x3 ≤ 0 then some (x2) else (if x1 < ((x2 + x3) * (x2 + x3)) then (fX5_wholeRoot_L6 n) x1 x2 (x3 / (2 : Int32)) M else (fX5_wholeRoot_L6 n) x1 (x2 + x3) (x3 / (2 : Int32)) M))
noncomputable def fX5_wholeRoot (x1 : Int32) (M : Mm) : Option (Int32) := fX5_wholeRoot_L6 400 x1 (0 : Int32) (128 : Int32) M
set_option maxRecDepth 100000 in
set_option maxHeartbeats 4000000 in
theorem bX5_wholeRoot_6 {p : Program} {l : Launch} {e : Env} {s : State} {m : MethodId} {args : Array Value} {below : List Frame} {meth : Method} {c : Code} {D : va_G} {cy : Nat → ClassId} {a : Nat} (hx : p.tables.exec = Jvm.exec) (hb : c.code = cX5_wholeRoot) (hr : meth.sig.returnType = (some .int)) (hml : c.maxLocals = 4) (hown : s.vm.findClass RX5 = some m.cls) (hts : ∀ w ∈ wsX5_wholeRoot, w.before args s = true) (hlocks : meth.locks = false) (hK : KS D cy s) (hZ : ZZ a s s.heap) {out : Int32} : ∀ (n : Nat), ∀ (x1 : Int32) (x2 : Int32) (x3 : Int32) (M : Mm) (H : Heap) (locs : List Loc) (ls : Array Slot), HP D cy a M H → va_S (Aq a) s.heap H locs → lv_has ls 4 [(1, .int x1), (2, .int x2), (3, .int x3)] → fX5_wholeRoot_L6 n x1 x2 x3 M = some out → W p l e rX5_wholeRoot s m args below meth c H locs 0 0 (MQ below (QI D cy a out M) args s 0 0 (Aq a)) (F0 m 6 ls []) := by
  intro n
  induction n with
  | zero =>
    intro x1 x2 x3 M H locs ls hw hS hl hf
    have hf : (none : Option (Int32)) = some out := hf
    cases hf
  | succ n ih =>
    intro x1 x2 x3 M H locs ls hw hS hl hf
    unfold fX5_wholeRoot_L6 at hf
    refine lv_iload_n hx hb dX5_wholeRoot_6 rfl (lv_at hl 2 rfl) ?_
    refine lv_if_le (tgt := 32) hx hb dX5_wholeRoot_7 (by decide) (fun c1 => ?_) (fun c1 => ?_)
    · have hf := ip c1 hf
      refine lv_iload_n hx hb dX5_wholeRoot_32 rfl (lv_at hl 1 rfl) ?_
      obtain rfl := Option.some.inj hf
      exact rIret hx hb hr hlocks hw hS dX5_wholeRoot_33
    · have hf := iq c1 hf
      refine lv_iload_n hx hb dX5_wholeRoot_10 rfl (lv_at hl 1 rfl) ?_
      refine lv_iload_n hx hb dX5_wholeRoot_11 rfl (lv_at hl 2 rfl) ?_
      refine lv_iadd hx hb dX5_wholeRoot_12 ?_
      refine lv_iload_n hx hb dX5_wholeRoot_13 rfl (lv_at hl 1 rfl) ?_
      refine lv_iload_n hx hb dX5_wholeRoot_14 rfl (lv_at hl 2 rfl) ?_
      refine lv_iadd hx hb dX5_wholeRoot_15 ?_
      refine lv_imul hx hb dX5_wholeRoot_16 ?_
      refine lv_iload_n hx hb dX5_wholeRoot_17 rfl (lv_at hl 0 rfl) ?_
      refine lv_icmp_gt (tgt := 25) hx hb dX5_wholeRoot_18 (by decide) (fun c2 => ?_) (fun c2 => ?_)
      · have hf := ip c2 hf
        refine lv_iload_n hx hb dX5_wholeRoot_25 rfl (lv_at hl 2 rfl) ?_
        refine lv_iconst (v := (2 : Int32)) hx hb dX5_wholeRoot_26 (by decide) ?_
        refine lv_idiv hx hb dX5_wholeRoot_27 (by decide) ?_
        refine lv_istore_n (lv' := [(3, .int (x3 / (2 : Int32))), (1, .int x1), (2, .int x2)]) hx hb dX5_wholeRoot_28 rfl hl (Nat.le_of_ble_eq_true rfl) rfl (fun ls hl => ?_)
        refine lv_goto (tgt := 6) hx hb dX5_wholeRoot_29 (by decide) ?_
        exact ih _ _ _ _ _ _ _ hw hS (lv_sub hl [1, 2, 0] rfl) hf
      · have hf := iq c2 hf
        refine lv_iload_n hx hb dX5_wholeRoot_21 rfl (lv_at hl 1 rfl) ?_
        refine lv_iload_n hx hb dX5_wholeRoot_22 rfl (lv_at hl 2 rfl) ?_
        refine lv_iadd hx hb dX5_wholeRoot_23 ?_
        refine lv_istore_n (lv' := [(2, .int (x2 + x3)), (1, .int x1), (3, .int x3)]) hx hb dX5_wholeRoot_24 rfl hl (Nat.le_of_ble_eq_true rfl) rfl (fun ls hl => ?_)
        refine lv_iload_n hx hb dX5_wholeRoot_25 rfl (lv_at hl 2 rfl) ?_
        refine lv_iconst (v := (2 : Int32)) hx hb dX5_wholeRoot_26 (by decide) ?_
        refine lv_idiv hx hb dX5_wholeRoot_27 (by decide) ?_
        refine lv_istore_n (lv' := [(3, .int (x3 / (2 : Int32))), (2, .int (x2 + x3)), (1, .int x1)]) hx hb dX5_wholeRoot_28 rfl hl (Nat.le_of_ble_eq_true rfl) rfl (fun ls hl => ?_)
        refine lv_goto (tgt := 6) hx hb dX5_wholeRoot_29 (by decide) ?_
        exact ih _ _ _ _ _ _ _ hw hS (lv_sub hl [2, 1, 0] rfl) hf
set_option maxRecDepth 100000 in
set_option maxHeartbeats 4000000 in
theorem bX5_wholeRoot_0 {p : Program} {l : Launch} {e : Env} {s : State} {m : MethodId} {args : Array Value} {below : List Frame} {meth : Method} {c : Code} {D : va_G} {cy : Nat → ClassId} {a : Nat} (hx : p.tables.exec = Jvm.exec) (hb : c.code = cX5_wholeRoot) (hr : meth.sig.returnType = (some .int)) (hml : c.maxLocals = 4) (hown : s.vm.findClass RX5 = some m.cls) (hts : ∀ w ∈ wsX5_wholeRoot, w.before args s = true) (hlocks : meth.locks = false) (hK : KS D cy s) (hZ : ZZ a s s.heap) {out : Int32} : ∀ (x1 : Int32) (M : Mm) (H : Heap) (locs : List Loc) (ls : Array Slot), HP D cy a M H → va_S (Aq a) s.heap H locs → lv_has ls 4 [(0, .ref (a + 0)), (1, .int x1)] → fX5_wholeRoot x1 M = some out → W p l e rX5_wholeRoot s m args below meth c H locs 0 0 (MQ below (QI D cy a out M) args s 0 0 (Aq a)) (F0 m 0 ls []) := by
  intro x1 M H locs ls hw hS hl hf
  unfold fX5_wholeRoot at hf
  refine lv_iconst (v := (0 : Int32)) hx hb dX5_wholeRoot_0 (by decide) ?_
  refine lv_istore_n (lv' := [(2, .int (0 : Int32)), (0, .ref (a + 0)), (1, .int x1)]) hx hb dX5_wholeRoot_1 rfl hl (Nat.le_of_ble_eq_true rfl) rfl (fun ls hl => ?_)
  refine lv_sipush (v := (128 : Int32)) hx hb dX5_wholeRoot_2 (by decide) ?_
  refine lv_istore_n (lv' := [(3, .int (128 : Int32)), (2, .int (0 : Int32)), (0, .ref (a + 0)), (1, .int x1)]) hx hb dX5_wholeRoot_5 rfl hl (Nat.le_of_ble_eq_true rfl) rfl (fun ls hl => ?_)
  exact bX5_wholeRoot_6 hx hb hr hml hown hts hlocks hK hZ 400 _ _ _ _ _ _ _ hw hS (lv_sub hl [3, 1, 0] rfl) hf
set_option maxRecDepth 100000 in
set_option maxHeartbeats 4000000 in
theorem ctX5_wholeRoot {l : Launch} {D : va_G} {cy : Nat → ClassId} {a : Nat} {x1 : Int32} {M : Mm} {out : Int32} (hf : fX5_wholeRoot x1 M = some out) : Met l yX5_wholeRoot wsX5_wholeRoot rX5_wholeRoot (Pre D cy a M [.ref (a + 0), .int x1]) (QI D cy a out M) 0 0 (Aq a) := by
  refine Met.ofW (cc := cX5_wholeRoot) (maxL := 4) (ret := (some .int)) (by decide +kernel) rfl ?_
  intro p e s m args below meth c s₁ B hml hv
  obtain ⟨rfl, hw, hK, hZ⟩ := hv
  have hS : va_S (Aq a) s.heap s.heap [] := va_S.rf
  have hl := lv_entry ([.ref (a + 0), .int x1]) (n := 4) (Nat.le_of_ble_eq_true rfl)
  rw [lg_entry_eq]
  generalize (lg_sl ([.ref (a + 0), .int x1]) ++ List.replicate (4 - (lg_sl ([.ref (a + 0), .int x1])).length) Slot.unset).toArray = ls at hl ⊢
  exact bX5_wholeRoot_0 B.exec B.bytes B.returns hml (findClass_of_methodNamed B.named) (atoms_spec (ws := wsX5_wholeRoot) B.pre) B.notSynchronized hK hZ _ _ _ _ _ hw hS hl hf
def rX5_mixOf : Room := { frames := 1, cells := 0, slots := 0, locals := 23 }
noncomputable def fX5_mixOf (i1 : Nat) (M : Mm) : Option (Int32) := (if i1 < 40 then (if (gr M (33 + i1) 8) = none then some ((0 : Int32)) else (gr M (33 + i1) 8).bind fun j3 => (if j3 < 40 then (if (gr M (33 + j3) 1) = (gr M (33 + i1) 1) then some ((0 : Int32)) else (if (gi M (33 + i1) 11) = 0 then ((fX5_wholeRoot ((gi M 0 12) - (gi M (33 + i1) 10)) M).bind fun o7 => some (o7)) else some (gi M (33 + i1) 12))) else none)) else none)
set_option maxRecDepth 20000 in
theorem iX5_mixOf_X0 : ∀ w ∈ wsX00, w ∈ wsX5_mixOf := by decide +kernel
set_option maxRecDepth 20000 in
theorem iX5_mixOf_X5 : ∀ w ∈ wsX50, w ∈ wsX5_mixOf := by decide +kernel
set_option maxRecDepth 20000 in
theorem kX5_mixOf_0 : Cond.fieldLink RX5 326 "BatchPipe" "enteredInAll" "I" ∈ wsX5_mixOf := by decide +kernel
set_option maxRecDepth 100000 in
set_option maxHeartbeats 4000000 in
theorem bX5_mixOf_0 {p : Program} {l : Launch} {e : Env} {s : State} {m : MethodId} {args : Array Value} {below : List Frame} {meth : Method} {c : Code} {D : va_G} {cy : Nat → ClassId} {a : Nat} (hx : p.tables.exec = Jvm.exec) (hb : c.code = cX5_mixOf) (hr : meth.sig.returnType = (some .int)) (hml : c.maxLocals = 2) (hown : s.vm.findClass RX5 = some m.cls) (hts : ∀ w ∈ wsX5_mixOf, w.before args s = true) (hlocks : meth.locks = false) (hK : KS D cy s) (hZ : ZZ a s s.heap) {out : Int32} : ∀ (i1 : Nat) (M : Mm) (H : Heap) (locs : List Loc) (ls : Array Slot), HP D cy a M H → va_S (Aq a) s.heap H locs → lv_has ls 2 [(0, .ref (a + 0)), (1, .ref (a + (33 + i1)))] → fX5_mixOf i1 M = some out → W p l e rX5_mixOf s m args below meth c H locs 0 0 (MQ below (QI D cy a out M) args s 0 0 (Aq a)) (F0 m 0 ls []) := by
  intro i1 M H locs ls hw hS hl hf
  unfold fX5_mixOf at hf
  refine lv_aload_n hx hb dX5_mixOf_0 rfl (lv_at hl 1 rfl) ?_
  obtain ⟨hi1, hf⟩ := og hf
  refine rGetNR hx hb hts iX5_mixOf_X0 hown hK hw (kbat hi1) (en_bat hi1) rfl 8 (by decide) nwF_323 rfl (base := 33) ge0_8 dX5_mixOf_1 ?_
  refine rNull (tgt := 21) hx hb dX5_mixOf_4 (by decide) (fun c2 => ?_) (fun c2 => ?_)
  · have hf := ip c2 hf
    refine lv_iconst (v := (0 : Int32)) hx hb dX5_mixOf_21 (by decide) ?_
    obtain rfl := Option.some.inj hf
    exact rIret hx hb hr hlocks hw hS dX5_mixOf_22
  · have hf := iq c2 hf
    obtain ⟨j3, ej3, hf⟩ := ob hf
    refine lv_aload_n hx hb dX5_mixOf_7 rfl (lv_at hl 1 rfl) ?_
    refine rGetNR hx hb hts iX5_mixOf_X0 hown hK hw (kbat hi1) (en_bat hi1) rfl 8 (by decide) nwF_323 rfl (base := 33) ge0_8 dX5_mixOf_8 ?_
    refine rDer ej3 ?_
    obtain ⟨hi4, hf⟩ := og hf
    refine rGetNR hx hb hts iX5_mixOf_X0 hown hK hw (kbat hi4) (en_bat hi4) rfl 1 (by decide) nwF_168 rfl (base := 27) ge0_1 dX5_mixOf_11 ?_
    refine lv_aload_n hx hb dX5_mixOf_14 rfl (lv_at hl 1 rfl) ?_
    refine rGetNR hx hb hts iX5_mixOf_X0 hown hK hw (kbat hi1) (en_bat hi1) rfl 1 (by decide) nwF_168 rfl (base := 27) ge0_1 dX5_mixOf_15 ?_
    refine rAcmpNe (base := 27) (x := (gr M (33 + j3) 1)) (y := (gr M (33 + i1) 1)) (tgt := 23) hx hb dX5_mixOf_18 (by decide) (fun c5 => ?_) (fun c5 => ?_)
    · have hf := ip c5 hf
      refine lv_iconst (v := (0 : Int32)) hx hb dX5_mixOf_21 (by decide) ?_
      obtain rfl := Option.some.inj hf
      exact rIret hx hb hr hlocks hw hS dX5_mixOf_22
    · have hf := iq c5 hf
      refine lv_aload_n hx hb dX5_mixOf_23 rfl (lv_at hl 1 rfl) ?_
      refine rGetNI hx hb hts iX5_mixOf_X0 hown hK hw (kbat hi1) (en_bat hi1) rfl 11 (by decide) nwF_317 rfl ge0_11 dX5_mixOf_24 ?_
      refine lv_if_eq (tgt := 37) hx hb dX5_mixOf_27 (by decide) (fun c6 => ?_) (fun c6 => ?_)
      · have hf := ip c6 hf
        refine lv_aload_n hx hb dX5_mixOf_37 rfl (lv_at hl 0 rfl) ?_
        refine lv_aload_n hx hb dX5_mixOf_38 rfl (lv_at hl 0 rfl) ?_
        refine rGetI hx hb hts iX5_mixOf_X5 hown hK hw (Nat.le_of_ble_eq_true rfl) en_pipe rfl 12 (by decide) (hts _ kX5_mixOf_0) rfl ge5_12 dX5_mixOf_39 ?_
        refine lv_aload_n hx hb dX5_mixOf_42 rfl (lv_at hl 1 rfl) ?_
        refine rGetNI hx hb hts iX5_mixOf_X0 hown hK hw (kbat hi1) (en_bat hi1) rfl 10 (by decide) nwF_329 rfl ge0_10 dX5_mixOf_43 ?_
        refine lv_isub hx hb dX5_mixOf_46 ?_
        obtain ⟨o7, ho7, hf⟩ := ob hf
        refine rCallI (va_runV (As := [.int ((gi M 0 12) - (gi M (33 + i1) 10))]) (rest := []) ⟨hx, hb, hml, hown, hts⟩ (ctX5_wholeRoot (l := l) (D := D) (cy := cy) (a := a) ho7) (cwV 1 hts gX5_mixOf_X5_wholeRoot rfl rfl rfl (by decide +kernel) ⟨Nat.le_of_ble_eq_true rfl, Nat.le_of_ble_eq_true rfl⟩) (pV hK hZ hw hS (rRecv hK hw (Nat.le_of_ble_eq_true rfl) en_pipe rfl)) rfl rfl hl.1 rfl (lv_room (Nat.le_of_ble_eq_true rfl)) dX5_mixOf_47 ⟨Nat.le_of_ble_eq_true rfl, Nat.le_of_ble_eq_true rfl⟩) hS (fun H locs hw hS => ?_)
        obtain rfl := Option.some.inj hf
        exact rIret hx hb hr hlocks hw hS dX5_mixOf_50
      · have hf := iq c6 hf
        refine lv_aload_n hx hb dX5_mixOf_30 rfl (lv_at hl 1 rfl) ?_
        refine rGetNI hx hb hts iX5_mixOf_X0 hown hK hw (kbat hi1) (en_bat hi1) rfl 12 (by decide) nwF_314 rfl ge0_12 dX5_mixOf_31 ?_
        refine lv_goto (tgt := 50) hx hb dX5_mixOf_34 (by decide) ?_
        obtain rfl := Option.some.inj hf
        exact rIret hx hb hr hlocks hw hS dX5_mixOf_50
set_option maxRecDepth 100000 in
set_option maxHeartbeats 4000000 in
theorem ctX5_mixOf {l : Launch} {D : va_G} {cy : Nat → ClassId} {a : Nat} {i1 : Nat} {M : Mm} {out : Int32} (hf : fX5_mixOf i1 M = some out) : Met l yX5_mixOf wsX5_mixOf rX5_mixOf (Pre D cy a M [.ref (a + 0), .ref (a + (33 + i1))]) (QI D cy a out M) 0 0 (Aq a) := by
  refine Met.ofW (cc := cX5_mixOf) (maxL := 2) (ret := (some .int)) (by decide +kernel) rfl ?_
  intro p e s m args below meth c s₁ B hml hv
  obtain ⟨rfl, hw, hK, hZ⟩ := hv
  have hS : va_S (Aq a) s.heap s.heap [] := va_S.rf
  have hl := lv_entry ([.ref (a + 0), .ref (a + (33 + i1))]) (n := 2) (Nat.le_of_ble_eq_true rfl)
  rw [lg_entry_eq]
  generalize (lg_sl ([.ref (a + 0), .ref (a + (33 + i1))]) ++ List.replicate (2 - (lg_sl ([.ref (a + 0), .ref (a + (33 + i1))])).length) Slot.unset).toArray = ls at hl ⊢
  exact bX5_mixOf_0 B.exec B.bytes B.returns hml (findClass_of_methodNamed B.named) (atoms_spec (ws := wsX5_mixOf) B.pre) B.notSynchronized hK hZ _ _ _ _ _ hw hS hl hf
