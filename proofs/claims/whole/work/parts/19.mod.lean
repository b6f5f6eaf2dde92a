def rX6_pressureOf : Room := { frames := 1, cells := 0, slots := 0, locals := 23 }
noncomputable def fX6_pressureOf_L29 (kL5 : Int32 → Int32 → Int32 → Int32 → Mm → Option (Int32)) : Nat → Int32 → Int32 → Int32 → Int32 → Int32 → Int32 → Int32 → Mm → Option (Int32)
  | 0 => fun _ _ _ _ _ _ _ _ => none
  | n + 1 => fun x1 x2 x3 x4 x5 x6 x7 M => (if ¬ (x4 < 0 ∨ 6 ≤ x4.toNatClampNeg) then (if (x5 + (gi M 78 x4.toNatClampNeg)) ≤ x7 then (if ¬ (x4 < 0 ∨ 6 ≤ x4.toNatClampNeg) then kL5 x1 x2 (x3 + (((x2 * (x6 + (gi M 81 x4.toNatClampNeg))) + (99 : Int32)) / (100 : Int32))) (x4 + (1 : Int32)) M else none) else (if ¬ (x7 < 0 ∨ 360 ≤ x7.toNatClampNeg) then (if ¬ ((gi M 97 x7.toNatClampNeg) < 0 ∨ 40 ≤ (gi M 97 x7.toNatClampNeg).toNatClampNeg) then (if ¬ ((gi M 87 (gi M 97 x7.toNatClampNeg).toNatClampNeg) < 0 ∨ 6 ≤ (gi M 87 (gi M 97 x7.toNatClampNeg).toNatClampNeg).toNatClampNeg) then (fX6_pressureOf_L29 kL5 n) x1 x2 x3 x4 x5 (x6 + (gi M 83 (gi M 87 (gi M 97 x7.toNatClampNeg).toNatClampNeg).toNatClampNeg)) (x7 + (1 : Int32)) M else none) else none) else none)) else none)
noncomputable def fX6_pressureOf_b168 (x3 : Int32) (M : Mm) : Option (Int32) := (if 0 ≤ x3 then some (x3) else some ((0 : Int32)))
noncomputable def fX6_pressureOf_L5 : Nat → Int32 → Int32 → Int32 → Int32 → Mm → Option (Int32)
  | 0 => fun _ _ _ _ _ => none
  | n + 1 => fun x1 x2 x3 x4 M => (if (gi M 77 1) ≤ x4 then (if ¬ ((0 : Int32) < 0 ∨ 360 ≤ (0 : Int32).toNatClampNeg) then (if ¬ ((gi M 97 (0 : Int32).toNatClampNeg) < 0 ∨ 40 ≤ (gi M 97 (0 : Int32).toNatClampNeg).toNatClampNeg) then (if ¬ ((gi M 87 (gi M 97 (0 : Int32).toNatClampNeg).toNatClampNeg) < 0 ∨ 6 ≤ (gi M 87 (gi M 97 (0 : Int32).toNatClampNeg).toNatClampNeg).toNatClampNeg) then (if ¬ (((gi M 77 1) - (1 : Int32)) < 0 ∨ 6 ≤ ((gi M 77 1) - (1 : Int32)).toNatClampNeg) then (if x1 ≤ 0 then fX6_pressureOf_b168 (x3 + ((gi M 82 (gi M 87 (gi M 97 (0 : Int32).toNatClampNeg).toNatClampNeg).toNatClampNeg) * (gi M 79 ((gi M 77 1) - (1 : Int32)).toNatClampNeg))) M else ((fX6_lastOf (x1 - (1 : Int32)) M).bind fun o7 => (if ¬ (o7 < 0 ∨ 360 ≤ o7.toNatClampNeg) then (if ¬ ((gi M 97 o7.toNatClampNeg) < 0 ∨ 40 ≤ (gi M 97 o7.toNatClampNeg).toNatClampNeg) then (if ¬ ((gi M 87 (gi M 97 o7.toNatClampNeg).toNatClampNeg) < 0 ∨ 6 ≤ (gi M 87 (gi M 97 o7.toNatClampNeg).toNatClampNeg).toNatClampNeg) then (if ¬ ((x1 - (1 : Int32)) < 0 ∨ 6 ≤ (x1 - (1 : Int32)).toNatClampNeg) then fX6_pressureOf_b168 ((x3 + ((gi M 82 (gi M 87 (gi M 97 (0 : Int32).toNatClampNeg).toNatClampNeg).toNatClampNeg) * (gi M 79 ((gi M 77 1) - (1 : Int32)).toNatClampNeg))) - ((gi M 82 (gi M 87 (gi M 97 o7.toNatClampNeg).toNatClampNeg).toNatClampNeg) * (gi M 79 (x1 - (1 : Int32)).toNatClampNeg))) M else none) else none) else none) else none))) else none) else none) else none) else none) else ((fX6_lastOf x4 M).bind fun o12 => fX6_pressureOf_L29 (fX6_pressureOf_L5 n) 400 x1 x2 x3 x4 o12 (0 : Int32) o12 M))
noncomputable def fX6_pressureOf (x1 : Int32) (x2 : Int32) (M : Mm) : Option (Int32) := fX6_pressureOf_L5 400 x1 x2 (0 : Int32) x1 M
set_option maxRecDepth 20000 in
theorem iX6_pressureOf_X6 : ∀ w ∈ wsX60, w ∈ wsX6_pressureOf := by decide +kernel
set_option maxRecDepth 20000 in
theorem kX6_pressureOf_0 : Cond.fieldLink RX6 7 "BatchPipeModel" "holds" "[I" ∈ wsX6_pressureOf := by decide +kernel
set_option maxRecDepth 20000 in
theorem kX6_pressureOf_1 : Cond.fieldLink RX6 19 "BatchPipeModel" "dirty" "[I" ∈ wsX6_pressureOf := by decide +kernel
set_option maxRecDepth 20000 in
theorem kX6_pressureOf_2 : Cond.fieldLink RX6 25 "BatchPipeModel" "thickness" "[I" ∈ wsX6_pressureOf := by decide +kernel
set_option maxRecDepth 20000 in
theorem kX6_pressureOf_3 : Cond.fieldLink RX6 41 "BatchPipeModel" "product" "[I" ∈ wsX6_pressureOf := by decide +kernel
set_option maxRecDepth 20000 in
theorem kX6_pressureOf_4 : Cond.fieldLink RX6 71 "BatchPipeModel" "unitBatch" "[I" ∈ wsX6_pressureOf := by decide +kernel
set_option maxRecDepth 20000 in
theorem kX6_pressureOf_5 : Cond.fieldLink RX6 102 "BatchPipeModel" "segments" "I" ∈ wsX6_pressureOf := by decide +kernel
set_option maxRecDepth 20000 in
theorem kX6_pressureOf_6 : Cond.fieldLink RX6 22 "BatchPipeModel" "weight" "[I" ∈ wsX6_pressureOf := by decide +kernel
set_option maxRecDepth 20000 in
theorem kX6_pressureOf_7 : Cond.fieldLink RX6 13 "BatchPipeModel" "height" "[I" ∈ wsX6_pressureOf := by decide +kernel
set_option maxRecDepth 100000 in
set_option maxHeartbeats 4000000 in
theorem bX6_pressureOf_29 {p : Program} {l : Launch} {e : Env} {s : State} {m : MethodId} {args : Array Value} {below : List Frame} {meth : Method} {c : Code} {D : va_G} {cy : Nat → ClassId} {a : Nat} (hx : p.tables.exec = Jvm.exec) (hb : c.code = cX6_pressureOf) (hr : meth.sig.returnType = (some .int)) (hml : c.maxLocals = 8) (hown : s.vm.findClass RX6 = some m.cls) (hts : ∀ w ∈ wsX6_pressureOf, w.before args s = true) (hlocks : meth.locks = false) (hK : KS D cy s) (hZ : ZZ a s s.heap) {out : Int32} (kL5 : Int32 → Int32 → Int32 → Int32 → Mm → Option (Int32)) (hkL5 : ∀ (x1 : Int32) (x2 : Int32) (x3 : Int32) (x4 : Int32) (M : Mm) (H : Heap) (locs : List Loc) (ls : Array Slot), HP D cy a M H → va_S (Aq a) s.heap H locs → lv_has ls 8 [(0, .ref (a + 77)), (1, .int x1), (2, .int x2), (3, .int x3), (4, .int x4)] → kL5 x1 x2 x3 x4 M = some out → W p l e rX6_pressureOf s m args below meth c H locs 0 0 (MQ below (QI D cy a out M) args s 0 0 (Aq a)) (F0 m 5 ls [])) : ∀ (n : Nat), ∀ (x1 : Int32) (x2 : Int32) (x3 : Int32) (x4 : Int32) (x5 : Int32) (x6 : Int32) (x7 : Int32) (M : Mm) (H : Heap) (locs : List Loc) (ls : Array Slot), HP D cy a M H → va_S (Aq a) s.heap H locs → lv_has ls 8 [(0, .ref (a + 77)), (1, .int x1), (2, .int x2), (3, .int x3), (4, .int x4), (5, .int x5), (6, .int x6), (7, .int x7)] → fX6_pressureOf_L29 kL5 n x1 x2 x3 x4 x5 x6 x7 M = some out → W p l e rX6_pressureOf s m args below meth c H locs 0 0 (MQ below (QI D cy a out M) args s 0 0 (Aq a)) (F0 m 29 ls []) := by
  intro n
  induction n with
  | zero =>
    intro x1 x2 x3 x4 x5 x6 x7 M H locs ls hw hS hl hf
    have hf : (none : Option (Int32)) = some out := hf
    cases hf
  | succ n ih =>
    intro x1 x2 x3 x4 x5 x6 x7 M H locs ls hw hS hl hf
    unfold fX6_pressureOf_L29 at hf
    refine lv_iload hx hb dX6_pressureOf_29 (lv_at hl 7 rfl) ?_
    refine lv_iload hx hb dX6_pressureOf_31 (lv_at hl 5 rfl) ?_
    refine lv_aload_n hx hb dX6_pressureOf_33 rfl (lv_at hl 0 rfl) ?_
    refine rGet hx hb hts iX6_pressureOf_X6 hown hK hw (Nat.le_of_ble_eq_true rfl) en_model rfl 2 (by decide) (hts _ kX6_pressureOf_0) rfl rfl dX6_pressureOf_34 ?_
    refine lv_iload hx hb dX6_pressureOf_37 (lv_at hl 4 rfl) ?_
    obtain ⟨hg1, hf⟩ := og hf
    refine rIald hx hb hK hw (Nat.le_of_ble_eq_true rfl) en_a78 hg1 dX6_pressureOf_39 ?_
    refine lv_iadd hx hb dX6_pressureOf_40 ?_
    refine lv_icmp_ge (tgt := 72) hx hb dX6_pressureOf_41 (by decide) (fun c2 => ?_) (fun c2 => ?_)
    · have hf := ip c2 hf
      refine lv_iload_n hx hb dX6_pressureOf_72 rfl (lv_at hl 3 rfl) ?_
      refine lv_iload_n hx hb dX6_pressureOf_73 rfl (lv_at hl 2 rfl) ?_
      refine lv_iload hx hb dX6_pressureOf_74 (lv_at hl 6 rfl) ?_
      refine lv_aload_n hx hb dX6_pressureOf_76 rfl (lv_at hl 0 rfl) ?_
      refine rGet hx hb hts iX6_pressureOf_X6 hown hK hw (Nat.le_of_ble_eq_true rfl) en_model rfl 5 (by decide) (hts _ kX6_pressureOf_1) rfl rfl dX6_pressureOf_77 ?_
      refine lv_iload hx hb dX6_pressureOf_80 (lv_at hl 4 rfl) ?_
      obtain ⟨hg3, hf⟩ := og hf
      refine rIald hx hb hK hw (Nat.le_of_ble_eq_true rfl) en_a81 hg3 dX6_pressureOf_82 ?_
      refine lv_iadd hx hb dX6_pressureOf_83 ?_
      refine lv_imul hx hb dX6_pressureOf_84 ?_
      refine lv_bipush (v := (99 : Int32)) hx hb dX6_pressureOf_85 (by decide) ?_
      refine lv_iadd hx hb dX6_pressureOf_87 ?_
      refine lv_bipush (v := (100 : Int32)) hx hb dX6_pressureOf_88 (by decide) ?_
      refine lv_idiv hx hb dX6_pressureOf_90 (by decide) ?_
      refine lv_iadd hx hb dX6_pressureOf_91 ?_
      refine lv_istore_n (lv' := [(3, .int (x3 + (((x2 * (x6 + (gi M 81 x4.toNatClampNeg))) + (99 : Int32)) / (100 : Int32)))), (0, .ref (a + 77)), (1, .int x1), (2, .int x2), (4, .int x4), (5, .int x5), (6, .int x6), (7, .int x7)]) hx hb dX6_pressureOf_92 rfl hl (Nat.le_of_ble_eq_true rfl) rfl (fun ls hl => ?_)
      refine lv_iinc (v := x4 + (1 : Int32)) (lv' := [(4, .int (x4 + (1 : Int32))), (3, .int (x3 + (((x2 * (x6 + (gi M 81 x4.toNatClampNeg))) + (99 : Int32)) / (100 : Int32)))), (0, .ref (a + 77)), (1, .int x1), (2, .int x2), (5, .int x5), (6, .int x6), (7, .int x7)]) hx hb dX6_pressureOf_93 hl (k := 4) rfl rfl (Nat.le_of_ble_eq_true rfl) rfl (fun ls hl => ?_)
      refine lv_goto (tgt := 5) hx hb dX6_pressureOf_96 (by decide) ?_
      exact hkL5 _ _ _ _ _ _ _ _ hw hS (lv_sub hl [2, 3, 4, 1, 0] rfl) hf
    · have hf := iq c2 hf
      refine lv_iload hx hb dX6_pressureOf_44 (lv_at hl 6 rfl) ?_
      refine lv_aload_n hx hb dX6_pressureOf_46 rfl (lv_at hl 0 rfl) ?_
      refine rGet hx hb hts iX6_pressureOf_X6 hown hK hw (Nat.le_of_ble_eq_true rfl) en_model rfl 9 (by decide) (hts _ kX6_pressureOf_2) rfl rfl dX6_pressureOf_47 ?_
      refine lv_aload_n hx hb dX6_pressureOf_50 rfl (lv_at hl 0 rfl) ?_
      refine rGet hx hb hts iX6_pressureOf_X6 hown hK hw (Nat.le_of_ble_eq_true rfl) en_model rfl 14 (by decide) (hts _ kX6_pressureOf_3) rfl rfl dX6_pressureOf_51 ?_
      refine lv_aload_n hx hb dX6_pressureOf_54 rfl (lv_at hl 0 rfl) ?_
      refine rGet hx hb hts iX6_pressureOf_X6 hown hK hw (Nat.le_of_ble_eq_true rfl) en_model rfl 25 (by decide) (hts _ kX6_pressureOf_4) rfl rfl dX6_pressureOf_55 ?_
      refine lv_iload hx hb dX6_pressureOf_58 (lv_at hl 7 rfl) ?_
      obtain ⟨hg4, hf⟩ := og hf
      refine rIald hx hb hK hw (Nat.le_of_ble_eq_true rfl) en_a97 hg4 dX6_pressureOf_60 ?_
      obtain ⟨hg5, hf⟩ := og hf
      refine rIald hx hb hK hw (Nat.le_of_ble_eq_true rfl) en_a87 hg5 dX6_pressureOf_61 ?_
      obtain ⟨hg6, hf⟩ := og hf
      refine rIald hx hb hK hw (Nat.le_of_ble_eq_true rfl) en_a83 hg6 dX6_pressureOf_62 ?_
      refine lv_iadd hx hb dX6_pressureOf_63 ?_
      refine lv_istore (lv' := [(6, .int (x6 + (gi M 83 (gi M 87 (gi M 97 x7.toNatClampNeg).toNatClampNeg).toNatClampNeg))), (0, .ref (a + 77)), (1, .int x1), (2, .int x2), (3, .int x3), (4, .int x4), (5, .int x5), (7, .int x7)]) hx hb dX6_pressureOf_64 hl (Nat.le_of_ble_eq_true rfl) rfl (fun ls hl => ?_)
      refine lv_iinc (v := x7 + (1 : Int32)) (lv' := [(7, .int (x7 + (1 : Int32))), (6, .int (x6 + (gi M 83 (gi M 87 (gi M 97 x7.toNatClampNeg).toNatClampNeg).toNatClampNeg))), (0, .ref (a + 77)), (1, .int x1), (2, .int x2), (3, .int x3), (4, .int x4), (5, .int x5)]) hx hb dX6_pressureOf_66 hl (k := 7) rfl rfl (Nat.le_of_ble_eq_true rfl) rfl (fun ls hl => ?_)
      refine lv_goto (tgt := 29) hx hb dX6_pressureOf_69 (by decide) ?_
      exact ih _ _ _ _ _ _ _ _ _ _ _ hw hS (lv_sub hl [2, 3, 4, 5, 6, 7, 1, 0] rfl) hf
set_option maxRecDepth 100000 in
set_option maxHeartbeats 4000000 in
theorem bX6_pressureOf_168 {p : Program} {l : Launch} {e : Env} {s : State} {m : MethodId} {args : Array Value} {below : List Frame} {meth : Method} {c : Code} {D : va_G} {cy : Nat → ClassId} {a : Nat} (hx : p.tables.exec = Jvm.exec) (hb : c.code = cX6_pressureOf) (hr : meth.sig.returnType = (some .int)) (hml : c.maxLocals = 8) (hown : s.vm.findClass RX6 = some m.cls) (hts : ∀ w ∈ wsX6_pressureOf, w.before args s = true) (hlocks : meth.locks = false) (hK : KS D cy s) (hZ : ZZ a s s.heap) {out : Int32} : ∀ (x3 : Int32) (M : Mm) (H : Heap) (locs : List Loc) (ls : Array Slot), HP D cy a M H → va_S (Aq a) s.heap H locs → lv_has ls 8 [(3, .int x3)] → fX6_pressureOf_b168 x3 M = some out → W p l e rX6_pressureOf s m args below meth c H locs 0 0 (MQ below (QI D cy a out M) args s 0 0 (Aq a)) (F0 m 168 ls []) := by
  intro x3 M H locs ls hw hS hl hf
  unfold fX6_pressureOf_b168 at hf
  refine lv_iload_n hx hb dX6_pressureOf_168 rfl (lv_at hl 0 rfl) ?_
  refine lv_if_ge (tgt := 176) hx hb dX6_pressureOf_169 (by decide) (fun c1 => ?_) (fun c1 => ?_)
  · have hf := ip c1 hf
    refine lv_iload_n hx hb dX6_pressureOf_176 rfl (lv_at hl 0 rfl) ?_
    obtain rfl := Option.some.inj hf
    exact rIret hx hb hr hlocks hw hS dX6_pressureOf_177
  · have hf := iq c1 hf
    refine lv_iconst (v := (0 : Int32)) hx hb dX6_pressureOf_172 (by decide) ?_
    refine lv_goto (tgt := 177) hx hb dX6_pressureOf_173 (by decide) ?_
    obtain rfl := Option.some.inj hf
    exact rIret hx hb hr hlocks hw hS dX6_pressureOf_177
set_option maxRecDepth 100000 in
set_option maxHeartbeats 4000000 in
theorem bX6_pressureOf_5 {p : Program} {l : Launch} {e : Env} {s : State} {m : MethodId} {args : Array Value} {below : List Frame} {meth : Method} {c : Code} {D : va_G} {cy : Nat → ClassId} {a : Nat} (hx : p.tables.exec = Jvm.exec) (hb : c.code = cX6_pressureOf) (hr : meth.sig.returnType = (some .int)) (hml : c.maxLocals = 8) (hown : s.vm.findClass RX6 = some m.cls) (hts : ∀ w ∈ wsX6_pressureOf, w.before args s = true) (hlocks : meth.locks = false) (hK : KS D cy s) (hZ : ZZ a s s.heap) {out : Int32} : ∀ (n : Nat), ∀ (x1 : Int32) (x2 : Int32) (x3 : Int32) (x4 : Int32) (M : Mm) (H : Heap) (locs : List Loc) (ls : Array Slot), HP D cy a M H → va_S (Aq a) s.heap H locs → lv_has ls 8 [(0, .ref (a + 77)), (1, .int x1), (2, .int x2), (3, .int x3), (4, .int x4)] → fX6_pressureOf_L5 n x1 x2 x3 x4 M = some out → W p l e rX6_pressureOf s m args below meth c H locs 0 0 (MQ below (QI D cy a out M) args s 0 0 (Aq a)) (F0 m 5 ls []) := by
  intro n
  induction n with
  | zero =>
    intro x1 x2 x3 x4 M H locs ls hw hS hl hf
    have hf : (none : Option (Int32)) = some out := hf
    cases hf
  | succ n ih =>
    intro x1 x2 x3 x4 M H locs ls hw hS hl hf
    unfold fX6_pressureOf_L5 at hf
    refine lv_iload hx hb dX6_pressureOf_5 (lv_at hl 4 rfl) ?_
    refine lv_aload_n hx hb dX6_pressureOf_7 rfl (lv_at hl 0 rfl) ?_
    refine rGetI hx hb hts iX6_pressureOf_X6 hown hK hw (Nat.le_of_ble_eq_true rfl) en_model rfl 1 (by decide) (hts _ kX6_pressureOf_5) rfl ge6_1 dX6_pressureOf_8 ?_
    refine lv_icmp_ge (tgt := 99) hx hb dX6_pressureOf_11 (by decide) (fun c1 => ?_) (fun c1 => ?_)
    · have hf := ip c1 hf
      refine lv_iload_n hx hb dX6_pressureOf_99 rfl (lv_at hl 3 rfl) ?_
      refine lv_aload_n hx hb dX6_pressureOf_100 rfl (lv_at hl 0 rfl) ?_
      refine rGet hx hb hts iX6_pressureOf_X6 hown hK hw (Nat.le_of_ble_eq_true rfl) en_model rfl 8 (by decide) (hts _ kX6_pressureOf_6) rfl rfl dX6_pressureOf_101 ?_
      refine lv_aload_n hx hb dX6_pressureOf_104 rfl (lv_at hl 0 rfl) ?_
      refine rGet hx hb hts iX6_pressureOf_X6 hown hK hw (Nat.le_of_ble_eq_true rfl) en_model rfl 14 (by decide) (hts _ kX6_pressureOf_3) rfl rfl dX6_pressureOf_105 ?_
      refine lv_aload_n hx hb dX6_pressureOf_108 rfl (lv_at hl 0 rfl) ?_
      refine rGet hx hb hts iX6_pressureOf_X6 hown hK hw (Nat.le_of_ble_eq_true rfl) en_model rfl 25 (by decide) (hts _ kX6_pressureOf_4) rfl rfl dX6_pressureOf_109 ?_
      refine lv_iconst (v := (0 : Int32)) hx hb dX6_pressureOf_112 (by decide) ?_
      obtain ⟨hg2, hf⟩ := og hf
      refine rIald hx hb hK hw (Nat.le_of_ble_eq_true rfl) en_a97 hg2 dX6_pressureOf_113 ?_
      obtain ⟨hg3, hf⟩ := og hf
      refine rIald hx hb hK hw (Nat.le_of_ble_eq_true rfl) en_a87 hg3 dX6_pressureOf_114 ?_
      obtain ⟨hg4, hf⟩ := og hf
      refine rIald hx hb hK hw (Nat.le_of_ble_eq_true rfl) en_a82 hg4 dX6_pressureOf_115 ?_
      refine lv_aload_n hx hb dX6_pressureOf_116 rfl (lv_at hl 0 rfl) ?_
      refine rGet hx hb hts iX6_pressureOf_X6 hown hK hw (Nat.le_of_ble_eq_true rfl) en_model rfl 3 (by decide) (hts _ kX6_pressureOf_7) rfl rfl dX6_pressureOf_117 ?_
      refine lv_aload_n hx hb dX6_pressureOf_120 rfl (lv_at hl 0 rfl) ?_
      refine rGetI hx hb hts iX6_pressureOf_X6 hown hK hw (Nat.le_of_ble_eq_true rfl) en_model rfl 1 (by decide) (hts _ kX6_pressureOf_5) rfl ge6_1 dX6_pressureOf_121 ?_
      refine lv_iconst (v := (1 : Int32)) hx hb dX6_pressureOf_124 (by decide) ?_
      refine lv_isub hx hb dX6_pressureOf_125 ?_
      obtain ⟨hg5, hf⟩ := og hf
      refine rIald hx hb hK hw (Nat.le_of_ble_eq_true rfl) en_a79 hg5 dX6_pressureOf_126 ?_
      refine lv_imul hx hb dX6_pressureOf_127 ?_
      refine lv_iadd hx hb dX6_pressureOf_128 ?_
      refine lv_istore_n (lv' := [(3, .int (x3 + ((gi M 82 (gi M 87 (gi M 97 (0 : Int32).toNatClampNeg).toNatClampNeg).toNatClampNeg) * (gi M 79 ((gi M 77 1) - (1 : Int32)).toNatClampNeg)))), (0, .ref (a + 77)), (1, .int x1), (2, .int x2), (4, .int x4)]) hx hb dX6_pressureOf_129 rfl hl (Nat.le_of_ble_eq_true rfl) rfl (fun ls hl => ?_)
      refine lv_iload_n hx hb dX6_pressureOf_130 rfl (lv_at hl 2 rfl) ?_
      refine lv_if_le (tgt := 168) hx hb dX6_pressureOf_131 (by decide) (fun c6 => ?_) (fun c6 => ?_)
      · have hf := ip c6 hf
        exact bX6_pressureOf_168 hx hb hr hml hown hts hlocks hK hZ _ _ _ _ _ hw hS (lv_sub hl [0] rfl) hf
      · have hf := iq c6 hf
        refine lv_iload_n hx hb dX6_pressureOf_134 rfl (lv_at hl 0 rfl) ?_
        refine lv_aload_n hx hb dX6_pressureOf_135 rfl (lv_at hl 1 rfl) ?_
        refine rGet hx hb hts iX6_pressureOf_X6 hown hK hw (Nat.le_of_ble_eq_true rfl) en_model rfl 8 (by decide) (hts _ kX6_pressureOf_6) rfl rfl dX6_pressureOf_136 ?_
        refine lv_aload_n hx hb dX6_pressureOf_139 rfl (lv_at hl 1 rfl) ?_
        refine rGet hx hb hts iX6_pressureOf_X6 hown hK hw (Nat.le_of_ble_eq_true rfl) en_model rfl 14 (by decide) (hts _ kX6_pressureOf_3) rfl rfl dX6_pressureOf_140 ?_
        refine lv_aload_n hx hb dX6_pressureOf_143 rfl (lv_at hl 1 rfl) ?_
        refine rGet hx hb hts iX6_pressureOf_X6 hown hK hw (Nat.le_of_ble_eq_true rfl) en_model rfl 25 (by decide) (hts _ kX6_pressureOf_4) rfl rfl dX6_pressureOf_144 ?_
        refine lv_aload_n hx hb dX6_pressureOf_147 rfl (lv_at hl 1 rfl) ?_
        refine lv_iload_n hx hb dX6_pressureOf_148 rfl (lv_at hl 2 rfl) ?_
        refine lv_iconst (v := (1 : Int32)) hx hb dX6_pressureOf_149 (by decide) ?_
        refine lv_isub hx hb dX6_pressureOf_150 ?_
        obtain ⟨o7, ho7, hf⟩ := ob hf
        refine rCallI (va_runV (As := [.int (x1 - (1 : Int32))]) (rest := [.ref (a + 97), .ref (a + 87), .ref (a + 82), .int (x3 + ((gi M 82 (gi M 87 (gi M 97 (0 : Int32).toNatClampNeg).toNatClampNeg).toNatClampNeg) * (gi M 79 ((gi M 77 1) - (1 : Int32)).toNatClampNeg)))]) ⟨hx, hb, hml, hown, hts⟩ (ctX6_lastOf (l := l) (D := D) (cy := cy) (a := a) ho7) (cwV 1 hts gX6_pressureOf_X6_lastOf rfl rfl rfl (by decide +kernel) ⟨Nat.le_of_ble_eq_true rfl, Nat.le_of_ble_eq_true rfl⟩) (pV hK hZ hw hS (rRecv hK hw (Nat.le_of_ble_eq_true rfl) en_model rfl)) rfl rfl hl.1 rfl (lv_room (Nat.le_of_ble_eq_true rfl)) dX6_pressureOf_151 ⟨Nat.le_of_ble_eq_true rfl, Nat.le_of_ble_eq_true rfl⟩) hS (fun H locs hw hS => ?_)
        obtain ⟨hg8, hf⟩ := og hf
        refine rIald hx hb hK hw (Nat.le_of_ble_eq_true rfl) en_a97 hg8 dX6_pressureOf_154 ?_
        obtain ⟨hg9, hf⟩ := og hf
        refine rIald hx hb hK hw (Nat.le_of_ble_eq_true rfl) en_a87 hg9 dX6_pressureOf_155 ?_
        obtain ⟨hg10, hf⟩ := og hf
        refine rIald hx hb hK hw (Nat.le_of_ble_eq_true rfl) en_a82 hg10 dX6_pressureOf_156 ?_
        refine lv_aload_n hx hb dX6_pressureOf_157 rfl (lv_at hl 1 rfl) ?_
        refine rGet hx hb hts iX6_pressureOf_X6 hown hK hw (Nat.le_of_ble_eq_true rfl) en_model rfl 3 (by decide) (hts _ kX6_pressureOf_7) rfl rfl dX6_pressureOf_158 ?_
        refine lv_iload_n hx hb dX6_pressureOf_161 rfl (lv_at hl 2 rfl) ?_
        refine lv_iconst (v := (1 : Int32)) hx hb dX6_pressureOf_162 (by decide) ?_
        refine lv_isub hx hb dX6_pressureOf_163 ?_
        obtain ⟨hg11, hf⟩ := og hf
        refine rIald hx hb hK hw (Nat.le_of_ble_eq_true rfl) en_a79 hg11 dX6_pressureOf_164 ?_
        refine lv_imul hx hb dX6_pressureOf_165 ?_
        refine lv_isub hx hb dX6_pressureOf_166 ?_
        refine lv_istore_n (lv' := [(3, .int ((x3 + ((gi M 82 (gi M 87 (gi M 97 (0 : Int32).toNatClampNeg).toNatClampNeg).toNatClampNeg) * (gi M 79 ((gi M 77 1) - (1 : Int32)).toNatClampNeg))) - ((gi M 82 (gi M 87 (gi M 97 o7.toNatClampNeg).toNatClampNeg).toNatClampNeg) * (gi M 79 (x1 - (1 : Int32)).toNatClampNeg)))), (0, .ref (a + 77)), (1, .int x1), (2, .int x2), (4, .int x4)]) hx hb dX6_pressureOf_167 rfl hl (Nat.le_of_ble_eq_true rfl) rfl (fun ls hl => ?_)
        exact bX6_pressureOf_168 hx hb hr hml hown hts hlocks hK hZ _ _ _ _ _ hw hS (lv_sub hl [0] rfl) hf
    · have hf := iq c1 hf
      refine lv_aload_n hx hb dX6_pressureOf_14 rfl (lv_at hl 0 rfl) ?_
      refine lv_iload hx hb dX6_pressureOf_15 (lv_at hl 4 rfl) ?_
      obtain ⟨o12, ho12, hf⟩ := ob hf
      refine rCallI (va_runV (As := [.int x4]) (rest := []) ⟨hx, hb, hml, hown, hts⟩ (ctX6_lastOf (l := l) (D := D) (cy := cy) (a := a) ho12) (cwV 1 hts gX6_pressureOf_X6_lastOf rfl rfl rfl (by decide +kernel) ⟨Nat.le_of_ble_eq_true rfl, Nat.le_of_ble_eq_true rfl⟩) (pV hK hZ hw hS (rRecv hK hw (Nat.le_of_ble_eq_true rfl) en_model rfl)) rfl rfl hl.1 rfl (lv_room (Nat.le_of_ble_eq_true rfl)) dX6_pressureOf_17 ⟨Nat.le_of_ble_eq_true rfl, Nat.le_of_ble_eq_true rfl⟩) hS (fun H locs hw hS => ?_)
      refine lv_istore (lv' := [(5, .int o12), (0, .ref (a + 77)), (1, .int x1), (2, .int x2), (3, .int x3), (4, .int x4)]) hx hb dX6_pressureOf_20 hl (Nat.le_of_ble_eq_true rfl) rfl (fun ls hl => ?_)
      refine lv_iconst (v := (0 : Int32)) hx hb dX6_pressureOf_22 (by decide) ?_
      refine lv_istore (lv' := [(6, .int (0 : Int32)), (5, .int o12), (0, .ref (a + 77)), (1, .int x1), (2, .int x2), (3, .int x3), (4, .int x4)]) hx hb dX6_pressureOf_23 hl (Nat.le_of_ble_eq_true rfl) rfl (fun ls hl => ?_)
      refine lv_iload hx hb dX6_pressureOf_25 (lv_at hl 1 rfl) ?_
      refine lv_istore (lv' := [(7, .int o12), (6, .int (0 : Int32)), (5, .int o12), (0, .ref (a + 77)), (1, .int x1), (2, .int x2), (3, .int x3), (4, .int x4)]) hx hb dX6_pressureOf_27 hl (Nat.le_of_ble_eq_true rfl) rfl (fun ls hl => ?_)
      exact bX6_pressureOf_29 hx hb hr hml hown hts hlocks hK hZ (fX6_pressureOf_L5 n) ih 400 _ _ _ _ _ _ _ _ _ _ _ hw hS (lv_sub hl [3, 4, 5, 6, 7, 2, 1, 0] rfl) hf
set_option maxRecDepth 100000 in
set_option maxHeartbeats 4000000 in
theorem bX6_pressureOf_0 {p : Program} {l : Launch} {e : Env} {s : State} {m : MethodId} {args : Array Value} {below : List Frame} {meth : Method} {c : Code} {D : va_G} {cy : Nat → ClassId} {a : Nat} (hx : p.tables.exec = Jvm.exec) (hb : c.code = cX6_pressureOf) (hr : meth.sig.returnType = (some .int)) (hml : c.maxLocals = 8) (hown : s.vm.findClass RX6 = some m.cls) (hts : ∀ w ∈ wsX6_pressureOf, w.before args s = true) (hlocks : meth.locks = false) (hK : KS D cy s) (hZ : ZZ a s s.heap) {out : Int32} : ∀ (x1 : Int32) (x2 : Int32) (M : Mm) (H : Heap) (locs : List Loc) (ls : Array Slot), HP D cy a M H → va_S (Aq a) s.heap H locs → lv_has ls 8 [(0, .ref (a + 77)), (1, .int x1), (2, .int x2)] → fX6_pressureOf x1 x2 M = some out → W p l e rX6_pressureOf s m args below meth c H locs 0 0 (MQ below (QI D cy a out M) args s 0 0 (Aq a)) (F0 m 0 ls []) := by
  intro x1 x2 M H locs ls hw hS hl hf
  unfold fX6_pressureOf at hf
  refine lv_iconst (v := (0 : Int32)) hx hb dX6_pressureOf_0 (by decide) ?_
  refine lv_istore_n (lv' := [(3, .int (0 : Int32)), (0, .ref (a + 77)), (1, .int x1), (2, .int x2)]) hx hb dX6_pressureOf_1 rfl hl (Nat.le_of_ble_eq_true rfl) rfl (fun ls hl => ?_)
  refine lv_iload_n hx hb dX6_pressureOf_2 rfl (lv_at hl 2 rfl) ?_
  refine lv_istore (lv' := [(4, .int x1), (3, .int (0 : Int32)), (0, .ref (a + 77)), (1, .int x1), (2, .int x2)]) hx hb dX6_pressureOf_3 hl (Nat.le_of_ble_eq_true rfl) rfl (fun ls hl => ?_)
  exact bX6_pressureOf_5 hx hb hr hml hown hts hlocks hK hZ 400 _ _ _ _ _ _ _ _ hw hS (lv_sub hl [2, 3, 4, 1, 0] rfl) hf
set_option maxRecDepth 100000 in
set_option maxHeartbeats 4000000 in
theorem ctX6_pressureOf {l : Launch} {D : va_G} {cy : Nat → ClassId} {a : Nat} {x1 : Int32} {x2 : Int32} {M : Mm} {out : Int32} (hf : fX6_pressureOf x1 x2 M = some out) : Met l yX6_pressureOf wsX6_pressureOf rX6_pressureOf (Pre D cy a M [.ref (a + 77), .int x1, .int x2]) (QI D cy a out M) 0 0 (Aq a) := by
  refine Met.ofW (cc := cX6_pressureOf) (maxL := 8) (ret := (some .int)) (by decide +kernel) rfl ?_
  intro p e s m args below meth c s₁ B hml hv
  obtain ⟨rfl, hw, hK, hZ⟩ := hv
  have hS : va_S (Aq a) s.heap s.heap [] := va_S.rf
  have hl := lv_entry ([.ref (a + 77), .int x1, .int x2]) (n := 8) (Nat.le_of_ble_eq_true rfl)
  rw [lg_entry_eq]
  generalize (lg_sl ([.ref (a + 77), .int x1, .int x2]) ++ List.replicate (8 - (lg_sl ([.ref (a + 77), .int x1, .int x2])).length) Slot.unset).toArray = ls at hl ⊢
  exact bX6_pressureOf_0 B.exec B.bytes B.returns hml (findClass_of_methodNamed B.named) (atoms_spec (ws := wsX6_pressureOf) B.pre) B.notSynchronized hK hZ _ _ _ _ _ _ hw hS hl hf
def rX6_rateThatGoes : Room := { frames := 2, cells := 0, slots := 0, locals := 50 }
noncomputable def fX6_rateThatGoes_b52 (kL5 : Int32 → Mm → Option (Int32)) (x1 : Int32) (x2 : Int32) (M : Mm) : Option (Int32) := (if x2 = 0 then kL5 (x1 + (-1 : Int32)) M else some (x1))
noncomputable def fX6_rateThatGoes_L13 (kL5 : Int32 → Mm → Option (Int32)) : Nat → Int32 → Int32 → Int32 → Mm → Option (Int32)
  | 0 => fun _ _ _ _ => none
  | n + 1 => fun x1 x2 x3 M => (if (gi M 77 1) ≤ x3 then fX6_rateThatGoes_b52 kL5 x1 x2 M else (if x2 = 0 then fX6_rateThatGoes_b52 kL5 x1 x2 M else ((fX6_pressureOf x3 x1 M).bind fun o3 => (if ¬ (x3 < 0 ∨ 6 ≤ x3.toNatClampNeg) then (if (gi M 80 x3.toNatClampNeg) < o3 then (fX6_rateThatGoes_L13 kL5 n) x1 (0 : Int32) (x3 + (1 : Int32)) M else (fX6_rateThatGoes_L13 kL5 n) x1 (1 : Int32) (x3 + (1 : Int32)) M) else none))))
noncomputable def fX6_rateThatGoes_L5 : Nat → Int32 → Mm → Option (Int32)
  | 0 => fun _ _ => none
  | n + 1 => fun x1 M => (if x1 ≤ 0 then some ((0 : Int32)) else fX6_rateThatGoes_L13 (fX6_rateThatGoes_L5 n) 400 x1 (1 : Int32) (0 : Int32) M)
noncomputable def fX6_rateThatGoes (M : Mm) : Option (Int32) := fX6_rateThatGoes_L5 400 (gi M 77 27) M
set_option maxRecDepth 20000 in
theorem iX6_rateThatGoes_X6 : ∀ w ∈ wsX60, w ∈ wsX6_rateThatGoes := by decide +kernel
set_option maxRecDepth 20000 in
theorem kX6_rateThatGoes_0 : Cond.fieldLink RX6 102 "BatchPipeModel" "segments" "I" ∈ wsX6_rateThatGoes := by decide +kernel
set_option maxRecDepth 20000 in
theorem kX6_rateThatGoes_1 : Cond.fieldLink RX6 16 "BatchPipeModel" "limit" "[I" ∈ wsX6_rateThatGoes := by decide +kernel
set_option maxRecDepth 20000 in
theorem kX6_rateThatGoes_2 : Cond.fieldLink RX6 126 "BatchPipeModel" "rate" "I" ∈ wsX6_rateThatGoes := by decide +kernel
set_option maxRecDepth 100000 in
set_option maxHeartbeats 4000000 in
theorem bX6_rateThatGoes_52 {p : Program} {l : Launch} {e : Env} {s : State} {m : MethodId} {args : Array Value} {below : List Frame} {meth : Method} {c : Code} {D : va_G} {cy : Nat → ClassId} {a : Nat} (hx : p.tables.exec = Jvm.exec) (hb : c.code = cX6_rateThatGoes) (hr : meth.sig.returnType = (some .int)) (hml : c.maxLocals = 4) (hown : s.vm.findClass RX6 = some m.cls) (hts : ∀ w ∈ wsX6_rateThatGoes, w.before args s = true) (hlocks : meth.locks = false) (hK : KS D cy s) (hZ : ZZ a s s.heap) {out : Int32} (kL5 : Int32 → Mm → Option (Int32)) (hkL5 : ∀ (x1 : Int32) (M : Mm) (H : Heap) (locs : List Loc) (ls : Array Slot), HP D cy a M H → va_S (Aq a) s.heap H locs → lv_has ls 4 [(0, .ref (a + 77)), (1, .int x1)] → kL5 x1 M = some out → W p l e rX6_rateThatGoes s m args below meth c H locs 0 0 (MQ below (QI D cy a out M) args s 0 0 (Aq a)) (F0 m 5 ls [])) : ∀ (x1 : Int32) (x2 : Int32) (M : Mm) (H : Heap) (locs : List Loc) (ls : Array Slot), HP D cy a M H → va_S (Aq a) s.heap H locs → lv_has ls 4 [(0, .ref (a + 77)), (1, .int x1), (2, .int x2)] → narrow .boolean (.int x2) = .int x2 → fX6_rateThatGoes_b52 kL5 x1 x2 M = some out → W p l e rX6_rateThatGoes s m args below meth c H locs 0 0 (MQ below (QI D cy a out M) args s 0 0 (Aq a)) (F0 m 52 ls []) := by
  intro x1 x2 M H locs ls hw hS hl hb2 hf
  unfold fX6_rateThatGoes_b52 at hf
  refine lv_iload_n hx hb dX6_rateThatGoes_52 rfl (lv_at hl 2 rfl) ?_
  refine lv_if_eq (tgt := 58) hx hb dX6_rateThatGoes_53 (by decide) (fun c1 => ?_) (fun c1 => ?_)
  · have hf := ip c1 hf
    refine lv_iinc (v := x1 + (-1 : Int32)) (lv' := [(1, .int (x1 + (-1 : Int32))), (0, .ref (a + 77)), (2, .int x2)]) hx hb dX6_rateThatGoes_58 hl (k := 1) rfl rfl (Nat.le_of_ble_eq_true rfl) rfl (fun ls hl => ?_)
    refine lv_goto (tgt := 5) hx hb dX6_rateThatGoes_61 (by decide) ?_
    exact hkL5 _ _ _ _ _ hw hS (lv_sub hl [1, 0] rfl) hf
  · have hf := iq c1 hf
    refine lv_iload_n hx hb dX6_rateThatGoes_56 rfl (lv_at hl 1 rfl) ?_
    obtain rfl := Option.some.inj hf
    exact rIret hx hb hr hlocks hw hS dX6_rateThatGoes_57
set_option maxRecDepth 100000 in
set_option maxHeartbeats 4000000 in
theorem bX6_rateThatGoes_13 {p : Program} {l : Launch} {e : Env} {s : State} {m : MethodId} {args : Array Value} {below : List Frame} {meth : Method} {c : Code} {D : va_G} {cy : Nat → ClassId} {a : Nat} (hx : p.tables.exec = Jvm.exec) (hb : c.code = cX6_rateThatGoes) (hr : meth.sig.returnType = (some .int)) (hml : c.maxLocals = 4) (hown : s.vm.findClass RX6 = some m.cls) (hts : ∀ w ∈ wsX6_rateThatGoes, w.before args s = true) (hlocks : meth.locks = false) (hK : KS D cy s) (hZ : ZZ a s s.heap) {out : Int32} (kL5 : Int32 → Mm → Option (Int32)) (hkL5 : ∀ (x1 : Int32) (M : Mm) (H : Heap) (locs : List Loc) (ls : Array Slot), HP D cy a M H → va_S (Aq a) s.heap H locs → lv_has ls 4 [(0, .ref (a + 77)), (1, .int x1)] → kL5 x1 M = some out → W p l e rX6_rateThatGoes s m args below meth c H locs 0 0 (MQ below (QI D cy a out M) args s 0 0 (Aq a)) (F0 m 5 ls [])) : ∀ (n : Nat), ∀ (x1 : Int32) (x2 : Int32) (x3 : Int32) (M : Mm) (H : Heap) (locs : List Loc) (ls : Array Slot), HP D cy a M H → va_S (Aq a) s.heap H locs → lv_has ls 4 [(0, .ref (a + 77)), (1, .int x1), (2, .int x2), (3, .int x3)] → narrow .boolean (.int x2) = .int x2 → fX6_rateThatGoes_L13 kL5 n x1 x2 x3 M = some out → W p l e rX6_rateThatGoes s m args below meth c H locs 0 0 (MQ below (QI D cy a out M) args s 0 0 (Aq a)) (F0 m 13 ls []) := by
  intro n
  induction n with
  | zero =>
    intro x1 x2 x3 M H locs ls hw hS hl hb2 hf
    have hf : (none : Option (Int32)) = some out := hf
    cases hf
  | succ n ih =>
    intro x1 x2 x3 M H locs ls hw hS hl hb2 hf
    unfold fX6_rateThatGoes_L13 at hf
    refine lv_iload_n hx hb dX6_rateThatGoes_13 rfl (lv_at hl 3 rfl) ?_
    refine lv_aload_n hx hb dX6_rateThatGoes_14 rfl (lv_at hl 0 rfl) ?_
    refine rGetI hx hb hts iX6_rateThatGoes_X6 hown hK hw (Nat.le_of_ble_eq_true rfl) en_model rfl 1 (by decide) (hts _ kX6_rateThatGoes_0) rfl ge6_1 dX6_rateThatGoes_15 ?_
    refine lv_icmp_ge (tgt := 52) hx hb dX6_rateThatGoes_18 (by decide) (fun c1 => ?_) (fun c1 => ?_)
    · have hf := ip c1 hf
      exact bX6_rateThatGoes_52 hx hb hr hml hown hts hlocks hK hZ kL5 hkL5 _ _ _ _ _ _ hw hS (lv_sub hl [0, 1, 2] rfl) hb2 hf
    · have hf := iq c1 hf
      refine lv_iload_n hx hb dX6_rateThatGoes_21 rfl (lv_at hl 2 rfl) ?_
      refine lv_if_eq (tgt := 52) hx hb dX6_rateThatGoes_22 (by decide) (fun c2 => ?_) (fun c2 => ?_)
      · have hf := ip c2 hf
        exact bX6_rateThatGoes_52 hx hb hr hml hown hts hlocks hK hZ kL5 hkL5 _ _ _ _ _ _ hw hS (lv_sub hl [0, 1, 2] rfl) hb2 hf
      · have hf := iq c2 hf
        refine lv_aload_n hx hb dX6_rateThatGoes_25 rfl (lv_at hl 0 rfl) ?_
        refine lv_iload_n hx hb dX6_rateThatGoes_26 rfl (lv_at hl 3 rfl) ?_
        refine lv_iload_n hx hb dX6_rateThatGoes_27 rfl (lv_at hl 1 rfl) ?_
        obtain ⟨o3, ho3, hf⟩ := ob hf
        refine rCallI (va_runV (As := [.int x3, .int x1]) (rest := []) ⟨hx, hb, hml, hown, hts⟩ (ctX6_pressureOf (l := l) (D := D) (cy := cy) (a := a) ho3) (cwV 2 hts gX6_rateThatGoes_X6_pressureOf rfl rfl rfl (by decide +kernel) ⟨Nat.le_of_ble_eq_true rfl, Nat.le_of_ble_eq_true rfl⟩) (pV hK hZ hw hS (rRecv hK hw (Nat.le_of_ble_eq_true rfl) en_model rfl)) rfl rfl hl.1 rfl (lv_room (Nat.le_of_ble_eq_true rfl)) dX6_rateThatGoes_28 ⟨Nat.le_of_ble_eq_true rfl, Nat.le_of_ble_eq_true rfl⟩) hS (fun H locs hw hS => ?_)
        refine lv_aload_n hx hb dX6_rateThatGoes_31 rfl (lv_at hl 0 rfl) ?_
        refine rGet hx hb hts iX6_rateThatGoes_X6 hown hK hw (Nat.le_of_ble_eq_true rfl) en_model rfl 4 (by decide) (hts _ kX6_rateThatGoes_1) rfl rfl dX6_rateThatGoes_32 ?_
        refine lv_iload_n hx hb dX6_rateThatGoes_35 rfl (lv_at hl 3 rfl) ?_
        obtain ⟨hg4, hf⟩ := og hf
        refine rIald hx hb hK hw (Nat.le_of_ble_eq_true rfl) en_a80 hg4 dX6_rateThatGoes_36 ?_
        refine lv_icmp_gt (tgt := 44) hx hb dX6_rateThatGoes_37 (by decide) (fun c5 => ?_) (fun c5 => ?_)
        · have hf := ip c5 hf
          refine lv_iconst (v := (0 : Int32)) hx hb dX6_rateThatGoes_44 (by decide) ?_
          refine lv_istore_n (lv' := [(2, .int (0 : Int32)), (0, .ref (a + 77)), (1, .int x1), (3, .int x3)]) hx hb dX6_rateThatGoes_45 rfl hl (Nat.le_of_ble_eq_true rfl) rfl (fun ls hl => ?_)
          refine lv_iinc (v := x3 + (1 : Int32)) (lv' := [(3, .int (x3 + (1 : Int32))), (2, .int (0 : Int32)), (0, .ref (a + 77)), (1, .int x1)]) hx hb dX6_rateThatGoes_46 hl (k := 3) rfl rfl (Nat.le_of_ble_eq_true rfl) rfl (fun ls hl => ?_)
          refine lv_goto (tgt := 13) hx hb dX6_rateThatGoes_49 (by decide) ?_
          exact ih _ _ _ _ _ _ _ hw hS (lv_sub hl [2, 3, 1, 0] rfl) rfl hf
        · have hf := iq c5 hf
          refine lv_iconst (v := (1 : Int32)) hx hb dX6_rateThatGoes_40 (by decide) ?_
          refine lv_goto (tgt := 45) hx hb dX6_rateThatGoes_41 (by decide) ?_
          refine lv_istore_n (lv' := [(2, .int (1 : Int32)), (0, .ref (a + 77)), (1, .int x1), (3, .int x3)]) hx hb dX6_rateThatGoes_45 rfl hl (Nat.le_of_ble_eq_true rfl) rfl (fun ls hl => ?_)
          refine lv_iinc (v := x3 + (1 : Int32)) (lv' := [(3, .int (x3 + (1 : Int32))), (2, .int (1 : Int32)), (0, .ref (a + 77)), (1, .int x1)]) hx hb dX6_rateThatGoes_46 hl (k := 3) rfl rfl (Nat.le_of_ble_eq_true rfl) rfl (fun ls hl => ?_)
          refine lv_goto (tgt := 13) hx hb dX6_rateThatGoes_49 (by decide) ?_
          exact ih _ _ _ _ _ _ _ hw hS (lv_sub hl [2, 3, 1, 0] rfl) rfl hf
set_option maxRecDepth 100000 in
set_option maxHeartbeats 4000000 in
theorem bX6_rateThatGoes_5 {p : Program} {l : Launch} {e : Env} {s : State} {m : MethodId} {args : Array Value} {below : List Frame} {meth : Method} {c : Code} {D : va_G} {cy : Nat → ClassId} {a : Nat} (hx : p.tables.exec = Jvm.exec) (hb : c.code = cX6_rateThatGoes) (hr : meth.sig.returnType = (some .int)) (hml : c.maxLocals = 4) (hown : s.vm.findClass RX6 = some m.cls) (hts : ∀ w ∈ wsX6_rateThatGoes, w.before args s = true) (hlocks : meth.locks = false) (hK : KS D cy s) (hZ : ZZ a s s.heap) {out : Int32} : ∀ (n : Nat), ∀ (x1 : Int32) (M : Mm) (H : Heap) (locs : List Loc) (ls : Array Slot), HP D cy a M H → va_S (Aq a) s.heap H locs → lv_has ls 4 [(0, .ref (a + 77)), (1, .int x1)] → fX6_rateThatGoes_L5 n x1 M = some out → W p l e rX6_rateThatGoes s m args below meth c H locs 0 0 (MQ below (QI D cy a out M) args s 0 0 (Aq a)) (F0 m 5 ls []) := by
  intro n
  induction n with
  | zero =>
    intro x1 M H locs ls hw hS hl hf
    have hf : (none : Option (Int32)) = some out := hf
    cases hf
  | succ n ih =>
    intro x1 M H locs ls hw hS hl hf
    unfold fX6_rateThatGoes_L5 at hf
    refine lv_iload_n hx hb dX6_rateThatGoes_5 rfl (lv_at hl 1 rfl) ?_
    refine lv_if_le (tgt := 64) hx hb dX6_rateThatGoes_6 (by decide) (fun c1 => ?_) (fun c1 => ?_)
    · have hf := ip c1 hf
      refine lv_iconst (v := (0 : Int32)) hx hb dX6_rateThatGoes_64 (by decide) ?_
      obtain rfl := Option.some.inj hf
      exact rIret hx hb hr hlocks hw hS dX6_rateThatGoes_65
    · have hf := iq c1 hf
      refine lv_iconst (v := (1 : Int32)) hx hb dX6_rateThatGoes_9 (by decide) ?_
      refine lv_istore_n (lv' := [(2, .int (1 : Int32)), (0, .ref (a + 77)), (1, .int x1)]) hx hb dX6_rateThatGoes_10 rfl hl (Nat.le_of_ble_eq_true rfl) rfl (fun ls hl => ?_)
      refine lv_iconst (v := (0 : Int32)) hx hb dX6_rateThatGoes_11 (by decide) ?_
      refine lv_istore_n (lv' := [(3, .int (0 : Int32)), (2, .int (1 : Int32)), (0, .ref (a + 77)), (1, .int x1)]) hx hb dX6_rateThatGoes_12 rfl hl (Nat.le_of_ble_eq_true rfl) rfl (fun ls hl => ?_)
      exact bX6_rateThatGoes_13 hx hb hr hml hown hts hlocks hK hZ (fX6_rateThatGoes_L5 n) ih 400 _ _ _ _ _ _ _ hw hS (lv_sub hl [2, 3, 1, 0] rfl) rfl hf
set_option maxRecDepth 100000 in
set_option maxHeartbeats 4000000 in
theorem bX6_rateThatGoes_0 {p : Program} {l : Launch} {e : Env} {s : State} {m : MethodId} {args : Array Value} {below : List Frame} {meth : Method} {c : Code} {D : va_G} {cy : Nat → ClassId} {a : Nat} (hx : p.tables.exec = Jvm.exec) (hb : c.code = cX6_rateThatGoes) (hr : meth.sig.returnType = (some .int)) (hml : c.maxLocals = 4) (hown : s.vm.findClass RX6 = some m.cls) (hts : ∀ w ∈ wsX6_rateThatGoes, w.before args s = true) (hlocks : meth.locks = false) (hK : KS D cy s) (hZ : ZZ a s s.heap) {out : Int32} : ∀ (M : Mm) (H : Heap) (locs : List Loc) (ls : Array Slot), HP D cy a M H → va_S (Aq a) s.heap H locs → lv_has ls 4 [(0, .ref (a + 77))] → fX6_rateThatGoes  M = some out → W p l e rX6_rateThatGoes s m args below meth c H locs 0 0 (MQ below (QI D cy a out M) args s 0 0 (Aq a)) (F0 m 0 ls []) := by
  intro M H locs ls hw hS hl hf
  unfold fX6_rateThatGoes at hf
  refine lv_aload_n hx hb dX6_rateThatGoes_0 rfl (lv_at hl 0 rfl) ?_
  refine rGetI hx hb hts iX6_rateThatGoes_X6 hown hK hw (Nat.le_of_ble_eq_true rfl) en_model rfl 27 (by decide) (hts _ kX6_rateThatGoes_2) rfl ge6_27 dX6_rateThatGoes_1 ?_
  refine lv_istore_n (lv' := [(1, .int (gi M 77 27)), (0, .ref (a + 77))]) hx hb dX6_rateThatGoes_4 rfl hl (Nat.le_of_ble_eq_true rfl) rfl (fun ls hl => ?_)
  exact bX6_rateThatGoes_5 hx hb hr hml hown hts hlocks hK hZ 400 _ _ _ _ _ hw hS (lv_sub hl [1, 0] rfl) hf
set_option maxRecDepth 100000 in
set_option maxHeartbeats 4000000 in
theorem ctX6_rateThatGoes {l : Launch} {D : va_G} {cy : Nat → ClassId} {a : Nat} {M : Mm} {out : Int32} (hf : fX6_rateThatGoes  M = some out) : Met l yX6_rateThatGoes wsX6_rateThatGoes rX6_rateThatGoes (Pre D cy a M [.ref (a + 77)]) (QI D cy a out M) 0 0 (Aq a) := by
  refine Met.ofW (cc := cX6_rateThatGoes) (maxL := 4) (ret := (some .int)) (by decide +kernel) rfl ?_
  intro p e s m args below meth c s₁ B hml hv
  obtain ⟨rfl, hw, hK, hZ⟩ := hv
  have hS : va_S (Aq a) s.heap s.heap [] := va_S.rf
  have hl := lv_entry ([.ref (a + 77)]) (n := 4) (Nat.le_of_ble_eq_true rfl)
  rw [lg_entry_eq]
  generalize (lg_sl ([.ref (a + 77)]) ++ List.replicate (4 - (lg_sl ([.ref (a + 77)])).length) Slot.unset).toArray = ls at hl ⊢
  exact bX6_rateThatGoes_0 B.exec B.bytes B.returns hml (findClass_of_methodNamed B.named) (atoms_spec (ws := wsX6_rateThatGoes) B.pre) B.notSynchronized hK hZ _ _ _ _ hw hS hl hf
def rX6_root : Room := { frames := 0, cells := 0, slots := 0, locals := 0 }
noncomputable def fX6_root_L2 : Nat → Int32 → Int32 → Mm → Option (Int32)
  | 0 => fun _ _ _ => none
  | n + 1 => fun x0 x1 M => (if x0 < ((x1 + (1 : Int32)) * (x1 + (1 : Int32))) then some (x1) else (fX6_root_L2 n) x0 (x1 + (1 : Int32)) M)
noncomputable def fX6_root (x0 : Int32) (M : Mm) : Option (Int32) := fX6_root_L2 400 x0 (0 : Int32) M
set_option maxRecDepth 100000 in
set_option maxHeartbeats 4000000 in
theorem bX6_root_2 {p : Program} {l : Launch} {e : Env} {s : State} {m : MethodId} {args : Array Value} {below : List Frame} {meth : Method} {c : Code} {D : va_G} {cy : Nat → ClassId} {a : Nat} (hx : p.tables.exec = Jvm.exec) (hb : c.code = cX6_root) (hr : meth.sig.returnType = (some .int)) (hml : c.maxLocals = 2) (hown : s.vm.findClass RX6 = some m.cls) (hts : ∀ w ∈ wsX6_root, w.before args s = true) (hlocks : meth.locks = false) (hK : KS D cy s) (hZ : ZZ a s s.heap) {out : Int32} : ∀ (n : Nat), ∀ (x0 : Int32) (x1 : Int32) (M : Mm) (H : Heap) (locs : List Loc) (ls : Array Slot), HP D cy a M H → va_S (Aq a) s.heap H locs → lv_has ls 2 [(0, .int x0), (1, .int x1)] → fX6_root_L2 n x0 x1 M = some out → W p l e rX6_root s m args below meth c H locs 0 0 (MQ below (QI D cy a out M) args s 0 0 (Aq a)) (F0 m 2 ls []) := by
  intro n
  induction n with
  | zero =>
    intro x0 x1 M H locs ls hw hS hl hf
    have hf : (none : Option (Int32)) = some out := hf
    cases hf
  | succ n ih =>
    intro x0 x1 M H locs ls hw hS hl hf
    unfold fX6_root_L2 at hf
    refine lv_iload_n hx hb dX6_root_2 rfl (lv_at hl 1 rfl) ?_
    refine lv_iconst (v := (1 : Int32)) hx hb dX6_root_3 (by decide) ?_
    refine lv_iadd hx hb dX6_root_4 ?_
    refine lv_iload_n hx hb dX6_root_5 rfl (lv_at hl 1 rfl) ?_
    refine lv_iconst (v := (1 : Int32)) hx hb dX6_root_6 (by decide) ?_
    refine lv_iadd hx hb dX6_root_7 ?_
    refine lv_imul hx hb dX6_root_8 ?_
    refine lv_iload_n hx hb dX6_root_9 rfl (lv_at hl 0 rfl) ?_
    refine lv_icmp_gt (tgt := 19) hx hb dX6_root_10 (by decide) (fun c1 => ?_) (fun c1 => ?_)
    · have hf := ip c1 hf
      refine lv_iload_n hx hb dX6_root_19 rfl (lv_at hl 1 rfl) ?_
      obtain rfl := Option.some.inj hf
      exact rIret hx hb hr hlocks hw hS dX6_root_20
    · have hf := iq c1 hf
      refine lv_iinc (v := x1 + (1 : Int32)) (lv' := [(1, .int (x1 + (1 : Int32))), (0, .int x0)]) hx hb dX6_root_13 hl (k := 1) rfl rfl (Nat.le_of_ble_eq_true rfl) rfl (fun ls hl => ?_)
      refine lv_goto (tgt := 2) hx hb dX6_root_16 (by decide) ?_
      exact ih _ _ _ _ _ _ hw hS (lv_sub hl [1, 0] rfl) hf
set_option maxRecDepth 100000 in
set_option maxHeartbeats 4000000 in
theorem bX6_root_0 {p : Program} {l : Launch} {e : Env} {s : State} {m : MethodId} {args : Array Value} {below : List Frame} {meth : Method} {c : Code} {D : va_G} {cy : Nat → ClassId} {a : Nat} (hx : p.tables.exec = Jvm.exec) (hb : c.code = cX6_root) (hr : meth.sig.returnType = (some .int)) (hml : c.maxLocals = 2) (hown : s.vm.findClass RX6 = some m.cls) (hts : ∀ w ∈ wsX6_root, w.before args s = true) (hlocks : meth.locks = false) (hK : KS D cy s) (hZ : ZZ a s s.heap) {out : Int32} : ∀ (x0 : Int32) (M : Mm) (H : Heap) (locs : List Loc) (ls : Array Slot), HP D cy a M H → va_S (Aq a) s.heap H locs → lv_has ls 2 [(0, .int x0)] → fX6_root x0 M = some out → W p l e rX6_root s m args below meth c H locs 0 0 (MQ below (QI D cy a out M) args s 0 0 (Aq a)) (F0 m 0 ls []) := by
  intro x0 M H locs ls hw hS hl hf
  unfold fX6_root at hf
  refine lv_iconst (v := (0 : Int32)) hx hb dX6_root_0 (by decide) ?_
  refine lv_istore_n (lv' := [(1, .int (0 : Int32)), (0, .int x0)]) hx hb dX6_root_1 rfl hl (Nat.le_of_ble_eq_true rfl) rfl (fun ls hl => ?_)
  exact bX6_root_2 hx hb hr hml hown hts hlocks hK hZ 400 _ _ _ _ _ _ hw hS (lv_sub hl [1, 0] rfl) hf
set_option maxRecDepth 100000 in
set_option maxHeartbeats 4000000 in
theorem ctX6_root {l : Launch} {D : va_G} {cy : Nat → ClassId} {a : Nat} {x0 : Int32} {M : Mm} {out : Int32} (hf : fX6_root x0 M = some out) : Met l yX6_root wsX6_root rX6_root (Pre D cy a M [.int x0]) (QI D cy a out M) 0 0 (Aq a) := by
  refine Met.ofW (cc := cX6_root) (maxL := 2) (ret := (some .int)) (by decide +kernel) rfl ?_
  intro p e s m args below meth c s₁ B hml hv
  obtain ⟨rfl, hw, hK, hZ⟩ := hv
  have hS : va_S (Aq a) s.heap s.heap [] := va_S.rf
  have hl := lv_entry ([.int x0]) (n := 2) (Nat.le_of_ble_eq_true rfl)
  rw [lg_entry_eq]
  generalize (lg_sl ([.int x0]) ++ List.replicate (2 - (lg_sl ([.int x0])).length) Slot.unset).toArray = ls at hl ⊢
  exact bX6_root_0 B.exec B.bytes B.returns hml (findClass_of_methodNamed B.named) (atoms_spec (ws := wsX6_root) B.pre) B.notSynchronized hK hZ _ _ _ _ _ hw hS hl hf
def rX6_mixOf : Room := { frames := 1, cells := 0, slots := 0, locals := 21 }
noncomputable def fX6_mixOf (x1 : Int32) (M : Mm) : Option (Int32) := (if x1 < (1 : Int32) then some ((0 : Int32)) else (if ¬ (x1 < 0 ∨ 40 ≤ x1.toNatClampNeg) then (if (gi M 89 x1.toNatClampNeg) = 0 then some ((0 : Int32)) else (if ¬ (x1 < 0 ∨ 40 ≤ x1.toNatClampNeg) then (if ¬ (x1 < 0 ∨ 40 ≤ x1.toNatClampNeg) then (if ¬ ((gi M 93 x1.toNatClampNeg) < 0 ∨ 40 ≤ (gi M 93 x1.toNatClampNeg).toNatClampNeg) then (if (gi M 87 x1.toNatClampNeg) = (gi M 87 (gi M 93 x1.toNatClampNeg).toNatClampNeg) then some ((0 : Int32)) else (if ¬ (x1 < 0 ∨ 40 ≤ x1.toNatClampNeg) then (if (gi M 96 x1.toNatClampNeg) = (-1 : Int32) then (if ¬ (x1 < 0 ∨ 40 ≤ x1.toNatClampNeg) then ((fX6_root ((gi M 77 24) - (gi M 95 x1.toNatClampNeg)) M).bind fun o11 => some (o11)) else none) else (if ¬ (x1 < 0 ∨ 40 ≤ x1.toNatClampNeg) then some (gi M 96 x1.toNatClampNeg) else none)) else none)) else none) else none) else none)) else none))
set_option maxRecDepth 20000 in
theorem iX6_mixOf_X6 : ∀ w ∈ wsX60, w ∈ wsX6_mixOf := by decide +kernel
set_option maxRecDepth 20000 in
theorem kX6_mixOf_0 : Cond.fieldLink RX6 47 "BatchPipeModel" "entered" "[I" ∈ wsX6_mixOf := by decide +kernel
set_option maxRecDepth 20000 in
theorem kX6_mixOf_1 : Cond.fieldLink RX6 41 "BatchPipeModel" "product" "[I" ∈ wsX6_mixOf := by decide +kernel
set_option maxRecDepth 20000 in
theorem kX6_mixOf_2 : Cond.fieldLink RX6 59 "BatchPipeModel" "ahead" "[I" ∈ wsX6_mixOf := by decide +kernel
set_option maxRecDepth 20000 in
theorem kX6_mixOf_3 : Cond.fieldLink RX6 68 "BatchPipeModel" "kept" "[I" ∈ wsX6_mixOf := by decide +kernel
set_option maxRecDepth 20000 in
theorem kX6_mixOf_4 : Cond.fieldLink RX6 120 "BatchPipeModel" "all" "I" ∈ wsX6_mixOf := by decide +kernel
set_option maxRecDepth 20000 in
theorem kX6_mixOf_5 : Cond.fieldLink RX6 65 "BatchPipeModel" "enteredAhead" "[I" ∈ wsX6_mixOf := by decide +kernel
set_option maxRecDepth 100000 in
set_option maxHeartbeats 4000000 in
theorem bX6_mixOf_0 {p : Program} {l : Launch} {e : Env} {s : State} {m : MethodId} {args : Array Value} {below : List Frame} {meth : Method} {c : Code} {D : va_G} {cy : Nat → ClassId} {a : Nat} (hx : p.tables.exec = Jvm.exec) (hb : c.code = cX6_mixOf) (hr : meth.sig.returnType = (some .int)) (hml : c.maxLocals = 2) (hown : s.vm.findClass RX6 = some m.cls) (hts : ∀ w ∈ wsX6_mixOf, w.before args s = true) (hlocks : meth.locks = false) (hK : KS D cy s) (hZ : ZZ a s s.heap) {out : Int32} : ∀ (x1 : Int32) (M : Mm) (H : Heap) (locs : List Loc) (ls : Array Slot), HP D cy a M H → va_S (Aq a) s.heap H locs → lv_has ls 2 [(0, .ref (a + 77)), (1, .int x1)] → fX6_mixOf x1 M = some out → W p l e rX6_mixOf s m args below meth c H locs 0 0 (MQ below (QI D cy a out M) args s 0 0 (Aq a)) (F0 m 0 ls []) := by
  intro x1 M H locs ls hw hS hl hf
  unfold fX6_mixOf at hf
  refine lv_iload_n hx hb dX6_mixOf_0 rfl (lv_at hl 1 rfl) ?_
  refine lv_iconst (v := (1 : Int32)) hx hb dX6_mixOf_1 (by decide) ?_
  refine lv_icmp_lt (tgt := 34) hx hb dX6_mixOf_2 (by decide) (fun c1 => ?_) (fun c1 => ?_)
  · have hf := ip c1 hf
    refine lv_iconst (v := (0 : Int32)) hx hb dX6_mixOf_34 (by decide) ?_
    obtain rfl := Option.some.inj hf
    exact rIret hx hb hr hlocks hw hS dX6_mixOf_35
  · have hf := iq c1 hf
    refine lv_aload_n hx hb dX6_mixOf_5 rfl (lv_at hl 0 rfl) ?_
    refine rGet hx hb hts iX6_mixOf_X6 hown hK hw (Nat.le_of_ble_eq_true rfl) en_model rfl 16 (by decide) (hts _ kX6_mixOf_0) rfl rfl dX6_mixOf_6 ?_
    refine lv_iload_n hx hb dX6_mixOf_9 rfl (lv_at hl 1 rfl) ?_
    obtain ⟨hg2, hf⟩ := og hf
    refine rIald hx hb hK hw (Nat.le_of_ble_eq_true rfl) en_a89 hg2 dX6_mixOf_10 ?_
    refine lv_if_eq (tgt := 34) hx hb dX6_mixOf_11 (by decide) (fun c3 => ?_) (fun c3 => ?_)
    · have hf := ip c3 hf
      refine lv_iconst (v := (0 : Int32)) hx hb dX6_mixOf_34 (by decide) ?_
      obtain rfl := Option.some.inj hf
      exact rIret hx hb hr hlocks hw hS dX6_mixOf_35
    · have hf := iq c3 hf
      refine lv_aload_n hx hb dX6_mixOf_14 rfl (lv_at hl 0 rfl) ?_
      refine rGet hx hb hts iX6_mixOf_X6 hown hK hw (Nat.le_of_ble_eq_true rfl) en_model rfl 14 (by decide) (hts _ kX6_mixOf_1) rfl rfl dX6_mixOf_15 ?_
      refine lv_iload_n hx hb dX6_mixOf_18 rfl (lv_at hl 1 rfl) ?_
      obtain ⟨hg4, hf⟩ := og hf
      refine rIald hx hb hK hw (Nat.le_of_ble_eq_true rfl) en_a87 hg4 dX6_mixOf_19 ?_
      refine lv_aload_n hx hb dX6_mixOf_20 rfl (lv_at hl 0 rfl) ?_
      refine rGet hx hb hts iX6_mixOf_X6 hown hK hw (Nat.le_of_ble_eq_true rfl) en_model rfl 14 (by decide) (hts _ kX6_mixOf_1) rfl rfl dX6_mixOf_21 ?_
      refine lv_aload_n hx hb dX6_mixOf_24 rfl (lv_at hl 0 rfl) ?_
      refine rGet hx hb hts iX6_mixOf_X6 hown hK hw (Nat.le_of_ble_eq_true rfl) en_model rfl 20 (by decide) (hts _ kX6_mixOf_2) rfl rfl dX6_mixOf_25 ?_
      refine lv_iload_n hx hb dX6_mixOf_28 rfl (lv_at hl 1 rfl) ?_
      obtain ⟨hg5, hf⟩ := og hf
      refine rIald hx hb hK hw (Nat.le_of_ble_eq_true rfl) en_a93 hg5 dX6_mixOf_29 ?_
      obtain ⟨hg6, hf⟩ := og hf
      refine rIald hx hb hK hw (Nat.le_of_ble_eq_true rfl) en_a87 hg6 dX6_mixOf_30 ?_
      refine lv_icmp_ne (tgt := 36) hx hb dX6_mixOf_31 (by decide) (fun c7 => ?_) (fun c7 => ?_)
      · have hf := iq c7 hf
        refine lv_aload_n hx hb dX6_mixOf_36 rfl (lv_at hl 0 rfl) ?_
        refine rGet hx hb hts iX6_mixOf_X6 hown hK hw (Nat.le_of_ble_eq_true rfl) en_model rfl 23 (by decide) (hts _ kX6_mixOf_3) rfl rfl dX6_mixOf_37 ?_
        refine lv_iload_n hx hb dX6_mixOf_40 rfl (lv_at hl 1 rfl) ?_
        obtain ⟨hg8, hf⟩ := og hf
        refine rIald hx hb hK hw (Nat.le_of_ble_eq_true rfl) en_a96 hg8 dX6_mixOf_41 ?_
        refine lv_iconst (v := (-1 : Int32)) hx hb dX6_mixOf_42 (by decide) ?_
        refine lv_icmp_eq (tgt := 55) hx hb dX6_mixOf_43 (by decide) (fun c9 => ?_) (fun c9 => ?_)
        · have hf := ip c9 hf
          refine lv_aload_n hx hb dX6_mixOf_55 rfl (lv_at hl 0 rfl) ?_
          refine rGetI hx hb hts iX6_mixOf_X6 hown hK hw (Nat.le_of_ble_eq_true rfl) en_model rfl 24 (by decide) (hts _ kX6_mixOf_4) rfl ge6_24 dX6_mixOf_56 ?_
          refine lv_aload_n hx hb dX6_mixOf_59 rfl (lv_at hl 0 rfl) ?_
          refine rGet hx hb hts iX6_mixOf_X6 hown hK hw (Nat.le_of_ble_eq_true rfl) en_model rfl 22 (by decide) (hts _ kX6_mixOf_5) rfl rfl dX6_mixOf_60 ?_
          refine lv_iload_n hx hb dX6_mixOf_63 rfl (lv_at hl 1 rfl) ?_
          obtain ⟨hg10, hf⟩ := og hf
          refine rIald hx hb hK hw (Nat.le_of_ble_eq_true rfl) en_a95 hg10 dX6_mixOf_64 ?_
          refine lv_isub hx hb dX6_mixOf_65 ?_
          obtain ⟨o11, ho11, hf⟩ := ob hf
          refine rCallI (va_runS (As := [.int ((gi M 77 24) - (gi M 95 x1.toNatClampNeg))]) (rest := []) ⟨hx, hb, hml, hown, hts⟩ (ctX6_root (l := l) (D := D) (cy := cy) (a := a) ho11) (va_cwS 1 hts gX6_mixOf_X6_root rfl rfl rfl (by decide +kernel) ⟨Nat.le_of_ble_eq_true rfl, Nat.le_of_ble_eq_true rfl⟩) (pS hK hZ hw hS) rfl rfl hl.1 rfl (lv_room (Nat.le_of_ble_eq_true rfl)) dX6_mixOf_66 ⟨Nat.le_of_ble_eq_true rfl, Nat.le_of_ble_eq_true rfl⟩) hS (fun H locs hw hS => ?_)
          obtain rfl := Option.some.inj hf
          exact rIret hx hb hr hlocks hw hS dX6_mixOf_69
        · have hf := iq c9 hf
          refine lv_aload_n hx hb dX6_mixOf_46 rfl (lv_at hl 0 rfl) ?_
          refine rGet hx hb hts iX6_mixOf_X6 hown hK hw (Nat.le_of_ble_eq_true rfl) en_model rfl 23 (by decide) (hts _ kX6_mixOf_3) rfl rfl dX6_mixOf_47 ?_
          refine lv_iload_n hx hb dX6_mixOf_50 rfl (lv_at hl 1 rfl) ?_
          obtain ⟨hg12, hf⟩ := og hf
          refine rIald hx hb hK hw (Nat.le_of_ble_eq_true rfl) en_a96 hg12 dX6_mixOf_51 ?_
          refine lv_goto (tgt := 69) hx hb dX6_mixOf_52 (by decide) ?_
          obtain rfl := Option.some.inj hf
          exact rIret hx hb hr hlocks hw hS dX6_mixOf_69
      · have hf := ip c7 hf
        refine lv_iconst (v := (0 : Int32)) hx hb dX6_mixOf_34 (by decide) ?_
        obtain rfl := Option.some.inj hf
        exact rIret hx hb hr hlocks hw hS dX6_mixOf_35
set_option maxRecDepth 100000 in
set_option maxHeartbeats 4000000 in
theorem ctX6_mixOf {l : Launch} {D : va_G} {cy : Nat → ClassId} {a : Nat} {x1 : Int32} {M : Mm} {out : Int32} (hf : fX6_mixOf x1 M = some out) : Met l yX6_mixOf wsX6_mixOf rX6_mixOf (Pre D cy a M [.ref (a + 77), .int x1]) (QI D cy a out M) 0 0 (Aq a) := by
  refine Met.ofW (cc := cX6_mixOf) (maxL := 2) (ret := (some .int)) (by decide +kernel) rfl ?_
  intro p e s m args below meth c s₁ B hml hv
  obtain ⟨rfl, hw, hK, hZ⟩ := hv
  have hS : va_S (Aq a) s.heap s.heap [] := va_S.rf
  have hl := lv_entry ([.ref (a + 77), .int x1]) (n := 2) (Nat.le_of_ble_eq_true rfl)
  rw [lg_entry_eq]
  generalize (lg_sl ([.ref (a + 77), .int x1]) ++ List.replicate (2 - (lg_sl ([.ref (a + 77), .int x1])).length) Slot.unset).toArray = ls at hl ⊢
  exact bX6_mixOf_0 B.exec B.bytes B.returns hml (findClass_of_methodNamed B.named) (atoms_spec (ws := wsX6_mixOf) B.pre) B.notSynchronized hK hZ _ _ _ _ _ hw hS hl hf
def rX6_isMixedAhead : Room := { frames := 2, cells := 0, slots := 0, locals := 42 }
noncomputable def fX6_isMixedAhead (x1 : Int32) (x2 : Int32) (M : Mm) : Option (Int32) := ((fX6_mixOf x1 M).bind fun o1 => (if ((o1 + (1 : Int32)) / (2 : Int32)) ≤ x2 then some ((0 : Int32)) else some ((1 : Int32))))
set_option maxRecDepth 100000 in
set_option maxHeartbeats 4000000 in
theorem bX6_isMixedAhead_0 {p : Program} {l : Launch} {e : Env} {s : State} {m : MethodId} {args : Array Value} {below : List Frame} {meth : Method} {c : Code} {D : va_G} {cy : Nat → ClassId} {a : Nat} (hx : p.tables.exec = Jvm.exec) (hb : c.code = cX6_isMixedAhead) (hr : meth.sig.returnType = (some .boolean)) (hml : c.maxLocals = 3) (hown : s.vm.findClass RX6 = some m.cls) (hts : ∀ w ∈ wsX6_isMixedAhead, w.before args s = true) (hlocks : meth.locks = false) (hK : KS D cy s) (hZ : ZZ a s s.heap) {out : Int32} : ∀ (x1 : Int32) (x2 : Int32) (M : Mm) (H : Heap) (locs : List Loc) (ls : Array Slot), HP D cy a M H → va_S (Aq a) s.heap H locs → lv_has ls 3 [(0, .ref (a + 77)), (1, .int x1), (2, .int x2)] → fX6_isMixedAhead x1 x2 M = some out → W p l e rX6_isMixedAhead s m args below meth c H locs 0 0 (MQ below (QB D cy a out M) args s 0 0 (Aq a)) (F0 m 0 ls []) := by
  intro x1 x2 M H locs ls hw hS hl hf
  unfold fX6_isMixedAhead at hf
  refine lv_iload_n hx hb dX6_isMixedAhead_0 rfl (lv_at hl 2 rfl) ?_
  refine lv_aload_n hx hb dX6_isMixedAhead_1 rfl (lv_at hl 0 rfl) ?_
  refine lv_iload_n hx hb dX6_isMixedAhead_2 rfl (lv_at hl 1 rfl) ?_
  obtain ⟨o1, ho1, hf⟩ := ob hf
  refine rCallI (va_runV (As := [.int x1]) (rest := [.int x2]) ⟨hx, hb, hml, hown, hts⟩ (ctX6_mixOf (l := l) (D := D) (cy := cy) (a := a) ho1) (cwV 1 hts gX6_isMixedAhead_X6_mixOf rfl rfl rfl (by decide +kernel) ⟨Nat.le_of_ble_eq_true rfl, Nat.le_of_ble_eq_true rfl⟩) (pV hK hZ hw hS (rRecv hK hw (Nat.le_of_ble_eq_true rfl) en_model rfl)) rfl rfl hl.1 rfl (lv_room (Nat.le_of_ble_eq_true rfl)) dX6_isMixedAhead_3 ⟨Nat.le_of_ble_eq_true rfl, Nat.le_of_ble_eq_true rfl⟩) hS (fun H locs hw hS => ?_)
  refine lv_iconst (v := (1 : Int32)) hx hb dX6_isMixedAhead_6 (by decide) ?_
  refine lv_iadd hx hb dX6_isMixedAhead_7 ?_
  refine lv_iconst (v := (2 : Int32)) hx hb dX6_isMixedAhead_8 (by decide) ?_
  refine lv_idiv hx hb dX6_isMixedAhead_9 (by decide) ?_
  refine lv_icmp_ge (tgt := 17) hx hb dX6_isMixedAhead_10 (by decide) (fun c2 => ?_) (fun c2 => ?_)
  · have hf := ip c2 hf
    refine lv_iconst (v := (0 : Int32)) hx hb dX6_isMixedAhead_17 (by decide) ?_
    obtain rfl := Option.some.inj hf
    exact rBret (x := (0 : Int32)) hx hb hr hlocks hw hS rfl dX6_isMixedAhead_18
  · have hf := iq c2 hf
    refine lv_iconst (v := (1 : Int32)) hx hb dX6_isMixedAhead_13 (by decide) ?_
    refine lv_goto (tgt := 18) hx hb dX6_isMixedAhead_14 (by decide) ?_
    obtain rfl := Option.some.inj hf
    exact rBret (x := (1 : Int32)) hx hb hr hlocks hw hS rfl dX6_isMixedAhead_18
set_option maxRecDepth 100000 in
set_option maxHeartbeats 4000000 in
theorem ctX6_isMixedAhead {l : Launch} {D : va_G} {cy : Nat → ClassId} {a : Nat} {x1 : Int32} {x2 : Int32} {M : Mm} {out : Int32} (hf : fX6_isMixedAhead x1 x2 M = some out) : Met l yX6_isMixedAhead wsX6_isMixedAhead rX6_isMixedAhead (Pre D cy a M [.ref (a + 77), .int x1, .int x2]) (QB D cy a out M) 0 0 (Aq a) := by
  refine Met.ofW (cc := cX6_isMixedAhead) (maxL := 3) (ret := (some .boolean)) (by decide +kernel) rfl ?_
  intro p e s m args below meth c s₁ B hml hv
  obtain ⟨rfl, hw, hK, hZ⟩ := hv
  have hS : va_S (Aq a) s.heap s.heap [] := va_S.rf
  have hl := lv_entry ([.ref (a + 77), .int x1, .int x2]) (n := 3) (Nat.le_of_ble_eq_true rfl)
  rw [lg_entry_eq]
  generalize (lg_sl ([.ref (a + 77), .int x1, .int x2]) ++ List.replicate (3 - (lg_sl ([.ref (a + 77), .int x1, .int x2])).length) Slot.unset).toArray = ls at hl ⊢
  exact bX6_isMixedAhead_0 B.exec B.bytes B.returns hml (findClass_of_methodNamed B.named) (atoms_spec (ws := wsX6_isMixedAhead) B.pre) B.notSynchronized hK hZ _ _ _ _ _ _ hw hS hl hf
def rX6_isMixedBehind : Room := { frames := 2, cells := 0, slots := 0, locals := 42 }
noncomputable def fX6_isMixedBehind_b32 (xs0 : Int32) (xs2 : Int32) (M : Mm) : Option (Int32) := ((fX6_mixOf xs2 M).bind fun o1 => (if ((o1 + (1 : Int32)) / (2 : Int32)) ≤ xs0 then some ((0 : Int32)) else some ((1 : Int32))))
noncomputable def fX6_isMixedBehind (x1 : Int32) (x2 : Int32) (M : Mm) : Option (Int32) := (if ¬ (x1 < 0 ∨ 40 ≤ x1.toNatClampNeg) then (if (gi M 94 x1.toNatClampNeg) = (-1 : Int32) then some ((0 : Int32)) else (if ¬ (x1 < 0 ∨ 40 ≤ x1.toNatClampNeg) then (if 0 ≤ (gi M 94 x1.toNatClampNeg) then fX6_isMixedBehind_b32 (((gi M 89 x1.toNatClampNeg) - (1 : Int32)) - x2) (gi M 94 x1.toNatClampNeg) M else fX6_isMixedBehind_b32 (((gi M 89 x1.toNatClampNeg) - (1 : Int32)) - x2) (0 : Int32) M) else none)) else none)
set_option maxRecDepth 20000 in
theorem iX6_isMixedBehind_X6 : ∀ w ∈ wsX60, w ∈ wsX6_isMixedBehind := by decide +kernel
set_option maxRecDepth 20000 in
theorem kX6_isMixedBehind_0 : Cond.fieldLink RX6 62 "BatchPipeModel" "behind" "[I" ∈ wsX6_isMixedBehind := by decide +kernel
set_option maxRecDepth 20000 in
theorem kX6_isMixedBehind_1 : Cond.fieldLink RX6 47 "BatchPipeModel" "entered" "[I" ∈ wsX6_isMixedBehind := by decide +kernel
set_option maxRecDepth 100000 in
set_option maxHeartbeats 4000000 in
theorem bX6_isMixedBehind_32 {p : Program} {l : Launch} {e : Env} {s : State} {m : MethodId} {args : Array Value} {below : List Frame} {meth : Method} {c : Code} {D : va_G} {cy : Nat → ClassId} {a : Nat} (hx : p.tables.exec = Jvm.exec) (hb : c.code = cX6_isMixedBehind) (hr : meth.sig.returnType = (some .boolean)) (hml : c.maxLocals = 4) (hown : s.vm.findClass RX6 = some m.cls) (hts : ∀ w ∈ wsX6_isMixedBehind, w.before args s = true) (hlocks : meth.locks = false) (hK : KS D cy s) (hZ : ZZ a s s.heap) {out : Int32} : ∀ (xs0 : Int32) (xs2 : Int32) (M : Mm) (H : Heap) (locs : List Loc) (ls : Array Slot), HP D cy a M H → va_S (Aq a) s.heap H locs → lv_has ls 4 [] → fX6_isMixedBehind_b32 xs0 xs2 M = some out → W p l e rX6_isMixedBehind s m args below meth c H locs 0 0 (MQ below (QB D cy a out M) args s 0 0 (Aq a)) (F0 m 32 ls [.int xs2, .ref (a + 77), .int xs0]) := by
  intro xs0 xs2 M H locs ls hw hS hl hf
  unfold fX6_isMixedBehind_b32 at hf
  obtain ⟨o1, ho1, hf⟩ := ob hf
  refine rCallI (va_runV (As := [.int xs2]) (rest := [.int xs0]) ⟨hx, hb, hml, hown, hts⟩ (ctX6_mixOf (l := l) (D := D) (cy := cy) (a := a) ho1) (cwV 1 hts gX6_isMixedBehind_X6_mixOf rfl rfl rfl (by decide +kernel) ⟨Nat.le_of_ble_eq_true rfl, Nat.le_of_ble_eq_true rfl⟩) (pV hK hZ hw hS (rRecv hK hw (Nat.le_of_ble_eq_true rfl) en_model rfl)) rfl rfl hl.1 rfl (lv_room (Nat.le_of_ble_eq_true rfl)) dX6_isMixedBehind_32 ⟨Nat.le_of_ble_eq_true rfl, Nat.le_of_ble_eq_true rfl⟩) hS (fun H locs hw hS => ?_)
  refine lv_iconst (v := (1 : Int32)) hx hb dX6_isMixedBehind_35 (by decide) ?_
  refine lv_iadd hx hb dX6_isMixedBehind_36 ?_
  refine lv_iconst (v := (2 : Int32)) hx hb dX6_isMixedBehind_37 (by decide) ?_
  refine lv_idiv hx hb dX6_isMixedBehind_38 (by decide) ?_
  refine lv_icmp_ge (tgt := 46) hx hb dX6_isMixedBehind_39 (by decide) (fun c2 => ?_) (fun c2 => ?_)
  · have hf := ip c2 hf
    refine lv_iconst (v := (0 : Int32)) hx hb dX6_isMixedBehind_46 (by decide) ?_
    obtain rfl := Option.some.inj hf
    exact rBret (x := (0 : Int32)) hx hb hr hlocks hw hS rfl dX6_isMixedBehind_47
  · have hf := iq c2 hf
    refine lv_iconst (v := (1 : Int32)) hx hb dX6_isMixedBehind_42 (by decide) ?_
    refine lv_goto (tgt := 47) hx hb dX6_isMixedBehind_43 (by decide) ?_
    obtain rfl := Option.some.inj hf
    exact rBret (x := (1 : Int32)) hx hb hr hlocks hw hS rfl dX6_isMixedBehind_47
set_option maxRecDepth 100000 in
set_option maxHeartbeats 4000000 in
theorem bX6_isMixedBehind_0 {p : Program} {l : Launch} {e : Env} {s : State} {m : MethodId} {args : Array Value} {below : List Frame} {meth : Method} {c : Code} {D : va_G} {cy : Nat → ClassId} {a : Nat} (hx : p.tables.exec = Jvm.exec) (hb : c.code = cX6_isMixedBehind) (hr : meth.sig.returnType = (some .boolean)) (hml : c.maxLocals = 4) (hown : s.vm.findClass RX6 = some m.cls) (hts : ∀ w ∈ wsX6_isMixedBehind, w.before args s = true) (hlocks : meth.locks = false) (hK : KS D cy s) (hZ : ZZ a s s.heap) {out : Int32} : ∀ (x1 : Int32) (x2 : Int32) (M : Mm) (H : Heap) (locs : List Loc) (ls : Array Slot), HP D cy a M H → va_S (Aq a) s.heap H locs → lv_has ls 4 [(0, .ref (a + 77)), (1, .int x1), (2, .int x2)] → fX6_isMixedBehind x1 x2 M = some out → W p l e rX6_isMixedBehind s m args below meth c H locs 0 0 (MQ below (QB D cy a out M) args s 0 0 (Aq a)) (F0 m 0 ls []) := by
  intro x1 x2 M H locs ls hw hS hl hf
  unfold fX6_isMixedBehind at hf
  refine lv_aload_n hx hb dX6_isMixedBehind_0 rfl (lv_at hl 0 rfl) ?_
  refine rGet hx hb hts iX6_isMixedBehind_X6 hown hK hw (Nat.le_of_ble_eq_true rfl) en_model rfl 21 (by decide) (hts _ kX6_isMixedBehind_0) rfl rfl dX6_isMixedBehind_1 ?_
  refine lv_iload_n hx hb dX6_isMixedBehind_4 rfl (lv_at hl 1 rfl) ?_
  obtain ⟨hg1, hf⟩ := og hf
  refine rIald hx hb hK hw (Nat.le_of_ble_eq_true rfl) en_a94 hg1 dX6_isMixedBehind_5 ?_
  refine lv_istore_n (lv' := [(3, .int (gi M 94 x1.toNatClampNeg)), (0, .ref (a + 77)), (1, .int x1), (2, .int x2)]) hx hb dX6_isMixedBehind_6 rfl hl (Nat.le_of_ble_eq_true rfl) rfl (fun ls hl => ?_)
  refine lv_iload_n hx hb dX6_isMixedBehind_7 rfl (lv_at hl 0 rfl) ?_
  refine lv_iconst (v := (-1 : Int32)) hx hb dX6_isMixedBehind_8 (by decide) ?_
  refine lv_icmp_eq (tgt := 46) hx hb dX6_isMixedBehind_9 (by decide) (fun c2 => ?_) (fun c2 => ?_)
  · have hf := ip c2 hf
    refine lv_iconst (v := (0 : Int32)) hx hb dX6_isMixedBehind_46 (by decide) ?_
    obtain rfl := Option.some.inj hf
    exact rBret (x := (0 : Int32)) hx hb hr hlocks hw hS rfl dX6_isMixedBehind_47
  · have hf := iq c2 hf
    refine lv_aload_n hx hb dX6_isMixedBehind_12 rfl (lv_at hl 1 rfl) ?_
    refine rGet hx hb hts iX6_isMixedBehind_X6 hown hK hw (Nat.le_of_ble_eq_true rfl) en_model rfl 16 (by decide) (hts _ kX6_isMixedBehind_1) rfl rfl dX6_isMixedBehind_13 ?_
    refine lv_iload_n hx hb dX6_isMixedBehind_16 rfl (lv_at hl 2 rfl) ?_
    obtain ⟨hg3, hf⟩ := og hf
    refine rIald hx hb hK hw (Nat.le_of_ble_eq_true rfl) en_a89 hg3 dX6_isMixedBehind_17 ?_
    refine lv_iconst (v := (1 : Int32)) hx hb dX6_isMixedBehind_18 (by decide) ?_
    refine lv_isub hx hb dX6_isMixedBehind_19 ?_
    refine lv_iload_n hx hb dX6_isMixedBehind_20 rfl (lv_at hl 3 rfl) ?_
    refine lv_isub hx hb dX6_isMixedBehind_21 ?_
    refine lv_aload_n hx hb dX6_isMixedBehind_22 rfl (lv_at hl 1 rfl) ?_
    refine lv_iload_n hx hb dX6_isMixedBehind_23 rfl (lv_at hl 0 rfl) ?_
    refine lv_if_ge (tgt := 31) hx hb dX6_isMixedBehind_24 (by decide) (fun c4 => ?_) (fun c4 => ?_)
    · have hf := ip c4 hf
      refine lv_iload_n hx hb dX6_isMixedBehind_31 rfl (lv_at hl 0 rfl) ?_
      exact bX6_isMixedBehind_32 hx hb hr hml hown hts hlocks hK hZ _ _ _ _ _ _ hw hS (lv_sub hl [] rfl) hf
    · have hf := iq c4 hf
      refine lv_iconst (v := (0 : Int32)) hx hb dX6_isMixedBehind_27 (by decide) ?_
      refine lv_goto (tgt := 32) hx hb dX6_isMixedBehind_28 (by decide) ?_
      exact bX6_isMixedBehind_32 hx hb hr hml hown hts hlocks hK hZ _ _ _ _ _ _ hw hS (lv_sub hl [] rfl) hf
set_option maxRecDepth 100000 in
set_option maxHeartbeats 4000000 in
theorem ctX6_isMixedBehind {l : Launch} {D : va_G} {cy : Nat → ClassId} {a : Nat} {x1 : Int32} {x2 : Int32} {M : Mm} {out : Int32} (hf : fX6_isMixedBehind x1 x2 M = some out) : Met l yX6_isMixedBehind wsX6_isMixedBehind rX6_isMixedBehind (Pre D cy a M [.ref (a + 77), .int x1, .int x2]) (QB D cy a out M) 0 0 (Aq a) := by
  refine Met.ofW (cc := cX6_isMixedBehind) (maxL := 4) (ret := (some .boolean)) (by decide +kernel) rfl ?_
  intro p e s m args below meth c s₁ B hml hv
  obtain ⟨rfl, hw, hK, hZ⟩ := hv
  have hS : va_S (Aq a) s.heap s.heap [] := va_S.rf
  have hl := lv_entry ([.ref (a + 77), .int x1, .int x2]) (n := 4) (Nat.le_of_ble_eq_true rfl)
  rw [lg_entry_eq]
  generalize (lg_sl ([.ref (a + 77), .int x1, .int x2]) ++ List.replicate (4 - (lg_sl ([.ref (a + 77), .int x1, .int x2])).length) Slot.unset).toArray = ls at hl ⊢
  exact bX6_isMixedBehind_0 B.exec B.bytes B.returns hml (findClass_of_methodNamed B.named) (atoms_spec (ws := wsX6_isMixedBehind) B.pre) B.notSynchronized hK hZ _ _ _ _ _ _ hw hS hl hf
