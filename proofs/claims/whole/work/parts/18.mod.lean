def rX6_open : Room := { frames := 2, cells := 0, slots := 0, locals := 42 }
noncomputable def fX6_open_L106 : Nat → Int32 → Mm → Option (Int32 × Mm)
  | 0 => fun _ _ => none
  | n + 1 => fun x2 M => (if (gi M 77 7) ≤ x2 then some (gi M 77 7, M) else (if ¬ (x2 < 0 ∨ 360 ≤ x2.toNatClampNeg) then (if ¬ (x2 < 0 ∨ 360 ≤ x2.toNatClampNeg) then (fX6_open_L106 n) (x2 + (1 : Int32)) (si (si M 97 x2.toNatClampNeg (0 : Int32)) 98 x2.toNatClampNeg x2) else none) else none))
noncomputable def fX6_open_L40 : Nat → Int32 → Int32 → Mm → Option (Int32 × Mm)
  | 0 => fun _ _ _ => none
  | n + 1 => fun x1 x2 M => (if (gi M 77 1) ≤ x2 then (if ¬ ((0 : Int32) < 0 ∨ 40 ≤ (0 : Int32).toNatClampNeg) then (if ¬ ((0 : Int32) < 0 ∨ 40 ≤ (0 : Int32).toNatClampNeg) then (if ¬ ((0 : Int32) < 0 ∨ 40 ≤ (0 : Int32).toNatClampNeg) then fX6_open_L106 400 (0 : Int32) (si (si (si (si M 87 (0 : Int32).toNatClampNeg x1) 88 (0 : Int32).toNatClampNeg (gi (si M 87 (0 : Int32).toNatClampNeg x1) 77 7)) 89 (0 : Int32).toNatClampNeg (gi (si (si M 87 (0 : Int32).toNatClampNeg x1) 88 (0 : Int32).toNatClampNeg (gi (si M 87 (0 : Int32).toNatClampNeg x1) 77 7)) 77 7)) 77 24 (gi (si (si (si M 87 (0 : Int32).toNatClampNeg x1) 88 (0 : Int32).toNatClampNeg (gi (si M 87 (0 : Int32).toNatClampNeg x1) 77 7)) 89 (0 : Int32).toNatClampNeg (gi (si (si M 87 (0 : Int32).toNatClampNeg x1) 88 (0 : Int32).toNatClampNeg (gi (si M 87 (0 : Int32).toNatClampNeg x1) 77 7)) 77 7)) 77 7)) else none) else none) else none) else (if ¬ (x2 < 0 ∨ 6 ≤ x2.toNatClampNeg) then (fX6_open_L40 n) x1 (x2 + (1 : Int32)) (si M 77 7 ((gi M 77 7) + (gi M 78 x2.toNatClampNeg))) else none))
noncomputable def fX6_open_b24 (x1 : Int32) (xs1 : Int32) (xs2 : Int32) (M : Mm) : Option (Int32 × Mm) := ((fX6_goes xs1 xs2 (1 : Int32) M).bind fun o1 => (if o1.1 = 0 then some ((0 : Int32), o1.2) else fX6_open_L40 400 x1 (0 : Int32) (si o1.2 77 6 (1 : Int32))))
noncomputable def fX6_open_b23 (x1 : Int32) (xs1 : Int32) (M : Mm) : Option (Int32 × Mm) := fX6_open_b24 x1 xs1 (0 : Int32) M
noncomputable def fX6_open (x1 : Int32) (M : Mm) : Option (Int32 × Mm) := ((fX6_isProduct x1 M).bind fun o1 => (if (gi M 77 6) = 0 then (if (gi M 77 1) ≤ 0 then fX6_open_b23 x1 o1 M else fX6_open_b24 x1 o1 (1 : Int32) M) else fX6_open_b23 x1 o1 M))
set_option maxRecDepth 20000 in
theorem iX6_open_X6 : ∀ w ∈ wsX60, w ∈ wsX6_open := by decide +kernel
set_option maxRecDepth 20000 in
theorem kX6_open_0 : Cond.fieldLink RX6 117 "BatchPipeModel" "length" "I" ∈ wsX6_open := by decide +kernel
set_option maxRecDepth 20000 in
theorem kX6_open_1 : Cond.fieldLink RX6 71 "BatchPipeModel" "unitBatch" "[I" ∈ wsX6_open := by decide +kernel
set_option maxRecDepth 20000 in
theorem kX6_open_2 : Cond.fieldLink RX6 74 "BatchPipeModel" "unitPlace" "[I" ∈ wsX6_open := by decide +kernel
set_option maxRecDepth 20000 in
theorem kX6_open_3 : Cond.fieldLink RX6 102 "BatchPipeModel" "segments" "I" ∈ wsX6_open := by decide +kernel
set_option maxRecDepth 20000 in
theorem kX6_open_4 : Cond.fieldLink RX6 41 "BatchPipeModel" "product" "[I" ∈ wsX6_open := by decide +kernel
set_option maxRecDepth 20000 in
theorem kX6_open_5 : Cond.fieldLink RX6 44 "BatchPipeModel" "ordered" "[I" ∈ wsX6_open := by decide +kernel
set_option maxRecDepth 20000 in
theorem kX6_open_6 : Cond.fieldLink RX6 47 "BatchPipeModel" "entered" "[I" ∈ wsX6_open := by decide +kernel
set_option maxRecDepth 20000 in
theorem kX6_open_7 : Cond.fieldLink RX6 120 "BatchPipeModel" "all" "I" ∈ wsX6_open := by decide +kernel
set_option maxRecDepth 20000 in
theorem kX6_open_8 : Cond.fieldLink RX6 7 "BatchPipeModel" "holds" "[I" ∈ wsX6_open := by decide +kernel
set_option maxRecDepth 20000 in
theorem kX6_open_9 : Cond.fieldLink RX6 105 "BatchPipeModel" "isOpen" "Z" ∈ wsX6_open := by decide +kernel
set_option maxRecDepth 100000 in
set_option maxHeartbeats 4000000 in
theorem bX6_open_106 {p : Program} {l : Launch} {e : Env} {s : State} {m : MethodId} {args : Array Value} {below : List Frame} {meth : Method} {c : Code} {D : va_G} {cy : Nat → ClassId} {a : Nat} (hx : p.tables.exec = Jvm.exec) (hb : c.code = cX6_open) (hr : meth.sig.returnType = (some .int)) (hml : c.maxLocals = 3) (hown : s.vm.findClass RX6 = some m.cls) (hts : ∀ w ∈ wsX6_open, w.before args s = true) (hlocks : meth.locks = false) (hK : KS D cy s) (hZ : ZZ a s s.heap) {out : Int32 × Mm} : ∀ (n : Nat), ∀ (x2 : Int32) (M : Mm) (H : Heap) (locs : List Loc) (ls : Array Slot), HP D cy a M H → va_S (Aq a) s.heap H locs → lv_has ls 3 [(0, .ref (a + 77)), (2, .int x2)] → fX6_open_L106 n x2 M = some out → W p l e rX6_open s m args below meth c H locs 0 0 (MQ below (QI D cy a out.1 out.2) args s 0 0 (Aq a)) (F0 m 106 ls []) := by
  intro n
  induction n with
  | zero =>
    intro x2 M H locs ls hw hS hl hf
    have hf : (none : Option (Int32 × Mm)) = some out := hf
    cases hf
  | succ n ih =>
    intro x2 M H locs ls hw hS hl hf
    unfold fX6_open_L106 at hf
    refine lv_iload_n hx hb dX6_open_106 rfl (lv_at hl 1 rfl) ?_
    refine lv_aload_n hx hb dX6_open_107 rfl (lv_at hl 0 rfl) ?_
    refine rGetI hx hb hts iX6_open_X6 hown hK hw (Nat.le_of_ble_eq_true rfl) en_model rfl 7 (by decide) (hts _ kX6_open_0) rfl ge6_7 dX6_open_108 ?_
    refine lv_icmp_ge (tgt := 134) hx hb dX6_open_111 (by decide) (fun c1 => ?_) (fun c1 => ?_)
    · have hf := ip c1 hf
      refine lv_aload_n hx hb dX6_open_134 rfl (lv_at hl 0 rfl) ?_
      refine rGetI hx hb hts iX6_open_X6 hown hK hw (Nat.le_of_ble_eq_true rfl) en_model rfl 7 (by decide) (hts _ kX6_open_0) rfl ge6_7 dX6_open_135 ?_
      obtain rfl := Option.some.inj hf
      exact rIret hx hb hr hlocks hw hS dX6_open_138
    · have hf := iq c1 hf
      refine lv_aload_n hx hb dX6_open_114 rfl (lv_at hl 0 rfl) ?_
      refine rGet hx hb hts iX6_open_X6 hown hK hw (Nat.le_of_ble_eq_true rfl) en_model rfl 25 (by decide) (hts _ kX6_open_1) rfl rfl dX6_open_115 ?_
      refine lv_iload_n hx hb dX6_open_118 rfl (lv_at hl 1 rfl) ?_
      refine lv_iconst (v := (0 : Int32)) hx hb dX6_open_119 (by decide) ?_
      obtain ⟨hg2, hf⟩ := og hf
      refine rIast hx hb hK hw hS (Nat.le_of_ble_eq_true rfl) (fun _ => en_a97) hg2 dX6_open_120 (fun H locs hw hS => ?_)
      refine lv_aload_n hx hb dX6_open_121 rfl (lv_at hl 0 rfl) ?_
      refine rGet hx hb hts iX6_open_X6 hown hK hw (Nat.le_of_ble_eq_true rfl) en_model rfl 26 (by decide) (hts _ kX6_open_2) rfl rfl dX6_open_122 ?_
      refine lv_iload_n hx hb dX6_open_125 rfl (lv_at hl 1 rfl) ?_
      refine lv_iload_n hx hb dX6_open_126 rfl (lv_at hl 1 rfl) ?_
      obtain ⟨hg3, hf⟩ := og hf
      refine rIast hx hb hK hw hS (Nat.le_of_ble_eq_true rfl) (fun _ => en_a98) hg3 dX6_open_127 (fun H locs hw hS => ?_)
      refine lv_iinc (v := x2 + (1 : Int32)) (lv' := [(2, .int (x2 + (1 : Int32))), (0, .ref (a + 77))]) hx hb dX6_open_128 hl (k := 1) rfl rfl (Nat.le_of_ble_eq_true rfl) rfl (fun ls hl => ?_)
      refine lv_goto (tgt := 106) hx hb dX6_open_131 (by decide) ?_
      exact ih _ _ _ _ _ hw hS (lv_sub hl [1, 0] rfl) hf
set_option maxRecDepth 100000 in
set_option maxHeartbeats 4000000 in
theorem bX6_open_40 {p : Program} {l : Launch} {e : Env} {s : State} {m : MethodId} {args : Array Value} {below : List Frame} {meth : Method} {c : Code} {D : va_G} {cy : Nat → ClassId} {a : Nat} (hx : p.tables.exec = Jvm.exec) (hb : c.code = cX6_open) (hr : meth.sig.returnType = (some .int)) (hml : c.maxLocals = 3) (hown : s.vm.findClass RX6 = some m.cls) (hts : ∀ w ∈ wsX6_open, w.before args s = true) (hlocks : meth.locks = false) (hK : KS D cy s) (hZ : ZZ a s s.heap) {out : Int32 × Mm} : ∀ (n : Nat), ∀ (x1 : Int32) (x2 : Int32) (M : Mm) (H : Heap) (locs : List Loc) (ls : Array Slot), HP D cy a M H → va_S (Aq a) s.heap H locs → lv_has ls 3 [(0, .ref (a + 77)), (1, .int x1), (2, .int x2)] → fX6_open_L40 n x1 x2 M = some out → W p l e rX6_open s m args below meth c H locs 0 0 (MQ below (QI D cy a out.1 out.2) args s 0 0 (Aq a)) (F0 m 40 ls []) := by
  intro n
  induction n with
  | zero =>
    intro x1 x2 M H locs ls hw hS hl hf
    have hf : (none : Option (Int32 × Mm)) = some out := hf
    cases hf
  | succ n ih =>
    intro x1 x2 M H locs ls hw hS hl hf
    unfold fX6_open_L40 at hf
    refine lv_iload_n hx hb dX6_open_40 rfl (lv_at hl 2 rfl) ?_
    refine lv_aload_n hx hb dX6_open_41 rfl (lv_at hl 0 rfl) ?_
    refine rGetI hx hb hts iX6_open_X6 hown hK hw (Nat.le_of_ble_eq_true rfl) en_model rfl 1 (by decide) (hts _ kX6_open_3) rfl ge6_1 dX6_open_42 ?_
    refine lv_icmp_ge (tgt := 69) hx hb dX6_open_45 (by decide) (fun c1 => ?_) (fun c1 => ?_)
    · have hf := ip c1 hf
      refine lv_aload_n hx hb dX6_open_69 rfl (lv_at hl 0 rfl) ?_
      refine rGet hx hb hts iX6_open_X6 hown hK hw (Nat.le_of_ble_eq_true rfl) en_model rfl 14 (by decide) (hts _ kX6_open_4) rfl rfl dX6_open_70 ?_
      refine lv_iconst (v := (0 : Int32)) hx hb dX6_open_73 (by decide) ?_
      refine lv_iload_n hx hb dX6_open_74 rfl (lv_at hl 1 rfl) ?_
      obtain ⟨hg2, hf⟩ := og hf
      refine rIast hx hb hK hw hS (Nat.le_of_ble_eq_true rfl) (fun _ => en_a87) hg2 dX6_open_75 (fun H locs hw hS => ?_)
      refine lv_aload_n hx hb dX6_open_76 rfl (lv_at hl 0 rfl) ?_
      refine rGet hx hb hts iX6_open_X6 hown hK hw (Nat.le_of_ble_eq_true rfl) en_model rfl 15 (by decide) (hts _ kX6_open_5) rfl rfl dX6_open_77 ?_
      refine lv_iconst (v := (0 : Int32)) hx hb dX6_open_80 (by decide) ?_
      refine lv_aload_n hx hb dX6_open_81 rfl (lv_at hl 0 rfl) ?_
      refine rGetI hx hb hts iX6_open_X6 hown hK hw (Nat.le_of_ble_eq_true rfl) en_model rfl 7 (by decide) (hts _ kX6_open_0) rfl ge6_7 dX6_open_82 ?_
      obtain ⟨hg3, hf⟩ := og hf
      refine rIast hx hb hK hw hS (Nat.le_of_ble_eq_true rfl) (fun _ => en_a88) hg3 dX6_open_85 (fun H locs hw hS => ?_)
      refine lv_aload_n hx hb dX6_open_86 rfl (lv_at hl 0 rfl) ?_
      refine rGet hx hb hts iX6_open_X6 hown hK hw (Nat.le_of_ble_eq_true rfl) en_model rfl 16 (by decide) (hts _ kX6_open_6) rfl rfl dX6_open_87 ?_
      refine lv_iconst (v := (0 : Int32)) hx hb dX6_open_90 (by decide) ?_
      refine lv_aload_n hx hb dX6_open_91 rfl (lv_at hl 0 rfl) ?_
      refine rGetI hx hb hts iX6_open_X6 hown hK hw (Nat.le_of_ble_eq_true rfl) en_model rfl 7 (by decide) (hts _ kX6_open_0) rfl ge6_7 dX6_open_92 ?_
      obtain ⟨hg4, hf⟩ := og hf
      refine rIast hx hb hK hw hS (Nat.le_of_ble_eq_true rfl) (fun _ => en_a89) hg4 dX6_open_95 (fun H locs hw hS => ?_)
      refine lv_aload_n hx hb dX6_open_96 rfl (lv_at hl 0 rfl) ?_
      refine lv_aload_n hx hb dX6_open_97 rfl (lv_at hl 0 rfl) ?_
      refine rGetI hx hb hts iX6_open_X6 hown hK hw (Nat.le_of_ble_eq_true rfl) en_model rfl 7 (by decide) (hts _ kX6_open_0) rfl ge6_7 dX6_open_98 ?_
      refine rPut hx hb hts iX6_open_X6 tyX6 tyX6_ok nmX6 hown hK hw hS (Nat.le_of_ble_eq_true rfl) en_model rfl 24 (by decide) (hts _ kX6_open_7) rfl rfl rfl rfl (Nat.le_of_ble_eq_true rfl) hs6_24 dX6_open_101 (fun H locs hw hS => ?_)
      refine lv_iconst (v := (0 : Int32)) hx hb dX6_open_104 (by decide) ?_
      refine lv_istore_n (lv' := [(2, .int (0 : Int32)), (0, .ref (a + 77)), (1, .int x1)]) hx hb dX6_open_105 rfl hl (Nat.le_of_ble_eq_true rfl) rfl (fun ls hl => ?_)
      exact bX6_open_106 hx hb hr hml hown hts hlocks hK hZ 400 _ _ _ _ _ hw hS (lv_sub hl [1, 0] rfl) hf
    · have hf := iq c1 hf
      refine lv_aload_n hx hb dX6_open_48 rfl (lv_at hl 0 rfl) ?_
      refine lv_dup hx hb dX6_open_49 rfl ?_
      refine rGetI hx hb hts iX6_open_X6 hown hK hw (Nat.le_of_ble_eq_true rfl) en_model rfl 7 (by decide) (hts _ kX6_open_0) rfl ge6_7 dX6_open_50 ?_
      refine lv_aload_n hx hb dX6_open_53 rfl (lv_at hl 0 rfl) ?_
      refine rGet hx hb hts iX6_open_X6 hown hK hw (Nat.le_of_ble_eq_true rfl) en_model rfl 2 (by decide) (hts _ kX6_open_8) rfl rfl dX6_open_54 ?_
      refine lv_iload_n hx hb dX6_open_57 rfl (lv_at hl 2 rfl) ?_
      obtain ⟨hg5, hf⟩ := og hf
      refine rIald hx hb hK hw (Nat.le_of_ble_eq_true rfl) en_a78 hg5 dX6_open_58 ?_
      refine lv_iadd hx hb dX6_open_59 ?_
      refine rPut hx hb hts iX6_open_X6 tyX6 tyX6_ok nmX6 hown hK hw hS (Nat.le_of_ble_eq_true rfl) en_model rfl 7 (by decide) (hts _ kX6_open_0) rfl rfl rfl rfl (Nat.le_of_ble_eq_true rfl) hs6_7 dX6_open_60 (fun H locs hw hS => ?_)
      refine lv_iinc (v := x2 + (1 : Int32)) (lv' := [(2, .int (x2 + (1 : Int32))), (0, .ref (a + 77)), (1, .int x1)]) hx hb dX6_open_63 hl (k := 2) rfl rfl (Nat.le_of_ble_eq_true rfl) rfl (fun ls hl => ?_)
      refine lv_goto (tgt := 40) hx hb dX6_open_66 (by decide) ?_
      exact ih _ _ _ _ _ _ hw hS (lv_sub hl [1, 2, 0] rfl) hf
set_option maxRecDepth 100000 in
set_option maxHeartbeats 4000000 in
theorem bX6_open_24 {p : Program} {l : Launch} {e : Env} {s : State} {m : MethodId} {args : Array Value} {below : List Frame} {meth : Method} {c : Code} {D : va_G} {cy : Nat → ClassId} {a : Nat} (hx : p.tables.exec = Jvm.exec) (hb : c.code = cX6_open) (hr : meth.sig.returnType = (some .int)) (hml : c.maxLocals = 3) (hown : s.vm.findClass RX6 = some m.cls) (hts : ∀ w ∈ wsX6_open, w.before args s = true) (hlocks : meth.locks = false) (hK : KS D cy s) (hZ : ZZ a s s.heap) {out : Int32 × Mm} : ∀ (x1 : Int32) (xs1 : Int32) (xs2 : Int32) (M : Mm) (H : Heap) (locs : List Loc) (ls : Array Slot), HP D cy a M H → va_S (Aq a) s.heap H locs → lv_has ls 3 [(0, .ref (a + 77)), (1, .int x1)] → narrow .boolean (.int xs1) = .int xs1 → narrow .boolean (.int xs2) = .int xs2 → fX6_open_b24 x1 xs1 xs2 M = some out → W p l e rX6_open s m args below meth c H locs 0 0 (MQ below (QI D cy a out.1 out.2) args s 0 0 (Aq a)) (F0 m 24 ls [.int xs2, .int xs1, .ref (a + 77)]) := by
  intro x1 xs1 xs2 M H locs ls hw hS hl hbs1 hbs2 hf
  unfold fX6_open_b24 at hf
  refine lv_iconst (v := (1 : Int32)) hx hb dX6_open_24 (by decide) ?_
  obtain ⟨o1, ho1, hf⟩ := ob hf
  refine rCallB (va_runV (As := [.int xs1, .int xs2, .int (1 : Int32)]) (rest := []) ⟨hx, hb, hml, hown, hts⟩ (ctX6_goes (l := l) (D := D) (cy := cy) (a := a) ho1) (cwV 3 hts gX6_open_X6_goes rfl rfl rfl (by decide +kernel) ⟨Nat.le_of_ble_eq_true rfl, Nat.le_of_ble_eq_true rfl⟩) (pV hK hZ hw hS (rRecv hK hw (Nat.le_of_ble_eq_true rfl) en_model rfl)) rfl rfl hl.1 rfl (lv_room (Nat.le_of_ble_eq_true rfl)) dX6_open_25 ⟨Nat.le_of_ble_eq_true rfl, Nat.le_of_ble_eq_true rfl⟩) hS (fun H locs hw hS ho1b => ?_)
  refine lv_if_ne (tgt := 33) hx hb dX6_open_28 (by decide) (fun c2 => ?_) (fun c2 => ?_)
  · have hf := iq c2 hf
    refine lv_aload_n hx hb dX6_open_33 rfl (lv_at hl 0 rfl) ?_
    refine lv_iconst (v := (1 : Int32)) hx hb dX6_open_34 (by decide) ?_
    refine rPut hx hb hts iX6_open_X6 tyX6 tyX6_ok nmX6 hown hK hw hS (Nat.le_of_ble_eq_true rfl) en_model rfl 6 (by decide) (hts _ kX6_open_9) rfl rfl rfl (bfit rfl) (Nat.le_of_ble_eq_true rfl) hs6_6 dX6_open_35 (fun H locs hw hS => ?_)
    refine lv_iconst (v := (0 : Int32)) hx hb dX6_open_38 (by decide) ?_
    refine lv_istore_n (lv' := [(2, .int (0 : Int32)), (0, .ref (a + 77)), (1, .int x1)]) hx hb dX6_open_39 rfl hl (Nat.le_of_ble_eq_true rfl) rfl (fun ls hl => ?_)
    exact bX6_open_40 hx hb hr hml hown hts hlocks hK hZ 400 _ _ _ _ _ _ hw hS (lv_sub hl [1, 2, 0] rfl) hf
  · have hf := ip c2 hf
    refine lv_iconst (v := (0 : Int32)) hx hb dX6_open_31 (by decide) ?_
    obtain rfl := Option.some.inj hf
    exact rIret hx hb hr hlocks hw hS dX6_open_32
set_option maxRecDepth 100000 in
set_option maxHeartbeats 4000000 in
theorem bX6_open_23 {p : Program} {l : Launch} {e : Env} {s : State} {m : MethodId} {args : Array Value} {below : List Frame} {meth : Method} {c : Code} {D : va_G} {cy : Nat → ClassId} {a : Nat} (hx : p.tables.exec = Jvm.exec) (hb : c.code = cX6_open) (hr : meth.sig.returnType = (some .int)) (hml : c.maxLocals = 3) (hown : s.vm.findClass RX6 = some m.cls) (hts : ∀ w ∈ wsX6_open, w.before args s = true) (hlocks : meth.locks = false) (hK : KS D cy s) (hZ : ZZ a s s.heap) {out : Int32 × Mm} : ∀ (x1 : Int32) (xs1 : Int32) (M : Mm) (H : Heap) (locs : List Loc) (ls : Array Slot), HP D cy a M H → va_S (Aq a) s.heap H locs → lv_has ls 3 [(0, .ref (a + 77)), (1, .int x1)] → narrow .boolean (.int xs1) = .int xs1 → fX6_open_b23 x1 xs1 M = some out → W p l e rX6_open s m args below meth c H locs 0 0 (MQ below (QI D cy a out.1 out.2) args s 0 0 (Aq a)) (F0 m 23 ls [.int xs1, .ref (a + 77)]) := by
  intro x1 xs1 M H locs ls hw hS hl hbs1 hf
  unfold fX6_open_b23 at hf
  refine lv_iconst (v := (0 : Int32)) hx hb dX6_open_23 (by decide) ?_
  exact bX6_open_24 hx hb hr hml hown hts hlocks hK hZ _ _ _ _ _ _ _ hw hS (lv_sub hl [0, 1] rfl) hbs1 rfl hf
set_option maxRecDepth 100000 in
set_option maxHeartbeats 4000000 in
theorem bX6_open_0 {p : Program} {l : Launch} {e : Env} {s : State} {m : MethodId} {args : Array Value} {below : List Frame} {meth : Method} {c : Code} {D : va_G} {cy : Nat → ClassId} {a : Nat} (hx : p.tables.exec = Jvm.exec) (hb : c.code = cX6_open) (hr : meth.sig.returnType = (some .int)) (hml : c.maxLocals = 3) (hown : s.vm.findClass RX6 = some m.cls) (hts : ∀ w ∈ wsX6_open, w.before args s = true) (hlocks : meth.locks = false) (hK : KS D cy s) (hZ : ZZ a s s.heap) {out : Int32 × Mm} : ∀ (x1 : Int32) (M : Mm) (H : Heap) (locs : List Loc) (ls : Array Slot), HP D cy a M H → va_S (Aq a) s.heap H locs → lv_has ls 3 [(0, .ref (a + 77)), (1, .int x1)] → fX6_open x1 M = some out → W p l e rX6_open s m args below meth c H locs 0 0 (MQ below (QI D cy a out.1 out.2) args s 0 0 (Aq a)) (F0 m 0 ls []) := by
  intro x1 M H locs ls hw hS hl hf
  unfold fX6_open at hf
  refine lv_aload_n hx hb dX6_open_0 rfl (lv_at hl 0 rfl) ?_
  refine lv_iload_n hx hb dX6_open_1 rfl (lv_at hl 1 rfl) ?_
  obtain ⟨o1, ho1, hf⟩ := ob hf
  refine rCallB (va_runS (As := [.int x1]) (rest := [.ref (a + 77)]) ⟨hx, hb, hml, hown, hts⟩ (ctX6_isProduct (l := l) (D := D) (cy := cy) (a := a) ho1) (va_cwS 1 hts gX6_open_X6_isProduct rfl rfl rfl (by decide +kernel) ⟨Nat.le_of_ble_eq_true rfl, Nat.le_of_ble_eq_true rfl⟩) (pS hK hZ hw hS) rfl rfl hl.1 rfl (lv_room (Nat.le_of_ble_eq_true rfl)) dX6_open_2 ⟨Nat.le_of_ble_eq_true rfl, Nat.le_of_ble_eq_true rfl⟩) hS (fun H locs hw hS ho1b => ?_)
  refine lv_aload_n hx hb dX6_open_5 rfl (lv_at hl 0 rfl) ?_
  refine rGetI hx hb hts iX6_open_X6 hown hK hw (Nat.le_of_ble_eq_true rfl) en_model rfl 6 (by decide) (hts _ kX6_open_9) rfl ge6_6 dX6_open_6 ?_
  refine lv_if_ne (tgt := 23) hx hb dX6_open_9 (by decide) (fun c2 => ?_) (fun c2 => ?_)
  · have hf := iq c2 hf
    exact bX6_open_23 hx hb hr hml hown hts hlocks hK hZ _ _ _ _ _ _ hw hS (lv_sub hl [0, 1] rfl) ho1b hf
  · have hf := ip c2 hf
    refine lv_aload_n hx hb dX6_open_12 rfl (lv_at hl 0 rfl) ?_
    refine rGetI hx hb hts iX6_open_X6 hown hK hw (Nat.le_of_ble_eq_true rfl) en_model rfl 1 (by decide) (hts _ kX6_open_3) rfl ge6_1 dX6_open_13 ?_
    refine lv_if_le (tgt := 23) hx hb dX6_open_16 (by decide) (fun c3 => ?_) (fun c3 => ?_)
    · have hf := ip c3 hf
      exact bX6_open_23 hx hb hr hml hown hts hlocks hK hZ _ _ _ _ _ _ hw hS (lv_sub hl [0, 1] rfl) ho1b hf
    · have hf := iq c3 hf
      refine lv_iconst (v := (1 : Int32)) hx hb dX6_open_19 (by decide) ?_
      refine lv_goto (tgt := 24) hx hb dX6_open_20 (by decide) ?_
      exact bX6_open_24 hx hb hr hml hown hts hlocks hK hZ _ _ _ _ _ _ _ hw hS (lv_sub hl [0, 1] rfl) ho1b rfl hf
set_option maxRecDepth 100000 in
set_option maxHeartbeats 4000000 in
theorem ctX6_open {l : Launch} {D : va_G} {cy : Nat → ClassId} {a : Nat} {x1 : Int32} {M : Mm} {out : Int32 × Mm} (hf : fX6_open x1 M = some out) : Met l yX6_open wsX6_open rX6_open (Pre D cy a M [.ref (a + 77), .int x1]) (QI D cy a out.1 out.2) 0 0 (Aq a) := by
  refine Met.ofW (cc := cX6_open) (maxL := 3) (ret := (some .int)) (by decide +kernel) rfl ?_
  intro p e s m args below meth c s₁ B hml hv
  obtain ⟨rfl, hw, hK, hZ⟩ := hv
  have hS : va_S (Aq a) s.heap s.heap [] := va_S.rf
  have hl := lv_entry ([.ref (a + 77), .int x1]) (n := 3) (Nat.le_of_ble_eq_true rfl)
  rw [lg_entry_eq]
  generalize (lg_sl ([.ref (a + 77), .int x1]) ++ List.replicate (3 - (lg_sl ([.ref (a + 77), .int x1])).length) Slot.unset).toArray = ls at hl ⊢
  exact bX6_open_0 B.exec B.bytes B.returns hml (findClass_of_methodNamed B.named) (atoms_spec (ws := wsX6_open) B.pre) B.notSynchronized hK hZ _ _ _ _ _ hw hS hl hf
def rX6_order : Room := { frames := 2, cells := 0, slots := 0, locals := 42 }
noncomputable def fX6_order_b42 (x1 : Int32) (x2 : Int32) (x3 : Int32) (xs1 : Int32) (xs2 : Int32) (xs3 : Int32) (M : Mm) : Option (Int32 × Mm) := ((fX6_goes xs1 xs2 xs3 M).bind fun o1 => (if o1.1 = 0 then some ((0 : Int32), o1.2) else (if ¬ ((gi o1.2 77 12) < 0 ∨ 40 ≤ (gi o1.2 77 12).toNatClampNeg) then (if ¬ ((gi (si o1.2 86 (gi o1.2 77 12).toNatClampNeg x1) 77 12) < 0 ∨ 40 ≤ (gi (si o1.2 86 (gi o1.2 77 12).toNatClampNeg x1) 77 12).toNatClampNeg) then (if ¬ ((gi (si (si o1.2 86 (gi o1.2 77 12).toNatClampNeg x1) 87 (gi (si o1.2 86 (gi o1.2 77 12).toNatClampNeg x1) 77 12).toNatClampNeg x2) 77 12) < 0 ∨ 40 ≤ (gi (si (si o1.2 86 (gi o1.2 77 12).toNatClampNeg x1) 87 (gi (si o1.2 86 (gi o1.2 77 12).toNatClampNeg x1) 77 12).toNatClampNeg x2) 77 12).toNatClampNeg) then some ((gi (si (si (si (si o1.2 86 (gi o1.2 77 12).toNatClampNeg x1) 87 (gi (si o1.2 86 (gi o1.2 77 12).toNatClampNeg x1) 77 12).toNatClampNeg x2) 88 (gi (si (si o1.2 86 (gi o1.2 77 12).toNatClampNeg x1) 87 (gi (si o1.2 86 (gi o1.2 77 12).toNatClampNeg x1) 77 12).toNatClampNeg x2) 77 12).toNatClampNeg x3) 77 12 ((gi (si (si (si o1.2 86 (gi o1.2 77 12).toNatClampNeg x1) 87 (gi (si o1.2 86 (gi o1.2 77 12).toNatClampNeg x1) 77 12).toNatClampNeg x2) 88 (gi (si (si o1.2 86 (gi o1.2 77 12).toNatClampNeg x1) 87 (gi (si o1.2 86 (gi o1.2 77 12).toNatClampNeg x1) 77 12).toNatClampNeg x2) 77 12).toNatClampNeg x3) 77 12) + (1 : Int32))) 77 12) - (1 : Int32), si (si (si (si o1.2 86 (gi o1.2 77 12).toNatClampNeg x1) 87 (gi (si o1.2 86 (gi o1.2 77 12).toNatClampNeg x1) 77 12).toNatClampNeg x2) 88 (gi (si (si o1.2 86 (gi o1.2 77 12).toNatClampNeg x1) 87 (gi (si o1.2 86 (gi o1.2 77 12).toNatClampNeg x1) 77 12).toNatClampNeg x2) 77 12).toNatClampNeg x3) 77 12 ((gi (si (si (si o1.2 86 (gi o1.2 77 12).toNatClampNeg x1) 87 (gi (si o1.2 86 (gi o1.2 77 12).toNatClampNeg x1) 77 12).toNatClampNeg x2) 88 (gi (si (si o1.2 86 (gi o1.2 77 12).toNatClampNeg x1) 87 (gi (si o1.2 86 (gi o1.2 77 12).toNatClampNeg x1) 77 12).toNatClampNeg x2) 77 12).toNatClampNeg x3) 77 12) + (1 : Int32))) else none) else none) else none)))
noncomputable def fX6_order_b20 (x1 : Int32) (x2 : Int32) (x3 : Int32) (xs1 : Int32) (M : Mm) : Option (Int32 × Mm) := ((fX6_isBetween x3 (1 : Int32) (200 : Int32) M).bind fun o1 => (if (40 : Int32) ≤ (gi M 77 12) then fX6_order_b42 x1 x2 x3 xs1 o1 (0 : Int32) M else fX6_order_b42 x1 x2 x3 xs1 o1 (1 : Int32) M))
noncomputable def fX6_order_b19 (x1 : Int32) (x2 : Int32) (x3 : Int32) (M : Mm) : Option (Int32 × Mm) := fX6_order_b20 x1 x2 x3 (0 : Int32) M
noncomputable def fX6_order (x1 : Int32) (x2 : Int32) (x3 : Int32) (M : Mm) : Option (Int32 × Mm) := ((fX6_isShipper x1 M).bind fun o1 => (if o1 = 0 then fX6_order_b19 x1 x2 x3 M else ((fX6_isProduct x2 M).bind fun o3 => (if o3 = 0 then fX6_order_b19 x1 x2 x3 M else fX6_order_b20 x1 x2 x3 (1 : Int32) M))))
set_option maxRecDepth 20000 in
theorem iX6_order_X6 : ∀ w ∈ wsX60, w ∈ wsX6_order := by decide +kernel
set_option maxRecDepth 20000 in
theorem kX6_order_0 : Cond.fieldLink RX6 38 "BatchPipeModel" "shipper" "[I" ∈ wsX6_order := by decide +kernel
set_option maxRecDepth 20000 in
theorem kX6_order_1 : Cond.fieldLink RX6 34 "BatchPipeModel" "batches" "I" ∈ wsX6_order := by decide +kernel
set_option maxRecDepth 20000 in
theorem kX6_order_2 : Cond.fieldLink RX6 41 "BatchPipeModel" "product" "[I" ∈ wsX6_order := by decide +kernel
set_option maxRecDepth 20000 in
theorem kX6_order_3 : Cond.fieldLink RX6 44 "BatchPipeModel" "ordered" "[I" ∈ wsX6_order := by decide +kernel
set_option maxRecDepth 100000 in
set_option maxHeartbeats 4000000 in
theorem bX6_order_42 {p : Program} {l : Launch} {e : Env} {s : State} {m : MethodId} {args : Array Value} {below : List Frame} {meth : Method} {c : Code} {D : va_G} {cy : Nat → ClassId} {a : Nat} (hx : p.tables.exec = Jvm.exec) (hb : c.code = cX6_order) (hr : meth.sig.returnType = (some .int)) (hml : c.maxLocals = 4) (hown : s.vm.findClass RX6 = some m.cls) (hts : ∀ w ∈ wsX6_order, w.before args s = true) (hlocks : meth.locks = false) (hK : KS D cy s) (hZ : ZZ a s s.heap) {out : Int32 × Mm} : ∀ (x1 : Int32) (x2 : Int32) (x3 : Int32) (xs1 : Int32) (xs2 : Int32) (xs3 : Int32) (M : Mm) (H : Heap) (locs : List Loc) (ls : Array Slot), HP D cy a M H → va_S (Aq a) s.heap H locs → lv_has ls 4 [(0, .ref (a + 77)), (1, .int x1), (2, .int x2), (3, .int x3)] → narrow .boolean (.int xs1) = .int xs1 → narrow .boolean (.int xs2) = .int xs2 → narrow .boolean (.int xs3) = .int xs3 → fX6_order_b42 x1 x2 x3 xs1 xs2 xs3 M = some out → W p l e rX6_order s m args below meth c H locs 0 0 (MQ below (QI D cy a out.1 out.2) args s 0 0 (Aq a)) (F0 m 42 ls [.int xs3, .int xs2, .int xs1, .ref (a + 77)]) := by
  intro x1 x2 x3 xs1 xs2 xs3 M H locs ls hw hS hl hbs1 hbs2 hbs3 hf
  unfold fX6_order_b42 at hf
  obtain ⟨o1, ho1, hf⟩ := ob hf
  refine rCallB (va_runV (As := [.int xs1, .int xs2, .int xs3]) (rest := []) ⟨hx, hb, hml, hown, hts⟩ (ctX6_goes (l := l) (D := D) (cy := cy) (a := a) ho1) (cwV 3 hts gX6_order_X6_goes rfl rfl rfl (by decide +kernel) ⟨Nat.le_of_ble_eq_true rfl, Nat.le_of_ble_eq_true rfl⟩) (pV hK hZ hw hS (rRecv hK hw (Nat.le_of_ble_eq_true rfl) en_model rfl)) rfl rfl hl.1 rfl (lv_room (Nat.le_of_ble_eq_true rfl)) dX6_order_42 ⟨Nat.le_of_ble_eq_true rfl, Nat.le_of_ble_eq_true rfl⟩) hS (fun H locs hw hS ho1b => ?_)
  refine lv_if_ne (tgt := 50) hx hb dX6_order_45 (by decide) (fun c2 => ?_) (fun c2 => ?_)
  · have hf := iq c2 hf
    refine lv_aload_n hx hb dX6_order_50 rfl (lv_at hl 0 rfl) ?_
    refine rGet hx hb hts iX6_order_X6 hown hK hw (Nat.le_of_ble_eq_true rfl) en_model rfl 13 (by decide) (hts _ kX6_order_0) rfl rfl dX6_order_51 ?_
    refine lv_aload_n hx hb dX6_order_54 rfl (lv_at hl 0 rfl) ?_
    refine rGetI hx hb hts iX6_order_X6 hown hK hw (Nat.le_of_ble_eq_true rfl) en_model rfl 12 (by decide) (hts _ kX6_order_1) rfl ge6_12 dX6_order_55 ?_
    refine lv_iload_n hx hb dX6_order_58 rfl (lv_at hl 1 rfl) ?_
    obtain ⟨hg3, hf⟩ := og hf
    refine rIast hx hb hK hw hS (Nat.le_of_ble_eq_true rfl) (fun _ => en_a86) hg3 dX6_order_59 (fun H locs hw hS => ?_)
    refine lv_aload_n hx hb dX6_order_60 rfl (lv_at hl 0 rfl) ?_
    refine rGet hx hb hts iX6_order_X6 hown hK hw (Nat.le_of_ble_eq_true rfl) en_model rfl 14 (by decide) (hts _ kX6_order_2) rfl rfl dX6_order_61 ?_
    refine lv_aload_n hx hb dX6_order_64 rfl (lv_at hl 0 rfl) ?_
    refine rGetI hx hb hts iX6_order_X6 hown hK hw (Nat.le_of_ble_eq_true rfl) en_model rfl 12 (by decide) (hts _ kX6_order_1) rfl ge6_12 dX6_order_65 ?_
    refine lv_iload_n hx hb dX6_order_68 rfl (lv_at hl 2 rfl) ?_
    obtain ⟨hg4, hf⟩ := og hf
    refine rIast hx hb hK hw hS (Nat.le_of_ble_eq_true rfl) (fun _ => en_a87) hg4 dX6_order_69 (fun H locs hw hS => ?_)
    refine lv_aload_n hx hb dX6_order_70 rfl (lv_at hl 0 rfl) ?_
    refine rGet hx hb hts iX6_order_X6 hown hK hw (Nat.le_of_ble_eq_true rfl) en_model rfl 15 (by decide) (hts _ kX6_order_3) rfl rfl dX6_order_71 ?_
    refine lv_aload_n hx hb dX6_order_74 rfl (lv_at hl 0 rfl) ?_
    refine rGetI hx hb hts iX6_order_X6 hown hK hw (Nat.le_of_ble_eq_true rfl) en_model rfl 12 (by decide) (hts _ kX6_order_1) rfl ge6_12 dX6_order_75 ?_
    refine lv_iload_n hx hb dX6_order_78 rfl (lv_at hl 3 rfl) ?_
    obtain ⟨hg5, hf⟩ := og hf
    refine rIast hx hb hK hw hS (Nat.le_of_ble_eq_true rfl) (fun _ => en_a88) hg5 dX6_order_79 (fun H locs hw hS => ?_)
    refine lv_aload_n hx hb dX6_order_80 rfl (lv_at hl 0 rfl) ?_
    refine lv_dup hx hb dX6_order_81 rfl ?_
    refine rGetI hx hb hts iX6_order_X6 hown hK hw (Nat.le_of_ble_eq_true rfl) en_model rfl 12 (by decide) (hts _ kX6_order_1) rfl ge6_12 dX6_order_82 ?_
    refine lv_iconst (v := (1 : Int32)) hx hb dX6_order_85 (by decide) ?_
    refine lv_iadd hx hb dX6_order_86 ?_
    refine rPut hx hb hts iX6_order_X6 tyX6 tyX6_ok nmX6 hown hK hw hS (Nat.le_of_ble_eq_true rfl) en_model rfl 12 (by decide) (hts _ kX6_order_1) rfl rfl rfl rfl (Nat.le_of_ble_eq_true rfl) hs6_12 dX6_order_87 (fun H locs hw hS => ?_)
    refine lv_aload_n hx hb dX6_order_90 rfl (lv_at hl 0 rfl) ?_
    refine rGetI hx hb hts iX6_order_X6 hown hK hw (Nat.le_of_ble_eq_true rfl) en_model rfl 12 (by decide) (hts _ kX6_order_1) rfl ge6_12 dX6_order_91 ?_
    refine lv_iconst (v := (1 : Int32)) hx hb dX6_order_94 (by decide) ?_
    refine lv_isub hx hb dX6_order_95 ?_
    obtain rfl := Option.some.inj hf
    exact rIret hx hb hr hlocks hw hS dX6_order_96
  · have hf := ip c2 hf
    refine lv_iconst (v := (0 : Int32)) hx hb dX6_order_48 (by decide) ?_
    obtain rfl := Option.some.inj hf
    exact rIret hx hb hr hlocks hw hS dX6_order_49
set_option maxRecDepth 100000 in
set_option maxHeartbeats 4000000 in
theorem bX6_order_20 {p : Program} {l : Launch} {e : Env} {s : State} {m : MethodId} {args : Array Value} {below : List Frame} {meth : Method} {c : Code} {D : va_G} {cy : Nat → ClassId} {a : Nat} (hx : p.tables.exec = Jvm.exec) (hb : c.code = cX6_order) (hr : meth.sig.returnType = (some .int)) (hml : c.maxLocals = 4) (hown : s.vm.findClass RX6 = some m.cls) (hts : ∀ w ∈ wsX6_order, w.before args s = true) (hlocks : meth.locks = false) (hK : KS D cy s) (hZ : ZZ a s s.heap) {out : Int32 × Mm} : ∀ (x1 : Int32) (x2 : Int32) (x3 : Int32) (xs1 : Int32) (M : Mm) (H : Heap) (locs : List Loc) (ls : Array Slot), HP D cy a M H → va_S (Aq a) s.heap H locs → lv_has ls 4 [(0, .ref (a + 77)), (1, .int x1), (2, .int x2), (3, .int x3)] → narrow .boolean (.int xs1) = .int xs1 → fX6_order_b20 x1 x2 x3 xs1 M = some out → W p l e rX6_order s m args below meth c H locs 0 0 (MQ below (QI D cy a out.1 out.2) args s 0 0 (Aq a)) (F0 m 20 ls [.int xs1, .ref (a + 77)]) := by
  intro x1 x2 x3 xs1 M H locs ls hw hS hl hbs1 hf
  unfold fX6_order_b20 at hf
  refine lv_iload_n hx hb dX6_order_20 rfl (lv_at hl 3 rfl) ?_
  refine lv_iconst (v := (1 : Int32)) hx hb dX6_order_21 (by decide) ?_
  refine lv_sipush (v := (200 : Int32)) hx hb dX6_order_22 (by decide) ?_
  obtain ⟨o1, ho1, hf⟩ := ob hf
  refine rCallB (va_runS (As := [.int x3, .int (1 : Int32), .int (200 : Int32)]) (rest := [.int xs1, .ref (a + 77)]) ⟨hx, hb, hml, hown, hts⟩ (ctX6_isBetween (l := l) (D := D) (cy := cy) (a := a) ho1) (va_cwS 3 hts gX6_order_X6_isBetween rfl rfl rfl (by decide +kernel) ⟨Nat.le_of_ble_eq_true rfl, Nat.le_of_ble_eq_true rfl⟩) (pS hK hZ hw hS) rfl rfl hl.1 rfl (lv_room (Nat.le_of_ble_eq_true rfl)) dX6_order_25 ⟨Nat.le_of_ble_eq_true rfl, Nat.le_of_ble_eq_true rfl⟩) hS (fun H locs hw hS ho1b => ?_)
  refine lv_aload_n hx hb dX6_order_28 rfl (lv_at hl 0 rfl) ?_
  refine rGetI hx hb hts iX6_order_X6 hown hK hw (Nat.le_of_ble_eq_true rfl) en_model rfl 12 (by decide) (hts _ kX6_order_1) rfl ge6_12 dX6_order_29 ?_
  refine lv_bipush (v := (40 : Int32)) hx hb dX6_order_32 (by decide) ?_
  refine lv_icmp_ge (tgt := 41) hx hb dX6_order_34 (by decide) (fun c2 => ?_) (fun c2 => ?_)
  · have hf := ip c2 hf
    refine lv_iconst (v := (0 : Int32)) hx hb dX6_order_41 (by decide) ?_
    exact bX6_order_42 hx hb hr hml hown hts hlocks hK hZ _ _ _ _ _ _ _ _ _ _ hw hS (lv_sub hl [0, 1, 2, 3] rfl) hbs1 ho1b rfl hf
  · have hf := iq c2 hf
    refine lv_iconst (v := (1 : Int32)) hx hb dX6_order_37 (by decide) ?_
    refine lv_goto (tgt := 42) hx hb dX6_order_38 (by decide) ?_
    exact bX6_order_42 hx hb hr hml hown hts hlocks hK hZ _ _ _ _ _ _ _ _ _ _ hw hS (lv_sub hl [0, 1, 2, 3] rfl) hbs1 ho1b rfl hf
set_option maxRecDepth 100000 in
set_option maxHeartbeats 4000000 in
theorem bX6_order_19 {p : Program} {l : Launch} {e : Env} {s : State} {m : MethodId} {args : Array Value} {below : List Frame} {meth : Method} {c : Code} {D : va_G} {cy : Nat → ClassId} {a : Nat} (hx : p.tables.exec = Jvm.exec) (hb : c.code = cX6_order) (hr : meth.sig.returnType = (some .int)) (hml : c.maxLocals = 4) (hown : s.vm.findClass RX6 = some m.cls) (hts : ∀ w ∈ wsX6_order, w.before args s = true) (hlocks : meth.locks = false) (hK : KS D cy s) (hZ : ZZ a s s.heap) {out : Int32 × Mm} : ∀ (x1 : Int32) (x2 : Int32) (x3 : Int32) (M : Mm) (H : Heap) (locs : List Loc) (ls : Array Slot), HP D cy a M H → va_S (Aq a) s.heap H locs → lv_has ls 4 [(0, .ref (a + 77)), (1, .int x1), (2, .int x2), (3, .int x3)] → fX6_order_b19 x1 x2 x3 M = some out → W p l e rX6_order s m args below meth c H locs 0 0 (MQ below (QI D cy a out.1 out.2) args s 0 0 (Aq a)) (F0 m 19 ls [.ref (a + 77)]) := by
  intro x1 x2 x3 M H locs ls hw hS hl hf
  unfold fX6_order_b19 at hf
  refine lv_iconst (v := (0 : Int32)) hx hb dX6_order_19 (by decide) ?_
  exact bX6_order_20 hx hb hr hml hown hts hlocks hK hZ _ _ _ _ _ _ _ _ hw hS (lv_sub hl [0, 1, 2, 3] rfl) rfl hf
set_option maxRecDepth 100000 in
set_option maxHeartbeats 4000000 in
theorem bX6_order_0 {p : Program} {l : Launch} {e : Env} {s : State} {m : MethodId} {args : Array Value} {below : List Frame} {meth : Method} {c : Code} {D : va_G} {cy : Nat → ClassId} {a : Nat} (hx : p.tables.exec = Jvm.exec) (hb : c.code = cX6_order) (hr : meth.sig.returnType = (some .int)) (hml : c.maxLocals = 4) (hown : s.vm.findClass RX6 = some m.cls) (hts : ∀ w ∈ wsX6_order, w.before args s = true) (hlocks : meth.locks = false) (hK : KS D cy s) (hZ : ZZ a s s.heap) {out : Int32 × Mm} : ∀ (x1 : Int32) (x2 : Int32) (x3 : Int32) (M : Mm) (H : Heap) (locs : List Loc) (ls : Array Slot), HP D cy a M H → va_S (Aq a) s.heap H locs → lv_has ls 4 [(0, .ref (a + 77)), (1, .int x1), (2, .int x2), (3, .int x3)] → fX6_order x1 x2 x3 M = some out → W p l e rX6_order s m args below meth c H locs 0 0 (MQ below (QI D cy a out.1 out.2) args s 0 0 (Aq a)) (F0 m 0 ls []) := by
  intro x1 x2 x3 M H locs ls hw hS hl hf
  unfold fX6_order at hf
  refine lv_aload_n hx hb dX6_order_0 rfl (lv_at hl 0 rfl) ?_
  refine lv_iload_n hx hb dX6_order_1 rfl (lv_at hl 1 rfl) ?_
  obtain ⟨o1, ho1, hf⟩ := ob hf
  refine rCallB (va_runS (As := [.int x1]) (rest := [.ref (a + 77)]) ⟨hx, hb, hml, hown, hts⟩ (ctX6_isShipper (l := l) (D := D) (cy := cy) (a := a) ho1) (va_cwS 1 hts gX6_order_X6_isShipper rfl rfl rfl (by decide +kernel) ⟨Nat.le_of_ble_eq_true rfl, Nat.le_of_ble_eq_true rfl⟩) (pS hK hZ hw hS) rfl rfl hl.1 rfl (lv_room (Nat.le_of_ble_eq_true rfl)) dX6_order_2 ⟨Nat.le_of_ble_eq_true rfl, Nat.le_of_ble_eq_true rfl⟩) hS (fun H locs hw hS ho1b => ?_)
  refine lv_if_eq (tgt := 19) hx hb dX6_order_5 (by decide) (fun c2 => ?_) (fun c2 => ?_)
  · have hf := ip c2 hf
    exact bX6_order_19 hx hb hr hml hown hts hlocks hK hZ _ _ _ _ _ _ _ hw hS (lv_sub hl [0, 1, 2, 3] rfl) hf
  · have hf := iq c2 hf
    refine lv_iload_n hx hb dX6_order_8 rfl (lv_at hl 2 rfl) ?_
    obtain ⟨o3, ho3, hf⟩ := ob hf
    refine rCallB (va_runS (As := [.int x2]) (rest := [.ref (a + 77)]) ⟨hx, hb, hml, hown, hts⟩ (ctX6_isProduct (l := l) (D := D) (cy := cy) (a := a) ho3) (va_cwS 1 hts gX6_order_X6_isProduct rfl rfl rfl (by decide +kernel) ⟨Nat.le_of_ble_eq_true rfl, Nat.le_of_ble_eq_true rfl⟩) (pS hK hZ hw hS) rfl rfl hl.1 rfl (lv_room (Nat.le_of_ble_eq_true rfl)) dX6_order_9 ⟨Nat.le_of_ble_eq_true rfl, Nat.le_of_ble_eq_true rfl⟩) hS (fun H locs hw hS ho3b => ?_)
    refine lv_if_eq (tgt := 19) hx hb dX6_order_12 (by decide) (fun c4 => ?_) (fun c4 => ?_)
    · have hf := ip c4 hf
      exact bX6_order_19 hx hb hr hml hown hts hlocks hK hZ _ _ _ _ _ _ _ hw hS (lv_sub hl [0, 1, 2, 3] rfl) hf
    · have hf := iq c4 hf
      refine lv_iconst (v := (1 : Int32)) hx hb dX6_order_15 (by decide) ?_
      refine lv_goto (tgt := 20) hx hb dX6_order_16 (by decide) ?_
      exact bX6_order_20 hx hb hr hml hown hts hlocks hK hZ _ _ _ _ _ _ _ _ hw hS (lv_sub hl [0, 1, 2, 3] rfl) rfl hf
set_option maxRecDepth 100000 in
set_option maxHeartbeats 4000000 in
theorem ctX6_order {l : Launch} {D : va_G} {cy : Nat → ClassId} {a : Nat} {x1 : Int32} {x2 : Int32} {x3 : Int32} {M : Mm} {out : Int32 × Mm} (hf : fX6_order x1 x2 x3 M = some out) : Met l yX6_order wsX6_order rX6_order (Pre D cy a M [.ref (a + 77), .int x1, .int x2, .int x3]) (QI D cy a out.1 out.2) 0 0 (Aq a) := by
  refine Met.ofW (cc := cX6_order) (maxL := 4) (ret := (some .int)) (by decide +kernel) rfl ?_
  intro p e s m args below meth c s₁ B hml hv
  obtain ⟨rfl, hw, hK, hZ⟩ := hv
  have hS : va_S (Aq a) s.heap s.heap [] := va_S.rf
  have hl := lv_entry ([.ref (a + 77), .int x1, .int x2, .int x3]) (n := 4) (Nat.le_of_ble_eq_true rfl)
  rw [lg_entry_eq]
  generalize (lg_sl ([.ref (a + 77), .int x1, .int x2, .int x3]) ++ List.replicate (4 - (lg_sl ([.ref (a + 77), .int x1, .int x2, .int x3])).length) Slot.unset).toArray = ls at hl ⊢
  exact bX6_order_0 B.exec B.bytes B.returns hml (findClass_of_methodNamed B.named) (atoms_spec (ws := wsX6_order) B.pre) B.notSynchronized hK hZ _ _ _ _ _ _ _ hw hS hl hf
def rX6_rate : Room := { frames := 1, cells := 0, slots := 0, locals := 23 }
noncomputable def fX6_rate (x1 : Int32) (M : Mm) : Option (Int32 × Mm) := ((fX6_isBetween x1 (0 : Int32) (10 : Int32) M).bind fun o1 => ((fX6_goes o1 (1 : Int32) (1 : Int32) M).bind fun o2 => (if o2.1 = 0 then some ((0 : Int32), o2.2) else some (gi o2.2 77 27, si o2.2 77 27 x1))))
set_option maxRecDepth 20000 in
theorem iX6_rate_X6 : ∀ w ∈ wsX60, w ∈ wsX6_rate := by decide +kernel
set_option maxRecDepth 20000 in
theorem kX6_rate_0 : Cond.fieldLink RX6 126 "BatchPipeModel" "rate" "I" ∈ wsX6_rate := by decide +kernel
set_option maxRecDepth 100000 in
set_option maxHeartbeats 4000000 in
theorem bX6_rate_0 {p : Program} {l : Launch} {e : Env} {s : State} {m : MethodId} {args : Array Value} {below : List Frame} {meth : Method} {c : Code} {D : va_G} {cy : Nat → ClassId} {a : Nat} (hx : p.tables.exec = Jvm.exec) (hb : c.code = cX6_rate) (hr : meth.sig.returnType = (some .int)) (hml : c.maxLocals = 3) (hown : s.vm.findClass RX6 = some m.cls) (hts : ∀ w ∈ wsX6_rate, w.before args s = true) (hlocks : meth.locks = false) (hK : KS D cy s) (hZ : ZZ a s s.heap) {out : Int32 × Mm} : ∀ (x1 : Int32) (M : Mm) (H : Heap) (locs : List Loc) (ls : Array Slot), HP D cy a M H → va_S (Aq a) s.heap H locs → lv_has ls 3 [(0, .ref (a + 77)), (1, .int x1)] → fX6_rate x1 M = some out → W p l e rX6_rate s m args below meth c H locs 0 0 (MQ below (QI D cy a out.1 out.2) args s 0 0 (Aq a)) (F0 m 0 ls []) := by
  intro x1 M H locs ls hw hS hl hf
  unfold fX6_rate at hf
  refine lv_aload_n hx hb dX6_rate_0 rfl (lv_at hl 0 rfl) ?_
  refine lv_iload_n hx hb dX6_rate_1 rfl (lv_at hl 1 rfl) ?_
  refine lv_iconst (v := (0 : Int32)) hx hb dX6_rate_2 (by decide) ?_
  refine lv_bipush (v := (10 : Int32)) hx hb dX6_rate_3 (by decide) ?_
  obtain ⟨o1, ho1, hf⟩ := ob hf
  refine rCallB (va_runS (As := [.int x1, .int (0 : Int32), .int (10 : Int32)]) (rest := [.ref (a + 77)]) ⟨hx, hb, hml, hown, hts⟩ (ctX6_isBetween (l := l) (D := D) (cy := cy) (a := a) ho1) (va_cwS 3 hts gX6_rate_X6_isBetween rfl rfl rfl (by decide +kernel) ⟨Nat.le_of_ble_eq_true rfl, Nat.le_of_ble_eq_true rfl⟩) (pS hK hZ hw hS) rfl rfl hl.1 rfl (lv_room (Nat.le_of_ble_eq_true rfl)) dX6_rate_5 ⟨Nat.le_of_ble_eq_true rfl, Nat.le_of_ble_eq_true rfl⟩) hS (fun H locs hw hS ho1b => ?_)
  refine lv_iconst (v := (1 : Int32)) hx hb dX6_rate_8 (by decide) ?_
  refine lv_iconst (v := (1 : Int32)) hx hb dX6_rate_9 (by decide) ?_
  obtain ⟨o2, ho2, hf⟩ := ob hf
  refine rCallB (va_runV (As := [.int o1, .int (1 : Int32), .int (1 : Int32)]) (rest := []) ⟨hx, hb, hml, hown, hts⟩ (ctX6_goes (l := l) (D := D) (cy := cy) (a := a) ho2) (cwV 3 hts gX6_rate_X6_goes rfl rfl rfl (by decide +kernel) ⟨Nat.le_of_ble_eq_true rfl, Nat.le_of_ble_eq_true rfl⟩) (pV hK hZ hw hS (rRecv hK hw (Nat.le_of_ble_eq_true rfl) en_model rfl)) rfl rfl hl.1 rfl (lv_room (Nat.le_of_ble_eq_true rfl)) dX6_rate_10 ⟨Nat.le_of_ble_eq_true rfl, Nat.le_of_ble_eq_true rfl⟩) hS (fun H locs hw hS ho2b => ?_)
  refine lv_if_ne (tgt := 18) hx hb dX6_rate_13 (by decide) (fun c3 => ?_) (fun c3 => ?_)
  · have hf := iq c3 hf
    refine lv_aload_n hx hb dX6_rate_18 rfl (lv_at hl 0 rfl) ?_
    refine rGetI hx hb hts iX6_rate_X6 hown hK hw (Nat.le_of_ble_eq_true rfl) en_model rfl 27 (by decide) (hts _ kX6_rate_0) rfl ge6_27 dX6_rate_19 ?_
    refine lv_istore_n (lv' := [(2, .int (gi o2.2 77 27)), (0, .ref (a + 77)), (1, .int x1)]) hx hb dX6_rate_22 rfl hl (Nat.le_of_ble_eq_true rfl) rfl (fun ls hl => ?_)
    refine lv_aload_n hx hb dX6_rate_23 rfl (lv_at hl 1 rfl) ?_
    refine lv_iload_n hx hb dX6_rate_24 rfl (lv_at hl 2 rfl) ?_
    refine rPut hx hb hts iX6_rate_X6 tyX6 tyX6_ok nmX6 hown hK hw hS (Nat.le_of_ble_eq_true rfl) en_model rfl 27 (by decide) (hts _ kX6_rate_0) rfl rfl rfl rfl (Nat.le_of_ble_eq_true rfl) hs6_27 dX6_rate_25 (fun H locs hw hS => ?_)
    refine lv_iload_n hx hb dX6_rate_28 rfl (lv_at hl 0 rfl) ?_
    obtain rfl := Option.some.inj hf
    exact rIret hx hb hr hlocks hw hS dX6_rate_29
  · have hf := ip c3 hf
    refine lv_iconst (v := (0 : Int32)) hx hb dX6_rate_16 (by decide) ?_
    obtain rfl := Option.some.inj hf
    exact rIret hx hb hr hlocks hw hS dX6_rate_17
set_option maxRecDepth 100000 in
set_option maxHeartbeats 4000000 in
theorem ctX6_rate {l : Launch} {D : va_G} {cy : Nat → ClassId} {a : Nat} {x1 : Int32} {M : Mm} {out : Int32 × Mm} (hf : fX6_rate x1 M = some out) : Met l yX6_rate wsX6_rate rX6_rate (Pre D cy a M [.ref (a + 77), .int x1]) (QI D cy a out.1 out.2) 0 0 (Aq a) := by
  refine Met.ofW (cc := cX6_rate) (maxL := 3) (ret := (some .int)) (by decide +kernel) rfl ?_
  intro p e s m args below meth c s₁ B hml hv
  obtain ⟨rfl, hw, hK, hZ⟩ := hv
  have hS : va_S (Aq a) s.heap s.heap [] := va_S.rf
  have hl := lv_entry ([.ref (a + 77), .int x1]) (n := 3) (Nat.le_of_ble_eq_true rfl)
  rw [lg_entry_eq]
  generalize (lg_sl ([.ref (a + 77), .int x1]) ++ List.replicate (3 - (lg_sl ([.ref (a + 77), .int x1])).length) Slot.unset).toArray = ls at hl ⊢
  exact bX6_rate_0 B.exec B.bytes B.returns hml (findClass_of_methodNamed B.named) (atoms_spec (ws := wsX6_rate) B.pre) B.notSynchronized hK hZ _ _ _ _ _ hw hS hl hf
def rX6_drop : Room := { frames := 2, cells := 0, slots := 0, locals := 43 }
noncomputable def fX6_drop_b21 (x1 : Int32) (x2 : Int32) (x3 : Int32) (xs1 : Int32) (M : Mm) : Option (Mm) := ((fX6_isBetween x2 (1 : Int32) (10 : Int32) M).bind fun o1 => ((fX6_goes xs1 o1 (1 : Int32) M).bind fun o2 => (if o2.1 = 0 then some (o2.2) else some (si (si (si o2.2 77 29 x1) 77 30 x2) 77 31 x3))))
noncomputable def fX6_drop_b20 (x1 : Int32) (x2 : Int32) (x3 : Int32) (M : Mm) : Option (Mm) := fX6_drop_b21 x1 x2 x3 (0 : Int32) M
noncomputable def fX6_drop (x1 : Int32) (x2 : Int32) (x3 : Int32) (M : Mm) : Option (Mm) := ((fX6_isPlace x1 M).bind fun o1 => (if o1 = 0 then fX6_drop_b20 x1 x2 x3 M else ((fX6_isTank x3 M).bind fun o3 => (if o3 = 0 then fX6_drop_b20 x1 x2 x3 M else fX6_drop_b21 x1 x2 x3 (1 : Int32) M))))
set_option maxRecDepth 20000 in
theorem iX6_drop_X6 : ∀ w ∈ wsX60, w ∈ wsX6_drop := by decide +kernel
set_option maxRecDepth 20000 in
theorem kX6_drop_0 : Cond.fieldLink RX6 77 "BatchPipeModel" "dropSegment" "I" ∈ wsX6_drop := by decide +kernel
set_option maxRecDepth 20000 in
theorem kX6_drop_1 : Cond.fieldLink RX6 135 "BatchPipeModel" "dropUnits" "I" ∈ wsX6_drop := by decide +kernel
set_option maxRecDepth 20000 in
theorem kX6_drop_2 : Cond.fieldLink RX6 138 "BatchPipeModel" "dropTank" "I" ∈ wsX6_drop := by decide +kernel
set_option maxRecDepth 100000 in
set_option maxHeartbeats 4000000 in
theorem bX6_drop_21 {p : Program} {l : Launch} {e : Env} {s : State} {m : MethodId} {args : Array Value} {below : List Frame} {meth : Method} {c : Code} {D : va_G} {cy : Nat → ClassId} {a : Nat} (hx : p.tables.exec = Jvm.exec) (hb : c.code = cX6_drop) (hr : meth.sig.returnType = none) (hml : c.maxLocals = 4) (hown : s.vm.findClass RX6 = some m.cls) (hts : ∀ w ∈ wsX6_drop, w.before args s = true) (hlocks : meth.locks = false) (hK : KS D cy s) (hZ : ZZ a s s.heap) {out : Mm} : ∀ (x1 : Int32) (x2 : Int32) (x3 : Int32) (xs1 : Int32) (M : Mm) (H : Heap) (locs : List Loc) (ls : Array Slot), HP D cy a M H → va_S (Aq a) s.heap H locs → lv_has ls 4 [(0, .ref (a + 77)), (1, .int x1), (2, .int x2), (3, .int x3)] → narrow .boolean (.int xs1) = .int xs1 → fX6_drop_b21 x1 x2 x3 xs1 M = some out → W p l e rX6_drop s m args below meth c H locs 0 0 (MQ below (QV D cy a out) args s 0 0 (Aq a)) (F0 m 21 ls [.int xs1, .ref (a + 77)]) := by
  intro x1 x2 x3 xs1 M H locs ls hw hS hl hbs1 hf
  unfold fX6_drop_b21 at hf
  refine lv_iload_n hx hb dX6_drop_21 rfl (lv_at hl 2 rfl) ?_
  refine lv_iconst (v := (1 : Int32)) hx hb dX6_drop_22 (by decide) ?_
  refine lv_bipush (v := (10 : Int32)) hx hb dX6_drop_23 (by decide) ?_
  obtain ⟨o1, ho1, hf⟩ := ob hf
  refine rCallB (va_runS (As := [.int x2, .int (1 : Int32), .int (10 : Int32)]) (rest := [.int xs1, .ref (a + 77)]) ⟨hx, hb, hml, hown, hts⟩ (ctX6_isBetween (l := l) (D := D) (cy := cy) (a := a) ho1) (va_cwS 3 hts gX6_drop_X6_isBetween rfl rfl rfl (by decide +kernel) ⟨Nat.le_of_ble_eq_true rfl, Nat.le_of_ble_eq_true rfl⟩) (pS hK hZ hw hS) rfl rfl hl.1 rfl (lv_room (Nat.le_of_ble_eq_true rfl)) dX6_drop_25 ⟨Nat.le_of_ble_eq_true rfl, Nat.le_of_ble_eq_true rfl⟩) hS (fun H locs hw hS ho1b => ?_)
  refine lv_iconst (v := (1 : Int32)) hx hb dX6_drop_28 (by decide) ?_
  obtain ⟨o2, ho2, hf⟩ := ob hf
  refine rCallB (va_runV (As := [.int xs1, .int o1, .int (1 : Int32)]) (rest := []) ⟨hx, hb, hml, hown, hts⟩ (ctX6_goes (l := l) (D := D) (cy := cy) (a := a) ho2) (cwV 3 hts gX6_drop_X6_goes rfl rfl rfl (by decide +kernel) ⟨Nat.le_of_ble_eq_true rfl, Nat.le_of_ble_eq_true rfl⟩) (pV hK hZ hw hS (rRecv hK hw (Nat.le_of_ble_eq_true rfl) en_model rfl)) rfl rfl hl.1 rfl (lv_room (Nat.le_of_ble_eq_true rfl)) dX6_drop_29 ⟨Nat.le_of_ble_eq_true rfl, Nat.le_of_ble_eq_true rfl⟩) hS (fun H locs hw hS ho2b => ?_)
  refine lv_if_ne (tgt := 36) hx hb dX6_drop_32 (by decide) (fun c3 => ?_) (fun c3 => ?_)
  · have hf := iq c3 hf
    refine lv_aload_n hx hb dX6_drop_36 rfl (lv_at hl 0 rfl) ?_
    refine lv_iload_n hx hb dX6_drop_37 rfl (lv_at hl 1 rfl) ?_
    refine rPut hx hb hts iX6_drop_X6 tyX6 tyX6_ok nmX6 hown hK hw hS (Nat.le_of_ble_eq_true rfl) en_model rfl 29 (by decide) (hts _ kX6_drop_0) rfl rfl rfl rfl (Nat.le_of_ble_eq_true rfl) hs6_29 dX6_drop_38 (fun H locs hw hS => ?_)
    refine lv_aload_n hx hb dX6_drop_41 rfl (lv_at hl 0 rfl) ?_
    refine lv_iload_n hx hb dX6_drop_42 rfl (lv_at hl 2 rfl) ?_
    refine rPut hx hb hts iX6_drop_X6 tyX6 tyX6_ok nmX6 hown hK hw hS (Nat.le_of_ble_eq_true rfl) en_model rfl 30 (by decide) (hts _ kX6_drop_1) rfl rfl rfl rfl (Nat.le_of_ble_eq_true rfl) hs6_30 dX6_drop_43 (fun H locs hw hS => ?_)
    refine lv_aload_n hx hb dX6_drop_46 rfl (lv_at hl 0 rfl) ?_
    refine lv_iload_n hx hb dX6_drop_47 rfl (lv_at hl 3 rfl) ?_
    refine rPut hx hb hts iX6_drop_X6 tyX6 tyX6_ok nmX6 hown hK hw hS (Nat.le_of_ble_eq_true rfl) en_model rfl 31 (by decide) (hts _ kX6_drop_2) rfl rfl rfl rfl (Nat.le_of_ble_eq_true rfl) hs6_31 dX6_drop_48 (fun H locs hw hS => ?_)
    obtain rfl := Option.some.inj hf
    exact rVret hx hb hr hlocks hw hS dX6_drop_51
  · have hf := ip c3 hf
    obtain rfl := Option.some.inj hf
    exact rVret hx hb hr hlocks hw hS dX6_drop_35
set_option maxRecDepth 100000 in
set_option maxHeartbeats 4000000 in
theorem bX6_drop_20 {p : Program} {l : Launch} {e : Env} {s : State} {m : MethodId} {args : Array Value} {below : List Frame} {meth : Method} {c : Code} {D : va_G} {cy : Nat → ClassId} {a : Nat} (hx : p.tables.exec = Jvm.exec) (hb : c.code = cX6_drop) (hr : meth.sig.returnType = none) (hml : c.maxLocals = 4) (hown : s.vm.findClass RX6 = some m.cls) (hts : ∀ w ∈ wsX6_drop, w.before args s = true) (hlocks : meth.locks = false) (hK : KS D cy s) (hZ : ZZ a s s.heap) {out : Mm} : ∀ (x1 : Int32) (x2 : Int32) (x3 : Int32) (M : Mm) (H : Heap) (locs : List Loc) (ls : Array Slot), HP D cy a M H → va_S (Aq a) s.heap H locs → lv_has ls 4 [(0, .ref (a + 77)), (1, .int x1), (2, .int x2), (3, .int x3)] → fX6_drop_b20 x1 x2 x3 M = some out → W p l e rX6_drop s m args below meth c H locs 0 0 (MQ below (QV D cy a out) args s 0 0 (Aq a)) (F0 m 20 ls [.ref (a + 77)]) := by
  intro x1 x2 x3 M H locs ls hw hS hl hf
  unfold fX6_drop_b20 at hf
  refine lv_iconst (v := (0 : Int32)) hx hb dX6_drop_20 (by decide) ?_
  exact bX6_drop_21 hx hb hr hml hown hts hlocks hK hZ _ _ _ _ _ _ _ _ hw hS (lv_sub hl [0, 1, 2, 3] rfl) rfl hf
set_option maxRecDepth 100000 in
set_option maxHeartbeats 4000000 in
theorem bX6_drop_0 {p : Program} {l : Launch} {e : Env} {s : State} {m : MethodId} {args : Array Value} {below : List Frame} {meth : Method} {c : Code} {D : va_G} {cy : Nat → ClassId} {a : Nat} (hx : p.tables.exec = Jvm.exec) (hb : c.code = cX6_drop) (hr : meth.sig.returnType = none) (hml : c.maxLocals = 4) (hown : s.vm.findClass RX6 = some m.cls) (hts : ∀ w ∈ wsX6_drop, w.before args s = true) (hlocks : meth.locks = false) (hK : KS D cy s) (hZ : ZZ a s s.heap) {out : Mm} : ∀ (x1 : Int32) (x2 : Int32) (x3 : Int32) (M : Mm) (H : Heap) (locs : List Loc) (ls : Array Slot), HP D cy a M H → va_S (Aq a) s.heap H locs → lv_has ls 4 [(0, .ref (a + 77)), (1, .int x1), (2, .int x2), (3, .int x3)] → fX6_drop x1 x2 x3 M = some out → W p l e rX6_drop s m args below meth c H locs 0 0 (MQ below (QV D cy a out) args s 0 0 (Aq a)) (F0 m 0 ls []) := by
  intro x1 x2 x3 M H locs ls hw hS hl hf
  unfold fX6_drop at hf
  refine lv_aload_n hx hb dX6_drop_0 rfl (lv_at hl 0 rfl) ?_
  refine lv_aload_n hx hb dX6_drop_1 rfl (lv_at hl 0 rfl) ?_
  refine lv_iload_n hx hb dX6_drop_2 rfl (lv_at hl 1 rfl) ?_
  obtain ⟨o1, ho1, hf⟩ := ob hf
  refine rCallB (va_runV (As := [.int x1]) (rest := [.ref (a + 77)]) ⟨hx, hb, hml, hown, hts⟩ (ctX6_isPlace (l := l) (D := D) (cy := cy) (a := a) ho1) (cwV 1 hts gX6_drop_X6_isPlace rfl rfl rfl (by decide +kernel) ⟨Nat.le_of_ble_eq_true rfl, Nat.le_of_ble_eq_true rfl⟩) (pV hK hZ hw hS (rRecv hK hw (Nat.le_of_ble_eq_true rfl) en_model rfl)) rfl rfl hl.1 rfl (lv_room (Nat.le_of_ble_eq_true rfl)) dX6_drop_3 ⟨Nat.le_of_ble_eq_true rfl, Nat.le_of_ble_eq_true rfl⟩) hS (fun H locs hw hS ho1b => ?_)
  refine lv_if_eq (tgt := 20) hx hb dX6_drop_6 (by decide) (fun c2 => ?_) (fun c2 => ?_)
  · have hf := ip c2 hf
    exact bX6_drop_20 hx hb hr hml hown hts hlocks hK hZ _ _ _ _ _ _ _ hw hS (lv_sub hl [0, 1, 2, 3] rfl) hf
  · have hf := iq c2 hf
    refine lv_iload_n hx hb dX6_drop_9 rfl (lv_at hl 3 rfl) ?_
    obtain ⟨o3, ho3, hf⟩ := ob hf
    refine rCallB (va_runS (As := [.int x3]) (rest := [.ref (a + 77)]) ⟨hx, hb, hml, hown, hts⟩ (ctX6_isTank (l := l) (D := D) (cy := cy) (a := a) ho3) (va_cwS 1 hts gX6_drop_X6_isTank rfl rfl rfl (by decide +kernel) ⟨Nat.le_of_ble_eq_true rfl, Nat.le_of_ble_eq_true rfl⟩) (pS hK hZ hw hS) rfl rfl hl.1 rfl (lv_room (Nat.le_of_ble_eq_true rfl)) dX6_drop_10 ⟨Nat.le_of_ble_eq_true rfl, Nat.le_of_ble_eq_true rfl⟩) hS (fun H locs hw hS ho3b => ?_)
    refine lv_if_eq (tgt := 20) hx hb dX6_drop_13 (by decide) (fun c4 => ?_) (fun c4 => ?_)
    · have hf := ip c4 hf
      exact bX6_drop_20 hx hb hr hml hown hts hlocks hK hZ _ _ _ _ _ _ _ hw hS (lv_sub hl [0, 1, 2, 3] rfl) hf
    · have hf := iq c4 hf
      refine lv_iconst (v := (1 : Int32)) hx hb dX6_drop_16 (by decide) ?_
      refine lv_goto (tgt := 21) hx hb dX6_drop_17 (by decide) ?_
      exact bX6_drop_21 hx hb hr hml hown hts hlocks hK hZ _ _ _ _ _ _ _ _ hw hS (lv_sub hl [0, 1, 2, 3] rfl) rfl hf
set_option maxRecDepth 100000 in
set_option maxHeartbeats 4000000 in
theorem ctX6_drop {l : Launch} {D : va_G} {cy : Nat → ClassId} {a : Nat} {x1 : Int32} {x2 : Int32} {x3 : Int32} {M : Mm} {out : Mm} (hf : fX6_drop x1 x2 x3 M = some out) : Met l yX6_drop wsX6_drop rX6_drop (Pre D cy a M [.ref (a + 77), .int x1, .int x2, .int x3]) (QV D cy a out) 0 0 (Aq a) := by
  refine Met.ofW (cc := cX6_drop) (maxL := 4) (ret := none) (by decide +kernel) rfl ?_
  intro p e s m args below meth c s₁ B hml hv
  obtain ⟨rfl, hw, hK, hZ⟩ := hv
  have hS : va_S (Aq a) s.heap s.heap [] := va_S.rf
  have hl := lv_entry ([.ref (a + 77), .int x1, .int x2, .int x3]) (n := 4) (Nat.le_of_ble_eq_true rfl)
  rw [lg_entry_eq]
  generalize (lg_sl ([.ref (a + 77), .int x1, .int x2, .int x3]) ++ List.replicate (4 - (lg_sl ([.ref (a + 77), .int x1, .int x2, .int x3])).length) Slot.unset).toArray = ls at hl ⊢
  exact bX6_drop_0 B.exec B.bytes B.returns hml (findClass_of_methodNamed B.named) (atoms_spec (ws := wsX6_drop) B.pre) B.notSynchronized hK hZ _ _ _ _ _ _ _ hw hS hl hf
def rX6_leak : Room := { frames := 2, cells := 0, slots := 0, locals := 43 }
noncomputable def fX6_leak (x1 : Int32) (x2 : Int32) (M : Mm) : Option (Mm) := ((fX6_isPlace x1 M).bind fun o1 => ((fX6_isBetween x2 (1 : Int32) (10 : Int32) M).bind fun o2 => ((fX6_goes o1 o2 (1 : Int32) M).bind fun o3 => (if o3.1 = 0 then some (o3.2) else some (si (si o3.2 77 32 x1) 77 33 x2)))))
set_option maxRecDepth 20000 in
theorem iX6_leak_X6 : ∀ w ∈ wsX60, w ∈ wsX6_leak := by decide +kernel
set_option maxRecDepth 20000 in
theorem kX6_leak_0 : Cond.fieldLink RX6 80 "BatchPipeModel" "leakSegment" "I" ∈ wsX6_leak := by decide +kernel
set_option maxRecDepth 20000 in
theorem kX6_leak_1 : Cond.fieldLink RX6 141 "BatchPipeModel" "leakUnits" "I" ∈ wsX6_leak := by decide +kernel
set_option maxRecDepth 100000 in
set_option maxHeartbeats 4000000 in
theorem bX6_leak_0 {p : Program} {l : Launch} {e : Env} {s : State} {m : MethodId} {args : Array Value} {below : List Frame} {meth : Method} {c : Code} {D : va_G} {cy : Nat → ClassId} {a : Nat} (hx : p.tables.exec = Jvm.exec) (hb : c.code = cX6_leak) (hr : meth.sig.returnType = none) (hml : c.maxLocals = 3) (hown : s.vm.findClass RX6 = some m.cls) (hts : ∀ w ∈ wsX6_leak, w.before args s = true) (hlocks : meth.locks = false) (hK : KS D cy s) (hZ : ZZ a s s.heap) {out : Mm} : ∀ (x1 : Int32) (x2 : Int32) (M : Mm) (H : Heap) (locs : List Loc) (ls : Array Slot), HP D cy a M H → va_S (Aq a) s.heap H locs → lv_has ls 3 [(0, .ref (a + 77)), (1, .int x1), (2, .int x2)] → fX6_leak x1 x2 M = some out → W p l e rX6_leak s m args below meth c H locs 0 0 (MQ below (QV D cy a out) args s 0 0 (Aq a)) (F0 m 0 ls []) := by
  intro x1 x2 M H locs ls hw hS hl hf
  unfold fX6_leak at hf
  refine lv_aload_n hx hb dX6_leak_0 rfl (lv_at hl 0 rfl) ?_
  refine lv_aload_n hx hb dX6_leak_1 rfl (lv_at hl 0 rfl) ?_
  refine lv_iload_n hx hb dX6_leak_2 rfl (lv_at hl 1 rfl) ?_
  obtain ⟨o1, ho1, hf⟩ := ob hf
  refine rCallB (va_runV (As := [.int x1]) (rest := [.ref (a + 77)]) ⟨hx, hb, hml, hown, hts⟩ (ctX6_isPlace (l := l) (D := D) (cy := cy) (a := a) ho1) (cwV 1 hts gX6_leak_X6_isPlace rfl rfl rfl (by decide +kernel) ⟨Nat.le_of_ble_eq_true rfl, Nat.le_of_ble_eq_true rfl⟩) (pV hK hZ hw hS (rRecv hK hw (Nat.le_of_ble_eq_true rfl) en_model rfl)) rfl rfl hl.1 rfl (lv_room (Nat.le_of_ble_eq_true rfl)) dX6_leak_3 ⟨Nat.le_of_ble_eq_true rfl, Nat.le_of_ble_eq_true rfl⟩) hS (fun H locs hw hS ho1b => ?_)
  refine lv_iload_n hx hb dX6_leak_6 rfl (lv_at hl 2 rfl) ?_
  refine lv_iconst (v := (1 : Int32)) hx hb dX6_leak_7 (by decide) ?_
  refine lv_bipush (v := (10 : Int32)) hx hb dX6_leak_8 (by decide) ?_
  obtain ⟨o2, ho2, hf⟩ := ob hf
  refine rCallB (va_runS (As := [.int x2, .int (1 : Int32), .int (10 : Int32)]) (rest := [.int o1, .ref (a + 77)]) ⟨hx, hb, hml, hown, hts⟩ (ctX6_isBetween (l := l) (D := D) (cy := cy) (a := a) ho2) (va_cwS 3 hts gX6_leak_X6_isBetween rfl rfl rfl (by decide +kernel) ⟨Nat.le_of_ble_eq_true rfl, Nat.le_of_ble_eq_true rfl⟩) (pS hK hZ hw hS) rfl rfl hl.1 rfl (lv_room (Nat.le_of_ble_eq_true rfl)) dX6_leak_10 ⟨Nat.le_of_ble_eq_true rfl, Nat.le_of_ble_eq_true rfl⟩) hS (fun H locs hw hS ho2b => ?_)
  refine lv_iconst (v := (1 : Int32)) hx hb dX6_leak_13 (by decide) ?_
  obtain ⟨o3, ho3, hf⟩ := ob hf
  refine rCallB (va_runV (As := [.int o1, .int o2, .int (1 : Int32)]) (rest := []) ⟨hx, hb, hml, hown, hts⟩ (ctX6_goes (l := l) (D := D) (cy := cy) (a := a) ho3) (cwV 3 hts gX6_leak_X6_goes rfl rfl rfl (by decide +kernel) ⟨Nat.le_of_ble_eq_true rfl, Nat.le_of_ble_eq_true rfl⟩) (pV hK hZ hw hS (rRecv hK hw (Nat.le_of_ble_eq_true rfl) en_model rfl)) rfl rfl hl.1 rfl (lv_room (Nat.le_of_ble_eq_true rfl)) dX6_leak_14 ⟨Nat.le_of_ble_eq_true rfl, Nat.le_of_ble_eq_true rfl⟩) hS (fun H locs hw hS ho3b => ?_)
  refine lv_if_ne (tgt := 21) hx hb dX6_leak_17 (by decide) (fun c4 => ?_) (fun c4 => ?_)
  · have hf := iq c4 hf
    refine lv_aload_n hx hb dX6_leak_21 rfl (lv_at hl 0 rfl) ?_
    refine lv_iload_n hx hb dX6_leak_22 rfl (lv_at hl 1 rfl) ?_
    refine rPut hx hb hts iX6_leak_X6 tyX6 tyX6_ok nmX6 hown hK hw hS (Nat.le_of_ble_eq_true rfl) en_model rfl 32 (by decide) (hts _ kX6_leak_0) rfl rfl rfl rfl (Nat.le_of_ble_eq_true rfl) hs6_32 dX6_leak_23 (fun H locs hw hS => ?_)
    refine lv_aload_n hx hb dX6_leak_26 rfl (lv_at hl 0 rfl) ?_
    refine lv_iload_n hx hb dX6_leak_27 rfl (lv_at hl 2 rfl) ?_
    refine rPut hx hb hts iX6_leak_X6 tyX6 tyX6_ok nmX6 hown hK hw hS (Nat.le_of_ble_eq_true rfl) en_model rfl 33 (by decide) (hts _ kX6_leak_1) rfl rfl rfl rfl (Nat.le_of_ble_eq_true rfl) hs6_33 dX6_leak_28 (fun H locs hw hS => ?_)
    obtain rfl := Option.some.inj hf
    exact rVret hx hb hr hlocks hw hS dX6_leak_31
  · have hf := ip c4 hf
    obtain rfl := Option.some.inj hf
    exact rVret hx hb hr hlocks hw hS dX6_leak_20
set_option maxRecDepth 100000 in
set_option maxHeartbeats 4000000 in
theorem ctX6_leak {l : Launch} {D : va_G} {cy : Nat → ClassId} {a : Nat} {x1 : Int32} {x2 : Int32} {M : Mm} {out : Mm} (hf : fX6_leak x1 x2 M = some out) : Met l yX6_leak wsX6_leak rX6_leak (Pre D cy a M [.ref (a + 77), .int x1, .int x2]) (QV D cy a out) 0 0 (Aq a) := by
  refine Met.ofW (cc := cX6_leak) (maxL := 3) (ret := none) (by decide +kernel) rfl ?_
  intro p e s m args below meth c s₁ B hml hv
  obtain ⟨rfl, hw, hK, hZ⟩ := hv
  have hS : va_S (Aq a) s.heap s.heap [] := va_S.rf
  have hl := lv_entry ([.ref (a + 77), .int x1, .int x2]) (n := 3) (Nat.le_of_ble_eq_true rfl)
  rw [lg_entry_eq]
  generalize (lg_sl ([.ref (a + 77), .int x1, .int x2]) ++ List.replicate (3 - (lg_sl ([.ref (a + 77), .int x1, .int x2])).length) Slot.unset).toArray = ls at hl ⊢
  exact bX6_leak_0 B.exec B.bytes B.returns hml (findClass_of_methodNamed B.named) (atoms_spec (ws := wsX6_leak) B.pre) B.notSynchronized hK hZ _ _ _ _ _ _ hw hS hl hf
def rX6_receive : Room := { frames := 2, cells := 0, slots := 0, locals := 42 }
noncomputable def fX6_receive (x1 : Int32) (M : Mm) : Option (Int32 × Mm) := ((fX6_isTank x1 M).bind fun o1 => ((fX6_goes o1 (1 : Int32) (1 : Int32) M).bind fun o2 => (if o2.1 = 0 then some ((0 : Int32), o2.2) else some (gi o2.2 77 34, si o2.2 77 34 x1))))
set_option maxRecDepth 20000 in
theorem iX6_receive_X6 : ∀ w ∈ wsX60, w ∈ wsX6_receive := by decide +kernel
set_option maxRecDepth 20000 in
theorem kX6_receive_0 : Cond.fieldLink RX6 144 "BatchPipeModel" "receiving" "I" ∈ wsX6_receive := by decide +kernel
set_option maxRecDepth 100000 in
set_option maxHeartbeats 4000000 in
theorem bX6_receive_0 {p : Program} {l : Launch} {e : Env} {s : State} {m : MethodId} {args : Array Value} {below : List Frame} {meth : Method} {c : Code} {D : va_G} {cy : Nat → ClassId} {a : Nat} (hx : p.tables.exec = Jvm.exec) (hb : c.code = cX6_receive) (hr : meth.sig.returnType = (some .int)) (hml : c.maxLocals = 3) (hown : s.vm.findClass RX6 = some m.cls) (hts : ∀ w ∈ wsX6_receive, w.before args s = true) (hlocks : meth.locks = false) (hK : KS D cy s) (hZ : ZZ a s s.heap) {out : Int32 × Mm} : ∀ (x1 : Int32) (M : Mm) (H : Heap) (locs : List Loc) (ls : Array Slot), HP D cy a M H → va_S (Aq a) s.heap H locs → lv_has ls 3 [(0, .ref (a + 77)), (1, .int x1)] → fX6_receive x1 M = some out → W p l e rX6_receive s m args below meth c H locs 0 0 (MQ below (QI D cy a out.1 out.2) args s 0 0 (Aq a)) (F0 m 0 ls []) := by
  intro x1 M H locs ls hw hS hl hf
  unfold fX6_receive at hf
  refine lv_aload_n hx hb dX6_receive_0 rfl (lv_at hl 0 rfl) ?_
  refine lv_iload_n hx hb dX6_receive_1 rfl (lv_at hl 1 rfl) ?_
  obtain ⟨o1, ho1, hf⟩ := ob hf
  refine rCallB (va_runS (As := [.int x1]) (rest := [.ref (a + 77)]) ⟨hx, hb, hml, hown, hts⟩ (ctX6_isTank (l := l) (D := D) (cy := cy) (a := a) ho1) (va_cwS 1 hts gX6_receive_X6_isTank rfl rfl rfl (by decide +kernel) ⟨Nat.le_of_ble_eq_true rfl, Nat.le_of_ble_eq_true rfl⟩) (pS hK hZ hw hS) rfl rfl hl.1 rfl (lv_room (Nat.le_of_ble_eq_true rfl)) dX6_receive_2 ⟨Nat.le_of_ble_eq_true rfl, Nat.le_of_ble_eq_true rfl⟩) hS (fun H locs hw hS ho1b => ?_)
  refine lv_iconst (v := (1 : Int32)) hx hb dX6_receive_5 (by decide) ?_
  refine lv_iconst (v := (1 : Int32)) hx hb dX6_receive_6 (by decide) ?_
  obtain ⟨o2, ho2, hf⟩ := ob hf
  refine rCallB (va_runV (As := [.int o1, .int (1 : Int32), .int (1 : Int32)]) (rest := []) ⟨hx, hb, hml, hown, hts⟩ (ctX6_goes (l := l) (D := D) (cy := cy) (a := a) ho2) (cwV 3 hts gX6_receive_X6_goes rfl rfl rfl (by decide +kernel) ⟨Nat.le_of_ble_eq_true rfl, Nat.le_of_ble_eq_true rfl⟩) (pV hK hZ hw hS (rRecv hK hw (Nat.le_of_ble_eq_true rfl) en_model rfl)) rfl rfl hl.1 rfl (lv_room (Nat.le_of_ble_eq_true rfl)) dX6_receive_7 ⟨Nat.le_of_ble_eq_true rfl, Nat.le_of_ble_eq_true rfl⟩) hS (fun H locs hw hS ho2b => ?_)
  refine lv_if_ne (tgt := 15) hx hb dX6_receive_10 (by decide) (fun c3 => ?_) (fun c3 => ?_)
  · have hf := iq c3 hf
    refine lv_aload_n hx hb dX6_receive_15 rfl (lv_at hl 0 rfl) ?_
    refine rGetI hx hb hts iX6_receive_X6 hown hK hw (Nat.le_of_ble_eq_true rfl) en_model rfl 34 (by decide) (hts _ kX6_receive_0) rfl ge6_34 dX6_receive_16 ?_
    refine lv_istore_n (lv' := [(2, .int (gi o2.2 77 34)), (0, .ref (a + 77)), (1, .int x1)]) hx hb dX6_receive_19 rfl hl (Nat.le_of_ble_eq_true rfl) rfl (fun ls hl => ?_)
    refine lv_aload_n hx hb dX6_receive_20 rfl (lv_at hl 1 rfl) ?_
    refine lv_iload_n hx hb dX6_receive_21 rfl (lv_at hl 2 rfl) ?_
    refine rPut hx hb hts iX6_receive_X6 tyX6 tyX6_ok nmX6 hown hK hw hS (Nat.le_of_ble_eq_true rfl) en_model rfl 34 (by decide) (hts _ kX6_receive_0) rfl rfl rfl rfl (Nat.le_of_ble_eq_true rfl) hs6_34 dX6_receive_22 (fun H locs hw hS => ?_)
    refine lv_iload_n hx hb dX6_receive_25 rfl (lv_at hl 0 rfl) ?_
    obtain rfl := Option.some.inj hf
    exact rIret hx hb hr hlocks hw hS dX6_receive_26
  · have hf := ip c3 hf
    refine lv_iconst (v := (0 : Int32)) hx hb dX6_receive_13 (by decide) ?_
    obtain rfl := Option.some.inj hf
    exact rIret hx hb hr hlocks hw hS dX6_receive_14
set_option maxRecDepth 100000 in
set_option maxHeartbeats 4000000 in
theorem ctX6_receive {l : Launch} {D : va_G} {cy : Nat → ClassId} {a : Nat} {x1 : Int32} {M : Mm} {out : Int32 × Mm} (hf : fX6_receive x1 M = some out) : Met l yX6_receive wsX6_receive rX6_receive (Pre D cy a M [.ref (a + 77), .int x1]) (QI D cy a out.1 out.2) 0 0 (Aq a) := by
  refine Met.ofW (cc := cX6_receive) (maxL := 3) (ret := (some .int)) (by decide +kernel) rfl ?_
  intro p e s m args below meth c s₁ B hml hv
  obtain ⟨rfl, hw, hK, hZ⟩ := hv
  have hS : va_S (Aq a) s.heap s.heap [] := va_S.rf
  have hl := lv_entry ([.ref (a + 77), .int x1]) (n := 3) (Nat.le_of_ble_eq_true rfl)
  rw [lg_entry_eq]
  generalize (lg_sl ([.ref (a + 77), .int x1]) ++ List.replicate (3 - (lg_sl ([.ref (a + 77), .int x1])).length) Slot.unset).toArray = ls at hl ⊢
  exact bX6_receive_0 B.exec B.bytes B.returns hml (findClass_of_methodNamed B.named) (atoms_spec (ws := wsX6_receive) B.pre) B.notSynchronized hK hZ _ _ _ _ _ hw hS hl hf
def rX6_empty : Room := { frames := 2, cells := 0, slots := 0, locals := 42 }
noncomputable def fX6_empty (x1 : Int32) (M : Mm) : Option (Int32 × Mm) := ((fX6_isTank x1 M).bind fun o1 => ((fX6_goes o1 (1 : Int32) (1 : Int32) M).bind fun o2 => (if o2.1 = 0 then some ((0 : Int32), o2.2) else (if ¬ (x1 < 0 ∨ 4 ≤ x1.toNatClampNeg) then (if ¬ (x1 < 0 ∨ 4 ≤ x1.toNatClampNeg) then (if ¬ (x1 < 0 ∨ 4 ≤ x1.toNatClampNeg) then (if ¬ (x1 < 0 ∨ 4 ≤ x1.toNatClampNeg) then some (gi o2.2 99 x1.toNatClampNeg, si (si (si o2.2 99 x1.toNatClampNeg (0 : Int32)) 101 x1.toNatClampNeg (0 : Int32)) 100 x1.toNatClampNeg (0 : Int32)) else none) else none) else none) else none))))
set_option maxRecDepth 20000 in
theorem iX6_empty_X6 : ∀ w ∈ wsX60, w ∈ wsX6_empty := by decide +kernel
set_option maxRecDepth 20000 in
theorem kX6_empty_0 : Cond.fieldLink RX6 83 "BatchPipeModel" "has" "[I" ∈ wsX6_empty := by decide +kernel
set_option maxRecDepth 20000 in
theorem kX6_empty_1 : Cond.fieldLink RX6 89 "BatchPipeModel" "mixed" "[I" ∈ wsX6_empty := by decide +kernel
set_option maxRecDepth 20000 in
theorem kX6_empty_2 : Cond.fieldLink RX6 86 "BatchPipeModel" "worst" "[I" ∈ wsX6_empty := by decide +kernel
set_option maxRecDepth 100000 in
set_option maxHeartbeats 4000000 in
theorem bX6_empty_0 {p : Program} {l : Launch} {e : Env} {s : State} {m : MethodId} {args : Array Value} {below : List Frame} {meth : Method} {c : Code} {D : va_G} {cy : Nat → ClassId} {a : Nat} (hx : p.tables.exec = Jvm.exec) (hb : c.code = cX6_empty) (hr : meth.sig.returnType = (some .int)) (hml : c.maxLocals = 3) (hown : s.vm.findClass RX6 = some m.cls) (hts : ∀ w ∈ wsX6_empty, w.before args s = true) (hlocks : meth.locks = false) (hK : KS D cy s) (hZ : ZZ a s s.heap) {out : Int32 × Mm} : ∀ (x1 : Int32) (M : Mm) (H : Heap) (locs : List Loc) (ls : Array Slot), HP D cy a M H → va_S (Aq a) s.heap H locs → lv_has ls 3 [(0, .ref (a + 77)), (1, .int x1)] → fX6_empty x1 M = some out → W p l e rX6_empty s m args below meth c H locs 0 0 (MQ below (QI D cy a out.1 out.2) args s 0 0 (Aq a)) (F0 m 0 ls []) := by
  intro x1 M H locs ls hw hS hl hf
  unfold fX6_empty at hf
  refine lv_aload_n hx hb dX6_empty_0 rfl (lv_at hl 0 rfl) ?_
  refine lv_iload_n hx hb dX6_empty_1 rfl (lv_at hl 1 rfl) ?_
  obtain ⟨o1, ho1, hf⟩ := ob hf
  refine rCallB (va_runS (As := [.int x1]) (rest := [.ref (a + 77)]) ⟨hx, hb, hml, hown, hts⟩ (ctX6_isTank (l := l) (D := D) (cy := cy) (a := a) ho1) (va_cwS 1 hts gX6_empty_X6_isTank rfl rfl rfl (by decide +kernel) ⟨Nat.le_of_ble_eq_true rfl, Nat.le_of_ble_eq_true rfl⟩) (pS hK hZ hw hS) rfl rfl hl.1 rfl (lv_room (Nat.le_of_ble_eq_true rfl)) dX6_empty_2 ⟨Nat.le_of_ble_eq_true rfl, Nat.le_of_ble_eq_true rfl⟩) hS (fun H locs hw hS ho1b => ?_)
  refine lv_iconst (v := (1 : Int32)) hx hb dX6_empty_5 (by decide) ?_
  refine lv_iconst (v := (1 : Int32)) hx hb dX6_empty_6 (by decide) ?_
  obtain ⟨o2, ho2, hf⟩ := ob hf
  refine rCallB (va_runV (As := [.int o1, .int (1 : Int32), .int (1 : Int32)]) (rest := []) ⟨hx, hb, hml, hown, hts⟩ (ctX6_goes (l := l) (D := D) (cy := cy) (a := a) ho2) (cwV 3 hts gX6_empty_X6_goes rfl rfl rfl (by decide +kernel) ⟨Nat.le_of_ble_eq_true rfl, Nat.le_of_ble_eq_true rfl⟩) (pV hK hZ hw hS (rRecv hK hw (Nat.le_of_ble_eq_true rfl) en_model rfl)) rfl rfl hl.1 rfl (lv_room (Nat.le_of_ble_eq_true rfl)) dX6_empty_7 ⟨Nat.le_of_ble_eq_true rfl, Nat.le_of_ble_eq_true rfl⟩) hS (fun H locs hw hS ho2b => ?_)
  refine lv_if_ne (tgt := 15) hx hb dX6_empty_10 (by decide) (fun c3 => ?_) (fun c3 => ?_)
  · have hf := iq c3 hf
    refine lv_aload_n hx hb dX6_empty_15 rfl (lv_at hl 0 rfl) ?_
    refine rGet hx hb hts iX6_empty_X6 hown hK hw (Nat.le_of_ble_eq_true rfl) en_model rfl 35 (by decide) (hts _ kX6_empty_0) rfl rfl dX6_empty_16 ?_
    refine lv_iload_n hx hb dX6_empty_19 rfl (lv_at hl 1 rfl) ?_
    obtain ⟨hg4, hf⟩ := og hf
    refine rIald hx hb hK hw (Nat.le_of_ble_eq_true rfl) en_a99 hg4 dX6_empty_20 ?_
    refine lv_istore_n (lv' := [(2, .int (gi o2.2 99 x1.toNatClampNeg)), (0, .ref (a + 77)), (1, .int x1)]) hx hb dX6_empty_21 rfl hl (Nat.le_of_ble_eq_true rfl) rfl (fun ls hl => ?_)
    refine lv_aload_n hx hb dX6_empty_22 rfl (lv_at hl 1 rfl) ?_
    refine rGet hx hb hts iX6_empty_X6 hown hK hw (Nat.le_of_ble_eq_true rfl) en_model rfl 35 (by decide) (hts _ kX6_empty_0) rfl rfl dX6_empty_23 ?_
    refine lv_iload_n hx hb dX6_empty_26 rfl (lv_at hl 2 rfl) ?_
    refine lv_iconst (v := (0 : Int32)) hx hb dX6_empty_27 (by decide) ?_
    obtain ⟨hg5, hf⟩ := og hf
    refine rIast hx hb hK hw hS (Nat.le_of_ble_eq_true rfl) (fun _ => en_a99) hg5 dX6_empty_28 (fun H locs hw hS => ?_)
    refine lv_aload_n hx hb dX6_empty_29 rfl (lv_at hl 1 rfl) ?_
    refine rGet hx hb hts iX6_empty_X6 hown hK hw (Nat.le_of_ble_eq_true rfl) en_model rfl 37 (by decide) (hts _ kX6_empty_1) rfl rfl dX6_empty_30 ?_
    refine lv_iload_n hx hb dX6_empty_33 rfl (lv_at hl 2 rfl) ?_
    refine lv_iconst (v := (0 : Int32)) hx hb dX6_empty_34 (by decide) ?_
    obtain ⟨hg6, hf⟩ := og hf
    refine rIast hx hb hK hw hS (Nat.le_of_ble_eq_true rfl) (fun _ => en_a101) hg6 dX6_empty_35 (fun H locs hw hS => ?_)
    refine lv_aload_n hx hb dX6_empty_36 rfl (lv_at hl 1 rfl) ?_
    refine rGet hx hb hts iX6_empty_X6 hown hK hw (Nat.le_of_ble_eq_true rfl) en_model rfl 36 (by decide) (hts _ kX6_empty_2) rfl rfl dX6_empty_37 ?_
    refine lv_iload_n hx hb dX6_empty_40 rfl (lv_at hl 2 rfl) ?_
    refine lv_iconst (v := (0 : Int32)) hx hb dX6_empty_41 (by decide) ?_
    obtain ⟨hg7, hf⟩ := og hf
    refine rIast hx hb hK hw hS (Nat.le_of_ble_eq_true rfl) (fun _ => en_a100) hg7 dX6_empty_42 (fun H locs hw hS => ?_)
    refine lv_iload_n hx hb dX6_empty_43 rfl (lv_at hl 0 rfl) ?_
    obtain rfl := Option.some.inj hf
    exact rIret hx hb hr hlocks hw hS dX6_empty_44
  · have hf := ip c3 hf
    refine lv_iconst (v := (0 : Int32)) hx hb dX6_empty_13 (by decide) ?_
    obtain rfl := Option.some.inj hf
    exact rIret hx hb hr hlocks hw hS dX6_empty_14
set_option maxRecDepth 100000 in
set_option maxHeartbeats 4000000 in
theorem ctX6_empty {l : Launch} {D : va_G} {cy : Nat → ClassId} {a : Nat} {x1 : Int32} {M : Mm} {out : Int32 × Mm} (hf : fX6_empty x1 M = some out) : Met l yX6_empty wsX6_empty rX6_empty (Pre D cy a M [.ref (a + 77), .int x1]) (QI D cy a out.1 out.2) 0 0 (Aq a) := by
  refine Met.ofW (cc := cX6_empty) (maxL := 3) (ret := (some .int)) (by decide +kernel) rfl ?_
  intro p e s m args below meth c s₁ B hml hv
  obtain ⟨rfl, hw, hK, hZ⟩ := hv
  have hS : va_S (Aq a) s.heap s.heap [] := va_S.rf
  have hl := lv_entry ([.ref (a + 77), .int x1]) (n := 3) (Nat.le_of_ble_eq_true rfl)
  rw [lg_entry_eq]
  generalize (lg_sl ([.ref (a + 77), .int x1]) ++ List.replicate (3 - (lg_sl ([.ref (a + 77), .int x1])).length) Slot.unset).toArray = ls at hl ⊢
  exact bX6_empty_0 B.exec B.bytes B.returns hml (findClass_of_methodNamed B.named) (atoms_spec (ws := wsX6_empty) B.pre) B.notSynchronized hK hZ _ _ _ _ _ hw hS hl hf
def rX6_launch : Room := { frames := 1, cells := 0, slots := 0, locals := 23 }
noncomputable def fX6_launch_b20 (xs1 : Int32) (M : Mm) : Option (Mm) := ((fX6_goes xs1 (1 : Int32) (1 : Int32) M).bind fun o1 => (if o1.1 = 0 then some (o1.2) else (if ¬ (((gi (si o1.2 77 39 (1 : Int32)) 77 7) - (1 : Int32)) < 0 ∨ 360 ≤ ((gi (si o1.2 77 39 (1 : Int32)) 77 7) - (1 : Int32)).toNatClampNeg) then (if ¬ (((gi (si (si o1.2 77 39 (1 : Int32)) 77 40 (gi (si o1.2 77 39 (1 : Int32)) 97 ((gi (si o1.2 77 39 (1 : Int32)) 77 7) - (1 : Int32)).toNatClampNeg)) 77 7) - (1 : Int32)) < 0 ∨ 360 ≤ ((gi (si (si o1.2 77 39 (1 : Int32)) 77 40 (gi (si o1.2 77 39 (1 : Int32)) 97 ((gi (si o1.2 77 39 (1 : Int32)) 77 7) - (1 : Int32)).toNatClampNeg)) 77 7) - (1 : Int32)).toNatClampNeg) then some (si (si (si o1.2 77 39 (1 : Int32)) 77 40 (gi (si o1.2 77 39 (1 : Int32)) 97 ((gi (si o1.2 77 39 (1 : Int32)) 77 7) - (1 : Int32)).toNatClampNeg)) 77 41 (gi (si (si o1.2 77 39 (1 : Int32)) 77 40 (gi (si o1.2 77 39 (1 : Int32)) 97 ((gi (si o1.2 77 39 (1 : Int32)) 77 7) - (1 : Int32)).toNatClampNeg)) 98 ((gi (si (si o1.2 77 39 (1 : Int32)) 77 40 (gi (si o1.2 77 39 (1 : Int32)) 97 ((gi (si o1.2 77 39 (1 : Int32)) 77 7) - (1 : Int32)).toNatClampNeg)) 77 7) - (1 : Int32)).toNatClampNeg)) else none) else none)))
noncomputable def fX6_launch_b19 (M : Mm) : Option (Mm) := fX6_launch_b20 (0 : Int32) M
noncomputable def fX6_launch (M : Mm) : Option (Mm) := (if (gi M 77 6) = 0 then fX6_launch_b19 M else (if (gi M 77 39) = 0 then fX6_launch_b20 (1 : Int32) M else fX6_launch_b19 M))
set_option maxRecDepth 20000 in
theorem iX6_launch_X6 : ∀ w ∈ wsX60, w ∈ wsX6_launch := by decide +kernel
set_option maxRecDepth 20000 in
theorem kX6_launch_0 : Cond.fieldLink RX6 147 "BatchPipeModel" "isPig" "Z" ∈ wsX6_launch := by decide +kernel
set_option maxRecDepth 20000 in
theorem kX6_launch_1 : Cond.fieldLink RX6 71 "BatchPipeModel" "unitBatch" "[I" ∈ wsX6_launch := by decide +kernel
set_option maxRecDepth 20000 in
theorem kX6_launch_2 : Cond.fieldLink RX6 117 "BatchPipeModel" "length" "I" ∈ wsX6_launch := by decide +kernel
set_option maxRecDepth 20000 in
theorem kX6_launch_3 : Cond.fieldLink RX6 150 "BatchPipeModel" "pigBatch" "I" ∈ wsX6_launch := by decide +kernel
set_option maxRecDepth 20000 in
theorem kX6_launch_4 : Cond.fieldLink RX6 74 "BatchPipeModel" "unitPlace" "[I" ∈ wsX6_launch := by decide +kernel
set_option maxRecDepth 20000 in
theorem kX6_launch_5 : Cond.fieldLink RX6 153 "BatchPipeModel" "pigPlace" "I" ∈ wsX6_launch := by decide +kernel
set_option maxRecDepth 20000 in
theorem kX6_launch_6 : Cond.fieldLink RX6 105 "BatchPipeModel" "isOpen" "Z" ∈ wsX6_launch := by decide +kernel
set_option maxRecDepth 100000 in
set_option maxHeartbeats 4000000 in
theorem bX6_launch_20 {p : Program} {l : Launch} {e : Env} {s : State} {m : MethodId} {args : Array Value} {below : List Frame} {meth : Method} {c : Code} {D : va_G} {cy : Nat → ClassId} {a : Nat} (hx : p.tables.exec = Jvm.exec) (hb : c.code = cX6_launch) (hr : meth.sig.returnType = none) (hml : c.maxLocals = 1) (hown : s.vm.findClass RX6 = some m.cls) (hts : ∀ w ∈ wsX6_launch, w.before args s = true) (hlocks : meth.locks = false) (hK : KS D cy s) (hZ : ZZ a s s.heap) {out : Mm} : ∀ (xs1 : Int32) (M : Mm) (H : Heap) (locs : List Loc) (ls : Array Slot), HP D cy a M H → va_S (Aq a) s.heap H locs → lv_has ls 1 [(0, .ref (a + 77))] → narrow .boolean (.int xs1) = .int xs1 → fX6_launch_b20 xs1 M = some out → W p l e rX6_launch s m args below meth c H locs 0 0 (MQ below (QV D cy a out) args s 0 0 (Aq a)) (F0 m 20 ls [.int xs1, .ref (a + 77)]) := by
  intro xs1 M H locs ls hw hS hl hbs1 hf
  unfold fX6_launch_b20 at hf
  refine lv_iconst (v := (1 : Int32)) hx hb dX6_launch_20 (by decide) ?_
  refine lv_iconst (v := (1 : Int32)) hx hb dX6_launch_21 (by decide) ?_
  obtain ⟨o1, ho1, hf⟩ := ob hf
  refine rCallB (va_runV (As := [.int xs1, .int (1 : Int32), .int (1 : Int32)]) (rest := []) ⟨hx, hb, hml, hown, hts⟩ (ctX6_goes (l := l) (D := D) (cy := cy) (a := a) ho1) (cwV 3 hts gX6_launch_X6_goes rfl rfl rfl (by decide +kernel) ⟨Nat.le_of_ble_eq_true rfl, Nat.le_of_ble_eq_true rfl⟩) (pV hK hZ hw hS (rRecv hK hw (Nat.le_of_ble_eq_true rfl) en_model rfl)) rfl rfl hl.1 rfl (lv_room (Nat.le_of_ble_eq_true rfl)) dX6_launch_22 ⟨Nat.le_of_ble_eq_true rfl, Nat.le_of_ble_eq_true rfl⟩) hS (fun H locs hw hS ho1b => ?_)
  refine lv_if_ne (tgt := 29) hx hb dX6_launch_25 (by decide) (fun c2 => ?_) (fun c2 => ?_)
  · have hf := iq c2 hf
    refine lv_aload_n hx hb dX6_launch_29 rfl (lv_at hl 0 rfl) ?_
    refine lv_iconst (v := (1 : Int32)) hx hb dX6_launch_30 (by decide) ?_
    refine rPut hx hb hts iX6_launch_X6 tyX6 tyX6_ok nmX6 hown hK hw hS (Nat.le_of_ble_eq_true rfl) en_model rfl 39 (by decide) (hts _ kX6_launch_0) rfl rfl rfl (bfit rfl) (Nat.le_of_ble_eq_true rfl) hs6_39 dX6_launch_31 (fun H locs hw hS => ?_)
    refine lv_aload_n hx hb dX6_launch_34 rfl (lv_at hl 0 rfl) ?_
    refine lv_aload_n hx hb dX6_launch_35 rfl (lv_at hl 0 rfl) ?_
    refine rGet hx hb hts iX6_launch_X6 hown hK hw (Nat.le_of_ble_eq_true rfl) en_model rfl 25 (by decide) (hts _ kX6_launch_1) rfl rfl dX6_launch_36 ?_
    refine lv_aload_n hx hb dX6_launch_39 rfl (lv_at hl 0 rfl) ?_
    refine rGetI hx hb hts iX6_launch_X6 hown hK hw (Nat.le_of_ble_eq_true rfl) en_model rfl 7 (by decide) (hts _ kX6_launch_2) rfl ge6_7 dX6_launch_40 ?_
    refine lv_iconst (v := (1 : Int32)) hx hb dX6_launch_43 (by decide) ?_
    refine lv_isub hx hb dX6_launch_44 ?_
    obtain ⟨hg3, hf⟩ := og hf
    refine rIald hx hb hK hw (Nat.le_of_ble_eq_true rfl) en_a97 hg3 dX6_launch_45 ?_
    refine rPut hx hb hts iX6_launch_X6 tyX6 tyX6_ok nmX6 hown hK hw hS (Nat.le_of_ble_eq_true rfl) en_model rfl 40 (by decide) (hts _ kX6_launch_3) rfl rfl rfl rfl (Nat.le_of_ble_eq_true rfl) hs6_40 dX6_launch_46 (fun H locs hw hS => ?_)
    refine lv_aload_n hx hb dX6_launch_49 rfl (lv_at hl 0 rfl) ?_
    refine lv_aload_n hx hb dX6_launch_50 rfl (lv_at hl 0 rfl) ?_
    refine rGet hx hb hts iX6_launch_X6 hown hK hw (Nat.le_of_ble_eq_true rfl) en_model rfl 26 (by decide) (hts _ kX6_launch_4) rfl rfl dX6_launch_51 ?_
    refine lv_aload_n hx hb dX6_launch_54 rfl (lv_at hl 0 rfl) ?_
    refine rGetI hx hb hts iX6_launch_X6 hown hK hw (Nat.le_of_ble_eq_true rfl) en_model rfl 7 (by decide) (hts _ kX6_launch_2) rfl ge6_7 dX6_launch_55 ?_
    refine lv_iconst (v := (1 : Int32)) hx hb dX6_launch_58 (by decide) ?_
    refine lv_isub hx hb dX6_launch_59 ?_
    obtain ⟨hg4, hf⟩ := og hf
    refine rIald hx hb hK hw (Nat.le_of_ble_eq_true rfl) en_a98 hg4 dX6_launch_60 ?_
    refine rPut hx hb hts iX6_launch_X6 tyX6 tyX6_ok nmX6 hown hK hw hS (Nat.le_of_ble_eq_true rfl) en_model rfl 41 (by decide) (hts _ kX6_launch_5) rfl rfl rfl rfl (Nat.le_of_ble_eq_true rfl) hs6_41 dX6_launch_61 (fun H locs hw hS => ?_)
    obtain rfl := Option.some.inj hf
    exact rVret hx hb hr hlocks hw hS dX6_launch_64
  · have hf := ip c2 hf
    obtain rfl := Option.some.inj hf
    exact rVret hx hb hr hlocks hw hS dX6_launch_28
set_option maxRecDepth 100000 in
set_option maxHeartbeats 4000000 in
theorem bX6_launch_19 {p : Program} {l : Launch} {e : Env} {s : State} {m : MethodId} {args : Array Value} {below : List Frame} {meth : Method} {c : Code} {D : va_G} {cy : Nat → ClassId} {a : Nat} (hx : p.tables.exec = Jvm.exec) (hb : c.code = cX6_launch) (hr : meth.sig.returnType = none) (hml : c.maxLocals = 1) (hown : s.vm.findClass RX6 = some m.cls) (hts : ∀ w ∈ wsX6_launch, w.before args s = true) (hlocks : meth.locks = false) (hK : KS D cy s) (hZ : ZZ a s s.heap) {out : Mm} : ∀ (M : Mm) (H : Heap) (locs : List Loc) (ls : Array Slot), HP D cy a M H → va_S (Aq a) s.heap H locs → lv_has ls 1 [(0, .ref (a + 77))] → fX6_launch_b19  M = some out → W p l e rX6_launch s m args below meth c H locs 0 0 (MQ below (QV D cy a out) args s 0 0 (Aq a)) (F0 m 19 ls [.ref (a + 77)]) := by
  intro M H locs ls hw hS hl hf
  unfold fX6_launch_b19 at hf
  refine lv_iconst (v := (0 : Int32)) hx hb dX6_launch_19 (by decide) ?_
  exact bX6_launch_20 hx hb hr hml hown hts hlocks hK hZ _ _ _ _ _ hw hS (lv_sub hl [0] rfl) rfl hf
set_option maxRecDepth 100000 in
set_option maxHeartbeats 4000000 in
theorem bX6_launch_0 {p : Program} {l : Launch} {e : Env} {s : State} {m : MethodId} {args : Array Value} {below : List Frame} {meth : Method} {c : Code} {D : va_G} {cy : Nat → ClassId} {a : Nat} (hx : p.tables.exec = Jvm.exec) (hb : c.code = cX6_launch) (hr : meth.sig.returnType = none) (hml : c.maxLocals = 1) (hown : s.vm.findClass RX6 = some m.cls) (hts : ∀ w ∈ wsX6_launch, w.before args s = true) (hlocks : meth.locks = false) (hK : KS D cy s) (hZ : ZZ a s s.heap) {out : Mm} : ∀ (M : Mm) (H : Heap) (locs : List Loc) (ls : Array Slot), HP D cy a M H → va_S (Aq a) s.heap H locs → lv_has ls 1 [(0, .ref (a + 77))] → fX6_launch  M = some out → W p l e rX6_launch s m args below meth c H locs 0 0 (MQ below (QV D cy a out) args s 0 0 (Aq a)) (F0 m 0 ls []) := by
  intro M H locs ls hw hS hl hf
  unfold fX6_launch at hf
  refine lv_aload_n hx hb dX6_launch_0 rfl (lv_at hl 0 rfl) ?_
  refine lv_aload_n hx hb dX6_launch_1 rfl (lv_at hl 0 rfl) ?_
  refine rGetI hx hb hts iX6_launch_X6 hown hK hw (Nat.le_of_ble_eq_true rfl) en_model rfl 6 (by decide) (hts _ kX6_launch_6) rfl ge6_6 dX6_launch_2 ?_
  refine lv_if_eq (tgt := 19) hx hb dX6_launch_5 (by decide) (fun c1 => ?_) (fun c1 => ?_)
  · have hf := ip c1 hf
    exact bX6_launch_19 hx hb hr hml hown hts hlocks hK hZ _ _ _ _ hw hS (lv_sub hl [0] rfl) hf
  · have hf := iq c1 hf
    refine lv_aload_n hx hb dX6_launch_8 rfl (lv_at hl 0 rfl) ?_
    refine rGetI hx hb hts iX6_launch_X6 hown hK hw (Nat.le_of_ble_eq_true rfl) en_model rfl 39 (by decide) (hts _ kX6_launch_0) rfl ge6_39 dX6_launch_9 ?_
    refine lv_if_ne (tgt := 19) hx hb dX6_launch_12 (by decide) (fun c2 => ?_) (fun c2 => ?_)
    · have hf := iq c2 hf
      exact bX6_launch_19 hx hb hr hml hown hts hlocks hK hZ _ _ _ _ hw hS (lv_sub hl [0] rfl) hf
    · have hf := ip c2 hf
      refine lv_iconst (v := (1 : Int32)) hx hb dX6_launch_15 (by decide) ?_
      refine lv_goto (tgt := 20) hx hb dX6_launch_16 (by decide) ?_
      exact bX6_launch_20 hx hb hr hml hown hts hlocks hK hZ _ _ _ _ _ hw hS (lv_sub hl [0] rfl) rfl hf
set_option maxRecDepth 100000 in
set_option maxHeartbeats 4000000 in
theorem ctX6_launch {l : Launch} {D : va_G} {cy : Nat → ClassId} {a : Nat} {M : Mm} {out : Mm} (hf : fX6_launch  M = some out) : Met l yX6_launch wsX6_launch rX6_launch (Pre D cy a M [.ref (a + 77)]) (QV D cy a out) 0 0 (Aq a) := by
  refine Met.ofW (cc := cX6_launch) (maxL := 1) (ret := none) (by decide +kernel) rfl ?_
  intro p e s m args below meth c s₁ B hml hv
  obtain ⟨rfl, hw, hK, hZ⟩ := hv
  have hS : va_S (Aq a) s.heap s.heap [] := va_S.rf
  have hl := lv_entry ([.ref (a + 77)]) (n := 1) (Nat.le_of_ble_eq_true rfl)
  rw [lg_entry_eq]
  generalize (lg_sl ([.ref (a + 77)]) ++ List.replicate (1 - (lg_sl ([.ref (a + 77)])).length) Slot.unset).toArray = ls at hl ⊢
  exact bX6_launch_0 B.exec B.bytes B.returns hml (findClass_of_methodNamed B.named) (atoms_spec (ws := wsX6_launch) B.pre) B.notSynchronized hK hZ _ _ _ _ hw hS hl hf
def rX6_lastOf : Room := { frames := 0, cells := 0, slots := 0, locals := 0 }
noncomputable def fX6_lastOf_L6 : Nat → Int32 → Int32 → Mm → Option (Int32)
  | 0 => fun _ _ _ => none
  | n + 1 => fun x2 x3 M => (if (gi M 77 1) ≤ x3 then some (x2) else (if ¬ (x3 < 0 ∨ 6 ≤ x3.toNatClampNeg) then (fX6_lastOf_L6 n) (x2 + (gi M 78 x3.toNatClampNeg)) (x3 + (1 : Int32)) M else none))
noncomputable def fX6_lastOf (x1 : Int32) (M : Mm) : Option (Int32) := fX6_lastOf_L6 400 (0 : Int32) (x1 + (1 : Int32)) M
set_option maxRecDepth 20000 in
theorem iX6_lastOf_X6 : ∀ w ∈ wsX60, w ∈ wsX6_lastOf := by decide +kernel
set_option maxRecDepth 20000 in
theorem kX6_lastOf_0 : Cond.fieldLink RX6 102 "BatchPipeModel" "segments" "I" ∈ wsX6_lastOf := by decide +kernel
set_option maxRecDepth 20000 in
theorem kX6_lastOf_1 : Cond.fieldLink RX6 7 "BatchPipeModel" "holds" "[I" ∈ wsX6_lastOf := by decide +kernel
set_option maxRecDepth 100000 in
set_option maxHeartbeats 4000000 in
theorem bX6_lastOf_6 {p : Program} {l : Launch} {e : Env} {s : State} {m : MethodId} {args : Array Value} {below : List Frame} {meth : Method} {c : Code} {D : va_G} {cy : Nat → ClassId} {a : Nat} (hx : p.tables.exec = Jvm.exec) (hb : c.code = cX6_lastOf) (hr : meth.sig.returnType = (some .int)) (hml : c.maxLocals = 4) (hown : s.vm.findClass RX6 = some m.cls) (hts : ∀ w ∈ wsX6_lastOf, w.before args s = true) (hlocks : meth.locks = false) (hK : KS D cy s) (hZ : ZZ a s s.heap) {out : Int32} : ∀ (n : Nat), ∀ (x2 : Int32) (x3 : Int32) (M : Mm) (H : Heap) (locs : List Loc) (ls : Array Slot), HP D cy a M H → va_S (Aq a) s.heap H locs → lv_has ls 4 [(0, .ref (a + 77)), (2, .int x2), (3, .int x3)] → fX6_lastOf_L6 n x2 x3 M = some out → W p l e rX6_lastOf s m args below meth c H locs 0 0 (MQ below (QI D cy a out M) args s 0 0 (Aq a)) (F0 m 6 ls []) := by
  intro n
  induction n with
  | zero =>
    intro x2 x3 M H locs ls hw hS hl hf
    have hf : (none : Option (Int32)) = some out := hf
    cases hf
  | succ n ih =>
    intro x2 x3 M H locs ls hw hS hl hf
    unfold fX6_lastOf_L6 at hf
    refine lv_iload_n hx hb dX6_lastOf_6 rfl (lv_at hl 2 rfl) ?_
    refine lv_aload_n hx hb dX6_lastOf_7 rfl (lv_at hl 0 rfl) ?_
    refine rGetI hx hb hts iX6_lastOf_X6 hown hK hw (Nat.le_of_ble_eq_true rfl) en_model rfl 1 (by decide) (hts _ kX6_lastOf_0) rfl ge6_1 dX6_lastOf_8 ?_
    refine lv_icmp_ge (tgt := 29) hx hb dX6_lastOf_11 (by decide) (fun c1 => ?_) (fun c1 => ?_)
    · have hf := ip c1 hf
      refine lv_iload_n hx hb dX6_lastOf_29 rfl (lv_at hl 1 rfl) ?_
      obtain rfl := Option.some.inj hf
      exact rIret hx hb hr hlocks hw hS dX6_lastOf_30
    · have hf := iq c1 hf
      refine lv_iload_n hx hb dX6_lastOf_14 rfl (lv_at hl 1 rfl) ?_
      refine lv_aload_n hx hb dX6_lastOf_15 rfl (lv_at hl 0 rfl) ?_
      refine rGet hx hb hts iX6_lastOf_X6 hown hK hw (Nat.le_of_ble_eq_true rfl) en_model rfl 2 (by decide) (hts _ kX6_lastOf_1) rfl rfl dX6_lastOf_16 ?_
      refine lv_iload_n hx hb dX6_lastOf_19 rfl (lv_at hl 2 rfl) ?_
      obtain ⟨hg2, hf⟩ := og hf
      refine rIald hx hb hK hw (Nat.le_of_ble_eq_true rfl) en_a78 hg2 dX6_lastOf_20 ?_
      refine lv_iadd hx hb dX6_lastOf_21 ?_
      refine lv_istore_n (lv' := [(2, .int (x2 + (gi M 78 x3.toNatClampNeg))), (0, .ref (a + 77)), (3, .int x3)]) hx hb dX6_lastOf_22 rfl hl (Nat.le_of_ble_eq_true rfl) rfl (fun ls hl => ?_)
      refine lv_iinc (v := x3 + (1 : Int32)) (lv' := [(3, .int (x3 + (1 : Int32))), (2, .int (x2 + (gi M 78 x3.toNatClampNeg))), (0, .ref (a + 77))]) hx hb dX6_lastOf_23 hl (k := 2) rfl rfl (Nat.le_of_ble_eq_true rfl) rfl (fun ls hl => ?_)
      refine lv_goto (tgt := 6) hx hb dX6_lastOf_26 (by decide) ?_
      exact ih _ _ _ _ _ _ hw hS (lv_sub hl [2, 1, 0] rfl) hf
set_option maxRecDepth 100000 in
set_option maxHeartbeats 4000000 in
theorem bX6_lastOf_0 {p : Program} {l : Launch} {e : Env} {s : State} {m : MethodId} {args : Array Value} {below : List Frame} {meth : Method} {c : Code} {D : va_G} {cy : Nat → ClassId} {a : Nat} (hx : p.tables.exec = Jvm.exec) (hb : c.code = cX6_lastOf) (hr : meth.sig.returnType = (some .int)) (hml : c.maxLocals = 4) (hown : s.vm.findClass RX6 = some m.cls) (hts : ∀ w ∈ wsX6_lastOf, w.before args s = true) (hlocks : meth.locks = false) (hK : KS D cy s) (hZ : ZZ a s s.heap) {out : Int32} : ∀ (x1 : Int32) (M : Mm) (H : Heap) (locs : List Loc) (ls : Array Slot), HP D cy a M H → va_S (Aq a) s.heap H locs → lv_has ls 4 [(0, .ref (a + 77)), (1, .int x1)] → fX6_lastOf x1 M = some out → W p l e rX6_lastOf s m args below meth c H locs 0 0 (MQ below (QI D cy a out M) args s 0 0 (Aq a)) (F0 m 0 ls []) := by
  intro x1 M H locs ls hw hS hl hf
  unfold fX6_lastOf at hf
  refine lv_iconst (v := (0 : Int32)) hx hb dX6_lastOf_0 (by decide) ?_
  refine lv_istore_n (lv' := [(2, .int (0 : Int32)), (0, .ref (a + 77)), (1, .int x1)]) hx hb dX6_lastOf_1 rfl hl (Nat.le_of_ble_eq_true rfl) rfl (fun ls hl => ?_)
  refine lv_iload_n hx hb dX6_lastOf_2 rfl (lv_at hl 2 rfl) ?_
  refine lv_iconst (v := (1 : Int32)) hx hb dX6_lastOf_3 (by decide) ?_
  refine lv_iadd hx hb dX6_lastOf_4 ?_
  refine lv_istore_n (lv' := [(3, .int (x1 + (1 : Int32))), (2, .int (0 : Int32)), (0, .ref (a + 77)), (1, .int x1)]) hx hb dX6_lastOf_5 rfl hl (Nat.le_of_ble_eq_true rfl) rfl (fun ls hl => ?_)
  exact bX6_lastOf_6 hx hb hr hml hown hts hlocks hK hZ 400 _ _ _ _ _ _ hw hS (lv_sub hl [2, 1, 0] rfl) hf
set_option maxRecDepth 100000 in
set_option maxHeartbeats 4000000 in
theorem ctX6_lastOf {l : Launch} {D : va_G} {cy : Nat → ClassId} {a : Nat} {x1 : Int32} {M : Mm} {out : Int32} (hf : fX6_lastOf x1 M = some out) : Met l yX6_lastOf wsX6_lastOf rX6_lastOf (Pre D cy a M [.ref (a + 77), .int x1]) (QI D cy a out M) 0 0 (Aq a) := by
  refine Met.ofW (cc := cX6_lastOf) (maxL := 4) (ret := (some .int)) (by decide +kernel) rfl ?_
  intro p e s m args below meth c s₁ B hml hv
  obtain ⟨rfl, hw, hK, hZ⟩ := hv
  have hS : va_S (Aq a) s.heap s.heap [] := va_S.rf
  have hl := lv_entry ([.ref (a + 77), .int x1]) (n := 4) (Nat.le_of_ble_eq_true rfl)
  rw [lg_entry_eq]
  generalize (lg_sl ([.ref (a + 77), .int x1]) ++ List.replicate (4 - (lg_sl ([.ref (a + 77), .int x1])).length) Slot.unset).toArray = ls at hl ⊢
  exact bX6_lastOf_0 B.exec B.bytes B.returns hml (findClass_of_methodNamed B.named) (atoms_spec (ws := wsX6_lastOf) B.pre) B.notSynchronized hK hZ _ _ _ _ _ hw hS hl hf
