def rX6_moves : Room := { frames := 5, cells := 0, slots := 0, locals := 114 }
noncomputable def fX6_moves_L68 : Nat → Int32 → Int32 → Mm → Option (Mm)
  | 0 => fun _ _ _ => none
  | n + 1 => fun x1 x4 M => (if ((gi M 77 7) - (1 : Int32)) ≤ x4 then (if ¬ (((gi M 77 7) - (1 : Int32)) < 0 ∨ 360 ≤ ((gi M 77 7) - (1 : Int32)).toNatClampNeg) then (if ¬ (x1 < 0 ∨ 40 ≤ x1.toNatClampNeg) then (if ¬ (((gi (si M 97 ((gi M 77 7) - (1 : Int32)).toNatClampNeg x1) 77 7) - (1 : Int32)) < 0 ∨ 360 ≤ ((gi (si M 97 ((gi M 77 7) - (1 : Int32)).toNatClampNeg x1) 77 7) - (1 : Int32)).toNatClampNeg) then (if ¬ (x1 < 0 ∨ 40 ≤ x1.toNatClampNeg) then (if ¬ (x1 < 0 ∨ 40 ≤ x1.toNatClampNeg) then some (si (si (si (si M 97 ((gi M 77 7) - (1 : Int32)).toNatClampNeg x1) 98 ((gi (si M 97 ((gi M 77 7) - (1 : Int32)).toNatClampNeg x1) 77 7) - (1 : Int32)).toNatClampNeg (gi (si M 97 ((gi M 77 7) - (1 : Int32)).toNatClampNeg x1) 89 x1.toNatClampNeg)) 89 x1.toNatClampNeg ((gi (si (si M 97 ((gi M 77 7) - (1 : Int32)).toNatClampNeg x1) 98 ((gi (si M 97 ((gi M 77 7) - (1 : Int32)).toNatClampNeg x1) 77 7) - (1 : Int32)).toNatClampNeg (gi (si M 97 ((gi M 77 7) - (1 : Int32)).toNatClampNeg x1) 89 x1.toNatClampNeg)) 89 x1.toNatClampNeg) + (1 : Int32))) 77 24 ((gi (si (si (si M 97 ((gi M 77 7) - (1 : Int32)).toNatClampNeg x1) 98 ((gi (si M 97 ((gi M 77 7) - (1 : Int32)).toNatClampNeg x1) 77 7) - (1 : Int32)).toNatClampNeg (gi (si M 97 ((gi M 77 7) - (1 : Int32)).toNatClampNeg x1) 89 x1.toNatClampNeg)) 89 x1.toNatClampNeg ((gi (si (si M 97 ((gi M 77 7) - (1 : Int32)).toNatClampNeg x1) 98 ((gi (si M 97 ((gi M 77 7) - (1 : Int32)).toNatClampNeg x1) 77 7) - (1 : Int32)).toNatClampNeg (gi (si M 97 ((gi M 77 7) - (1 : Int32)).toNatClampNeg x1) 89 x1.toNatClampNeg)) 89 x1.toNatClampNeg) + (1 : Int32))) 77 24) + (1 : Int32))) else none) else none) else none) else none) else none) else (if ¬ ((x4 + (1 : Int32)) < 0 ∨ 360 ≤ (x4 + (1 : Int32)).toNatClampNeg) then (if ¬ (x4 < 0 ∨ 360 ≤ x4.toNatClampNeg) then (if ¬ ((x4 + (1 : Int32)) < 0 ∨ 360 ≤ (x4 + (1 : Int32)).toNatClampNeg) then (if ¬ (x4 < 0 ∨ 360 ≤ x4.toNatClampNeg) then (fX6_moves_L68 n) x1 (x4 + (1 : Int32)) (si (si M 97 x4.toNatClampNeg (gi M 97 (x4 + (1 : Int32)).toNatClampNeg)) 98 x4.toNatClampNeg (gi (si M 97 x4.toNatClampNeg (gi M 97 (x4 + (1 : Int32)).toNatClampNeg)) 98 (x4 + (1 : Int32)).toNatClampNeg)) else none) else none) else none) else none))
noncomputable def fX6_moves (x1 : Int32) (x2 : Int32) (x3 : Int32) (M : Mm) : Option (Mm) := (if ¬ (x2 < 0 ∨ 360 ≤ x2.toNatClampNeg) then (if ¬ (x2 < 0 ∨ 360 ≤ x2.toNatClampNeg) then ((fX6_goesAway (gi M 97 x2.toNatClampNeg) (gi M 98 x2.toNatClampNeg) x3 M).bind fun o3 => (if ¬ (x1 < 0 ∨ 40 ≤ x1.toNatClampNeg) then (if (gi o3 89 x1.toNatClampNeg) = 0 then (if ¬ (((gi o3 77 7) - (1 : Int32)) < 0 ∨ 360 ≤ ((gi o3 77 7) - (1 : Int32)).toNatClampNeg) then (if ¬ (x1 < 0 ∨ 40 ≤ x1.toNatClampNeg) then (if ¬ ((gi o3 97 ((gi o3 77 7) - (1 : Int32)).toNatClampNeg) < 0 ∨ 40 ≤ (gi o3 97 ((gi o3 77 7) - (1 : Int32)).toNatClampNeg).toNatClampNeg) then (if ¬ (x1 < 0 ∨ 40 ≤ x1.toNatClampNeg) then fX6_moves_L68 400 x1 x2 (si (si (si o3 93 x1.toNatClampNeg (gi o3 97 ((gi o3 77 7) - (1 : Int32)).toNatClampNeg)) 94 (gi o3 97 ((gi o3 77 7) - (1 : Int32)).toNatClampNeg).toNatClampNeg x1) 95 x1.toNatClampNeg (gi (si (si o3 93 x1.toNatClampNeg (gi o3 97 ((gi o3 77 7) - (1 : Int32)).toNatClampNeg)) 94 (gi o3 97 ((gi o3 77 7) - (1 : Int32)).toNatClampNeg).toNatClampNeg x1) 77 24)) else none) else none) else none) else none) else fX6_moves_L68 400 x1 x2 o3) else none)) else none) else none)
set_option maxRecDepth 20000 in
theorem iX6_moves_X6 : ∀ w ∈ wsX60, w ∈ wsX6_moves := by decide +kernel
set_option maxRecDepth 20000 in
theorem kX6_moves_0 : Cond.fieldLink RX6 117 "BatchPipeModel" "length" "I" ∈ wsX6_moves := by decide +kernel
set_option maxRecDepth 20000 in
theorem kX6_moves_1 : Cond.fieldLink RX6 71 "BatchPipeModel" "unitBatch" "[I" ∈ wsX6_moves := by decide +kernel
set_option maxRecDepth 20000 in
theorem kX6_moves_2 : Cond.fieldLink RX6 74 "BatchPipeModel" "unitPlace" "[I" ∈ wsX6_moves := by decide +kernel
set_option maxRecDepth 20000 in
theorem kX6_moves_3 : Cond.fieldLink RX6 47 "BatchPipeModel" "entered" "[I" ∈ wsX6_moves := by decide +kernel
set_option maxRecDepth 20000 in
theorem kX6_moves_4 : Cond.fieldLink RX6 120 "BatchPipeModel" "all" "I" ∈ wsX6_moves := by decide +kernel
set_option maxRecDepth 20000 in
theorem kX6_moves_5 : Cond.fieldLink RX6 59 "BatchPipeModel" "ahead" "[I" ∈ wsX6_moves := by decide +kernel
set_option maxRecDepth 20000 in
theorem kX6_moves_6 : Cond.fieldLink RX6 62 "BatchPipeModel" "behind" "[I" ∈ wsX6_moves := by decide +kernel
set_option maxRecDepth 20000 in
theorem kX6_moves_7 : Cond.fieldLink RX6 65 "BatchPipeModel" "enteredAhead" "[I" ∈ wsX6_moves := by decide +kernel
set_option maxRecDepth 100000 in
set_option maxHeartbeats 4000000 in
theorem bX6_moves_68 {p : Program} {l : Launch} {e : Env} {s : State} {m : MethodId} {args : Array Value} {below : List Frame} {meth : Method} {c : Code} {D : va_G} {cy : Nat → ClassId} {a : Nat} (hx : p.tables.exec = Jvm.exec) (hb : c.code = cX6_moves) (hr : meth.sig.returnType = none) (hml : c.maxLocals = 5) (hown : s.vm.findClass RX6 = some m.cls) (hts : ∀ w ∈ wsX6_moves, w.before args s = true) (hlocks : meth.locks = false) (hK : KS D cy s) (hZ : ZZ a s s.heap) {out : Mm} : ∀ (n : Nat), ∀ (x1 : Int32) (x4 : Int32) (M : Mm) (H : Heap) (locs : List Loc) (ls : Array Slot), HP D cy a M H → va_S (Aq a) s.heap H locs → lv_has ls 5 [(0, .ref (a + 77)), (1, .int x1), (4, .int x4)] → fX6_moves_L68 n x1 x4 M = some out → W p l e rX6_moves s m args below meth c H locs 0 0 (MQ below (QV D cy a out) args s 0 0 (Aq a)) (F0 m 68 ls []) := by
  intro n
  induction n with
  | zero =>
    intro x1 x4 M H locs ls hw hS hl hf
    have hf : (none : Option (Mm)) = some out := hf
    cases hf
  | succ n ih =>
    intro x1 x4 M H locs ls hw hS hl hf
    unfold fX6_moves_L68 at hf
    refine lv_iload hx hb dX6_moves_68 (lv_at hl 2 rfl) ?_
    refine lv_aload_n hx hb dX6_moves_70 rfl (lv_at hl 0 rfl) ?_
    refine rGetI hx hb hts iX6_moves_X6 hown hK hw (Nat.le_of_ble_eq_true rfl) en_model rfl 7 (by decide) (hts _ kX6_moves_0) rfl ge6_7 dX6_moves_71 ?_
    refine lv_iconst (v := (1 : Int32)) hx hb dX6_moves_74 (by decide) ?_
    refine lv_isub hx hb dX6_moves_75 ?_
    refine lv_icmp_ge (tgt := 117) hx hb dX6_moves_76 (by decide) (fun c1 => ?_) (fun c1 => ?_)
    · have hf := ip c1 hf
      refine lv_aload_n hx hb dX6_moves_117 rfl (lv_at hl 0 rfl) ?_
      refine rGet hx hb hts iX6_moves_X6 hown hK hw (Nat.le_of_ble_eq_true rfl) en_model rfl 25 (by decide) (hts _ kX6_moves_1) rfl rfl dX6_moves_118 ?_
      refine lv_aload_n hx hb dX6_moves_121 rfl (lv_at hl 0 rfl) ?_
      refine rGetI hx hb hts iX6_moves_X6 hown hK hw (Nat.le_of_ble_eq_true rfl) en_model rfl 7 (by decide) (hts _ kX6_moves_0) rfl ge6_7 dX6_moves_122 ?_
      refine lv_iconst (v := (1 : Int32)) hx hb dX6_moves_125 (by decide) ?_
      refine lv_isub hx hb dX6_moves_126 ?_
      refine lv_iload_n hx hb dX6_moves_127 rfl (lv_at hl 1 rfl) ?_
      obtain ⟨hg2, hf⟩ := og hf
      refine rIast hx hb hK hw hS (Nat.le_of_ble_eq_true rfl) (fun _ => en_a97) hg2 dX6_moves_128 (fun H locs hw hS => ?_)
      refine lv_aload_n hx hb dX6_moves_129 rfl (lv_at hl 0 rfl) ?_
      refine rGet hx hb hts iX6_moves_X6 hown hK hw (Nat.le_of_ble_eq_true rfl) en_model rfl 26 (by decide) (hts _ kX6_moves_2) rfl rfl dX6_moves_130 ?_
      refine lv_aload_n hx hb dX6_moves_133 rfl (lv_at hl 0 rfl) ?_
      refine rGetI hx hb hts iX6_moves_X6 hown hK hw (Nat.le_of_ble_eq_true rfl) en_model rfl 7 (by decide) (hts _ kX6_moves_0) rfl ge6_7 dX6_moves_134 ?_
      refine lv_iconst (v := (1 : Int32)) hx hb dX6_moves_137 (by decide) ?_
      refine lv_isub hx hb dX6_moves_138 ?_
      refine lv_aload_n hx hb dX6_moves_139 rfl (lv_at hl 0 rfl) ?_
      refine rGet hx hb hts iX6_moves_X6 hown hK hw (Nat.le_of_ble_eq_true rfl) en_model rfl 16 (by decide) (hts _ kX6_moves_3) rfl rfl dX6_moves_140 ?_
      refine lv_iload_n hx hb dX6_moves_143 rfl (lv_at hl 1 rfl) ?_
      obtain ⟨hg3, hf⟩ := og hf
      refine rIald hx hb hK hw (Nat.le_of_ble_eq_true rfl) en_a89 hg3 dX6_moves_144 ?_
      obtain ⟨hg4, hf⟩ := og hf
      refine rIast hx hb hK hw hS (Nat.le_of_ble_eq_true rfl) (fun _ => en_a98) hg4 dX6_moves_145 (fun H locs hw hS => ?_)
      refine lv_aload_n hx hb dX6_moves_146 rfl (lv_at hl 0 rfl) ?_
      refine rGet hx hb hts iX6_moves_X6 hown hK hw (Nat.le_of_ble_eq_true rfl) en_model rfl 16 (by decide) (hts _ kX6_moves_3) rfl rfl dX6_moves_147 ?_
      refine lv_iload_n hx hb dX6_moves_150 rfl (lv_at hl 1 rfl) ?_
      refine lv_dup2_11 hx hb dX6_moves_151 rfl rfl ?_
      obtain ⟨hg5, hf⟩ := og hf
      refine rIald hx hb hK hw (Nat.le_of_ble_eq_true rfl) en_a89 hg5 dX6_moves_152 ?_
      refine lv_iconst (v := (1 : Int32)) hx hb dX6_moves_153 (by decide) ?_
      refine lv_iadd hx hb dX6_moves_154 ?_
      obtain ⟨hg6, hf⟩ := og hf
      refine rIast hx hb hK hw hS (Nat.le_of_ble_eq_true rfl) (fun _ => en_a89) hg6 dX6_moves_155 (fun H locs hw hS => ?_)
      refine lv_aload_n hx hb dX6_moves_156 rfl (lv_at hl 0 rfl) ?_
      refine lv_dup hx hb dX6_moves_157 rfl ?_
      refine rGetI hx hb hts iX6_moves_X6 hown hK hw (Nat.le_of_ble_eq_true rfl) en_model rfl 24 (by decide) (hts _ kX6_moves_4) rfl ge6_24 dX6_moves_158 ?_
      refine lv_iconst (v := (1 : Int32)) hx hb dX6_moves_161 (by decide) ?_
      refine lv_iadd hx hb dX6_moves_162 ?_
      refine rPut hx hb hts iX6_moves_X6 tyX6 tyX6_ok nmX6 hown hK hw hS (Nat.le_of_ble_eq_true rfl) en_model rfl 24 (by decide) (hts _ kX6_moves_4) rfl rfl rfl rfl (Nat.le_of_ble_eq_true rfl) hs6_24 dX6_moves_163 (fun H locs hw hS => ?_)
      obtain rfl := Option.some.inj hf
      exact rVret hx hb hr hlocks hw hS dX6_moves_166
    · have hf := iq c1 hf
      refine lv_aload_n hx hb dX6_moves_79 rfl (lv_at hl 0 rfl) ?_
      refine rGet hx hb hts iX6_moves_X6 hown hK hw (Nat.le_of_ble_eq_true rfl) en_model rfl 25 (by decide) (hts _ kX6_moves_1) rfl rfl dX6_moves_80 ?_
      refine lv_iload hx hb dX6_moves_83 (lv_at hl 2 rfl) ?_
      refine lv_aload_n hx hb dX6_moves_85 rfl (lv_at hl 0 rfl) ?_
      refine rGet hx hb hts iX6_moves_X6 hown hK hw (Nat.le_of_ble_eq_true rfl) en_model rfl 25 (by decide) (hts _ kX6_moves_1) rfl rfl dX6_moves_86 ?_
      refine lv_iload hx hb dX6_moves_89 (lv_at hl 2 rfl) ?_
      refine lv_iconst (v := (1 : Int32)) hx hb dX6_moves_91 (by decide) ?_
      refine lv_iadd hx hb dX6_moves_92 ?_
      obtain ⟨hg7, hf⟩ := og hf
      refine rIald hx hb hK hw (Nat.le_of_ble_eq_true rfl) en_a97 hg7 dX6_moves_93 ?_
      obtain ⟨hg8, hf⟩ := og hf
      refine rIast hx hb hK hw hS (Nat.le_of_ble_eq_true rfl) (fun _ => en_a97) hg8 dX6_moves_94 (fun H locs hw hS => ?_)
      refine lv_aload_n hx hb dX6_moves_95 rfl (lv_at hl 0 rfl) ?_
      refine rGet hx hb hts iX6_moves_X6 hown hK hw (Nat.le_of_ble_eq_true rfl) en_model rfl 26 (by decide) (hts _ kX6_moves_2) rfl rfl dX6_moves_96 ?_
      refine lv_iload hx hb dX6_moves_99 (lv_at hl 2 rfl) ?_
      refine lv_aload_n hx hb dX6_moves_101 rfl (lv_at hl 0 rfl) ?_
      refine rGet hx hb hts iX6_moves_X6 hown hK hw (Nat.le_of_ble_eq_true rfl) en_model rfl 26 (by decide) (hts _ kX6_moves_2) rfl rfl dX6_moves_102 ?_
      refine lv_iload hx hb dX6_moves_105 (lv_at hl 2 rfl) ?_
      refine lv_iconst (v := (1 : Int32)) hx hb dX6_moves_107 (by decide) ?_
      refine lv_iadd hx hb dX6_moves_108 ?_
      obtain ⟨hg9, hf⟩ := og hf
      refine rIald hx hb hK hw (Nat.le_of_ble_eq_true rfl) en_a98 hg9 dX6_moves_109 ?_
      obtain ⟨hg10, hf⟩ := og hf
      refine rIast hx hb hK hw hS (Nat.le_of_ble_eq_true rfl) (fun _ => en_a98) hg10 dX6_moves_110 (fun H locs hw hS => ?_)
      refine lv_iinc (v := x4 + (1 : Int32)) (lv' := [(4, .int (x4 + (1 : Int32))), (0, .ref (a + 77)), (1, .int x1)]) hx hb dX6_moves_111 hl (k := 2) rfl rfl (Nat.le_of_ble_eq_true rfl) rfl (fun ls hl => ?_)
      refine lv_goto (tgt := 68) hx hb dX6_moves_114 (by decide) ?_
      exact ih _ _ _ _ _ _ hw hS (lv_sub hl [1, 2, 0] rfl) hf
set_option maxRecDepth 100000 in
set_option maxHeartbeats 4000000 in
theorem bX6_moves_0 {p : Program} {l : Launch} {e : Env} {s : State} {m : MethodId} {args : Array Value} {below : List Frame} {meth : Method} {c : Code} {D : va_G} {cy : Nat → ClassId} {a : Nat} (hx : p.tables.exec = Jvm.exec) (hb : c.code = cX6_moves) (hr : meth.sig.returnType = none) (hml : c.maxLocals = 5) (hown : s.vm.findClass RX6 = some m.cls) (hts : ∀ w ∈ wsX6_moves, w.before args s = true) (hlocks : meth.locks = false) (hK : KS D cy s) (hZ : ZZ a s s.heap) {out : Mm} : ∀ (x1 : Int32) (x2 : Int32) (x3 : Int32) (M : Mm) (H : Heap) (locs : List Loc) (ls : Array Slot), HP D cy a M H → va_S (Aq a) s.heap H locs → lv_has ls 5 [(0, .ref (a + 77)), (1, .int x1), (2, .int x2), (3, .int x3)] → fX6_moves x1 x2 x3 M = some out → W p l e rX6_moves s m args below meth c H locs 0 0 (MQ below (QV D cy a out) args s 0 0 (Aq a)) (F0 m 0 ls []) := by
  intro x1 x2 x3 M H locs ls hw hS hl hf
  unfold fX6_moves at hf
  refine lv_aload_n hx hb dX6_moves_0 rfl (lv_at hl 0 rfl) ?_
  refine lv_aload_n hx hb dX6_moves_1 rfl (lv_at hl 0 rfl) ?_
  refine rGet hx hb hts iX6_moves_X6 hown hK hw (Nat.le_of_ble_eq_true rfl) en_model rfl 25 (by decide) (hts _ kX6_moves_1) rfl rfl dX6_moves_2 ?_
  refine lv_iload_n hx hb dX6_moves_5 rfl (lv_at hl 2 rfl) ?_
  obtain ⟨hg1, hf⟩ := og hf
  refine rIald hx hb hK hw (Nat.le_of_ble_eq_true rfl) en_a97 hg1 dX6_moves_6 ?_
  refine lv_aload_n hx hb dX6_moves_7 rfl (lv_at hl 0 rfl) ?_
  refine rGet hx hb hts iX6_moves_X6 hown hK hw (Nat.le_of_ble_eq_true rfl) en_model rfl 26 (by decide) (hts _ kX6_moves_2) rfl rfl dX6_moves_8 ?_
  refine lv_iload_n hx hb dX6_moves_11 rfl (lv_at hl 2 rfl) ?_
  obtain ⟨hg2, hf⟩ := og hf
  refine rIald hx hb hK hw (Nat.le_of_ble_eq_true rfl) en_a98 hg2 dX6_moves_12 ?_
  refine lv_iload_n hx hb dX6_moves_13 rfl (lv_at hl 3 rfl) ?_
  obtain ⟨o3, ho3, hf⟩ := ob hf
  refine rCallV (va_runV (As := [.int (gi M 97 x2.toNatClampNeg), .int (gi M 98 x2.toNatClampNeg), .int x3]) (rest := []) ⟨hx, hb, hml, hown, hts⟩ (ctX6_goesAway (l := l) (D := D) (cy := cy) (a := a) ho3) (cwV 3 hts gX6_moves_X6_goesAway rfl rfl rfl (by decide +kernel) ⟨Nat.le_of_ble_eq_true rfl, Nat.le_of_ble_eq_true rfl⟩) (pV hK hZ hw hS (rRecv hK hw (Nat.le_of_ble_eq_true rfl) en_model rfl)) rfl rfl hl.1 rfl (lv_room (Nat.le_of_ble_eq_true rfl)) dX6_moves_14 ⟨Nat.le_of_ble_eq_true rfl, Nat.le_of_ble_eq_true rfl⟩) hS (fun H locs hw hS => ?_)
  refine lv_aload_n hx hb dX6_moves_17 rfl (lv_at hl 0 rfl) ?_
  refine rGet hx hb hts iX6_moves_X6 hown hK hw (Nat.le_of_ble_eq_true rfl) en_model rfl 16 (by decide) (hts _ kX6_moves_3) rfl rfl dX6_moves_18 ?_
  refine lv_iload_n hx hb dX6_moves_21 rfl (lv_at hl 1 rfl) ?_
  obtain ⟨hg4, hf⟩ := og hf
  refine rIald hx hb hK hw (Nat.le_of_ble_eq_true rfl) en_a89 hg4 dX6_moves_22 ?_
  refine lv_if_ne (tgt := 65) hx hb dX6_moves_23 (by decide) (fun c5 => ?_) (fun c5 => ?_)
  · have hf := iq c5 hf
    refine lv_iload_n hx hb dX6_moves_65 rfl (lv_at hl 2 rfl) ?_
    refine lv_istore (lv' := [(4, .int x2), (0, .ref (a + 77)), (1, .int x1), (2, .int x2), (3, .int x3)]) hx hb dX6_moves_66 hl (Nat.le_of_ble_eq_true rfl) rfl (fun ls hl => ?_)
    exact bX6_moves_68 hx hb hr hml hown hts hlocks hK hZ 400 _ _ _ _ _ _ hw hS (lv_sub hl [1, 2, 0] rfl) hf
  · have hf := ip c5 hf
    refine lv_aload_n hx hb dX6_moves_26 rfl (lv_at hl 0 rfl) ?_
    refine rGet hx hb hts iX6_moves_X6 hown hK hw (Nat.le_of_ble_eq_true rfl) en_model rfl 25 (by decide) (hts _ kX6_moves_1) rfl rfl dX6_moves_27 ?_
    refine lv_aload_n hx hb dX6_moves_30 rfl (lv_at hl 0 rfl) ?_
    refine rGetI hx hb hts iX6_moves_X6 hown hK hw (Nat.le_of_ble_eq_true rfl) en_model rfl 7 (by decide) (hts _ kX6_moves_0) rfl ge6_7 dX6_moves_31 ?_
    refine lv_iconst (v := (1 : Int32)) hx hb dX6_moves_34 (by decide) ?_
    refine lv_isub hx hb dX6_moves_35 ?_
    obtain ⟨hg6, hf⟩ := og hf
    refine rIald hx hb hK hw (Nat.le_of_ble_eq_true rfl) en_a97 hg6 dX6_moves_36 ?_
    refine lv_istore (lv' := [(4, .int (gi o3 97 ((gi o3 77 7) - (1 : Int32)).toNatClampNeg)), (0, .ref (a + 77)), (1, .int x1), (2, .int x2), (3, .int x3)]) hx hb dX6_moves_37 hl (Nat.le_of_ble_eq_true rfl) rfl (fun ls hl => ?_)
    refine lv_aload_n hx hb dX6_moves_39 rfl (lv_at hl 1 rfl) ?_
    refine rGet hx hb hts iX6_moves_X6 hown hK hw (Nat.le_of_ble_eq_true rfl) en_model rfl 20 (by decide) (hts _ kX6_moves_5) rfl rfl dX6_moves_40 ?_
    refine lv_iload_n hx hb dX6_moves_43 rfl (lv_at hl 2 rfl) ?_
    refine lv_iload hx hb dX6_moves_44 (lv_at hl 0 rfl) ?_
    obtain ⟨hg7, hf⟩ := og hf
    refine rIast hx hb hK hw hS (Nat.le_of_ble_eq_true rfl) (fun _ => en_a93) hg7 dX6_moves_46 (fun H locs hw hS => ?_)
    refine lv_aload_n hx hb dX6_moves_47 rfl (lv_at hl 1 rfl) ?_
    refine rGet hx hb hts iX6_moves_X6 hown hK hw (Nat.le_of_ble_eq_true rfl) en_model rfl 21 (by decide) (hts _ kX6_moves_6) rfl rfl dX6_moves_48 ?_
    refine lv_iload hx hb dX6_moves_51 (lv_at hl 0 rfl) ?_
    refine lv_iload_n hx hb dX6_moves_53 rfl (lv_at hl 2 rfl) ?_
    obtain ⟨hg8, hf⟩ := og hf
    refine rIast hx hb hK hw hS (Nat.le_of_ble_eq_true rfl) (fun _ => en_a94) hg8 dX6_moves_54 (fun H locs hw hS => ?_)
    refine lv_aload_n hx hb dX6_moves_55 rfl (lv_at hl 1 rfl) ?_
    refine rGet hx hb hts iX6_moves_X6 hown hK hw (Nat.le_of_ble_eq_true rfl) en_model rfl 22 (by decide) (hts _ kX6_moves_7) rfl rfl dX6_moves_56 ?_
    refine lv_iload_n hx hb dX6_moves_59 rfl (lv_at hl 2 rfl) ?_
    refine lv_aload_n hx hb dX6_moves_60 rfl (lv_at hl 1 rfl) ?_
    refine rGetI hx hb hts iX6_moves_X6 hown hK hw (Nat.le_of_ble_eq_true rfl) en_model rfl 24 (by decide) (hts _ kX6_moves_4) rfl ge6_24 dX6_moves_61 ?_
    obtain ⟨hg9, hf⟩ := og hf
    refine rIast hx hb hK hw hS (Nat.le_of_ble_eq_true rfl) (fun _ => en_a95) hg9 dX6_moves_64 (fun H locs hw hS => ?_)
    refine lv_iload_n hx hb dX6_moves_65 rfl (lv_at hl 3 rfl) ?_
    refine lv_istore (lv' := [(4, .int x2), (0, .ref (a + 77)), (1, .int x1), (2, .int x2), (3, .int x3)]) hx hb dX6_moves_66 hl (Nat.le_of_ble_eq_true rfl) rfl (fun ls hl => ?_)
    exact bX6_moves_68 hx hb hr hml hown hts hlocks hK hZ 400 _ _ _ _ _ _ hw hS (lv_sub hl [1, 2, 0] rfl) hf
set_option maxRecDepth 100000 in
set_option maxHeartbeats 4000000 in
theorem ctX6_moves {l : Launch} {D : va_G} {cy : Nat → ClassId} {a : Nat} {x1 : Int32} {x2 : Int32} {x3 : Int32} {M : Mm} {out : Mm} (hf : fX6_moves x1 x2 x3 M = some out) : Met l yX6_moves wsX6_moves rX6_moves (Pre D cy a M [.ref (a + 77), .int x1, .int x2, .int x3]) (QV D cy a out) 0 0 (Aq a) := by
  refine Met.ofW (cc := cX6_moves) (maxL := 5) (ret := none) (by decide +kernel) rfl ?_
  intro p e s m args below meth c s₁ B hml hv
  obtain ⟨rfl, hw, hK, hZ⟩ := hv
  have hS : va_S (Aq a) s.heap s.heap [] := va_S.rf
  have hl := lv_entry ([.ref (a + 77), .int x1, .int x2, .int x3]) (n := 5) (Nat.le_of_ble_eq_true rfl)
  rw [lg_entry_eq]
  generalize (lg_sl ([.ref (a + 77), .int x1, .int x2, .int x3]) ++ List.replicate (5 - (lg_sl ([.ref (a + 77), .int x1, .int x2, .int x3])).length) Slot.unset).toArray = ls at hl ⊢
  exact bX6_moves_0 B.exec B.bytes B.returns hml (findClass_of_methodNamed B.named) (atoms_spec (ws := wsX6_moves) B.pre) B.notSynchronized hK hZ _ _ _ _ _ _ _ hw hS hl hf
def rX6_passesMinute : Room := { frames := 6, cells := 0, slots := 0, locals := 138 }
noncomputable def fX6_passesMinute_b183 (kL30 : Int32 → Int32 → Int32 → Int32 → Int32 → Mm → Option (Int32 × Mm)) (x1 : Int32) (x2 : Int32) (x4 : Int32) (x5 : Int32) (x6 : Int32) (x8 : Int32) (xs0 : Int32) (xs1 : Int32) (M : Mm) : Option (Int32 × Mm) := ((fX6_lastOf x8 M).bind fun o1 => ((fX6_moves x6 o1 x8 M).bind fun o2 => kL30 (x1 + (1 : Int32)) x2 (xs0 + xs1) x4 (x5 + (1 : Int32)) o2))
noncomputable def fX6_passesMinute_b170 (kL30 : Int32 → Int32 → Int32 → Int32 → Int32 → Mm → Option (Int32 × Mm)) (x1 : Int32) (x3 : Int32) (x4 : Int32) (x5 : Int32) (x6 : Int32) (x7 : Int32) (x8 : Int32) (xs0 : Int32) (xs1 : Int32) (M : Mm) : Option (Int32 × Mm) := (if x7 = 0 then fX6_passesMinute_b183 kL30 x1 (xs0 + xs1) x4 x5 x6 x8 x3 (0 : Int32) M else fX6_passesMinute_b183 kL30 x1 (xs0 + xs1) x4 x5 x6 x8 x3 (1 : Int32) M)
noncomputable def fX6_passesMinute_b155 (kL30 : Int32 → Int32 → Int32 → Int32 → Int32 → Mm → Option (Int32 × Mm)) (x1 : Int32) (x2 : Int32) (x3 : Int32) (x4 : Int32) (x5 : Int32) (x6 : Int32) (x7 : Int32) (xs0 : Int32) (M : Mm) : Option (Int32 × Mm) := (if (gi M 77 44) = 0 then fX6_passesMinute_b170 kL30 x1 x3 x4 x5 x6 x7 xs0 x2 (0 : Int32) M else fX6_passesMinute_b170 kL30 x1 x3 x4 x5 x6 x7 xs0 x2 (1 : Int32) M)
noncomputable def fX6_passesMinute_b121 (kL30 : Int32 → Int32 → Int32 → Int32 → Int32 → Mm → Option (Int32 × Mm)) (x1 : Int32) (x2 : Int32) (x3 : Int32) (x4 : Int32) (x5 : Int32) (x6 : Int32) (xs0 : Int32) (M : Mm) : Option (Int32 × Mm) := (if (gi M 77 44) = 0 then (if xs0 = 0 then fX6_passesMinute_b155 kL30 x1 x2 x3 x4 x5 x6 xs0 ((gi M 77 1) - (1 : Int32)) M else fX6_passesMinute_b155 kL30 x1 x2 x3 x4 x5 x6 xs0 (gi M 77 29) M) else fX6_passesMinute_b155 kL30 x1 x2 x3 x4 x5 x6 xs0 (gi M 77 32) M)
noncomputable def fX6_passesMinute_b120 (kL30 : Int32 → Int32 → Int32 → Int32 → Int32 → Mm → Option (Int32 × Mm)) (x1 : Int32) (x2 : Int32) (x3 : Int32) (x4 : Int32) (x5 : Int32) (x6 : Int32) (M : Mm) : Option (Int32 × Mm) := fX6_passesMinute_b121 kL30 x1 x2 x3 x4 x5 x6 (0 : Int32) M
noncomputable def fX6_passesMinute_b90 (kL30 : Int32 → Int32 → Int32 → Int32 → Int32 → Mm → Option (Int32 × Mm)) (x1 : Int32) (x2 : Int32) (x3 : Int32) (x4 : Int32) (x5 : Int32) (x6 : Int32) (xs1 : Int32) (M : Mm) : Option (Int32 × Mm) := (if (gi (si M 77 44 xs1) 77 44) = 0 then (if (gi (si M 77 44 xs1) 77 29) = (-1 : Int32) then fX6_passesMinute_b120 kL30 x1 x2 x3 x4 x5 x6 (si M 77 44 xs1) else (if (gi (si M 77 44 xs1) 77 30) ≤ x3 then fX6_passesMinute_b120 kL30 x1 x2 x3 x4 x5 x6 (si M 77 44 xs1) else fX6_passesMinute_b121 kL30 x1 x2 x3 x4 x5 x6 (1 : Int32) (si M 77 44 xs1))) else fX6_passesMinute_b120 kL30 x1 x2 x3 x4 x5 x6 (si M 77 44 xs1))
noncomputable def fX6_passesMinute_b89 (kL30 : Int32 → Int32 → Int32 → Int32 → Int32 → Mm → Option (Int32 × Mm)) (x1 : Int32) (x2 : Int32) (x3 : Int32) (x4 : Int32) (x5 : Int32) (x6 : Int32) (M : Mm) : Option (Int32 × Mm) := fX6_passesMinute_b90 kL30 x1 x2 x3 x4 x5 x6 (0 : Int32) M
noncomputable def fX6_passesMinute_b61 (kL30 : Int32 → Int32 → Int32 → Int32 → Int32 → Mm → Option (Int32 × Mm)) (x1 : Int32) (x2 : Int32) (x3 : Int32) (x5 : Int32) (x6 : Int32) (xs0 : Int32) (M : Mm) : Option (Int32 × Mm) := (if xs0 = 0 then kL30 x1 x2 x3 xs0 (x5 + (1 : Int32)) M else (if (gi M 77 32) = (-1 : Int32) then fX6_passesMinute_b89 kL30 x1 x2 x3 xs0 x5 x6 M else (if (gi M 77 33) ≤ x2 then fX6_passesMinute_b89 kL30 x1 x2 x3 xs0 x5 x6 M else fX6_passesMinute_b90 kL30 x1 x2 x3 xs0 x5 x6 (1 : Int32) M)))
noncomputable def fX6_passesMinute_b258 (x1 : Int32) (x2 : Int32) (M : Mm) : Option (Int32 × Mm) := (if ¬ ((irem (gi M 77 0) (5 : Int32)) < 0 ∨ 5 ≤ (irem (gi M 77 0) (5 : Int32)).toNatClampNeg) then some (x1, si M 102 (irem (gi M 77 0) (5 : Int32)).toNatClampNeg x2) else none)
noncomputable def fX6_passesMinute_L211 : Nat → Int32 → Int32 → Int32 → Mm → Option (Int32 × Mm)
  | 0 => fun _ _ _ _ => none
  | n + 1 => fun x1 x2 x5 M => (if (gi M 77 1) ≤ x5 then fX6_passesMinute_b258 x1 x2 M else (if x1 ≤ 0 then fX6_passesMinute_b258 x1 x2 M else (if ¬ (x5 < 0 ∨ 6 ≤ x5.toNatClampNeg) then (if ¬ (x5 < 0 ∨ 6 ≤ x5.toNatClampNeg) then (if (200 : Int32) ≤ (gi M 81 x5.toNatClampNeg) then (if ¬ (x5 < 0 ∨ 6 ≤ x5.toNatClampNeg) then (fX6_passesMinute_L211 n) x1 x2 (x5 + (1 : Int32)) (si M 81 x5.toNatClampNeg ((gi M 81 x5.toNatClampNeg) + (0 : Int32))) else none) else (if ¬ (x5 < 0 ∨ 6 ≤ x5.toNatClampNeg) then (fX6_passesMinute_L211 n) x1 x2 (x5 + (1 : Int32)) (si M 81 x5.toNatClampNeg ((gi M 81 x5.toNatClampNeg) + (1 : Int32))) else none)) else none) else none)))
noncomputable def fX6_passesMinute_L30 : Nat → Int32 → Int32 → Int32 → Int32 → Int32 → Mm → Option (Int32 × Mm)
  | 0 => fun _ _ _ _ _ _ => none
  | n + 1 => fun x1 x2 x3 x4 x5 M => (if (gi M 77 28) ≤ x5 then fX6_passesMinute_L211 400 x1 x2 (0 : Int32) M else (if x4 = 0 then fX6_passesMinute_L211 400 x1 x2 (0 : Int32) M else ((fX6_entering M).bind fun o3 => (if o3 = (-1 : Int32) then fX6_passesMinute_b61 (fX6_passesMinute_L30 n) x1 x2 x3 x5 o3 (0 : Int32) M else fX6_passesMinute_b61 (fX6_passesMinute_L30 n) x1 x2 x3 x5 o3 (1 : Int32) M))))
noncomputable def fX6_passesMinute (M : Mm) : Option (Int32 × Mm) := ((fX6_rateThatGoes (si M 77 0 ((gi M 77 0) + (1 : Int32)))).bind fun o1 => fX6_passesMinute_L30 400 (0 : Int32) (0 : Int32) (0 : Int32) (1 : Int32) (0 : Int32) (si (si M 77 0 ((gi M 77 0) + (1 : Int32))) 77 28 o1))
set_option maxRecDepth 20000 in
theorem iX6_passesMinute_X6 : ∀ w ∈ wsX60, w ∈ wsX6_passesMinute := by decide +kernel
set_option maxRecDepth 20000 in
theorem kX6_passesMinute_0 : Cond.fieldLink RX6 191 "BatchPipeModel" "isLeaking" "Z" ∈ wsX6_passesMinute := by decide +kernel
set_option maxRecDepth 20000 in
theorem kX6_passesMinute_1 : Cond.fieldLink RX6 102 "BatchPipeModel" "segments" "I" ∈ wsX6_passesMinute := by decide +kernel
set_option maxRecDepth 20000 in
theorem kX6_passesMinute_2 : Cond.fieldLink RX6 77 "BatchPipeModel" "dropSegment" "I" ∈ wsX6_passesMinute := by decide +kernel
set_option maxRecDepth 20000 in
theorem kX6_passesMinute_3 : Cond.fieldLink RX6 80 "BatchPipeModel" "leakSegment" "I" ∈ wsX6_passesMinute := by decide +kernel
set_option maxRecDepth 20000 in
theorem kX6_passesMinute_4 : Cond.fieldLink RX6 135 "BatchPipeModel" "dropUnits" "I" ∈ wsX6_passesMinute := by decide +kernel
set_option maxRecDepth 20000 in
theorem kX6_passesMinute_5 : Cond.fieldLink RX6 141 "BatchPipeModel" "leakUnits" "I" ∈ wsX6_passesMinute := by decide +kernel
set_option maxRecDepth 20000 in
theorem kX6_passesMinute_6 : Cond.fieldLink RX6 92 "BatchPipeModel" "balances" "[I" ∈ wsX6_passesMinute := by decide +kernel
set_option maxRecDepth 20000 in
theorem kX6_passesMinute_7 : Cond.fieldLink RX6 197 "BatchPipeModel" "minute" "I" ∈ wsX6_passesMinute := by decide +kernel
set_option maxRecDepth 20000 in
theorem kX6_passesMinute_8 : Cond.fieldLink RX6 19 "BatchPipeModel" "dirty" "[I" ∈ wsX6_passesMinute := by decide +kernel
set_option maxRecDepth 20000 in
theorem kX6_passesMinute_9 : Cond.fieldLink RX6 204 "BatchPipeModel" "rateNow" "I" ∈ wsX6_passesMinute := by decide +kernel
set_option maxRecDepth 100000 in
set_option maxHeartbeats 4000000 in
theorem bX6_passesMinute_183 {p : Program} {l : Launch} {e : Env} {s : State} {m : MethodId} {args : Array Value} {below : List Frame} {meth : Method} {c : Code} {D : va_G} {cy : Nat → ClassId} {a : Nat} (hx : p.tables.exec = Jvm.exec) (hb : c.code = cX6_passesMinute) (hr : meth.sig.returnType = (some .int)) (hml : c.maxLocals = 9) (hown : s.vm.findClass RX6 = some m.cls) (hts : ∀ w ∈ wsX6_passesMinute, w.before args s = true) (hlocks : meth.locks = false) (hK : KS D cy s) (hZ : ZZ a s s.heap) {out : Int32 × Mm} (kL30 : Int32 → Int32 → Int32 → Int32 → Int32 → Mm → Option (Int32 × Mm)) (hkL30 : ∀ (x1 : Int32) (x2 : Int32) (x3 : Int32) (x4 : Int32) (x5 : Int32) (M : Mm) (H : Heap) (locs : List Loc) (ls : Array Slot), HP D cy a M H → va_S (Aq a) s.heap H locs → lv_has ls 9 [(0, .ref (a + 77)), (1, .int x1), (2, .int x2), (3, .int x3), (4, .int x4), (5, .int x5)] → narrow .boolean (.int x4) = .int x4 → kL30 x1 x2 x3 x4 x5 M = some out → W p l e rX6_passesMinute s m args below meth c H locs 0 0 (MQ below (QI D cy a out.1 out.2) args s 0 0 (Aq a)) (F0 m 30 ls [])) : ∀ (x1 : Int32) (x2 : Int32) (x4 : Int32) (x5 : Int32) (x6 : Int32) (x8 : Int32) (xs0 : Int32) (xs1 : Int32) (M : Mm) (H : Heap) (locs : List Loc) (ls : Array Slot), HP D cy a M H → va_S (Aq a) s.heap H locs → lv_has ls 9 [(0, .ref (a + 77)), (1, .int x1), (2, .int x2), (4, .int x4), (5, .int x5), (6, .int x6), (8, .int x8)] → narrow .boolean (.int x4) = .int x4 → narrow .boolean (.int xs1) = .int xs1 → fX6_passesMinute_b183 kL30 x1 x2 x4 x5 x6 x8 xs0 xs1 M = some out → W p l e rX6_passesMinute s m args below meth c H locs 0 0 (MQ below (QI D cy a out.1 out.2) args s 0 0 (Aq a)) (F0 m 183 ls [.int xs1, .int xs0]) := by
  intro x1 x2 x4 x5 x6 x8 xs0 xs1 M H locs ls hw hS hl hb4 hbs1 hf
  unfold fX6_passesMinute_b183 at hf
  refine lv_iadd hx hb dX6_passesMinute_183 ?_
  refine lv_istore_n (lv' := [(3, .int (xs0 + xs1)), (0, .ref (a + 77)), (1, .int x1), (2, .int x2), (4, .int x4), (5, .int x5), (6, .int x6), (8, .int x8)]) hx hb dX6_passesMinute_184 rfl hl (Nat.le_of_ble_eq_true rfl) rfl (fun ls hl => ?_)
  refine lv_iinc (v := x1 + (1 : Int32)) (lv' := [(1, .int (x1 + (1 : Int32))), (3, .int (xs0 + xs1)), (0, .ref (a + 77)), (2, .int x2), (4, .int x4), (5, .int x5), (6, .int x6), (8, .int x8)]) hx hb dX6_passesMinute_185 hl (k := 2) rfl rfl (Nat.le_of_ble_eq_true rfl) rfl (fun ls hl => ?_)
  refine lv_aload_n hx hb dX6_passesMinute_188 rfl (lv_at hl 2 rfl) ?_
  refine lv_iload hx hb dX6_passesMinute_189 (lv_at hl 6 rfl) ?_
  refine lv_aload_n hx hb dX6_passesMinute_191 rfl (lv_at hl 2 rfl) ?_
  refine lv_iload hx hb dX6_passesMinute_192 (lv_at hl 7 rfl) ?_
  obtain ⟨o1, ho1, hf⟩ := ob hf
  refine rCallI (va_runV (As := [.int x8]) (rest := [.int x6, .ref (a + 77)]) ⟨hx, hb, hml, hown, hts⟩ (ctX6_lastOf (l := l) (D := D) (cy := cy) (a := a) ho1) (cwV 1 hts gX6_passesMinute_X6_lastOf rfl rfl rfl (by decide +kernel) ⟨Nat.le_of_ble_eq_true rfl, Nat.le_of_ble_eq_true rfl⟩) (pV hK hZ hw hS (rRecv hK hw (Nat.le_of_ble_eq_true rfl) en_model rfl)) rfl rfl hl.1 rfl (lv_room (Nat.le_of_ble_eq_true rfl)) dX6_passesMinute_194 ⟨Nat.le_of_ble_eq_true rfl, Nat.le_of_ble_eq_true rfl⟩) hS (fun H locs hw hS => ?_)
  refine lv_iload hx hb dX6_passesMinute_197 (lv_at hl 7 rfl) ?_
  obtain ⟨o2, ho2, hf⟩ := ob hf
  refine rCallV (va_runV (As := [.int x6, .int o1, .int x8]) (rest := []) ⟨hx, hb, hml, hown, hts⟩ (ctX6_moves (l := l) (D := D) (cy := cy) (a := a) ho2) (cwV 3 hts gX6_passesMinute_X6_moves rfl rfl rfl (by decide +kernel) ⟨Nat.le_of_ble_eq_true rfl, Nat.le_of_ble_eq_true rfl⟩) (pV hK hZ hw hS (rRecv hK hw (Nat.le_of_ble_eq_true rfl) en_model rfl)) rfl rfl hl.1 rfl (lv_room (Nat.le_of_ble_eq_true rfl)) dX6_passesMinute_199 ⟨Nat.le_of_ble_eq_true rfl, Nat.le_of_ble_eq_true rfl⟩) hS (fun H locs hw hS => ?_)
  refine lv_iinc (v := x5 + (1 : Int32)) (lv' := [(5, .int (x5 + (1 : Int32))), (1, .int (x1 + (1 : Int32))), (3, .int (xs0 + xs1)), (0, .ref (a + 77)), (2, .int x2), (4, .int x4), (6, .int x6), (8, .int x8)]) hx hb dX6_passesMinute_202 hl (k := 5) rfl rfl (Nat.le_of_ble_eq_true rfl) rfl (fun ls hl => ?_)
  refine lv_goto (tgt := 30) hx hb dX6_passesMinute_205 (by decide) ?_
  exact hkL30 _ _ _ _ _ _ _ _ _ hw hS (lv_sub hl [3, 1, 4, 2, 5, 0] rfl) hb4 hf
set_option maxRecDepth 100000 in
set_option maxHeartbeats 4000000 in
theorem bX6_passesMinute_170 {p : Program} {l : Launch} {e : Env} {s : State} {m : MethodId} {args : Array Value} {below : List Frame} {meth : Method} {c : Code} {D : va_G} {cy : Nat → ClassId} {a : Nat} (hx : p.tables.exec = Jvm.exec) (hb : c.code = cX6_passesMinute) (hr : meth.sig.returnType = (some .int)) (hml : c.maxLocals = 9) (hown : s.vm.findClass RX6 = some m.cls) (hts : ∀ w ∈ wsX6_passesMinute, w.before args s = true) (hlocks : meth.locks = false) (hK : KS D cy s) (hZ : ZZ a s s.heap) {out : Int32 × Mm} (kL30 : Int32 → Int32 → Int32 → Int32 → Int32 → Mm → Option (Int32 × Mm)) (hkL30 : ∀ (x1 : Int32) (x2 : Int32) (x3 : Int32) (x4 : Int32) (x5 : Int32) (M : Mm) (H : Heap) (locs : List Loc) (ls : Array Slot), HP D cy a M H → va_S (Aq a) s.heap H locs → lv_has ls 9 [(0, .ref (a + 77)), (1, .int x1), (2, .int x2), (3, .int x3), (4, .int x4), (5, .int x5)] → narrow .boolean (.int x4) = .int x4 → kL30 x1 x2 x3 x4 x5 M = some out → W p l e rX6_passesMinute s m args below meth c H locs 0 0 (MQ below (QI D cy a out.1 out.2) args s 0 0 (Aq a)) (F0 m 30 ls [])) : ∀ (x1 : Int32) (x3 : Int32) (x4 : Int32) (x5 : Int32) (x6 : Int32) (x7 : Int32) (x8 : Int32) (xs0 : Int32) (xs1 : Int32) (M : Mm) (H : Heap) (locs : List Loc) (ls : Array Slot), HP D cy a M H → va_S (Aq a) s.heap H locs → lv_has ls 9 [(0, .ref (a + 77)), (1, .int x1), (3, .int x3), (4, .int x4), (5, .int x5), (6, .int x6), (7, .int x7), (8, .int x8)] → narrow .boolean (.int x4) = .int x4 → narrow .boolean (.int x7) = .int x7 → narrow .boolean (.int xs1) = .int xs1 → fX6_passesMinute_b170 kL30 x1 x3 x4 x5 x6 x7 x8 xs0 xs1 M = some out → W p l e rX6_passesMinute s m args below meth c H locs 0 0 (MQ below (QI D cy a out.1 out.2) args s 0 0 (Aq a)) (F0 m 170 ls [.int xs1, .int xs0]) := by
  intro x1 x3 x4 x5 x6 x7 x8 xs0 xs1 M H locs ls hw hS hl hb4 hb7 hbs1 hf
  unfold fX6_passesMinute_b170 at hf
  refine lv_iadd hx hb dX6_passesMinute_170 ?_
  refine lv_istore_n (lv' := [(2, .int (xs0 + xs1)), (0, .ref (a + 77)), (1, .int x1), (3, .int x3), (4, .int x4), (5, .int x5), (6, .int x6), (7, .int x7), (8, .int x8)]) hx hb dX6_passesMinute_171 rfl hl (Nat.le_of_ble_eq_true rfl) rfl (fun ls hl => ?_)
  refine lv_iload_n hx hb dX6_passesMinute_172 rfl (lv_at hl 3 rfl) ?_
  refine lv_iload hx hb dX6_passesMinute_173 (lv_at hl 7 rfl) ?_
  refine lv_if_eq (tgt := 182) hx hb dX6_passesMinute_175 (by decide) (fun c1 => ?_) (fun c1 => ?_)
  · have hf := ip c1 hf
    refine lv_iconst (v := (0 : Int32)) hx hb dX6_passesMinute_182 (by decide) ?_
    exact bX6_passesMinute_183 hx hb hr hml hown hts hlocks hK hZ kL30 hkL30 _ _ _ _ _ _ _ _ _ _ _ _ hw hS (lv_sub hl [1, 2, 0, 4, 5, 6, 8] rfl) hb4 rfl hf
  · have hf := iq c1 hf
    refine lv_iconst (v := (1 : Int32)) hx hb dX6_passesMinute_178 (by decide) ?_
    refine lv_goto (tgt := 183) hx hb dX6_passesMinute_179 (by decide) ?_
    exact bX6_passesMinute_183 hx hb hr hml hown hts hlocks hK hZ kL30 hkL30 _ _ _ _ _ _ _ _ _ _ _ _ hw hS (lv_sub hl [1, 2, 0, 4, 5, 6, 8] rfl) hb4 rfl hf
set_option maxRecDepth 100000 in
set_option maxHeartbeats 4000000 in
theorem bX6_passesMinute_155 {p : Program} {l : Launch} {e : Env} {s : State} {m : MethodId} {args : Array Value} {below : List Frame} {meth : Method} {c : Code} {D : va_G} {cy : Nat → ClassId} {a : Nat} (hx : p.tables.exec = Jvm.exec) (hb : c.code = cX6_passesMinute) (hr : meth.sig.returnType = (some .int)) (hml : c.maxLocals = 9) (hown : s.vm.findClass RX6 = some m.cls) (hts : ∀ w ∈ wsX6_passesMinute, w.before args s = true) (hlocks : meth.locks = false) (hK : KS D cy s) (hZ : ZZ a s s.heap) {out : Int32 × Mm} (kL30 : Int32 → Int32 → Int32 → Int32 → Int32 → Mm → Option (Int32 × Mm)) (hkL30 : ∀ (x1 : Int32) (x2 : Int32) (x3 : Int32) (x4 : Int32) (x5 : Int32) (M : Mm) (H : Heap) (locs : List Loc) (ls : Array Slot), HP D cy a M H → va_S (Aq a) s.heap H locs → lv_has ls 9 [(0, .ref (a + 77)), (1, .int x1), (2, .int x2), (3, .int x3), (4, .int x4), (5, .int x5)] → narrow .boolean (.int x4) = .int x4 → kL30 x1 x2 x3 x4 x5 M = some out → W p l e rX6_passesMinute s m args below meth c H locs 0 0 (MQ below (QI D cy a out.1 out.2) args s 0 0 (Aq a)) (F0 m 30 ls [])) : ∀ (x1 : Int32) (x2 : Int32) (x3 : Int32) (x4 : Int32) (x5 : Int32) (x6 : Int32) (x7 : Int32) (xs0 : Int32) (M : Mm) (H : Heap) (locs : List Loc) (ls : Array Slot), HP D cy a M H → va_S (Aq a) s.heap H locs → lv_has ls 9 [(0, .ref (a + 77)), (1, .int x1), (2, .int x2), (3, .int x3), (4, .int x4), (5, .int x5), (6, .int x6), (7, .int x7)] → narrow .boolean (.int x4) = .int x4 → narrow .boolean (.int x7) = .int x7 → fX6_passesMinute_b155 kL30 x1 x2 x3 x4 x5 x6 x7 xs0 M = some out → W p l e rX6_passesMinute s m args below meth c H locs 0 0 (MQ below (QI D cy a out.1 out.2) args s 0 0 (Aq a)) (F0 m 155 ls [.int xs0]) := by
  intro x1 x2 x3 x4 x5 x6 x7 xs0 M H locs ls hw hS hl hb4 hb7 hf
  unfold fX6_passesMinute_b155 at hf
  refine lv_istore (lv' := [(8, .int xs0), (0, .ref (a + 77)), (1, .int x1), (2, .int x2), (3, .int x3), (4, .int x4), (5, .int x5), (6, .int x6), (7, .int x7)]) hx hb dX6_passesMinute_155 hl (Nat.le_of_ble_eq_true rfl) rfl (fun ls hl => ?_)
  refine lv_iload_n hx hb dX6_passesMinute_157 rfl (lv_at hl 3 rfl) ?_
  refine lv_aload_n hx hb dX6_passesMinute_158 rfl (lv_at hl 1 rfl) ?_
  refine rGetI hx hb hts iX6_passesMinute_X6 hown hK hw (Nat.le_of_ble_eq_true rfl) en_model rfl 44 (by decide) (hts _ kX6_passesMinute_0) rfl ge6_44 dX6_passesMinute_159 ?_
  refine lv_if_eq (tgt := 169) hx hb dX6_passesMinute_162 (by decide) (fun c1 => ?_) (fun c1 => ?_)
  · have hf := ip c1 hf
    refine lv_iconst (v := (0 : Int32)) hx hb dX6_passesMinute_169 (by decide) ?_
    exact bX6_passesMinute_170 hx hb hr hml hown hts hlocks hK hZ kL30 hkL30 _ _ _ _ _ _ _ _ _ _ _ _ _ hw hS (lv_sub hl [1, 2, 4, 5, 6, 7, 8, 0] rfl) hb4 hb7 rfl hf
  · have hf := iq c1 hf
    refine lv_iconst (v := (1 : Int32)) hx hb dX6_passesMinute_165 (by decide) ?_
    refine lv_goto (tgt := 170) hx hb dX6_passesMinute_166 (by decide) ?_
    exact bX6_passesMinute_170 hx hb hr hml hown hts hlocks hK hZ kL30 hkL30 _ _ _ _ _ _ _ _ _ _ _ _ _ hw hS (lv_sub hl [1, 2, 4, 5, 6, 7, 8, 0] rfl) hb4 hb7 rfl hf
set_option maxRecDepth 100000 in
set_option maxHeartbeats 4000000 in
theorem bX6_passesMinute_121 {p : Program} {l : Launch} {e : Env} {s : State} {m : MethodId} {args : Array Value} {below : List Frame} {meth : Method} {c : Code} {D : va_G} {cy : Nat → ClassId} {a : Nat} (hx : p.tables.exec = Jvm.exec) (hb : c.code = cX6_passesMinute) (hr : meth.sig.returnType = (some .int)) (hml : c.maxLocals = 9) (hown : s.vm.findClass RX6 = some m.cls) (hts : ∀ w ∈ wsX6_passesMinute, w.before args s = true) (hlocks : meth.locks = false) (hK : KS D cy s) (hZ : ZZ a s s.heap) {out : Int32 × Mm} (kL30 : Int32 → Int32 → Int32 → Int32 → Int32 → Mm → Option (Int32 × Mm)) (hkL30 : ∀ (x1 : Int32) (x2 : Int32) (x3 : Int32) (x4 : Int32) (x5 : Int32) (M : Mm) (H : Heap) (locs : List Loc) (ls : Array Slot), HP D cy a M H → va_S (Aq a) s.heap H locs → lv_has ls 9 [(0, .ref (a + 77)), (1, .int x1), (2, .int x2), (3, .int x3), (4, .int x4), (5, .int x5)] → narrow .boolean (.int x4) = .int x4 → kL30 x1 x2 x3 x4 x5 M = some out → W p l e rX6_passesMinute s m args below meth c H locs 0 0 (MQ below (QI D cy a out.1 out.2) args s 0 0 (Aq a)) (F0 m 30 ls [])) : ∀ (x1 : Int32) (x2 : Int32) (x3 : Int32) (x4 : Int32) (x5 : Int32) (x6 : Int32) (xs0 : Int32) (M : Mm) (H : Heap) (locs : List Loc) (ls : Array Slot), HP D cy a M H → va_S (Aq a) s.heap H locs → lv_has ls 9 [(0, .ref (a + 77)), (1, .int x1), (2, .int x2), (3, .int x3), (4, .int x4), (5, .int x5), (6, .int x6)] → narrow .boolean (.int x4) = .int x4 → narrow .boolean (.int xs0) = .int xs0 → fX6_passesMinute_b121 kL30 x1 x2 x3 x4 x5 x6 xs0 M = some out → W p l e rX6_passesMinute s m args below meth c H locs 0 0 (MQ below (QI D cy a out.1 out.2) args s 0 0 (Aq a)) (F0 m 121 ls [.int xs0]) := by
  intro x1 x2 x3 x4 x5 x6 xs0 M H locs ls hw hS hl hb4 hbs0 hf
  unfold fX6_passesMinute_b121 at hf
  refine lv_istore (lv' := [(7, .int xs0), (0, .ref (a + 77)), (1, .int x1), (2, .int x2), (3, .int x3), (4, .int x4), (5, .int x5), (6, .int x6)]) hx hb dX6_passesMinute_121 hl (Nat.le_of_ble_eq_true rfl) rfl (fun ls hl => ?_)
  refine lv_aload_n hx hb dX6_passesMinute_123 rfl (lv_at hl 1 rfl) ?_
  refine rGetI hx hb hts iX6_passesMinute_X6 hown hK hw (Nat.le_of_ble_eq_true rfl) en_model rfl 44 (by decide) (hts _ kX6_passesMinute_0) rfl ge6_44 dX6_passesMinute_124 ?_
  refine lv_if_eq (tgt := 137) hx hb dX6_passesMinute_127 (by decide) (fun c1 => ?_) (fun c1 => ?_)
  · have hf := ip c1 hf
    refine lv_iload hx hb dX6_passesMinute_137 (lv_at hl 0 rfl) ?_
    refine lv_if_eq (tgt := 149) hx hb dX6_passesMinute_139 (by decide) (fun c2 => ?_) (fun c2 => ?_)
    · have hf := ip c2 hf
      refine lv_aload_n hx hb dX6_passesMinute_149 rfl (lv_at hl 1 rfl) ?_
      refine rGetI hx hb hts iX6_passesMinute_X6 hown hK hw (Nat.le_of_ble_eq_true rfl) en_model rfl 1 (by decide) (hts _ kX6_passesMinute_1) rfl ge6_1 dX6_passesMinute_150 ?_
      refine lv_iconst (v := (1 : Int32)) hx hb dX6_passesMinute_153 (by decide) ?_
      refine lv_isub hx hb dX6_passesMinute_154 ?_
      exact bX6_passesMinute_155 hx hb hr hml hown hts hlocks hK hZ kL30 hkL30 _ _ _ _ _ _ _ _ _ _ _ _ hw hS (lv_sub hl [1, 2, 3, 4, 5, 6, 7, 0] rfl) hb4 hbs0 hf
    · have hf := iq c2 hf
      refine lv_aload_n hx hb dX6_passesMinute_142 rfl (lv_at hl 1 rfl) ?_
      refine rGetI hx hb hts iX6_passesMinute_X6 hown hK hw (Nat.le_of_ble_eq_true rfl) en_model rfl 29 (by decide) (hts _ kX6_passesMinute_2) rfl ge6_29 dX6_passesMinute_143 ?_
      refine lv_goto (tgt := 155) hx hb dX6_passesMinute_146 (by decide) ?_
      exact bX6_passesMinute_155 hx hb hr hml hown hts hlocks hK hZ kL30 hkL30 _ _ _ _ _ _ _ _ _ _ _ _ hw hS (lv_sub hl [1, 2, 3, 4, 5, 6, 7, 0] rfl) hb4 hbs0 hf
  · have hf := iq c1 hf
    refine lv_aload_n hx hb dX6_passesMinute_130 rfl (lv_at hl 1 rfl) ?_
    refine rGetI hx hb hts iX6_passesMinute_X6 hown hK hw (Nat.le_of_ble_eq_true rfl) en_model rfl 32 (by decide) (hts _ kX6_passesMinute_3) rfl ge6_32 dX6_passesMinute_131 ?_
    refine lv_goto (tgt := 155) hx hb dX6_passesMinute_134 (by decide) ?_
    exact bX6_passesMinute_155 hx hb hr hml hown hts hlocks hK hZ kL30 hkL30 _ _ _ _ _ _ _ _ _ _ _ _ hw hS (lv_sub hl [1, 2, 3, 4, 5, 6, 7, 0] rfl) hb4 hbs0 hf
set_option maxRecDepth 100000 in
set_option maxHeartbeats 4000000 in
theorem bX6_passesMinute_120 {p : Program} {l : Launch} {e : Env} {s : State} {m : MethodId} {args : Array Value} {below : List Frame} {meth : Method} {c : Code} {D : va_G} {cy : Nat → ClassId} {a : Nat} (hx : p.tables.exec = Jvm.exec) (hb : c.code = cX6_passesMinute) (hr : meth.sig.returnType = (some .int)) (hml : c.maxLocals = 9) (hown : s.vm.findClass RX6 = some m.cls) (hts : ∀ w ∈ wsX6_passesMinute, w.before args s = true) (hlocks : meth.locks = false) (hK : KS D cy s) (hZ : ZZ a s s.heap) {out : Int32 × Mm} (kL30 : Int32 → Int32 → Int32 → Int32 → Int32 → Mm → Option (Int32 × Mm)) (hkL30 : ∀ (x1 : Int32) (x2 : Int32) (x3 : Int32) (x4 : Int32) (x5 : Int32) (M : Mm) (H : Heap) (locs : List Loc) (ls : Array Slot), HP D cy a M H → va_S (Aq a) s.heap H locs → lv_has ls 9 [(0, .ref (a + 77)), (1, .int x1), (2, .int x2), (3, .int x3), (4, .int x4), (5, .int x5)] → narrow .boolean (.int x4) = .int x4 → kL30 x1 x2 x3 x4 x5 M = some out → W p l e rX6_passesMinute s m args below meth c H locs 0 0 (MQ below (QI D cy a out.1 out.2) args s 0 0 (Aq a)) (F0 m 30 ls [])) : ∀ (x1 : Int32) (x2 : Int32) (x3 : Int32) (x4 : Int32) (x5 : Int32) (x6 : Int32) (M : Mm) (H : Heap) (locs : List Loc) (ls : Array Slot), HP D cy a M H → va_S (Aq a) s.heap H locs → lv_has ls 9 [(0, .ref (a + 77)), (1, .int x1), (2, .int x2), (3, .int x3), (4, .int x4), (5, .int x5), (6, .int x6)] → narrow .boolean (.int x4) = .int x4 → fX6_passesMinute_b120 kL30 x1 x2 x3 x4 x5 x6 M = some out → W p l e rX6_passesMinute s m args below meth c H locs 0 0 (MQ below (QI D cy a out.1 out.2) args s 0 0 (Aq a)) (F0 m 120 ls []) := by
  intro x1 x2 x3 x4 x5 x6 M H locs ls hw hS hl hb4 hf
  unfold fX6_passesMinute_b120 at hf
  refine lv_iconst (v := (0 : Int32)) hx hb dX6_passesMinute_120 (by decide) ?_
  exact bX6_passesMinute_121 hx hb hr hml hown hts hlocks hK hZ kL30 hkL30 _ _ _ _ _ _ _ _ _ _ _ hw hS (lv_sub hl [0, 1, 2, 3, 4, 5, 6] rfl) hb4 rfl hf
set_option maxRecDepth 100000 in
set_option maxHeartbeats 4000000 in
theorem bX6_passesMinute_90 {p : Program} {l : Launch} {e : Env} {s : State} {m : MethodId} {args : Array Value} {below : List Frame} {meth : Method} {c : Code} {D : va_G} {cy : Nat → ClassId} {a : Nat} (hx : p.tables.exec = Jvm.exec) (hb : c.code = cX6_passesMinute) (hr : meth.sig.returnType = (some .int)) (hml : c.maxLocals = 9) (hown : s.vm.findClass RX6 = some m.cls) (hts : ∀ w ∈ wsX6_passesMinute, w.before args s = true) (hlocks : meth.locks = false) (hK : KS D cy s) (hZ : ZZ a s s.heap) {out : Int32 × Mm} (kL30 : Int32 → Int32 → Int32 → Int32 → Int32 → Mm → Option (Int32 × Mm)) (hkL30 : ∀ (x1 : Int32) (x2 : Int32) (x3 : Int32) (x4 : Int32) (x5 : Int32) (M : Mm) (H : Heap) (locs : List Loc) (ls : Array Slot), HP D cy a M H → va_S (Aq a) s.heap H locs → lv_has ls 9 [(0, .ref (a + 77)), (1, .int x1), (2, .int x2), (3, .int x3), (4, .int x4), (5, .int x5)] → narrow .boolean (.int x4) = .int x4 → kL30 x1 x2 x3 x4 x5 M = some out → W p l e rX6_passesMinute s m args below meth c H locs 0 0 (MQ below (QI D cy a out.1 out.2) args s 0 0 (Aq a)) (F0 m 30 ls [])) : ∀ (x1 : Int32) (x2 : Int32) (x3 : Int32) (x4 : Int32) (x5 : Int32) (x6 : Int32) (xs1 : Int32) (M : Mm) (H : Heap) (locs : List Loc) (ls : Array Slot), HP D cy a M H → va_S (Aq a) s.heap H locs → lv_has ls 9 [(0, .ref (a + 77)), (1, .int x1), (2, .int x2), (3, .int x3), (4, .int x4), (5, .int x5), (6, .int x6)] → narrow .boolean (.int x4) = .int x4 → narrow .boolean (.int xs1) = .int xs1 → fX6_passesMinute_b90 kL30 x1 x2 x3 x4 x5 x6 xs1 M = some out → W p l e rX6_passesMinute s m args below meth c H locs 0 0 (MQ below (QI D cy a out.1 out.2) args s 0 0 (Aq a)) (F0 m 90 ls [.int xs1, .ref (a + 77)]) := by
  intro x1 x2 x3 x4 x5 x6 xs1 M H locs ls hw hS hl hb4 hbs1 hf
  unfold fX6_passesMinute_b90 at hf
  refine rPut hx hb hts iX6_passesMinute_X6 tyX6 tyX6_ok nmX6 hown hK hw hS (Nat.le_of_ble_eq_true rfl) en_model rfl 44 (by decide) (hts _ kX6_passesMinute_0) rfl rfl hbs1 (bfit hbs1) (Nat.le_of_ble_eq_true rfl) hs6_44 dX6_passesMinute_90 (fun H locs hw hS => ?_)
  refine lv_aload_n hx hb dX6_passesMinute_93 rfl (lv_at hl 0 rfl) ?_
  refine rGetI hx hb hts iX6_passesMinute_X6 hown hK hw (Nat.le_of_ble_eq_true rfl) en_model rfl 44 (by decide) (hts _ kX6_passesMinute_0) rfl ge6_44 dX6_passesMinute_94 ?_
  refine lv_if_ne (tgt := 120) hx hb dX6_passesMinute_97 (by decide) (fun c1 => ?_) (fun c1 => ?_)
  · have hf := iq c1 hf
    exact bX6_passesMinute_120 hx hb hr hml hown hts hlocks hK hZ kL30 hkL30 _ _ _ _ _ _ _ _ _ _ hw hS (lv_sub hl [0, 1, 2, 3, 4, 5, 6] rfl) hb4 hf
  · have hf := ip c1 hf
    refine lv_aload_n hx hb dX6_passesMinute_100 rfl (lv_at hl 0 rfl) ?_
    refine rGetI hx hb hts iX6_passesMinute_X6 hown hK hw (Nat.le_of_ble_eq_true rfl) en_model rfl 29 (by decide) (hts _ kX6_passesMinute_2) rfl ge6_29 dX6_passesMinute_101 ?_
    refine lv_iconst (v := (-1 : Int32)) hx hb dX6_passesMinute_104 (by decide) ?_
    refine lv_icmp_eq (tgt := 120) hx hb dX6_passesMinute_105 (by decide) (fun c2 => ?_) (fun c2 => ?_)
    · have hf := ip c2 hf
      exact bX6_passesMinute_120 hx hb hr hml hown hts hlocks hK hZ kL30 hkL30 _ _ _ _ _ _ _ _ _ _ hw hS (lv_sub hl [0, 1, 2, 3, 4, 5, 6] rfl) hb4 hf
    · have hf := iq c2 hf
      refine lv_iload_n hx hb dX6_passesMinute_108 rfl (lv_at hl 3 rfl) ?_
      refine lv_aload_n hx hb dX6_passesMinute_109 rfl (lv_at hl 0 rfl) ?_
      refine rGetI hx hb hts iX6_passesMinute_X6 hown hK hw (Nat.le_of_ble_eq_true rfl) en_model rfl 30 (by decide) (hts _ kX6_passesMinute_4) rfl ge6_30 dX6_passesMinute_110 ?_
      refine lv_icmp_ge (tgt := 120) hx hb dX6_passesMinute_113 (by decide) (fun c3 => ?_) (fun c3 => ?_)
      · have hf := ip c3 hf
        exact bX6_passesMinute_120 hx hb hr hml hown hts hlocks hK hZ kL30 hkL30 _ _ _ _ _ _ _ _ _ _ hw hS (lv_sub hl [0, 1, 2, 3, 4, 5, 6] rfl) hb4 hf
      · have hf := iq c3 hf
        refine lv_iconst (v := (1 : Int32)) hx hb dX6_passesMinute_116 (by decide) ?_
        refine lv_goto (tgt := 121) hx hb dX6_passesMinute_117 (by decide) ?_
        exact bX6_passesMinute_121 hx hb hr hml hown hts hlocks hK hZ kL30 hkL30 _ _ _ _ _ _ _ _ _ _ _ hw hS (lv_sub hl [0, 1, 2, 3, 4, 5, 6] rfl) hb4 rfl hf
set_option maxRecDepth 100000 in
set_option maxHeartbeats 4000000 in
theorem bX6_passesMinute_89 {p : Program} {l : Launch} {e : Env} {s : State} {m : MethodId} {args : Array Value} {below : List Frame} {meth : Method} {c : Code} {D : va_G} {cy : Nat → ClassId} {a : Nat} (hx : p.tables.exec = Jvm.exec) (hb : c.code = cX6_passesMinute) (hr : meth.sig.returnType = (some .int)) (hml : c.maxLocals = 9) (hown : s.vm.findClass RX6 = some m.cls) (hts : ∀ w ∈ wsX6_passesMinute, w.before args s = true) (hlocks : meth.locks = false) (hK : KS D cy s) (hZ : ZZ a s s.heap) {out : Int32 × Mm} (kL30 : Int32 → Int32 → Int32 → Int32 → Int32 → Mm → Option (Int32 × Mm)) (hkL30 : ∀ (x1 : Int32) (x2 : Int32) (x3 : Int32) (x4 : Int32) (x5 : Int32) (M : Mm) (H : Heap) (locs : List Loc) (ls : Array Slot), HP D cy a M H → va_S (Aq a) s.heap H locs → lv_has ls 9 [(0, .ref (a + 77)), (1, .int x1), (2, .int x2), (3, .int x3), (4, .int x4), (5, .int x5)] → narrow .boolean (.int x4) = .int x4 → kL30 x1 x2 x3 x4 x5 M = some out → W p l e rX6_passesMinute s m args below meth c H locs 0 0 (MQ below (QI D cy a out.1 out.2) args s 0 0 (Aq a)) (F0 m 30 ls [])) : ∀ (x1 : Int32) (x2 : Int32) (x3 : Int32) (x4 : Int32) (x5 : Int32) (x6 : Int32) (M : Mm) (H : Heap) (locs : List Loc) (ls : Array Slot), HP D cy a M H → va_S (Aq a) s.heap H locs → lv_has ls 9 [(0, .ref (a + 77)), (1, .int x1), (2, .int x2), (3, .int x3), (4, .int x4), (5, .int x5), (6, .int x6)] → narrow .boolean (.int x4) = .int x4 → fX6_passesMinute_b89 kL30 x1 x2 x3 x4 x5 x6 M = some out → W p l e rX6_passesMinute s m args below meth c H locs 0 0 (MQ below (QI D cy a out.1 out.2) args s 0 0 (Aq a)) (F0 m 89 ls [.ref (a + 77)]) := by
  intro x1 x2 x3 x4 x5 x6 M H locs ls hw hS hl hb4 hf
  unfold fX6_passesMinute_b89 at hf
  refine lv_iconst (v := (0 : Int32)) hx hb dX6_passesMinute_89 (by decide) ?_
  exact bX6_passesMinute_90 hx hb hr hml hown hts hlocks hK hZ kL30 hkL30 _ _ _ _ _ _ _ _ _ _ _ hw hS (lv_sub hl [0, 1, 2, 3, 4, 5, 6] rfl) hb4 rfl hf
set_option maxRecDepth 100000 in
set_option maxHeartbeats 4000000 in
theorem bX6_passesMinute_61 {p : Program} {l : Launch} {e : Env} {s : State} {m : MethodId} {args : Array Value} {below : List Frame} {meth : Method} {c : Code} {D : va_G} {cy : Nat → ClassId} {a : Nat} (hx : p.tables.exec = Jvm.exec) (hb : c.code = cX6_passesMinute) (hr : meth.sig.returnType = (some .int)) (hml : c.maxLocals = 9) (hown : s.vm.findClass RX6 = some m.cls) (hts : ∀ w ∈ wsX6_passesMinute, w.before args s = true) (hlocks : meth.locks = false) (hK : KS D cy s) (hZ : ZZ a s s.heap) {out : Int32 × Mm} (kL30 : Int32 → Int32 → Int32 → Int32 → Int32 → Mm → Option (Int32 × Mm)) (hkL30 : ∀ (x1 : Int32) (x2 : Int32) (x3 : Int32) (x4 : Int32) (x5 : Int32) (M : Mm) (H : Heap) (locs : List Loc) (ls : Array Slot), HP D cy a M H → va_S (Aq a) s.heap H locs → lv_has ls 9 [(0, .ref (a + 77)), (1, .int x1), (2, .int x2), (3, .int x3), (4, .int x4), (5, .int x5)] → narrow .boolean (.int x4) = .int x4 → kL30 x1 x2 x3 x4 x5 M = some out → W p l e rX6_passesMinute s m args below meth c H locs 0 0 (MQ below (QI D cy a out.1 out.2) args s 0 0 (Aq a)) (F0 m 30 ls [])) : ∀ (x1 : Int32) (x2 : Int32) (x3 : Int32) (x5 : Int32) (x6 : Int32) (xs0 : Int32) (M : Mm) (H : Heap) (locs : List Loc) (ls : Array Slot), HP D cy a M H → va_S (Aq a) s.heap H locs → lv_has ls 9 [(0, .ref (a + 77)), (1, .int x1), (2, .int x2), (3, .int x3), (5, .int x5), (6, .int x6)] → narrow .boolean (.int xs0) = .int xs0 → fX6_passesMinute_b61 kL30 x1 x2 x3 x5 x6 xs0 M = some out → W p l e rX6_passesMinute s m args below meth c H locs 0 0 (MQ below (QI D cy a out.1 out.2) args s 0 0 (Aq a)) (F0 m 61 ls [.int xs0]) := by
  intro x1 x2 x3 x5 x6 xs0 M H locs ls hw hS hl hbs0 hf
  unfold fX6_passesMinute_b61 at hf
  refine lv_istore (lv' := [(4, .int xs0), (0, .ref (a + 77)), (1, .int x1), (2, .int x2), (3, .int x3), (5, .int x5), (6, .int x6)]) hx hb dX6_passesMinute_61 hl (Nat.le_of_ble_eq_true rfl) rfl (fun ls hl => ?_)
  refine lv_iload hx hb dX6_passesMinute_63 (lv_at hl 0 rfl) ?_
  refine lv_if_eq (tgt := 202) hx hb dX6_passesMinute_65 (by decide) (fun c1 => ?_) (fun c1 => ?_)
  · have hf := ip c1 hf
    refine lv_iinc (v := x5 + (1 : Int32)) (lv' := [(5, .int (x5 + (1 : Int32))), (4, .int xs0), (0, .ref (a + 77)), (1, .int x1), (2, .int x2), (3, .int x3), (6, .int x6)]) hx hb dX6_passesMinute_202 hl (k := 5) rfl rfl (Nat.le_of_ble_eq_true rfl) rfl (fun ls hl => ?_)
    refine lv_goto (tgt := 30) hx hb dX6_passesMinute_205 (by decide) ?_
    exact hkL30 _ _ _ _ _ _ _ _ _ hw hS (lv_sub hl [2, 3, 4, 5, 1, 0] rfl) hbs0 hf
  · have hf := iq c1 hf
    refine lv_aload_n hx hb dX6_passesMinute_68 rfl (lv_at hl 1 rfl) ?_
    refine lv_aload_n hx hb dX6_passesMinute_69 rfl (lv_at hl 1 rfl) ?_
    refine rGetI hx hb hts iX6_passesMinute_X6 hown hK hw (Nat.le_of_ble_eq_true rfl) en_model rfl 32 (by decide) (hts _ kX6_passesMinute_3) rfl ge6_32 dX6_passesMinute_70 ?_
    refine lv_iconst (v := (-1 : Int32)) hx hb dX6_passesMinute_73 (by decide) ?_
    refine lv_icmp_eq (tgt := 89) hx hb dX6_passesMinute_74 (by decide) (fun c2 => ?_) (fun c2 => ?_)
    · have hf := ip c2 hf
      exact bX6_passesMinute_89 hx hb hr hml hown hts hlocks hK hZ kL30 hkL30 _ _ _ _ _ _ _ _ _ _ hw hS (lv_sub hl [1, 2, 3, 4, 0, 5, 6] rfl) hbs0 hf
    · have hf := iq c2 hf
      refine lv_iload_n hx hb dX6_passesMinute_77 rfl (lv_at hl 3 rfl) ?_
      refine lv_aload_n hx hb dX6_passesMinute_78 rfl (lv_at hl 1 rfl) ?_
      refine rGetI hx hb hts iX6_passesMinute_X6 hown hK hw (Nat.le_of_ble_eq_true rfl) en_model rfl 33 (by decide) (hts _ kX6_passesMinute_5) rfl ge6_33 dX6_passesMinute_79 ?_
      refine lv_icmp_ge (tgt := 89) hx hb dX6_passesMinute_82 (by decide) (fun c3 => ?_) (fun c3 => ?_)
      · have hf := ip c3 hf
        exact bX6_passesMinute_89 hx hb hr hml hown hts hlocks hK hZ kL30 hkL30 _ _ _ _ _ _ _ _ _ _ hw hS (lv_sub hl [1, 2, 3, 4, 0, 5, 6] rfl) hbs0 hf
      · have hf := iq c3 hf
        refine lv_iconst (v := (1 : Int32)) hx hb dX6_passesMinute_85 (by decide) ?_
        refine lv_goto (tgt := 90) hx hb dX6_passesMinute_86 (by decide) ?_
        exact bX6_passesMinute_90 hx hb hr hml hown hts hlocks hK hZ kL30 hkL30 _ _ _ _ _ _ _ _ _ _ _ hw hS (lv_sub hl [1, 2, 3, 4, 0, 5, 6] rfl) hbs0 rfl hf
set_option maxRecDepth 100000 in
set_option maxHeartbeats 4000000 in
theorem bX6_passesMinute_258 {p : Program} {l : Launch} {e : Env} {s : State} {m : MethodId} {args : Array Value} {below : List Frame} {meth : Method} {c : Code} {D : va_G} {cy : Nat → ClassId} {a : Nat} (hx : p.tables.exec = Jvm.exec) (hb : c.code = cX6_passesMinute) (hr : meth.sig.returnType = (some .int)) (hml : c.maxLocals = 9) (hown : s.vm.findClass RX6 = some m.cls) (hts : ∀ w ∈ wsX6_passesMinute, w.before args s = true) (hlocks : meth.locks = false) (hK : KS D cy s) (hZ : ZZ a s s.heap) {out : Int32 × Mm} : ∀ (x1 : Int32) (x2 : Int32) (M : Mm) (H : Heap) (locs : List Loc) (ls : Array Slot), HP D cy a M H → va_S (Aq a) s.heap H locs → lv_has ls 9 [(0, .ref (a + 77)), (1, .int x1), (2, .int x2)] → fX6_passesMinute_b258 x1 x2 M = some out → W p l e rX6_passesMinute s m args below meth c H locs 0 0 (MQ below (QI D cy a out.1 out.2) args s 0 0 (Aq a)) (F0 m 258 ls []) := by
  intro x1 x2 M H locs ls hw hS hl hf
  unfold fX6_passesMinute_b258 at hf
  refine lv_aload_n hx hb dX6_passesMinute_258 rfl (lv_at hl 0 rfl) ?_
  refine rGet hx hb hts iX6_passesMinute_X6 hown hK hw (Nat.le_of_ble_eq_true rfl) en_model rfl 42 (by decide) (hts _ kX6_passesMinute_6) rfl rfl dX6_passesMinute_259 ?_
  refine lv_aload_n hx hb dX6_passesMinute_262 rfl (lv_at hl 0 rfl) ?_
  refine rGetI hx hb hts iX6_passesMinute_X6 hown hK hw (Nat.le_of_ble_eq_true rfl) en_model rfl 0 (by decide) (hts _ kX6_passesMinute_7) rfl ge6_0 dX6_passesMinute_263 ?_
  refine lv_iconst (v := (5 : Int32)) hx hb dX6_passesMinute_266 (by decide) ?_
  refine lv_irem hx hb dX6_passesMinute_267 (by decide) ?_
  refine lv_iload_n hx hb dX6_passesMinute_268 rfl (lv_at hl 2 rfl) ?_
  obtain ⟨hg1, hf⟩ := og hf
  refine rIast hx hb hK hw hS (Nat.le_of_ble_eq_true rfl) (fun _ => en_a102) hg1 dX6_passesMinute_269 (fun H locs hw hS => ?_)
  refine lv_iload_n hx hb dX6_passesMinute_270 rfl (lv_at hl 1 rfl) ?_
  obtain rfl := Option.some.inj hf
  exact rIret hx hb hr hlocks hw hS dX6_passesMinute_271
set_option maxRecDepth 100000 in
set_option maxHeartbeats 4000000 in
theorem bX6_passesMinute_211 {p : Program} {l : Launch} {e : Env} {s : State} {m : MethodId} {args : Array Value} {below : List Frame} {meth : Method} {c : Code} {D : va_G} {cy : Nat → ClassId} {a : Nat} (hx : p.tables.exec = Jvm.exec) (hb : c.code = cX6_passesMinute) (hr : meth.sig.returnType = (some .int)) (hml : c.maxLocals = 9) (hown : s.vm.findClass RX6 = some m.cls) (hts : ∀ w ∈ wsX6_passesMinute, w.before args s = true) (hlocks : meth.locks = false) (hK : KS D cy s) (hZ : ZZ a s s.heap) {out : Int32 × Mm} : ∀ (n : Nat), ∀ (x1 : Int32) (x2 : Int32) (x5 : Int32) (M : Mm) (H : Heap) (locs : List Loc) (ls : Array Slot), HP D cy a M H → va_S (Aq a) s.heap H locs → lv_has ls 9 [(0, .ref (a + 77)), (1, .int x1), (2, .int x2), (5, .int x5)] → fX6_passesMinute_L211 n x1 x2 x5 M = some out → W p l e rX6_passesMinute s m args below meth c H locs 0 0 (MQ below (QI D cy a out.1 out.2) args s 0 0 (Aq a)) (F0 m 211 ls []) := by
  intro n
  induction n with
  | zero =>
    intro x1 x2 x5 M H locs ls hw hS hl hf
    have hf : (none : Option (Int32 × Mm)) = some out := hf
    cases hf
  | succ n ih =>
    intro x1 x2 x5 M H locs ls hw hS hl hf
    unfold fX6_passesMinute_L211 at hf
    refine lv_iload hx hb dX6_passesMinute_211 (lv_at hl 3 rfl) ?_
    refine lv_aload_n hx hb dX6_passesMinute_213 rfl (lv_at hl 0 rfl) ?_
    refine rGetI hx hb hts iX6_passesMinute_X6 hown hK hw (Nat.le_of_ble_eq_true rfl) en_model rfl 1 (by decide) (hts _ kX6_passesMinute_1) rfl ge6_1 dX6_passesMinute_214 ?_
    refine lv_icmp_ge (tgt := 258) hx hb dX6_passesMinute_217 (by decide) (fun c1 => ?_) (fun c1 => ?_)
    · have hf := ip c1 hf
      exact bX6_passesMinute_258 hx hb hr hml hown hts hlocks hK hZ _ _ _ _ _ _ hw hS (lv_sub hl [0, 1, 2] rfl) hf
    · have hf := iq c1 hf
      refine lv_iload_n hx hb dX6_passesMinute_220 rfl (lv_at hl 1 rfl) ?_
      refine lv_if_le (tgt := 258) hx hb dX6_passesMinute_221 (by decide) (fun c2 => ?_) (fun c2 => ?_)
      · have hf := ip c2 hf
        exact bX6_passesMinute_258 hx hb hr hml hown hts hlocks hK hZ _ _ _ _ _ _ hw hS (lv_sub hl [0, 1, 2] rfl) hf
      · have hf := iq c2 hf
        refine lv_aload_n hx hb dX6_passesMinute_224 rfl (lv_at hl 0 rfl) ?_
        refine rGet hx hb hts iX6_passesMinute_X6 hown hK hw (Nat.le_of_ble_eq_true rfl) en_model rfl 5 (by decide) (hts _ kX6_passesMinute_8) rfl rfl dX6_passesMinute_225 ?_
        refine lv_iload hx hb dX6_passesMinute_228 (lv_at hl 3 rfl) ?_
        refine lv_dup2_11 hx hb dX6_passesMinute_230 rfl rfl ?_
        obtain ⟨hg3, hf⟩ := og hf
        refine rIald hx hb hK hw (Nat.le_of_ble_eq_true rfl) en_a81 hg3 dX6_passesMinute_231 ?_
        refine lv_aload_n hx hb dX6_passesMinute_232 rfl (lv_at hl 0 rfl) ?_
        refine rGet hx hb hts iX6_passesMinute_X6 hown hK hw (Nat.le_of_ble_eq_true rfl) en_model rfl 5 (by decide) (hts _ kX6_passesMinute_8) rfl rfl dX6_passesMinute_233 ?_
        refine lv_iload hx hb dX6_passesMinute_236 (lv_at hl 3 rfl) ?_
        obtain ⟨hg4, hf⟩ := og hf
        refine rIald hx hb hK hw (Nat.le_of_ble_eq_true rfl) en_a81 hg4 dX6_passesMinute_238 ?_
        refine lv_sipush (v := (200 : Int32)) hx hb dX6_passesMinute_239 (by decide) ?_
        refine lv_icmp_ge (tgt := 249) hx hb dX6_passesMinute_242 (by decide) (fun c5 => ?_) (fun c5 => ?_)
        · have hf := ip c5 hf
          refine lv_iconst (v := (0 : Int32)) hx hb dX6_passesMinute_249 (by decide) ?_
          refine lv_iadd hx hb dX6_passesMinute_250 ?_
          obtain ⟨hg6, hf⟩ := og hf
          refine rIast hx hb hK hw hS (Nat.le_of_ble_eq_true rfl) (fun _ => en_a81) hg6 dX6_passesMinute_251 (fun H locs hw hS => ?_)
          refine lv_iinc (v := x5 + (1 : Int32)) (lv' := [(5, .int (x5 + (1 : Int32))), (0, .ref (a + 77)), (1, .int x1), (2, .int x2)]) hx hb dX6_passesMinute_252 hl (k := 3) rfl rfl (Nat.le_of_ble_eq_true rfl) rfl (fun ls hl => ?_)
          refine lv_goto (tgt := 211) hx hb dX6_passesMinute_255 (by decide) ?_
          exact ih _ _ _ _ _ _ _ hw hS (lv_sub hl [1, 2, 3, 0] rfl) hf
        · have hf := iq c5 hf
          refine lv_iconst (v := (1 : Int32)) hx hb dX6_passesMinute_245 (by decide) ?_
          refine lv_goto (tgt := 250) hx hb dX6_passesMinute_246 (by decide) ?_
          refine lv_iadd hx hb dX6_passesMinute_250 ?_
          obtain ⟨hg7, hf⟩ := og hf
          refine rIast hx hb hK hw hS (Nat.le_of_ble_eq_true rfl) (fun _ => en_a81) hg7 dX6_passesMinute_251 (fun H locs hw hS => ?_)
          refine lv_iinc (v := x5 + (1 : Int32)) (lv' := [(5, .int (x5 + (1 : Int32))), (0, .ref (a + 77)), (1, .int x1), (2, .int x2)]) hx hb dX6_passesMinute_252 hl (k := 3) rfl rfl (Nat.le_of_ble_eq_true rfl) rfl (fun ls hl => ?_)
          refine lv_goto (tgt := 211) hx hb dX6_passesMinute_255 (by decide) ?_
          exact ih _ _ _ _ _ _ _ hw hS (lv_sub hl [1, 2, 3, 0] rfl) hf
set_option maxRecDepth 100000 in
set_option maxHeartbeats 4000000 in
theorem bX6_passesMinute_30 {p : Program} {l : Launch} {e : Env} {s : State} {m : MethodId} {args : Array Value} {below : List Frame} {meth : Method} {c : Code} {D : va_G} {cy : Nat → ClassId} {a : Nat} (hx : p.tables.exec = Jvm.exec) (hb : c.code = cX6_passesMinute) (hr : meth.sig.returnType = (some .int)) (hml : c.maxLocals = 9) (hown : s.vm.findClass RX6 = some m.cls) (hts : ∀ w ∈ wsX6_passesMinute, w.before args s = true) (hlocks : meth.locks = false) (hK : KS D cy s) (hZ : ZZ a s s.heap) {out : Int32 × Mm} : ∀ (n : Nat), ∀ (x1 : Int32) (x2 : Int32) (x3 : Int32) (x4 : Int32) (x5 : Int32) (M : Mm) (H : Heap) (locs : List Loc) (ls : Array Slot), HP D cy a M H → va_S (Aq a) s.heap H locs → lv_has ls 9 [(0, .ref (a + 77)), (1, .int x1), (2, .int x2), (3, .int x3), (4, .int x4), (5, .int x5)] → narrow .boolean (.int x4) = .int x4 → fX6_passesMinute_L30 n x1 x2 x3 x4 x5 M = some out → W p l e rX6_passesMinute s m args below meth c H locs 0 0 (MQ below (QI D cy a out.1 out.2) args s 0 0 (Aq a)) (F0 m 30 ls []) := by
  intro n
  induction n with
  | zero =>
    intro x1 x2 x3 x4 x5 M H locs ls hw hS hl hb4 hf
    have hf : (none : Option (Int32 × Mm)) = some out := hf
    cases hf
  | succ n ih =>
    intro x1 x2 x3 x4 x5 M H locs ls hw hS hl hb4 hf
    unfold fX6_passesMinute_L30 at hf
    refine lv_iload hx hb dX6_passesMinute_30 (lv_at hl 5 rfl) ?_
    refine lv_aload_n hx hb dX6_passesMinute_32 rfl (lv_at hl 0 rfl) ?_
    refine rGetI hx hb hts iX6_passesMinute_X6 hown hK hw (Nat.le_of_ble_eq_true rfl) en_model rfl 28 (by decide) (hts _ kX6_passesMinute_9) rfl ge6_28 dX6_passesMinute_33 ?_
    refine lv_icmp_ge (tgt := 208) hx hb dX6_passesMinute_36 (by decide) (fun c1 => ?_) (fun c1 => ?_)
    · have hf := ip c1 hf
      refine lv_iconst (v := (0 : Int32)) hx hb dX6_passesMinute_208 (by decide) ?_
      refine lv_istore (lv' := [(5, .int (0 : Int32)), (0, .ref (a + 77)), (1, .int x1), (2, .int x2), (3, .int x3), (4, .int x4)]) hx hb dX6_passesMinute_209 hl (Nat.le_of_ble_eq_true rfl) rfl (fun ls hl => ?_)
      exact bX6_passesMinute_211 hx hb hr hml hown hts hlocks hK hZ 400 _ _ _ _ _ _ _ hw hS (lv_sub hl [1, 2, 3, 0] rfl) hf
    · have hf := iq c1 hf
      refine lv_iload hx hb dX6_passesMinute_39 (lv_at hl 4 rfl) ?_
      refine lv_if_eq (tgt := 208) hx hb dX6_passesMinute_41 (by decide) (fun c2 => ?_) (fun c2 => ?_)
      · have hf := ip c2 hf
        refine lv_iconst (v := (0 : Int32)) hx hb dX6_passesMinute_208 (by decide) ?_
        refine lv_istore (lv' := [(5, .int (0 : Int32)), (0, .ref (a + 77)), (1, .int x1), (2, .int x2), (3, .int x3), (4, .int x4)]) hx hb dX6_passesMinute_209 hl (Nat.le_of_ble_eq_true rfl) rfl (fun ls hl => ?_)
        exact bX6_passesMinute_211 hx hb hr hml hown hts hlocks hK hZ 400 _ _ _ _ _ _ _ hw hS (lv_sub hl [1, 2, 3, 0] rfl) hf
      · have hf := iq c2 hf
        refine lv_aload_n hx hb dX6_passesMinute_44 rfl (lv_at hl 0 rfl) ?_
        obtain ⟨o3, ho3, hf⟩ := ob hf
        refine rCallI (va_runV (As := []) (rest := []) ⟨hx, hb, hml, hown, hts⟩ (ctX6_entering (l := l) (D := D) (cy := cy) (a := a) ho3) (cwV 0 hts gX6_passesMinute_X6_entering rfl rfl rfl (by decide +kernel) ⟨Nat.le_of_ble_eq_true rfl, Nat.le_of_ble_eq_true rfl⟩) (pV hK hZ hw hS (rRecv hK hw (Nat.le_of_ble_eq_true rfl) en_model rfl)) rfl rfl hl.1 rfl (lv_room (Nat.le_of_ble_eq_true rfl)) dX6_passesMinute_45 ⟨Nat.le_of_ble_eq_true rfl, Nat.le_of_ble_eq_true rfl⟩) hS (fun H locs hw hS => ?_)
        refine lv_istore (lv' := [(6, .int o3), (0, .ref (a + 77)), (1, .int x1), (2, .int x2), (3, .int x3), (4, .int x4), (5, .int x5)]) hx hb dX6_passesMinute_48 hl (Nat.le_of_ble_eq_true rfl) rfl (fun ls hl => ?_)
        refine lv_iload hx hb dX6_passesMinute_50 (lv_at hl 0 rfl) ?_
        refine lv_iconst (v := (-1 : Int32)) hx hb dX6_passesMinute_52 (by decide) ?_
        refine lv_icmp_eq (tgt := 60) hx hb dX6_passesMinute_53 (by decide) (fun c4 => ?_) (fun c4 => ?_)
        · have hf := ip c4 hf
          refine lv_iconst (v := (0 : Int32)) hx hb dX6_passesMinute_60 (by decide) ?_
          exact bX6_passesMinute_61 hx hb hr hml hown hts hlocks hK hZ (fX6_passesMinute_L30 n) ih _ _ _ _ _ _ _ _ _ _ hw hS (lv_sub hl [1, 2, 3, 4, 6, 0] rfl) rfl hf
        · have hf := iq c4 hf
          refine lv_iconst (v := (1 : Int32)) hx hb dX6_passesMinute_56 (by decide) ?_
          refine lv_goto (tgt := 61) hx hb dX6_passesMinute_57 (by decide) ?_
          exact bX6_passesMinute_61 hx hb hr hml hown hts hlocks hK hZ (fX6_passesMinute_L30 n) ih _ _ _ _ _ _ _ _ _ _ hw hS (lv_sub hl [1, 2, 3, 4, 6, 0] rfl) rfl hf
set_option maxRecDepth 100000 in
set_option maxHeartbeats 4000000 in
theorem bX6_passesMinute_0 {p : Program} {l : Launch} {e : Env} {s : State} {m : MethodId} {args : Array Value} {below : List Frame} {meth : Method} {c : Code} {D : va_G} {cy : Nat → ClassId} {a : Nat} (hx : p.tables.exec = Jvm.exec) (hb : c.code = cX6_passesMinute) (hr : meth.sig.returnType = (some .int)) (hml : c.maxLocals = 9) (hown : s.vm.findClass RX6 = some m.cls) (hts : ∀ w ∈ wsX6_passesMinute, w.before args s = true) (hlocks : meth.locks = false) (hK : KS D cy s) (hZ : ZZ a s s.heap) {out : Int32 × Mm} : ∀ (M : Mm) (H : Heap) (locs : List Loc) (ls : Array Slot), HP D cy a M H → va_S (Aq a) s.heap H locs → lv_has ls 9 [(0, .ref (a + 77))] → fX6_passesMinute  M = some out → W p l e rX6_passesMinute s m args below meth c H locs 0 0 (MQ below (QI D cy a out.1 out.2) args s 0 0 (Aq a)) (F0 m 0 ls []) := by
  intro M H locs ls hw hS hl hf
  unfold fX6_passesMinute at hf
  refine lv_aload_n hx hb dX6_passesMinute_0 rfl (lv_at hl 0 rfl) ?_
  refine lv_dup hx hb dX6_passesMinute_1 rfl ?_
  refine rGetI hx hb hts iX6_passesMinute_X6 hown hK hw (Nat.le_of_ble_eq_true rfl) en_model rfl 0 (by decide) (hts _ kX6_passesMinute_7) rfl ge6_0 dX6_passesMinute_2 ?_
  refine lv_iconst (v := (1 : Int32)) hx hb dX6_passesMinute_5 (by decide) ?_
  refine lv_iadd hx hb dX6_passesMinute_6 ?_
  refine rPut hx hb hts iX6_passesMinute_X6 tyX6 tyX6_ok nmX6 hown hK hw hS (Nat.le_of_ble_eq_true rfl) en_model rfl 0 (by decide) (hts _ kX6_passesMinute_7) rfl rfl rfl rfl (Nat.le_of_ble_eq_true rfl) hs6_0 dX6_passesMinute_7 (fun H locs hw hS => ?_)
  refine lv_aload_n hx hb dX6_passesMinute_10 rfl (lv_at hl 0 rfl) ?_
  refine lv_aload_n hx hb dX6_passesMinute_11 rfl (lv_at hl 0 rfl) ?_
  obtain ⟨o1, ho1, hf⟩ := ob hf
  refine rCallI (va_runV (As := []) (rest := [.ref (a + 77)]) ⟨hx, hb, hml, hown, hts⟩ (ctX6_rateThatGoes (l := l) (D := D) (cy := cy) (a := a) ho1) (cwV 0 hts gX6_passesMinute_X6_rateThatGoes rfl rfl rfl (by decide +kernel) ⟨Nat.le_of_ble_eq_true rfl, Nat.le_of_ble_eq_true rfl⟩) (pV hK hZ hw hS (rRecv hK hw (Nat.le_of_ble_eq_true rfl) en_model rfl)) rfl rfl hl.1 rfl (lv_room (Nat.le_of_ble_eq_true rfl)) dX6_passesMinute_12 ⟨Nat.le_of_ble_eq_true rfl, Nat.le_of_ble_eq_true rfl⟩) hS (fun H locs hw hS => ?_)
  refine rPut hx hb hts iX6_passesMinute_X6 tyX6 tyX6_ok nmX6 hown hK hw hS (Nat.le_of_ble_eq_true rfl) en_model rfl 28 (by decide) (hts _ kX6_passesMinute_9) rfl rfl rfl rfl (Nat.le_of_ble_eq_true rfl) hs6_28 dX6_passesMinute_15 (fun H locs hw hS => ?_)
  refine lv_iconst (v := (0 : Int32)) hx hb dX6_passesMinute_18 (by decide) ?_
  refine lv_istore_n (lv' := [(1, .int (0 : Int32)), (0, .ref (a + 77))]) hx hb dX6_passesMinute_19 rfl hl (Nat.le_of_ble_eq_true rfl) rfl (fun ls hl => ?_)
  refine lv_iconst (v := (0 : Int32)) hx hb dX6_passesMinute_20 (by decide) ?_
  refine lv_istore_n (lv' := [(2, .int (0 : Int32)), (1, .int (0 : Int32)), (0, .ref (a + 77))]) hx hb dX6_passesMinute_21 rfl hl (Nat.le_of_ble_eq_true rfl) rfl (fun ls hl => ?_)
  refine lv_iconst (v := (0 : Int32)) hx hb dX6_passesMinute_22 (by decide) ?_
  refine lv_istore_n (lv' := [(3, .int (0 : Int32)), (2, .int (0 : Int32)), (1, .int (0 : Int32)), (0, .ref (a + 77))]) hx hb dX6_passesMinute_23 rfl hl (Nat.le_of_ble_eq_true rfl) rfl (fun ls hl => ?_)
  refine lv_iconst (v := (1 : Int32)) hx hb dX6_passesMinute_24 (by decide) ?_
  refine lv_istore (lv' := [(4, .int (1 : Int32)), (3, .int (0 : Int32)), (2, .int (0 : Int32)), (1, .int (0 : Int32)), (0, .ref (a + 77))]) hx hb dX6_passesMinute_25 hl (Nat.le_of_ble_eq_true rfl) rfl (fun ls hl => ?_)
  refine lv_iconst (v := (0 : Int32)) hx hb dX6_passesMinute_27 (by decide) ?_
  refine lv_istore (lv' := [(5, .int (0 : Int32)), (4, .int (1 : Int32)), (3, .int (0 : Int32)), (2, .int (0 : Int32)), (1, .int (0 : Int32)), (0, .ref (a + 77))]) hx hb dX6_passesMinute_28 hl (Nat.le_of_ble_eq_true rfl) rfl (fun ls hl => ?_)
  exact bX6_passesMinute_30 hx hb hr hml hown hts hlocks hK hZ 400 _ _ _ _ _ _ _ _ _ hw hS (lv_sub hl [5, 4, 3, 2, 1, 0] rfl) rfl hf
set_option maxRecDepth 100000 in
set_option maxHeartbeats 4000000 in
theorem ctX6_passesMinute {l : Launch} {D : va_G} {cy : Nat → ClassId} {a : Nat} {M : Mm} {out : Int32 × Mm} (hf : fX6_passesMinute  M = some out) : Met l yX6_passesMinute wsX6_passesMinute rX6_passesMinute (Pre D cy a M [.ref (a + 77)]) (QI D cy a out.1 out.2) 0 0 (Aq a) := by
  refine Met.ofW (cc := cX6_passesMinute) (maxL := 9) (ret := (some .int)) (by decide +kernel) rfl ?_
  intro p e s m args below meth c s₁ B hml hv
  obtain ⟨rfl, hw, hK, hZ⟩ := hv
  have hS : va_S (Aq a) s.heap s.heap [] := va_S.rf
  have hl := lv_entry ([.ref (a + 77)]) (n := 9) (Nat.le_of_ble_eq_true rfl)
  rw [lg_entry_eq]
  generalize (lg_sl ([.ref (a + 77)]) ++ List.replicate (9 - (lg_sl ([.ref (a + 77)])).length) Slot.unset).toArray = ls at hl ⊢
  exact bX6_passesMinute_0 B.exec B.bytes B.returns hml (findClass_of_methodNamed B.named) (atoms_spec (ws := wsX6_passesMinute) B.pre) B.notSynchronized hK hZ _ _ _ _ hw hS hl hf
def rX6_pass : Room := { frames := 7, cells := 0, slots := 0, locals := 166 }
noncomputable def fX6_pass_L45 : Nat → Int32 → Int32 → Int32 → Mm → Option (Int32 × Mm)
  | 0 => fun _ _ _ _ => none
  | n + 1 => fun x1 x2 x3 M => (if x1 ≤ x3 then some (x2, M) else ((fX6_passesMinute M).bind fun o2 => (fX6_pass_L45 n) x1 (x2 + o2.1) (x3 + (1 : Int32)) o2.2))
noncomputable def fX6_pass_b32 (x1 : Int32) (xs1 : Int32) (xs2 : Int32) (M : Mm) : Option (Int32 × Mm) := ((fX6_goes xs1 xs2 (1 : Int32) M).bind fun o1 => (if o1.1 = 0 then some ((0 : Int32), o1.2) else fX6_pass_L45 400 x1 (0 : Int32) (0 : Int32) o1.2))
noncomputable def fX6_pass_b31 (x1 : Int32) (xs1 : Int32) (M : Mm) : Option (Int32 × Mm) := fX6_pass_b32 x1 xs1 (0 : Int32) M
noncomputable def fX6_pass (x1 : Int32) (M : Mm) : Option (Int32 × Mm) := ((fX6_isBetween x1 (1 : Int32) (60 : Int32) M).bind fun o1 => (if (gi M 77 6) = 0 then fX6_pass_b31 x1 o1 M else (if (9999 : Int32) < ((gi M 77 0) + x1) then fX6_pass_b31 x1 o1 M else fX6_pass_b32 x1 o1 (1 : Int32) M)))
set_option maxRecDepth 20000 in
theorem iX6_pass_X6 : ∀ w ∈ wsX60, w ∈ wsX6_pass := by decide +kernel
set_option maxRecDepth 20000 in
theorem kX6_pass_0 : Cond.fieldLink RX6 105 "BatchPipeModel" "isOpen" "Z" ∈ wsX6_pass := by decide +kernel
set_option maxRecDepth 20000 in
theorem kX6_pass_1 : Cond.fieldLink RX6 197 "BatchPipeModel" "minute" "I" ∈ wsX6_pass := by decide +kernel
set_option maxRecDepth 100000 in
set_option maxHeartbeats 4000000 in
theorem bX6_pass_45 {p : Program} {l : Launch} {e : Env} {s : State} {m : MethodId} {args : Array Value} {below : List Frame} {meth : Method} {c : Code} {D : va_G} {cy : Nat → ClassId} {a : Nat} (hx : p.tables.exec = Jvm.exec) (hb : c.code = cX6_pass) (hr : meth.sig.returnType = (some .int)) (hml : c.maxLocals = 4) (hown : s.vm.findClass RX6 = some m.cls) (hts : ∀ w ∈ wsX6_pass, w.before args s = true) (hlocks : meth.locks = false) (hK : KS D cy s) (hZ : ZZ a s s.heap) {out : Int32 × Mm} : ∀ (n : Nat), ∀ (x1 : Int32) (x2 : Int32) (x3 : Int32) (M : Mm) (H : Heap) (locs : List Loc) (ls : Array Slot), HP D cy a M H → va_S (Aq a) s.heap H locs → lv_has ls 4 [(0, .ref (a + 77)), (1, .int x1), (2, .int x2), (3, .int x3)] → fX6_pass_L45 n x1 x2 x3 M = some out → W p l e rX6_pass s m args below meth c H locs 0 0 (MQ below (QI D cy a out.1 out.2) args s 0 0 (Aq a)) (F0 m 45 ls []) := by
  intro n
  induction n with
  | zero =>
    intro x1 x2 x3 M H locs ls hw hS hl hf
    have hf : (none : Option (Int32 × Mm)) = some out := hf
    cases hf
  | succ n ih =>
    intro x1 x2 x3 M H locs ls hw hS hl hf
    unfold fX6_pass_L45 at hf
    refine lv_iload_n hx hb dX6_pass_45 rfl (lv_at hl 3 rfl) ?_
    refine lv_iload_n hx hb dX6_pass_46 rfl (lv_at hl 1 rfl) ?_
    refine lv_icmp_ge (tgt := 63) hx hb dX6_pass_47 (by decide) (fun c1 => ?_) (fun c1 => ?_)
    · have hf := ip c1 hf
      refine lv_iload_n hx hb dX6_pass_63 rfl (lv_at hl 2 rfl) ?_
      obtain rfl := Option.some.inj hf
      exact rIret hx hb hr hlocks hw hS dX6_pass_64
    · have hf := iq c1 hf
      refine lv_iload_n hx hb dX6_pass_50 rfl (lv_at hl 2 rfl) ?_
      refine lv_aload_n hx hb dX6_pass_51 rfl (lv_at hl 0 rfl) ?_
      obtain ⟨o2, ho2, hf⟩ := ob hf
      refine rCallI (va_runV (As := []) (rest := [.int x2]) ⟨hx, hb, hml, hown, hts⟩ (ctX6_passesMinute (l := l) (D := D) (cy := cy) (a := a) ho2) (cwV 0 hts gX6_pass_X6_passesMinute rfl rfl rfl (by decide +kernel) ⟨Nat.le_of_ble_eq_true rfl, Nat.le_of_ble_eq_true rfl⟩) (pV hK hZ hw hS (rRecv hK hw (Nat.le_of_ble_eq_true rfl) en_model rfl)) rfl rfl hl.1 rfl (lv_room (Nat.le_of_ble_eq_true rfl)) dX6_pass_52 ⟨Nat.le_of_ble_eq_true rfl, Nat.le_of_ble_eq_true rfl⟩) hS (fun H locs hw hS => ?_)
      refine lv_iadd hx hb dX6_pass_55 ?_
      refine lv_istore_n (lv' := [(2, .int (x2 + o2.1)), (0, .ref (a + 77)), (1, .int x1), (3, .int x3)]) hx hb dX6_pass_56 rfl hl (Nat.le_of_ble_eq_true rfl) rfl (fun ls hl => ?_)
      refine lv_iinc (v := x3 + (1 : Int32)) (lv' := [(3, .int (x3 + (1 : Int32))), (2, .int (x2 + o2.1)), (0, .ref (a + 77)), (1, .int x1)]) hx hb dX6_pass_57 hl (k := 3) rfl rfl (Nat.le_of_ble_eq_true rfl) rfl (fun ls hl => ?_)
      refine lv_goto (tgt := 45) hx hb dX6_pass_60 (by decide) ?_
      exact ih _ _ _ _ _ _ _ hw hS (lv_sub hl [2, 3, 1, 0] rfl) hf
set_option maxRecDepth 100000 in
set_option maxHeartbeats 4000000 in
theorem bX6_pass_32 {p : Program} {l : Launch} {e : Env} {s : State} {m : MethodId} {args : Array Value} {below : List Frame} {meth : Method} {c : Code} {D : va_G} {cy : Nat → ClassId} {a : Nat} (hx : p.tables.exec = Jvm.exec) (hb : c.code = cX6_pass) (hr : meth.sig.returnType = (some .int)) (hml : c.maxLocals = 4) (hown : s.vm.findClass RX6 = some m.cls) (hts : ∀ w ∈ wsX6_pass, w.before args s = true) (hlocks : meth.locks = false) (hK : KS D cy s) (hZ : ZZ a s s.heap) {out : Int32 × Mm} : ∀ (x1 : Int32) (xs1 : Int32) (xs2 : Int32) (M : Mm) (H : Heap) (locs : List Loc) (ls : Array Slot), HP D cy a M H → va_S (Aq a) s.heap H locs → lv_has ls 4 [(0, .ref (a + 77)), (1, .int x1)] → narrow .boolean (.int xs1) = .int xs1 → narrow .boolean (.int xs2) = .int xs2 → fX6_pass_b32 x1 xs1 xs2 M = some out → W p l e rX6_pass s m args below meth c H locs 0 0 (MQ below (QI D cy a out.1 out.2) args s 0 0 (Aq a)) (F0 m 32 ls [.int xs2, .int xs1, .ref (a + 77)]) := by
  intro x1 xs1 xs2 M H locs ls hw hS hl hbs1 hbs2 hf
  unfold fX6_pass_b32 at hf
  refine lv_iconst (v := (1 : Int32)) hx hb dX6_pass_32 (by decide) ?_
  obtain ⟨o1, ho1, hf⟩ := ob hf
  refine rCallB (va_runV (As := [.int xs1, .int xs2, .int (1 : Int32)]) (rest := []) ⟨hx, hb, hml, hown, hts⟩ (ctX6_goes (l := l) (D := D) (cy := cy) (a := a) ho1) (cwV 3 hts gX6_pass_X6_goes rfl rfl rfl (by decide +kernel) ⟨Nat.le_of_ble_eq_true rfl, Nat.le_of_ble_eq_true rfl⟩) (pV hK hZ hw hS (rRecv hK hw (Nat.le_of_ble_eq_true rfl) en_model rfl)) rfl rfl hl.1 rfl (lv_room (Nat.le_of_ble_eq_true rfl)) dX6_pass_33 ⟨Nat.le_of_ble_eq_true rfl, Nat.le_of_ble_eq_true rfl⟩) hS (fun H locs hw hS ho1b => ?_)
  refine lv_if_ne (tgt := 41) hx hb dX6_pass_36 (by decide) (fun c2 => ?_) (fun c2 => ?_)
  · have hf := iq c2 hf
    refine lv_iconst (v := (0 : Int32)) hx hb dX6_pass_41 (by decide) ?_
    refine lv_istore_n (lv' := [(2, .int (0 : Int32)), (0, .ref (a + 77)), (1, .int x1)]) hx hb dX6_pass_42 rfl hl (Nat.le_of_ble_eq_true rfl) rfl (fun ls hl => ?_)
    refine lv_iconst (v := (0 : Int32)) hx hb dX6_pass_43 (by decide) ?_
    refine lv_istore_n (lv' := [(3, .int (0 : Int32)), (2, .int (0 : Int32)), (0, .ref (a + 77)), (1, .int x1)]) hx hb dX6_pass_44 rfl hl (Nat.le_of_ble_eq_true rfl) rfl (fun ls hl => ?_)
    exact bX6_pass_45 hx hb hr hml hown hts hlocks hK hZ 400 _ _ _ _ _ _ _ hw hS (lv_sub hl [2, 3, 1, 0] rfl) hf
  · have hf := ip c2 hf
    refine lv_iconst (v := (0 : Int32)) hx hb dX6_pass_39 (by decide) ?_
    obtain rfl := Option.some.inj hf
    exact rIret hx hb hr hlocks hw hS dX6_pass_40
set_option maxRecDepth 100000 in
set_option maxHeartbeats 4000000 in
theorem bX6_pass_31 {p : Program} {l : Launch} {e : Env} {s : State} {m : MethodId} {args : Array Value} {below : List Frame} {meth : Method} {c : Code} {D : va_G} {cy : Nat → ClassId} {a : Nat} (hx : p.tables.exec = Jvm.exec) (hb : c.code = cX6_pass) (hr : meth.sig.returnType = (some .int)) (hml : c.maxLocals = 4) (hown : s.vm.findClass RX6 = some m.cls) (hts : ∀ w ∈ wsX6_pass, w.before args s = true) (hlocks : meth.locks = false) (hK : KS D cy s) (hZ : ZZ a s s.heap) {out : Int32 × Mm} : ∀ (x1 : Int32) (xs1 : Int32) (M : Mm) (H : Heap) (locs : List Loc) (ls : Array Slot), HP D cy a M H → va_S (Aq a) s.heap H locs → lv_has ls 4 [(0, .ref (a + 77)), (1, .int x1)] → narrow .boolean (.int xs1) = .int xs1 → fX6_pass_b31 x1 xs1 M = some out → W p l e rX6_pass s m args below meth c H locs 0 0 (MQ below (QI D cy a out.1 out.2) args s 0 0 (Aq a)) (F0 m 31 ls [.int xs1, .ref (a + 77)]) := by
  intro x1 xs1 M H locs ls hw hS hl hbs1 hf
  unfold fX6_pass_b31 at hf
  refine lv_iconst (v := (0 : Int32)) hx hb dX6_pass_31 (by decide) ?_
  exact bX6_pass_32 hx hb hr hml hown hts hlocks hK hZ _ _ _ _ _ _ _ hw hS (lv_sub hl [0, 1] rfl) hbs1 rfl hf
set_option maxRecDepth 100000 in
set_option maxHeartbeats 4000000 in
theorem bX6_pass_0 {p : Program} {l : Launch} {e : Env} {s : State} {m : MethodId} {args : Array Value} {below : List Frame} {meth : Method} {c : Code} {D : va_G} {cy : Nat → ClassId} {a : Nat} (hx : p.tables.exec = Jvm.exec) (hb : c.code = cX6_pass) (hr : meth.sig.returnType = (some .int)) (hml : c.maxLocals = 4) (hown : s.vm.findClass RX6 = some m.cls) (hts : ∀ w ∈ wsX6_pass, w.before args s = true) (hlocks : meth.locks = false) (hK : KS D cy s) (hZ : ZZ a s s.heap) {out : Int32 × Mm} : ∀ (x1 : Int32) (M : Mm) (H : Heap) (locs : List Loc) (ls : Array Slot), HP D cy a M H → va_S (Aq a) s.heap H locs → lv_has ls 4 [(0, .ref (a + 77)), (1, .int x1)] → fX6_pass x1 M = some out → W p l e rX6_pass s m args below meth c H locs 0 0 (MQ below (QI D cy a out.1 out.2) args s 0 0 (Aq a)) (F0 m 0 ls []) := by
  intro x1 M H locs ls hw hS hl hf
  unfold fX6_pass at hf
  refine lv_aload_n hx hb dX6_pass_0 rfl (lv_at hl 0 rfl) ?_
  refine lv_iload_n hx hb dX6_pass_1 rfl (lv_at hl 1 rfl) ?_
  refine lv_iconst (v := (1 : Int32)) hx hb dX6_pass_2 (by decide) ?_
  refine lv_bipush (v := (60 : Int32)) hx hb dX6_pass_3 (by decide) ?_
  obtain ⟨o1, ho1, hf⟩ := ob hf
  refine rCallB (va_runS (As := [.int x1, .int (1 : Int32), .int (60 : Int32)]) (rest := [.ref (a + 77)]) ⟨hx, hb, hml, hown, hts⟩ (ctX6_isBetween (l := l) (D := D) (cy := cy) (a := a) ho1) (va_cwS 3 hts gX6_pass_X6_isBetween rfl rfl rfl (by decide +kernel) ⟨Nat.le_of_ble_eq_true rfl, Nat.le_of_ble_eq_true rfl⟩) (pS hK hZ hw hS) rfl rfl hl.1 rfl (lv_room (Nat.le_of_ble_eq_true rfl)) dX6_pass_5 ⟨Nat.le_of_ble_eq_true rfl, Nat.le_of_ble_eq_true rfl⟩) hS (fun H locs hw hS ho1b => ?_)
  refine lv_aload_n hx hb dX6_pass_8 rfl (lv_at hl 0 rfl) ?_
  refine rGetI hx hb hts iX6_pass_X6 hown hK hw (Nat.le_of_ble_eq_true rfl) en_model rfl 6 (by decide) (hts _ kX6_pass_0) rfl ge6_6 dX6_pass_9 ?_
  refine lv_if_eq (tgt := 31) hx hb dX6_pass_12 (by decide) (fun c2 => ?_) (fun c2 => ?_)
  · have hf := ip c2 hf
    exact bX6_pass_31 hx hb hr hml hown hts hlocks hK hZ _ _ _ _ _ _ hw hS (lv_sub hl [0, 1] rfl) ho1b hf
  · have hf := iq c2 hf
    refine lv_aload_n hx hb dX6_pass_15 rfl (lv_at hl 0 rfl) ?_
    refine rGetI hx hb hts iX6_pass_X6 hown hK hw (Nat.le_of_ble_eq_true rfl) en_model rfl 0 (by decide) (hts _ kX6_pass_1) rfl ge6_0 dX6_pass_16 ?_
    refine lv_iload_n hx hb dX6_pass_19 rfl (lv_at hl 1 rfl) ?_
    refine lv_iadd hx hb dX6_pass_20 ?_
    refine lv_sipush (v := (9999 : Int32)) hx hb dX6_pass_21 (by decide) ?_
    refine lv_icmp_gt (tgt := 31) hx hb dX6_pass_24 (by decide) (fun c3 => ?_) (fun c3 => ?_)
    · have hf := ip c3 hf
      exact bX6_pass_31 hx hb hr hml hown hts hlocks hK hZ _ _ _ _ _ _ hw hS (lv_sub hl [0, 1] rfl) ho1b hf
    · have hf := iq c3 hf
      refine lv_iconst (v := (1 : Int32)) hx hb dX6_pass_27 (by decide) ?_
      refine lv_goto (tgt := 32) hx hb dX6_pass_28 (by decide) ?_
      exact bX6_pass_32 hx hb hr hml hown hts hlocks hK hZ _ _ _ _ _ _ _ hw hS (lv_sub hl [0, 1] rfl) ho1b rfl hf
set_option maxRecDepth 100000 in
set_option maxHeartbeats 4000000 in
theorem ctX6_pass {l : Launch} {D : va_G} {cy : Nat → ClassId} {a : Nat} {x1 : Int32} {M : Mm} {out : Int32 × Mm} (hf : fX6_pass x1 M = some out) : Met l yX6_pass wsX6_pass rX6_pass (Pre D cy a M [.ref (a + 77), .int x1]) (QI D cy a out.1 out.2) 0 0 (Aq a) := by
  refine Met.ofW (cc := cX6_pass) (maxL := 4) (ret := (some .int)) (by decide +kernel) rfl ?_
  intro p e s m args below meth c s₁ B hml hv
  obtain ⟨rfl, hw, hK, hZ⟩ := hv
  have hS : va_S (Aq a) s.heap s.heap [] := va_S.rf
  have hl := lv_entry ([.ref (a + 77), .int x1]) (n := 4) (Nat.le_of_ble_eq_true rfl)
  rw [lg_entry_eq]
  generalize (lg_sl ([.ref (a + 77), .int x1]) ++ List.replicate (4 - (lg_sl ([.ref (a + 77), .int x1])).length) Slot.unset).toArray = ls at hl ⊢
  exact bX6_pass_0 B.exec B.bytes B.returns hml (findClass_of_methodNamed B.named) (atoms_spec (ws := wsX6_pass) B.pre) B.notSynchronized hK hZ _ _ _ _ _ hw hS hl hf
def rX6_isBatch : Room := { frames := 1, cells := 0, slots := 0, locals := 22 }
noncomputable def fX6_isBatch (x1 : Int32) (M : Mm) : Option (Int32) := (if (gi M 77 6) = 0 then ((fX6_isBetween x1 (1 : Int32) ((gi M 77 12) - (1 : Int32)) M).bind fun o2 => some (o2)) else ((fX6_isBetween x1 (0 : Int32) ((gi M 77 12) - (1 : Int32)) M).bind fun o3 => some (o3)))
set_option maxRecDepth 20000 in
theorem iX6_isBatch_X6 : ∀ w ∈ wsX60, w ∈ wsX6_isBatch := by decide +kernel
set_option maxRecDepth 20000 in
theorem kX6_isBatch_0 : Cond.fieldLink RX6 105 "BatchPipeModel" "isOpen" "Z" ∈ wsX6_isBatch := by decide +kernel
set_option maxRecDepth 20000 in
theorem kX6_isBatch_1 : Cond.fieldLink RX6 34 "BatchPipeModel" "batches" "I" ∈ wsX6_isBatch := by decide +kernel
set_option maxRecDepth 100000 in
set_option maxHeartbeats 4000000 in
theorem bX6_isBatch_0 {p : Program} {l : Launch} {e : Env} {s : State} {m : MethodId} {args : Array Value} {below : List Frame} {meth : Method} {c : Code} {D : va_G} {cy : Nat → ClassId} {a : Nat} (hx : p.tables.exec = Jvm.exec) (hb : c.code = cX6_isBatch) (hr : meth.sig.returnType = (some .boolean)) (hml : c.maxLocals = 2) (hown : s.vm.findClass RX6 = some m.cls) (hts : ∀ w ∈ wsX6_isBatch, w.before args s = true) (hlocks : meth.locks = false) (hK : KS D cy s) (hZ : ZZ a s s.heap) {out : Int32} : ∀ (x1 : Int32) (M : Mm) (H : Heap) (locs : List Loc) (ls : Array Slot), HP D cy a M H → va_S (Aq a) s.heap H locs → lv_has ls 2 [(0, .ref (a + 77)), (1, .int x1)] → fX6_isBatch x1 M = some out → W p l e rX6_isBatch s m args below meth c H locs 0 0 (MQ below (QB D cy a out M) args s 0 0 (Aq a)) (F0 m 0 ls []) := by
  intro x1 M H locs ls hw hS hl hf
  unfold fX6_isBatch at hf
  refine lv_iload_n hx hb dX6_isBatch_0 rfl (lv_at hl 1 rfl) ?_
  refine lv_aload_n hx hb dX6_isBatch_1 rfl (lv_at hl 0 rfl) ?_
  refine rGetI hx hb hts iX6_isBatch_X6 hown hK hw (Nat.le_of_ble_eq_true rfl) en_model rfl 6 (by decide) (hts _ kX6_isBatch_0) rfl ge6_6 dX6_isBatch_2 ?_
  refine lv_if_eq (tgt := 12) hx hb dX6_isBatch_5 (by decide) (fun c1 => ?_) (fun c1 => ?_)
  · have hf := ip c1 hf
    refine lv_iconst (v := (1 : Int32)) hx hb dX6_isBatch_12 (by decide) ?_
    refine lv_aload_n hx hb dX6_isBatch_13 rfl (lv_at hl 0 rfl) ?_
    refine rGetI hx hb hts iX6_isBatch_X6 hown hK hw (Nat.le_of_ble_eq_true rfl) en_model rfl 12 (by decide) (hts _ kX6_isBatch_1) rfl ge6_12 dX6_isBatch_14 ?_
    refine lv_iconst (v := (1 : Int32)) hx hb dX6_isBatch_17 (by decide) ?_
    refine lv_isub hx hb dX6_isBatch_18 ?_
    obtain ⟨o2, ho2, hf⟩ := ob hf
    refine rCallB (va_runS (As := [.int x1, .int (1 : Int32), .int ((gi M 77 12) - (1 : Int32))]) (rest := []) ⟨hx, hb, hml, hown, hts⟩ (ctX6_isBetween (l := l) (D := D) (cy := cy) (a := a) ho2) (va_cwS 3 hts gX6_isBatch_X6_isBetween rfl rfl rfl (by decide +kernel) ⟨Nat.le_of_ble_eq_true rfl, Nat.le_of_ble_eq_true rfl⟩) (pS hK hZ hw hS) rfl rfl hl.1 rfl (lv_room (Nat.le_of_ble_eq_true rfl)) dX6_isBatch_19 ⟨Nat.le_of_ble_eq_true rfl, Nat.le_of_ble_eq_true rfl⟩) hS (fun H locs hw hS ho2b => ?_)
    obtain rfl := Option.some.inj hf
    exact rBret (x := o2) hx hb hr hlocks hw hS ho2b dX6_isBatch_22
  · have hf := iq c1 hf
    refine lv_iconst (v := (0 : Int32)) hx hb dX6_isBatch_8 (by decide) ?_
    refine lv_goto (tgt := 13) hx hb dX6_isBatch_9 (by decide) ?_
    refine lv_aload_n hx hb dX6_isBatch_13 rfl (lv_at hl 0 rfl) ?_
    refine rGetI hx hb hts iX6_isBatch_X6 hown hK hw (Nat.le_of_ble_eq_true rfl) en_model rfl 12 (by decide) (hts _ kX6_isBatch_1) rfl ge6_12 dX6_isBatch_14 ?_
    refine lv_iconst (v := (1 : Int32)) hx hb dX6_isBatch_17 (by decide) ?_
    refine lv_isub hx hb dX6_isBatch_18 ?_
    obtain ⟨o3, ho3, hf⟩ := ob hf
    refine rCallB (va_runS (As := [.int x1, .int (0 : Int32), .int ((gi M 77 12) - (1 : Int32))]) (rest := []) ⟨hx, hb, hml, hown, hts⟩ (ctX6_isBetween (l := l) (D := D) (cy := cy) (a := a) ho3) (va_cwS 3 hts gX6_isBatch_X6_isBetween rfl rfl rfl (by decide +kernel) ⟨Nat.le_of_ble_eq_true rfl, Nat.le_of_ble_eq_true rfl⟩) (pS hK hZ hw hS) rfl rfl hl.1 rfl (lv_room (Nat.le_of_ble_eq_true rfl)) dX6_isBatch_19 ⟨Nat.le_of_ble_eq_true rfl, Nat.le_of_ble_eq_true rfl⟩) hS (fun H locs hw hS ho3b => ?_)
    obtain rfl := Option.some.inj hf
    exact rBret (x := o3) hx hb hr hlocks hw hS ho3b dX6_isBatch_22
set_option maxRecDepth 100000 in
set_option maxHeartbeats 4000000 in
theorem ctX6_isBatch {l : Launch} {D : va_G} {cy : Nat → ClassId} {a : Nat} {x1 : Int32} {M : Mm} {out : Int32} (hf : fX6_isBatch x1 M = some out) : Met l yX6_isBatch wsX6_isBatch rX6_isBatch (Pre D cy a M [.ref (a + 77), .int x1]) (QB D cy a out M) 0 0 (Aq a) := by
  refine Met.ofW (cc := cX6_isBatch) (maxL := 2) (ret := (some .boolean)) (by decide +kernel) rfl ?_
  intro p e s m args below meth c s₁ B hml hv
  obtain ⟨rfl, hw, hK, hZ⟩ := hv
  have hS : va_S (Aq a) s.heap s.heap [] := va_S.rf
  have hl := lv_entry ([.ref (a + 77), .int x1]) (n := 2) (Nat.le_of_ble_eq_true rfl)
  rw [lg_entry_eq]
  generalize (lg_sl ([.ref (a + 77), .int x1]) ++ List.replicate (2 - (lg_sl ([.ref (a + 77), .int x1])).length) Slot.unset).toArray = ls at hl ⊢
  exact bX6_isBatch_0 B.exec B.bytes B.returns hml (findClass_of_methodNamed B.named) (atoms_spec (ws := wsX6_isBatch) B.pre) B.notSynchronized hK hZ _ _ _ _ _ hw hS hl hf
