def rX6_comesInto : Room := { frames := 3, cells := 0, slots := 0, locals := 65 }
noncomputable def fX6_comesInto_b175 (x1 : Int32) (x5 : Int32) (x6 : Int32) (xs1 : Int32) (xs2 : Int32) (M : Mm) : Option (Mm) := (if ¬ (xs1 < 0 ∨ 4 ≤ xs1.toNatClampNeg) then (if ¬ (x1 < 0 ∨ 4 ≤ x1.toNatClampNeg) then (if ¬ (x1 < 0 ∨ 4 ≤ x1.toNatClampNeg) then (if ¬ (x1 < 0 ∨ 4 ≤ x1.toNatClampNeg) then (if x5 = 0 then (if x6 = 0 then (if ¬ (x1 < 0 ∨ 4 ≤ x1.toNatClampNeg) then some (si (si (si M 100 xs1.toNatClampNeg xs2) 99 x1.toNatClampNeg ((gi (si M 100 xs1.toNatClampNeg xs2) 99 x1.toNatClampNeg) + (1 : Int32))) 101 x1.toNatClampNeg ((gi (si (si M 100 xs1.toNatClampNeg xs2) 99 x1.toNatClampNeg ((gi (si M 100 xs1.toNatClampNeg xs2) 99 x1.toNatClampNeg) + (1 : Int32))) 101 x1.toNatClampNeg) + (0 : Int32))) else none) else (if ¬ (x1 < 0 ∨ 4 ≤ x1.toNatClampNeg) then some (si (si (si M 100 xs1.toNatClampNeg xs2) 99 x1.toNatClampNeg ((gi (si M 100 xs1.toNatClampNeg xs2) 99 x1.toNatClampNeg) + (1 : Int32))) 101 x1.toNatClampNeg ((gi (si (si M 100 xs1.toNatClampNeg xs2) 99 x1.toNatClampNeg ((gi (si M 100 xs1.toNatClampNeg xs2) 99 x1.toNatClampNeg) + (1 : Int32))) 101 x1.toNatClampNeg) + (1 : Int32))) else none)) else (if ¬ (x1 < 0 ∨ 4 ≤ x1.toNatClampNeg) then some (si (si (si M 100 xs1.toNatClampNeg xs2) 99 x1.toNatClampNeg ((gi (si M 100 xs1.toNatClampNeg xs2) 99 x1.toNatClampNeg) + (1 : Int32))) 101 x1.toNatClampNeg ((gi (si (si M 100 xs1.toNatClampNeg xs2) 99 x1.toNatClampNeg ((gi (si M 100 xs1.toNatClampNeg xs2) 99 x1.toNatClampNeg) + (1 : Int32))) 101 x1.toNatClampNeg) + (1 : Int32))) else none)) else none) else none) else none) else none)
noncomputable def fX6_comesInto_b164 (x1 : Int32) (x4 : Int32) (x5 : Int32) (x6 : Int32) (xs1 : Int32) (M : Mm) : Option (Mm) := fX6_comesInto_b175 x1 x5 x6 xs1 x4 M
noncomputable def fX6_comesInto_b139 (x1 : Int32) (x4 : Int32) (x5 : Int32) (x6 : Int32) (M : Mm) : Option (Mm) := (if ¬ (x1 < 0 ∨ 4 ≤ x1.toNatClampNeg) then (if (gi M 99 x1.toNatClampNeg) = 0 then fX6_comesInto_b164 x1 x4 x5 x6 x1 M else (if ¬ (x1 < 0 ∨ 4 ≤ x1.toNatClampNeg) then (if x4 ≤ (gi M 100 x1.toNatClampNeg) then (if ¬ (x1 < 0 ∨ 4 ≤ x1.toNatClampNeg) then fX6_comesInto_b175 x1 x5 x6 x1 (gi M 100 x1.toNatClampNeg) M else none) else fX6_comesInto_b164 x1 x4 x5 x6 x1 M) else none)) else none)
noncomputable def fX6_comesInto_b95 (x1 : Int32) (x2 : Int32) (x4 : Int32) (x5 : Int32) (x6 : Int32) (M : Mm) : Option (Mm) := (if x6 = 0 then fX6_comesInto_b139 x1 x4 x5 x6 M else (if ¬ (x2 < 0 ∨ 40 ≤ x2.toNatClampNeg) then (if ¬ ((gi M 94 x2.toNatClampNeg) < 0 ∨ 40 ≤ (gi M 94 x2.toNatClampNeg).toNatClampNeg) then (if ¬ ((gi M 87 (gi M 94 x2.toNatClampNeg).toNatClampNeg) < 0 ∨ 6 ≤ (gi M 87 (gi M 94 x2.toNatClampNeg).toNatClampNeg).toNatClampNeg) then (if (gi M 84 (gi M 87 (gi M 94 x2.toNatClampNeg).toNatClampNeg).toNatClampNeg) ≤ x4 then fX6_comesInto_b139 x1 x4 x5 x6 M else (if ¬ (x2 < 0 ∨ 40 ≤ x2.toNatClampNeg) then (if ¬ ((gi M 94 x2.toNatClampNeg) < 0 ∨ 40 ≤ (gi M 94 x2.toNatClampNeg).toNatClampNeg) then (if ¬ ((gi M 87 (gi M 94 x2.toNatClampNeg).toNatClampNeg) < 0 ∨ 6 ≤ (gi M 87 (gi M 94 x2.toNatClampNeg).toNatClampNeg).toNatClampNeg) then fX6_comesInto_b139 x1 (gi M 84 (gi M 87 (gi M 94 x2.toNatClampNeg).toNatClampNeg).toNatClampNeg) x5 x6 M else none) else none) else none)) else none) else none) else none))
noncomputable def fX6_comesInto (x1 : Int32) (x2 : Int32) (x3 : Int32) (M : Mm) : Option (Mm) := (if ¬ (x1 < 0 ∨ 4 ≤ x1.toNatClampNeg) then (if (gi M 99 x1.toNatClampNeg) = (100 : Int32) then some (si M 77 38 ((gi M 77 38) + (1 : Int32))) else (if ¬ (x2 < 0 ∨ 40 ≤ x2.toNatClampNeg) then (if ¬ ((gi M 87 x2.toNatClampNeg) < 0 ∨ 6 ≤ (gi M 87 x2.toNatClampNeg).toNatClampNeg) then ((fX6_isMixedAhead x2 x3 M).bind fun o5 => ((fX6_isMixedBehind x2 x3 M).bind fun o6 => (if o5 = 0 then fX6_comesInto_b95 x1 x2 (gi M 84 (gi M 87 x2.toNatClampNeg).toNatClampNeg) o5 o6 M else (if ¬ (x2 < 0 ∨ 40 ≤ x2.toNatClampNeg) then (if ¬ ((gi M 93 x2.toNatClampNeg) < 0 ∨ 40 ≤ (gi M 93 x2.toNatClampNeg).toNatClampNeg) then (if ¬ ((gi M 87 (gi M 93 x2.toNatClampNeg).toNatClampNeg) < 0 ∨ 6 ≤ (gi M 87 (gi M 93 x2.toNatClampNeg).toNatClampNeg).toNatClampNeg) then (if (gi M 84 (gi M 87 (gi M 93 x2.toNatClampNeg).toNatClampNeg).toNatClampNeg) ≤ (gi M 84 (gi M 87 x2.toNatClampNeg).toNatClampNeg) then fX6_comesInto_b95 x1 x2 (gi M 84 (gi M 87 x2.toNatClampNeg).toNatClampNeg) o5 o6 M else (if ¬ (x2 < 0 ∨ 40 ≤ x2.toNatClampNeg) then (if ¬ ((gi M 93 x2.toNatClampNeg) < 0 ∨ 40 ≤ (gi M 93 x2.toNatClampNeg).toNatClampNeg) then (if ¬ ((gi M 87 (gi M 93 x2.toNatClampNeg).toNatClampNeg) < 0 ∨ 6 ≤ (gi M 87 (gi M 93 x2.toNatClampNeg).toNatClampNeg).toNatClampNeg) then fX6_comesInto_b95 x1 x2 (gi M 84 (gi M 87 (gi M 93 x2.toNatClampNeg).toNatClampNeg).toNatClampNeg) o5 o6 M else none) else none) else none)) else none) else none) else none)))) else none) else none)) else none)
set_option maxRecDepth 20000 in
theorem iX6_comesInto_X6 : ∀ w ∈ wsX60, w ∈ wsX6_comesInto := by decide +kernel
set_option maxRecDepth 20000 in
theorem kX6_comesInto_0 : Cond.fieldLink RX6 83 "BatchPipeModel" "has" "[I" ∈ wsX6_comesInto := by decide +kernel
set_option maxRecDepth 20000 in
theorem kX6_comesInto_1 : Cond.fieldLink RX6 89 "BatchPipeModel" "mixed" "[I" ∈ wsX6_comesInto := by decide +kernel
set_option maxRecDepth 20000 in
theorem kX6_comesInto_2 : Cond.fieldLink RX6 86 "BatchPipeModel" "worst" "[I" ∈ wsX6_comesInto := by decide +kernel
set_option maxRecDepth 20000 in
theorem kX6_comesInto_3 : Cond.fieldLink RX6 28 "BatchPipeModel" "grade" "[I" ∈ wsX6_comesInto := by decide +kernel
set_option maxRecDepth 20000 in
theorem kX6_comesInto_4 : Cond.fieldLink RX6 41 "BatchPipeModel" "product" "[I" ∈ wsX6_comesInto := by decide +kernel
set_option maxRecDepth 20000 in
theorem kX6_comesInto_5 : Cond.fieldLink RX6 62 "BatchPipeModel" "behind" "[I" ∈ wsX6_comesInto := by decide +kernel
set_option maxRecDepth 20000 in
theorem kX6_comesInto_6 : Cond.fieldLink RX6 59 "BatchPipeModel" "ahead" "[I" ∈ wsX6_comesInto := by decide +kernel
set_option maxRecDepth 20000 in
theorem kX6_comesInto_7 : Cond.fieldLink RX6 170 "BatchPipeModel" "spilled" "I" ∈ wsX6_comesInto := by decide +kernel
set_option maxRecDepth 100000 in
set_option maxHeartbeats 4000000 in
theorem bX6_comesInto_175 {p : Program} {l : Launch} {e : Env} {s : State} {m : MethodId} {args : Array Value} {below : List Frame} {meth : Method} {c : Code} {D : va_G} {cy : Nat → ClassId} {a : Nat} (hx : p.tables.exec = Jvm.exec) (hb : c.code = cX6_comesInto) (hr : meth.sig.returnType = none) (hml : c.maxLocals = 7) (hown : s.vm.findClass RX6 = some m.cls) (hts : ∀ w ∈ wsX6_comesInto, w.before args s = true) (hlocks : meth.locks = false) (hK : KS D cy s) (hZ : ZZ a s s.heap) {out : Mm} : ∀ (x1 : Int32) (x5 : Int32) (x6 : Int32) (xs1 : Int32) (xs2 : Int32) (M : Mm) (H : Heap) (locs : List Loc) (ls : Array Slot), HP D cy a M H → va_S (Aq a) s.heap H locs → lv_has ls 7 [(0, .ref (a + 77)), (1, .int x1), (5, .int x5), (6, .int x6)] → narrow .boolean (.int x5) = .int x5 → narrow .boolean (.int x6) = .int x6 → fX6_comesInto_b175 x1 x5 x6 xs1 xs2 M = some out → W p l e rX6_comesInto s m args below meth c H locs 0 0 (MQ below (QV D cy a out) args s 0 0 (Aq a)) (F0 m 175 ls [.int xs2, .int xs1, .ref (a + 100)]) := by
  intro x1 x5 x6 xs1 xs2 M H locs ls hw hS hl hb5 hb6 hf
  unfold fX6_comesInto_b175 at hf
  obtain ⟨hg1, hf⟩ := og hf
  refine rIast hx hb hK hw hS (Nat.le_of_ble_eq_true rfl) (fun _ => en_a100) hg1 dX6_comesInto_175 (fun H locs hw hS => ?_)
  refine lv_aload_n hx hb dX6_comesInto_176 rfl (lv_at hl 0 rfl) ?_
  refine rGet hx hb hts iX6_comesInto_X6 hown hK hw (Nat.le_of_ble_eq_true rfl) en_model rfl 35 (by decide) (hts _ kX6_comesInto_0) rfl rfl dX6_comesInto_177 ?_
  refine lv_iload_n hx hb dX6_comesInto_180 rfl (lv_at hl 1 rfl) ?_
  refine lv_dup2_11 hx hb dX6_comesInto_181 rfl rfl ?_
  obtain ⟨hg2, hf⟩ := og hf
  refine rIald hx hb hK hw (Nat.le_of_ble_eq_true rfl) en_a99 hg2 dX6_comesInto_182 ?_
  refine lv_iconst (v := (1 : Int32)) hx hb dX6_comesInto_183 (by decide) ?_
  refine lv_iadd hx hb dX6_comesInto_184 ?_
  obtain ⟨hg3, hf⟩ := og hf
  refine rIast hx hb hK hw hS (Nat.le_of_ble_eq_true rfl) (fun _ => en_a99) hg3 dX6_comesInto_185 (fun H locs hw hS => ?_)
  refine lv_aload_n hx hb dX6_comesInto_186 rfl (lv_at hl 0 rfl) ?_
  refine rGet hx hb hts iX6_comesInto_X6 hown hK hw (Nat.le_of_ble_eq_true rfl) en_model rfl 37 (by decide) (hts _ kX6_comesInto_1) rfl rfl dX6_comesInto_187 ?_
  refine lv_iload_n hx hb dX6_comesInto_190 rfl (lv_at hl 1 rfl) ?_
  refine lv_dup2_11 hx hb dX6_comesInto_191 rfl rfl ?_
  obtain ⟨hg4, hf⟩ := og hf
  refine rIald hx hb hK hw (Nat.le_of_ble_eq_true rfl) en_a101 hg4 dX6_comesInto_192 ?_
  refine lv_iload hx hb dX6_comesInto_193 (lv_at hl 2 rfl) ?_
  refine lv_if_ne (tgt := 203) hx hb dX6_comesInto_195 (by decide) (fun c5 => ?_) (fun c5 => ?_)
  · have hf := iq c5 hf
    refine lv_iconst (v := (1 : Int32)) hx hb dX6_comesInto_203 (by decide) ?_
    refine lv_goto (tgt := 208) hx hb dX6_comesInto_204 (by decide) ?_
    refine lv_iadd hx hb dX6_comesInto_208 ?_
    obtain ⟨hg6, hf⟩ := og hf
    refine rIast hx hb hK hw hS (Nat.le_of_ble_eq_true rfl) (fun _ => en_a101) hg6 dX6_comesInto_209 (fun H locs hw hS => ?_)
    obtain rfl := Option.some.inj hf
    exact rVret hx hb hr hlocks hw hS dX6_comesInto_210
  · have hf := ip c5 hf
    refine lv_iload hx hb dX6_comesInto_198 (lv_at hl 3 rfl) ?_
    refine lv_if_eq (tgt := 207) hx hb dX6_comesInto_200 (by decide) (fun c7 => ?_) (fun c7 => ?_)
    · have hf := ip c7 hf
      refine lv_iconst (v := (0 : Int32)) hx hb dX6_comesInto_207 (by decide) ?_
      refine lv_iadd hx hb dX6_comesInto_208 ?_
      obtain ⟨hg8, hf⟩ := og hf
      refine rIast hx hb hK hw hS (Nat.le_of_ble_eq_true rfl) (fun _ => en_a101) hg8 dX6_comesInto_209 (fun H locs hw hS => ?_)
      obtain rfl := Option.some.inj hf
      exact rVret hx hb hr hlocks hw hS dX6_comesInto_210
    · have hf := iq c7 hf
      refine lv_iconst (v := (1 : Int32)) hx hb dX6_comesInto_203 (by decide) ?_
      refine lv_goto (tgt := 208) hx hb dX6_comesInto_204 (by decide) ?_
      refine lv_iadd hx hb dX6_comesInto_208 ?_
      obtain ⟨hg9, hf⟩ := og hf
      refine rIast hx hb hK hw hS (Nat.le_of_ble_eq_true rfl) (fun _ => en_a101) hg9 dX6_comesInto_209 (fun H locs hw hS => ?_)
      obtain rfl := Option.some.inj hf
      exact rVret hx hb hr hlocks hw hS dX6_comesInto_210
set_option maxRecDepth 100000 in
set_option maxHeartbeats 4000000 in
theorem bX6_comesInto_164 {p : Program} {l : Launch} {e : Env} {s : State} {m : MethodId} {args : Array Value} {below : List Frame} {meth : Method} {c : Code} {D : va_G} {cy : Nat → ClassId} {a : Nat} (hx : p.tables.exec = Jvm.exec) (hb : c.code = cX6_comesInto) (hr : meth.sig.returnType = none) (hml : c.maxLocals = 7) (hown : s.vm.findClass RX6 = some m.cls) (hts : ∀ w ∈ wsX6_comesInto, w.before args s = true) (hlocks : meth.locks = false) (hK : KS D cy s) (hZ : ZZ a s s.heap) {out : Mm} : ∀ (x1 : Int32) (x4 : Int32) (x5 : Int32) (x6 : Int32) (xs1 : Int32) (M : Mm) (H : Heap) (locs : List Loc) (ls : Array Slot), HP D cy a M H → va_S (Aq a) s.heap H locs → lv_has ls 7 [(0, .ref (a + 77)), (1, .int x1), (4, .int x4), (5, .int x5), (6, .int x6)] → narrow .boolean (.int x5) = .int x5 → narrow .boolean (.int x6) = .int x6 → fX6_comesInto_b164 x1 x4 x5 x6 xs1 M = some out → W p l e rX6_comesInto s m args below meth c H locs 0 0 (MQ below (QV D cy a out) args s 0 0 (Aq a)) (F0 m 164 ls [.int xs1, .ref (a + 100)]) := by
  intro x1 x4 x5 x6 xs1 M H locs ls hw hS hl hb5 hb6 hf
  unfold fX6_comesInto_b164 at hf
  refine lv_iload hx hb dX6_comesInto_164 (lv_at hl 2 rfl) ?_
  refine lv_goto (tgt := 175) hx hb dX6_comesInto_166 (by decide) ?_
  exact bX6_comesInto_175 hx hb hr hml hown hts hlocks hK hZ _ _ _ _ _ _ _ _ _ hw hS (lv_sub hl [0, 1, 3, 4] rfl) hb5 hb6 hf
set_option maxRecDepth 100000 in
set_option maxHeartbeats 4000000 in
theorem bX6_comesInto_139 {p : Program} {l : Launch} {e : Env} {s : State} {m : MethodId} {args : Array Value} {below : List Frame} {meth : Method} {c : Code} {D : va_G} {cy : Nat → ClassId} {a : Nat} (hx : p.tables.exec = Jvm.exec) (hb : c.code = cX6_comesInto) (hr : meth.sig.returnType = none) (hml : c.maxLocals = 7) (hown : s.vm.findClass RX6 = some m.cls) (hts : ∀ w ∈ wsX6_comesInto, w.before args s = true) (hlocks : meth.locks = false) (hK : KS D cy s) (hZ : ZZ a s s.heap) {out : Mm} : ∀ (x1 : Int32) (x4 : Int32) (x5 : Int32) (x6 : Int32) (M : Mm) (H : Heap) (locs : List Loc) (ls : Array Slot), HP D cy a M H → va_S (Aq a) s.heap H locs → lv_has ls 7 [(0, .ref (a + 77)), (1, .int x1), (4, .int x4), (5, .int x5), (6, .int x6)] → narrow .boolean (.int x5) = .int x5 → narrow .boolean (.int x6) = .int x6 → fX6_comesInto_b139 x1 x4 x5 x6 M = some out → W p l e rX6_comesInto s m args below meth c H locs 0 0 (MQ below (QV D cy a out) args s 0 0 (Aq a)) (F0 m 139 ls []) := by
  intro x1 x4 x5 x6 M H locs ls hw hS hl hb5 hb6 hf
  unfold fX6_comesInto_b139 at hf
  refine lv_aload_n hx hb dX6_comesInto_139 rfl (lv_at hl 0 rfl) ?_
  refine rGet hx hb hts iX6_comesInto_X6 hown hK hw (Nat.le_of_ble_eq_true rfl) en_model rfl 36 (by decide) (hts _ kX6_comesInto_2) rfl rfl dX6_comesInto_140 ?_
  refine lv_iload_n hx hb dX6_comesInto_143 rfl (lv_at hl 1 rfl) ?_
  refine lv_aload_n hx hb dX6_comesInto_144 rfl (lv_at hl 0 rfl) ?_
  refine rGet hx hb hts iX6_comesInto_X6 hown hK hw (Nat.le_of_ble_eq_true rfl) en_model rfl 35 (by decide) (hts _ kX6_comesInto_0) rfl rfl dX6_comesInto_145 ?_
  refine lv_iload_n hx hb dX6_comesInto_148 rfl (lv_at hl 1 rfl) ?_
  obtain ⟨hg1, hf⟩ := og hf
  refine rIald hx hb hK hw (Nat.le_of_ble_eq_true rfl) en_a99 hg1 dX6_comesInto_149 ?_
  refine lv_if_eq (tgt := 164) hx hb dX6_comesInto_150 (by decide) (fun c2 => ?_) (fun c2 => ?_)
  · have hf := ip c2 hf
    exact bX6_comesInto_164 hx hb hr hml hown hts hlocks hK hZ _ _ _ _ _ _ _ _ _ hw hS (lv_sub hl [0, 1, 2, 3, 4] rfl) hb5 hb6 hf
  · have hf := iq c2 hf
    refine lv_iload hx hb dX6_comesInto_153 (lv_at hl 2 rfl) ?_
    refine lv_aload_n hx hb dX6_comesInto_155 rfl (lv_at hl 0 rfl) ?_
    refine rGet hx hb hts iX6_comesInto_X6 hown hK hw (Nat.le_of_ble_eq_true rfl) en_model rfl 36 (by decide) (hts _ kX6_comesInto_2) rfl rfl dX6_comesInto_156 ?_
    refine lv_iload_n hx hb dX6_comesInto_159 rfl (lv_at hl 1 rfl) ?_
    obtain ⟨hg3, hf⟩ := og hf
    refine rIald hx hb hK hw (Nat.le_of_ble_eq_true rfl) en_a100 hg3 dX6_comesInto_160 ?_
    refine lv_icmp_le (tgt := 169) hx hb dX6_comesInto_161 (by decide) (fun c4 => ?_) (fun c4 => ?_)
    · have hf := ip c4 hf
      refine lv_aload_n hx hb dX6_comesInto_169 rfl (lv_at hl 0 rfl) ?_
      refine rGet hx hb hts iX6_comesInto_X6 hown hK hw (Nat.le_of_ble_eq_true rfl) en_model rfl 36 (by decide) (hts _ kX6_comesInto_2) rfl rfl dX6_comesInto_170 ?_
      refine lv_iload_n hx hb dX6_comesInto_173 rfl (lv_at hl 1 rfl) ?_
      obtain ⟨hg5, hf⟩ := og hf
      refine rIald hx hb hK hw (Nat.le_of_ble_eq_true rfl) en_a100 hg5 dX6_comesInto_174 ?_
      exact bX6_comesInto_175 hx hb hr hml hown hts hlocks hK hZ _ _ _ _ _ _ _ _ _ hw hS (lv_sub hl [0, 1, 3, 4] rfl) hb5 hb6 hf
    · have hf := iq c4 hf
      exact bX6_comesInto_164 hx hb hr hml hown hts hlocks hK hZ _ _ _ _ _ _ _ _ _ hw hS (lv_sub hl [0, 1, 2, 3, 4] rfl) hb5 hb6 hf
set_option maxRecDepth 100000 in
set_option maxHeartbeats 4000000 in
theorem bX6_comesInto_95 {p : Program} {l : Launch} {e : Env} {s : State} {m : MethodId} {args : Array Value} {below : List Frame} {meth : Method} {c : Code} {D : va_G} {cy : Nat → ClassId} {a : Nat} (hx : p.tables.exec = Jvm.exec) (hb : c.code = cX6_comesInto) (hr : meth.sig.returnType = none) (hml : c.maxLocals = 7) (hown : s.vm.findClass RX6 = some m.cls) (hts : ∀ w ∈ wsX6_comesInto, w.before args s = true) (hlocks : meth.locks = false) (hK : KS D cy s) (hZ : ZZ a s s.heap) {out : Mm} : ∀ (x1 : Int32) (x2 : Int32) (x4 : Int32) (x5 : Int32) (x6 : Int32) (M : Mm) (H : Heap) (locs : List Loc) (ls : Array Slot), HP D cy a M H → va_S (Aq a) s.heap H locs → lv_has ls 7 [(0, .ref (a + 77)), (1, .int x1), (2, .int x2), (4, .int x4), (5, .int x5), (6, .int x6)] → narrow .boolean (.int x5) = .int x5 → narrow .boolean (.int x6) = .int x6 → fX6_comesInto_b95 x1 x2 x4 x5 x6 M = some out → W p l e rX6_comesInto s m args below meth c H locs 0 0 (MQ below (QV D cy a out) args s 0 0 (Aq a)) (F0 m 95 ls []) := by
  intro x1 x2 x4 x5 x6 M H locs ls hw hS hl hb5 hb6 hf
  unfold fX6_comesInto_b95 at hf
  refine lv_iload hx hb dX6_comesInto_95 (lv_at hl 5 rfl) ?_
  refine lv_if_eq (tgt := 139) hx hb dX6_comesInto_97 (by decide) (fun c1 => ?_) (fun c1 => ?_)
  · have hf := ip c1 hf
    exact bX6_comesInto_139 hx hb hr hml hown hts hlocks hK hZ _ _ _ _ _ _ _ _ hw hS (lv_sub hl [0, 1, 3, 4, 5] rfl) hb5 hb6 hf
  · have hf := iq c1 hf
    refine lv_aload_n hx hb dX6_comesInto_100 rfl (lv_at hl 0 rfl) ?_
    refine rGet hx hb hts iX6_comesInto_X6 hown hK hw (Nat.le_of_ble_eq_true rfl) en_model rfl 10 (by decide) (hts _ kX6_comesInto_3) rfl rfl dX6_comesInto_101 ?_
    refine lv_aload_n hx hb dX6_comesInto_104 rfl (lv_at hl 0 rfl) ?_
    refine rGet hx hb hts iX6_comesInto_X6 hown hK hw (Nat.le_of_ble_eq_true rfl) en_model rfl 14 (by decide) (hts _ kX6_comesInto_4) rfl rfl dX6_comesInto_105 ?_
    refine lv_aload_n hx hb dX6_comesInto_108 rfl (lv_at hl 0 rfl) ?_
    refine rGet hx hb hts iX6_comesInto_X6 hown hK hw (Nat.le_of_ble_eq_true rfl) en_model rfl 21 (by decide) (hts _ kX6_comesInto_5) rfl rfl dX6_comesInto_109 ?_
    refine lv_iload_n hx hb dX6_comesInto_112 rfl (lv_at hl 2 rfl) ?_
    obtain ⟨hg2, hf⟩ := og hf
    refine rIald hx hb hK hw (Nat.le_of_ble_eq_true rfl) en_a94 hg2 dX6_comesInto_113 ?_
    obtain ⟨hg3, hf⟩ := og hf
    refine rIald hx hb hK hw (Nat.le_of_ble_eq_true rfl) en_a87 hg3 dX6_comesInto_114 ?_
    obtain ⟨hg4, hf⟩ := og hf
    refine rIald hx hb hK hw (Nat.le_of_ble_eq_true rfl) en_a84 hg4 dX6_comesInto_115 ?_
    refine lv_iload hx hb dX6_comesInto_116 (lv_at hl 3 rfl) ?_
    refine lv_icmp_le (tgt := 139) hx hb dX6_comesInto_118 (by decide) (fun c5 => ?_) (fun c5 => ?_)
    · have hf := ip c5 hf
      exact bX6_comesInto_139 hx hb hr hml hown hts hlocks hK hZ _ _ _ _ _ _ _ _ hw hS (lv_sub hl [0, 1, 3, 4, 5] rfl) hb5 hb6 hf
    · have hf := iq c5 hf
      refine lv_aload_n hx hb dX6_comesInto_121 rfl (lv_at hl 0 rfl) ?_
      refine rGet hx hb hts iX6_comesInto_X6 hown hK hw (Nat.le_of_ble_eq_true rfl) en_model rfl 10 (by decide) (hts _ kX6_comesInto_3) rfl rfl dX6_comesInto_122 ?_
      refine lv_aload_n hx hb dX6_comesInto_125 rfl (lv_at hl 0 rfl) ?_
      refine rGet hx hb hts iX6_comesInto_X6 hown hK hw (Nat.le_of_ble_eq_true rfl) en_model rfl 14 (by decide) (hts _ kX6_comesInto_4) rfl rfl dX6_comesInto_126 ?_
      refine lv_aload_n hx hb dX6_comesInto_129 rfl (lv_at hl 0 rfl) ?_
      refine rGet hx hb hts iX6_comesInto_X6 hown hK hw (Nat.le_of_ble_eq_true rfl) en_model rfl 21 (by decide) (hts _ kX6_comesInto_5) rfl rfl dX6_comesInto_130 ?_
      refine lv_iload_n hx hb dX6_comesInto_133 rfl (lv_at hl 2 rfl) ?_
      obtain ⟨hg6, hf⟩ := og hf
      refine rIald hx hb hK hw (Nat.le_of_ble_eq_true rfl) en_a94 hg6 dX6_comesInto_134 ?_
      obtain ⟨hg7, hf⟩ := og hf
      refine rIald hx hb hK hw (Nat.le_of_ble_eq_true rfl) en_a87 hg7 dX6_comesInto_135 ?_
      obtain ⟨hg8, hf⟩ := og hf
      refine rIald hx hb hK hw (Nat.le_of_ble_eq_true rfl) en_a84 hg8 dX6_comesInto_136 ?_
      refine lv_istore (lv' := [(4, .int (gi M 84 (gi M 87 (gi M 94 x2.toNatClampNeg).toNatClampNeg).toNatClampNeg)), (0, .ref (a + 77)), (1, .int x1), (2, .int x2), (5, .int x5), (6, .int x6)]) hx hb dX6_comesInto_137 hl (Nat.le_of_ble_eq_true rfl) rfl (fun ls hl => ?_)
      exact bX6_comesInto_139 hx hb hr hml hown hts hlocks hK hZ _ _ _ _ _ _ _ _ hw hS (lv_sub hl [1, 2, 0, 4, 5] rfl) hb5 hb6 hf
set_option maxRecDepth 100000 in
set_option maxHeartbeats 4000000 in
theorem bX6_comesInto_0 {p : Program} {l : Launch} {e : Env} {s : State} {m : MethodId} {args : Array Value} {below : List Frame} {meth : Method} {c : Code} {D : va_G} {cy : Nat → ClassId} {a : Nat} (hx : p.tables.exec = Jvm.exec) (hb : c.code = cX6_comesInto) (hr : meth.sig.returnType = none) (hml : c.maxLocals = 7) (hown : s.vm.findClass RX6 = some m.cls) (hts : ∀ w ∈ wsX6_comesInto, w.before args s = true) (hlocks : meth.locks = false) (hK : KS D cy s) (hZ : ZZ a s s.heap) {out : Mm} : ∀ (x1 : Int32) (x2 : Int32) (x3 : Int32) (M : Mm) (H : Heap) (locs : List Loc) (ls : Array Slot), HP D cy a M H → va_S (Aq a) s.heap H locs → lv_has ls 7 [(0, .ref (a + 77)), (1, .int x1), (2, .int x2), (3, .int x3)] → fX6_comesInto x1 x2 x3 M = some out → W p l e rX6_comesInto s m args below meth c H locs 0 0 (MQ below (QV D cy a out) args s 0 0 (Aq a)) (F0 m 0 ls []) := by
  intro x1 x2 x3 M H locs ls hw hS hl hf
  unfold fX6_comesInto at hf
  refine lv_aload_n hx hb dX6_comesInto_0 rfl (lv_at hl 0 rfl) ?_
  refine rGet hx hb hts iX6_comesInto_X6 hown hK hw (Nat.le_of_ble_eq_true rfl) en_model rfl 35 (by decide) (hts _ kX6_comesInto_0) rfl rfl dX6_comesInto_1 ?_
  refine lv_iload_n hx hb dX6_comesInto_4 rfl (lv_at hl 1 rfl) ?_
  obtain ⟨hg1, hf⟩ := og hf
  refine rIald hx hb hK hw (Nat.le_of_ble_eq_true rfl) en_a99 hg1 dX6_comesInto_5 ?_
  refine lv_bipush (v := (100 : Int32)) hx hb dX6_comesInto_6 (by decide) ?_
  refine lv_icmp_ne (tgt := 22) hx hb dX6_comesInto_8 (by decide) (fun c2 => ?_) (fun c2 => ?_)
  · have hf := iq c2 hf
    refine lv_aload_n hx hb dX6_comesInto_22 rfl (lv_at hl 0 rfl) ?_
    refine rGet hx hb hts iX6_comesInto_X6 hown hK hw (Nat.le_of_ble_eq_true rfl) en_model rfl 10 (by decide) (hts _ kX6_comesInto_3) rfl rfl dX6_comesInto_23 ?_
    refine lv_aload_n hx hb dX6_comesInto_26 rfl (lv_at hl 0 rfl) ?_
    refine rGet hx hb hts iX6_comesInto_X6 hown hK hw (Nat.le_of_ble_eq_true rfl) en_model rfl 14 (by decide) (hts _ kX6_comesInto_4) rfl rfl dX6_comesInto_27 ?_
    refine lv_iload_n hx hb dX6_comesInto_30 rfl (lv_at hl 2 rfl) ?_
    obtain ⟨hg3, hf⟩ := og hf
    refine rIald hx hb hK hw (Nat.le_of_ble_eq_true rfl) en_a87 hg3 dX6_comesInto_31 ?_
    obtain ⟨hg4, hf⟩ := og hf
    refine rIald hx hb hK hw (Nat.le_of_ble_eq_true rfl) en_a84 hg4 dX6_comesInto_32 ?_
    refine lv_istore (lv' := [(4, .int (gi M 84 (gi M 87 x2.toNatClampNeg).toNatClampNeg)), (0, .ref (a + 77)), (1, .int x1), (2, .int x2), (3, .int x3)]) hx hb dX6_comesInto_33 hl (Nat.le_of_ble_eq_true rfl) rfl (fun ls hl => ?_)
    refine lv_aload_n hx hb dX6_comesInto_35 rfl (lv_at hl 1 rfl) ?_
    refine lv_iload_n hx hb dX6_comesInto_36 rfl (lv_at hl 3 rfl) ?_
    refine lv_iload_n hx hb dX6_comesInto_37 rfl (lv_at hl 4 rfl) ?_
    obtain ⟨o5, ho5, hf⟩ := ob hf
    refine rCallB (va_runV (As := [.int x2, .int x3]) (rest := []) ⟨hx, hb, hml, hown, hts⟩ (ctX6_isMixedAhead (l := l) (D := D) (cy := cy) (a := a) ho5) (cwV 2 hts gX6_comesInto_X6_isMixedAhead rfl rfl rfl (by decide +kernel) ⟨Nat.le_of_ble_eq_true rfl, Nat.le_of_ble_eq_true rfl⟩) (pV hK hZ hw hS (rRecv hK hw (Nat.le_of_ble_eq_true rfl) en_model rfl)) rfl rfl hl.1 rfl (lv_room (Nat.le_of_ble_eq_true rfl)) dX6_comesInto_38 ⟨Nat.le_of_ble_eq_true rfl, Nat.le_of_ble_eq_true rfl⟩) hS (fun H locs hw hS ho5b => ?_)
    refine lv_istore (lv' := [(5, .int o5), (4, .int (gi M 84 (gi M 87 x2.toNatClampNeg).toNatClampNeg)), (0, .ref (a + 77)), (1, .int x1), (2, .int x2), (3, .int x3)]) hx hb dX6_comesInto_41 hl (Nat.le_of_ble_eq_true rfl) rfl (fun ls hl => ?_)
    refine lv_aload_n hx hb dX6_comesInto_43 rfl (lv_at hl 2 rfl) ?_
    refine lv_iload_n hx hb dX6_comesInto_44 rfl (lv_at hl 4 rfl) ?_
    refine lv_iload_n hx hb dX6_comesInto_45 rfl (lv_at hl 5 rfl) ?_
    obtain ⟨o6, ho6, hf⟩ := ob hf
    refine rCallB (va_runV (As := [.int x2, .int x3]) (rest := []) ⟨hx, hb, hml, hown, hts⟩ (ctX6_isMixedBehind (l := l) (D := D) (cy := cy) (a := a) ho6) (cwV 2 hts gX6_comesInto_X6_isMixedBehind rfl rfl rfl (by decide +kernel) ⟨Nat.le_of_ble_eq_true rfl, Nat.le_of_ble_eq_true rfl⟩) (pV hK hZ hw hS (rRecv hK hw (Nat.le_of_ble_eq_true rfl) en_model rfl)) rfl rfl hl.1 rfl (lv_room (Nat.le_of_ble_eq_true rfl)) dX6_comesInto_46 ⟨Nat.le_of_ble_eq_true rfl, Nat.le_of_ble_eq_true rfl⟩) hS (fun H locs hw hS ho6b => ?_)
    refine lv_istore (lv' := [(6, .int o6), (5, .int o5), (4, .int (gi M 84 (gi M 87 x2.toNatClampNeg).toNatClampNeg)), (0, .ref (a + 77)), (1, .int x1), (2, .int x2), (3, .int x3)]) hx hb dX6_comesInto_49 hl (Nat.le_of_ble_eq_true rfl) rfl (fun ls hl => ?_)
    refine lv_iload hx hb dX6_comesInto_51 (lv_at hl 1 rfl) ?_
    refine lv_if_eq (tgt := 95) hx hb dX6_comesInto_53 (by decide) (fun c7 => ?_) (fun c7 => ?_)
    · have hf := ip c7 hf
      exact bX6_comesInto_95 hx hb hr hml hown hts hlocks hK hZ _ _ _ _ _ _ _ _ _ hw hS (lv_sub hl [3, 4, 5, 2, 1, 0] rfl) ho5b ho6b hf
    · have hf := iq c7 hf
      refine lv_aload_n hx hb dX6_comesInto_56 rfl (lv_at hl 3 rfl) ?_
      refine rGet hx hb hts iX6_comesInto_X6 hown hK hw (Nat.le_of_ble_eq_true rfl) en_model rfl 10 (by decide) (hts _ kX6_comesInto_3) rfl rfl dX6_comesInto_57 ?_
      refine lv_aload_n hx hb dX6_comesInto_60 rfl (lv_at hl 3 rfl) ?_
      refine rGet hx hb hts iX6_comesInto_X6 hown hK hw (Nat.le_of_ble_eq_true rfl) en_model rfl 14 (by decide) (hts _ kX6_comesInto_4) rfl rfl dX6_comesInto_61 ?_
      refine lv_aload_n hx hb dX6_comesInto_64 rfl (lv_at hl 3 rfl) ?_
      refine rGet hx hb hts iX6_comesInto_X6 hown hK hw (Nat.le_of_ble_eq_true rfl) en_model rfl 20 (by decide) (hts _ kX6_comesInto_6) rfl rfl dX6_comesInto_65 ?_
      refine lv_iload_n hx hb dX6_comesInto_68 rfl (lv_at hl 5 rfl) ?_
      obtain ⟨hg8, hf⟩ := og hf
      refine rIald hx hb hK hw (Nat.le_of_ble_eq_true rfl) en_a93 hg8 dX6_comesInto_69 ?_
      obtain ⟨hg9, hf⟩ := og hf
      refine rIald hx hb hK hw (Nat.le_of_ble_eq_true rfl) en_a87 hg9 dX6_comesInto_70 ?_
      obtain ⟨hg10, hf⟩ := og hf
      refine rIald hx hb hK hw (Nat.le_of_ble_eq_true rfl) en_a84 hg10 dX6_comesInto_71 ?_
      refine lv_iload hx hb dX6_comesInto_72 (lv_at hl 2 rfl) ?_
      refine lv_icmp_le (tgt := 95) hx hb dX6_comesInto_74 (by decide) (fun c11 => ?_) (fun c11 => ?_)
      · have hf := ip c11 hf
        exact bX6_comesInto_95 hx hb hr hml hown hts hlocks hK hZ _ _ _ _ _ _ _ _ _ hw hS (lv_sub hl [3, 4, 5, 2, 1, 0] rfl) ho5b ho6b hf
      · have hf := iq c11 hf
        refine lv_aload_n hx hb dX6_comesInto_77 rfl (lv_at hl 3 rfl) ?_
        refine rGet hx hb hts iX6_comesInto_X6 hown hK hw (Nat.le_of_ble_eq_true rfl) en_model rfl 10 (by decide) (hts _ kX6_comesInto_3) rfl rfl dX6_comesInto_78 ?_
        refine lv_aload_n hx hb dX6_comesInto_81 rfl (lv_at hl 3 rfl) ?_
        refine rGet hx hb hts iX6_comesInto_X6 hown hK hw (Nat.le_of_ble_eq_true rfl) en_model rfl 14 (by decide) (hts _ kX6_comesInto_4) rfl rfl dX6_comesInto_82 ?_
        refine lv_aload_n hx hb dX6_comesInto_85 rfl (lv_at hl 3 rfl) ?_
        refine rGet hx hb hts iX6_comesInto_X6 hown hK hw (Nat.le_of_ble_eq_true rfl) en_model rfl 20 (by decide) (hts _ kX6_comesInto_6) rfl rfl dX6_comesInto_86 ?_
        refine lv_iload_n hx hb dX6_comesInto_89 rfl (lv_at hl 5 rfl) ?_
        obtain ⟨hg12, hf⟩ := og hf
        refine rIald hx hb hK hw (Nat.le_of_ble_eq_true rfl) en_a93 hg12 dX6_comesInto_90 ?_
        obtain ⟨hg13, hf⟩ := og hf
        refine rIald hx hb hK hw (Nat.le_of_ble_eq_true rfl) en_a87 hg13 dX6_comesInto_91 ?_
        obtain ⟨hg14, hf⟩ := og hf
        refine rIald hx hb hK hw (Nat.le_of_ble_eq_true rfl) en_a84 hg14 dX6_comesInto_92 ?_
        refine lv_istore (lv' := [(4, .int (gi M 84 (gi M 87 (gi M 93 x2.toNatClampNeg).toNatClampNeg).toNatClampNeg)), (6, .int o6), (5, .int o5), (0, .ref (a + 77)), (1, .int x1), (2, .int x2), (3, .int x3)]) hx hb dX6_comesInto_93 hl (Nat.le_of_ble_eq_true rfl) rfl (fun ls hl => ?_)
        exact bX6_comesInto_95 hx hb hr hml hown hts hlocks hK hZ _ _ _ _ _ _ _ _ _ hw hS (lv_sub hl [3, 4, 5, 0, 2, 1] rfl) ho5b ho6b hf
  · have hf := ip c2 hf
    refine lv_aload_n hx hb dX6_comesInto_11 rfl (lv_at hl 0 rfl) ?_
    refine lv_dup hx hb dX6_comesInto_12 rfl ?_
    refine rGetI hx hb hts iX6_comesInto_X6 hown hK hw (Nat.le_of_ble_eq_true rfl) en_model rfl 38 (by decide) (hts _ kX6_comesInto_7) rfl ge6_38 dX6_comesInto_13 ?_
    refine lv_iconst (v := (1 : Int32)) hx hb dX6_comesInto_16 (by decide) ?_
    refine lv_iadd hx hb dX6_comesInto_17 ?_
    refine rPut hx hb hts iX6_comesInto_X6 tyX6 tyX6_ok nmX6 hown hK hw hS (Nat.le_of_ble_eq_true rfl) en_model rfl 38 (by decide) (hts _ kX6_comesInto_7) rfl rfl rfl rfl (Nat.le_of_ble_eq_true rfl) hs6_38 dX6_comesInto_18 (fun H locs hw hS => ?_)
    obtain rfl := Option.some.inj hf
    exact rVret hx hb hr hlocks hw hS dX6_comesInto_21
set_option maxRecDepth 100000 in
set_option maxHeartbeats 4000000 in
theorem ctX6_comesInto {l : Launch} {D : va_G} {cy : Nat → ClassId} {a : Nat} {x1 : Int32} {x2 : Int32} {x3 : Int32} {M : Mm} {out : Mm} (hf : fX6_comesInto x1 x2 x3 M = some out) : Met l yX6_comesInto wsX6_comesInto rX6_comesInto (Pre D cy a M [.ref (a + 77), .int x1, .int x2, .int x3]) (QV D cy a out) 0 0 (Aq a) := by
  refine Met.ofW (cc := cX6_comesInto) (maxL := 7) (ret := none) (by decide +kernel) rfl ?_
  intro p e s m args below meth c s₁ B hml hv
  obtain ⟨rfl, hw, hK, hZ⟩ := hv
  have hS : va_S (Aq a) s.heap s.heap [] := va_S.rf
  have hl := lv_entry ([.ref (a + 77), .int x1, .int x2, .int x3]) (n := 7) (Nat.le_of_ble_eq_true rfl)
  rw [lg_entry_eq]
  generalize (lg_sl ([.ref (a + 77), .int x1, .int x2, .int x3]) ++ List.replicate (7 - (lg_sl ([.ref (a + 77), .int x1, .int x2, .int x3])).length) Slot.unset).toArray = ls at hl ⊢
  exact bX6_comesInto_0 B.exec B.bytes B.returns hml (findClass_of_methodNamed B.named) (atoms_spec (ws := wsX6_comesInto) B.pre) B.notSynchronized hK hZ _ _ _ _ _ _ _ hw hS hl hf
def rX6_isIn : Room := { frames := 0, cells := 0, slots := 0, locals := 0 }
noncomputable def fX6_isIn (x0 : Int32) (x1 : Int32) (M : Mm) : Option (Int32) := (if ((ishr x1 x0) &&& (1 : Int32)) = (1 : Int32) then some ((1 : Int32)) else some ((0 : Int32)))
set_option maxRecDepth 100000 in
set_option maxHeartbeats 4000000 in
theorem bX6_isIn_0 {p : Program} {l : Launch} {e : Env} {s : State} {m : MethodId} {args : Array Value} {below : List Frame} {meth : Method} {c : Code} {D : va_G} {cy : Nat → ClassId} {a : Nat} (hx : p.tables.exec = Jvm.exec) (hb : c.code = cX6_isIn) (hr : meth.sig.returnType = (some .boolean)) (hml : c.maxLocals = 2) (hown : s.vm.findClass RX6 = some m.cls) (hts : ∀ w ∈ wsX6_isIn, w.before args s = true) (hlocks : meth.locks = false) (hK : KS D cy s) (hZ : ZZ a s s.heap) {out : Int32} : ∀ (x0 : Int32) (x1 : Int32) (M : Mm) (H : Heap) (locs : List Loc) (ls : Array Slot), HP D cy a M H → va_S (Aq a) s.heap H locs → lv_has ls 2 [(0, .int x0), (1, .int x1)] → fX6_isIn x0 x1 M = some out → W p l e rX6_isIn s m args below meth c H locs 0 0 (MQ below (QB D cy a out M) args s 0 0 (Aq a)) (F0 m 0 ls []) := by
  intro x0 x1 M H locs ls hw hS hl hf
  unfold fX6_isIn at hf
  refine lv_iload_n hx hb dX6_isIn_0 rfl (lv_at hl 1 rfl) ?_
  refine lv_iload_n hx hb dX6_isIn_1 rfl (lv_at hl 0 rfl) ?_
  refine lv_ishr hx hb dX6_isIn_2 ?_
  refine lv_iconst (v := (1 : Int32)) hx hb dX6_isIn_3 (by decide) ?_
  refine lv_iand hx hb dX6_isIn_4 ?_
  refine lv_iconst (v := (1 : Int32)) hx hb dX6_isIn_5 (by decide) ?_
  refine lv_icmp_ne (tgt := 13) hx hb dX6_isIn_6 (by decide) (fun c1 => ?_) (fun c1 => ?_)
  · have hf := iq c1 hf
    refine lv_iconst (v := (0 : Int32)) hx hb dX6_isIn_13 (by decide) ?_
    obtain rfl := Option.some.inj hf
    exact rBret (x := (0 : Int32)) hx hb hr hlocks hw hS rfl dX6_isIn_14
  · have hf := ip c1 hf
    refine lv_iconst (v := (1 : Int32)) hx hb dX6_isIn_9 (by decide) ?_
    refine lv_goto (tgt := 14) hx hb dX6_isIn_10 (by decide) ?_
    obtain rfl := Option.some.inj hf
    exact rBret (x := (1 : Int32)) hx hb hr hlocks hw hS rfl dX6_isIn_14
set_option maxRecDepth 100000 in
set_option maxHeartbeats 4000000 in
theorem ctX6_isIn {l : Launch} {D : va_G} {cy : Nat → ClassId} {a : Nat} {x0 : Int32} {x1 : Int32} {M : Mm} {out : Int32} (hf : fX6_isIn x0 x1 M = some out) : Met l yX6_isIn wsX6_isIn rX6_isIn (Pre D cy a M [.int x0, .int x1]) (QB D cy a out M) 0 0 (Aq a) := by
  refine Met.ofW (cc := cX6_isIn) (maxL := 2) (ret := (some .boolean)) (by decide +kernel) rfl ?_
  intro p e s m args below meth c s₁ B hml hv
  obtain ⟨rfl, hw, hK, hZ⟩ := hv
  have hS : va_S (Aq a) s.heap s.heap [] := va_S.rf
  have hl := lv_entry ([.int x0, .int x1]) (n := 2) (Nat.le_of_ble_eq_true rfl)
  rw [lg_entry_eq]
  generalize (lg_sl ([.int x0, .int x1]) ++ List.replicate (2 - (lg_sl ([.int x0, .int x1])).length) Slot.unset).toArray = ls at hl ⊢
  exact bX6_isIn_0 B.exec B.bytes B.returns hml (findClass_of_methodNamed B.named) (atoms_spec (ws := wsX6_isIn) B.pre) B.notSynchronized hK hZ _ _ _ _ _ _ hw hS hl hf
def rX6_entering : Room := { frames := 1, cells := 0, slots := 0, locals := 21 }
noncomputable def fX6_entering_L61 : Nat → Int32 → Int32 → Mm → Option (Int32)
  | 0 => fun _ _ _ => none
  | n + 1 => fun x1 x2 M => (if (gi M 77 12) ≤ x2 then some ((-1 : Int32)) else (if ¬ (x2 < 0 ∨ 40 ≤ x2.toNatClampNeg) then (if (gi M 89 x2.toNatClampNeg) = 0 then (if ¬ (x2 < 0 ∨ 40 ≤ x2.toNatClampNeg) then (if ¬ (x1 < 0 ∨ 6 ≤ x1.toNatClampNeg) then ((fX6_isIn (gi M 87 x2.toNatClampNeg) (gi M 85 x1.toNatClampNeg) M).bind fun o6 => (if o6 = 0 then (if ¬ (x2 < 0 ∨ 40 ≤ x2.toNatClampNeg) then (if ¬ ((gi M 87 x2.toNatClampNeg) < 0 ∨ 6 ≤ (gi M 87 x2.toNatClampNeg).toNatClampNeg) then ((fX6_isIn x1 (gi M 85 (gi M 87 x2.toNatClampNeg).toNatClampNeg) M).bind fun o10 => (if o10 = 0 then some (x2) else (fX6_entering_L61 n) x1 (x2 + (1 : Int32)) M)) else none) else none) else (fX6_entering_L61 n) x1 (x2 + (1 : Int32)) M)) else none) else none) else (fX6_entering_L61 n) x1 (x2 + (1 : Int32)) M) else none))
noncomputable def fX6_entering_L2 : Nat → Int32 → Mm → Option (Int32)
  | 0 => fun _ _ => none
  | n + 1 => fun x1 M => (if (gi M 77 12) ≤ x1 then (if ¬ (((gi M 77 7) - (1 : Int32)) < 0 ∨ 360 ≤ ((gi M 77 7) - (1 : Int32)).toNatClampNeg) then (if ¬ ((gi M 97 ((gi M 77 7) - (1 : Int32)).toNatClampNeg) < 0 ∨ 40 ≤ (gi M 97 ((gi M 77 7) - (1 : Int32)).toNatClampNeg).toNatClampNeg) then fX6_entering_L61 400 (gi M 87 (gi M 97 ((gi M 77 7) - (1 : Int32)).toNatClampNeg).toNatClampNeg) (1 : Int32) M else none) else none) else (if ¬ (x1 < 0 ∨ 40 ≤ x1.toNatClampNeg) then (if (gi M 89 x1.toNatClampNeg) ≤ 0 then (fX6_entering_L2 n) (x1 + (1 : Int32)) M else (if ¬ (x1 < 0 ∨ 40 ≤ x1.toNatClampNeg) then (if ¬ (x1 < 0 ∨ 40 ≤ x1.toNatClampNeg) then (if (gi M 88 x1.toNatClampNeg) ≤ (gi M 89 x1.toNatClampNeg) then (fX6_entering_L2 n) (x1 + (1 : Int32)) M else some (x1)) else none) else none)) else none))
noncomputable def fX6_entering (M : Mm) : Option (Int32) := fX6_entering_L2 400 (1 : Int32) M
set_option maxRecDepth 20000 in
theorem iX6_entering_X6 : ∀ w ∈ wsX60, w ∈ wsX6_entering := by decide +kernel
set_option maxRecDepth 20000 in
theorem kX6_entering_0 : Cond.fieldLink RX6 34 "BatchPipeModel" "batches" "I" ∈ wsX6_entering := by decide +kernel
set_option maxRecDepth 20000 in
theorem kX6_entering_1 : Cond.fieldLink RX6 47 "BatchPipeModel" "entered" "[I" ∈ wsX6_entering := by decide +kernel
set_option maxRecDepth 20000 in
theorem kX6_entering_2 : Cond.fieldLink RX6 41 "BatchPipeModel" "product" "[I" ∈ wsX6_entering := by decide +kernel
set_option maxRecDepth 20000 in
theorem kX6_entering_3 : Cond.fieldLink RX6 31 "BatchPipeModel" "barred" "[I" ∈ wsX6_entering := by decide +kernel
set_option maxRecDepth 20000 in
theorem kX6_entering_4 : Cond.fieldLink RX6 71 "BatchPipeModel" "unitBatch" "[I" ∈ wsX6_entering := by decide +kernel
set_option maxRecDepth 20000 in
theorem kX6_entering_5 : Cond.fieldLink RX6 117 "BatchPipeModel" "length" "I" ∈ wsX6_entering := by decide +kernel
set_option maxRecDepth 20000 in
theorem kX6_entering_6 : Cond.fieldLink RX6 44 "BatchPipeModel" "ordered" "[I" ∈ wsX6_entering := by decide +kernel
set_option maxRecDepth 100000 in
set_option maxHeartbeats 4000000 in
theorem bX6_entering_61 {p : Program} {l : Launch} {e : Env} {s : State} {m : MethodId} {args : Array Value} {below : List Frame} {meth : Method} {c : Code} {D : va_G} {cy : Nat → ClassId} {a : Nat} (hx : p.tables.exec = Jvm.exec) (hb : c.code = cX6_entering) (hr : meth.sig.returnType = (some .int)) (hml : c.maxLocals = 3) (hown : s.vm.findClass RX6 = some m.cls) (hts : ∀ w ∈ wsX6_entering, w.before args s = true) (hlocks : meth.locks = false) (hK : KS D cy s) (hZ : ZZ a s s.heap) {out : Int32} : ∀ (n : Nat), ∀ (x1 : Int32) (x2 : Int32) (M : Mm) (H : Heap) (locs : List Loc) (ls : Array Slot), HP D cy a M H → va_S (Aq a) s.heap H locs → lv_has ls 3 [(0, .ref (a + 77)), (1, .int x1), (2, .int x2)] → fX6_entering_L61 n x1 x2 M = some out → W p l e rX6_entering s m args below meth c H locs 0 0 (MQ below (QI D cy a out M) args s 0 0 (Aq a)) (F0 m 61 ls []) := by
  intro n
  induction n with
  | zero =>
    intro x1 x2 M H locs ls hw hS hl hf
    have hf : (none : Option (Int32)) = some out := hf
    cases hf
  | succ n ih =>
    intro x1 x2 M H locs ls hw hS hl hf
    unfold fX6_entering_L61 at hf
    refine lv_iload_n hx hb dX6_entering_61 rfl (lv_at hl 2 rfl) ?_
    refine lv_aload_n hx hb dX6_entering_62 rfl (lv_at hl 0 rfl) ?_
    refine rGetI hx hb hts iX6_entering_X6 hown hK hw (Nat.le_of_ble_eq_true rfl) en_model rfl 12 (by decide) (hts _ kX6_entering_0) rfl ge6_12 dX6_entering_63 ?_
    refine lv_icmp_ge (tgt := 122) hx hb dX6_entering_66 (by decide) (fun c1 => ?_) (fun c1 => ?_)
    · have hf := ip c1 hf
      refine lv_iconst (v := (-1 : Int32)) hx hb dX6_entering_122 (by decide) ?_
      obtain rfl := Option.some.inj hf
      exact rIret hx hb hr hlocks hw hS dX6_entering_123
    · have hf := iq c1 hf
      refine lv_aload_n hx hb dX6_entering_69 rfl (lv_at hl 0 rfl) ?_
      refine rGet hx hb hts iX6_entering_X6 hown hK hw (Nat.le_of_ble_eq_true rfl) en_model rfl 16 (by decide) (hts _ kX6_entering_1) rfl rfl dX6_entering_70 ?_
      refine lv_iload_n hx hb dX6_entering_73 rfl (lv_at hl 2 rfl) ?_
      obtain ⟨hg2, hf⟩ := og hf
      refine rIald hx hb hK hw (Nat.le_of_ble_eq_true rfl) en_a89 hg2 dX6_entering_74 ?_
      refine lv_if_ne (tgt := 116) hx hb dX6_entering_75 (by decide) (fun c3 => ?_) (fun c3 => ?_)
      · have hf := iq c3 hf
        refine lv_iinc (v := x2 + (1 : Int32)) (lv' := [(2, .int (x2 + (1 : Int32))), (0, .ref (a + 77)), (1, .int x1)]) hx hb dX6_entering_116 hl (k := 2) rfl rfl (Nat.le_of_ble_eq_true rfl) rfl (fun ls hl => ?_)
        refine lv_goto (tgt := 61) hx hb dX6_entering_119 (by decide) ?_
        exact ih _ _ _ _ _ _ hw hS (lv_sub hl [1, 2, 0] rfl) hf
      · have hf := ip c3 hf
        refine lv_aload_n hx hb dX6_entering_78 rfl (lv_at hl 0 rfl) ?_
        refine rGet hx hb hts iX6_entering_X6 hown hK hw (Nat.le_of_ble_eq_true rfl) en_model rfl 14 (by decide) (hts _ kX6_entering_2) rfl rfl dX6_entering_79 ?_
        refine lv_iload_n hx hb dX6_entering_82 rfl (lv_at hl 2 rfl) ?_
        obtain ⟨hg4, hf⟩ := og hf
        refine rIald hx hb hK hw (Nat.le_of_ble_eq_true rfl) en_a87 hg4 dX6_entering_83 ?_
        refine lv_aload_n hx hb dX6_entering_84 rfl (lv_at hl 0 rfl) ?_
        refine rGet hx hb hts iX6_entering_X6 hown hK hw (Nat.le_of_ble_eq_true rfl) en_model rfl 11 (by decide) (hts _ kX6_entering_3) rfl rfl dX6_entering_85 ?_
        refine lv_iload_n hx hb dX6_entering_88 rfl (lv_at hl 1 rfl) ?_
        obtain ⟨hg5, hf⟩ := og hf
        refine rIald hx hb hK hw (Nat.le_of_ble_eq_true rfl) en_a85 hg5 dX6_entering_89 ?_
        obtain ⟨o6, ho6, hf⟩ := ob hf
        refine rCallB (va_runS (As := [.int (gi M 87 x2.toNatClampNeg), .int (gi M 85 x1.toNatClampNeg)]) (rest := []) ⟨hx, hb, hml, hown, hts⟩ (ctX6_isIn (l := l) (D := D) (cy := cy) (a := a) ho6) (va_cwS 2 hts gX6_entering_X6_isIn rfl rfl rfl (by decide +kernel) ⟨Nat.le_of_ble_eq_true rfl, Nat.le_of_ble_eq_true rfl⟩) (pS hK hZ hw hS) rfl rfl hl.1 rfl (lv_room (Nat.le_of_ble_eq_true rfl)) dX6_entering_90 ⟨Nat.le_of_ble_eq_true rfl, Nat.le_of_ble_eq_true rfl⟩) hS (fun H locs hw hS ho6b => ?_)
        refine lv_if_ne (tgt := 116) hx hb dX6_entering_93 (by decide) (fun c7 => ?_) (fun c7 => ?_)
        · have hf := iq c7 hf
          refine lv_iinc (v := x2 + (1 : Int32)) (lv' := [(2, .int (x2 + (1 : Int32))), (0, .ref (a + 77)), (1, .int x1)]) hx hb dX6_entering_116 hl (k := 2) rfl rfl (Nat.le_of_ble_eq_true rfl) rfl (fun ls hl => ?_)
          refine lv_goto (tgt := 61) hx hb dX6_entering_119 (by decide) ?_
          exact ih _ _ _ _ _ _ hw hS (lv_sub hl [1, 2, 0] rfl) hf
        · have hf := ip c7 hf
          refine lv_iload_n hx hb dX6_entering_96 rfl (lv_at hl 1 rfl) ?_
          refine lv_aload_n hx hb dX6_entering_97 rfl (lv_at hl 0 rfl) ?_
          refine rGet hx hb hts iX6_entering_X6 hown hK hw (Nat.le_of_ble_eq_true rfl) en_model rfl 11 (by decide) (hts _ kX6_entering_3) rfl rfl dX6_entering_98 ?_
          refine lv_aload_n hx hb dX6_entering_101 rfl (lv_at hl 0 rfl) ?_
          refine rGet hx hb hts iX6_entering_X6 hown hK hw (Nat.le_of_ble_eq_true rfl) en_model rfl 14 (by decide) (hts _ kX6_entering_2) rfl rfl dX6_entering_102 ?_
          refine lv_iload_n hx hb dX6_entering_105 rfl (lv_at hl 2 rfl) ?_
          obtain ⟨hg8, hf⟩ := og hf
          refine rIald hx hb hK hw (Nat.le_of_ble_eq_true rfl) en_a87 hg8 dX6_entering_106 ?_
          obtain ⟨hg9, hf⟩ := og hf
          refine rIald hx hb hK hw (Nat.le_of_ble_eq_true rfl) en_a85 hg9 dX6_entering_107 ?_
          obtain ⟨o10, ho10, hf⟩ := ob hf
          refine rCallB (va_runS (As := [.int x1, .int (gi M 85 (gi M 87 x2.toNatClampNeg).toNatClampNeg)]) (rest := []) ⟨hx, hb, hml, hown, hts⟩ (ctX6_isIn (l := l) (D := D) (cy := cy) (a := a) ho10) (va_cwS 2 hts gX6_entering_X6_isIn rfl rfl rfl (by decide +kernel) ⟨Nat.le_of_ble_eq_true rfl, Nat.le_of_ble_eq_true rfl⟩) (pS hK hZ hw hS) rfl rfl hl.1 rfl (lv_room (Nat.le_of_ble_eq_true rfl)) dX6_entering_108 ⟨Nat.le_of_ble_eq_true rfl, Nat.le_of_ble_eq_true rfl⟩) hS (fun H locs hw hS ho10b => ?_)
          refine lv_if_ne (tgt := 116) hx hb dX6_entering_111 (by decide) (fun c11 => ?_) (fun c11 => ?_)
          · have hf := iq c11 hf
            refine lv_iinc (v := x2 + (1 : Int32)) (lv' := [(2, .int (x2 + (1 : Int32))), (0, .ref (a + 77)), (1, .int x1)]) hx hb dX6_entering_116 hl (k := 2) rfl rfl (Nat.le_of_ble_eq_true rfl) rfl (fun ls hl => ?_)
            refine lv_goto (tgt := 61) hx hb dX6_entering_119 (by decide) ?_
            exact ih _ _ _ _ _ _ hw hS (lv_sub hl [1, 2, 0] rfl) hf
          · have hf := ip c11 hf
            refine lv_iload_n hx hb dX6_entering_114 rfl (lv_at hl 2 rfl) ?_
            obtain rfl := Option.some.inj hf
            exact rIret hx hb hr hlocks hw hS dX6_entering_115
set_option maxRecDepth 100000 in
set_option maxHeartbeats 4000000 in
theorem bX6_entering_2 {p : Program} {l : Launch} {e : Env} {s : State} {m : MethodId} {args : Array Value} {below : List Frame} {meth : Method} {c : Code} {D : va_G} {cy : Nat → ClassId} {a : Nat} (hx : p.tables.exec = Jvm.exec) (hb : c.code = cX6_entering) (hr : meth.sig.returnType = (some .int)) (hml : c.maxLocals = 3) (hown : s.vm.findClass RX6 = some m.cls) (hts : ∀ w ∈ wsX6_entering, w.before args s = true) (hlocks : meth.locks = false) (hK : KS D cy s) (hZ : ZZ a s s.heap) {out : Int32} : ∀ (n : Nat), ∀ (x1 : Int32) (M : Mm) (H : Heap) (locs : List Loc) (ls : Array Slot), HP D cy a M H → va_S (Aq a) s.heap H locs → lv_has ls 3 [(0, .ref (a + 77)), (1, .int x1)] → fX6_entering_L2 n x1 M = some out → W p l e rX6_entering s m args below meth c H locs 0 0 (MQ below (QI D cy a out M) args s 0 0 (Aq a)) (F0 m 2 ls []) := by
  intro n
  induction n with
  | zero =>
    intro x1 M H locs ls hw hS hl hf
    have hf : (none : Option (Int32)) = some out := hf
    cases hf
  | succ n ih =>
    intro x1 M H locs ls hw hS hl hf
    unfold fX6_entering_L2 at hf
    refine lv_iload_n hx hb dX6_entering_2 rfl (lv_at hl 1 rfl) ?_
    refine lv_aload_n hx hb dX6_entering_3 rfl (lv_at hl 0 rfl) ?_
    refine rGetI hx hb hts iX6_entering_X6 hown hK hw (Nat.le_of_ble_eq_true rfl) en_model rfl 12 (by decide) (hts _ kX6_entering_0) rfl ge6_12 dX6_entering_4 ?_
    refine lv_icmp_ge (tgt := 42) hx hb dX6_entering_7 (by decide) (fun c1 => ?_) (fun c1 => ?_)
    · have hf := ip c1 hf
      refine lv_aload_n hx hb dX6_entering_42 rfl (lv_at hl 0 rfl) ?_
      refine rGet hx hb hts iX6_entering_X6 hown hK hw (Nat.le_of_ble_eq_true rfl) en_model rfl 14 (by decide) (hts _ kX6_entering_2) rfl rfl dX6_entering_43 ?_
      refine lv_aload_n hx hb dX6_entering_46 rfl (lv_at hl 0 rfl) ?_
      refine rGet hx hb hts iX6_entering_X6 hown hK hw (Nat.le_of_ble_eq_true rfl) en_model rfl 25 (by decide) (hts _ kX6_entering_4) rfl rfl dX6_entering_47 ?_
      refine lv_aload_n hx hb dX6_entering_50 rfl (lv_at hl 0 rfl) ?_
      refine rGetI hx hb hts iX6_entering_X6 hown hK hw (Nat.le_of_ble_eq_true rfl) en_model rfl 7 (by decide) (hts _ kX6_entering_5) rfl ge6_7 dX6_entering_51 ?_
      refine lv_iconst (v := (1 : Int32)) hx hb dX6_entering_54 (by decide) ?_
      refine lv_isub hx hb dX6_entering_55 ?_
      obtain ⟨hg2, hf⟩ := og hf
      refine rIald hx hb hK hw (Nat.le_of_ble_eq_true rfl) en_a97 hg2 dX6_entering_56 ?_
      obtain ⟨hg3, hf⟩ := og hf
      refine rIald hx hb hK hw (Nat.le_of_ble_eq_true rfl) en_a87 hg3 dX6_entering_57 ?_
      refine lv_istore_n (lv' := [(1, .int (gi M 87 (gi M 97 ((gi M 77 7) - (1 : Int32)).toNatClampNeg).toNatClampNeg)), (0, .ref (a + 77))]) hx hb dX6_entering_58 rfl hl (Nat.le_of_ble_eq_true rfl) rfl (fun ls hl => ?_)
      refine lv_iconst (v := (1 : Int32)) hx hb dX6_entering_59 (by decide) ?_
      refine lv_istore_n (lv' := [(2, .int (1 : Int32)), (1, .int (gi M 87 (gi M 97 ((gi M 77 7) - (1 : Int32)).toNatClampNeg).toNatClampNeg)), (0, .ref (a + 77))]) hx hb dX6_entering_60 rfl hl (Nat.le_of_ble_eq_true rfl) rfl (fun ls hl => ?_)
      exact bX6_entering_61 hx hb hr hml hown hts hlocks hK hZ 400 _ _ _ _ _ _ hw hS (lv_sub hl [2, 1, 0] rfl) hf
    · have hf := iq c1 hf
      refine lv_aload_n hx hb dX6_entering_10 rfl (lv_at hl 0 rfl) ?_
      refine rGet hx hb hts iX6_entering_X6 hown hK hw (Nat.le_of_ble_eq_true rfl) en_model rfl 16 (by decide) (hts _ kX6_entering_1) rfl rfl dX6_entering_11 ?_
      refine lv_iload_n hx hb dX6_entering_14 rfl (lv_at hl 1 rfl) ?_
      obtain ⟨hg4, hf⟩ := og hf
      refine rIald hx hb hK hw (Nat.le_of_ble_eq_true rfl) en_a89 hg4 dX6_entering_15 ?_
      refine lv_if_le (tgt := 36) hx hb dX6_entering_16 (by decide) (fun c5 => ?_) (fun c5 => ?_)
      · have hf := ip c5 hf
        refine lv_iinc (v := x1 + (1 : Int32)) (lv' := [(1, .int (x1 + (1 : Int32))), (0, .ref (a + 77))]) hx hb dX6_entering_36 hl (k := 1) rfl rfl (Nat.le_of_ble_eq_true rfl) rfl (fun ls hl => ?_)
        refine lv_goto (tgt := 2) hx hb dX6_entering_39 (by decide) ?_
        exact ih _ _ _ _ _ hw hS (lv_sub hl [1, 0] rfl) hf
      · have hf := iq c5 hf
        refine lv_aload_n hx hb dX6_entering_19 rfl (lv_at hl 0 rfl) ?_
        refine rGet hx hb hts iX6_entering_X6 hown hK hw (Nat.le_of_ble_eq_true rfl) en_model rfl 16 (by decide) (hts _ kX6_entering_1) rfl rfl dX6_entering_20 ?_
        refine lv_iload_n hx hb dX6_entering_23 rfl (lv_at hl 1 rfl) ?_
        obtain ⟨hg6, hf⟩ := og hf
        refine rIald hx hb hK hw (Nat.le_of_ble_eq_true rfl) en_a89 hg6 dX6_entering_24 ?_
        refine lv_aload_n hx hb dX6_entering_25 rfl (lv_at hl 0 rfl) ?_
        refine rGet hx hb hts iX6_entering_X6 hown hK hw (Nat.le_of_ble_eq_true rfl) en_model rfl 15 (by decide) (hts _ kX6_entering_6) rfl rfl dX6_entering_26 ?_
        refine lv_iload_n hx hb dX6_entering_29 rfl (lv_at hl 1 rfl) ?_
        obtain ⟨hg7, hf⟩ := og hf
        refine rIald hx hb hK hw (Nat.le_of_ble_eq_true rfl) en_a88 hg7 dX6_entering_30 ?_
        refine lv_icmp_ge (tgt := 36) hx hb dX6_entering_31 (by decide) (fun c8 => ?_) (fun c8 => ?_)
        · have hf := ip c8 hf
          refine lv_iinc (v := x1 + (1 : Int32)) (lv' := [(1, .int (x1 + (1 : Int32))), (0, .ref (a + 77))]) hx hb dX6_entering_36 hl (k := 1) rfl rfl (Nat.le_of_ble_eq_true rfl) rfl (fun ls hl => ?_)
          refine lv_goto (tgt := 2) hx hb dX6_entering_39 (by decide) ?_
          exact ih _ _ _ _ _ hw hS (lv_sub hl [1, 0] rfl) hf
        · have hf := iq c8 hf
          refine lv_iload_n hx hb dX6_entering_34 rfl (lv_at hl 1 rfl) ?_
          obtain rfl := Option.some.inj hf
          exact rIret hx hb hr hlocks hw hS dX6_entering_35
set_option maxRecDepth 100000 in
set_option maxHeartbeats 4000000 in
theorem bX6_entering_0 {p : Program} {l : Launch} {e : Env} {s : State} {m : MethodId} {args : Array Value} {below : List Frame} {meth : Method} {c : Code} {D : va_G} {cy : Nat → ClassId} {a : Nat} (hx : p.tables.exec = Jvm.exec) (hb : c.code = cX6_entering) (hr : meth.sig.returnType = (some .int)) (hml : c.maxLocals = 3) (hown : s.vm.findClass RX6 = some m.cls) (hts : ∀ w ∈ wsX6_entering, w.before args s = true) (hlocks : meth.locks = false) (hK : KS D cy s) (hZ : ZZ a s s.heap) {out : Int32} : ∀ (M : Mm) (H : Heap) (locs : List Loc) (ls : Array Slot), HP D cy a M H → va_S (Aq a) s.heap H locs → lv_has ls 3 [(0, .ref (a + 77))] → fX6_entering  M = some out → W p l e rX6_entering s m args below meth c H locs 0 0 (MQ below (QI D cy a out M) args s 0 0 (Aq a)) (F0 m 0 ls []) := by
  intro M H locs ls hw hS hl hf
  unfold fX6_entering at hf
  refine lv_iconst (v := (1 : Int32)) hx hb dX6_entering_0 (by decide) ?_
  refine lv_istore_n (lv' := [(1, .int (1 : Int32)), (0, .ref (a + 77))]) hx hb dX6_entering_1 rfl hl (Nat.le_of_ble_eq_true rfl) rfl (fun ls hl => ?_)
  exact bX6_entering_2 hx hb hr hml hown hts hlocks hK hZ 400 _ _ _ _ _ hw hS (lv_sub hl [1, 0] rfl) hf
set_option maxRecDepth 100000 in
set_option maxHeartbeats 4000000 in
theorem ctX6_entering {l : Launch} {D : va_G} {cy : Nat → ClassId} {a : Nat} {M : Mm} {out : Int32} (hf : fX6_entering  M = some out) : Met l yX6_entering wsX6_entering rX6_entering (Pre D cy a M [.ref (a + 77)]) (QI D cy a out M) 0 0 (Aq a) := by
  refine Met.ofW (cc := cX6_entering) (maxL := 3) (ret := (some .int)) (by decide +kernel) rfl ?_
  intro p e s m args below meth c s₁ B hml hv
  obtain ⟨rfl, hw, hK, hZ⟩ := hv
  have hS : va_S (Aq a) s.heap s.heap [] := va_S.rf
  have hl := lv_entry ([.ref (a + 77)]) (n := 3) (Nat.le_of_ble_eq_true rfl)
  rw [lg_entry_eq]
  generalize (lg_sl ([.ref (a + 77)]) ++ List.replicate (3 - (lg_sl ([.ref (a + 77)])).length) Slot.unset).toArray = ls at hl ⊢
  exact bX6_entering_0 B.exec B.bytes B.returns hml (findClass_of_methodNamed B.named) (atoms_spec (ws := wsX6_entering) B.pre) B.notSynchronized hK hZ _ _ _ _ hw hS hl hf
def rX6_clean : Room := { frames := 0, cells := 0, slots := 0, locals := 0 }
noncomputable def fX6_clean_L2 : Nat → Int32 → Int32 → Mm → Option (Mm)
  | 0 => fun _ _ _ => none
  | n + 1 => fun x1 x2 M => (if x1 < x2 then some (si M 77 39 (0 : Int32)) else (if ¬ (x2 < 0 ∨ 6 ≤ x2.toNatClampNeg) then (fX6_clean_L2 n) x1 (x2 + (1 : Int32)) (si M 81 x2.toNatClampNeg (0 : Int32)) else none))
noncomputable def fX6_clean (x1 : Int32) (M : Mm) : Option (Mm) := fX6_clean_L2 400 x1 (0 : Int32) M
set_option maxRecDepth 20000 in
theorem iX6_clean_X6 : ∀ w ∈ wsX60, w ∈ wsX6_clean := by decide +kernel
set_option maxRecDepth 20000 in
theorem kX6_clean_0 : Cond.fieldLink RX6 147 "BatchPipeModel" "isPig" "Z" ∈ wsX6_clean := by decide +kernel
set_option maxRecDepth 20000 in
theorem kX6_clean_1 : Cond.fieldLink RX6 19 "BatchPipeModel" "dirty" "[I" ∈ wsX6_clean := by decide +kernel
set_option maxRecDepth 100000 in
set_option maxHeartbeats 4000000 in
theorem bX6_clean_2 {p : Program} {l : Launch} {e : Env} {s : State} {m : MethodId} {args : Array Value} {below : List Frame} {meth : Method} {c : Code} {D : va_G} {cy : Nat → ClassId} {a : Nat} (hx : p.tables.exec = Jvm.exec) (hb : c.code = cX6_clean) (hr : meth.sig.returnType = none) (hml : c.maxLocals = 3) (hown : s.vm.findClass RX6 = some m.cls) (hts : ∀ w ∈ wsX6_clean, w.before args s = true) (hlocks : meth.locks = false) (hK : KS D cy s) (hZ : ZZ a s s.heap) {out : Mm} : ∀ (n : Nat), ∀ (x1 : Int32) (x2 : Int32) (M : Mm) (H : Heap) (locs : List Loc) (ls : Array Slot), HP D cy a M H → va_S (Aq a) s.heap H locs → lv_has ls 3 [(0, .ref (a + 77)), (1, .int x1), (2, .int x2)] → fX6_clean_L2 n x1 x2 M = some out → W p l e rX6_clean s m args below meth c H locs 0 0 (MQ below (QV D cy a out) args s 0 0 (Aq a)) (F0 m 2 ls []) := by
  intro n
  induction n with
  | zero =>
    intro x1 x2 M H locs ls hw hS hl hf
    have hf : (none : Option (Mm)) = some out := hf
    cases hf
  | succ n ih =>
    intro x1 x2 M H locs ls hw hS hl hf
    unfold fX6_clean_L2 at hf
    refine lv_iload_n hx hb dX6_clean_2 rfl (lv_at hl 2 rfl) ?_
    refine lv_iload_n hx hb dX6_clean_3 rfl (lv_at hl 1 rfl) ?_
    refine lv_icmp_gt (tgt := 20) hx hb dX6_clean_4 (by decide) (fun c1 => ?_) (fun c1 => ?_)
    · have hf := ip c1 hf
      refine lv_aload_n hx hb dX6_clean_20 rfl (lv_at hl 0 rfl) ?_
      refine lv_iconst (v := (0 : Int32)) hx hb dX6_clean_21 (by decide) ?_
      refine rPut hx hb hts iX6_clean_X6 tyX6 tyX6_ok nmX6 hown hK hw hS (Nat.le_of_ble_eq_true rfl) en_model rfl 39 (by decide) (hts _ kX6_clean_0) rfl rfl rfl (bfit rfl) (Nat.le_of_ble_eq_true rfl) hs6_39 dX6_clean_22 (fun H locs hw hS => ?_)
      obtain rfl := Option.some.inj hf
      exact rVret hx hb hr hlocks hw hS dX6_clean_25
    · have hf := iq c1 hf
      refine lv_aload_n hx hb dX6_clean_7 rfl (lv_at hl 0 rfl) ?_
      refine rGet hx hb hts iX6_clean_X6 hown hK hw (Nat.le_of_ble_eq_true rfl) en_model rfl 5 (by decide) (hts _ kX6_clean_1) rfl rfl dX6_clean_8 ?_
      refine lv_iload_n hx hb dX6_clean_11 rfl (lv_at hl 2 rfl) ?_
      refine lv_iconst (v := (0 : Int32)) hx hb dX6_clean_12 (by decide) ?_
      obtain ⟨hg2, hf⟩ := og hf
      refine rIast hx hb hK hw hS (Nat.le_of_ble_eq_true rfl) (fun _ => en_a81) hg2 dX6_clean_13 (fun H locs hw hS => ?_)
      refine lv_iinc (v := x2 + (1 : Int32)) (lv' := [(2, .int (x2 + (1 : Int32))), (0, .ref (a + 77)), (1, .int x1)]) hx hb dX6_clean_14 hl (k := 2) rfl rfl (Nat.le_of_ble_eq_true rfl) rfl (fun ls hl => ?_)
      refine lv_goto (tgt := 2) hx hb dX6_clean_17 (by decide) ?_
      exact ih _ _ _ _ _ _ hw hS (lv_sub hl [1, 2, 0] rfl) hf
set_option maxRecDepth 100000 in
set_option maxHeartbeats 4000000 in
theorem bX6_clean_0 {p : Program} {l : Launch} {e : Env} {s : State} {m : MethodId} {args : Array Value} {below : List Frame} {meth : Method} {c : Code} {D : va_G} {cy : Nat → ClassId} {a : Nat} (hx : p.tables.exec = Jvm.exec) (hb : c.code = cX6_clean) (hr : meth.sig.returnType = none) (hml : c.maxLocals = 3) (hown : s.vm.findClass RX6 = some m.cls) (hts : ∀ w ∈ wsX6_clean, w.before args s = true) (hlocks : meth.locks = false) (hK : KS D cy s) (hZ : ZZ a s s.heap) {out : Mm} : ∀ (x1 : Int32) (M : Mm) (H : Heap) (locs : List Loc) (ls : Array Slot), HP D cy a M H → va_S (Aq a) s.heap H locs → lv_has ls 3 [(0, .ref (a + 77)), (1, .int x1)] → fX6_clean x1 M = some out → W p l e rX6_clean s m args below meth c H locs 0 0 (MQ below (QV D cy a out) args s 0 0 (Aq a)) (F0 m 0 ls []) := by
  intro x1 M H locs ls hw hS hl hf
  unfold fX6_clean at hf
  refine lv_iconst (v := (0 : Int32)) hx hb dX6_clean_0 (by decide) ?_
  refine lv_istore_n (lv' := [(2, .int (0 : Int32)), (0, .ref (a + 77)), (1, .int x1)]) hx hb dX6_clean_1 rfl hl (Nat.le_of_ble_eq_true rfl) rfl (fun ls hl => ?_)
  exact bX6_clean_2 hx hb hr hml hown hts hlocks hK hZ 400 _ _ _ _ _ _ hw hS (lv_sub hl [1, 2, 0] rfl) hf
set_option maxRecDepth 100000 in
set_option maxHeartbeats 4000000 in
theorem ctX6_clean {l : Launch} {D : va_G} {cy : Nat → ClassId} {a : Nat} {x1 : Int32} {M : Mm} {out : Mm} (hf : fX6_clean x1 M = some out) : Met l yX6_clean wsX6_clean rX6_clean (Pre D cy a M [.ref (a + 77), .int x1]) (QV D cy a out) 0 0 (Aq a) := by
  refine Met.ofW (cc := cX6_clean) (maxL := 3) (ret := none) (by decide +kernel) rfl ?_
  intro p e s m args below meth c s₁ B hml hv
  obtain ⟨rfl, hw, hK, hZ⟩ := hv
  have hS : va_S (Aq a) s.heap s.heap [] := va_S.rf
  have hl := lv_entry ([.ref (a + 77), .int x1]) (n := 3) (Nat.le_of_ble_eq_true rfl)
  rw [lg_entry_eq]
  generalize (lg_sl ([.ref (a + 77), .int x1]) ++ List.replicate (3 - (lg_sl ([.ref (a + 77), .int x1])).length) Slot.unset).toArray = ls at hl ⊢
  exact bX6_clean_0 B.exec B.bytes B.returns hml (findClass_of_methodNamed B.named) (atoms_spec (ws := wsX6_clean) B.pre) B.notSynchronized hK hZ _ _ _ _ _ hw hS hl hf
def rX6_goesAway : Room := { frames := 4, cells := 0, slots := 0, locals := 91 }
noncomputable def fX6_goesAway_b101 (x1 : Int32) (x2 : Int32) (M : Mm) : Option (Mm) := (if x2 = 0 then (if x1 ≤ 0 then some (M) else (if ¬ (x1 < 0 ∨ 40 ≤ x1.toNatClampNeg) then ((fX6_root ((gi M 77 24) - (gi M 95 x1.toNatClampNeg)) M).bind fun o4 => (if ¬ (x1 < 0 ∨ 40 ≤ x1.toNatClampNeg) then some (si M 96 x1.toNatClampNeg o4) else none)) else none)) else some (M))
noncomputable def fX6_goesAway_b28 (x1 : Int32) (x2 : Int32) (x3 : Int32) (M : Mm) : Option (Mm) := (if x3 = ((gi M 77 1) - (1 : Int32)) then (if ¬ (x1 < 0 ∨ 40 ≤ x1.toNatClampNeg) then (if ¬ (x1 < 0 ∨ 40 ≤ x1.toNatClampNeg) then ((fX6_comesInto (gi (si M 90 x1.toNatClampNeg ((gi M 90 x1.toNatClampNeg) + (1 : Int32))) 77 34) x1 x2 (si M 90 x1.toNatClampNeg ((gi M 90 x1.toNatClampNeg) + (1 : Int32)))).bind fun o10 => fX6_goesAway_b101 x1 x2 o10) else none) else none) else (if (gi M 77 44) = 0 then (if ¬ (x1 < 0 ∨ 40 ≤ x1.toNatClampNeg) then (if ¬ (x1 < 0 ∨ 40 ≤ x1.toNatClampNeg) then ((fX6_comesInto (gi (si M 91 x1.toNatClampNeg ((gi M 91 x1.toNatClampNeg) + (1 : Int32))) 77 31) x1 x2 (si M 91 x1.toNatClampNeg ((gi M 91 x1.toNatClampNeg) + (1 : Int32)))).bind fun o5 => fX6_goesAway_b101 x1 x2 o5) else none) else none) else (if ¬ (x1 < 0 ∨ 40 ≤ x1.toNatClampNeg) then (if ¬ (x1 < 0 ∨ 40 ≤ x1.toNatClampNeg) then fX6_goesAway_b101 x1 x2 (si M 92 x1.toNatClampNeg ((gi M 92 x1.toNatClampNeg) + (1 : Int32))) else none) else none)))
noncomputable def fX6_goesAway (x1 : Int32) (x2 : Int32) (x3 : Int32) (M : Mm) : Option (Mm) := (if (gi M 77 39) = 0 then fX6_goesAway_b28 x1 x2 x3 M else (if x1 = (gi M 77 40) then (if x2 = (gi M 77 41) then ((fX6_clean x3 M).bind fun o4 => fX6_goesAway_b28 x1 x2 x3 o4) else fX6_goesAway_b28 x1 x2 x3 M) else fX6_goesAway_b28 x1 x2 x3 M))
set_option maxRecDepth 20000 in
theorem iX6_goesAway_X6 : ∀ w ∈ wsX60, w ∈ wsX6_goesAway := by decide +kernel
set_option maxRecDepth 20000 in
theorem kX6_goesAway_0 : Cond.fieldLink RX6 68 "BatchPipeModel" "kept" "[I" ∈ wsX6_goesAway := by decide +kernel
set_option maxRecDepth 20000 in
theorem kX6_goesAway_1 : Cond.fieldLink RX6 120 "BatchPipeModel" "all" "I" ∈ wsX6_goesAway := by decide +kernel
set_option maxRecDepth 20000 in
theorem kX6_goesAway_2 : Cond.fieldLink RX6 65 "BatchPipeModel" "enteredAhead" "[I" ∈ wsX6_goesAway := by decide +kernel
set_option maxRecDepth 20000 in
theorem kX6_goesAway_3 : Cond.fieldLink RX6 102 "BatchPipeModel" "segments" "I" ∈ wsX6_goesAway := by decide +kernel
set_option maxRecDepth 20000 in
theorem kX6_goesAway_4 : Cond.fieldLink RX6 191 "BatchPipeModel" "isLeaking" "Z" ∈ wsX6_goesAway := by decide +kernel
set_option maxRecDepth 20000 in
theorem kX6_goesAway_5 : Cond.fieldLink RX6 53 "BatchPipeModel" "dropped" "[I" ∈ wsX6_goesAway := by decide +kernel
set_option maxRecDepth 20000 in
theorem kX6_goesAway_6 : Cond.fieldLink RX6 138 "BatchPipeModel" "dropTank" "I" ∈ wsX6_goesAway := by decide +kernel
set_option maxRecDepth 20000 in
theorem kX6_goesAway_7 : Cond.fieldLink RX6 56 "BatchPipeModel" "leaked" "[I" ∈ wsX6_goesAway := by decide +kernel
set_option maxRecDepth 20000 in
theorem kX6_goesAway_8 : Cond.fieldLink RX6 50 "BatchPipeModel" "left" "[I" ∈ wsX6_goesAway := by decide +kernel
set_option maxRecDepth 20000 in
theorem kX6_goesAway_9 : Cond.fieldLink RX6 144 "BatchPipeModel" "receiving" "I" ∈ wsX6_goesAway := by decide +kernel
set_option maxRecDepth 20000 in
theorem kX6_goesAway_10 : Cond.fieldLink RX6 147 "BatchPipeModel" "isPig" "Z" ∈ wsX6_goesAway := by decide +kernel
set_option maxRecDepth 20000 in
theorem kX6_goesAway_11 : Cond.fieldLink RX6 150 "BatchPipeModel" "pigBatch" "I" ∈ wsX6_goesAway := by decide +kernel
set_option maxRecDepth 20000 in
theorem kX6_goesAway_12 : Cond.fieldLink RX6 153 "BatchPipeModel" "pigPlace" "I" ∈ wsX6_goesAway := by decide +kernel
set_option maxRecDepth 100000 in
set_option maxHeartbeats 4000000 in
theorem bX6_goesAway_101 {p : Program} {l : Launch} {e : Env} {s : State} {m : MethodId} {args : Array Value} {below : List Frame} {meth : Method} {c : Code} {D : va_G} {cy : Nat → ClassId} {a : Nat} (hx : p.tables.exec = Jvm.exec) (hb : c.code = cX6_goesAway) (hr : meth.sig.returnType = none) (hml : c.maxLocals = 4) (hown : s.vm.findClass RX6 = some m.cls) (hts : ∀ w ∈ wsX6_goesAway, w.before args s = true) (hlocks : meth.locks = false) (hK : KS D cy s) (hZ : ZZ a s s.heap) {out : Mm} : ∀ (x1 : Int32) (x2 : Int32) (M : Mm) (H : Heap) (locs : List Loc) (ls : Array Slot), HP D cy a M H → va_S (Aq a) s.heap H locs → lv_has ls 4 [(0, .ref (a + 77)), (1, .int x1), (2, .int x2)] → fX6_goesAway_b101 x1 x2 M = some out → W p l e rX6_goesAway s m args below meth c H locs 0 0 (MQ below (QV D cy a out) args s 0 0 (Aq a)) (F0 m 101 ls []) := by
  intro x1 x2 M H locs ls hw hS hl hf
  unfold fX6_goesAway_b101 at hf
  refine lv_iload_n hx hb dX6_goesAway_101 rfl (lv_at hl 2 rfl) ?_
  refine lv_if_ne (tgt := 129) hx hb dX6_goesAway_102 (by decide) (fun c1 => ?_) (fun c1 => ?_)
  · have hf := iq c1 hf
    obtain rfl := Option.some.inj hf
    exact rVret hx hb hr hlocks hw hS dX6_goesAway_129
  · have hf := ip c1 hf
    refine lv_iload_n hx hb dX6_goesAway_105 rfl (lv_at hl 1 rfl) ?_
    refine lv_if_le (tgt := 129) hx hb dX6_goesAway_106 (by decide) (fun c2 => ?_) (fun c2 => ?_)
    · have hf := ip c2 hf
      obtain rfl := Option.some.inj hf
      exact rVret hx hb hr hlocks hw hS dX6_goesAway_129
    · have hf := iq c2 hf
      refine lv_aload_n hx hb dX6_goesAway_109 rfl (lv_at hl 0 rfl) ?_
      refine rGet hx hb hts iX6_goesAway_X6 hown hK hw (Nat.le_of_ble_eq_true rfl) en_model rfl 23 (by decide) (hts _ kX6_goesAway_0) rfl rfl dX6_goesAway_110 ?_
      refine lv_iload_n hx hb dX6_goesAway_113 rfl (lv_at hl 1 rfl) ?_
      refine lv_aload_n hx hb dX6_goesAway_114 rfl (lv_at hl 0 rfl) ?_
      refine rGetI hx hb hts iX6_goesAway_X6 hown hK hw (Nat.le_of_ble_eq_true rfl) en_model rfl 24 (by decide) (hts _ kX6_goesAway_1) rfl ge6_24 dX6_goesAway_115 ?_
      refine lv_aload_n hx hb dX6_goesAway_118 rfl (lv_at hl 0 rfl) ?_
      refine rGet hx hb hts iX6_goesAway_X6 hown hK hw (Nat.le_of_ble_eq_true rfl) en_model rfl 22 (by decide) (hts _ kX6_goesAway_2) rfl rfl dX6_goesAway_119 ?_
      refine lv_iload_n hx hb dX6_goesAway_122 rfl (lv_at hl 1 rfl) ?_
      obtain ⟨hg3, hf⟩ := og hf
      refine rIald hx hb hK hw (Nat.le_of_ble_eq_true rfl) en_a95 hg3 dX6_goesAway_123 ?_
      refine lv_isub hx hb dX6_goesAway_124 ?_
      obtain ⟨o4, ho4, hf⟩ := ob hf
      refine rCallI (va_runS (As := [.int ((gi M 77 24) - (gi M 95 x1.toNatClampNeg))]) (rest := [.int x1, .ref (a + 96)]) ⟨hx, hb, hml, hown, hts⟩ (ctX6_root (l := l) (D := D) (cy := cy) (a := a) ho4) (va_cwS 1 hts gX6_goesAway_X6_root rfl rfl rfl (by decide +kernel) ⟨Nat.le_of_ble_eq_true rfl, Nat.le_of_ble_eq_true rfl⟩) (pS hK hZ hw hS) rfl rfl hl.1 rfl (lv_room (Nat.le_of_ble_eq_true rfl)) dX6_goesAway_125 ⟨Nat.le_of_ble_eq_true rfl, Nat.le_of_ble_eq_true rfl⟩) hS (fun H locs hw hS => ?_)
      obtain ⟨hg5, hf⟩ := og hf
      refine rIast hx hb hK hw hS (Nat.le_of_ble_eq_true rfl) (fun _ => en_a96) hg5 dX6_goesAway_128 (fun H locs hw hS => ?_)
      obtain rfl := Option.some.inj hf
      exact rVret hx hb hr hlocks hw hS dX6_goesAway_129
set_option maxRecDepth 100000 in
set_option maxHeartbeats 4000000 in
theorem bX6_goesAway_28 {p : Program} {l : Launch} {e : Env} {s : State} {m : MethodId} {args : Array Value} {below : List Frame} {meth : Method} {c : Code} {D : va_G} {cy : Nat → ClassId} {a : Nat} (hx : p.tables.exec = Jvm.exec) (hb : c.code = cX6_goesAway) (hr : meth.sig.returnType = none) (hml : c.maxLocals = 4) (hown : s.vm.findClass RX6 = some m.cls) (hts : ∀ w ∈ wsX6_goesAway, w.before args s = true) (hlocks : meth.locks = false) (hK : KS D cy s) (hZ : ZZ a s s.heap) {out : Mm} : ∀ (x1 : Int32) (x2 : Int32) (x3 : Int32) (M : Mm) (H : Heap) (locs : List Loc) (ls : Array Slot), HP D cy a M H → va_S (Aq a) s.heap H locs → lv_has ls 4 [(0, .ref (a + 77)), (1, .int x1), (2, .int x2), (3, .int x3)] → fX6_goesAway_b28 x1 x2 x3 M = some out → W p l e rX6_goesAway s m args below meth c H locs 0 0 (MQ below (QV D cy a out) args s 0 0 (Aq a)) (F0 m 28 ls []) := by
  intro x1 x2 x3 M H locs ls hw hS hl hf
  unfold fX6_goesAway_b28 at hf
  refine lv_iload_n hx hb dX6_goesAway_28 rfl (lv_at hl 3 rfl) ?_
  refine lv_aload_n hx hb dX6_goesAway_29 rfl (lv_at hl 0 rfl) ?_
  refine rGetI hx hb hts iX6_goesAway_X6 hown hK hw (Nat.le_of_ble_eq_true rfl) en_model rfl 1 (by decide) (hts _ kX6_goesAway_3) rfl ge6_1 dX6_goesAway_30 ?_
  refine lv_iconst (v := (1 : Int32)) hx hb dX6_goesAway_33 (by decide) ?_
  refine lv_isub hx hb dX6_goesAway_34 ?_
  refine lv_icmp_ne (tgt := 61) hx hb dX6_goesAway_35 (by decide) (fun c1 => ?_) (fun c1 => ?_)
  · have hf := iq c1 hf
    refine lv_aload_n hx hb dX6_goesAway_61 rfl (lv_at hl 0 rfl) ?_
    refine rGetI hx hb hts iX6_goesAway_X6 hown hK hw (Nat.le_of_ble_eq_true rfl) en_model rfl 44 (by decide) (hts _ kX6_goesAway_4) rfl ge6_44 dX6_goesAway_62 ?_
    refine lv_if_eq (tgt := 81) hx hb dX6_goesAway_65 (by decide) (fun c2 => ?_) (fun c2 => ?_)
    · have hf := ip c2 hf
      refine lv_aload_n hx hb dX6_goesAway_81 rfl (lv_at hl 0 rfl) ?_
      refine rGet hx hb hts iX6_goesAway_X6 hown hK hw (Nat.le_of_ble_eq_true rfl) en_model rfl 18 (by decide) (hts _ kX6_goesAway_5) rfl rfl dX6_goesAway_82 ?_
      refine lv_iload_n hx hb dX6_goesAway_85 rfl (lv_at hl 1 rfl) ?_
      refine lv_dup2_11 hx hb dX6_goesAway_86 rfl rfl ?_
      obtain ⟨hg3, hf⟩ := og hf
      refine rIald hx hb hK hw (Nat.le_of_ble_eq_true rfl) en_a91 hg3 dX6_goesAway_87 ?_
      refine lv_iconst (v := (1 : Int32)) hx hb dX6_goesAway_88 (by decide) ?_
      refine lv_iadd hx hb dX6_goesAway_89 ?_
      obtain ⟨hg4, hf⟩ := og hf
      refine rIast hx hb hK hw hS (Nat.le_of_ble_eq_true rfl) (fun _ => en_a91) hg4 dX6_goesAway_90 (fun H locs hw hS => ?_)
      refine lv_aload_n hx hb dX6_goesAway_91 rfl (lv_at hl 0 rfl) ?_
      refine lv_aload_n hx hb dX6_goesAway_92 rfl (lv_at hl 0 rfl) ?_
      refine rGetI hx hb hts iX6_goesAway_X6 hown hK hw (Nat.le_of_ble_eq_true rfl) en_model rfl 31 (by decide) (hts _ kX6_goesAway_6) rfl ge6_31 dX6_goesAway_93 ?_
      refine lv_iload_n hx hb dX6_goesAway_96 rfl (lv_at hl 1 rfl) ?_
      refine lv_iload_n hx hb dX6_goesAway_97 rfl (lv_at hl 2 rfl) ?_
      obtain ⟨o5, ho5, hf⟩ := ob hf
      refine rCallV (va_runV (As := [.int (gi (si M 91 x1.toNatClampNeg ((gi M 91 x1.toNatClampNeg) + (1 : Int32))) 77 31), .int x1, .int x2]) (rest := []) ⟨hx, hb, hml, hown, hts⟩ (ctX6_comesInto (l := l) (D := D) (cy := cy) (a := a) ho5) (cwV 3 hts gX6_goesAway_X6_comesInto rfl rfl rfl (by decide +kernel) ⟨Nat.le_of_ble_eq_true rfl, Nat.le_of_ble_eq_true rfl⟩) (pV hK hZ hw hS (rRecv hK hw (Nat.le_of_ble_eq_true rfl) en_model rfl)) rfl rfl hl.1 rfl (lv_room (Nat.le_of_ble_eq_true rfl)) dX6_goesAway_98 ⟨Nat.le_of_ble_eq_true rfl, Nat.le_of_ble_eq_true rfl⟩) hS (fun H locs hw hS => ?_)
      exact bX6_goesAway_101 hx hb hr hml hown hts hlocks hK hZ _ _ _ _ _ _ hw hS (lv_sub hl [0, 1, 2] rfl) hf
    · have hf := iq c2 hf
      refine lv_aload_n hx hb dX6_goesAway_68 rfl (lv_at hl 0 rfl) ?_
      refine rGet hx hb hts iX6_goesAway_X6 hown hK hw (Nat.le_of_ble_eq_true rfl) en_model rfl 19 (by decide) (hts _ kX6_goesAway_7) rfl rfl dX6_goesAway_69 ?_
      refine lv_iload_n hx hb dX6_goesAway_72 rfl (lv_at hl 1 rfl) ?_
      refine lv_dup2_11 hx hb dX6_goesAway_73 rfl rfl ?_
      obtain ⟨hg6, hf⟩ := og hf
      refine rIald hx hb hK hw (Nat.le_of_ble_eq_true rfl) en_a92 hg6 dX6_goesAway_74 ?_
      refine lv_iconst (v := (1 : Int32)) hx hb dX6_goesAway_75 (by decide) ?_
      refine lv_iadd hx hb dX6_goesAway_76 ?_
      obtain ⟨hg7, hf⟩ := og hf
      refine rIast hx hb hK hw hS (Nat.le_of_ble_eq_true rfl) (fun _ => en_a92) hg7 dX6_goesAway_77 (fun H locs hw hS => ?_)
      refine lv_goto (tgt := 101) hx hb dX6_goesAway_78 (by decide) ?_
      exact bX6_goesAway_101 hx hb hr hml hown hts hlocks hK hZ _ _ _ _ _ _ hw hS (lv_sub hl [0, 1, 2] rfl) hf
  · have hf := ip c1 hf
    refine lv_aload_n hx hb dX6_goesAway_38 rfl (lv_at hl 0 rfl) ?_
    refine rGet hx hb hts iX6_goesAway_X6 hown hK hw (Nat.le_of_ble_eq_true rfl) en_model rfl 17 (by decide) (hts _ kX6_goesAway_8) rfl rfl dX6_goesAway_39 ?_
    refine lv_iload_n hx hb dX6_goesAway_42 rfl (lv_at hl 1 rfl) ?_
    refine lv_dup2_11 hx hb dX6_goesAway_43 rfl rfl ?_
    obtain ⟨hg8, hf⟩ := og hf
    refine rIald hx hb hK hw (Nat.le_of_ble_eq_true rfl) en_a90 hg8 dX6_goesAway_44 ?_
    refine lv_iconst (v := (1 : Int32)) hx hb dX6_goesAway_45 (by decide) ?_
    refine lv_iadd hx hb dX6_goesAway_46 ?_
    obtain ⟨hg9, hf⟩ := og hf
    refine rIast hx hb hK hw hS (Nat.le_of_ble_eq_true rfl) (fun _ => en_a90) hg9 dX6_goesAway_47 (fun H locs hw hS => ?_)
    refine lv_aload_n hx hb dX6_goesAway_48 rfl (lv_at hl 0 rfl) ?_
    refine lv_aload_n hx hb dX6_goesAway_49 rfl (lv_at hl 0 rfl) ?_
    refine rGetI hx hb hts iX6_goesAway_X6 hown hK hw (Nat.le_of_ble_eq_true rfl) en_model rfl 34 (by decide) (hts _ kX6_goesAway_9) rfl ge6_34 dX6_goesAway_50 ?_
    refine lv_iload_n hx hb dX6_goesAway_53 rfl (lv_at hl 1 rfl) ?_
    refine lv_iload_n hx hb dX6_goesAway_54 rfl (lv_at hl 2 rfl) ?_
    obtain ⟨o10, ho10, hf⟩ := ob hf
    refine rCallV (va_runV (As := [.int (gi (si M 90 x1.toNatClampNeg ((gi M 90 x1.toNatClampNeg) + (1 : Int32))) 77 34), .int x1, .int x2]) (rest := []) ⟨hx, hb, hml, hown, hts⟩ (ctX6_comesInto (l := l) (D := D) (cy := cy) (a := a) ho10) (cwV 3 hts gX6_goesAway_X6_comesInto rfl rfl rfl (by decide +kernel) ⟨Nat.le_of_ble_eq_true rfl, Nat.le_of_ble_eq_true rfl⟩) (pV hK hZ hw hS (rRecv hK hw (Nat.le_of_ble_eq_true rfl) en_model rfl)) rfl rfl hl.1 rfl (lv_room (Nat.le_of_ble_eq_true rfl)) dX6_goesAway_55 ⟨Nat.le_of_ble_eq_true rfl, Nat.le_of_ble_eq_true rfl⟩) hS (fun H locs hw hS => ?_)
    refine lv_goto (tgt := 101) hx hb dX6_goesAway_58 (by decide) ?_
    exact bX6_goesAway_101 hx hb hr hml hown hts hlocks hK hZ _ _ _ _ _ _ hw hS (lv_sub hl [0, 1, 2] rfl) hf
set_option maxRecDepth 100000 in
set_option maxHeartbeats 4000000 in
theorem bX6_goesAway_0 {p : Program} {l : Launch} {e : Env} {s : State} {m : MethodId} {args : Array Value} {below : List Frame} {meth : Method} {c : Code} {D : va_G} {cy : Nat → ClassId} {a : Nat} (hx : p.tables.exec = Jvm.exec) (hb : c.code = cX6_goesAway) (hr : meth.sig.returnType = none) (hml : c.maxLocals = 4) (hown : s.vm.findClass RX6 = some m.cls) (hts : ∀ w ∈ wsX6_goesAway, w.before args s = true) (hlocks : meth.locks = false) (hK : KS D cy s) (hZ : ZZ a s s.heap) {out : Mm} : ∀ (x1 : Int32) (x2 : Int32) (x3 : Int32) (M : Mm) (H : Heap) (locs : List Loc) (ls : Array Slot), HP D cy a M H → va_S (Aq a) s.heap H locs → lv_has ls 4 [(0, .ref (a + 77)), (1, .int x1), (2, .int x2), (3, .int x3)] → fX6_goesAway x1 x2 x3 M = some out → W p l e rX6_goesAway s m args below meth c H locs 0 0 (MQ below (QV D cy a out) args s 0 0 (Aq a)) (F0 m 0 ls []) := by
  intro x1 x2 x3 M H locs ls hw hS hl hf
  unfold fX6_goesAway at hf
  refine lv_aload_n hx hb dX6_goesAway_0 rfl (lv_at hl 0 rfl) ?_
  refine rGetI hx hb hts iX6_goesAway_X6 hown hK hw (Nat.le_of_ble_eq_true rfl) en_model rfl 39 (by decide) (hts _ kX6_goesAway_10) rfl ge6_39 dX6_goesAway_1 ?_
  refine lv_if_eq (tgt := 28) hx hb dX6_goesAway_4 (by decide) (fun c1 => ?_) (fun c1 => ?_)
  · have hf := ip c1 hf
    exact bX6_goesAway_28 hx hb hr hml hown hts hlocks hK hZ _ _ _ _ _ _ _ hw hS (lv_sub hl [0, 1, 2, 3] rfl) hf
  · have hf := iq c1 hf
    refine lv_iload_n hx hb dX6_goesAway_7 rfl (lv_at hl 1 rfl) ?_
    refine lv_aload_n hx hb dX6_goesAway_8 rfl (lv_at hl 0 rfl) ?_
    refine rGetI hx hb hts iX6_goesAway_X6 hown hK hw (Nat.le_of_ble_eq_true rfl) en_model rfl 40 (by decide) (hts _ kX6_goesAway_11) rfl ge6_40 dX6_goesAway_9 ?_
    refine lv_icmp_ne (tgt := 28) hx hb dX6_goesAway_12 (by decide) (fun c2 => ?_) (fun c2 => ?_)
    · have hf := iq c2 hf
      exact bX6_goesAway_28 hx hb hr hml hown hts hlocks hK hZ _ _ _ _ _ _ _ hw hS (lv_sub hl [0, 1, 2, 3] rfl) hf
    · have hf := ip c2 hf
      refine lv_iload_n hx hb dX6_goesAway_15 rfl (lv_at hl 2 rfl) ?_
      refine lv_aload_n hx hb dX6_goesAway_16 rfl (lv_at hl 0 rfl) ?_
      refine rGetI hx hb hts iX6_goesAway_X6 hown hK hw (Nat.le_of_ble_eq_true rfl) en_model rfl 41 (by decide) (hts _ kX6_goesAway_12) rfl ge6_41 dX6_goesAway_17 ?_
      refine lv_icmp_ne (tgt := 28) hx hb dX6_goesAway_20 (by decide) (fun c3 => ?_) (fun c3 => ?_)
      · have hf := iq c3 hf
        exact bX6_goesAway_28 hx hb hr hml hown hts hlocks hK hZ _ _ _ _ _ _ _ hw hS (lv_sub hl [0, 1, 2, 3] rfl) hf
      · have hf := ip c3 hf
        refine lv_aload_n hx hb dX6_goesAway_23 rfl (lv_at hl 0 rfl) ?_
        refine lv_iload_n hx hb dX6_goesAway_24 rfl (lv_at hl 3 rfl) ?_
        obtain ⟨o4, ho4, hf⟩ := ob hf
        refine rCallV (va_runV (As := [.int x3]) (rest := []) ⟨hx, hb, hml, hown, hts⟩ (ctX6_clean (l := l) (D := D) (cy := cy) (a := a) ho4) (cwV 1 hts gX6_goesAway_X6_clean rfl rfl rfl (by decide +kernel) ⟨Nat.le_of_ble_eq_true rfl, Nat.le_of_ble_eq_true rfl⟩) (pV hK hZ hw hS (rRecv hK hw (Nat.le_of_ble_eq_true rfl) en_model rfl)) rfl rfl hl.1 rfl (lv_room (Nat.le_of_ble_eq_true rfl)) dX6_goesAway_25 ⟨Nat.le_of_ble_eq_true rfl, Nat.le_of_ble_eq_true rfl⟩) hS (fun H locs hw hS => ?_)
        exact bX6_goesAway_28 hx hb hr hml hown hts hlocks hK hZ _ _ _ _ _ _ _ hw hS (lv_sub hl [0, 1, 2, 3] rfl) hf
set_option maxRecDepth 100000 in
set_option maxHeartbeats 4000000 in
theorem ctX6_goesAway {l : Launch} {D : va_G} {cy : Nat → ClassId} {a : Nat} {x1 : Int32} {x2 : Int32} {x3 : Int32} {M : Mm} {out : Mm} (hf : fX6_goesAway x1 x2 x3 M = some out) : Met l yX6_goesAway wsX6_goesAway rX6_goesAway (Pre D cy a M [.ref (a + 77), .int x1, .int x2, .int x3]) (QV D cy a out) 0 0 (Aq a) := by
  refine Met.ofW (cc := cX6_goesAway) (maxL := 4) (ret := none) (by decide +kernel) rfl ?_
  intro p e s m args below meth c s₁ B hml hv
  obtain ⟨rfl, hw, hK, hZ⟩ := hv
  have hS : va_S (Aq a) s.heap s.heap [] := va_S.rf
  have hl := lv_entry ([.ref (a + 77), .int x1, .int x2, .int x3]) (n := 4) (Nat.le_of_ble_eq_true rfl)
  rw [lg_entry_eq]
  generalize (lg_sl ([.ref (a + 77), .int x1, .int x2, .int x3]) ++ List.replicate (4 - (lg_sl ([.ref (a + 77), .int x1, .int x2, .int x3])).length) Slot.unset).toArray = ls at hl ⊢
  exact bX6_goesAway_0 B.exec B.bytes B.returns hml (findClass_of_methodNamed B.named) (atoms_spec (ws := wsX6_goesAway) B.pre) B.notSynchronized hK hZ _ _ _ _ _ _ _ hw hS hl hf
