def rX5_passOne : Room := { frames := 5, cells := 0, slots := 0, locals := 115 }
noncomputable def fX5_passOne_b63 (x1 : Int32) (M : Mm) : Option (Int32 × Mm) := (if ¬ ((irem (gi M 0 15) (5 : Int32)) < 0 ∨ 5 ≤ (irem (gi M 0 15) (5 : Int32)).toNatClampNeg) then some (x1, si (si M 5 (irem (gi M 0 15) (5 : Int32)).toNatClampNeg ((x1 - (gi M (6 + 2) 3)) - (gi M (6 + 1) 3))) 0 15 ((gi (si M 5 (irem (gi M 0 15) (5 : Int32)).toNatClampNeg ((x1 - (gi M (6 + 2) 3)) - (gi M (6 + 1) 3))) 0 15) + (1 : Int32))) else none)
noncomputable def fX5_passOne_b55 (x1 : Int32) (M : Mm) : Option (Int32 × Mm) := (if x1 ≤ 0 then fX5_passOne_b63 x1 M else ((fX5_soil M).bind fun o2 => fX5_passOne_b63 x1 o2))
noncomputable def fX5_passOne_L34 : Nat → Int32 → Mm → Option (Int32 × Mm)
  | 0 => fun _ _ => none
  | n + 1 => fun x1 M => (if (gi M 0 14) ≤ x1 then fX5_passOne_b55 x1 M else ((fX5_moveOne M).bind fun o2 => (if o2.1 = 0 then fX5_passOne_b55 x1 o2.2 else (fX5_passOne_L34 n) (x1 + (1 : Int32)) o2.2)))
noncomputable def fX5_passOne (M : Mm) : Option (Int32 × Mm) := ((fX5_findRate (si (si (si M (6 + 0) 3 (0 : Int32)) (6 + 1) 3 (0 : Int32)) (6 + 2) 3 (0 : Int32))).bind fun o1 => fX5_passOne_L34 400 (0 : Int32) (si (si (si (si M (6 + 0) 3 (0 : Int32)) (6 + 1) 3 (0 : Int32)) (6 + 2) 3 (0 : Int32)) 0 14 o1))
set_option maxRecDepth 20000 in
theorem iX5_passOne_X4 : ∀ w ∈ wsX40, w ∈ wsX5_passOne := by decide +kernel
set_option maxRecDepth 20000 in
theorem iX5_passOne_X5 : ∀ w ∈ wsX50, w ∈ wsX5_passOne := by decide +kernel
set_option maxRecDepth 20000 in
theorem kX5_passOne_0 : Cond.fieldLink RX5 33 "BatchPipe" "balances" "[I" ∈ wsX5_passOne := by decide +kernel
set_option maxRecDepth 20000 in
theorem kX5_passOne_1 : Cond.fieldLink RX5 136 "BatchPipe" "minute" "I" ∈ wsX5_passOne := by decide +kernel
set_option maxRecDepth 20000 in
theorem kX5_passOne_2 : Cond.fieldLink RX5 47 "BatchPipe" "outlet" "LBatchPipe$Tap;" ∈ wsX5_passOne := by decide +kernel
set_option maxRecDepth 20000 in
theorem kX5_passOne_3 : Cond.fieldLink RX5 44 "BatchPipe" "dropTap" "LBatchPipe$Tap;" ∈ wsX5_passOne := by decide +kernel
set_option maxRecDepth 20000 in
theorem kX5_passOne_4 : Cond.fieldLink RX5 214 "BatchPipe" "rateFound" "I" ∈ wsX5_passOne := by decide +kernel
set_option maxRecDepth 20000 in
theorem kX5_passOne_5 : Cond.fieldLink RX5 40 "BatchPipe" "leakTap" "LBatchPipe$Tap;" ∈ wsX5_passOne := by decide +kernel
set_option maxRecDepth 100000 in
set_option maxHeartbeats 4000000 in
theorem bX5_passOne_63 {p : Program} {l : Launch} {e : Env} {s : State} {m : MethodId} {args : Array Value} {below : List Frame} {meth : Method} {c : Code} {D : va_G} {cy : Nat → ClassId} {a : Nat} (hx : p.tables.exec = Jvm.exec) (hb : c.code = cX5_passOne) (hr : meth.sig.returnType = (some .int)) (hml : c.maxLocals = 2) (hown : s.vm.findClass RX5 = some m.cls) (hts : ∀ w ∈ wsX5_passOne, w.before args s = true) (hlocks : meth.locks = false) (hK : KS D cy s) (hZ : ZZ a s s.heap) {out : Int32 × Mm} : ∀ (x1 : Int32) (M : Mm) (H : Heap) (locs : List Loc) (ls : Array Slot), HP D cy a M H → va_S (Aq a) s.heap H locs → lv_has ls 2 [(0, .ref (a + 0)), (1, .int x1)] → fX5_passOne_b63 x1 M = some out → W p l e rX5_passOne s m args below meth c H locs 0 0 (MQ below (QI D cy a out.1 out.2) args s 0 0 (Aq a)) (F0 m 63 ls []) := by
  intro x1 M H locs ls hw hS hl hf
  unfold fX5_passOne_b63 at hf
  refine lv_aload_n hx hb dX5_passOne_63 rfl (lv_at hl 0 rfl) ?_
  refine rGet hx hb hts iX5_passOne_X5 hown hK hw (Nat.le_of_ble_eq_true rfl) en_pipe rfl 4 (by decide) (hts _ kX5_passOne_0) rfl rfl dX5_passOne_64 ?_
  refine lv_aload_n hx hb dX5_passOne_67 rfl (lv_at hl 0 rfl) ?_
  refine rGetI hx hb hts iX5_passOne_X5 hown hK hw (Nat.le_of_ble_eq_true rfl) en_pipe rfl 15 (by decide) (hts _ kX5_passOne_1) rfl ge5_15 dX5_passOne_68 ?_
  refine lv_iconst (v := (5 : Int32)) hx hb dX5_passOne_71 (by decide) ?_
  refine lv_irem hx hb dX5_passOne_72 (by decide) ?_
  refine lv_iload_n hx hb dX5_passOne_73 rfl (lv_at hl 1 rfl) ?_
  refine lv_aload_n hx hb dX5_passOne_74 rfl (lv_at hl 0 rfl) ?_
  refine rGet hx hb hts iX5_passOne_X5 hown hK hw (Nat.le_of_ble_eq_true rfl) en_pipe rfl 7 (by decide) (hts _ kX5_passOne_2) rfl rfl dX5_passOne_75 ?_
  refine rGetNI hx hb hts iX5_passOne_X4 hown hK hw (ktap (Nat.le_of_ble_eq_true rfl)) (en_tap (Nat.le_of_ble_eq_true rfl)) rfl 3 (by decide) nwF_246 rfl ge4_3 dX5_passOne_78 ?_
  refine lv_isub hx hb dX5_passOne_81 ?_
  refine lv_aload_n hx hb dX5_passOne_82 rfl (lv_at hl 0 rfl) ?_
  refine rGet hx hb hts iX5_passOne_X5 hown hK hw (Nat.le_of_ble_eq_true rfl) en_pipe rfl 6 (by decide) (hts _ kX5_passOne_3) rfl rfl dX5_passOne_83 ?_
  refine rGetNI hx hb hts iX5_passOne_X4 hown hK hw (ktap (Nat.le_of_ble_eq_true rfl)) (en_tap (Nat.le_of_ble_eq_true rfl)) rfl 3 (by decide) nwF_246 rfl ge4_3 dX5_passOne_86 ?_
  refine lv_isub hx hb dX5_passOne_89 ?_
  obtain ⟨hg1, hf⟩ := og hf
  refine rIast hx hb hK hw hS (Nat.le_of_ble_eq_true rfl) (fun _ => en_a5) hg1 dX5_passOne_90 (fun H locs hw hS => ?_)
  refine lv_aload_n hx hb dX5_passOne_91 rfl (lv_at hl 0 rfl) ?_
  refine lv_dup hx hb dX5_passOne_92 rfl ?_
  refine rGetI hx hb hts iX5_passOne_X5 hown hK hw (Nat.le_of_ble_eq_true rfl) en_pipe rfl 15 (by decide) (hts _ kX5_passOne_1) rfl ge5_15 dX5_passOne_93 ?_
  refine lv_iconst (v := (1 : Int32)) hx hb dX5_passOne_96 (by decide) ?_
  refine lv_iadd hx hb dX5_passOne_97 ?_
  refine rPut hx hb hts iX5_passOne_X5 tyX5 tyX5_ok nmX5 hown hK hw hS (Nat.le_of_ble_eq_true rfl) en_pipe rfl 15 (by decide) (hts _ kX5_passOne_1) rfl rfl rfl rfl (Nat.le_of_ble_eq_true rfl) hs5_15 dX5_passOne_98 (fun H locs hw hS => ?_)
  refine lv_iload_n hx hb dX5_passOne_101 rfl (lv_at hl 1 rfl) ?_
  obtain rfl := Option.some.inj hf
  exact rIret hx hb hr hlocks hw hS dX5_passOne_102
set_option maxRecDepth 100000 in
set_option maxHeartbeats 4000000 in
theorem bX5_passOne_55 {p : Program} {l : Launch} {e : Env} {s : State} {m : MethodId} {args : Array Value} {below : List Frame} {meth : Method} {c : Code} {D : va_G} {cy : Nat → ClassId} {a : Nat} (hx : p.tables.exec = Jvm.exec) (hb : c.code = cX5_passOne) (hr : meth.sig.returnType = (some .int)) (hml : c.maxLocals = 2) (hown : s.vm.findClass RX5 = some m.cls) (hts : ∀ w ∈ wsX5_passOne, w.before args s = true) (hlocks : meth.locks = false) (hK : KS D cy s) (hZ : ZZ a s s.heap) {out : Int32 × Mm} : ∀ (x1 : Int32) (M : Mm) (H : Heap) (locs : List Loc) (ls : Array Slot), HP D cy a M H → va_S (Aq a) s.heap H locs → lv_has ls 2 [(0, .ref (a + 0)), (1, .int x1)] → fX5_passOne_b55 x1 M = some out → W p l e rX5_passOne s m args below meth c H locs 0 0 (MQ below (QI D cy a out.1 out.2) args s 0 0 (Aq a)) (F0 m 55 ls []) := by
  intro x1 M H locs ls hw hS hl hf
  unfold fX5_passOne_b55 at hf
  refine lv_iload_n hx hb dX5_passOne_55 rfl (lv_at hl 1 rfl) ?_
  refine lv_if_le (tgt := 63) hx hb dX5_passOne_56 (by decide) (fun c1 => ?_) (fun c1 => ?_)
  · have hf := ip c1 hf
    exact bX5_passOne_63 hx hb hr hml hown hts hlocks hK hZ _ _ _ _ _ hw hS (lv_sub hl [0, 1] rfl) hf
  · have hf := iq c1 hf
    refine lv_aload_n hx hb dX5_passOne_59 rfl (lv_at hl 0 rfl) ?_
    obtain ⟨o2, ho2, hf⟩ := ob hf
    refine rCallV (va_runV (As := []) (rest := []) ⟨hx, hb, hml, hown, hts⟩ (ctX5_soil (l := l) (D := D) (cy := cy) (a := a) ho2) (cwV 0 hts gX5_passOne_X5_soil rfl rfl rfl (by decide +kernel) ⟨Nat.le_of_ble_eq_true rfl, Nat.le_of_ble_eq_true rfl⟩) (pV hK hZ hw hS (rRecv hK hw (Nat.le_of_ble_eq_true rfl) en_pipe rfl)) rfl rfl hl.1 rfl (lv_room (Nat.le_of_ble_eq_true rfl)) dX5_passOne_60 ⟨Nat.le_of_ble_eq_true rfl, Nat.le_of_ble_eq_true rfl⟩) hS (fun H locs hw hS => ?_)
    exact bX5_passOne_63 hx hb hr hml hown hts hlocks hK hZ _ _ _ _ _ hw hS (lv_sub hl [0, 1] rfl) hf
set_option maxRecDepth 100000 in
set_option maxHeartbeats 4000000 in
theorem bX5_passOne_34 {p : Program} {l : Launch} {e : Env} {s : State} {m : MethodId} {args : Array Value} {below : List Frame} {meth : Method} {c : Code} {D : va_G} {cy : Nat → ClassId} {a : Nat} (hx : p.tables.exec = Jvm.exec) (hb : c.code = cX5_passOne) (hr : meth.sig.returnType = (some .int)) (hml : c.maxLocals = 2) (hown : s.vm.findClass RX5 = some m.cls) (hts : ∀ w ∈ wsX5_passOne, w.before args s = true) (hlocks : meth.locks = false) (hK : KS D cy s) (hZ : ZZ a s s.heap) {out : Int32 × Mm} : ∀ (n : Nat), ∀ (x1 : Int32) (M : Mm) (H : Heap) (locs : List Loc) (ls : Array Slot), HP D cy a M H → va_S (Aq a) s.heap H locs → lv_has ls 2 [(0, .ref (a + 0)), (1, .int x1)] → fX5_passOne_L34 n x1 M = some out → W p l e rX5_passOne s m args below meth c H locs 0 0 (MQ below (QI D cy a out.1 out.2) args s 0 0 (Aq a)) (F0 m 34 ls []) := by
  intro n
  induction n with
  | zero =>
    intro x1 M H locs ls hw hS hl hf
    have hf : (none : Option (Int32 × Mm)) = some out := hf
    cases hf
  | succ n ih =>
    intro x1 M H locs ls hw hS hl hf
    unfold fX5_passOne_L34 at hf
    refine lv_iload_n hx hb dX5_passOne_34 rfl (lv_at hl 1 rfl) ?_
    refine lv_aload_n hx hb dX5_passOne_35 rfl (lv_at hl 0 rfl) ?_
    refine rGetI hx hb hts iX5_passOne_X5 hown hK hw (Nat.le_of_ble_eq_true rfl) en_pipe rfl 14 (by decide) (hts _ kX5_passOne_4) rfl ge5_14 dX5_passOne_36 ?_
    refine lv_icmp_ge (tgt := 55) hx hb dX5_passOne_39 (by decide) (fun c1 => ?_) (fun c1 => ?_)
    · have hf := ip c1 hf
      exact bX5_passOne_55 hx hb hr hml hown hts hlocks hK hZ _ _ _ _ _ hw hS (lv_sub hl [0, 1] rfl) hf
    · have hf := iq c1 hf
      refine lv_aload_n hx hb dX5_passOne_42 rfl (lv_at hl 0 rfl) ?_
      obtain ⟨o2, ho2, hf⟩ := ob hf
      refine rCallB (va_runV (As := []) (rest := []) ⟨hx, hb, hml, hown, hts⟩ (ctX5_moveOne (l := l) (D := D) (cy := cy) (a := a) ho2) (cwV 0 hts gX5_passOne_X5_moveOne rfl rfl rfl (by decide +kernel) ⟨Nat.le_of_ble_eq_true rfl, Nat.le_of_ble_eq_true rfl⟩) (pV hK hZ hw hS (rRecv hK hw (Nat.le_of_ble_eq_true rfl) en_pipe rfl)) rfl rfl hl.1 rfl (lv_room (Nat.le_of_ble_eq_true rfl)) dX5_passOne_43 ⟨Nat.le_of_ble_eq_true rfl, Nat.le_of_ble_eq_true rfl⟩) hS (fun H locs hw hS ho2b => ?_)
      refine lv_if_eq (tgt := 55) hx hb dX5_passOne_46 (by decide) (fun c3 => ?_) (fun c3 => ?_)
      · have hf := ip c3 hf
        exact bX5_passOne_55 hx hb hr hml hown hts hlocks hK hZ _ _ _ _ _ hw hS (lv_sub hl [0, 1] rfl) hf
      · have hf := iq c3 hf
        refine lv_iinc (v := x1 + (1 : Int32)) (lv' := [(1, .int (x1 + (1 : Int32))), (0, .ref (a + 0))]) hx hb dX5_passOne_49 hl (k := 1) rfl rfl (Nat.le_of_ble_eq_true rfl) rfl (fun ls hl => ?_)
        refine lv_goto (tgt := 34) hx hb dX5_passOne_52 (by decide) ?_
        exact ih _ _ _ _ _ hw hS (lv_sub hl [1, 0] rfl) hf
set_option maxRecDepth 100000 in
set_option maxHeartbeats 4000000 in
theorem bX5_passOne_0 {p : Program} {l : Launch} {e : Env} {s : State} {m : MethodId} {args : Array Value} {below : List Frame} {meth : Method} {c : Code} {D : va_G} {cy : Nat → ClassId} {a : Nat} (hx : p.tables.exec = Jvm.exec) (hb : c.code = cX5_passOne) (hr : meth.sig.returnType = (some .int)) (hml : c.maxLocals = 2) (hown : s.vm.findClass RX5 = some m.cls) (hts : ∀ w ∈ wsX5_passOne, w.before args s = true) (hlocks : meth.locks = false) (hK : KS D cy s) (hZ : ZZ a s s.heap) {out : Int32 × Mm} : ∀ (M : Mm) (H : Heap) (locs : List Loc) (ls : Array Slot), HP D cy a M H → va_S (Aq a) s.heap H locs → lv_has ls 2 [(0, .ref (a + 0))] → fX5_passOne  M = some out → W p l e rX5_passOne s m args below meth c H locs 0 0 (MQ below (QI D cy a out.1 out.2) args s 0 0 (Aq a)) (F0 m 0 ls []) := by
  intro M H locs ls hw hS hl hf
  unfold fX5_passOne at hf
  refine lv_aload_n hx hb dX5_passOne_0 rfl (lv_at hl 0 rfl) ?_
  refine rGet hx hb hts iX5_passOne_X5 hown hK hw (Nat.le_of_ble_eq_true rfl) en_pipe rfl 5 (by decide) (hts _ kX5_passOne_5) rfl rfl dX5_passOne_1 ?_
  refine lv_iconst (v := (0 : Int32)) hx hb dX5_passOne_4 (by decide) ?_
  refine rPutN hx hb hts iX5_passOne_X4 tyX4 tyX4_ok nmX4 hown hK hw hS (ktap (Nat.le_of_ble_eq_true rfl)) (en_tap (Nat.le_of_ble_eq_true rfl)) rfl 3 (by decide) nwF_246 rfl rfl rfl rfl (Nat.le_of_ble_eq_true rfl) (hs4_3 (Nat.le_of_ble_eq_true rfl)) dX5_passOne_5 (fun H locs hw hS => ?_)
  refine lv_aload_n hx hb dX5_passOne_8 rfl (lv_at hl 0 rfl) ?_
  refine rGet hx hb hts iX5_passOne_X5 hown hK hw (Nat.le_of_ble_eq_true rfl) en_pipe rfl 6 (by decide) (hts _ kX5_passOne_3) rfl rfl dX5_passOne_9 ?_
  refine lv_iconst (v := (0 : Int32)) hx hb dX5_passOne_12 (by decide) ?_
  refine rPutN hx hb hts iX5_passOne_X4 tyX4 tyX4_ok nmX4 hown hK hw hS (ktap (Nat.le_of_ble_eq_true rfl)) (en_tap (Nat.le_of_ble_eq_true rfl)) rfl 3 (by decide) nwF_246 rfl rfl rfl rfl (Nat.le_of_ble_eq_true rfl) (hs4_3 (Nat.le_of_ble_eq_true rfl)) dX5_passOne_13 (fun H locs hw hS => ?_)
  refine lv_aload_n hx hb dX5_passOne_16 rfl (lv_at hl 0 rfl) ?_
  refine rGet hx hb hts iX5_passOne_X5 hown hK hw (Nat.le_of_ble_eq_true rfl) en_pipe rfl 7 (by decide) (hts _ kX5_passOne_2) rfl rfl dX5_passOne_17 ?_
  refine lv_iconst (v := (0 : Int32)) hx hb dX5_passOne_20 (by decide) ?_
  refine rPutN hx hb hts iX5_passOne_X4 tyX4 tyX4_ok nmX4 hown hK hw hS (ktap (Nat.le_of_ble_eq_true rfl)) (en_tap (Nat.le_of_ble_eq_true rfl)) rfl 3 (by decide) nwF_246 rfl rfl rfl rfl (Nat.le_of_ble_eq_true rfl) (hs4_3 (Nat.le_of_ble_eq_true rfl)) dX5_passOne_21 (fun H locs hw hS => ?_)
  refine lv_aload_n hx hb dX5_passOne_24 rfl (lv_at hl 0 rfl) ?_
  refine lv_aload_n hx hb dX5_passOne_25 rfl (lv_at hl 0 rfl) ?_
  obtain ⟨o1, ho1, hf⟩ := ob hf
  refine rCallI (va_runV (As := []) (rest := [.ref (a + 0)]) ⟨hx, hb, hml, hown, hts⟩ (ctX5_findRate (l := l) (D := D) (cy := cy) (a := a) ho1) (cwV 0 hts gX5_passOne_X5_findRate rfl rfl rfl (by decide +kernel) ⟨Nat.le_of_ble_eq_true rfl, Nat.le_of_ble_eq_true rfl⟩) (pV hK hZ hw hS (rRecv hK hw (Nat.le_of_ble_eq_true rfl) en_pipe rfl)) rfl rfl hl.1 rfl (lv_room (Nat.le_of_ble_eq_true rfl)) dX5_passOne_26 ⟨Nat.le_of_ble_eq_true rfl, Nat.le_of_ble_eq_true rfl⟩) hS (fun H locs hw hS => ?_)
  refine rPut hx hb hts iX5_passOne_X5 tyX5 tyX5_ok nmX5 hown hK hw hS (Nat.le_of_ble_eq_true rfl) en_pipe rfl 14 (by decide) (hts _ kX5_passOne_4) rfl rfl rfl rfl (Nat.le_of_ble_eq_true rfl) hs5_14 dX5_passOne_29 (fun H locs hw hS => ?_)
  refine lv_iconst (v := (0 : Int32)) hx hb dX5_passOne_32 (by decide) ?_
  refine lv_istore_n (lv' := [(1, .int (0 : Int32)), (0, .ref (a + 0))]) hx hb dX5_passOne_33 rfl hl (Nat.le_of_ble_eq_true rfl) rfl (fun ls hl => ?_)
  exact bX5_passOne_34 hx hb hr hml hown hts hlocks hK hZ 400 _ _ _ _ _ hw hS (lv_sub hl [1, 0] rfl) hf
set_option maxRecDepth 100000 in
set_option maxHeartbeats 4000000 in
theorem ctX5_passOne {l : Launch} {D : va_G} {cy : Nat → ClassId} {a : Nat} {M : Mm} {out : Int32 × Mm} (hf : fX5_passOne  M = some out) : Met l yX5_passOne wsX5_passOne rX5_passOne (Pre D cy a M [.ref (a + 0)]) (QI D cy a out.1 out.2) 0 0 (Aq a) := by
  refine Met.ofW (cc := cX5_passOne) (maxL := 2) (ret := (some .int)) (by decide +kernel) rfl ?_
  intro p e s m args below meth c s₁ B hml hv
  obtain ⟨rfl, hw, hK, hZ⟩ := hv
  have hS : va_S (Aq a) s.heap s.heap [] := va_S.rf
  have hl := lv_entry ([.ref (a + 0)]) (n := 2) (Nat.le_of_ble_eq_true rfl)
  rw [lg_entry_eq]
  generalize (lg_sl ([.ref (a + 0)]) ++ List.replicate (2 - (lg_sl ([.ref (a + 0)])).length) Slot.unset).toArray = ls at hl ⊢
  exact bX5_passOne_0 B.exec B.bytes B.returns hml (findClass_of_methodNamed B.named) (atoms_spec (ws := wsX5_passOne) B.pre) B.notSynchronized hK hZ _ _ _ _ hw hS hl hf
def rX5_pass : Room := { frames := 7, cells := 2, slots := 12, locals := 136 }
noncomputable def fX5_pass_L41 : Nat → Int32 → Int32 → Int32 → Mm → Option (Nat × Int32 × Mm)
  | 0 => fun _ _ _ _ => none
  | n + 1 => fun x1 x2 x3 M => (if x1 ≤ x3 then some (0, x2, M) else ((fX5_passOne M).bind fun o2 => (fX5_pass_L41 n) x1 (x2 + o2.1) (x3 + (1 : Int32)) o2.2))
noncomputable def fX5_pass (x1 : Int32) (M : Mm) : Option (Nat × Int32 × Mm) := ((fX5_checkRange x1 (1 : Int32) (60 : Int32) M).bind fun o1 => if o1 = 0 then (if (gi M 0 10) = 0 then some (2, 0, M) else (if ((gi M 0 15) + x1) ≤ (9999 : Int32) then fX5_pass_L41 400 x1 (0 : Int32) (0 : Int32) M else some (2, 0, M))) else some (o1, 0, M))
set_option maxRecDepth 20000 in
theorem iX5_pass_X5 : ∀ w ∈ wsX50, w ∈ wsX5_pass := by decide +kernel
set_option maxRecDepth 20000 in
theorem kX5_pass_0 : Cond.fieldLink RX5 73 "BatchPipe" "isOpen" "Z" ∈ wsX5_pass := by decide +kernel
set_option maxRecDepth 20000 in
theorem kX5_pass_1 : Cond.classLink RX5 80 "java/lang/IllegalStateException" ∈ wsX5_pass := by decide +kernel
set_option maxRecDepth 20000 in
theorem kX5_pass_2 : Cond.initialized "java/lang/IllegalStateException" ∈ wsX5_pass := by decide +kernel
set_option maxRecDepth 20000 in
theorem kX5_pass_3 : Cond.fieldLink RX5 136 "BatchPipe" "minute" "I" ∈ wsX5_pass := by decide +kernel
set_option maxRecDepth 20000 in
theorem xX5_pass_2 : ∀ w ∈ (vx_atS RX5 84 (exN 2) ["java/lang/RuntimeException", "java/lang/Exception"]).filter goodWord, w ∈ wsX5_pass := by decide +kernel
set_option maxRecDepth 100000 in
set_option maxHeartbeats 4000000 in
theorem bX5_pass_41 {p : Program} {l : Launch} {e : Env} {s : State} {m : MethodId} {args : Array Value} {below : List Frame} {meth : Method} {c : Code} {D : va_G} {cy : Nat → ClassId} {a : Nat} (hx : p.tables.exec = Jvm.exec) (hb : c.code = cX5_pass) (hr : meth.sig.returnType = (some .int)) (hml : c.maxLocals = 4) (hown : s.vm.findClass RX5 = some m.cls) (hts : ∀ w ∈ wsX5_pass, w.before args s = true) (hlocks : meth.locks = false) (hK : KS D cy s) (hZ : ZZ a s s.heap) (htb : ∀ x ∈ c.exceptionTable.toList, False) (hfl : l.stackTraces = false) {out : Nat × Int32 × Mm} : ∀ (n : Nat), ∀ (x1 : Int32) (x2 : Int32) (x3 : Int32) (M : Mm) (H : Heap) (locs : List Loc) (ls : Array Slot), HP D cy a M H → va_S (Aq a) s.heap H locs → lv_has ls 4 [(0, .ref (a + 0)), (1, .int x1), (2, .int x2), (3, .int x3)] → fX5_pass_L41 n x1 x2 x3 M = some out → W p l e rX5_pass s m args below meth c H locs 1 6 (vx_MQ below (QIx D cy a out.1 out.2.1 out.2.2) (XT D cy a out.1 out.2.2) args s 2 12 (Aq a)) (F0 m 41 ls []) := by
  intro n
  induction n with
  | zero =>
    intro x1 x2 x3 M H locs ls hw hS hl hf
    have hf : (none : Option (Nat × Int32 × Mm)) = some out := hf
    cases hf
  | succ n ih =>
    intro x1 x2 x3 M H locs ls hw hS hl hf
    unfold fX5_pass_L41 at hf
    refine lv_iload_n hx hb dX5_pass_41 rfl (lv_at hl 3 rfl) ?_
    refine lv_iload_n hx hb dX5_pass_42 rfl (lv_at hl 1 rfl) ?_
    refine lv_icmp_ge (tgt := 59) hx hb dX5_pass_43 (by decide) (fun c1 => ?_) (fun c1 => ?_)
    · have hf := ip c1 hf
      refine lv_iload_n hx hb dX5_pass_59 rfl (lv_at hl 2 rfl) ?_
      obtain rfl := Option.some.inj hf
      refine W.widen (k := 2) (n := 12) (Nat.le_of_ble_eq_true rfl) (Nat.le_of_ble_eq_true rfl) ?_
      exact rxIret hx hb hr hlocks hw hS dX5_pass_60
    · have hf := iq c1 hf
      refine lv_iload_n hx hb dX5_pass_46 rfl (lv_at hl 2 rfl) ?_
      refine lv_aload_n hx hb dX5_pass_47 rfl (lv_at hl 0 rfl) ?_
      obtain ⟨o2, ho2, hf⟩ := ob hf
      refine rCallI (va_runV (As := []) (rest := [.int x2]) ⟨hx, hb, hml, hown, hts⟩ (ctX5_passOne (l := l) (D := D) (cy := cy) (a := a) ho2) (cwV 0 hts gX5_pass_X5_passOne rfl rfl rfl (by decide +kernel) ⟨Nat.le_of_ble_eq_true rfl, Nat.le_of_ble_eq_true rfl⟩) (pV hK hZ hw hS (rRecv hK hw (Nat.le_of_ble_eq_true rfl) en_pipe rfl)) rfl rfl hl.1 rfl (lv_room (Nat.le_of_ble_eq_true rfl)) dX5_pass_48 ⟨Nat.le_of_ble_eq_true rfl, Nat.le_of_ble_eq_true rfl⟩) hS (fun H locs hw hS => ?_)
      refine lv_iadd hx hb dX5_pass_51 ?_
      refine lv_istore_n (lv' := [(2, .int (x2 + o2.1)), (0, .ref (a + 0)), (1, .int x1), (3, .int x3)]) hx hb dX5_pass_52 rfl hl (Nat.le_of_ble_eq_true rfl) rfl (fun ls hl => ?_)
      refine lv_iinc (v := x3 + (1 : Int32)) (lv' := [(3, .int (x3 + (1 : Int32))), (2, .int (x2 + o2.1)), (0, .ref (a + 0)), (1, .int x1)]) hx hb dX5_pass_53 hl (k := 3) rfl rfl (Nat.le_of_ble_eq_true rfl) rfl (fun ls hl => ?_)
      refine lv_goto (tgt := 41) hx hb dX5_pass_56 (by decide) ?_
      exact ih _ _ _ _ _ _ _ hw hS (lv_sub hl [2, 3, 1, 0] rfl) hf
set_option maxRecDepth 100000 in
set_option maxHeartbeats 4000000 in
theorem bX5_pass_0 {p : Program} {l : Launch} {e : Env} {s : State} {m : MethodId} {args : Array Value} {below : List Frame} {meth : Method} {c : Code} {D : va_G} {cy : Nat → ClassId} {a : Nat} (hx : p.tables.exec = Jvm.exec) (hb : c.code = cX5_pass) (hr : meth.sig.returnType = (some .int)) (hml : c.maxLocals = 4) (hown : s.vm.findClass RX5 = some m.cls) (hts : ∀ w ∈ wsX5_pass, w.before args s = true) (hlocks : meth.locks = false) (hK : KS D cy s) (hZ : ZZ a s s.heap) (htb : ∀ x ∈ c.exceptionTable.toList, False) (hfl : l.stackTraces = false) {out : Nat × Int32 × Mm} : ∀ (x1 : Int32) (M : Mm) (H : Heap) (locs : List Loc) (ls : Array Slot), HP D cy a M H → va_S (Aq a) s.heap H locs → lv_has ls 4 [(0, .ref (a + 0)), (1, .int x1)] → fX5_pass x1 M = some out → W p l e rX5_pass s m args below meth c H locs 0 0 (vx_MQ below (QIx D cy a out.1 out.2.1 out.2.2) (XT D cy a out.1 out.2.2) args s 2 12 (Aq a)) (F0 m 0 ls []) := by
  intro x1 M H locs ls hw hS hl hf
  unfold fX5_pass at hf
  refine lv_aload_n hx hb dX5_pass_0 rfl (lv_at hl 0 rfl) ?_
  refine lv_iload_n hx hb dX5_pass_1 rfl (lv_at hl 1 rfl) ?_
  refine lv_iconst (v := (1 : Int32)) hx hb dX5_pass_2 (by decide) ?_
  refine lv_bipush (v := (60 : Int32)) hx hb dX5_pass_3 (by decide) ?_
  obtain ⟨o1, ho1, hf⟩ := ob hf
  refine rxCallV (vx_runV (As := [.int x1, .int (1 : Int32), .int (60 : Int32)]) (rest := []) ⟨hx, hb, hml, hown, hts⟩ (ctX5_checkRange (l := l) (D := D) (cy := cy) (a := a) hfl ho1) (cwV 3 hts gX5_pass_X5_checkRange rfl rfl rfl (by decide +kernel) ⟨Nat.le_of_ble_eq_true rfl, Nat.le_of_ble_eq_true rfl⟩) (pV hK hZ hw hS (rRecv hK hw (Nat.le_of_ble_eq_true rfl) en_pipe rfl)) rfl rfl hl.1 rfl (lv_room (Nat.le_of_ble_eq_true rfl)) dX5_pass_5 ⟨Nat.le_of_ble_eq_true rfl, Nat.le_of_ble_eq_true rfl⟩) hS (fun ce q9 H locs hn hw hS h1 h2 h3 => ?_) (fun H locs hn hw hS => ?_)
  · have hf := iq hn hf
    obtain rfl := Option.some.inj hf
    exact rOut htb hlocks hn hw hS h1 h2 h3 (Nat.le_of_ble_eq_true rfl) (Nat.le_of_ble_eq_true rfl)
  · have hf := ip hn hf
    refine lv_aload_n hx hb dX5_pass_8 rfl (lv_at hl 0 rfl) ?_
    refine rGetI hx hb hts iX5_pass_X5 hown hK hw (Nat.le_of_ble_eq_true rfl) en_pipe rfl 10 (by decide) (hts _ kX5_pass_0) rfl ge5_10 dX5_pass_9 ?_
    refine lv_if_eq (tgt := 27) hx hb dX5_pass_12 (by decide) (fun c2 => ?_) (fun c2 => ?_)
    · have hf := ip c2 hf
      obtain rfl := Option.some.inj hf
      exact rThrow hx hb hfl 2 (by decide) (by decide +kernel) hts hown hK hZ hw hS kX5_pass_1 kX5_pass_2 nwS_139 xX5_pass_2 xbad_2_84 xgood_2_84_80 hml hl dX5_pass_27 dX5_pass_30 dX5_pass_31 dX5_pass_33 dX5_pass_36 htb (Nat.le_of_ble_eq_true rfl) (Nat.le_of_ble_eq_true rfl) (Nat.le_of_ble_eq_true rfl) (Nat.le_of_ble_eq_true rfl) hlocks (Nat.le_of_ble_eq_true rfl) (Nat.le_of_ble_eq_true rfl)
    · have hf := iq c2 hf
      refine lv_aload_n hx hb dX5_pass_15 rfl (lv_at hl 0 rfl) ?_
      refine rGetI hx hb hts iX5_pass_X5 hown hK hw (Nat.le_of_ble_eq_true rfl) en_pipe rfl 15 (by decide) (hts _ kX5_pass_3) rfl ge5_15 dX5_pass_16 ?_
      refine lv_iload_n hx hb dX5_pass_19 rfl (lv_at hl 1 rfl) ?_
      refine lv_iadd hx hb dX5_pass_20 ?_
      refine lv_sipush (v := (9999 : Int32)) hx hb dX5_pass_21 (by decide) ?_
      refine lv_icmp_le (tgt := 37) hx hb dX5_pass_24 (by decide) (fun c3 => ?_) (fun c3 => ?_)
      · have hf := ip c3 hf
        refine lv_iconst (v := (0 : Int32)) hx hb dX5_pass_37 (by decide) ?_
        refine lv_istore_n (lv' := [(2, .int (0 : Int32)), (0, .ref (a + 0)), (1, .int x1)]) hx hb dX5_pass_38 rfl hl (Nat.le_of_ble_eq_true rfl) rfl (fun ls hl => ?_)
        refine lv_iconst (v := (0 : Int32)) hx hb dX5_pass_39 (by decide) ?_
        refine lv_istore_n (lv' := [(3, .int (0 : Int32)), (2, .int (0 : Int32)), (0, .ref (a + 0)), (1, .int x1)]) hx hb dX5_pass_40 rfl hl (Nat.le_of_ble_eq_true rfl) rfl (fun ls hl => ?_)
        exact bX5_pass_41 hx hb hr hml hown hts hlocks hK hZ htb hfl 400 _ _ _ _ _ _ _ hw hS (lv_sub hl [2, 3, 1, 0] rfl) hf
      · have hf := iq c3 hf
        obtain rfl := Option.some.inj hf
        exact rThrow hx hb hfl 2 (by decide) (by decide +kernel) hts hown hK hZ hw hS kX5_pass_1 kX5_pass_2 nwS_139 xX5_pass_2 xbad_2_84 xgood_2_84_80 hml hl dX5_pass_27 dX5_pass_30 dX5_pass_31 dX5_pass_33 dX5_pass_36 htb (Nat.le_of_ble_eq_true rfl) (Nat.le_of_ble_eq_true rfl) (Nat.le_of_ble_eq_true rfl) (Nat.le_of_ble_eq_true rfl) hlocks (Nat.le_of_ble_eq_true rfl) (Nat.le_of_ble_eq_true rfl)
set_option maxRecDepth 100000 in
set_option maxHeartbeats 4000000 in
theorem ctX5_pass {l : Launch} {D : va_G} {cy : Nat → ClassId} {a : Nat} (hfl : l.stackTraces = false) {x1 : Int32} {M : Mm} {out : Nat × Int32 × Mm} (hf : fX5_pass x1 M = some out) : vx_Met l yX5_pass wsX5_pass rX5_pass (Pre D cy a M [.ref (a + 0), .int x1]) (QIx D cy a out.1 out.2.1 out.2.2) (XT D cy a out.1 out.2.2) 2 12 (Aq a) := by
  refine vx_ofW (cc := cX5_pass) (maxL := 4) (ret := (some .int)) (by decide +kernel) rfl ?_
  intro p e s m args below meth c s₁ B hml htb hv
  obtain ⟨rfl, hw, hK, hZ⟩ := hv
  have hS : va_S (Aq a) s.heap s.heap [] := va_S.rf
  have hl := lv_entry ([.ref (a + 0), .int x1]) (n := 4) (Nat.le_of_ble_eq_true rfl)
  rw [lg_entry_eq]
  generalize (lg_sl ([.ref (a + 0), .int x1]) ++ List.replicate (4 - (lg_sl ([.ref (a + 0), .int x1])).length) Slot.unset).toArray = ls at hl ⊢
  exact bX5_pass_0 B.exec B.bytes B.returns hml (findClass_of_methodNamed B.named) (atoms_spec (ws := wsX5_pass) B.pre) B.notSynchronized hK hZ htb hfl _ _ _ _ _ hw hS hl hf
def rX5_batch : Room := { frames := 7, cells := 2, slots := 12, locals := 113 }
noncomputable def fX5_batch_b30 (x1 : Int32) (x2 : Int32) (M : Mm) : Option (Nat × Int32) := ((fX5_checkRange x2 (0 : Int32) (7 : Int32) M).bind fun o1 => if o1 = 0 then (if ¬ (x1 < 0 ∨ 40 ≤ x1.toNatClampNeg) then (if x2 = (0 : Int32) then ((fX0_inPipe x1.toNatClampNeg M).bind fun o4 => some (0, o4)) else (if x2 = (1 : Int32) then some (0, gi M (33 + x1.toNatClampNeg) 4) else (if x2 = (2 : Int32) then some (0, gi M (33 + x1.toNatClampNeg) 5) else (if x2 = (3 : Int32) then some (0, gi M (33 + x1.toNatClampNeg) 6) else (if x2 = (4 : Int32) then some (0, gi M (33 + x1.toNatClampNeg) 7) else (if x2 = (5 : Int32) then ((fX0_waiting x1.toNatClampNeg M).bind fun o10 => some (0, o10)) else (if x2 = (6 : Int32) then ((fX5_mixOf x1.toNatClampNeg M).bind fun o12 => some (0, o12)) else ((gr M (33 + x1.toNatClampNeg) 1).bind fun j13 => (if j13 < 6 then some (0, gi M (27 + j13) 0) else none))))))))) else none) else some (o1, 0))
noncomputable def fX5_batch (x1 : Int32) (x2 : Int32) (M : Mm) : Option (Nat × Int32) := ((fX5_checkIndex x1 (gi M 0 9) M).bind fun o1 => if o1 = 0 then (if x1 = 0 then (if (gi M 0 10) = 0 then some (3, 0) else fX5_batch_b30 x1 x2 M) else fX5_batch_b30 x1 x2 M) else some (o1, 0))
set_option maxRecDepth 20000 in
theorem iX5_batch_X0 : ∀ w ∈ wsX00, w ∈ wsX5_batch := by decide +kernel
set_option maxRecDepth 20000 in
theorem iX5_batch_X1 : ∀ w ∈ wsX10, w ∈ wsX5_batch := by decide +kernel
set_option maxRecDepth 20000 in
theorem iX5_batch_X5 : ∀ w ∈ wsX50, w ∈ wsX5_batch := by decide +kernel
set_option maxRecDepth 20000 in
theorem kX5_batch_0 : Cond.fieldLink RX5 23 "BatchPipe" "batches" "[LBatchPipe$Batch;" ∈ wsX5_batch := by decide +kernel
set_option maxRecDepth 20000 in
theorem kX5_batch_1 : Cond.initialized RX0 ∈ wsX5_batch := by decide +kernel
set_option maxRecDepth 20000 in
theorem kX5_batch_2 : Cond.instanceMethod yX0_inPipe ∈ wsX5_batch := by decide +kernel
set_option maxRecDepth 20000 in
theorem kX5_batch_3 : Cond.selects RX0 yX0_inPipe yX0_inPipe ∈ wsX5_batch := by decide +kernel
set_option maxRecDepth 20000 in
theorem kX5_batch_4 : Cond.instanceMethod yX0_waiting ∈ wsX5_batch := by decide +kernel
set_option maxRecDepth 20000 in
theorem kX5_batch_5 : Cond.selects RX0 yX0_waiting yX0_waiting ∈ wsX5_batch := by decide +kernel
set_option maxRecDepth 20000 in
theorem kX5_batch_6 : Cond.fieldLink RX5 50 "BatchPipe" "batchCount" "I" ∈ wsX5_batch := by decide +kernel
set_option maxRecDepth 20000 in
theorem kX5_batch_7 : Cond.fieldLink RX5 73 "BatchPipe" "isOpen" "Z" ∈ wsX5_batch := by decide +kernel
set_option maxRecDepth 20000 in
theorem kX5_batch_8 : Cond.classLink RX5 144 "java/lang/IndexOutOfBoundsException" ∈ wsX5_batch := by decide +kernel
set_option maxRecDepth 20000 in
theorem kX5_batch_9 : Cond.initialized "java/lang/IndexOutOfBoundsException" ∈ wsX5_batch := by decide +kernel
set_option maxRecDepth 20000 in
theorem xX5_batch_3 : ∀ w ∈ (vx_atS RX5 148 (exN 3) ["java/lang/RuntimeException", "java/lang/Exception"]).filter goodWord, w ∈ wsX5_batch := by decide +kernel
set_option maxRecDepth 100000 in
set_option maxHeartbeats 4000000 in
theorem bX5_batch_30 {p : Program} {l : Launch} {e : Env} {s : State} {m : MethodId} {args : Array Value} {below : List Frame} {meth : Method} {c : Code} {D : va_G} {cy : Nat → ClassId} {a : Nat} (hx : p.tables.exec = Jvm.exec) (hb : c.code = cX5_batch) (hr : meth.sig.returnType = (some .int)) (hml : c.maxLocals = 4) (hown : s.vm.findClass RX5 = some m.cls) (hts : ∀ w ∈ wsX5_batch, w.before args s = true) (hlocks : meth.locks = false) (hK : KS D cy s) (hZ : ZZ a s s.heap) (htb : ∀ x ∈ c.exceptionTable.toList, False) (hfl : l.stackTraces = false) {out : Nat × Int32} : ∀ (x1 : Int32) (x2 : Int32) (M : Mm) (H : Heap) (locs : List Loc) (ls : Array Slot), HP D cy a M H → va_S (Aq a) s.heap H locs → lv_has ls 4 [(0, .ref (a + 0)), (1, .int x1), (2, .int x2)] → fX5_batch_b30 x1 x2 M = some out → W p l e rX5_batch s m args below meth c H locs 1 6 (vx_MQ below (QIx D cy a out.1 out.2 M) (XT D cy a out.1 M) args s 2 12 (Aq a)) (F0 m 30 ls []) := by
  intro x1 x2 M H locs ls hw hS hl hf
  unfold fX5_batch_b30 at hf
  refine lv_aload_n hx hb dX5_batch_30 rfl (lv_at hl 0 rfl) ?_
  refine lv_iload_n hx hb dX5_batch_31 rfl (lv_at hl 2 rfl) ?_
  refine lv_iconst (v := (0 : Int32)) hx hb dX5_batch_32 (by decide) ?_
  refine lv_bipush (v := (7 : Int32)) hx hb dX5_batch_33 (by decide) ?_
  obtain ⟨o1, ho1, hf⟩ := ob hf
  refine rxCallV (vx_runV (As := [.int x2, .int (0 : Int32), .int (7 : Int32)]) (rest := []) ⟨hx, hb, hml, hown, hts⟩ (ctX5_checkRange (l := l) (D := D) (cy := cy) (a := a) hfl ho1) (cwV 3 hts gX5_batch_X5_checkRange rfl rfl rfl (by decide +kernel) ⟨Nat.le_of_ble_eq_true rfl, Nat.le_of_ble_eq_true rfl⟩) (pV hK hZ hw hS (rRecv hK hw (Nat.le_of_ble_eq_true rfl) en_pipe rfl)) rfl rfl hl.1 rfl (lv_room (Nat.le_of_ble_eq_true rfl)) dX5_batch_35 ⟨Nat.le_of_ble_eq_true rfl, Nat.le_of_ble_eq_true rfl⟩) hS (fun ce q9 H locs hn hw hS h1 h2 h3 => ?_) (fun H locs hn hw hS => ?_)
  · have hf := iq hn hf
    obtain rfl := Option.some.inj hf
    exact rOut htb hlocks hn hw hS h1 h2 h3 (Nat.le_of_ble_eq_true rfl) (Nat.le_of_ble_eq_true rfl)
  · have hf := ip hn hf
    refine lv_aload_n hx hb dX5_batch_38 rfl (lv_at hl 0 rfl) ?_
    refine rGet hx hb hts iX5_batch_X5 hown hK hw (Nat.le_of_ble_eq_true rfl) en_pipe rfl 2 (by decide) (hts _ kX5_batch_0) rfl rfl dX5_batch_39 ?_
    refine lv_iload_n hx hb dX5_batch_42 rfl (lv_at hl 1 rfl) ?_
    obtain ⟨hg2, hf⟩ := og hf
    refine rAald hx hb hK hw (k := 3) (Nat.le_of_ble_eq_true rfl) 4 en_bats rfl hg2 dX5_batch_43 ?_
    refine lv_astore_n (lv' := [(3, .ref (a + (33 + x1.toNatClampNeg))), (0, .ref (a + 0)), (1, .int x1), (2, .int x2)]) hx hb dX5_batch_44 rfl hl (Nat.le_of_ble_eq_true rfl) rfl (fun ls hl => ?_)
    refine lv_iload_n hx hb dX5_batch_45 rfl (lv_at hl 3 rfl) ?_
    by_cases c3 : x2 = (0 : Int32)
    · have hf := ip c3 hf
      refine lv_tableIn (off := 42) (tgt := 88) hx hb dX5_batch_46 (by rw [c3]; decide) (by rw [c3]; decide) (by rw [c3]; rfl) (by decide) ?_
      refine lv_aload_n hx hb dX5_batch_88 rfl (lv_at hl 0 rfl) ?_
      obtain ⟨o4, ho4, hf⟩ := ob hf
      refine rCallI (va_runVN (As := []) (rest := []) ⟨hx, hb, hml, hown, hts⟩ (ctX0_inPipe (l := l) (D := D) (cy := cy) (a := a) ho4) ⟨va_cnB 0 hts gX5_batch_X0_inPipe_n149 rfl rfl rfl (hK.2.2.1 _ nwM_149) (hts _ kX5_batch_1) (by decide +kernel) ⟨Nat.le_of_ble_eq_true rfl, Nat.le_of_ble_eq_true rfl⟩, (hts _ kX5_batch_2), (hts _ kX5_batch_3)⟩ (pV hK hZ hw hS (rRecv hK hw (kbat (vi hg2)) (en_bat (vi hg2)) rfl)) rfl rfl hl.1 rfl (lv_room (Nat.le_of_ble_eq_true rfl)) dX5_batch_89 ⟨Nat.le_of_ble_eq_true rfl, Nat.le_of_ble_eq_true rfl⟩) hS (fun H locs hw hS => ?_)
      obtain rfl := Option.some.inj hf
      exact rxIret hx hb hr hlocks hw hS dX5_batch_92
    · have hf := iq c3 hf
      by_cases c5 : x2 = (1 : Int32)
      · have hf := ip c5 hf
        refine lv_tableIn (off := 47) (tgt := 93) hx hb dX5_batch_46 (by rw [c5]; decide) (by rw [c5]; decide) (by rw [c5]; rfl) (by decide) ?_
        refine lv_aload_n hx hb dX5_batch_93 rfl (lv_at hl 0 rfl) ?_
        refine rGetNI hx hb hts iX5_batch_X0 hown hK hw (kbat (vi hg2)) (en_bat (vi hg2)) rfl 4 (by decide) nwF_111 rfl ge0_4 dX5_batch_94 ?_
        obtain rfl := Option.some.inj hf
        exact rxIret hx hb hr hlocks hw hS dX5_batch_97
      · have hf := iq c5 hf
        by_cases c6 : x2 = (2 : Int32)
        · have hf := ip c6 hf
          refine lv_tableIn (off := 52) (tgt := 98) hx hb dX5_batch_46 (by rw [c6]; decide) (by rw [c6]; decide) (by rw [c6]; rfl) (by decide) ?_
          refine lv_aload_n hx hb dX5_batch_98 rfl (lv_at hl 0 rfl) ?_
          refine rGetNI hx hb hts iX5_batch_X0 hown hK hw (kbat (vi hg2)) (en_bat (vi hg2)) rfl 5 (by decide) nwF_152 rfl ge0_5 dX5_batch_99 ?_
          obtain rfl := Option.some.inj hf
          exact rxIret hx hb hr hlocks hw hS dX5_batch_102
        · have hf := iq c6 hf
          by_cases c7 : x2 = (3 : Int32)
          · have hf := ip c7 hf
            refine lv_tableIn (off := 57) (tgt := 103) hx hb dX5_batch_46 (by rw [c7]; decide) (by rw [c7]; decide) (by rw [c7]; rfl) (by decide) ?_
            refine lv_aload_n hx hb dX5_batch_103 rfl (lv_at hl 0 rfl) ?_
            refine rGetNI hx hb hts iX5_batch_X0 hown hK hw (kbat (vi hg2)) (en_bat (vi hg2)) rfl 6 (by decide) nwF_155 rfl ge0_6 dX5_batch_104 ?_
            obtain rfl := Option.some.inj hf
            exact rxIret hx hb hr hlocks hw hS dX5_batch_107
          · have hf := iq c7 hf
            by_cases c8 : x2 = (4 : Int32)
            · have hf := ip c8 hf
              refine lv_tableIn (off := 62) (tgt := 108) hx hb dX5_batch_46 (by rw [c8]; decide) (by rw [c8]; decide) (by rw [c8]; rfl) (by decide) ?_
              refine lv_aload_n hx hb dX5_batch_108 rfl (lv_at hl 0 rfl) ?_
              refine rGetNI hx hb hts iX5_batch_X0 hown hK hw (kbat (vi hg2)) (en_bat (vi hg2)) rfl 7 (by decide) nwF_158 rfl ge0_7 dX5_batch_109 ?_
              obtain rfl := Option.some.inj hf
              exact rxIret hx hb hr hlocks hw hS dX5_batch_112
            · have hf := iq c8 hf
              by_cases c9 : x2 = (5 : Int32)
              · have hf := ip c9 hf
                refine lv_tableIn (off := 67) (tgt := 113) hx hb dX5_batch_46 (by rw [c9]; decide) (by rw [c9]; decide) (by rw [c9]; rfl) (by decide) ?_
                refine lv_aload_n hx hb dX5_batch_113 rfl (lv_at hl 0 rfl) ?_
                obtain ⟨o10, ho10, hf⟩ := ob hf
                refine rCallI (va_runVN (As := []) (rest := []) ⟨hx, hb, hml, hown, hts⟩ (ctX0_waiting (l := l) (D := D) (cy := cy) (a := a) ho10) ⟨va_cnB 0 hts gX5_batch_X0_waiting_n161 rfl rfl rfl (hK.2.2.1 _ nwM_161) (hts _ kX5_batch_1) (by decide +kernel) ⟨Nat.le_of_ble_eq_true rfl, Nat.le_of_ble_eq_true rfl⟩, (hts _ kX5_batch_4), (hts _ kX5_batch_5)⟩ (pV hK hZ hw hS (rRecv hK hw (kbat (vi hg2)) (en_bat (vi hg2)) rfl)) rfl rfl hl.1 rfl (lv_room (Nat.le_of_ble_eq_true rfl)) dX5_batch_114 ⟨Nat.le_of_ble_eq_true rfl, Nat.le_of_ble_eq_true rfl⟩) hS (fun H locs hw hS => ?_)
                obtain rfl := Option.some.inj hf
                exact rxIret hx hb hr hlocks hw hS dX5_batch_117
              · have hf := iq c9 hf
                by_cases c11 : x2 = (6 : Int32)
                · have hf := ip c11 hf
                  refine lv_tableIn (off := 72) (tgt := 118) hx hb dX5_batch_46 (by rw [c11]; decide) (by rw [c11]; decide) (by rw [c11]; rfl) (by decide) ?_
                  refine lv_aload_n hx hb dX5_batch_118 rfl (lv_at hl 1 rfl) ?_
                  refine lv_aload_n hx hb dX5_batch_119 rfl (lv_at hl 0 rfl) ?_
                  obtain ⟨o12, ho12, hf⟩ := ob hf
                  refine rCallI (va_runV (As := [.ref (a + (33 + x1.toNatClampNeg))]) (rest := []) ⟨hx, hb, hml, hown, hts⟩ (ctX5_mixOf (l := l) (D := D) (cy := cy) (a := a) ho12) (cwV 1 hts gX5_batch_X5_mixOf rfl rfl rfl (by decide +kernel) ⟨Nat.le_of_ble_eq_true rfl, Nat.le_of_ble_eq_true rfl⟩) (pV hK hZ hw hS (rRecv hK hw (Nat.le_of_ble_eq_true rfl) en_pipe rfl)) rfl rfl hl.1 rfl (lv_room (Nat.le_of_ble_eq_true rfl)) dX5_batch_120 ⟨Nat.le_of_ble_eq_true rfl, Nat.le_of_ble_eq_true rfl⟩) hS (fun H locs hw hS => ?_)
                  obtain rfl := Option.some.inj hf
                  exact rxIret hx hb hr hlocks hw hS dX5_batch_123
                · have hf := iq c11 hf
                  refine lv_tableOut (tgt := 124) hx hb dX5_batch_46 (swout0_6 c3 c5 c6 c7 c8 c9 c11) (by decide) ?_
                  refine lv_aload_n hx hb dX5_batch_124 rfl (lv_at hl 0 rfl) ?_
                  refine rGetNR hx hb hts iX5_batch_X0 hown hK hw (kbat (vi hg2)) (en_bat (vi hg2)) rfl 1 (by decide) nwF_168 rfl (base := 27) ge0_1 dX5_batch_125 ?_
                  obtain ⟨j13, ej13, hf⟩ := ob hf
                  refine rDer ej13 ?_
                  obtain ⟨hi14, hf⟩ := og hf
                  refine rGetNI hx hb hts iX5_batch_X1 hown hK hw (kprod hi14) (en_prod hi14) rfl 0 (by decide) nwF_172 rfl ge1_0 dX5_batch_128 ?_
                  obtain rfl := Option.some.inj hf
                  exact rxIret hx hb hr hlocks hw hS dX5_batch_131
set_option maxRecDepth 100000 in
set_option maxHeartbeats 4000000 in
theorem bX5_batch_0 {p : Program} {l : Launch} {e : Env} {s : State} {m : MethodId} {args : Array Value} {below : List Frame} {meth : Method} {c : Code} {D : va_G} {cy : Nat → ClassId} {a : Nat} (hx : p.tables.exec = Jvm.exec) (hb : c.code = cX5_batch) (hr : meth.sig.returnType = (some .int)) (hml : c.maxLocals = 4) (hown : s.vm.findClass RX5 = some m.cls) (hts : ∀ w ∈ wsX5_batch, w.before args s = true) (hlocks : meth.locks = false) (hK : KS D cy s) (hZ : ZZ a s s.heap) (htb : ∀ x ∈ c.exceptionTable.toList, False) (hfl : l.stackTraces = false) {out : Nat × Int32} : ∀ (x1 : Int32) (x2 : Int32) (M : Mm) (H : Heap) (locs : List Loc) (ls : Array Slot), HP D cy a M H → va_S (Aq a) s.heap H locs → lv_has ls 4 [(0, .ref (a + 0)), (1, .int x1), (2, .int x2)] → fX5_batch x1 x2 M = some out → W p l e rX5_batch s m args below meth c H locs 0 0 (vx_MQ below (QIx D cy a out.1 out.2 M) (XT D cy a out.1 M) args s 2 12 (Aq a)) (F0 m 0 ls []) := by
  intro x1 x2 M H locs ls hw hS hl hf
  unfold fX5_batch at hf
  refine lv_aload_n hx hb dX5_batch_0 rfl (lv_at hl 0 rfl) ?_
  refine lv_iload_n hx hb dX5_batch_1 rfl (lv_at hl 1 rfl) ?_
  refine lv_aload_n hx hb dX5_batch_2 rfl (lv_at hl 0 rfl) ?_
  refine rGetI hx hb hts iX5_batch_X5 hown hK hw (Nat.le_of_ble_eq_true rfl) en_pipe rfl 9 (by decide) (hts _ kX5_batch_6) rfl ge5_9 dX5_batch_3 ?_
  obtain ⟨o1, ho1, hf⟩ := ob hf
  refine rxCallV (vx_runV (As := [.int x1, .int (gi M 0 9)]) (rest := []) ⟨hx, hb, hml, hown, hts⟩ (ctX5_checkIndex (l := l) (D := D) (cy := cy) (a := a) hfl ho1) (cwV 2 hts gX5_batch_X5_checkIndex rfl rfl rfl (by decide +kernel) ⟨Nat.le_of_ble_eq_true rfl, Nat.le_of_ble_eq_true rfl⟩) (pV hK hZ hw hS (rRecv hK hw (Nat.le_of_ble_eq_true rfl) en_pipe rfl)) rfl rfl hl.1 rfl (lv_room (Nat.le_of_ble_eq_true rfl)) dX5_batch_6 ⟨Nat.le_of_ble_eq_true rfl, Nat.le_of_ble_eq_true rfl⟩) hS (fun ce q9 H locs hn hw hS h1 h2 h3 => ?_) (fun H locs hn hw hS => ?_)
  · have hf := iq hn hf
    obtain rfl := Option.some.inj hf
    exact rOut htb hlocks hn hw hS h1 h2 h3 (Nat.le_of_ble_eq_true rfl) (Nat.le_of_ble_eq_true rfl)
  · have hf := ip hn hf
    refine lv_iload_n hx hb dX5_batch_9 rfl (lv_at hl 1 rfl) ?_
    refine lv_if_ne (tgt := 30) hx hb dX5_batch_10 (by decide) (fun c2 => ?_) (fun c2 => ?_)
    · have hf := iq c2 hf
      exact bX5_batch_30 hx hb hr hml hown hts hlocks hK hZ htb hfl _ _ _ _ _ _ hw hS (lv_sub hl [0, 1, 2] rfl) hf
    · have hf := ip c2 hf
      refine lv_aload_n hx hb dX5_batch_13 rfl (lv_at hl 0 rfl) ?_
      refine rGetI hx hb hts iX5_batch_X5 hown hK hw (Nat.le_of_ble_eq_true rfl) en_pipe rfl 10 (by decide) (hts _ kX5_batch_7) rfl ge5_10 dX5_batch_14 ?_
      refine lv_if_ne (tgt := 30) hx hb dX5_batch_17 (by decide) (fun c3 => ?_) (fun c3 => ?_)
      · have hf := iq c3 hf
        exact bX5_batch_30 hx hb hr hml hown hts hlocks hK hZ htb hfl _ _ _ _ _ _ hw hS (lv_sub hl [0, 1, 2] rfl) hf
      · have hf := ip c3 hf
        obtain rfl := Option.some.inj hf
        exact rThrow hx hb hfl 3 (by decide) (by decide +kernel) hts hown hK hZ hw hS kX5_batch_8 kX5_batch_9 nwS_146 xX5_batch_3 xbad_3_148 xgood_3_148_144 hml hl dX5_batch_20 dX5_batch_23 dX5_batch_24 dX5_batch_26 dX5_batch_29 htb (Nat.le_of_ble_eq_true rfl) (Nat.le_of_ble_eq_true rfl) (Nat.le_of_ble_eq_true rfl) (Nat.le_of_ble_eq_true rfl) hlocks (Nat.le_of_ble_eq_true rfl) (Nat.le_of_ble_eq_true rfl)
set_option maxRecDepth 100000 in
set_option maxHeartbeats 4000000 in
theorem ctX5_batch {l : Launch} {D : va_G} {cy : Nat → ClassId} {a : Nat} (hfl : l.stackTraces = false) {x1 : Int32} {x2 : Int32} {M : Mm} {out : Nat × Int32} (hf : fX5_batch x1 x2 M = some out) : vx_Met l yX5_batch wsX5_batch rX5_batch (Pre D cy a M [.ref (a + 0), .int x1, .int x2]) (QIx D cy a out.1 out.2 M) (XT D cy a out.1 M) 2 12 (Aq a) := by
  refine vx_ofW (cc := cX5_batch) (maxL := 4) (ret := (some .int)) (by decide +kernel) rfl ?_
  intro p e s m args below meth c s₁ B hml htb hv
  obtain ⟨rfl, hw, hK, hZ⟩ := hv
  have hS : va_S (Aq a) s.heap s.heap [] := va_S.rf
  have hl := lv_entry ([.ref (a + 0), .int x1, .int x2]) (n := 4) (Nat.le_of_ble_eq_true rfl)
  rw [lg_entry_eq]
  generalize (lg_sl ([.ref (a + 0), .int x1, .int x2]) ++ List.replicate (4 - (lg_sl ([.ref (a + 0), .int x1, .int x2])).length) Slot.unset).toArray = ls at hl ⊢
  exact bX5_batch_0 B.exec B.bytes B.returns hml (findClass_of_methodNamed B.named) (atoms_spec (ws := wsX5_batch) B.pre) B.notSynchronized hK hZ htb hfl _ _ _ _ _ _ hw hS hl hf
def rX5_checkUnit : Room := { frames := 6, cells := 1, slots := 6, locals := 90 }
noncomputable def fX5_checkUnit (x1 : Int32) (M : Mm) : Option (Nat) := (if 0 ≤ x1 then some (0) else some (3))
set_option maxRecDepth 20000 in
theorem kX5_checkUnit_0 : Cond.classLink RX5 144 "java/lang/IndexOutOfBoundsException" ∈ wsX5_checkUnit := by decide +kernel
set_option maxRecDepth 20000 in
theorem kX5_checkUnit_1 : Cond.initialized "java/lang/IndexOutOfBoundsException" ∈ wsX5_checkUnit := by decide +kernel
set_option maxRecDepth 20000 in
theorem xX5_checkUnit_3 : ∀ w ∈ (vx_atS RX5 148 (exN 3) ["java/lang/RuntimeException", "java/lang/Exception"]).filter goodWord, w ∈ wsX5_checkUnit := by decide +kernel
set_option maxRecDepth 100000 in
set_option maxHeartbeats 4000000 in
theorem bX5_checkUnit_0 {p : Program} {l : Launch} {e : Env} {s : State} {m : MethodId} {args : Array Value} {below : List Frame} {meth : Method} {c : Code} {D : va_G} {cy : Nat → ClassId} {a : Nat} (hx : p.tables.exec = Jvm.exec) (hb : c.code = cX5_checkUnit) (hr : meth.sig.returnType = none) (hml : c.maxLocals = 2) (hown : s.vm.findClass RX5 = some m.cls) (hts : ∀ w ∈ wsX5_checkUnit, w.before args s = true) (hlocks : meth.locks = false) (hK : KS D cy s) (hZ : ZZ a s s.heap) (htb : ∀ x ∈ c.exceptionTable.toList, False) (hfl : l.stackTraces = false) {out : Nat} : ∀ (x1 : Int32) (M : Mm) (H : Heap) (locs : List Loc) (ls : Array Slot), HP D cy a M H → va_S (Aq a) s.heap H locs → lv_has ls 2 [(0, .ref (a + 0)), (1, .int x1)] → fX5_checkUnit x1 M = some out → W p l e rX5_checkUnit s m args below meth c H locs 0 0 (vx_MQ below (QVx D cy a out M) (XT D cy a out M) args s 1 6 (Aq a)) (F0 m 0 ls []) := by
  intro x1 M H locs ls hw hS hl hf
  unfold fX5_checkUnit at hf
  refine lv_iload_n hx hb dX5_checkUnit_0 rfl (lv_at hl 1 rfl) ?_
  refine lv_if_ge (tgt := 14) hx hb dX5_checkUnit_1 (by decide) (fun c1 => ?_) (fun c1 => ?_)
  · have hf := ip c1 hf
    obtain rfl := Option.some.inj hf
    refine W.widen (k := 1) (n := 6) (Nat.le_of_ble_eq_true rfl) (Nat.le_of_ble_eq_true rfl) ?_
    exact rxVret hx hb hr hlocks hw hS dX5_checkUnit_14
  · have hf := iq c1 hf
    obtain rfl := Option.some.inj hf
    exact rThrow hx hb hfl 3 (by decide) (by decide +kernel) hts hown hK hZ hw hS kX5_checkUnit_0 kX5_checkUnit_1 nwS_241 xX5_checkUnit_3 xbad_3_148 xgood_3_148_144 hml hl dX5_checkUnit_4 dX5_checkUnit_7 dX5_checkUnit_8 dX5_checkUnit_10 dX5_checkUnit_13 htb (Nat.le_of_ble_eq_true rfl) (Nat.le_of_ble_eq_true rfl) (Nat.le_of_ble_eq_true rfl) (Nat.le_of_ble_eq_true rfl) hlocks (Nat.le_of_ble_eq_true rfl) (Nat.le_of_ble_eq_true rfl)
set_option maxRecDepth 100000 in
set_option maxHeartbeats 4000000 in
theorem ctX5_checkUnit {l : Launch} {D : va_G} {cy : Nat → ClassId} {a : Nat} (hfl : l.stackTraces = false) {x1 : Int32} {M : Mm} {out : Nat} (hf : fX5_checkUnit x1 M = some out) : vx_Met l yX5_checkUnit wsX5_checkUnit rX5_checkUnit (Pre D cy a M [.ref (a + 0), .int x1]) (QVx D cy a out M) (XT D cy a out M) 1 6 (Aq a) := by
  refine vx_ofW (cc := cX5_checkUnit) (maxL := 2) (ret := none) (by decide +kernel) rfl ?_
  intro p e s m args below meth c s₁ B hml htb hv
  obtain ⟨rfl, hw, hK, hZ⟩ := hv
  have hS : va_S (Aq a) s.heap s.heap [] := va_S.rf
  have hl := lv_entry ([.ref (a + 0), .int x1]) (n := 2) (Nat.le_of_ble_eq_true rfl)
  rw [lg_entry_eq]
  generalize (lg_sl ([.ref (a + 0), .int x1]) ++ List.replicate (2 - (lg_sl ([.ref (a + 0), .int x1])).length) Slot.unset).toArray = ls at hl ⊢
  exact bX5_checkUnit_0 B.exec B.bytes B.returns hml (findClass_of_methodNamed B.named) (atoms_spec (ws := wsX5_checkUnit) B.pre) B.notSynchronized hK hZ htb hfl _ _ _ _ _ hw hS hl hf
def rX5_unit : Room := { frames := 7, cells := 1, slots := 6, locals := 111 }
noncomputable def fX5_unit_L25 : Nat → Int32 → Int32 → Mm → Option (Nat × Int32)
  | 0 => fun _ _ _ => none
  | n + 1 => fun x2 x3 M => (if x3 < 0 then some (0, (-1 : Int32)) else (if ¬ (x3 < 0 ∨ 6 ≤ x3.toNatClampNeg) then (if (gi M (9 + 3 * x3.toNatClampNeg) 3) ≤ x2 then (if ¬ (x3 < 0 ∨ 6 ≤ x3.toNatClampNeg) then (fX5_unit_L25 n) (x2 - (gi M (9 + 3 * x3.toNatClampNeg) 3)) (x3 + (-1 : Int32)) M else none) else (if ¬ (x3 < 0 ∨ 6 ≤ x3.toNatClampNeg) then ((fX2_fromEnd x3.toNatClampNeg x2 M).bind fun o6 => ((fX5_batchOf o6 M).bind fun o7 => (o7.bind fun j8 => (if j8 < 40 then some (0, gi M (33 + j8) 0) else none)))) else none)) else none))
noncomputable def fX5_unit (x1 : Int32) (M : Mm) : Option (Nat × Int32) := ((fX5_checkUnit x1 M).bind fun o1 => if o1 = 0 then (if (gi M 0 10) = 0 then fX5_unit_L25 400 x1 (-1 : Int32) M else fX5_unit_L25 400 x1 ((gi M 0 8) - (1 : Int32)) M) else some (o1, 0))
set_option maxRecDepth 20000 in
theorem iX5_unit_X0 : ∀ w ∈ wsX00, w ∈ wsX5_unit := by decide +kernel
set_option maxRecDepth 20000 in
theorem iX5_unit_X2 : ∀ w ∈ wsX20, w ∈ wsX5_unit := by decide +kernel
set_option maxRecDepth 20000 in
theorem iX5_unit_X5 : ∀ w ∈ wsX50, w ∈ wsX5_unit := by decide +kernel
set_option maxRecDepth 20000 in
theorem kX5_unit_0 : Cond.fieldLink RX5 11 "BatchPipe" "segments" "[LBatchPipe$Segment;" ∈ wsX5_unit := by decide +kernel
set_option maxRecDepth 20000 in
theorem kX5_unit_1 : Cond.initialized RX2 ∈ wsX5_unit := by decide +kernel
set_option maxRecDepth 20000 in
theorem kX5_unit_2 : Cond.instanceMethod yX2_fromEnd ∈ wsX5_unit := by decide +kernel
set_option maxRecDepth 20000 in
theorem kX5_unit_3 : Cond.selects RX2 yX2_fromEnd yX2_fromEnd ∈ wsX5_unit := by decide +kernel
set_option maxRecDepth 20000 in
theorem kX5_unit_4 : Cond.fieldLink RX5 73 "BatchPipe" "isOpen" "Z" ∈ wsX5_unit := by decide +kernel
set_option maxRecDepth 20000 in
theorem kX5_unit_5 : Cond.fieldLink RX5 77 "BatchPipe" "segmentCount" "I" ∈ wsX5_unit := by decide +kernel
set_option maxRecDepth 100000 in
set_option maxHeartbeats 4000000 in
theorem bX5_unit_25 {p : Program} {l : Launch} {e : Env} {s : State} {m : MethodId} {args : Array Value} {below : List Frame} {meth : Method} {c : Code} {D : va_G} {cy : Nat → ClassId} {a : Nat} (hx : p.tables.exec = Jvm.exec) (hb : c.code = cX5_unit) (hr : meth.sig.returnType = (some .int)) (hml : c.maxLocals = 4) (hown : s.vm.findClass RX5 = some m.cls) (hts : ∀ w ∈ wsX5_unit, w.before args s = true) (hlocks : meth.locks = false) (hK : KS D cy s) (hZ : ZZ a s s.heap) (htb : ∀ x ∈ c.exceptionTable.toList, False) (hfl : l.stackTraces = false) {out : Nat × Int32} : ∀ (n : Nat), ∀ (x2 : Int32) (x3 : Int32) (M : Mm) (H : Heap) (locs : List Loc) (ls : Array Slot), HP D cy a M H → va_S (Aq a) s.heap H locs → lv_has ls 4 [(0, .ref (a + 0)), (2, .int x2), (3, .int x3)] → fX5_unit_L25 n x2 x3 M = some out → W p l e rX5_unit s m args below meth c H locs 1 6 (vx_MQ below (QIx D cy a out.1 out.2 M) (XT D cy a out.1 M) args s 1 6 (Aq a)) (F0 m 25 ls []) := by
  intro n
  induction n with
  | zero =>
    intro x2 x3 M H locs ls hw hS hl hf
    have hf : (none : Option (Nat × Int32)) = some out := hf
    cases hf
  | succ n ih =>
    intro x2 x3 M H locs ls hw hS hl hf
    unfold fX5_unit_L25 at hf
    refine lv_iload_n hx hb dX5_unit_25 rfl (lv_at hl 2 rfl) ?_
    refine lv_if_lt (tgt := 78) hx hb dX5_unit_26 (by decide) (fun c1 => ?_) (fun c1 => ?_)
    · have hf := ip c1 hf
      refine lv_iconst (v := (-1 : Int32)) hx hb dX5_unit_78 (by decide) ?_
      obtain rfl := Option.some.inj hf
      exact rxIret hx hb hr hlocks hw hS dX5_unit_79
    · have hf := iq c1 hf
      refine lv_iload_n hx hb dX5_unit_29 rfl (lv_at hl 1 rfl) ?_
      refine lv_aload_n hx hb dX5_unit_30 rfl (lv_at hl 0 rfl) ?_
      refine rGet hx hb hts iX5_unit_X5 hown hK hw (Nat.le_of_ble_eq_true rfl) en_pipe rfl 0 (by decide) (hts _ kX5_unit_0) rfl rfl dX5_unit_31 ?_
      refine lv_iload_n hx hb dX5_unit_34 rfl (lv_at hl 2 rfl) ?_
      obtain ⟨hg2, hf⟩ := og hf
      refine rAald hx hb hK hw (k := 1) (Nat.le_of_ble_eq_true rfl) 2 en_segs rfl hg2 dX5_unit_35 ?_
      refine rGetNI hx hb hts iX5_unit_X2 hown hK hw (kseg (vi hg2)) (en_seg (vi hg2)) rfl 3 (by decide) nwF_178 rfl ge2_3 dX5_unit_36 ?_
      refine lv_icmp_ge (tgt := 60) hx hb dX5_unit_39 (by decide) (fun c3 => ?_) (fun c3 => ?_)
      · have hf := ip c3 hf
        refine lv_iload_n hx hb dX5_unit_60 rfl (lv_at hl 1 rfl) ?_
        refine lv_aload_n hx hb dX5_unit_61 rfl (lv_at hl 0 rfl) ?_
        refine rGet hx hb hts iX5_unit_X5 hown hK hw (Nat.le_of_ble_eq_true rfl) en_pipe rfl 0 (by decide) (hts _ kX5_unit_0) rfl rfl dX5_unit_62 ?_
        refine lv_iload_n hx hb dX5_unit_65 rfl (lv_at hl 2 rfl) ?_
        obtain ⟨hg4, hf⟩ := og hf
        refine rAald hx hb hK hw (k := 1) (Nat.le_of_ble_eq_true rfl) 2 en_segs rfl hg4 dX5_unit_66 ?_
        refine rGetNI hx hb hts iX5_unit_X2 hown hK hw (kseg (vi hg4)) (en_seg (vi hg4)) rfl 3 (by decide) nwF_178 rfl ge2_3 dX5_unit_67 ?_
        refine lv_isub hx hb dX5_unit_70 ?_
        refine lv_istore_n (lv' := [(2, .int (x2 - (gi M (9 + 3 * x3.toNatClampNeg) 3))), (0, .ref (a + 0)), (3, .int x3)]) hx hb dX5_unit_71 rfl hl (Nat.le_of_ble_eq_true rfl) rfl (fun ls hl => ?_)
        refine lv_iinc (v := x3 + (-1 : Int32)) (lv' := [(3, .int (x3 + (-1 : Int32))), (2, .int (x2 - (gi M (9 + 3 * x3.toNatClampNeg) 3))), (0, .ref (a + 0))]) hx hb dX5_unit_72 hl (k := 2) rfl rfl (Nat.le_of_ble_eq_true rfl) rfl (fun ls hl => ?_)
        refine lv_goto (tgt := 25) hx hb dX5_unit_75 (by decide) ?_
        exact ih _ _ _ _ _ _ hw hS (lv_sub hl [2, 1, 0] rfl) hf
      · have hf := iq c3 hf
        refine lv_aload_n hx hb dX5_unit_42 rfl (lv_at hl 0 rfl) ?_
        refine lv_aload_n hx hb dX5_unit_43 rfl (lv_at hl 0 rfl) ?_
        refine rGet hx hb hts iX5_unit_X5 hown hK hw (Nat.le_of_ble_eq_true rfl) en_pipe rfl 0 (by decide) (hts _ kX5_unit_0) rfl rfl dX5_unit_44 ?_
        refine lv_iload_n hx hb dX5_unit_47 rfl (lv_at hl 2 rfl) ?_
        obtain ⟨hg5, hf⟩ := og hf
        refine rAald hx hb hK hw (k := 1) (Nat.le_of_ble_eq_true rfl) 2 en_segs rfl hg5 dX5_unit_48 ?_
        refine lv_iload_n hx hb dX5_unit_49 rfl (lv_at hl 1 rfl) ?_
        obtain ⟨o6, ho6, hf⟩ := ob hf
        refine rCallI (va_runVN (As := [.int x2]) (rest := [.ref (a + 0)]) ⟨hx, hb, hml, hown, hts⟩ (ctX2_fromEnd (l := l) (D := D) (cy := cy) (a := a) ho6) ⟨va_cnB 1 hts gX5_unit_X2_fromEnd_n181 rfl rfl rfl (hK.2.2.1 _ nwM_181) (hts _ kX5_unit_1) (by decide +kernel) ⟨Nat.le_of_ble_eq_true rfl, Nat.le_of_ble_eq_true rfl⟩, (hts _ kX5_unit_2), (hts _ kX5_unit_3)⟩ (pV hK hZ hw hS (rRecv hK hw (kseg (vi hg5)) (en_seg (vi hg5)) rfl)) rfl rfl hl.1 rfl (lv_room (Nat.le_of_ble_eq_true rfl)) dX5_unit_50 ⟨Nat.le_of_ble_eq_true rfl, Nat.le_of_ble_eq_true rfl⟩) hS (fun H locs hw hS => ?_)
        obtain ⟨o7, ho7, hf⟩ := ob hf
        refine rCallR (va_runV (As := [.int o6]) (rest := []) ⟨hx, hb, hml, hown, hts⟩ (ctX5_batchOf (l := l) (D := D) (cy := cy) (a := a) ho7) (cwV 1 hts gX5_unit_X5_batchOf rfl rfl rfl (by decide +kernel) ⟨Nat.le_of_ble_eq_true rfl, Nat.le_of_ble_eq_true rfl⟩) (pV hK hZ hw hS (rRecv hK hw (Nat.le_of_ble_eq_true rfl) en_pipe rfl)) rfl rfl hl.1 rfl (lv_room (Nat.le_of_ble_eq_true rfl)) dX5_unit_53 ⟨Nat.le_of_ble_eq_true rfl, Nat.le_of_ble_eq_true rfl⟩) hS (fun H locs hw hS => ?_)
        obtain ⟨j8, ej8, hf⟩ := ob hf
        refine rDer ej8 ?_
        obtain ⟨hi9, hf⟩ := og hf
        refine rGetNI hx hb hts iX5_unit_X0 hown hK hw (kbat hi9) (en_bat hi9) rfl 0 (by decide) nwF_188 rfl ge0_0 dX5_unit_56 ?_
        obtain rfl := Option.some.inj hf
        exact rxIret hx hb hr hlocks hw hS dX5_unit_59
set_option maxRecDepth 100000 in
set_option maxHeartbeats 4000000 in
theorem bX5_unit_0 {p : Program} {l : Launch} {e : Env} {s : State} {m : MethodId} {args : Array Value} {below : List Frame} {meth : Method} {c : Code} {D : va_G} {cy : Nat → ClassId} {a : Nat} (hx : p.tables.exec = Jvm.exec) (hb : c.code = cX5_unit) (hr : meth.sig.returnType = (some .int)) (hml : c.maxLocals = 4) (hown : s.vm.findClass RX5 = some m.cls) (hts : ∀ w ∈ wsX5_unit, w.before args s = true) (hlocks : meth.locks = false) (hK : KS D cy s) (hZ : ZZ a s s.heap) (htb : ∀ x ∈ c.exceptionTable.toList, False) (hfl : l.stackTraces = false) {out : Nat × Int32} : ∀ (x1 : Int32) (M : Mm) (H : Heap) (locs : List Loc) (ls : Array Slot), HP D cy a M H → va_S (Aq a) s.heap H locs → lv_has ls 4 [(0, .ref (a + 0)), (1, .int x1)] → fX5_unit x1 M = some out → W p l e rX5_unit s m args below meth c H locs 0 0 (vx_MQ below (QIx D cy a out.1 out.2 M) (XT D cy a out.1 M) args s 1 6 (Aq a)) (F0 m 0 ls []) := by
  intro x1 M H locs ls hw hS hl hf
  unfold fX5_unit at hf
  refine lv_aload_n hx hb dX5_unit_0 rfl (lv_at hl 0 rfl) ?_
  refine lv_iload_n hx hb dX5_unit_1 rfl (lv_at hl 1 rfl) ?_
  obtain ⟨o1, ho1, hf⟩ := ob hf
  refine rxCallV (vx_runV (As := [.int x1]) (rest := []) ⟨hx, hb, hml, hown, hts⟩ (ctX5_checkUnit (l := l) (D := D) (cy := cy) (a := a) hfl ho1) (cwV 1 hts gX5_unit_X5_checkUnit rfl rfl rfl (by decide +kernel) ⟨Nat.le_of_ble_eq_true rfl, Nat.le_of_ble_eq_true rfl⟩) (pV hK hZ hw hS (rRecv hK hw (Nat.le_of_ble_eq_true rfl) en_pipe rfl)) rfl rfl hl.1 rfl (lv_room (Nat.le_of_ble_eq_true rfl)) dX5_unit_2 ⟨Nat.le_of_ble_eq_true rfl, Nat.le_of_ble_eq_true rfl⟩) hS (fun ce q9 H locs hn hw hS h1 h2 h3 => ?_) (fun H locs hn hw hS => ?_)
  · have hf := iq hn hf
    obtain rfl := Option.some.inj hf
    exact rOut htb hlocks hn hw hS h1 h2 h3 (Nat.le_of_ble_eq_true rfl) (Nat.le_of_ble_eq_true rfl)
  · have hf := ip hn hf
    refine lv_iload_n hx hb dX5_unit_5 rfl (lv_at hl 1 rfl) ?_
    refine lv_istore_n (lv' := [(2, .int x1), (0, .ref (a + 0)), (1, .int x1)]) hx hb dX5_unit_6 rfl hl (Nat.le_of_ble_eq_true rfl) rfl (fun ls hl => ?_)
    refine lv_aload_n hx hb dX5_unit_7 rfl (lv_at hl 1 rfl) ?_
    refine rGetI hx hb hts iX5_unit_X5 hown hK hw (Nat.le_of_ble_eq_true rfl) en_pipe rfl 10 (by decide) (hts _ kX5_unit_4) rfl ge5_10 dX5_unit_8 ?_
    refine lv_if_eq (tgt := 23) hx hb dX5_unit_11 (by decide) (fun c2 => ?_) (fun c2 => ?_)
    · have hf := ip c2 hf
      refine lv_iconst (v := (-1 : Int32)) hx hb dX5_unit_23 (by decide) ?_
      refine lv_istore_n (lv' := [(3, .int (-1 : Int32)), (2, .int x1), (0, .ref (a + 0)), (1, .int x1)]) hx hb dX5_unit_24 rfl hl (Nat.le_of_ble_eq_true rfl) rfl (fun ls hl => ?_)
      exact bX5_unit_25 hx hb hr hml hown hts hlocks hK hZ htb hfl 400 _ _ _ _ _ _ hw hS (lv_sub hl [2, 1, 0] rfl) hf
    · have hf := iq c2 hf
      refine lv_aload_n hx hb dX5_unit_14 rfl (lv_at hl 1 rfl) ?_
      refine rGetI hx hb hts iX5_unit_X5 hown hK hw (Nat.le_of_ble_eq_true rfl) en_pipe rfl 8 (by decide) (hts _ kX5_unit_5) rfl ge5_8 dX5_unit_15 ?_
      refine lv_iconst (v := (1 : Int32)) hx hb dX5_unit_18 (by decide) ?_
      refine lv_isub hx hb dX5_unit_19 ?_
      refine lv_goto (tgt := 24) hx hb dX5_unit_20 (by decide) ?_
      refine lv_istore_n (lv' := [(3, .int ((gi M 0 8) - (1 : Int32))), (2, .int x1), (0, .ref (a + 0)), (1, .int x1)]) hx hb dX5_unit_24 rfl hl (Nat.le_of_ble_eq_true rfl) rfl (fun ls hl => ?_)
      exact bX5_unit_25 hx hb hr hml hown hts hlocks hK hZ htb hfl 400 _ _ _ _ _ _ hw hS (lv_sub hl [2, 1, 0] rfl) hf
set_option maxRecDepth 100000 in
set_option maxHeartbeats 4000000 in
theorem ctX5_unit {l : Launch} {D : va_G} {cy : Nat → ClassId} {a : Nat} (hfl : l.stackTraces = false) {x1 : Int32} {M : Mm} {out : Nat × Int32} (hf : fX5_unit x1 M = some out) : vx_Met l yX5_unit wsX5_unit rX5_unit (Pre D cy a M [.ref (a + 0), .int x1]) (QIx D cy a out.1 out.2 M) (XT D cy a out.1 M) 1 6 (Aq a) := by
  refine vx_ofW (cc := cX5_unit) (maxL := 4) (ret := (some .int)) (by decide +kernel) rfl ?_
  intro p e s m args below meth c s₁ B hml htb hv
  obtain ⟨rfl, hw, hK, hZ⟩ := hv
  have hS : va_S (Aq a) s.heap s.heap [] := va_S.rf
  have hl := lv_entry ([.ref (a + 0), .int x1]) (n := 4) (Nat.le_of_ble_eq_true rfl)
  rw [lg_entry_eq]
  generalize (lg_sl ([.ref (a + 0), .int x1]) ++ List.replicate (4 - (lg_sl ([.ref (a + 0), .int x1])).length) Slot.unset).toArray = ls at hl ⊢
  exact bX5_unit_0 B.exec B.bytes B.returns hml (findClass_of_methodNamed B.named) (atoms_spec (ws := wsX5_unit) B.pre) B.notSynchronized hK hZ htb hfl _ _ _ _ _ hw hS hl hf
def rX5_unitAnew : Room := { frames := 7, cells := 1, slots := 6, locals := 111 }
noncomputable def fX5_unitAnew_L25 : Nat → Int32 → (Option Nat) → Mm → Option (Nat × Int32)
  | 0 => fun _ _ _ => none
  | n + 1 => fun x2 n3 M => (if n3 = none then some (0, (-1 : Int32)) else n3.bind fun j2 => (if j2 < 40 then ((fX0_inPipe j2 M).bind fun o4 => (if o4 ≤ x2 then ((fX0_inPipe j2 M).bind fun o6 => (fX5_unitAnew_L25 n) (x2 - o6) (gr M (33 + j2) 9) M) else some (0, gi M (33 + j2) 0))) else none))
noncomputable def fX5_unitAnew (x1 : Int32) (M : Mm) : Option (Nat × Int32) := ((fX5_checkUnit x1 M).bind fun o1 => if o1 = 0 then (if (gi M 0 10) = 0 then fX5_unitAnew_L25 400 x1 none M else (if ¬ ((0 : Int32) < 0 ∨ 40 ≤ (0 : Int32).toNatClampNeg) then fX5_unitAnew_L25 400 x1 (some ((0 : Int32).toNatClampNeg)) M else none)) else some (o1, 0))
set_option maxRecDepth 20000 in
theorem iX5_unitAnew_X0 : ∀ w ∈ wsX00, w ∈ wsX5_unitAnew := by decide +kernel
set_option maxRecDepth 20000 in
theorem iX5_unitAnew_X5 : ∀ w ∈ wsX50, w ∈ wsX5_unitAnew := by decide +kernel
set_option maxRecDepth 20000 in
theorem kX5_unitAnew_0 : Cond.initialized RX0 ∈ wsX5_unitAnew := by decide +kernel
set_option maxRecDepth 20000 in
theorem kX5_unitAnew_1 : Cond.instanceMethod yX0_inPipe ∈ wsX5_unitAnew := by decide +kernel
set_option maxRecDepth 20000 in
theorem kX5_unitAnew_2 : Cond.selects RX0 yX0_inPipe yX0_inPipe ∈ wsX5_unitAnew := by decide +kernel
set_option maxRecDepth 20000 in
theorem kX5_unitAnew_3 : Cond.fieldLink RX5 73 "BatchPipe" "isOpen" "Z" ∈ wsX5_unitAnew := by decide +kernel
set_option maxRecDepth 20000 in
theorem kX5_unitAnew_4 : Cond.fieldLink RX5 23 "BatchPipe" "batches" "[LBatchPipe$Batch;" ∈ wsX5_unitAnew := by decide +kernel
set_option maxRecDepth 100000 in
set_option maxHeartbeats 4000000 in
theorem bX5_unitAnew_25 {p : Program} {l : Launch} {e : Env} {s : State} {m : MethodId} {args : Array Value} {below : List Frame} {meth : Method} {c : Code} {D : va_G} {cy : Nat → ClassId} {a : Nat} (hx : p.tables.exec = Jvm.exec) (hb : c.code = cX5_unitAnew) (hr : meth.sig.returnType = (some .int)) (hml : c.maxLocals = 4) (hown : s.vm.findClass RX5 = some m.cls) (hts : ∀ w ∈ wsX5_unitAnew, w.before args s = true) (hlocks : meth.locks = false) (hK : KS D cy s) (hZ : ZZ a s s.heap) (htb : ∀ x ∈ c.exceptionTable.toList, False) (hfl : l.stackTraces = false) {out : Nat × Int32} : ∀ (n : Nat), ∀ (x2 : Int32) (n3 : Option Nat) (M : Mm) (H : Heap) (locs : List Loc) (ls : Array Slot), HP D cy a M H → va_S (Aq a) s.heap H locs → lv_has ls 4 [(2, .int x2), (3, rfo a 33 n3)] → fX5_unitAnew_L25 n x2 n3 M = some out → W p l e rX5_unitAnew s m args below meth c H locs 1 6 (vx_MQ below (QIx D cy a out.1 out.2 M) (XT D cy a out.1 M) args s 1 6 (Aq a)) (F0 m 25 ls []) := by
  intro n
  induction n with
  | zero =>
    intro x2 n3 M H locs ls hw hS hl hf
    have hf : (none : Option (Nat × Int32)) = some out := hf
    cases hf
  | succ n ih =>
    intro x2 n3 M H locs ls hw hS hl hf
    unfold fX5_unitAnew_L25 at hf
    refine rAloadQ_n hx hb dX5_unitAnew_25 rfl (lv_at hl 1 rfl) ?_
    refine rNull (tgt := 57) hx hb dX5_unitAnew_26 (by decide) (fun c1 => ?_) (fun c1 => ?_)
    · have hf := ip c1 hf
      refine lv_iconst (v := (-1 : Int32)) hx hb dX5_unitAnew_57 (by decide) ?_
      obtain rfl := Option.some.inj hf
      exact rxIret hx hb hr hlocks hw hS dX5_unitAnew_58
    · have hf := iq c1 hf
      obtain ⟨j2, ej2, hf⟩ := ob hf
      refine lv_iload_n hx hb dX5_unitAnew_29 rfl (lv_at hl 0 rfl) ?_
      refine rAloadQ_n hx hb dX5_unitAnew_30 rfl (lv_at hl 1 rfl) ?_
      refine rDer ej2 ?_
      obtain ⟨hi3, hf⟩ := og hf
      obtain ⟨o4, ho4, hf⟩ := ob hf
      refine rCallI (va_runVN (As := []) (rest := [.int x2]) ⟨hx, hb, hml, hown, hts⟩ (ctX0_inPipe (l := l) (D := D) (cy := cy) (a := a) ho4) ⟨va_cnB 0 hts gX5_unitAnew_X0_inPipe_n149 rfl rfl rfl (hK.2.2.1 _ nwM_149) (hts _ kX5_unitAnew_0) (by decide +kernel) ⟨Nat.le_of_ble_eq_true rfl, Nat.le_of_ble_eq_true rfl⟩, (hts _ kX5_unitAnew_1), (hts _ kX5_unitAnew_2)⟩ (pV hK hZ hw hS (rRecv hK hw (kbat hi3) (en_bat hi3) rfl)) rfl rfl hl.1 rfl (lv_room (Nat.le_of_ble_eq_true rfl)) dX5_unitAnew_31 ⟨Nat.le_of_ble_eq_true rfl, Nat.le_of_ble_eq_true rfl⟩) hS (fun H locs hw hS => ?_)
      refine lv_icmp_ge (tgt := 42) hx hb dX5_unitAnew_34 (by decide) (fun c5 => ?_) (fun c5 => ?_)
      · have hf := ip c5 hf
        refine lv_iload_n hx hb dX5_unitAnew_42 rfl (lv_at hl 0 rfl) ?_
        refine rAloadQ_n hx hb dX5_unitAnew_43 rfl (lv_at hl 1 rfl) ?_
        refine rDer ej2 ?_
        obtain ⟨o6, ho6, hf⟩ := ob hf
        refine rCallI (va_runVN (As := []) (rest := [.int x2]) ⟨hx, hb, hml, hown, hts⟩ (ctX0_inPipe (l := l) (D := D) (cy := cy) (a := a) ho6) ⟨va_cnB 0 hts gX5_unitAnew_X0_inPipe_n149 rfl rfl rfl (hK.2.2.1 _ nwM_149) (hts _ kX5_unitAnew_0) (by decide +kernel) ⟨Nat.le_of_ble_eq_true rfl, Nat.le_of_ble_eq_true rfl⟩, (hts _ kX5_unitAnew_1), (hts _ kX5_unitAnew_2)⟩ (pV hK hZ hw hS (rRecv hK hw (kbat hi3) (en_bat hi3) rfl)) rfl rfl hl.1 rfl (lv_room (Nat.le_of_ble_eq_true rfl)) dX5_unitAnew_44 ⟨Nat.le_of_ble_eq_true rfl, Nat.le_of_ble_eq_true rfl⟩) hS (fun H locs hw hS => ?_)
        refine lv_isub hx hb dX5_unitAnew_47 ?_
        refine lv_istore_n (lv' := [(2, .int (x2 - o6)), (3, rfo a 33 n3)]) hx hb dX5_unitAnew_48 rfl hl (Nat.le_of_ble_eq_true rfl) rfl (fun ls hl => ?_)
        refine rAloadQ_n hx hb dX5_unitAnew_49 rfl (lv_at hl 1 rfl) ?_
        refine rDer ej2 ?_
        refine rGetNR hx hb hts iX5_unitAnew_X0 hown hK hw (kbat hi3) (en_bat hi3) rfl 9 (by decide) nwF_189 rfl (base := 33) ge0_9 dX5_unitAnew_50 ?_
        refine rAstoreQ_n (lv' := [(3, rfo a 33 (gr M (33 + j2) 9)), (2, .int (x2 - o6))]) hx hb dX5_unitAnew_53 rfl hl (Nat.le_of_ble_eq_true rfl) rfl (fun ls hl => ?_)
        refine lv_goto (tgt := 25) hx hb dX5_unitAnew_54 (by decide) ?_
        exact ih _ _ _ _ _ _ hw hS (lv_sub hl [1, 0] rfl) hf
      · have hf := iq c5 hf
        refine rAloadQ_n hx hb dX5_unitAnew_37 rfl (lv_at hl 1 rfl) ?_
        refine rDer ej2 ?_
        refine rGetNI hx hb hts iX5_unitAnew_X0 hown hK hw (kbat hi3) (en_bat hi3) rfl 0 (by decide) nwF_188 rfl ge0_0 dX5_unitAnew_38 ?_
        obtain rfl := Option.some.inj hf
        exact rxIret hx hb hr hlocks hw hS dX5_unitAnew_41
set_option maxRecDepth 100000 in
set_option maxHeartbeats 4000000 in
theorem bX5_unitAnew_0 {p : Program} {l : Launch} {e : Env} {s : State} {m : MethodId} {args : Array Value} {below : List Frame} {meth : Method} {c : Code} {D : va_G} {cy : Nat → ClassId} {a : Nat} (hx : p.tables.exec = Jvm.exec) (hb : c.code = cX5_unitAnew) (hr : meth.sig.returnType = (some .int)) (hml : c.maxLocals = 4) (hown : s.vm.findClass RX5 = some m.cls) (hts : ∀ w ∈ wsX5_unitAnew, w.before args s = true) (hlocks : meth.locks = false) (hK : KS D cy s) (hZ : ZZ a s s.heap) (htb : ∀ x ∈ c.exceptionTable.toList, False) (hfl : l.stackTraces = false) {out : Nat × Int32} : ∀ (x1 : Int32) (M : Mm) (H : Heap) (locs : List Loc) (ls : Array Slot), HP D cy a M H → va_S (Aq a) s.heap H locs → lv_has ls 4 [(0, .ref (a + 0)), (1, .int x1)] → fX5_unitAnew x1 M = some out → W p l e rX5_unitAnew s m args below meth c H locs 0 0 (vx_MQ below (QIx D cy a out.1 out.2 M) (XT D cy a out.1 M) args s 1 6 (Aq a)) (F0 m 0 ls []) := by
  intro x1 M H locs ls hw hS hl hf
  unfold fX5_unitAnew at hf
  refine lv_aload_n hx hb dX5_unitAnew_0 rfl (lv_at hl 0 rfl) ?_
  refine lv_iload_n hx hb dX5_unitAnew_1 rfl (lv_at hl 1 rfl) ?_
  obtain ⟨o1, ho1, hf⟩ := ob hf
  refine rxCallV (vx_runV (As := [.int x1]) (rest := []) ⟨hx, hb, hml, hown, hts⟩ (ctX5_checkUnit (l := l) (D := D) (cy := cy) (a := a) hfl ho1) (cwV 1 hts gX5_unitAnew_X5_checkUnit rfl rfl rfl (by decide +kernel) ⟨Nat.le_of_ble_eq_true rfl, Nat.le_of_ble_eq_true rfl⟩) (pV hK hZ hw hS (rRecv hK hw (Nat.le_of_ble_eq_true rfl) en_pipe rfl)) rfl rfl hl.1 rfl (lv_room (Nat.le_of_ble_eq_true rfl)) dX5_unitAnew_2 ⟨Nat.le_of_ble_eq_true rfl, Nat.le_of_ble_eq_true rfl⟩) hS (fun ce q9 H locs hn hw hS h1 h2 h3 => ?_) (fun H locs hn hw hS => ?_)
  · have hf := iq hn hf
    obtain rfl := Option.some.inj hf
    exact rOut htb hlocks hn hw hS h1 h2 h3 (Nat.le_of_ble_eq_true rfl) (Nat.le_of_ble_eq_true rfl)
  · have hf := ip hn hf
    refine lv_iload_n hx hb dX5_unitAnew_5 rfl (lv_at hl 1 rfl) ?_
    refine lv_istore_n (lv' := [(2, .int x1), (0, .ref (a + 0)), (1, .int x1)]) hx hb dX5_unitAnew_6 rfl hl (Nat.le_of_ble_eq_true rfl) rfl (fun ls hl => ?_)
    refine lv_aload_n hx hb dX5_unitAnew_7 rfl (lv_at hl 1 rfl) ?_
    refine rGetI hx hb hts iX5_unitAnew_X5 hown hK hw (Nat.le_of_ble_eq_true rfl) en_pipe rfl 10 (by decide) (hts _ kX5_unitAnew_3) rfl ge5_10 dX5_unitAnew_8 ?_
    refine lv_if_eq (tgt := 23) hx hb dX5_unitAnew_11 (by decide) (fun c2 => ?_) (fun c2 => ?_)
    · have hf := ip c2 hf
      refine lv_null hx hb dX5_unitAnew_23 ?_
      refine lv_astore_nN (lv' := [(3, .null), (2, .int x1), (0, .ref (a + 0)), (1, .int x1)]) hx hb dX5_unitAnew_24 rfl hl (Nat.le_of_ble_eq_true rfl) rfl (fun ls hl => ?_)
      exact bX5_unitAnew_25 hx hb hr hml hown hts hlocks hK hZ htb hfl 400 _ _ _ _ _ _ hw hS (lv_sub hl [1, 0] rfl) hf
    · have hf := iq c2 hf
      refine lv_aload_n hx hb dX5_unitAnew_14 rfl (lv_at hl 1 rfl) ?_
      refine rGet hx hb hts iX5_unitAnew_X5 hown hK hw (Nat.le_of_ble_eq_true rfl) en_pipe rfl 2 (by decide) (hts _ kX5_unitAnew_4) rfl rfl dX5_unitAnew_15 ?_
      refine lv_iconst (v := (0 : Int32)) hx hb dX5_unitAnew_18 (by decide) ?_
      obtain ⟨hg3, hf⟩ := og hf
      refine rAald hx hb hK hw (k := 3) (Nat.le_of_ble_eq_true rfl) 4 en_bats rfl hg3 dX5_unitAnew_19 ?_
      refine lv_goto (tgt := 24) hx hb dX5_unitAnew_20 (by decide) ?_
      refine lv_astore_n (lv' := [(3, .ref (a + (33 + ((0 : Int32).toNatClampNeg)))), (2, .int x1), (0, .ref (a + 0)), (1, .int x1)]) hx hb dX5_unitAnew_24 rfl hl (Nat.le_of_ble_eq_true rfl) rfl (fun ls hl => ?_)
      exact bX5_unitAnew_25 hx hb hr hml hown hts hlocks hK hZ htb hfl 400 _ _ _ _ _ _ hw hS (lv_sub hl [1, 0] rfl) hf
set_option maxRecDepth 100000 in
set_option maxHeartbeats 4000000 in
theorem ctX5_unitAnew {l : Launch} {D : va_G} {cy : Nat → ClassId} {a : Nat} (hfl : l.stackTraces = false) {x1 : Int32} {M : Mm} {out : Nat × Int32} (hf : fX5_unitAnew x1 M = some out) : vx_Met l yX5_unitAnew wsX5_unitAnew rX5_unitAnew (Pre D cy a M [.ref (a + 0), .int x1]) (QIx D cy a out.1 out.2 M) (XT D cy a out.1 M) 1 6 (Aq a) := by
  refine vx_ofW (cc := cX5_unitAnew) (maxL := 4) (ret := (some .int)) (by decide +kernel) rfl ?_
  intro p e s m args below meth c s₁ B hml htb hv
  obtain ⟨rfl, hw, hK, hZ⟩ := hv
  have hS : va_S (Aq a) s.heap s.heap [] := va_S.rf
  have hl := lv_entry ([.ref (a + 0), .int x1]) (n := 4) (Nat.le_of_ble_eq_true rfl)
  rw [lg_entry_eq]
  generalize (lg_sl ([.ref (a + 0), .int x1]) ++ List.replicate (4 - (lg_sl ([.ref (a + 0), .int x1])).length) Slot.unset).toArray = ls at hl ⊢
  exact bX5_unitAnew_0 B.exec B.bytes B.returns hml (findClass_of_methodNamed B.named) (atoms_spec (ws := wsX5_unitAnew) B.pre) B.notSynchronized hK hZ htb hfl _ _ _ _ _ hw hS hl hf
def rX5_pressure : Room := { frames := 7, cells := 3, slots := 18, locals := 113 }
noncomputable def fX5_pressure_L48 : Nat → Int32 → Int32 → Int32 → Int32 → Mm → Option (Nat × Int32)
  | 0 => fun _ _ _ _ _ => none
  | n + 1 => fun x1 x2 x3 x4 M => (if (gi M 0 8) ≤ x4 then ((fX5_atBeginning x1 x3 M).bind fun o2 => some (0, o2)) else (if ¬ (x4 < 0 ∨ 6 ≤ x4.toNatClampNeg) then ((fX5_friction x4.toNatClampNeg x2 M).bind fun o4 => (fX5_pressure_L48 n) x1 x2 (x3 + o4) (x4 + (1 : Int32)) M) else none))
noncomputable def fX5_pressure (x1 : Int32) (x2 : Int32) (M : Mm) : Option (Nat × Int32) := ((fX5_checkIndex x1 (gi M 0 8) M).bind fun o1 => if o1 = 0 then ((fX5_checkRange x2 (0 : Int32) (10 : Int32) M).bind fun o2 => if o2 = 0 then (if (gi M 0 10) = 0 then some (2, 0) else ((fX5_headAt ((gi M 0 8) - (1 : Int32)) M).bind fun o4 => fX5_pressure_L48 400 x1 x2 o4 x1 M)) else some (o2, 0)) else some (o1, 0))
set_option maxRecDepth 20000 in
theorem iX5_pressure_X5 : ∀ w ∈ wsX50, w ∈ wsX5_pressure := by decide +kernel
set_option maxRecDepth 20000 in
theorem kX5_pressure_0 : Cond.fieldLink RX5 77 "BatchPipe" "segmentCount" "I" ∈ wsX5_pressure := by decide +kernel
set_option maxRecDepth 20000 in
theorem kX5_pressure_1 : Cond.fieldLink RX5 11 "BatchPipe" "segments" "[LBatchPipe$Segment;" ∈ wsX5_pressure := by decide +kernel
set_option maxRecDepth 20000 in
theorem kX5_pressure_2 : Cond.fieldLink RX5 73 "BatchPipe" "isOpen" "Z" ∈ wsX5_pressure := by decide +kernel
set_option maxRecDepth 20000 in
theorem kX5_pressure_3 : Cond.classLink RX5 80 "java/lang/IllegalStateException" ∈ wsX5_pressure := by decide +kernel
set_option maxRecDepth 20000 in
theorem kX5_pressure_4 : Cond.initialized "java/lang/IllegalStateException" ∈ wsX5_pressure := by decide +kernel
set_option maxRecDepth 20000 in
theorem xX5_pressure_2 : ∀ w ∈ (vx_atS RX5 84 (exN 2) ["java/lang/RuntimeException", "java/lang/Exception"]).filter goodWord, w ∈ wsX5_pressure := by decide +kernel
set_option maxRecDepth 100000 in
set_option maxHeartbeats 4000000 in
theorem bX5_pressure_48 {p : Program} {l : Launch} {e : Env} {s : State} {m : MethodId} {args : Array Value} {below : List Frame} {meth : Method} {c : Code} {D : va_G} {cy : Nat → ClassId} {a : Nat} (hx : p.tables.exec = Jvm.exec) (hb : c.code = cX5_pressure) (hr : meth.sig.returnType = (some .int)) (hml : c.maxLocals = 5) (hown : s.vm.findClass RX5 = some m.cls) (hts : ∀ w ∈ wsX5_pressure, w.before args s = true) (hlocks : meth.locks = false) (hK : KS D cy s) (hZ : ZZ a s s.heap) (htb : ∀ x ∈ c.exceptionTable.toList, False) (hfl : l.stackTraces = false) {out : Nat × Int32} : ∀ (n : Nat), ∀ (x1 : Int32) (x2 : Int32) (x3 : Int32) (x4 : Int32) (M : Mm) (H : Heap) (locs : List Loc) (ls : Array Slot), HP D cy a M H → va_S (Aq a) s.heap H locs → lv_has ls 5 [(0, .ref (a + 0)), (1, .int x1), (2, .int x2), (3, .int x3), (4, .int x4)] → fX5_pressure_L48 n x1 x2 x3 x4 M = some out → W p l e rX5_pressure s m args below meth c H locs 2 12 (vx_MQ below (QIx D cy a out.1 out.2 M) (XT D cy a out.1 M) args s 3 18 (Aq a)) (F0 m 48 ls []) := by
  intro n
  induction n with
  | zero =>
    intro x1 x2 x3 x4 M H locs ls hw hS hl hf
    have hf : (none : Option (Nat × Int32)) = some out := hf
    cases hf
  | succ n ih =>
    intro x1 x2 x3 x4 M H locs ls hw hS hl hf
    unfold fX5_pressure_L48 at hf
    refine lv_iload hx hb dX5_pressure_48 (lv_at hl 4 rfl) ?_
    refine lv_aload_n hx hb dX5_pressure_50 rfl (lv_at hl 0 rfl) ?_
    refine rGetI hx hb hts iX5_pressure_X5 hown hK hw (Nat.le_of_ble_eq_true rfl) en_pipe rfl 8 (by decide) (hts _ kX5_pressure_0) rfl ge5_8 dX5_pressure_51 ?_
    refine lv_icmp_ge (tgt := 78) hx hb dX5_pressure_54 (by decide) (fun c1 => ?_) (fun c1 => ?_)
    · have hf := ip c1 hf
      refine lv_aload_n hx hb dX5_pressure_78 rfl (lv_at hl 0 rfl) ?_
      refine lv_iload_n hx hb dX5_pressure_79 rfl (lv_at hl 1 rfl) ?_
      refine lv_iload_n hx hb dX5_pressure_80 rfl (lv_at hl 3 rfl) ?_
      obtain ⟨o2, ho2, hf⟩ := ob hf
      refine rCallI (va_runV (As := [.int x1, .int x3]) (rest := []) ⟨hx, hb, hml, hown, hts⟩ (ctX5_atBeginning (l := l) (D := D) (cy := cy) (a := a) ho2) (cwV 2 hts gX5_pressure_X5_atBeginning rfl rfl rfl (by decide +kernel) ⟨Nat.le_of_ble_eq_true rfl, Nat.le_of_ble_eq_true rfl⟩) (pV hK hZ hw hS (rRecv hK hw (Nat.le_of_ble_eq_true rfl) en_pipe rfl)) rfl rfl hl.1 rfl (lv_room (Nat.le_of_ble_eq_true rfl)) dX5_pressure_81 ⟨Nat.le_of_ble_eq_true rfl, Nat.le_of_ble_eq_true rfl⟩) hS (fun H locs hw hS => ?_)
      obtain rfl := Option.some.inj hf
      refine W.widen (k := 3) (n := 18) (Nat.le_of_ble_eq_true rfl) (Nat.le_of_ble_eq_true rfl) ?_
      exact rxIret hx hb hr hlocks hw hS dX5_pressure_84
    · have hf := iq c1 hf
      refine lv_iload_n hx hb dX5_pressure_57 rfl (lv_at hl 3 rfl) ?_
      refine lv_aload_n hx hb dX5_pressure_58 rfl (lv_at hl 0 rfl) ?_
      refine lv_aload_n hx hb dX5_pressure_59 rfl (lv_at hl 0 rfl) ?_
      refine rGet hx hb hts iX5_pressure_X5 hown hK hw (Nat.le_of_ble_eq_true rfl) en_pipe rfl 0 (by decide) (hts _ kX5_pressure_1) rfl rfl dX5_pressure_60 ?_
      refine lv_iload hx hb dX5_pressure_63 (lv_at hl 4 rfl) ?_
      obtain ⟨hg3, hf⟩ := og hf
      refine rAald hx hb hK hw (k := 1) (Nat.le_of_ble_eq_true rfl) 2 en_segs rfl hg3 dX5_pressure_65 ?_
      refine lv_iload_n hx hb dX5_pressure_66 rfl (lv_at hl 2 rfl) ?_
      obtain ⟨o4, ho4, hf⟩ := ob hf
      refine rCallI (va_runV (As := [.ref (a + (9 + 3 * x4.toNatClampNeg)), .int x2]) (rest := [.int x3]) ⟨hx, hb, hml, hown, hts⟩ (ctX5_friction (l := l) (D := D) (cy := cy) (a := a) ho4) (cwV 2 hts gX5_pressure_X5_friction rfl rfl rfl (by decide +kernel) ⟨Nat.le_of_ble_eq_true rfl, Nat.le_of_ble_eq_true rfl⟩) (pV hK hZ hw hS (rRecv hK hw (Nat.le_of_ble_eq_true rfl) en_pipe rfl)) rfl rfl hl.1 rfl (lv_room (Nat.le_of_ble_eq_true rfl)) dX5_pressure_67 ⟨Nat.le_of_ble_eq_true rfl, Nat.le_of_ble_eq_true rfl⟩) hS (fun H locs hw hS => ?_)
      refine lv_iadd hx hb dX5_pressure_70 ?_
      refine lv_istore_n (lv' := [(3, .int (x3 + o4)), (0, .ref (a + 0)), (1, .int x1), (2, .int x2), (4, .int x4)]) hx hb dX5_pressure_71 rfl hl (Nat.le_of_ble_eq_true rfl) rfl (fun ls hl => ?_)
      refine lv_iinc (v := x4 + (1 : Int32)) (lv' := [(4, .int (x4 + (1 : Int32))), (3, .int (x3 + o4)), (0, .ref (a + 0)), (1, .int x1), (2, .int x2)]) hx hb dX5_pressure_72 hl (k := 4) rfl rfl (Nat.le_of_ble_eq_true rfl) rfl (fun ls hl => ?_)
      refine lv_goto (tgt := 48) hx hb dX5_pressure_75 (by decide) ?_
      exact ih _ _ _ _ _ _ _ _ hw hS (lv_sub hl [2, 3, 4, 1, 0] rfl) hf
set_option maxRecDepth 100000 in
set_option maxHeartbeats 4000000 in
theorem bX5_pressure_0 {p : Program} {l : Launch} {e : Env} {s : State} {m : MethodId} {args : Array Value} {below : List Frame} {meth : Method} {c : Code} {D : va_G} {cy : Nat → ClassId} {a : Nat} (hx : p.tables.exec = Jvm.exec) (hb : c.code = cX5_pressure) (hr : meth.sig.returnType = (some .int)) (hml : c.maxLocals = 5) (hown : s.vm.findClass RX5 = some m.cls) (hts : ∀ w ∈ wsX5_pressure, w.before args s = true) (hlocks : meth.locks = false) (hK : KS D cy s) (hZ : ZZ a s s.heap) (htb : ∀ x ∈ c.exceptionTable.toList, False) (hfl : l.stackTraces = false) {out : Nat × Int32} : ∀ (x1 : Int32) (x2 : Int32) (M : Mm) (H : Heap) (locs : List Loc) (ls : Array Slot), HP D cy a M H → va_S (Aq a) s.heap H locs → lv_has ls 5 [(0, .ref (a + 0)), (1, .int x1), (2, .int x2)] → fX5_pressure x1 x2 M = some out → W p l e rX5_pressure s m args below meth c H locs 0 0 (vx_MQ below (QIx D cy a out.1 out.2 M) (XT D cy a out.1 M) args s 3 18 (Aq a)) (F0 m 0 ls []) := by
  intro x1 x2 M H locs ls hw hS hl hf
  unfold fX5_pressure at hf
  refine lv_aload_n hx hb dX5_pressure_0 rfl (lv_at hl 0 rfl) ?_
  refine lv_iload_n hx hb dX5_pressure_1 rfl (lv_at hl 1 rfl) ?_
  refine lv_aload_n hx hb dX5_pressure_2 rfl (lv_at hl 0 rfl) ?_
  refine rGetI hx hb hts iX5_pressure_X5 hown hK hw (Nat.le_of_ble_eq_true rfl) en_pipe rfl 8 (by decide) (hts _ kX5_pressure_0) rfl ge5_8 dX5_pressure_3 ?_
  obtain ⟨o1, ho1, hf⟩ := ob hf
  refine rxCallV (vx_runV (As := [.int x1, .int (gi M 0 8)]) (rest := []) ⟨hx, hb, hml, hown, hts⟩ (ctX5_checkIndex (l := l) (D := D) (cy := cy) (a := a) hfl ho1) (cwV 2 hts gX5_pressure_X5_checkIndex rfl rfl rfl (by decide +kernel) ⟨Nat.le_of_ble_eq_true rfl, Nat.le_of_ble_eq_true rfl⟩) (pV hK hZ hw hS (rRecv hK hw (Nat.le_of_ble_eq_true rfl) en_pipe rfl)) rfl rfl hl.1 rfl (lv_room (Nat.le_of_ble_eq_true rfl)) dX5_pressure_6 ⟨Nat.le_of_ble_eq_true rfl, Nat.le_of_ble_eq_true rfl⟩) hS (fun ce q9 H locs hn hw hS h1 h2 h3 => ?_) (fun H locs hn hw hS => ?_)
  · have hf := iq hn hf
    obtain rfl := Option.some.inj hf
    exact rOut htb hlocks hn hw hS h1 h2 h3 (Nat.le_of_ble_eq_true rfl) (Nat.le_of_ble_eq_true rfl)
  · have hf := ip hn hf
    refine lv_aload_n hx hb dX5_pressure_9 rfl (lv_at hl 0 rfl) ?_
    refine lv_iload_n hx hb dX5_pressure_10 rfl (lv_at hl 2 rfl) ?_
    refine lv_iconst (v := (0 : Int32)) hx hb dX5_pressure_11 (by decide) ?_
    refine lv_bipush (v := (10 : Int32)) hx hb dX5_pressure_12 (by decide) ?_
    obtain ⟨o2, ho2, hf⟩ := ob hf
    refine rxCallV (vx_runV (As := [.int x2, .int (0 : Int32), .int (10 : Int32)]) (rest := []) ⟨hx, hb, hml, hown, hts⟩ (ctX5_checkRange (l := l) (D := D) (cy := cy) (a := a) hfl ho2) (cwV 3 hts gX5_pressure_X5_checkRange rfl rfl rfl (by decide +kernel) ⟨Nat.le_of_ble_eq_true rfl, Nat.le_of_ble_eq_true rfl⟩) (pV hK hZ hw hS (rRecv hK hw (Nat.le_of_ble_eq_true rfl) en_pipe rfl)) rfl rfl hl.1 rfl (lv_room (Nat.le_of_ble_eq_true rfl)) dX5_pressure_14 ⟨Nat.le_of_ble_eq_true rfl, Nat.le_of_ble_eq_true rfl⟩) hS (fun ce q9 H locs hn hw hS h1 h2 h3 => ?_) (fun H locs hn hw hS => ?_)
    · have hf := iq hn hf
      obtain rfl := Option.some.inj hf
      exact rOut htb hlocks hn hw hS h1 h2 h3 (Nat.le_of_ble_eq_true rfl) (Nat.le_of_ble_eq_true rfl)
    · have hf := ip hn hf
      refine lv_aload_n hx hb dX5_pressure_17 rfl (lv_at hl 0 rfl) ?_
      refine rGetI hx hb hts iX5_pressure_X5 hown hK hw (Nat.le_of_ble_eq_true rfl) en_pipe rfl 10 (by decide) (hts _ kX5_pressure_2) rfl ge5_10 dX5_pressure_18 ?_
      refine lv_if_ne (tgt := 34) hx hb dX5_pressure_21 (by decide) (fun c3 => ?_) (fun c3 => ?_)
      · have hf := iq c3 hf
        refine lv_aload_n hx hb dX5_pressure_34 rfl (lv_at hl 0 rfl) ?_
        refine lv_aload_n hx hb dX5_pressure_35 rfl (lv_at hl 0 rfl) ?_
        refine rGetI hx hb hts iX5_pressure_X5 hown hK hw (Nat.le_of_ble_eq_true rfl) en_pipe rfl 8 (by decide) (hts _ kX5_pressure_0) rfl ge5_8 dX5_pressure_36 ?_
        refine lv_iconst (v := (1 : Int32)) hx hb dX5_pressure_39 (by decide) ?_
        refine lv_isub hx hb dX5_pressure_40 ?_
        obtain ⟨o4, ho4, hf⟩ := ob hf
        refine rCallI (va_runV (As := [.int ((gi M 0 8) - (1 : Int32))]) (rest := []) ⟨hx, hb, hml, hown, hts⟩ (ctX5_headAt (l := l) (D := D) (cy := cy) (a := a) ho4) (cwV 1 hts gX5_pressure_X5_headAt rfl rfl rfl (by decide +kernel) ⟨Nat.le_of_ble_eq_true rfl, Nat.le_of_ble_eq_true rfl⟩) (pV hK hZ hw hS (rRecv hK hw (Nat.le_of_ble_eq_true rfl) en_pipe rfl)) rfl rfl hl.1 rfl (lv_room (Nat.le_of_ble_eq_true rfl)) dX5_pressure_41 ⟨Nat.le_of_ble_eq_true rfl, Nat.le_of_ble_eq_true rfl⟩) hS (fun H locs hw hS => ?_)
        refine lv_istore_n (lv' := [(3, .int o4), (0, .ref (a + 0)), (1, .int x1), (2, .int x2)]) hx hb dX5_pressure_44 rfl hl (Nat.le_of_ble_eq_true rfl) rfl (fun ls hl => ?_)
        refine lv_iload_n hx hb dX5_pressure_45 rfl (lv_at hl 2 rfl) ?_
        refine lv_istore (lv' := [(4, .int x1), (3, .int o4), (0, .ref (a + 0)), (1, .int x1), (2, .int x2)]) hx hb dX5_pressure_46 hl (Nat.le_of_ble_eq_true rfl) rfl (fun ls hl => ?_)
        exact bX5_pressure_48 hx hb hr hml hown hts hlocks hK hZ htb hfl 400 _ _ _ _ _ _ _ _ hw hS (lv_sub hl [2, 3, 4, 1, 0] rfl) hf
      · have hf := ip c3 hf
        obtain rfl := Option.some.inj hf
        exact rThrow hx hb hfl 2 (by decide) (by decide +kernel) hts hown hK hZ hw hS kX5_pressure_3 kX5_pressure_4 nwS_192 xX5_pressure_2 xbad_2_84 xgood_2_84_80 hml hl dX5_pressure_24 dX5_pressure_27 dX5_pressure_28 dX5_pressure_30 dX5_pressure_33 htb (Nat.le_of_ble_eq_true rfl) (Nat.le_of_ble_eq_true rfl) (Nat.le_of_ble_eq_true rfl) (Nat.le_of_ble_eq_true rfl) hlocks (Nat.le_of_ble_eq_true rfl) (Nat.le_of_ble_eq_true rfl)
set_option maxRecDepth 100000 in
set_option maxHeartbeats 4000000 in
theorem ctX5_pressure {l : Launch} {D : va_G} {cy : Nat → ClassId} {a : Nat} (hfl : l.stackTraces = false) {x1 : Int32} {x2 : Int32} {M : Mm} {out : Nat × Int32} (hf : fX5_pressure x1 x2 M = some out) : vx_Met l yX5_pressure wsX5_pressure rX5_pressure (Pre D cy a M [.ref (a + 0), .int x1, .int x2]) (QIx D cy a out.1 out.2 M) (XT D cy a out.1 M) 3 18 (Aq a) := by
  refine vx_ofW (cc := cX5_pressure) (maxL := 5) (ret := (some .int)) (by decide +kernel) rfl ?_
  intro p e s m args below meth c s₁ B hml htb hv
  obtain ⟨rfl, hw, hK, hZ⟩ := hv
  have hS : va_S (Aq a) s.heap s.heap [] := va_S.rf
  have hl := lv_entry ([.ref (a + 0), .int x1, .int x2]) (n := 5) (Nat.le_of_ble_eq_true rfl)
  rw [lg_entry_eq]
  generalize (lg_sl ([.ref (a + 0), .int x1, .int x2]) ++ List.replicate (5 - (lg_sl ([.ref (a + 0), .int x1, .int x2])).length) Slot.unset).toArray = ls at hl ⊢
  exact bX5_pressure_0 B.exec B.bytes B.returns hml (findClass_of_methodNamed B.named) (atoms_spec (ws := wsX5_pressure) B.pre) B.notSynchronized hK hZ htb hfl _ _ _ _ _ _ hw hS hl hf
