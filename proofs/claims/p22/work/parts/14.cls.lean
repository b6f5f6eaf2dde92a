def rX5_pour : Room := { frames := 2, cells := 0, slots := 0, locals := 44 }
noncomputable def fX5_pour_b50 (i1 : Nat) (x2 : Int32) (i3 : Nat) (x4 : Int32) (x5 : Int32) (M : Mm) : Option (Mm) := (if i1 < 40 then (if (gr M (33 + i1) 9) = none then (if i3 < 4 then ((fX3_take i3 x4 x5 M).bind fun o4 => some (o4)) else none) else (gr M (33 + i1) 9).bind fun j5 => ((fX5_mixOf j5 M).bind fun o6 => (if o6 ≤ ((((gi M (33 + i1) 4) - (1 : Int32)) - x2) * (2 : Int32)) then (if i3 < 4 then ((fX3_take i3 x4 x5 M).bind fun o9 => some (o9)) else none) else (if j5 < 40 then ((gr M (33 + j5) 1).bind fun j11 => (if j11 < 6 then (if i3 < 4 then ((fX3_take i3 (imax x4 (gi M (27 + j11) 3)) (1 : Int32) M).bind fun o14 => some (o14)) else none) else none)) else none)))) else none)
noncomputable def fX5_pour (i1 : Nat) (x2 : Int32) (i3 : Nat) (M : Mm) : Option (Mm) := (if i1 < 40 then ((gr M (33 + i1) 1).bind fun j2 => (if j2 < 6 then (if (gr M (33 + i1) 8) = none then fX5_pour_b50 i1 x2 i3 (gi M (27 + j2) 3) (0 : Int32) M else (gr M (33 + i1) 8).bind fun j5 => ((fX5_mixOf i1 M).bind fun o6 => (if o6 ≤ (x2 * (2 : Int32)) then fX5_pour_b50 i1 x2 i3 (gi M (27 + j2) 3) (0 : Int32) M else (if j5 < 40 then ((gr M (33 + j5) 1).bind fun j9 => (if j9 < 6 then fX5_pour_b50 i1 x2 i3 (imax (gi M (27 + j2) 3) (gi M (27 + j9) 3)) (1 : Int32) M else none)) else none)))) else none)) else none)
set_option maxRecDepth 20000 in
theorem iX5_pour_X0 : ∀ w ∈ wsX00, w ∈ wsX5_pour := by decide +kernel
set_option maxRecDepth 20000 in
theorem iX5_pour_X1 : ∀ w ∈ wsX10, w ∈ wsX5_pour := by decide +kernel
set_option maxRecDepth 20000 in
theorem kX5_pour_0 : Cond.initialized RX3 ∈ wsX5_pour := by decide +kernel
set_option maxRecDepth 20000 in
theorem kX5_pour_1 : Cond.instanceMethod yX3_take ∈ wsX5_pour := by decide +kernel
set_option maxRecDepth 20000 in
theorem kX5_pour_2 : Cond.selects RX3 yX3_take yX3_take ∈ wsX5_pour := by decide +kernel
set_option maxRecDepth 20000 in
theorem kX5_pour_3 : Cond.methodLink RX5 266 Lib.Math.max.name ∈ wsX5_pour := by decide +kernel
set_option maxRecDepth 20000 in
theorem kX5_pour_4 : Cond.static Lib.Math.max.name ∈ wsX5_pour := by decide +kernel
set_option maxRecDepth 20000 in
theorem kX5_pour_5 : Cond.initialized "java/lang/Math" ∈ wsX5_pour := by decide +kernel
set_option maxRecDepth 20000 in
theorem kX5_pour_6 : Cond.code Lib.Math.max.name Lib.Math.max.code 2 (some .int) ∈ wsX5_pour := by decide +kernel
set_option maxRecDepth 100000 in
set_option maxHeartbeats 4000000 in
theorem bX5_pour_50 {p : Program} {l : Launch} {e : Env} {s : State} {m : MethodId} {args : Array Value} {below : List Frame} {meth : Method} {c : Code} {D : va_G} {cy : Nat → ClassId} {a : Nat} (hx : p.tables.exec = Jvm.exec) (hb : c.code = cX5_pour) (hr : meth.sig.returnType = none) (hml : c.maxLocals = 6) (hown : s.vm.findClass RX5 = some m.cls) (hts : ∀ w ∈ wsX5_pour, w.before args s = true) (hlocks : meth.locks = false) (hK : KS D cy s) (hZ : ZZ a s s.heap) {out : Mm} : ∀ (i1 : Nat) (x2 : Int32) (i3 : Nat) (x4 : Int32) (x5 : Int32) (M : Mm) (H : Heap) (locs : List Loc) (ls : Array Slot), HP D cy a M H → va_S (Aq a) s.heap H locs → lv_has ls 6 [(0, .ref (a + 0)), (1, .ref (a + (33 + i1))), (2, .int x2), (3, .ref (a + (73 + i3))), (4, .int x4), (5, .int x5)] → narrow .boolean (.int x5) = .int x5 → fX5_pour_b50 i1 x2 i3 x4 x5 M = some out → W p l e rX5_pour s m args below meth c H locs 0 0 (MQ below (QV D cy a out) args s 0 0 (Aq a)) (F0 m 50 ls []) := by
  intro i1 x2 i3 x4 x5 M H locs ls hw hS hl hb5 hf
  unfold fX5_pour_b50 at hf
  refine lv_aload_n hx hb dX5_pour_50 rfl (lv_at hl 1 rfl) ?_
  obtain ⟨hi1, hf⟩ := og hf
  refine rGetNR hx hb hts iX5_pour_X0 hown hK hw (kbat hi1) (en_bat hi1) rfl 9 (by decide) nwF_189 rfl (base := 33) ge0_9 dX5_pour_51 ?_
  refine rNull (tgt := 98) hx hb dX5_pour_54 (by decide) (fun c2 => ?_) (fun c2 => ?_)
  · have hf := ip c2 hf
    refine lv_aload_n hx hb dX5_pour_98 rfl (lv_at hl 3 rfl) ?_
    refine lv_iload hx hb dX5_pour_99 (lv_at hl 4 rfl) ?_
    refine lv_iload hx hb dX5_pour_101 (lv_at hl 5 rfl) ?_
    obtain ⟨hi3, hf⟩ := og hf
    obtain ⟨o4, ho4, hf⟩ := ob hf
    refine rCallV (va_runVN (As := [.int x4, .int x5]) (rest := []) ⟨hx, hb, hml, hown, hts⟩ (ctX3_take (l := l) (D := D) (cy := cy) (a := a) ho4) ⟨va_cnB 2 hts gX5_pour_X3_take_n339 rfl rfl rfl (hK.2.2.1 _ nwM_339) (hts _ kX5_pour_0) (by decide +kernel) ⟨Nat.le_of_ble_eq_true rfl, Nat.le_of_ble_eq_true rfl⟩, (hts _ kX5_pour_1), (hts _ kX5_pour_2)⟩ (pV hK hZ hw hS (rRecv hK hw (ktank hi3) (en_tank hi3) rfl)) rfl rfl hl.1 rfl (lv_room (Nat.le_of_ble_eq_true rfl)) dX5_pour_103 ⟨Nat.le_of_ble_eq_true rfl, Nat.le_of_ble_eq_true rfl⟩) hS (fun H locs hw hS => ?_)
    obtain rfl := Option.some.inj hf
    exact rVret hx hb hr hlocks hw hS dX5_pour_106
  · have hf := iq c2 hf
    obtain ⟨j5, ej5, hf⟩ := ob hf
    refine lv_aload_n hx hb dX5_pour_57 rfl (lv_at hl 1 rfl) ?_
    refine rGetNI hx hb hts iX5_pour_X0 hown hK hw (kbat hi1) (en_bat hi1) rfl 4 (by decide) nwF_111 rfl ge0_4 dX5_pour_58 ?_
    refine lv_iconst (v := (1 : Int32)) hx hb dX5_pour_61 (by decide) ?_
    refine lv_isub hx hb dX5_pour_62 ?_
    refine lv_iload_n hx hb dX5_pour_63 rfl (lv_at hl 2 rfl) ?_
    refine lv_isub hx hb dX5_pour_64 ?_
    refine lv_iconst (v := (2 : Int32)) hx hb dX5_pour_65 (by decide) ?_
    refine lv_imul hx hb dX5_pour_66 ?_
    refine lv_aload_n hx hb dX5_pour_67 rfl (lv_at hl 0 rfl) ?_
    refine lv_aload_n hx hb dX5_pour_68 rfl (lv_at hl 1 rfl) ?_
    refine rGetNR hx hb hts iX5_pour_X0 hown hK hw (kbat hi1) (en_bat hi1) rfl 9 (by decide) nwF_189 rfl (base := 33) ge0_9 dX5_pour_69 ?_
    refine W.eq (g2 := F0 m 72 ls [.ref (a + (33 + j5)), .ref (a + 0), .int ((((gi M (33 + i1) 4) - (1 : Int32)) - x2) * (2 : Int32))]) (by rw [ej5]; rfl) ?_
    obtain ⟨o6, ho6, hf⟩ := ob hf
    refine rCallI (va_runV (As := [.ref (a + (33 + j5))]) (rest := [.int ((((gi M (33 + i1) 4) - (1 : Int32)) - x2) * (2 : Int32))]) ⟨hx, hb, hml, hown, hts⟩ (ctX5_mixOf (l := l) (D := D) (cy := cy) (a := a) ho6) (cwV 1 hts gX5_pour_X5_mixOf rfl rfl rfl (by decide +kernel) ⟨Nat.le_of_ble_eq_true rfl, Nat.le_of_ble_eq_true rfl⟩) (pV hK hZ hw hS (rRecv hK hw (Nat.le_of_ble_eq_true rfl) en_pipe rfl)) rfl rfl hl.1 rfl (lv_room (Nat.le_of_ble_eq_true rfl)) dX5_pour_72 ⟨Nat.le_of_ble_eq_true rfl, Nat.le_of_ble_eq_true rfl⟩) hS (fun H locs hw hS => ?_)
    refine lv_icmp_ge (tgt := 98) hx hb dX5_pour_75 (by decide) (fun c7 => ?_) (fun c7 => ?_)
    · have hf := ip c7 hf
      refine lv_aload_n hx hb dX5_pour_98 rfl (lv_at hl 3 rfl) ?_
      refine lv_iload hx hb dX5_pour_99 (lv_at hl 4 rfl) ?_
      refine lv_iload hx hb dX5_pour_101 (lv_at hl 5 rfl) ?_
      obtain ⟨hi8, hf⟩ := og hf
      obtain ⟨o9, ho9, hf⟩ := ob hf
      refine rCallV (va_runVN (As := [.int x4, .int x5]) (rest := []) ⟨hx, hb, hml, hown, hts⟩ (ctX3_take (l := l) (D := D) (cy := cy) (a := a) ho9) ⟨va_cnB 2 hts gX5_pour_X3_take_n339 rfl rfl rfl (hK.2.2.1 _ nwM_339) (hts _ kX5_pour_0) (by decide +kernel) ⟨Nat.le_of_ble_eq_true rfl, Nat.le_of_ble_eq_true rfl⟩, (hts _ kX5_pour_1), (hts _ kX5_pour_2)⟩ (pV hK hZ hw hS (rRecv hK hw (ktank hi8) (en_tank hi8) rfl)) rfl rfl hl.1 rfl (lv_room (Nat.le_of_ble_eq_true rfl)) dX5_pour_103 ⟨Nat.le_of_ble_eq_true rfl, Nat.le_of_ble_eq_true rfl⟩) hS (fun H locs hw hS => ?_)
      obtain rfl := Option.some.inj hf
      exact rVret hx hb hr hlocks hw hS dX5_pour_106
    · have hf := iq c7 hf
      refine lv_iconst (v := (1 : Int32)) hx hb dX5_pour_78 (by decide) ?_
      refine lv_istore (lv' := [(5, .int (1 : Int32)), (0, .ref (a + 0)), (1, .ref (a + (33 + i1))), (2, .int x2), (3, .ref (a + (73 + i3))), (4, .int x4)]) hx hb dX5_pour_79 hl (Nat.le_of_ble_eq_true rfl) rfl (fun ls hl => ?_)
      refine lv_iload hx hb dX5_pour_81 (lv_at hl 5 rfl) ?_
      refine lv_aload_n hx hb dX5_pour_83 rfl (lv_at hl 2 rfl) ?_
      refine rGetNR hx hb hts iX5_pour_X0 hown hK hw (kbat hi1) (en_bat hi1) rfl 9 (by decide) nwF_189 rfl (base := 33) ge0_9 dX5_pour_84 ?_
      refine rDer ej5 ?_
      obtain ⟨hi10, hf⟩ := og hf
      refine rGetNR hx hb hts iX5_pour_X0 hown hK hw (kbat hi10) (en_bat hi10) rfl 1 (by decide) nwF_168 rfl (base := 27) ge0_1 dX5_pour_87 ?_
      obtain ⟨j11, ej11, hf⟩ := ob hf
      refine rDer ej11 ?_
      obtain ⟨hi12, hf⟩ := og hf
      refine rGetNI hx hb hts iX5_pour_X1 hown hK hw (kprod hi12) (en_prod hi12) rfl 3 (by decide) nwF_338 rfl ge1_3 dX5_pour_90 ?_
      refine rMax hx hb hml hl hown (hts _ kX5_pour_3) (hts _ kX5_pour_4) (hts _ kX5_pour_5) (hts _ kX5_pour_6) (Nat.le_of_ble_eq_true rfl) (Nat.le_of_ble_eq_true rfl) (Nat.le_of_ble_eq_true rfl) (Nat.le_of_ble_eq_true rfl) dX5_pour_93 ?_
      refine lv_istore (lv' := [(4, .int (imax x4 (gi M (27 + j11) 3))), (5, .int (1 : Int32)), (0, .ref (a + 0)), (1, .ref (a + (33 + i1))), (2, .int x2), (3, .ref (a + (73 + i3)))]) hx hb dX5_pour_96 hl (Nat.le_of_ble_eq_true rfl) rfl (fun ls hl => ?_)
      refine lv_aload_n hx hb dX5_pour_98 rfl (lv_at hl 5 rfl) ?_
      refine lv_iload hx hb dX5_pour_99 (lv_at hl 0 rfl) ?_
      refine lv_iload hx hb dX5_pour_101 (lv_at hl 1 rfl) ?_
      obtain ⟨hi13, hf⟩ := og hf
      obtain ⟨o14, ho14, hf⟩ := ob hf
      refine rCallV (va_runVN (As := [.int (imax x4 (gi M (27 + j11) 3)), .int (1 : Int32)]) (rest := []) ⟨hx, hb, hml, hown, hts⟩ (ctX3_take (l := l) (D := D) (cy := cy) (a := a) ho14) ⟨va_cnB 2 hts gX5_pour_X3_take_n339 rfl rfl rfl (hK.2.2.1 _ nwM_339) (hts _ kX5_pour_0) (by decide +kernel) ⟨Nat.le_of_ble_eq_true rfl, Nat.le_of_ble_eq_true rfl⟩, (hts _ kX5_pour_1), (hts _ kX5_pour_2)⟩ (pV hK hZ hw hS (rRecv hK hw (ktank hi13) (en_tank hi13) rfl)) rfl rfl hl.1 rfl (lv_room (Nat.le_of_ble_eq_true rfl)) dX5_pour_103 ⟨Nat.le_of_ble_eq_true rfl, Nat.le_of_ble_eq_true rfl⟩) hS (fun H locs hw hS => ?_)
      obtain rfl := Option.some.inj hf
      exact rVret hx hb hr hlocks hw hS dX5_pour_106
set_option maxRecDepth 100000 in
set_option maxHeartbeats 4000000 in
theorem bX5_pour_0 {p : Program} {l : Launch} {e : Env} {s : State} {m : MethodId} {args : Array Value} {below : List Frame} {meth : Method} {c : Code} {D : va_G} {cy : Nat → ClassId} {a : Nat} (hx : p.tables.exec = Jvm.exec) (hb : c.code = cX5_pour) (hr : meth.sig.returnType = none) (hml : c.maxLocals = 6) (hown : s.vm.findClass RX5 = some m.cls) (hts : ∀ w ∈ wsX5_pour, w.before args s = true) (hlocks : meth.locks = false) (hK : KS D cy s) (hZ : ZZ a s s.heap) {out : Mm} : ∀ (i1 : Nat) (x2 : Int32) (i3 : Nat) (M : Mm) (H : Heap) (locs : List Loc) (ls : Array Slot), HP D cy a M H → va_S (Aq a) s.heap H locs → lv_has ls 6 [(0, .ref (a + 0)), (1, .ref (a + (33 + i1))), (2, .int x2), (3, .ref (a + (73 + i3)))] → fX5_pour i1 x2 i3 M = some out → W p l e rX5_pour s m args below meth c H locs 0 0 (MQ below (QV D cy a out) args s 0 0 (Aq a)) (F0 m 0 ls []) := by
  intro i1 x2 i3 M H locs ls hw hS hl hf
  unfold fX5_pour at hf
  refine lv_aload_n hx hb dX5_pour_0 rfl (lv_at hl 1 rfl) ?_
  obtain ⟨hi1, hf⟩ := og hf
  refine rGetNR hx hb hts iX5_pour_X0 hown hK hw (kbat hi1) (en_bat hi1) rfl 1 (by decide) nwF_168 rfl (base := 27) ge0_1 dX5_pour_1 ?_
  obtain ⟨j2, ej2, hf⟩ := ob hf
  refine rDer ej2 ?_
  obtain ⟨hi3, hf⟩ := og hf
  refine rGetNI hx hb hts iX5_pour_X1 hown hK hw (kprod hi3) (en_prod hi3) rfl 3 (by decide) nwF_338 rfl ge1_3 dX5_pour_4 ?_
  refine lv_istore (lv' := [(4, .int (gi M (27 + j2) 3)), (0, .ref (a + 0)), (1, .ref (a + (33 + i1))), (2, .int x2), (3, .ref (a + (73 + i3)))]) hx hb dX5_pour_7 hl (Nat.le_of_ble_eq_true rfl) rfl (fun ls hl => ?_)
  refine lv_iconst (v := (0 : Int32)) hx hb dX5_pour_9 (by decide) ?_
  refine lv_istore (lv' := [(5, .int (0 : Int32)), (4, .int (gi M (27 + j2) 3)), (0, .ref (a + 0)), (1, .ref (a + (33 + i1))), (2, .int x2), (3, .ref (a + (73 + i3)))]) hx hb dX5_pour_10 hl (Nat.le_of_ble_eq_true rfl) rfl (fun ls hl => ?_)
  refine lv_aload_n hx hb dX5_pour_12 rfl (lv_at hl 3 rfl) ?_
  refine rGetNR hx hb hts iX5_pour_X0 hown hK hw (kbat hi1) (en_bat hi1) rfl 8 (by decide) nwF_323 rfl (base := 33) ge0_8 dX5_pour_13 ?_
  refine rNull (tgt := 50) hx hb dX5_pour_16 (by decide) (fun c4 => ?_) (fun c4 => ?_)
  · have hf := ip c4 hf
    exact bX5_pour_50 hx hb hr hml hown hts hlocks hK hZ _ _ _ _ _ _ _ _ _ hw hS (lv_sub hl [2, 3, 4, 5, 1, 0] rfl) rfl hf
  · have hf := iq c4 hf
    obtain ⟨j5, ej5, hf⟩ := ob hf
    refine lv_iload_n hx hb dX5_pour_19 rfl (lv_at hl 4 rfl) ?_
    refine lv_iconst (v := (2 : Int32)) hx hb dX5_pour_20 (by decide) ?_
    refine lv_imul hx hb dX5_pour_21 ?_
    refine lv_aload_n hx hb dX5_pour_22 rfl (lv_at hl 2 rfl) ?_
    refine lv_aload_n hx hb dX5_pour_23 rfl (lv_at hl 3 rfl) ?_
    obtain ⟨o6, ho6, hf⟩ := ob hf
    refine rCallI (va_runV (As := [.ref (a + (33 + i1))]) (rest := [.int (x2 * (2 : Int32))]) ⟨hx, hb, hml, hown, hts⟩ (ctX5_mixOf (l := l) (D := D) (cy := cy) (a := a) ho6) (cwV 1 hts gX5_pour_X5_mixOf rfl rfl rfl (by decide +kernel) ⟨Nat.le_of_ble_eq_true rfl, Nat.le_of_ble_eq_true rfl⟩) (pV hK hZ hw hS (rRecv hK hw (Nat.le_of_ble_eq_true rfl) en_pipe rfl)) rfl rfl hl.1 rfl (lv_room (Nat.le_of_ble_eq_true rfl)) dX5_pour_24 ⟨Nat.le_of_ble_eq_true rfl, Nat.le_of_ble_eq_true rfl⟩) hS (fun H locs hw hS => ?_)
    refine lv_icmp_ge (tgt := 50) hx hb dX5_pour_27 (by decide) (fun c7 => ?_) (fun c7 => ?_)
    · have hf := ip c7 hf
      exact bX5_pour_50 hx hb hr hml hown hts hlocks hK hZ _ _ _ _ _ _ _ _ _ hw hS (lv_sub hl [2, 3, 4, 5, 1, 0] rfl) rfl hf
    · have hf := iq c7 hf
      refine lv_iconst (v := (1 : Int32)) hx hb dX5_pour_30 (by decide) ?_
      refine lv_istore (lv' := [(5, .int (1 : Int32)), (4, .int (gi M (27 + j2) 3)), (0, .ref (a + 0)), (1, .ref (a + (33 + i1))), (2, .int x2), (3, .ref (a + (73 + i3)))]) hx hb dX5_pour_31 hl (Nat.le_of_ble_eq_true rfl) rfl (fun ls hl => ?_)
      refine lv_iload hx hb dX5_pour_33 (lv_at hl 1 rfl) ?_
      refine lv_aload_n hx hb dX5_pour_35 rfl (lv_at hl 3 rfl) ?_
      refine rGetNR hx hb hts iX5_pour_X0 hown hK hw (kbat hi1) (en_bat hi1) rfl 8 (by decide) nwF_323 rfl (base := 33) ge0_8 dX5_pour_36 ?_
      refine rDer ej5 ?_
      obtain ⟨hi8, hf⟩ := og hf
      refine rGetNR hx hb hts iX5_pour_X0 hown hK hw (kbat hi8) (en_bat hi8) rfl 1 (by decide) nwF_168 rfl (base := 27) ge0_1 dX5_pour_39 ?_
      obtain ⟨j9, ej9, hf⟩ := ob hf
      refine rDer ej9 ?_
      obtain ⟨hi10, hf⟩ := og hf
      refine rGetNI hx hb hts iX5_pour_X1 hown hK hw (kprod hi10) (en_prod hi10) rfl 3 (by decide) nwF_338 rfl ge1_3 dX5_pour_42 ?_
      refine rMax hx hb hml hl hown (hts _ kX5_pour_3) (hts _ kX5_pour_4) (hts _ kX5_pour_5) (hts _ kX5_pour_6) (Nat.le_of_ble_eq_true rfl) (Nat.le_of_ble_eq_true rfl) (Nat.le_of_ble_eq_true rfl) (Nat.le_of_ble_eq_true rfl) dX5_pour_45 ?_
      refine lv_istore (lv' := [(4, .int (imax (gi M (27 + j2) 3) (gi M (27 + j9) 3))), (5, .int (1 : Int32)), (0, .ref (a + 0)), (1, .ref (a + (33 + i1))), (2, .int x2), (3, .ref (a + (73 + i3)))]) hx hb dX5_pour_48 hl (Nat.le_of_ble_eq_true rfl) rfl (fun ls hl => ?_)
      exact bX5_pour_50 hx hb hr hml hown hts hlocks hK hZ _ _ _ _ _ _ _ _ _ hw hS (lv_sub hl [2, 3, 4, 5, 0, 1] rfl) rfl hf
set_option maxRecDepth 100000 in
set_option maxHeartbeats 4000000 in
theorem ctX5_pour {l : Launch} {D : va_G} {cy : Nat → ClassId} {a : Nat} {i1 : Nat} {x2 : Int32} {i3 : Nat} {M : Mm} {out : Mm} (hf : fX5_pour i1 x2 i3 M = some out) : Met l yX5_pour wsX5_pour rX5_pour (Pre D cy a M [.ref (a + 0), .ref (a + (33 + i1)), .int x2, .ref (a + (73 + i3))]) (QV D cy a out) 0 0 (Aq a) := by
  refine Met.ofW (cc := cX5_pour) (maxL := 6) (ret := none) (by decide +kernel) rfl ?_
  intro p e s m args below meth c s₁ B hml hv
  obtain ⟨rfl, hw, hK, hZ⟩ := hv
  have hS : va_S (Aq a) s.heap s.heap [] := va_S.rf
  have hl := lv_entry ([.ref (a + 0), .ref (a + (33 + i1)), .int x2, .ref (a + (73 + i3))]) (n := 6) (Nat.le_of_ble_eq_true rfl)
  rw [lg_entry_eq]
  generalize (lg_sl ([.ref (a + 0), .ref (a + (33 + i1)), .int x2, .ref (a + (73 + i3))]) ++ List.replicate (6 - (lg_sl ([.ref (a + 0), .ref (a + (33 + i1)), .int x2, .ref (a + (73 + i3))])).length) Slot.unset).toArray = ls at hl ⊢
  exact bX5_pour_0 B.exec B.bytes B.returns hml (findClass_of_methodNamed B.named) (atoms_spec (ws := wsX5_pour) B.pre) B.notSynchronized hK hZ _ _ _ _ _ _ _ hw hS hl hf
def rX5_cleanUpTo : Room := { frames := 0, cells := 0, slots := 0, locals := 0 }
noncomputable def fX5_cleanUpTo_L2 : Nat → Int32 → Int32 → Mm → Option (Mm)
  | 0 => fun _ _ _ => none
  | n + 1 => fun x1 x2 M => (if x1 < x2 then some (M) else (if ¬ (x2 < 0 ∨ 6 ≤ x2.toNatClampNeg) then (fX5_cleanUpTo_L2 n) x1 (x2 + (1 : Int32)) (si M (9 + 3 * x2.toNatClampNeg) 6 (0 : Int32)) else none))
noncomputable def fX5_cleanUpTo (x1 : Int32) (M : Mm) : Option (Mm) := fX5_cleanUpTo_L2 400 x1 (0 : Int32) M
set_option maxRecDepth 20000 in
theorem iX5_cleanUpTo_X2 : ∀ w ∈ wsX20, w ∈ wsX5_cleanUpTo := by decide +kernel
set_option maxRecDepth 20000 in
theorem iX5_cleanUpTo_X5 : ∀ w ∈ wsX50, w ∈ wsX5_cleanUpTo := by decide +kernel
set_option maxRecDepth 20000 in
theorem kX5_cleanUpTo_0 : Cond.fieldLink RX5 11 "BatchPipe" "segments" "[LBatchPipe$Segment;" ∈ wsX5_cleanUpTo := by decide +kernel
set_option maxRecDepth 100000 in
set_option maxHeartbeats 4000000 in
theorem bX5_cleanUpTo_2 {p : Program} {l : Launch} {e : Env} {s : State} {m : MethodId} {args : Array Value} {below : List Frame} {meth : Method} {c : Code} {D : va_G} {cy : Nat → ClassId} {a : Nat} (hx : p.tables.exec = Jvm.exec) (hb : c.code = cX5_cleanUpTo) (hr : meth.sig.returnType = none) (hml : c.maxLocals = 3) (hown : s.vm.findClass RX5 = some m.cls) (hts : ∀ w ∈ wsX5_cleanUpTo, w.before args s = true) (hlocks : meth.locks = false) (hK : KS D cy s) (hZ : ZZ a s s.heap) {out : Mm} : ∀ (n : Nat), ∀ (x1 : Int32) (x2 : Int32) (M : Mm) (H : Heap) (locs : List Loc) (ls : Array Slot), HP D cy a M H → va_S (Aq a) s.heap H locs → lv_has ls 3 [(0, .ref (a + 0)), (1, .int x1), (2, .int x2)] → fX5_cleanUpTo_L2 n x1 x2 M = some out → W p l e rX5_cleanUpTo s m args below meth c H locs 0 0 (MQ below (QV D cy a out) args s 0 0 (Aq a)) (F0 m 2 ls []) := by
  intro n
  induction n with
  | zero =>
    intro x1 x2 M H locs ls hw hS hl hf
    have hf : (none : Option (Mm)) = some out := hf
    cases hf
  | succ n ih =>
    intro x1 x2 M H locs ls hw hS hl hf
    unfold fX5_cleanUpTo_L2 at hf
    refine lv_iload_n hx hb dX5_cleanUpTo_2 rfl (lv_at hl 2 rfl) ?_
    refine lv_iload_n hx hb dX5_cleanUpTo_3 rfl (lv_at hl 1 rfl) ?_
    refine lv_icmp_gt (tgt := 23) hx hb dX5_cleanUpTo_4 (by decide) (fun c1 => ?_) (fun c1 => ?_)
    · have hf := ip c1 hf
      obtain rfl := Option.some.inj hf
      exact rVret hx hb hr hlocks hw hS dX5_cleanUpTo_23
    · have hf := iq c1 hf
      refine lv_aload_n hx hb dX5_cleanUpTo_7 rfl (lv_at hl 0 rfl) ?_
      refine rGet hx hb hts iX5_cleanUpTo_X5 hown hK hw (Nat.le_of_ble_eq_true rfl) en_pipe rfl 0 (by decide) (hts _ kX5_cleanUpTo_0) rfl rfl dX5_cleanUpTo_8 ?_
      refine lv_iload_n hx hb dX5_cleanUpTo_11 rfl (lv_at hl 2 rfl) ?_
      obtain ⟨hg2, hf⟩ := og hf
      refine rAald hx hb hK hw (k := 1) (Nat.le_of_ble_eq_true rfl) 2 en_segs rfl hg2 dX5_cleanUpTo_12 ?_
      refine lv_iconst (v := (0 : Int32)) hx hb dX5_cleanUpTo_13 (by decide) ?_
      refine rPutN hx hb hts iX5_cleanUpTo_X2 tyX2 tyX2_ok nmX2 hown hK hw hS (kseg (vi hg2)) (en_seg (vi hg2)) rfl 6 (by decide) nwF_223 rfl rfl rfl rfl (Nat.le_of_ble_eq_true rfl) (hs2_6 (vi hg2)) dX5_cleanUpTo_14 (fun H locs hw hS => ?_)
      refine lv_iinc (v := x2 + (1 : Int32)) (lv' := [(2, .int (x2 + (1 : Int32))), (0, .ref (a + 0)), (1, .int x1)]) hx hb dX5_cleanUpTo_17 hl (k := 2) rfl rfl (Nat.le_of_ble_eq_true rfl) rfl (fun ls hl => ?_)
      refine lv_goto (tgt := 2) hx hb dX5_cleanUpTo_20 (by decide) ?_
      exact ih _ _ _ _ _ _ hw hS (lv_sub hl [1, 2, 0] rfl) hf
set_option maxRecDepth 100000 in
set_option maxHeartbeats 4000000 in
theorem bX5_cleanUpTo_0 {p : Program} {l : Launch} {e : Env} {s : State} {m : MethodId} {args : Array Value} {below : List Frame} {meth : Method} {c : Code} {D : va_G} {cy : Nat → ClassId} {a : Nat} (hx : p.tables.exec = Jvm.exec) (hb : c.code = cX5_cleanUpTo) (hr : meth.sig.returnType = none) (hml : c.maxLocals = 3) (hown : s.vm.findClass RX5 = some m.cls) (hts : ∀ w ∈ wsX5_cleanUpTo, w.before args s = true) (hlocks : meth.locks = false) (hK : KS D cy s) (hZ : ZZ a s s.heap) {out : Mm} : ∀ (x1 : Int32) (M : Mm) (H : Heap) (locs : List Loc) (ls : Array Slot), HP D cy a M H → va_S (Aq a) s.heap H locs → lv_has ls 3 [(0, .ref (a + 0)), (1, .int x1)] → fX5_cleanUpTo x1 M = some out → W p l e rX5_cleanUpTo s m args below meth c H locs 0 0 (MQ below (QV D cy a out) args s 0 0 (Aq a)) (F0 m 0 ls []) := by
  intro x1 M H locs ls hw hS hl hf
  unfold fX5_cleanUpTo at hf
  refine lv_iconst (v := (0 : Int32)) hx hb dX5_cleanUpTo_0 (by decide) ?_
  refine lv_istore_n (lv' := [(2, .int (0 : Int32)), (0, .ref (a + 0)), (1, .int x1)]) hx hb dX5_cleanUpTo_1 rfl hl (Nat.le_of_ble_eq_true rfl) rfl (fun ls hl => ?_)
  exact bX5_cleanUpTo_2 hx hb hr hml hown hts hlocks hK hZ 400 _ _ _ _ _ _ hw hS (lv_sub hl [1, 2, 0] rfl) hf
set_option maxRecDepth 100000 in
set_option maxHeartbeats 4000000 in
theorem ctX5_cleanUpTo {l : Launch} {D : va_G} {cy : Nat → ClassId} {a : Nat} {x1 : Int32} {M : Mm} {out : Mm} (hf : fX5_cleanUpTo x1 M = some out) : Met l yX5_cleanUpTo wsX5_cleanUpTo rX5_cleanUpTo (Pre D cy a M [.ref (a + 0), .int x1]) (QV D cy a out) 0 0 (Aq a) := by
  refine Met.ofW (cc := cX5_cleanUpTo) (maxL := 3) (ret := none) (by decide +kernel) rfl ?_
  intro p e s m args below meth c s₁ B hml hv
  obtain ⟨rfl, hw, hK, hZ⟩ := hv
  have hS : va_S (Aq a) s.heap s.heap [] := va_S.rf
  have hl := lv_entry ([.ref (a + 0), .int x1]) (n := 3) (Nat.le_of_ble_eq_true rfl)
  rw [lg_entry_eq]
  generalize (lg_sl ([.ref (a + 0), .int x1]) ++ List.replicate (3 - (lg_sl ([.ref (a + 0), .int x1])).length) Slot.unset).toArray = ls at hl ⊢
  exact bX5_cleanUpTo_0 B.exec B.bytes B.returns hml (findClass_of_methodNamed B.named) (atoms_spec (ws := wsX5_cleanUpTo) B.pre) B.notSynchronized hK hZ _ _ _ _ _ hw hS hl hf
def rX5_sendOff : Room := { frames := 3, cells := 0, slots := 0, locals := 69 }
noncomputable def fX5_sendOff_b140 (i1 : Nat) (x2 : Int32) (M : Mm) : Option (Mm) := (if x2 = (gi M 0 16) then (if i1 < 3 then ((fX5_cleanUpTo (gi (si M 0 16 (-1 : Int32)) (6 + i1) 0) (si M 0 16 (-1 : Int32))).bind fun o3 => some (o3)) else none) else some (M))
noncomputable def fX5_sendOff_b121 (i1 : Nat) (x2 : Int32) (n3 : Option Nat) (x4 : Int32) (M : Mm) : Option (Mm) := (if x4 = 0 then (n3.bind fun j2 => ((fX5_mixOf j2 M).bind fun o3 => (if j2 < 40 then fX5_sendOff_b140 i1 x2 (si (si M (33 + j2) 12 o3) (33 + j2) 11 (1 : Int32)) else none))) else fX5_sendOff_b140 i1 x2 M)
noncomputable def fX5_sendOff (i1 : Nat) (M : Mm) : Option (Mm) := (if i1 < 3 then (if ¬ ((gi M (6 + i1) 0) < 0 ∨ 6 ≤ (gi M (6 + i1) 0).toNatClampNeg) then ((fX2_fromEnd ((gi M (6 + i1) 0).toNatClampNeg) (0 : Int32) M).bind fun o3 => ((fX5_batchOf o3 M).bind fun o4 => ((fX5_placeOf o3 M).bind fun o5 => (if (some i1) = (some 0) then (o4.bind fun j7 => (if j7 < 40 then fX5_sendOff_b121 i1 o3 o4 o5 (si (si M (6 + i1) 3 ((gi M (6 + i1) 3) + (1 : Int32))) (33 + j7) 7 ((gi (si M (6 + i1) 3 ((gi M (6 + i1) 3) + (1 : Int32))) (33 + j7) 7) + (1 : Int32))) else none)) else (if (some i1) = (some 1) then (o4.bind fun j10 => (if j10 < 40 then (if ¬ ((gi (si (si M (6 + i1) 3 ((gi M (6 + i1) 3) + (1 : Int32))) (33 + j10) 6 ((gi (si M (6 + i1) 3 ((gi M (6 + i1) 3) + (1 : Int32))) (33 + j10) 6) + (1 : Int32))) (6 + i1) 2) < 0 ∨ 4 ≤ (gi (si (si M (6 + i1) 3 ((gi M (6 + i1) 3) + (1 : Int32))) (33 + j10) 6 ((gi (si M (6 + i1) 3 ((gi M (6 + i1) 3) + (1 : Int32))) (33 + j10) 6) + (1 : Int32))) (6 + i1) 2).toNatClampNeg) then ((fX5_pour j10 o5 ((gi (si (si M (6 + i1) 3 ((gi M (6 + i1) 3) + (1 : Int32))) (33 + j10) 6 ((gi (si M (6 + i1) 3 ((gi M (6 + i1) 3) + (1 : Int32))) (33 + j10) 6) + (1 : Int32))) (6 + i1) 2).toNatClampNeg) (si (si M (6 + i1) 3 ((gi M (6 + i1) 3) + (1 : Int32))) (33 + j10) 6 ((gi (si M (6 + i1) 3 ((gi M (6 + i1) 3) + (1 : Int32))) (33 + j10) 6) + (1 : Int32)))).bind fun o13 => fX5_sendOff_b121 i1 o3 o4 o5 o13) else none) else none)) else (o4.bind fun j14 => (if j14 < 40 then (if ¬ ((gi (si (si M (6 + i1) 3 ((gi M (6 + i1) 3) + (1 : Int32))) (33 + j14) 5 ((gi (si M (6 + i1) 3 ((gi M (6 + i1) 3) + (1 : Int32))) (33 + j14) 5) + (1 : Int32))) (6 + i1) 2) < 0 ∨ 4 ≤ (gi (si (si M (6 + i1) 3 ((gi M (6 + i1) 3) + (1 : Int32))) (33 + j14) 5 ((gi (si M (6 + i1) 3 ((gi M (6 + i1) 3) + (1 : Int32))) (33 + j14) 5) + (1 : Int32))) (6 + i1) 2).toNatClampNeg) then ((fX5_pour j14 o5 ((gi (si (si M (6 + i1) 3 ((gi M (6 + i1) 3) + (1 : Int32))) (33 + j14) 5 ((gi (si M (6 + i1) 3 ((gi M (6 + i1) 3) + (1 : Int32))) (33 + j14) 5) + (1 : Int32))) (6 + i1) 2).toNatClampNeg) (si (si M (6 + i1) 3 ((gi M (6 + i1) 3) + (1 : Int32))) (33 + j14) 5 ((gi (si M (6 + i1) 3 ((gi M (6 + i1) 3) + (1 : Int32))) (33 + j14) 5) + (1 : Int32)))).bind fun o17 => fX5_sendOff_b121 i1 o3 o4 o5 o17) else none) else none))))))) else none) else none)
set_option maxRecDepth 20000 in
theorem iX5_sendOff_X0 : ∀ w ∈ wsX00, w ∈ wsX5_sendOff := by decide +kernel
set_option maxRecDepth 20000 in
theorem iX5_sendOff_X4 : ∀ w ∈ wsX40, w ∈ wsX5_sendOff := by decide +kernel
set_option maxRecDepth 20000 in
theorem iX5_sendOff_X5 : ∀ w ∈ wsX50, w ∈ wsX5_sendOff := by decide +kernel
set_option maxRecDepth 20000 in
theorem kX5_sendOff_0 : Cond.fieldLink RX5 54 "BatchPipe" "pigBehind" "I" ∈ wsX5_sendOff := by decide +kernel
set_option maxRecDepth 20000 in
theorem kX5_sendOff_1 : Cond.fieldLink RX5 11 "BatchPipe" "segments" "[LBatchPipe$Segment;" ∈ wsX5_sendOff := by decide +kernel
set_option maxRecDepth 20000 in
theorem kX5_sendOff_2 : Cond.initialized RX2 ∈ wsX5_sendOff := by decide +kernel
set_option maxRecDepth 20000 in
theorem kX5_sendOff_3 : Cond.instanceMethod yX2_fromEnd ∈ wsX5_sendOff := by decide +kernel
set_option maxRecDepth 20000 in
theorem kX5_sendOff_4 : Cond.selects RX2 yX2_fromEnd yX2_fromEnd ∈ wsX5_sendOff := by decide +kernel
set_option maxRecDepth 20000 in
theorem kX5_sendOff_5 : Cond.fieldLink RX5 40 "BatchPipe" "leakTap" "LBatchPipe$Tap;" ∈ wsX5_sendOff := by decide +kernel
set_option maxRecDepth 20000 in
theorem kX5_sendOff_6 : Cond.fieldLink RX5 44 "BatchPipe" "dropTap" "LBatchPipe$Tap;" ∈ wsX5_sendOff := by decide +kernel
set_option maxRecDepth 20000 in
theorem kX5_sendOff_7 : Cond.fieldLink RX5 29 "BatchPipe" "tanks" "[LBatchPipe$Tank;" ∈ wsX5_sendOff := by decide +kernel
set_option maxRecDepth 100000 in
set_option maxHeartbeats 4000000 in
theorem bX5_sendOff_140 {p : Program} {l : Launch} {e : Env} {s : State} {m : MethodId} {args : Array Value} {below : List Frame} {meth : Method} {c : Code} {D : va_G} {cy : Nat → ClassId} {a : Nat} (hx : p.tables.exec = Jvm.exec) (hb : c.code = cX5_sendOff) (hr : meth.sig.returnType = none) (hml : c.maxLocals = 5) (hown : s.vm.findClass RX5 = some m.cls) (hts : ∀ w ∈ wsX5_sendOff, w.before args s = true) (hlocks : meth.locks = false) (hK : KS D cy s) (hZ : ZZ a s s.heap) {out : Mm} : ∀ (i1 : Nat) (x2 : Int32) (M : Mm) (H : Heap) (locs : List Loc) (ls : Array Slot), HP D cy a M H → va_S (Aq a) s.heap H locs → lv_has ls 5 [(0, .ref (a + 0)), (1, .ref (a + (6 + i1))), (2, .int x2)] → fX5_sendOff_b140 i1 x2 M = some out → W p l e rX5_sendOff s m args below meth c H locs 0 0 (MQ below (QV D cy a out) args s 0 0 (Aq a)) (F0 m 140 ls []) := by
  intro i1 x2 M H locs ls hw hS hl hf
  unfold fX5_sendOff_b140 at hf
  refine lv_iload_n hx hb dX5_sendOff_140 rfl (lv_at hl 2 rfl) ?_
  refine lv_aload_n hx hb dX5_sendOff_141 rfl (lv_at hl 0 rfl) ?_
  refine rGetI hx hb hts iX5_sendOff_X5 hown hK hw (Nat.le_of_ble_eq_true rfl) en_pipe rfl 16 (by decide) (hts _ kX5_sendOff_0) rfl ge5_16 dX5_sendOff_142 ?_
  refine lv_icmp_ne (tgt := 161) hx hb dX5_sendOff_145 (by decide) (fun c1 => ?_) (fun c1 => ?_)
  · have hf := iq c1 hf
    obtain rfl := Option.some.inj hf
    exact rVret hx hb hr hlocks hw hS dX5_sendOff_161
  · have hf := ip c1 hf
    refine lv_aload_n hx hb dX5_sendOff_148 rfl (lv_at hl 0 rfl) ?_
    refine lv_iconst (v := (-1 : Int32)) hx hb dX5_sendOff_149 (by decide) ?_
    refine rPut hx hb hts iX5_sendOff_X5 tyX5 tyX5_ok nmX5 hown hK hw hS (Nat.le_of_ble_eq_true rfl) en_pipe rfl 16 (by decide) (hts _ kX5_sendOff_0) rfl rfl rfl rfl (Nat.le_of_ble_eq_true rfl) hs5_16 dX5_sendOff_150 (fun H locs hw hS => ?_)
    refine lv_aload_n hx hb dX5_sendOff_153 rfl (lv_at hl 0 rfl) ?_
    refine lv_aload_n hx hb dX5_sendOff_154 rfl (lv_at hl 1 rfl) ?_
    obtain ⟨hi2, hf⟩ := og hf
    refine rGetNI hx hb hts iX5_sendOff_X4 hown hK hw (ktap hi2) (en_tap hi2) rfl 0 (by decide) nwF_293 rfl ge4_0 dX5_sendOff_155 ?_
    obtain ⟨o3, ho3, hf⟩ := ob hf
    refine rCallV (va_runV (As := [.int (gi (si M 0 16 (-1 : Int32)) (6 + i1) 0)]) (rest := []) ⟨hx, hb, hml, hown, hts⟩ (ctX5_cleanUpTo (l := l) (D := D) (cy := cy) (a := a) ho3) (cwV 1 hts gX5_sendOff_X5_cleanUpTo rfl rfl rfl (by decide +kernel) ⟨Nat.le_of_ble_eq_true rfl, Nat.le_of_ble_eq_true rfl⟩) (pV hK hZ hw hS (rRecv hK hw (Nat.le_of_ble_eq_true rfl) en_pipe rfl)) rfl rfl hl.1 rfl (lv_room (Nat.le_of_ble_eq_true rfl)) dX5_sendOff_158 ⟨Nat.le_of_ble_eq_true rfl, Nat.le_of_ble_eq_true rfl⟩) hS (fun H locs hw hS => ?_)
    obtain rfl := Option.some.inj hf
    exact rVret hx hb hr hlocks hw hS dX5_sendOff_161
set_option maxRecDepth 100000 in
set_option maxHeartbeats 4000000 in
theorem bX5_sendOff_121 {p : Program} {l : Launch} {e : Env} {s : State} {m : MethodId} {args : Array Value} {below : List Frame} {meth : Method} {c : Code} {D : va_G} {cy : Nat → ClassId} {a : Nat} (hx : p.tables.exec = Jvm.exec) (hb : c.code = cX5_sendOff) (hr : meth.sig.returnType = none) (hml : c.maxLocals = 5) (hown : s.vm.findClass RX5 = some m.cls) (hts : ∀ w ∈ wsX5_sendOff, w.before args s = true) (hlocks : meth.locks = false) (hK : KS D cy s) (hZ : ZZ a s s.heap) {out : Mm} : ∀ (i1 : Nat) (x2 : Int32) (n3 : Option Nat) (x4 : Int32) (M : Mm) (H : Heap) (locs : List Loc) (ls : Array Slot), HP D cy a M H → va_S (Aq a) s.heap H locs → lv_has ls 5 [(0, .ref (a + 0)), (1, .ref (a + (6 + i1))), (2, .int x2), (3, rfo a 33 n3), (4, .int x4)] → fX5_sendOff_b121 i1 x2 n3 x4 M = some out → W p l e rX5_sendOff s m args below meth c H locs 0 0 (MQ below (QV D cy a out) args s 0 0 (Aq a)) (F0 m 121 ls []) := by
  intro i1 x2 n3 x4 M H locs ls hw hS hl hf
  unfold fX5_sendOff_b121 at hf
  refine lv_iload hx hb dX5_sendOff_121 (lv_at hl 4 rfl) ?_
  refine lv_if_ne (tgt := 140) hx hb dX5_sendOff_123 (by decide) (fun c1 => ?_) (fun c1 => ?_)
  · have hf := iq c1 hf
    exact bX5_sendOff_140 hx hb hr hml hown hts hlocks hK hZ _ _ _ _ _ _ hw hS (lv_sub hl [0, 1, 2] rfl) hf
  · have hf := ip c1 hf
    refine rAloadQ_n hx hb dX5_sendOff_126 rfl (lv_at hl 3 rfl) ?_
    refine lv_aload_n hx hb dX5_sendOff_127 rfl (lv_at hl 0 rfl) ?_
    refine rAloadQ_n hx hb dX5_sendOff_128 rfl (lv_at hl 3 rfl) ?_
    obtain ⟨j2, ej2, hf⟩ := ob hf
    refine W.eq (g2 := F0 m 129 ls [.ref (a + (33 + j2)), .ref (a + 0), rfo a 33 n3]) (by rw [ej2]; rfl) ?_
    obtain ⟨o3, ho3, hf⟩ := ob hf
    refine rCallI (va_runV (As := [.ref (a + (33 + j2))]) (rest := [rfo a 33 n3]) ⟨hx, hb, hml, hown, hts⟩ (ctX5_mixOf (l := l) (D := D) (cy := cy) (a := a) ho3) (cwV 1 hts gX5_sendOff_X5_mixOf rfl rfl rfl (by decide +kernel) ⟨Nat.le_of_ble_eq_true rfl, Nat.le_of_ble_eq_true rfl⟩) (pV hK hZ hw hS (rRecv hK hw (Nat.le_of_ble_eq_true rfl) en_pipe rfl)) rfl rfl hl.1 rfl (lv_room (by simp [rfo_cat])) dX5_sendOff_129 ⟨Nat.le_of_ble_eq_true rfl, Nat.le_of_ble_eq_true rfl⟩) hS (fun H locs hw hS => ?_)
    refine W.eq (g2 := F0 m 132 ls [.int o3, .ref (a + (33 + j2))]) (by rw [ej2]; rfl) ?_
    obtain ⟨hi4, hf⟩ := og hf
    refine rPutN hx hb hts iX5_sendOff_X0 tyX0 tyX0_ok nmX0 hown hK hw hS (kbat hi4) (en_bat hi4) rfl 12 (by decide) nwF_314 rfl rfl rfl rfl (Nat.le_of_ble_eq_true rfl) (hs0_12 hi4) dX5_sendOff_132 (fun H locs hw hS => ?_)
    refine rAloadQ_n hx hb dX5_sendOff_135 rfl (lv_at hl 3 rfl) ?_
    refine rDer ej2 ?_
    refine lv_iconst (v := (1 : Int32)) hx hb dX5_sendOff_136 (by decide) ?_
    refine rPutN hx hb hts iX5_sendOff_X0 tyX0 tyX0_ok nmX0 hown hK hw hS (kbat hi4) (en_bat hi4) rfl 11 (by decide) nwF_317 rfl rfl rfl (bfit rfl) (Nat.le_of_ble_eq_true rfl) (hs0_11 hi4) dX5_sendOff_137 (fun H locs hw hS => ?_)
    exact bX5_sendOff_140 hx hb hr hml hown hts hlocks hK hZ _ _ _ _ _ _ hw hS (lv_sub hl [0, 1, 2] rfl) hf
set_option maxRecDepth 100000 in
set_option maxHeartbeats 4000000 in
theorem bX5_sendOff_0 {p : Program} {l : Launch} {e : Env} {s : State} {m : MethodId} {args : Array Value} {below : List Frame} {meth : Method} {c : Code} {D : va_G} {cy : Nat → ClassId} {a : Nat} (hx : p.tables.exec = Jvm.exec) (hb : c.code = cX5_sendOff) (hr : meth.sig.returnType = none) (hml : c.maxLocals = 5) (hown : s.vm.findClass RX5 = some m.cls) (hts : ∀ w ∈ wsX5_sendOff, w.before args s = true) (hlocks : meth.locks = false) (hK : KS D cy s) (hZ : ZZ a s s.heap) {out : Mm} : ∀ (i1 : Nat) (M : Mm) (H : Heap) (locs : List Loc) (ls : Array Slot), HP D cy a M H → va_S (Aq a) s.heap H locs → lv_has ls 5 [(0, .ref (a + 0)), (1, .ref (a + (6 + i1)))] → fX5_sendOff i1 M = some out → W p l e rX5_sendOff s m args below meth c H locs 0 0 (MQ below (QV D cy a out) args s 0 0 (Aq a)) (F0 m 0 ls []) := by
  intro i1 M H locs ls hw hS hl hf
  unfold fX5_sendOff at hf
  refine lv_aload_n hx hb dX5_sendOff_0 rfl (lv_at hl 0 rfl) ?_
  refine rGet hx hb hts iX5_sendOff_X5 hown hK hw (Nat.le_of_ble_eq_true rfl) en_pipe rfl 0 (by decide) (hts _ kX5_sendOff_1) rfl rfl dX5_sendOff_1 ?_
  refine lv_aload_n hx hb dX5_sendOff_4 rfl (lv_at hl 1 rfl) ?_
  obtain ⟨hi1, hf⟩ := og hf
  refine rGetNI hx hb hts iX5_sendOff_X4 hown hK hw (ktap hi1) (en_tap hi1) rfl 0 (by decide) nwF_293 rfl ge4_0 dX5_sendOff_5 ?_
  obtain ⟨hg2, hf⟩ := og hf
  refine rAald hx hb hK hw (k := 1) (Nat.le_of_ble_eq_true rfl) 2 en_segs rfl hg2 dX5_sendOff_8 ?_
  refine lv_iconst (v := (0 : Int32)) hx hb dX5_sendOff_9 (by decide) ?_
  obtain ⟨o3, ho3, hf⟩ := ob hf
  refine rCallI (va_runVN (As := [.int (0 : Int32)]) (rest := []) ⟨hx, hb, hml, hown, hts⟩ (ctX2_fromEnd (l := l) (D := D) (cy := cy) (a := a) ho3) ⟨va_cnB 1 hts gX5_sendOff_X2_fromEnd_n181 rfl rfl rfl (hK.2.2.1 _ nwM_181) (hts _ kX5_sendOff_2) (by decide +kernel) ⟨Nat.le_of_ble_eq_true rfl, Nat.le_of_ble_eq_true rfl⟩, (hts _ kX5_sendOff_3), (hts _ kX5_sendOff_4)⟩ (pV hK hZ hw hS (rRecv hK hw (kseg (vi hg2)) (en_seg (vi hg2)) rfl)) rfl rfl hl.1 rfl (lv_room (Nat.le_of_ble_eq_true rfl)) dX5_sendOff_10 ⟨Nat.le_of_ble_eq_true rfl, Nat.le_of_ble_eq_true rfl⟩) hS (fun H locs hw hS => ?_)
  refine lv_istore_n (lv' := [(2, .int o3), (0, .ref (a + 0)), (1, .ref (a + (6 + i1)))]) hx hb dX5_sendOff_13 rfl hl (Nat.le_of_ble_eq_true rfl) rfl (fun ls hl => ?_)
  refine lv_aload_n hx hb dX5_sendOff_14 rfl (lv_at hl 1 rfl) ?_
  refine lv_iload_n hx hb dX5_sendOff_15 rfl (lv_at hl 0 rfl) ?_
  obtain ⟨o4, ho4, hf⟩ := ob hf
  refine rCallR (va_runV (As := [.int o3]) (rest := []) ⟨hx, hb, hml, hown, hts⟩ (ctX5_batchOf (l := l) (D := D) (cy := cy) (a := a) ho4) (cwV 1 hts gX5_sendOff_X5_batchOf rfl rfl rfl (by decide +kernel) ⟨Nat.le_of_ble_eq_true rfl, Nat.le_of_ble_eq_true rfl⟩) (pV hK hZ hw hS (rRecv hK hw (Nat.le_of_ble_eq_true rfl) en_pipe rfl)) rfl rfl hl.1 rfl (lv_room (Nat.le_of_ble_eq_true rfl)) dX5_sendOff_16 ⟨Nat.le_of_ble_eq_true rfl, Nat.le_of_ble_eq_true rfl⟩) hS (fun H locs hw hS => ?_)
  refine rAstoreQ_n (lv' := [(3, rfo a 33 o4), (2, .int o3), (0, .ref (a + 0)), (1, .ref (a + (6 + i1)))]) hx hb dX5_sendOff_19 rfl hl (Nat.le_of_ble_eq_true rfl) rfl (fun ls hl => ?_)
  refine lv_aload_n hx hb dX5_sendOff_20 rfl (lv_at hl 2 rfl) ?_
  refine lv_iload_n hx hb dX5_sendOff_21 rfl (lv_at hl 1 rfl) ?_
  obtain ⟨o5, ho5, hf⟩ := ob hf
  refine rCallI (va_runV (As := [.int o3]) (rest := []) ⟨hx, hb, hml, hown, hts⟩ (ctX5_placeOf (l := l) (D := D) (cy := cy) (a := a) ho5) (cwV 1 hts gX5_sendOff_X5_placeOf rfl rfl rfl (by decide +kernel) ⟨Nat.le_of_ble_eq_true rfl, Nat.le_of_ble_eq_true rfl⟩) (pV hK hZ hw hS (rRecv hK hw (Nat.le_of_ble_eq_true rfl) en_pipe rfl)) rfl rfl hl.1 rfl (lv_room (Nat.le_of_ble_eq_true rfl)) dX5_sendOff_22 ⟨Nat.le_of_ble_eq_true rfl, Nat.le_of_ble_eq_true rfl⟩) hS (fun H locs hw hS => ?_)
  refine lv_istore (lv' := [(4, .int o5), (3, rfo a 33 o4), (2, .int o3), (0, .ref (a + 0)), (1, .ref (a + (6 + i1)))]) hx hb dX5_sendOff_25 hl (Nat.le_of_ble_eq_true rfl) (by simp [rfo_cat]) (fun ls hl => ?_)
  refine lv_aload_n hx hb dX5_sendOff_27 rfl (lv_at hl 4 rfl) ?_
  refine lv_dup hx hb dX5_sendOff_28 rfl ?_
  refine rGetNI hx hb hts iX5_sendOff_X4 hown hK hw (ktap hi1) (en_tap hi1) rfl 3 (by decide) nwF_246 rfl ge4_3 dX5_sendOff_29 ?_
  refine lv_iconst (v := (1 : Int32)) hx hb dX5_sendOff_32 (by decide) ?_
  refine lv_iadd hx hb dX5_sendOff_33 ?_
  refine rPutN hx hb hts iX5_sendOff_X4 tyX4 tyX4_ok nmX4 hown hK hw hS (ktap hi1) (en_tap hi1) rfl 3 (by decide) nwF_246 rfl rfl rfl rfl (Nat.le_of_ble_eq_true rfl) (hs4_3 hi1) dX5_sendOff_34 (fun H locs hw hS => ?_)
  refine lv_aload_n hx hb dX5_sendOff_37 rfl (lv_at hl 4 rfl) ?_
  refine lv_aload_n hx hb dX5_sendOff_38 rfl (lv_at hl 3 rfl) ?_
  refine rGet hx hb hts iX5_sendOff_X5 hown hK hw (Nat.le_of_ble_eq_true rfl) en_pipe rfl 5 (by decide) (hts _ kX5_sendOff_5) rfl rfl dX5_sendOff_39 ?_
  refine rAcmpNe (base := 6) (x := (some i1)) (y := (some 0)) (tgt := 58) hx hb dX5_sendOff_42 (by decide) (fun c6 => ?_) (fun c6 => ?_)
  · have hf := ip c6 hf
    refine rAloadQ_n hx hb dX5_sendOff_45 rfl (lv_at hl 1 rfl) ?_
    refine lv_dup hx hb dX5_sendOff_46 (rfo_cat _ _ _) ?_
    obtain ⟨j7, ej7, hf⟩ := ob hf
    refine rDer ej7 ?_
    obtain ⟨hi8, hf⟩ := og hf
    refine rGetNI hx hb hts iX5_sendOff_X0 hown hK hw (kbat hi8) (en_bat hi8) rfl 7 (by decide) nwF_158 rfl ge0_7 dX5_sendOff_47 ?_
    refine lv_iconst (v := (1 : Int32)) hx hb dX5_sendOff_50 (by decide) ?_
    refine lv_iadd hx hb dX5_sendOff_51 ?_
    refine W.eq (g2 := F0 m 52 ls [.int ((gi (si M (6 + i1) 3 ((gi M (6 + i1) 3) + (1 : Int32))) (33 + j7) 7) + (1 : Int32)), .ref (a + (33 + j7))]) (by rw [ej7]; rfl) ?_
    refine rPutN hx hb hts iX5_sendOff_X0 tyX0 tyX0_ok nmX0 hown hK hw hS (kbat hi8) (en_bat hi8) rfl 7 (by decide) nwF_158 rfl rfl rfl rfl (Nat.le_of_ble_eq_true rfl) (hs0_7 hi8) dX5_sendOff_52 (fun H locs hw hS => ?_)
    refine lv_goto (tgt := 121) hx hb dX5_sendOff_55 (by decide) ?_
    exact bX5_sendOff_121 hx hb hr hml hown hts hlocks hK hZ _ _ _ _ _ _ _ _ hw hS (lv_sub hl [3, 4, 2, 1, 0] rfl) hf
  · have hf := iq c6 hf
    refine lv_aload_n hx hb dX5_sendOff_58 rfl (lv_at hl 4 rfl) ?_
    refine lv_aload_n hx hb dX5_sendOff_59 rfl (lv_at hl 3 rfl) ?_
    refine rGet hx hb hts iX5_sendOff_X5 hown hK hw (Nat.le_of_ble_eq_true rfl) en_pipe rfl 6 (by decide) (hts _ kX5_sendOff_6) rfl rfl dX5_sendOff_60 ?_
    refine rAcmpNe (base := 6) (x := (some i1)) (y := (some 1)) (tgt := 95) hx hb dX5_sendOff_63 (by decide) (fun c9 => ?_) (fun c9 => ?_)
    · have hf := ip c9 hf
      refine rAloadQ_n hx hb dX5_sendOff_66 rfl (lv_at hl 1 rfl) ?_
      refine lv_dup hx hb dX5_sendOff_67 (rfo_cat _ _ _) ?_
      obtain ⟨j10, ej10, hf⟩ := ob hf
      refine rDer ej10 ?_
      obtain ⟨hi11, hf⟩ := og hf
      refine rGetNI hx hb hts iX5_sendOff_X0 hown hK hw (kbat hi11) (en_bat hi11) rfl 6 (by decide) nwF_155 rfl ge0_6 dX5_sendOff_68 ?_
      refine lv_iconst (v := (1 : Int32)) hx hb dX5_sendOff_71 (by decide) ?_
      refine lv_iadd hx hb dX5_sendOff_72 ?_
      refine W.eq (g2 := F0 m 73 ls [.int ((gi (si M (6 + i1) 3 ((gi M (6 + i1) 3) + (1 : Int32))) (33 + j10) 6) + (1 : Int32)), .ref (a + (33 + j10))]) (by rw [ej10]; rfl) ?_
      refine rPutN hx hb hts iX5_sendOff_X0 tyX0 tyX0_ok nmX0 hown hK hw hS (kbat hi11) (en_bat hi11) rfl 6 (by decide) nwF_155 rfl rfl rfl rfl (Nat.le_of_ble_eq_true rfl) (hs0_6 hi11) dX5_sendOff_73 (fun H locs hw hS => ?_)
      refine lv_aload_n hx hb dX5_sendOff_76 rfl (lv_at hl 3 rfl) ?_
      refine rAloadQ_n hx hb dX5_sendOff_77 rfl (lv_at hl 1 rfl) ?_
      refine rDer ej10 ?_
      refine lv_iload hx hb dX5_sendOff_78 (lv_at hl 0 rfl) ?_
      refine lv_aload_n hx hb dX5_sendOff_80 rfl (lv_at hl 3 rfl) ?_
      refine rGet hx hb hts iX5_sendOff_X5 hown hK hw (Nat.le_of_ble_eq_true rfl) en_pipe rfl 3 (by decide) (hts _ kX5_sendOff_7) rfl rfl dX5_sendOff_81 ?_
      refine lv_aload_n hx hb dX5_sendOff_84 rfl (lv_at hl 4 rfl) ?_
      refine rGetNI hx hb hts iX5_sendOff_X4 hown hK hw (ktap hi1) (en_tap hi1) rfl 2 (by decide) nwF_114 rfl ge4_2 dX5_sendOff_85 ?_
      obtain ⟨hg12, hf⟩ := og hf
      refine rAald hx hb hK hw (k := 4) (Nat.le_of_ble_eq_true rfl) 5 en_tanks rfl hg12 dX5_sendOff_88 ?_
      obtain ⟨o13, ho13, hf⟩ := ob hf
      refine rCallV (va_runV (As := [.ref (a + (33 + j10)), .int o5, .ref (a + (73 + ((gi (si (si M (6 + i1) 3 ((gi M (6 + i1) 3) + (1 : Int32))) (33 + j10) 6 ((gi (si M (6 + i1) 3 ((gi M (6 + i1) 3) + (1 : Int32))) (33 + j10) 6) + (1 : Int32))) (6 + i1) 2).toNatClampNeg)))]) (rest := []) ⟨hx, hb, hml, hown, hts⟩ (ctX5_pour (l := l) (D := D) (cy := cy) (a := a) ho13) (cwV 3 hts gX5_sendOff_X5_pour rfl rfl rfl (by decide +kernel) ⟨Nat.le_of_ble_eq_true rfl, Nat.le_of_ble_eq_true rfl⟩) (pV hK hZ hw hS (rRecv hK hw (Nat.le_of_ble_eq_true rfl) en_pipe rfl)) rfl rfl hl.1 rfl (lv_room (Nat.le_of_ble_eq_true rfl)) dX5_sendOff_89 ⟨Nat.le_of_ble_eq_true rfl, Nat.le_of_ble_eq_true rfl⟩) hS (fun H locs hw hS => ?_)
      refine lv_goto (tgt := 121) hx hb dX5_sendOff_92 (by decide) ?_
      exact bX5_sendOff_121 hx hb hr hml hown hts hlocks hK hZ _ _ _ _ _ _ _ _ hw hS (lv_sub hl [3, 4, 2, 1, 0] rfl) hf
    · have hf := iq c9 hf
      refine rAloadQ_n hx hb dX5_sendOff_95 rfl (lv_at hl 1 rfl) ?_
      refine lv_dup hx hb dX5_sendOff_96 (rfo_cat _ _ _) ?_
      obtain ⟨j14, ej14, hf⟩ := ob hf
      refine rDer ej14 ?_
      obtain ⟨hi15, hf⟩ := og hf
      refine rGetNI hx hb hts iX5_sendOff_X0 hown hK hw (kbat hi15) (en_bat hi15) rfl 5 (by decide) nwF_152 rfl ge0_5 dX5_sendOff_97 ?_
      refine lv_iconst (v := (1 : Int32)) hx hb dX5_sendOff_100 (by decide) ?_
      refine lv_iadd hx hb dX5_sendOff_101 ?_
      refine W.eq (g2 := F0 m 102 ls [.int ((gi (si M (6 + i1) 3 ((gi M (6 + i1) 3) + (1 : Int32))) (33 + j14) 5) + (1 : Int32)), .ref (a + (33 + j14))]) (by rw [ej14]; rfl) ?_
      refine rPutN hx hb hts iX5_sendOff_X0 tyX0 tyX0_ok nmX0 hown hK hw hS (kbat hi15) (en_bat hi15) rfl 5 (by decide) nwF_152 rfl rfl rfl rfl (Nat.le_of_ble_eq_true rfl) (hs0_5 hi15) dX5_sendOff_102 (fun H locs hw hS => ?_)
      refine lv_aload_n hx hb dX5_sendOff_105 rfl (lv_at hl 3 rfl) ?_
      refine rAloadQ_n hx hb dX5_sendOff_106 rfl (lv_at hl 1 rfl) ?_
      refine rDer ej14 ?_
      refine lv_iload hx hb dX5_sendOff_107 (lv_at hl 0 rfl) ?_
      refine lv_aload_n hx hb dX5_sendOff_109 rfl (lv_at hl 3 rfl) ?_
      refine rGet hx hb hts iX5_sendOff_X5 hown hK hw (Nat.le_of_ble_eq_true rfl) en_pipe rfl 3 (by decide) (hts _ kX5_sendOff_7) rfl rfl dX5_sendOff_110 ?_
      refine lv_aload_n hx hb dX5_sendOff_113 rfl (lv_at hl 4 rfl) ?_
      refine rGetNI hx hb hts iX5_sendOff_X4 hown hK hw (ktap hi1) (en_tap hi1) rfl 2 (by decide) nwF_114 rfl ge4_2 dX5_sendOff_114 ?_
      obtain ⟨hg16, hf⟩ := og hf
      refine rAald hx hb hK hw (k := 4) (Nat.le_of_ble_eq_true rfl) 5 en_tanks rfl hg16 dX5_sendOff_117 ?_
      obtain ⟨o17, ho17, hf⟩ := ob hf
      refine rCallV (va_runV (As := [.ref (a + (33 + j14)), .int o5, .ref (a + (73 + ((gi (si (si M (6 + i1) 3 ((gi M (6 + i1) 3) + (1 : Int32))) (33 + j14) 5 ((gi (si M (6 + i1) 3 ((gi M (6 + i1) 3) + (1 : Int32))) (33 + j14) 5) + (1 : Int32))) (6 + i1) 2).toNatClampNeg)))]) (rest := []) ⟨hx, hb, hml, hown, hts⟩ (ctX5_pour (l := l) (D := D) (cy := cy) (a := a) ho17) (cwV 3 hts gX5_sendOff_X5_pour rfl rfl rfl (by decide +kernel) ⟨Nat.le_of_ble_eq_true rfl, Nat.le_of_ble_eq_true rfl⟩) (pV hK hZ hw hS (rRecv hK hw (Nat.le_of_ble_eq_true rfl) en_pipe rfl)) rfl rfl hl.1 rfl (lv_room (Nat.le_of_ble_eq_true rfl)) dX5_sendOff_118 ⟨Nat.le_of_ble_eq_true rfl, Nat.le_of_ble_eq_true rfl⟩) hS (fun H locs hw hS => ?_)
      exact bX5_sendOff_121 hx hb hr hml hown hts hlocks hK hZ _ _ _ _ _ _ _ _ hw hS (lv_sub hl [3, 4, 2, 1, 0] rfl) hf
set_option maxRecDepth 100000 in
set_option maxHeartbeats 4000000 in
theorem ctX5_sendOff {l : Launch} {D : va_G} {cy : Nat → ClassId} {a : Nat} {i1 : Nat} {M : Mm} {out : Mm} (hf : fX5_sendOff i1 M = some out) : Met l yX5_sendOff wsX5_sendOff rX5_sendOff (Pre D cy a M [.ref (a + 0), .ref (a + (6 + i1))]) (QV D cy a out) 0 0 (Aq a) := by
  refine Met.ofW (cc := cX5_sendOff) (maxL := 5) (ret := none) (by decide +kernel) rfl ?_
  intro p e s m args below meth c s₁ B hml hv
  obtain ⟨rfl, hw, hK, hZ⟩ := hv
  have hS : va_S (Aq a) s.heap s.heap [] := va_S.rf
  have hl := lv_entry ([.ref (a + 0), .ref (a + (6 + i1))]) (n := 5) (Nat.le_of_ble_eq_true rfl)
  rw [lg_entry_eq]
  generalize (lg_sl ([.ref (a + 0), .ref (a + (6 + i1))]) ++ List.replicate (5 - (lg_sl ([.ref (a + 0), .ref (a + (6 + i1))])).length) Slot.unset).toArray = ls at hl ⊢
  exact bX5_sendOff_0 B.exec B.bytes B.returns hml (findClass_of_methodNamed B.named) (atoms_spec (ws := wsX5_sendOff) B.pre) B.notSynchronized hK hZ _ _ _ _ _ hw hS hl hf
def rX5_bringIn : Room := { frames := 1, cells := 0, slots := 0, locals := 22 }
noncomputable def fX5_bringIn_L70 : Nat → Int32 → Int32 → Int32 → Mm → Option (Mm)
  | 0 => fun _ _ _ _ => none
  | n + 1 => fun x2 x3 x4 M => (if x2 < x4 then some (M) else (if ¬ (x4 < 0 ∨ 6 ≤ x4.toNatClampNeg) then ((fX2_fromEnd x4.toNatClampNeg (0 : Int32) M).bind fun o3 => (if ¬ (x4 < 0 ∨ 6 ≤ x4.toNatClampNeg) then ((fX5_batchOf x3 M).bind fun o5 => (o5.bind fun j6 => (if j6 < 40 then ((gr M (33 + j6) 1).bind fun j8 => (if j8 < 6 then (if ¬ ((gi M (27 + j8) 0) < 0 ∨ 6 ≤ (gi M (27 + j8) 0).toNatClampNeg) then (if ¬ ((gi M (27 + j8) 0) < 0 ∨ 6 ≤ (gi M (27 + j8) 0).toNatClampNeg) then (if ¬ (x4 < 0 ∨ 6 ≤ x4.toNatClampNeg) then ((fX5_batchOf o3 (si M (11 + 3 * x4.toNatClampNeg) (gi M (27 + j8) 0).toNatClampNeg ((gi M (11 + 3 * x4.toNatClampNeg) (gi M (27 + j8) 0).toNatClampNeg) + (1 : Int32)))).bind fun o13 => (o13.bind fun j14 => (if j14 < 40 then ((gr (si M (11 + 3 * x4.toNatClampNeg) (gi M (27 + j8) 0).toNatClampNeg ((gi M (11 + 3 * x4.toNatClampNeg) (gi M (27 + j8) 0).toNatClampNeg) + (1 : Int32))) (33 + j14) 1).bind fun j16 => (if j16 < 6 then (if ¬ ((gi (si M (11 + 3 * x4.toNatClampNeg) (gi M (27 + j8) 0).toNatClampNeg ((gi M (11 + 3 * x4.toNatClampNeg) (gi M (27 + j8) 0).toNatClampNeg) + (1 : Int32))) (27 + j16) 0) < 0 ∨ 6 ≤ (gi (si M (11 + 3 * x4.toNatClampNeg) (gi M (27 + j8) 0).toNatClampNeg ((gi M (11 + 3 * x4.toNatClampNeg) (gi M (27 + j8) 0).toNatClampNeg) + (1 : Int32))) (27 + j16) 0).toNatClampNeg) then (if ¬ ((gi (si M (11 + 3 * x4.toNatClampNeg) (gi M (27 + j8) 0).toNatClampNeg ((gi M (11 + 3 * x4.toNatClampNeg) (gi M (27 + j8) 0).toNatClampNeg) + (1 : Int32))) (27 + j16) 0) < 0 ∨ 6 ≤ (gi (si M (11 + 3 * x4.toNatClampNeg) (gi M (27 + j8) 0).toNatClampNeg ((gi M (11 + 3 * x4.toNatClampNeg) (gi M (27 + j8) 0).toNatClampNeg) + (1 : Int32))) (27 + j16) 0).toNatClampNeg) then (if ¬ (x4 < 0 ∨ 6 ≤ x4.toNatClampNeg) then ((fX2_moveOn x4.toNatClampNeg x3 (si (si M (11 + 3 * x4.toNatClampNeg) (gi M (27 + j8) 0).toNatClampNeg ((gi M (11 + 3 * x4.toNatClampNeg) (gi M (27 + j8) 0).toNatClampNeg) + (1 : Int32))) (11 + 3 * x4.toNatClampNeg) (gi (si M (11 + 3 * x4.toNatClampNeg) (gi M (27 + j8) 0).toNatClampNeg ((gi M (11 + 3 * x4.toNatClampNeg) (gi M (27 + j8) 0).toNatClampNeg) + (1 : Int32))) (27 + j16) 0).toNatClampNeg ((gi (si M (11 + 3 * x4.toNatClampNeg) (gi M (27 + j8) 0).toNatClampNeg ((gi M (11 + 3 * x4.toNatClampNeg) (gi M (27 + j8) 0).toNatClampNeg) + (1 : Int32))) (11 + 3 * x4.toNatClampNeg) (gi (si M (11 + 3 * x4.toNatClampNeg) (gi M (27 + j8) 0).toNatClampNeg ((gi M (11 + 3 * x4.toNatClampNeg) (gi M (27 + j8) 0).toNatClampNeg) + (1 : Int32))) (27 + j16) 0).toNatClampNeg) - (1 : Int32)))).bind fun o21 => (fX5_bringIn_L70 n) x2 o3 (x4 + (1 : Int32)) o21) else none) else none) else none) else none)) else none))) else none) else none) else none) else none)) else none))) else none)) else none))
noncomputable def fX5_bringIn_b37 (i1 : Nat) (x2 : Int32) (M : Mm) : Option (Mm) := (if i1 < 40 then ((fX5_unitOf i1 (gi M (33 + i1) 4) M).bind fun o2 => fX5_bringIn_L70 400 x2 o2 (0 : Int32) (si (si M (33 + i1) 4 ((gi M (33 + i1) 4) + (1 : Int32))) 0 12 ((gi (si M (33 + i1) 4 ((gi M (33 + i1) 4) + (1 : Int32))) 0 12) + (1 : Int32)))) else none)
noncomputable def fX5_bringIn (i1 : Nat) (x2 : Int32) (M : Mm) : Option (Mm) := (if (some i1) = (gr M 0 11) then fX5_bringIn_b37 i1 x2 M else (if i1 < 40 then ((gr (sr M (33 + i1) 8 (gr M 0 11)) 0 11).bind fun j3 => (if j3 < 40 then fX5_bringIn_b37 i1 x2 (sr (si (sr (sr M (33 + i1) 8 (gr M 0 11)) (33 + j3) 9 (some i1)) (33 + i1) 10 (gi (sr (sr M (33 + i1) 8 (gr M 0 11)) (33 + j3) 9 (some i1)) 0 12)) 0 11 (some i1)) else none)) else none))
set_option maxRecDepth 20000 in
theorem iX5_bringIn_X0 : ∀ w ∈ wsX00, w ∈ wsX5_bringIn := by decide +kernel
set_option maxRecDepth 20000 in
theorem iX5_bringIn_X1 : ∀ w ∈ wsX10, w ∈ wsX5_bringIn := by decide +kernel
set_option maxRecDepth 20000 in
theorem iX5_bringIn_X2 : ∀ w ∈ wsX20, w ∈ wsX5_bringIn := by decide +kernel
set_option maxRecDepth 20000 in
theorem iX5_bringIn_X5 : ∀ w ∈ wsX50, w ∈ wsX5_bringIn := by decide +kernel
set_option maxRecDepth 20000 in
theorem kX5_bringIn_0 : Cond.fieldLink RX5 11 "BatchPipe" "segments" "[LBatchPipe$Segment;" ∈ wsX5_bringIn := by decide +kernel
set_option maxRecDepth 20000 in
theorem kX5_bringIn_1 : Cond.initialized RX2 ∈ wsX5_bringIn := by decide +kernel
set_option maxRecDepth 20000 in
theorem kX5_bringIn_2 : Cond.instanceMethod yX2_fromEnd ∈ wsX5_bringIn := by decide +kernel
set_option maxRecDepth 20000 in
theorem kX5_bringIn_3 : Cond.selects RX2 yX2_fromEnd yX2_fromEnd ∈ wsX5_bringIn := by decide +kernel
set_option maxRecDepth 20000 in
theorem kX5_bringIn_4 : Cond.instanceMethod yX2_moveOn ∈ wsX5_bringIn := by decide +kernel
set_option maxRecDepth 20000 in
theorem kX5_bringIn_5 : Cond.selects RX2 yX2_moveOn yX2_moveOn ∈ wsX5_bringIn := by decide +kernel
set_option maxRecDepth 20000 in
theorem kX5_bringIn_6 : Cond.fieldLink RX5 326 "BatchPipe" "enteredInAll" "I" ∈ wsX5_bringIn := by decide +kernel
set_option maxRecDepth 20000 in
theorem kX5_bringIn_7 : Cond.fieldLink RX5 65 "BatchPipe" "inletBatch" "LBatchPipe$Batch;" ∈ wsX5_bringIn := by decide +kernel
set_option maxRecDepth 100000 in
set_option maxHeartbeats 4000000 in
theorem bX5_bringIn_70 {p : Program} {l : Launch} {e : Env} {s : State} {m : MethodId} {args : Array Value} {below : List Frame} {meth : Method} {c : Code} {D : va_G} {cy : Nat → ClassId} {a : Nat} (hx : p.tables.exec = Jvm.exec) (hb : c.code = cX5_bringIn) (hr : meth.sig.returnType = none) (hml : c.maxLocals = 6) (hown : s.vm.findClass RX5 = some m.cls) (hts : ∀ w ∈ wsX5_bringIn, w.before args s = true) (hlocks : meth.locks = false) (hK : KS D cy s) (hZ : ZZ a s s.heap) {out : Mm} : ∀ (n : Nat), ∀ (x2 : Int32) (x3 : Int32) (x4 : Int32) (M : Mm) (H : Heap) (locs : List Loc) (ls : Array Slot), HP D cy a M H → va_S (Aq a) s.heap H locs → lv_has ls 6 [(0, .ref (a + 0)), (2, .int x2), (3, .int x3), (4, .int x4)] → fX5_bringIn_L70 n x2 x3 x4 M = some out → W p l e rX5_bringIn s m args below meth c H locs 0 0 (MQ below (QV D cy a out) args s 0 0 (Aq a)) (F0 m 70 ls []) := by
  intro n
  induction n with
  | zero =>
    intro x2 x3 x4 M H locs ls hw hS hl hf
    have hf : (none : Option (Mm)) = some out := hf
    cases hf
  | succ n ih =>
    intro x2 x3 x4 M H locs ls hw hS hl hf
    unfold fX5_bringIn_L70 at hf
    refine lv_iload hx hb dX5_bringIn_70 (lv_at hl 3 rfl) ?_
    refine lv_iload_n hx hb dX5_bringIn_72 rfl (lv_at hl 1 rfl) ?_
    refine lv_icmp_gt (tgt := 162) hx hb dX5_bringIn_73 (by decide) (fun c1 => ?_) (fun c1 => ?_)
    · have hf := ip c1 hf
      obtain rfl := Option.some.inj hf
      exact rVret hx hb hr hlocks hw hS dX5_bringIn_162
    · have hf := iq c1 hf
      refine lv_aload_n hx hb dX5_bringIn_76 rfl (lv_at hl 0 rfl) ?_
      refine rGet hx hb hts iX5_bringIn_X5 hown hK hw (Nat.le_of_ble_eq_true rfl) en_pipe rfl 0 (by decide) (hts _ kX5_bringIn_0) rfl rfl dX5_bringIn_77 ?_
      refine lv_iload hx hb dX5_bringIn_80 (lv_at hl 3 rfl) ?_
      obtain ⟨hg2, hf⟩ := og hf
      refine rAald hx hb hK hw (k := 1) (Nat.le_of_ble_eq_true rfl) 2 en_segs rfl hg2 dX5_bringIn_82 ?_
      refine lv_iconst (v := (0 : Int32)) hx hb dX5_bringIn_83 (by decide) ?_
      obtain ⟨o3, ho3, hf⟩ := ob hf
      refine rCallI (va_runVN (As := [.int (0 : Int32)]) (rest := []) ⟨hx, hb, hml, hown, hts⟩ (ctX2_fromEnd (l := l) (D := D) (cy := cy) (a := a) ho3) ⟨va_cnB 1 hts gX5_bringIn_X2_fromEnd_n181 rfl rfl rfl (hK.2.2.1 _ nwM_181) (hts _ kX5_bringIn_1) (by decide +kernel) ⟨Nat.le_of_ble_eq_true rfl, Nat.le_of_ble_eq_true rfl⟩, (hts _ kX5_bringIn_2), (hts _ kX5_bringIn_3)⟩ (pV hK hZ hw hS (rRecv hK hw (kseg (vi hg2)) (en_seg (vi hg2)) rfl)) rfl rfl hl.1 rfl (lv_room (Nat.le_of_ble_eq_true rfl)) dX5_bringIn_84 ⟨Nat.le_of_ble_eq_true rfl, Nat.le_of_ble_eq_true rfl⟩) hS (fun H locs hw hS => ?_)
      refine lv_istore (lv' := [(5, .int o3), (0, .ref (a + 0)), (2, .int x2), (3, .int x3), (4, .int x4)]) hx hb dX5_bringIn_87 hl (Nat.le_of_ble_eq_true rfl) rfl (fun ls hl => ?_)
      refine lv_aload_n hx hb dX5_bringIn_89 rfl (lv_at hl 1 rfl) ?_
      refine rGet hx hb hts iX5_bringIn_X5 hown hK hw (Nat.le_of_ble_eq_true rfl) en_pipe rfl 0 (by decide) (hts _ kX5_bringIn_0) rfl rfl dX5_bringIn_90 ?_
      refine lv_iload hx hb dX5_bringIn_93 (lv_at hl 4 rfl) ?_
      obtain ⟨hg4, hf⟩ := og hf
      refine rAald hx hb hK hw (k := 1) (Nat.le_of_ble_eq_true rfl) 2 en_segs rfl hg4 dX5_bringIn_95 ?_
      refine rGetN hx hb hts iX5_bringIn_X2 hown hK hw (kseg (vi hg4)) (en_seg (vi hg4)) rfl 1 (by decide) nwF_275 rfl rfl dX5_bringIn_96 ?_
      refine lv_aload_n hx hb dX5_bringIn_99 rfl (lv_at hl 1 rfl) ?_
      refine lv_iload_n hx hb dX5_bringIn_100 rfl (lv_at hl 3 rfl) ?_
      obtain ⟨o5, ho5, hf⟩ := ob hf
      refine rCallR (va_runV (As := [.int x3]) (rest := [.ref (a + (11 + 3 * x4.toNatClampNeg))]) ⟨hx, hb, hml, hown, hts⟩ (ctX5_batchOf (l := l) (D := D) (cy := cy) (a := a) ho5) (cwV 1 hts gX5_bringIn_X5_batchOf rfl rfl rfl (by decide +kernel) ⟨Nat.le_of_ble_eq_true rfl, Nat.le_of_ble_eq_true rfl⟩) (pV hK hZ hw hS (rRecv hK hw (Nat.le_of_ble_eq_true rfl) en_pipe rfl)) rfl rfl hl.1 rfl (lv_room (Nat.le_of_ble_eq_true rfl)) dX5_bringIn_101 ⟨Nat.le_of_ble_eq_true rfl, Nat.le_of_ble_eq_true rfl⟩) hS (fun H locs hw hS => ?_)
      obtain ⟨j6, ej6, hf⟩ := ob hf
      refine rDer ej6 ?_
      obtain ⟨hi7, hf⟩ := og hf
      refine rGetNR hx hb hts iX5_bringIn_X0 hown hK hw (kbat hi7) (en_bat hi7) rfl 1 (by decide) nwF_168 rfl (base := 27) ge0_1 dX5_bringIn_104 ?_
      obtain ⟨j8, ej8, hf⟩ := ob hf
      refine rDer ej8 ?_
      obtain ⟨hi9, hf⟩ := og hf
      refine rGetNI hx hb hts iX5_bringIn_X1 hown hK hw (kprod hi9) (en_prod hi9) rfl 0 (by decide) nwF_172 rfl ge1_0 dX5_bringIn_107 ?_
      refine lv_dup2_11 hx hb dX5_bringIn_110 rfl rfl ?_
      obtain ⟨hg10, hf⟩ := og hf
      refine rIald hx hb hK hw (kuof (vi hg4)) (en_uof (vi hg4)) hg10 dX5_bringIn_111 ?_
      refine lv_iconst (v := (1 : Int32)) hx hb dX5_bringIn_112 (by decide) ?_
      refine lv_iadd hx hb dX5_bringIn_113 ?_
      obtain ⟨hg11, hf⟩ := og hf
      refine rIast hx hb hK hw hS (kuof (vi hg4)) (fun _ => (en_uof (vi hg4))) hg11 dX5_bringIn_114 (fun H locs hw hS => ?_)
      refine lv_aload_n hx hb dX5_bringIn_115 rfl (lv_at hl 1 rfl) ?_
      refine rGet hx hb hts iX5_bringIn_X5 hown hK hw (Nat.le_of_ble_eq_true rfl) en_pipe rfl 0 (by decide) (hts _ kX5_bringIn_0) rfl rfl dX5_bringIn_116 ?_
      refine lv_iload hx hb dX5_bringIn_119 (lv_at hl 4 rfl) ?_
      obtain ⟨hg12, hf⟩ := og hf
      refine rAald hx hb hK hw (k := 1) (Nat.le_of_ble_eq_true rfl) 2 en_segs rfl hg12 dX5_bringIn_121 ?_
      refine rGetN hx hb hts iX5_bringIn_X2 hown hK hw (kseg (vi hg12)) (en_seg (vi hg12)) rfl 1 (by decide) nwF_275 rfl rfl dX5_bringIn_122 ?_
      refine lv_aload_n hx hb dX5_bringIn_125 rfl (lv_at hl 1 rfl) ?_
      refine lv_iload hx hb dX5_bringIn_126 (lv_at hl 0 rfl) ?_
      obtain ⟨o13, ho13, hf⟩ := ob hf
      refine rCallR (va_runV (As := [.int o3]) (rest := [.ref (a + (11 + 3 * x4.toNatClampNeg))]) ⟨hx, hb, hml, hown, hts⟩ (ctX5_batchOf (l := l) (D := D) (cy := cy) (a := a) ho13) (cwV 1 hts gX5_bringIn_X5_batchOf rfl rfl rfl (by decide +kernel) ⟨Nat.le_of_ble_eq_true rfl, Nat.le_of_ble_eq_true rfl⟩) (pV hK hZ hw hS (rRecv hK hw (Nat.le_of_ble_eq_true rfl) en_pipe rfl)) rfl rfl hl.1 rfl (lv_room (Nat.le_of_ble_eq_true rfl)) dX5_bringIn_128 ⟨Nat.le_of_ble_eq_true rfl, Nat.le_of_ble_eq_true rfl⟩) hS (fun H locs hw hS => ?_)
      obtain ⟨j14, ej14, hf⟩ := ob hf
      refine rDer ej14 ?_
      obtain ⟨hi15, hf⟩ := og hf
      refine rGetNR hx hb hts iX5_bringIn_X0 hown hK hw (kbat hi15) (en_bat hi15) rfl 1 (by decide) nwF_168 rfl (base := 27) ge0_1 dX5_bringIn_131 ?_
      obtain ⟨j16, ej16, hf⟩ := ob hf
      refine rDer ej16 ?_
      obtain ⟨hi17, hf⟩ := og hf
      refine rGetNI hx hb hts iX5_bringIn_X1 hown hK hw (kprod hi17) (en_prod hi17) rfl 0 (by decide) nwF_172 rfl ge1_0 dX5_bringIn_134 ?_
      refine lv_dup2_11 hx hb dX5_bringIn_137 rfl rfl ?_
      obtain ⟨hg18, hf⟩ := og hf
      refine rIald hx hb hK hw (kuof (vi hg12)) (en_uof (vi hg12)) hg18 dX5_bringIn_138 ?_
      refine lv_iconst (v := (1 : Int32)) hx hb dX5_bringIn_139 (by decide) ?_
      refine lv_isub hx hb dX5_bringIn_140 ?_
      obtain ⟨hg19, hf⟩ := og hf
      refine rIast hx hb hK hw hS (kuof (vi hg12)) (fun _ => (en_uof (vi hg12))) hg19 dX5_bringIn_141 (fun H locs hw hS => ?_)
      refine lv_aload_n hx hb dX5_bringIn_142 rfl (lv_at hl 1 rfl) ?_
      refine rGet hx hb hts iX5_bringIn_X5 hown hK hw (Nat.le_of_ble_eq_true rfl) en_pipe rfl 0 (by decide) (hts _ kX5_bringIn_0) rfl rfl dX5_bringIn_143 ?_
      refine lv_iload hx hb dX5_bringIn_146 (lv_at hl 4 rfl) ?_
      obtain ⟨hg20, hf⟩ := og hf
      refine rAald hx hb hK hw (k := 1) (Nat.le_of_ble_eq_true rfl) 2 en_segs rfl hg20 dX5_bringIn_148 ?_
      refine lv_iload_n hx hb dX5_bringIn_149 rfl (lv_at hl 3 rfl) ?_
      obtain ⟨o21, ho21, hf⟩ := ob hf
      refine rCallV (va_runVN (As := [.int x3]) (rest := []) ⟨hx, hb, hml, hown, hts⟩ (ctX2_moveOn (l := l) (D := D) (cy := cy) (a := a) ho21) ⟨va_cnB 1 hts gX5_bringIn_X2_moveOn_n332 rfl rfl rfl (hK.2.2.1 _ nwM_332) (hts _ kX5_bringIn_1) (by decide +kernel) ⟨Nat.le_of_ble_eq_true rfl, Nat.le_of_ble_eq_true rfl⟩, (hts _ kX5_bringIn_4), (hts _ kX5_bringIn_5)⟩ (pV hK hZ hw hS (rRecv hK hw (kseg (vi hg20)) (en_seg (vi hg20)) rfl)) rfl rfl hl.1 rfl (lv_room (Nat.le_of_ble_eq_true rfl)) dX5_bringIn_150 ⟨Nat.le_of_ble_eq_true rfl, Nat.le_of_ble_eq_true rfl⟩) hS (fun H locs hw hS => ?_)
      refine lv_iload hx hb dX5_bringIn_153 (lv_at hl 0 rfl) ?_
      refine lv_istore_n (lv' := [(3, .int o3), (5, .int o3), (0, .ref (a + 0)), (2, .int x2), (4, .int x4)]) hx hb dX5_bringIn_155 rfl hl (Nat.le_of_ble_eq_true rfl) rfl (fun ls hl => ?_)
      refine lv_iinc (v := x4 + (1 : Int32)) (lv' := [(4, .int (x4 + (1 : Int32))), (3, .int o3), (5, .int o3), (0, .ref (a + 0)), (2, .int x2)]) hx hb dX5_bringIn_156 hl (k := 4) rfl rfl (Nat.le_of_ble_eq_true rfl) rfl (fun ls hl => ?_)
      refine lv_goto (tgt := 70) hx hb dX5_bringIn_159 (by decide) ?_
      exact ih _ _ _ _ _ _ _ hw hS (lv_sub hl [3, 4, 1, 0] rfl) hf
set_option maxRecDepth 100000 in
set_option maxHeartbeats 4000000 in
theorem bX5_bringIn_37 {p : Program} {l : Launch} {e : Env} {s : State} {m : MethodId} {args : Array Value} {below : List Frame} {meth : Method} {c : Code} {D : va_G} {cy : Nat → ClassId} {a : Nat} (hx : p.tables.exec = Jvm.exec) (hb : c.code = cX5_bringIn) (hr : meth.sig.returnType = none) (hml : c.maxLocals = 6) (hown : s.vm.findClass RX5 = some m.cls) (hts : ∀ w ∈ wsX5_bringIn, w.before args s = true) (hlocks : meth.locks = false) (hK : KS D cy s) (hZ : ZZ a s s.heap) {out : Mm} : ∀ (i1 : Nat) (x2 : Int32) (M : Mm) (H : Heap) (locs : List Loc) (ls : Array Slot), HP D cy a M H → va_S (Aq a) s.heap H locs → lv_has ls 6 [(0, .ref (a + 0)), (1, .ref (a + (33 + i1))), (2, .int x2)] → fX5_bringIn_b37 i1 x2 M = some out → W p l e rX5_bringIn s m args below meth c H locs 0 0 (MQ below (QV D cy a out) args s 0 0 (Aq a)) (F0 m 37 ls []) := by
  intro i1 x2 M H locs ls hw hS hl hf
  unfold fX5_bringIn_b37 at hf
  refine lv_aload_n hx hb dX5_bringIn_37 rfl (lv_at hl 0 rfl) ?_
  refine lv_aload_n hx hb dX5_bringIn_38 rfl (lv_at hl 1 rfl) ?_
  refine lv_aload_n hx hb dX5_bringIn_39 rfl (lv_at hl 1 rfl) ?_
  obtain ⟨hi1, hf⟩ := og hf
  refine rGetNI hx hb hts iX5_bringIn_X0 hown hK hw (kbat hi1) (en_bat hi1) rfl 4 (by decide) nwF_111 rfl ge0_4 dX5_bringIn_40 ?_
  obtain ⟨o2, ho2, hf⟩ := ob hf
  refine rCallI (va_runV (As := [.ref (a + (33 + i1)), .int (gi M (33 + i1) 4)]) (rest := []) ⟨hx, hb, hml, hown, hts⟩ (ctX5_unitOf (l := l) (D := D) (cy := cy) (a := a) ho2) (cwV 2 hts gX5_bringIn_X5_unitOf rfl rfl rfl (by decide +kernel) ⟨Nat.le_of_ble_eq_true rfl, Nat.le_of_ble_eq_true rfl⟩) (pV hK hZ hw hS (rRecv hK hw (Nat.le_of_ble_eq_true rfl) en_pipe rfl)) rfl rfl hl.1 rfl (lv_room (Nat.le_of_ble_eq_true rfl)) dX5_bringIn_43 ⟨Nat.le_of_ble_eq_true rfl, Nat.le_of_ble_eq_true rfl⟩) hS (fun H locs hw hS => ?_)
  refine lv_istore_n (lv' := [(3, .int o2), (0, .ref (a + 0)), (1, .ref (a + (33 + i1))), (2, .int x2)]) hx hb dX5_bringIn_46 rfl hl (Nat.le_of_ble_eq_true rfl) rfl (fun ls hl => ?_)
  refine lv_aload_n hx hb dX5_bringIn_47 rfl (lv_at hl 2 rfl) ?_
  refine lv_dup hx hb dX5_bringIn_48 rfl ?_
  refine rGetNI hx hb hts iX5_bringIn_X0 hown hK hw (kbat hi1) (en_bat hi1) rfl 4 (by decide) nwF_111 rfl ge0_4 dX5_bringIn_49 ?_
  refine lv_iconst (v := (1 : Int32)) hx hb dX5_bringIn_52 (by decide) ?_
  refine lv_iadd hx hb dX5_bringIn_53 ?_
  refine rPutN hx hb hts iX5_bringIn_X0 tyX0 tyX0_ok nmX0 hown hK hw hS (kbat hi1) (en_bat hi1) rfl 4 (by decide) nwF_111 rfl rfl rfl rfl (Nat.le_of_ble_eq_true rfl) (hs0_4 hi1) dX5_bringIn_54 (fun H locs hw hS => ?_)
  refine lv_aload_n hx hb dX5_bringIn_57 rfl (lv_at hl 1 rfl) ?_
  refine lv_dup hx hb dX5_bringIn_58 rfl ?_
  refine rGetI hx hb hts iX5_bringIn_X5 hown hK hw (Nat.le_of_ble_eq_true rfl) en_pipe rfl 12 (by decide) (hts _ kX5_bringIn_6) rfl ge5_12 dX5_bringIn_59 ?_
  refine lv_iconst (v := (1 : Int32)) hx hb dX5_bringIn_62 (by decide) ?_
  refine lv_iadd hx hb dX5_bringIn_63 ?_
  refine rPut hx hb hts iX5_bringIn_X5 tyX5 tyX5_ok nmX5 hown hK hw hS (Nat.le_of_ble_eq_true rfl) en_pipe rfl 12 (by decide) (hts _ kX5_bringIn_6) rfl rfl rfl rfl (Nat.le_of_ble_eq_true rfl) hs5_12 dX5_bringIn_64 (fun H locs hw hS => ?_)
  refine lv_iconst (v := (0 : Int32)) hx hb dX5_bringIn_67 (by decide) ?_
  refine lv_istore (lv' := [(4, .int (0 : Int32)), (3, .int o2), (0, .ref (a + 0)), (1, .ref (a + (33 + i1))), (2, .int x2)]) hx hb dX5_bringIn_68 hl (Nat.le_of_ble_eq_true rfl) rfl (fun ls hl => ?_)
  exact bX5_bringIn_70 hx hb hr hml hown hts hlocks hK hZ 400 _ _ _ _ _ _ _ hw hS (lv_sub hl [2, 4, 1, 0] rfl) hf
set_option maxRecDepth 100000 in
set_option maxHeartbeats 4000000 in
theorem bX5_bringIn_0 {p : Program} {l : Launch} {e : Env} {s : State} {m : MethodId} {args : Array Value} {below : List Frame} {meth : Method} {c : Code} {D : va_G} {cy : Nat → ClassId} {a : Nat} (hx : p.tables.exec = Jvm.exec) (hb : c.code = cX5_bringIn) (hr : meth.sig.returnType = none) (hml : c.maxLocals = 6) (hown : s.vm.findClass RX5 = some m.cls) (hts : ∀ w ∈ wsX5_bringIn, w.before args s = true) (hlocks : meth.locks = false) (hK : KS D cy s) (hZ : ZZ a s s.heap) {out : Mm} : ∀ (i1 : Nat) (x2 : Int32) (M : Mm) (H : Heap) (locs : List Loc) (ls : Array Slot), HP D cy a M H → va_S (Aq a) s.heap H locs → lv_has ls 6 [(0, .ref (a + 0)), (1, .ref (a + (33 + i1))), (2, .int x2)] → fX5_bringIn i1 x2 M = some out → W p l e rX5_bringIn s m args below meth c H locs 0 0 (MQ below (QV D cy a out) args s 0 0 (Aq a)) (F0 m 0 ls []) := by
  intro i1 x2 M H locs ls hw hS hl hf
  unfold fX5_bringIn at hf
  refine lv_aload_n hx hb dX5_bringIn_0 rfl (lv_at hl 1 rfl) ?_
  refine lv_aload_n hx hb dX5_bringIn_1 rfl (lv_at hl 0 rfl) ?_
  refine rGetR hx hb hts iX5_bringIn_X5 hown hK hw (Nat.le_of_ble_eq_true rfl) en_pipe rfl 11 (by decide) (hts _ kX5_bringIn_7) rfl (base := 33) ge5_11 dX5_bringIn_2 ?_
  refine rAcmpEq (base := 33) (x := (some i1)) (y := (gr M 0 11)) (tgt := 37) hx hb dX5_bringIn_5 (by decide) (fun c1 => ?_) (fun c1 => ?_)
  · have hf := ip c1 hf
    exact bX5_bringIn_37 hx hb hr hml hown hts hlocks hK hZ _ _ _ _ _ _ hw hS (lv_sub hl [0, 1, 2] rfl) hf
  · have hf := iq c1 hf
    refine lv_aload_n hx hb dX5_bringIn_8 rfl (lv_at hl 1 rfl) ?_
    refine lv_aload_n hx hb dX5_bringIn_9 rfl (lv_at hl 0 rfl) ?_
    refine rGetR hx hb hts iX5_bringIn_X5 hown hK hw (Nat.le_of_ble_eq_true rfl) en_pipe rfl 11 (by decide) (hts _ kX5_bringIn_7) rfl (base := 33) ge5_11 dX5_bringIn_10 ?_
    obtain ⟨hi2, hf⟩ := og hf
    refine rPutRN hx hb hts iX5_bringIn_X0 tyX0 tyX0_ok nmX0 hown hK hw hS (kbat hi2) (en_bat hi2) rfl 8 (by decide) nwF_323 rfl rfl (K := "BatchPipe$Batch") rfl (base := 33) (o := (gr M 0 11)) (Nat.le_of_ble_eq_true rfl) (hs0_8 hi2) dX5_bringIn_13 (fun H locs hw hS => ?_)
    refine lv_aload_n hx hb dX5_bringIn_16 rfl (lv_at hl 0 rfl) ?_
    refine rGetR hx hb hts iX5_bringIn_X5 hown hK hw (Nat.le_of_ble_eq_true rfl) en_pipe rfl 11 (by decide) (hts _ kX5_bringIn_7) rfl (base := 33) ge5_11 dX5_bringIn_17 ?_
    refine lv_aload_n hx hb dX5_bringIn_20 rfl (lv_at hl 1 rfl) ?_
    obtain ⟨j3, ej3, hf⟩ := ob hf
    refine W.eq (g2 := F0 m 21 ls [.ref (a + (33 + i1)), .ref (a + (33 + j3))]) (by rw [ej3]; rfl) ?_
    obtain ⟨hi4, hf⟩ := og hf
    refine rPutRN hx hb hts iX5_bringIn_X0 tyX0 tyX0_ok nmX0 hown hK hw hS (kbat hi4) (en_bat hi4) rfl 9 (by decide) nwF_189 rfl rfl (K := "BatchPipe$Batch") rfl (base := 33) (o := (some i1)) (Nat.le_of_ble_eq_true rfl) (hs0_9 hi4) dX5_bringIn_21 (fun H locs hw hS => ?_)
    refine lv_aload_n hx hb dX5_bringIn_24 rfl (lv_at hl 1 rfl) ?_
    refine lv_aload_n hx hb dX5_bringIn_25 rfl (lv_at hl 0 rfl) ?_
    refine rGetI hx hb hts iX5_bringIn_X5 hown hK hw (Nat.le_of_ble_eq_true rfl) en_pipe rfl 12 (by decide) (hts _ kX5_bringIn_6) rfl ge5_12 dX5_bringIn_26 ?_
    refine rPutN hx hb hts iX5_bringIn_X0 tyX0 tyX0_ok nmX0 hown hK hw hS (kbat hi2) (en_bat hi2) rfl 10 (by decide) nwF_329 rfl rfl rfl rfl (Nat.le_of_ble_eq_true rfl) (hs0_10 hi2) dX5_bringIn_29 (fun H locs hw hS => ?_)
    refine lv_aload_n hx hb dX5_bringIn_32 rfl (lv_at hl 0 rfl) ?_
    refine lv_aload_n hx hb dX5_bringIn_33 rfl (lv_at hl 1 rfl) ?_
    refine rPutR hx hb hts iX5_bringIn_X5 tyX5 tyX5_ok nmX5 hown hK hw hS (Nat.le_of_ble_eq_true rfl) en_pipe rfl 11 (by decide) (hts _ kX5_bringIn_7) rfl rfl (K := "BatchPipe$Batch") rfl (base := 33) (o := (some i1)) (Nat.le_of_ble_eq_true rfl) hs5_11 dX5_bringIn_34 (fun H locs hw hS => ?_)
    exact bX5_bringIn_37 hx hb hr hml hown hts hlocks hK hZ _ _ _ _ _ _ hw hS (lv_sub hl [0, 1, 2] rfl) hf
set_option maxRecDepth 100000 in
set_option maxHeartbeats 4000000 in
theorem ctX5_bringIn {l : Launch} {D : va_G} {cy : Nat → ClassId} {a : Nat} {i1 : Nat} {x2 : Int32} {M : Mm} {out : Mm} (hf : fX5_bringIn i1 x2 M = some out) : Met l yX5_bringIn wsX5_bringIn rX5_bringIn (Pre D cy a M [.ref (a + 0), .ref (a + (33 + i1)), .int x2]) (QV D cy a out) 0 0 (Aq a) := by
  refine Met.ofW (cc := cX5_bringIn) (maxL := 6) (ret := none) (by decide +kernel) rfl ?_
  intro p e s m args below meth c s₁ B hml hv
  obtain ⟨rfl, hw, hK, hZ⟩ := hv
  have hS : va_S (Aq a) s.heap s.heap [] := va_S.rf
  have hl := lv_entry ([.ref (a + 0), .ref (a + (33 + i1)), .int x2]) (n := 6) (Nat.le_of_ble_eq_true rfl)
  rw [lg_entry_eq]
  generalize (lg_sl ([.ref (a + 0), .ref (a + (33 + i1)), .int x2]) ++ List.replicate (6 - (lg_sl ([.ref (a + 0), .ref (a + (33 + i1)), .int x2])).length) Slot.unset).toArray = ls at hl ⊢
  exact bX5_bringIn_0 B.exec B.bytes B.returns hml (findClass_of_methodNamed B.named) (atoms_spec (ws := wsX5_bringIn) B.pre) B.notSynchronized hK hZ _ _ _ _ _ _ hw hS hl hf
def rX5_moveOne : Room := { frames := 4, cells := 0, slots := 0, locals := 93 }
noncomputable def fX5_moveOne (M : Mm) : Option (Int32 × Mm) := ((fX5_nextBatch M).bind fun o1 => (if o1 = none then some ((0 : Int32), M) else o1.bind fun j3 => ((fX5_nextTap M).bind fun o4 => (o4.bind fun j5 => ((fX5_sendOff j5 M).bind fun o6 => (if j5 < 3 then ((fX5_bringIn j3 (gi o6 (6 + j5) 0) o6).bind fun o8 => some ((1 : Int32), o8)) else none))))))
set_option maxRecDepth 20000 in
theorem iX5_moveOne_X4 : ∀ w ∈ wsX40, w ∈ wsX5_moveOne := by decide +kernel
set_option maxRecDepth 100000 in
set_option maxHeartbeats 4000000 in
theorem bX5_moveOne_0 {p : Program} {l : Launch} {e : Env} {s : State} {m : MethodId} {args : Array Value} {below : List Frame} {meth : Method} {c : Code} {D : va_G} {cy : Nat → ClassId} {a : Nat} (hx : p.tables.exec = Jvm.exec) (hb : c.code = cX5_moveOne) (hr : meth.sig.returnType = (some .boolean)) (hml : c.maxLocals = 3) (hown : s.vm.findClass RX5 = some m.cls) (hts : ∀ w ∈ wsX5_moveOne, w.before args s = true) (hlocks : meth.locks = false) (hK : KS D cy s) (hZ : ZZ a s s.heap) {out : Int32 × Mm} : ∀ (M : Mm) (H : Heap) (locs : List Loc) (ls : Array Slot), HP D cy a M H → va_S (Aq a) s.heap H locs → lv_has ls 3 [(0, .ref (a + 0))] → fX5_moveOne  M = some out → W p l e rX5_moveOne s m args below meth c H locs 0 0 (MQ below (QB D cy a out.1 out.2) args s 0 0 (Aq a)) (F0 m 0 ls []) := by
  intro M H locs ls hw hS hl hf
  unfold fX5_moveOne at hf
  refine lv_aload_n hx hb dX5_moveOne_0 rfl (lv_at hl 0 rfl) ?_
  obtain ⟨o1, ho1, hf⟩ := ob hf
  refine rCallR (va_runV (As := []) (rest := []) ⟨hx, hb, hml, hown, hts⟩ (ctX5_nextBatch (l := l) (D := D) (cy := cy) (a := a) ho1) (cwV 0 hts gX5_moveOne_X5_nextBatch rfl rfl rfl (by decide +kernel) ⟨Nat.le_of_ble_eq_true rfl, Nat.le_of_ble_eq_true rfl⟩) (pV hK hZ hw hS (rRecv hK hw (Nat.le_of_ble_eq_true rfl) en_pipe rfl)) rfl rfl hl.1 rfl (lv_room (Nat.le_of_ble_eq_true rfl)) dX5_moveOne_1 ⟨Nat.le_of_ble_eq_true rfl, Nat.le_of_ble_eq_true rfl⟩) hS (fun H locs hw hS => ?_)
  refine rAstoreQ_n (lv' := [(1, rfo a 33 o1), (0, .ref (a + 0))]) hx hb dX5_moveOne_4 rfl hl (Nat.le_of_ble_eq_true rfl) rfl (fun ls hl => ?_)
  refine rAloadQ_n hx hb dX5_moveOne_5 rfl (lv_at hl 0 rfl) ?_
  refine rNonnull (tgt := 11) hx hb dX5_moveOne_6 (by decide) (fun c2 => ?_) (fun c2 => ?_)
  · have hf := ip c2 hf
    refine lv_iconst (v := (0 : Int32)) hx hb dX5_moveOne_9 (by decide) ?_
    obtain rfl := Option.some.inj hf
    exact rBret (x := (0 : Int32)) hx hb hr hlocks hw hS rfl dX5_moveOne_10
  · have hf := iq c2 hf
    obtain ⟨j3, ej3, hf⟩ := ob hf
    refine lv_aload_n hx hb dX5_moveOne_11 rfl (lv_at hl 1 rfl) ?_
    obtain ⟨o4, ho4, hf⟩ := ob hf
    refine rCallR (va_runV (As := []) (rest := []) ⟨hx, hb, hml, hown, hts⟩ (ctX5_nextTap (l := l) (D := D) (cy := cy) (a := a) ho4) (cwV 0 hts gX5_moveOne_X5_nextTap rfl rfl rfl (by decide +kernel) ⟨Nat.le_of_ble_eq_true rfl, Nat.le_of_ble_eq_true rfl⟩) (pV hK hZ hw hS (rRecv hK hw (Nat.le_of_ble_eq_true rfl) en_pipe rfl)) rfl rfl hl.1 rfl (lv_room (Nat.le_of_ble_eq_true rfl)) dX5_moveOne_12 ⟨Nat.le_of_ble_eq_true rfl, Nat.le_of_ble_eq_true rfl⟩) hS (fun H locs hw hS => ?_)
    refine rAstoreQ_n (lv' := [(2, rfo a 6 o4), (1, rfo a 33 o1), (0, .ref (a + 0))]) hx hb dX5_moveOne_15 rfl hl (Nat.le_of_ble_eq_true rfl) (by simp [rfo_cat]) (fun ls hl => ?_)
    refine lv_aload_n hx hb dX5_moveOne_16 rfl (lv_at hl 2 rfl) ?_
    refine rAloadQ_n hx hb dX5_moveOne_17 rfl (lv_at hl 0 rfl) ?_
    obtain ⟨j5, ej5, hf⟩ := ob hf
    refine W.eq (g2 := F0 m 18 ls [.ref (a + (6 + j5)), .ref (a + 0)]) (by rw [ej5]; rfl) ?_
    obtain ⟨o6, ho6, hf⟩ := ob hf
    refine rCallV (va_runV (As := [.ref (a + (6 + j5))]) (rest := []) ⟨hx, hb, hml, hown, hts⟩ (ctX5_sendOff (l := l) (D := D) (cy := cy) (a := a) ho6) (cwV 1 hts gX5_moveOne_X5_sendOff rfl rfl rfl (by decide +kernel) ⟨Nat.le_of_ble_eq_true rfl, Nat.le_of_ble_eq_true rfl⟩) (pV hK hZ hw hS (rRecv hK hw (Nat.le_of_ble_eq_true rfl) en_pipe rfl)) rfl rfl hl.1 rfl (lv_room (Nat.le_of_ble_eq_true rfl)) dX5_moveOne_18 ⟨Nat.le_of_ble_eq_true rfl, Nat.le_of_ble_eq_true rfl⟩) hS (fun H locs hw hS => ?_)
    refine lv_aload_n hx hb dX5_moveOne_21 rfl (lv_at hl 2 rfl) ?_
    refine rAloadQ_n hx hb dX5_moveOne_22 rfl (lv_at hl 1 rfl) ?_
    refine rDer ej3 ?_
    refine rAloadQ_n hx hb dX5_moveOne_23 rfl (lv_at hl 0 rfl) ?_
    refine rDer ej5 ?_
    obtain ⟨hi7, hf⟩ := og hf
    refine rGetNI hx hb hts iX5_moveOne_X4 hown hK hw (ktap hi7) (en_tap hi7) rfl 0 (by decide) nwF_293 rfl ge4_0 dX5_moveOne_24 ?_
    obtain ⟨o8, ho8, hf⟩ := ob hf
    refine rCallV (va_runV (As := [.ref (a + (33 + j3)), .int (gi o6 (6 + j5) 0)]) (rest := []) ⟨hx, hb, hml, hown, hts⟩ (ctX5_bringIn (l := l) (D := D) (cy := cy) (a := a) ho8) (cwV 2 hts gX5_moveOne_X5_bringIn rfl rfl rfl (by decide +kernel) ⟨Nat.le_of_ble_eq_true rfl, Nat.le_of_ble_eq_true rfl⟩) (pV hK hZ hw hS (rRecv hK hw (Nat.le_of_ble_eq_true rfl) en_pipe rfl)) rfl rfl hl.1 rfl (lv_room (Nat.le_of_ble_eq_true rfl)) dX5_moveOne_27 ⟨Nat.le_of_ble_eq_true rfl, Nat.le_of_ble_eq_true rfl⟩) hS (fun H locs hw hS => ?_)
    refine lv_iconst (v := (1 : Int32)) hx hb dX5_moveOne_30 (by decide) ?_
    obtain rfl := Option.some.inj hf
    exact rBret (x := (1 : Int32)) hx hb hr hlocks hw hS rfl dX5_moveOne_31
set_option maxRecDepth 100000 in
set_option maxHeartbeats 4000000 in
theorem ctX5_moveOne {l : Launch} {D : va_G} {cy : Nat → ClassId} {a : Nat} {M : Mm} {out : Int32 × Mm} (hf : fX5_moveOne  M = some out) : Met l yX5_moveOne wsX5_moveOne rX5_moveOne (Pre D cy a M [.ref (a + 0)]) (QB D cy a out.1 out.2) 0 0 (Aq a) := by
  refine Met.ofW (cc := cX5_moveOne) (maxL := 3) (ret := (some .boolean)) (by decide +kernel) rfl ?_
  intro p e s m args below meth c s₁ B hml hv
  obtain ⟨rfl, hw, hK, hZ⟩ := hv
  have hS : va_S (Aq a) s.heap s.heap [] := va_S.rf
  have hl := lv_entry ([.ref (a + 0)]) (n := 3) (Nat.le_of_ble_eq_true rfl)
  rw [lg_entry_eq]
  generalize (lg_sl ([.ref (a + 0)]) ++ List.replicate (3 - (lg_sl ([.ref (a + 0)])).length) Slot.unset).toArray = ls at hl ⊢
  exact bX5_moveOne_0 B.exec B.bytes B.returns hml (findClass_of_methodNamed B.named) (atoms_spec (ws := wsX5_moveOne) B.pre) B.notSynchronized hK hZ _ _ _ _ hw hS hl hf
def rX5_soil : Room := { frames := 1, cells := 0, slots := 0, locals := 21 }
noncomputable def fX5_soil_L2 : Nat → Int32 → Mm → Option (Mm)
  | 0 => fun _ _ => none
  | n + 1 => fun x1 M => (if (gi M 0 8) ≤ x1 then some (M) else (if ¬ (x1 < 0 ∨ 6 ≤ x1.toNatClampNeg) then (if ¬ (x1 < 0 ∨ 6 ≤ x1.toNatClampNeg) then (fX5_soil_L2 n) (x1 + (1 : Int32)) (si M (9 + 3 * x1.toNatClampNeg) 6 (imin (200 : Int32) ((gi M (9 + 3 * x1.toNatClampNeg) 6) + (1 : Int32)))) else none) else none))
noncomputable def fX5_soil (M : Mm) : Option (Mm) := fX5_soil_L2 400 (0 : Int32) M
set_option maxRecDepth 20000 in
theorem iX5_soil_X2 : ∀ w ∈ wsX20, w ∈ wsX5_soil := by decide +kernel
set_option maxRecDepth 20000 in
theorem iX5_soil_X5 : ∀ w ∈ wsX50, w ∈ wsX5_soil := by decide +kernel
set_option maxRecDepth 20000 in
theorem kX5_soil_0 : Cond.fieldLink RX5 77 "BatchPipe" "segmentCount" "I" ∈ wsX5_soil := by decide +kernel
set_option maxRecDepth 20000 in
theorem kX5_soil_1 : Cond.fieldLink RX5 11 "BatchPipe" "segments" "[LBatchPipe$Segment;" ∈ wsX5_soil := by decide +kernel
set_option maxRecDepth 20000 in
theorem kX5_soil_2 : Cond.methodLink RX5 232 Lib.Math.min.name ∈ wsX5_soil := by decide +kernel
set_option maxRecDepth 20000 in
theorem kX5_soil_3 : Cond.static Lib.Math.min.name ∈ wsX5_soil := by decide +kernel
set_option maxRecDepth 20000 in
theorem kX5_soil_4 : Cond.initialized "java/lang/Math" ∈ wsX5_soil := by decide +kernel
set_option maxRecDepth 20000 in
theorem kX5_soil_5 : Cond.code Lib.Math.min.name Lib.Math.min.code 2 (some .int) ∈ wsX5_soil := by decide +kernel
set_option maxRecDepth 100000 in
set_option maxHeartbeats 4000000 in
theorem bX5_soil_2 {p : Program} {l : Launch} {e : Env} {s : State} {m : MethodId} {args : Array Value} {below : List Frame} {meth : Method} {c : Code} {D : va_G} {cy : Nat → ClassId} {a : Nat} (hx : p.tables.exec = Jvm.exec) (hb : c.code = cX5_soil) (hr : meth.sig.returnType = none) (hml : c.maxLocals = 2) (hown : s.vm.findClass RX5 = some m.cls) (hts : ∀ w ∈ wsX5_soil, w.before args s = true) (hlocks : meth.locks = false) (hK : KS D cy s) (hZ : ZZ a s s.heap) {out : Mm} : ∀ (n : Nat), ∀ (x1 : Int32) (M : Mm) (H : Heap) (locs : List Loc) (ls : Array Slot), HP D cy a M H → va_S (Aq a) s.heap H locs → lv_has ls 2 [(0, .ref (a + 0)), (1, .int x1)] → fX5_soil_L2 n x1 M = some out → W p l e rX5_soil s m args below meth c H locs 0 0 (MQ below (QV D cy a out) args s 0 0 (Aq a)) (F0 m 2 ls []) := by
  intro n
  induction n with
  | zero =>
    intro x1 M H locs ls hw hS hl hf
    have hf : (none : Option (Mm)) = some out := hf
    cases hf
  | succ n ih =>
    intro x1 M H locs ls hw hS hl hf
    unfold fX5_soil_L2 at hf
    refine lv_iload_n hx hb dX5_soil_2 rfl (lv_at hl 1 rfl) ?_
    refine lv_aload_n hx hb dX5_soil_3 rfl (lv_at hl 0 rfl) ?_
    refine rGetI hx hb hts iX5_soil_X5 hown hK hw (Nat.le_of_ble_eq_true rfl) en_pipe rfl 8 (by decide) (hts _ kX5_soil_0) rfl ge5_8 dX5_soil_4 ?_
    refine lv_icmp_ge (tgt := 42) hx hb dX5_soil_7 (by decide) (fun c1 => ?_) (fun c1 => ?_)
    · have hf := ip c1 hf
      obtain rfl := Option.some.inj hf
      exact rVret hx hb hr hlocks hw hS dX5_soil_42
    · have hf := iq c1 hf
      refine lv_aload_n hx hb dX5_soil_10 rfl (lv_at hl 0 rfl) ?_
      refine rGet hx hb hts iX5_soil_X5 hown hK hw (Nat.le_of_ble_eq_true rfl) en_pipe rfl 0 (by decide) (hts _ kX5_soil_1) rfl rfl dX5_soil_11 ?_
      refine lv_iload_n hx hb dX5_soil_14 rfl (lv_at hl 1 rfl) ?_
      obtain ⟨hg2, hf⟩ := og hf
      refine rAald hx hb hK hw (k := 1) (Nat.le_of_ble_eq_true rfl) 2 en_segs rfl hg2 dX5_soil_15 ?_
      refine lv_sipush (v := (200 : Int32)) hx hb dX5_soil_16 (by decide) ?_
      refine lv_aload_n hx hb dX5_soil_19 rfl (lv_at hl 0 rfl) ?_
      refine rGet hx hb hts iX5_soil_X5 hown hK hw (Nat.le_of_ble_eq_true rfl) en_pipe rfl 0 (by decide) (hts _ kX5_soil_1) rfl rfl dX5_soil_20 ?_
      refine lv_iload_n hx hb dX5_soil_23 rfl (lv_at hl 1 rfl) ?_
      obtain ⟨hg3, hf⟩ := og hf
      refine rAald hx hb hK hw (k := 1) (Nat.le_of_ble_eq_true rfl) 2 en_segs rfl hg3 dX5_soil_24 ?_
      refine rGetNI hx hb hts iX5_soil_X2 hown hK hw (kseg (vi hg3)) (en_seg (vi hg3)) rfl 6 (by decide) nwF_223 rfl ge2_6 dX5_soil_25 ?_
      refine lv_iconst (v := (1 : Int32)) hx hb dX5_soil_28 (by decide) ?_
      refine lv_iadd hx hb dX5_soil_29 ?_
      refine rMin hx hb hml hl hown (hts _ kX5_soil_2) (hts _ kX5_soil_3) (hts _ kX5_soil_4) (hts _ kX5_soil_5) (Nat.le_of_ble_eq_true rfl) (Nat.le_of_ble_eq_true rfl) (Nat.le_of_ble_eq_true rfl) (Nat.le_of_ble_eq_true rfl) dX5_soil_30 ?_
      refine rPutN hx hb hts iX5_soil_X2 tyX2 tyX2_ok nmX2 hown hK hw hS (kseg (vi hg3)) (en_seg (vi hg3)) rfl 6 (by decide) nwF_223 rfl rfl rfl rfl (Nat.le_of_ble_eq_true rfl) (hs2_6 (vi hg3)) dX5_soil_33 (fun H locs hw hS => ?_)
      refine lv_iinc (v := x1 + (1 : Int32)) (lv' := [(1, .int (x1 + (1 : Int32))), (0, .ref (a + 0))]) hx hb dX5_soil_36 hl (k := 1) rfl rfl (Nat.le_of_ble_eq_true rfl) rfl (fun ls hl => ?_)
      refine lv_goto (tgt := 2) hx hb dX5_soil_39 (by decide) ?_
      exact ih _ _ _ _ _ hw hS (lv_sub hl [1, 0] rfl) hf
set_option maxRecDepth 100000 in
set_option maxHeartbeats 4000000 in
theorem bX5_soil_0 {p : Program} {l : Launch} {e : Env} {s : State} {m : MethodId} {args : Array Value} {below : List Frame} {meth : Method} {c : Code} {D : va_G} {cy : Nat → ClassId} {a : Nat} (hx : p.tables.exec = Jvm.exec) (hb : c.code = cX5_soil) (hr : meth.sig.returnType = none) (hml : c.maxLocals = 2) (hown : s.vm.findClass RX5 = some m.cls) (hts : ∀ w ∈ wsX5_soil, w.before args s = true) (hlocks : meth.locks = false) (hK : KS D cy s) (hZ : ZZ a s s.heap) {out : Mm} : ∀ (M : Mm) (H : Heap) (locs : List Loc) (ls : Array Slot), HP D cy a M H → va_S (Aq a) s.heap H locs → lv_has ls 2 [(0, .ref (a + 0))] → fX5_soil  M = some out → W p l e rX5_soil s m args below meth c H locs 0 0 (MQ below (QV D cy a out) args s 0 0 (Aq a)) (F0 m 0 ls []) := by
  intro M H locs ls hw hS hl hf
  unfold fX5_soil at hf
  refine lv_iconst (v := (0 : Int32)) hx hb dX5_soil_0 (by decide) ?_
  refine lv_istore_n (lv' := [(1, .int (0 : Int32)), (0, .ref (a + 0))]) hx hb dX5_soil_1 rfl hl (Nat.le_of_ble_eq_true rfl) rfl (fun ls hl => ?_)
  exact bX5_soil_2 hx hb hr hml hown hts hlocks hK hZ 400 _ _ _ _ _ hw hS (lv_sub hl [1, 0] rfl) hf
set_option maxRecDepth 100000 in
set_option maxHeartbeats 4000000 in
theorem ctX5_soil {l : Launch} {D : va_G} {cy : Nat → ClassId} {a : Nat} {M : Mm} {out : Mm} (hf : fX5_soil  M = some out) : Met l yX5_soil wsX5_soil rX5_soil (Pre D cy a M [.ref (a + 0)]) (QV D cy a out) 0 0 (Aq a) := by
  refine Met.ofW (cc := cX5_soil) (maxL := 2) (ret := none) (by decide +kernel) rfl ?_
  intro p e s m args below meth c s₁ B hml hv
  obtain ⟨rfl, hw, hK, hZ⟩ := hv
  have hS : va_S (Aq a) s.heap s.heap [] := va_S.rf
  have hl := lv_entry ([.ref (a + 0)]) (n := 2) (Nat.le_of_ble_eq_true rfl)
  rw [lg_entry_eq]
  generalize (lg_sl ([.ref (a + 0)]) ++ List.replicate (2 - (lg_sl ([.ref (a + 0)])).length) Slot.unset).toArray = ls at hl ⊢
  exact bX5_soil_0 B.exec B.bytes B.returns hml (findClass_of_methodNamed B.named) (atoms_spec (ws := wsX5_soil) B.pre) B.notSynchronized hK hZ _ _ _ _ hw hS hl hf
