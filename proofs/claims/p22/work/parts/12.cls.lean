def rX5_product : Room := { frames := 7, cells := 6, slots := 36, locals := 113 }
noncomputable def fX5_product (x1 : Int32) (x2 : Int32) (x3 : Int32) (x4 : Int32) (x5 : Int32) (M : Mm) : Option (Nat × Mm) := ((fX5_checkIndex x1 (6 : Int32) M).bind fun o1 => if o1 = 0 then ((fX5_checkRange x2 (1 : Int32) (10 : Int32) M).bind fun o2 => if o2 = 0 then ((fX5_checkRange x3 (1 : Int32) (10 : Int32) M).bind fun o3 => if o3 = 0 then ((fX5_checkRange x4 (0 : Int32) (9 : Int32) M).bind fun o4 => if o4 = 0 then ((fX5_checkRange x5 (0 : Int32) (63 : Int32) M).bind fun o5 => if o5 = 0 then (if (x5 &&& (ishl (1 : Int32) x1)) = 0 then (if ¬ (x1 < 0 ∨ 6 ≤ x1.toNatClampNeg) then ((fX1_tell x1.toNatClampNeg x2 x3 x4 x5 M).bind fun o8 => some (0, o8)) else none) else some (1, M)) else some (o5, M)) else some (o4, M)) else some (o3, M)) else some (o2, M)) else some (o1, M))
set_option maxRecDepth 20000 in
theorem iX5_product_X5 : ∀ w ∈ wsX50, w ∈ wsX5_product := by decide +kernel
set_option maxRecDepth 20000 in
theorem kX5_product_0 : Cond.fieldLink RX5 17 "BatchPipe" "products" "[LBatchPipe$Product;" ∈ wsX5_product := by decide +kernel
set_option maxRecDepth 20000 in
theorem kX5_product_1 : Cond.initialized RX1 ∈ wsX5_product := by decide +kernel
set_option maxRecDepth 20000 in
theorem kX5_product_2 : Cond.instanceMethod yX1_tell ∈ wsX5_product := by decide +kernel
set_option maxRecDepth 20000 in
theorem kX5_product_3 : Cond.selects RX1 yX1_tell yX1_tell ∈ wsX5_product := by decide +kernel
set_option maxRecDepth 20000 in
theorem kX5_product_4 : Cond.classLink RX5 94 "java/lang/IllegalArgumentException" ∈ wsX5_product := by decide +kernel
set_option maxRecDepth 20000 in
theorem kX5_product_5 : Cond.initialized "java/lang/IllegalArgumentException" ∈ wsX5_product := by decide +kernel
set_option maxRecDepth 20000 in
theorem xX5_product_1 : ∀ w ∈ (vx_atS RX5 98 (exN 1) ["java/lang/RuntimeException", "java/lang/Exception"]).filter goodWord, w ∈ wsX5_product := by decide +kernel
set_option maxRecDepth 100000 in
set_option maxHeartbeats 4000000 in
theorem bX5_product_0 {p : Program} {l : Launch} {e : Env} {s : State} {m : MethodId} {args : Array Value} {below : List Frame} {meth : Method} {c : Code} {D : va_G} {cy : Nat → ClassId} {a : Nat} (hx : p.tables.exec = Jvm.exec) (hb : c.code = cX5_product) (hr : meth.sig.returnType = none) (hml : c.maxLocals = 6) (hown : s.vm.findClass RX5 = some m.cls) (hts : ∀ w ∈ wsX5_product, w.before args s = true) (hlocks : meth.locks = false) (hK : KS D cy s) (hZ : ZZ a s s.heap) (htb : ∀ x ∈ c.exceptionTable.toList, False) (hfl : l.stackTraces = false) {out : Nat × Mm} : ∀ (x1 : Int32) (x2 : Int32) (x3 : Int32) (x4 : Int32) (x5 : Int32) (M : Mm) (H : Heap) (locs : List Loc) (ls : Array Slot), HP D cy a M H → va_S (Aq a) s.heap H locs → lv_has ls 6 [(0, .ref (a + 0)), (1, .int x1), (2, .int x2), (3, .int x3), (4, .int x4), (5, .int x5)] → fX5_product x1 x2 x3 x4 x5 M = some out → W p l e rX5_product s m args below meth c H locs 0 0 (vx_MQ below (QVx D cy a out.1 out.2) (XT D cy a out.1 out.2) args s 6 36 (Aq a)) (F0 m 0 ls []) := by
  intro x1 x2 x3 x4 x5 M H locs ls hw hS hl hf
  unfold fX5_product at hf
  refine lv_aload_n hx hb dX5_product_0 rfl (lv_at hl 0 rfl) ?_
  refine lv_iload_n hx hb dX5_product_1 rfl (lv_at hl 1 rfl) ?_
  refine lv_bipush (v := (6 : Int32)) hx hb dX5_product_2 (by decide) ?_
  obtain ⟨o1, ho1, hf⟩ := ob hf
  refine rxCallV (vx_runV (As := [.int x1, .int (6 : Int32)]) (rest := []) ⟨hx, hb, hml, hown, hts⟩ (ctX5_checkIndex (l := l) (D := D) (cy := cy) (a := a) hfl ho1) (cwV 2 hts gX5_product_X5_checkIndex rfl rfl rfl (by decide +kernel) ⟨Nat.le_of_ble_eq_true rfl, Nat.le_of_ble_eq_true rfl⟩) (pV hK hZ hw hS (rRecv hK hw (Nat.le_of_ble_eq_true rfl) en_pipe rfl)) rfl rfl hl.1 rfl (lv_room (Nat.le_of_ble_eq_true rfl)) dX5_product_4 ⟨Nat.le_of_ble_eq_true rfl, Nat.le_of_ble_eq_true rfl⟩) hS (fun ce q9 H locs hn hw hS h1 h2 h3 => ?_) (fun H locs hn hw hS => ?_)
  · have hf := iq hn hf
    obtain rfl := Option.some.inj hf
    exact rOut htb hlocks hn hw hS h1 h2 h3 (Nat.le_of_ble_eq_true rfl) (Nat.le_of_ble_eq_true rfl)
  · have hf := ip hn hf
    refine lv_aload_n hx hb dX5_product_7 rfl (lv_at hl 0 rfl) ?_
    refine lv_iload_n hx hb dX5_product_8 rfl (lv_at hl 2 rfl) ?_
    refine lv_iconst (v := (1 : Int32)) hx hb dX5_product_9 (by decide) ?_
    refine lv_bipush (v := (10 : Int32)) hx hb dX5_product_10 (by decide) ?_
    obtain ⟨o2, ho2, hf⟩ := ob hf
    refine rxCallV (vx_runV (As := [.int x2, .int (1 : Int32), .int (10 : Int32)]) (rest := []) ⟨hx, hb, hml, hown, hts⟩ (ctX5_checkRange (l := l) (D := D) (cy := cy) (a := a) hfl ho2) (cwV 3 hts gX5_product_X5_checkRange rfl rfl rfl (by decide +kernel) ⟨Nat.le_of_ble_eq_true rfl, Nat.le_of_ble_eq_true rfl⟩) (pV hK hZ hw hS (rRecv hK hw (Nat.le_of_ble_eq_true rfl) en_pipe rfl)) rfl rfl hl.1 rfl (lv_room (Nat.le_of_ble_eq_true rfl)) dX5_product_12 ⟨Nat.le_of_ble_eq_true rfl, Nat.le_of_ble_eq_true rfl⟩) hS (fun ce q9 H locs hn hw hS h1 h2 h3 => ?_) (fun H locs hn hw hS => ?_)
    · have hf := iq hn hf
      obtain rfl := Option.some.inj hf
      exact rOut htb hlocks hn hw hS h1 h2 h3 (Nat.le_of_ble_eq_true rfl) (Nat.le_of_ble_eq_true rfl)
    · have hf := ip hn hf
      refine lv_aload_n hx hb dX5_product_15 rfl (lv_at hl 0 rfl) ?_
      refine lv_iload_n hx hb dX5_product_16 rfl (lv_at hl 3 rfl) ?_
      refine lv_iconst (v := (1 : Int32)) hx hb dX5_product_17 (by decide) ?_
      refine lv_bipush (v := (10 : Int32)) hx hb dX5_product_18 (by decide) ?_
      obtain ⟨o3, ho3, hf⟩ := ob hf
      refine rxCallV (vx_runV (As := [.int x3, .int (1 : Int32), .int (10 : Int32)]) (rest := []) ⟨hx, hb, hml, hown, hts⟩ (ctX5_checkRange (l := l) (D := D) (cy := cy) (a := a) hfl ho3) (cwV 3 hts gX5_product_X5_checkRange rfl rfl rfl (by decide +kernel) ⟨Nat.le_of_ble_eq_true rfl, Nat.le_of_ble_eq_true rfl⟩) (pV hK hZ hw hS (rRecv hK hw (Nat.le_of_ble_eq_true rfl) en_pipe rfl)) rfl rfl hl.1 rfl (lv_room (Nat.le_of_ble_eq_true rfl)) dX5_product_20 ⟨Nat.le_of_ble_eq_true rfl, Nat.le_of_ble_eq_true rfl⟩) hS (fun ce q9 H locs hn hw hS h1 h2 h3 => ?_) (fun H locs hn hw hS => ?_)
      · have hf := iq hn hf
        obtain rfl := Option.some.inj hf
        exact rOut htb hlocks hn hw hS h1 h2 h3 (Nat.le_of_ble_eq_true rfl) (Nat.le_of_ble_eq_true rfl)
      · have hf := ip hn hf
        refine lv_aload_n hx hb dX5_product_23 rfl (lv_at hl 0 rfl) ?_
        refine lv_iload hx hb dX5_product_24 (lv_at hl 4 rfl) ?_
        refine lv_iconst (v := (0 : Int32)) hx hb dX5_product_26 (by decide) ?_
        refine lv_bipush (v := (9 : Int32)) hx hb dX5_product_27 (by decide) ?_
        obtain ⟨o4, ho4, hf⟩ := ob hf
        refine rxCallV (vx_runV (As := [.int x4, .int (0 : Int32), .int (9 : Int32)]) (rest := []) ⟨hx, hb, hml, hown, hts⟩ (ctX5_checkRange (l := l) (D := D) (cy := cy) (a := a) hfl ho4) (cwV 3 hts gX5_product_X5_checkRange rfl rfl rfl (by decide +kernel) ⟨Nat.le_of_ble_eq_true rfl, Nat.le_of_ble_eq_true rfl⟩) (pV hK hZ hw hS (rRecv hK hw (Nat.le_of_ble_eq_true rfl) en_pipe rfl)) rfl rfl hl.1 rfl (lv_room (Nat.le_of_ble_eq_true rfl)) dX5_product_29 ⟨Nat.le_of_ble_eq_true rfl, Nat.le_of_ble_eq_true rfl⟩) hS (fun ce q9 H locs hn hw hS h1 h2 h3 => ?_) (fun H locs hn hw hS => ?_)
        · have hf := iq hn hf
          obtain rfl := Option.some.inj hf
          exact rOut htb hlocks hn hw hS h1 h2 h3 (Nat.le_of_ble_eq_true rfl) (Nat.le_of_ble_eq_true rfl)
        · have hf := ip hn hf
          refine lv_aload_n hx hb dX5_product_32 rfl (lv_at hl 0 rfl) ?_
          refine lv_iload hx hb dX5_product_33 (lv_at hl 5 rfl) ?_
          refine lv_iconst (v := (0 : Int32)) hx hb dX5_product_35 (by decide) ?_
          refine lv_bipush (v := (63 : Int32)) hx hb dX5_product_36 (by decide) ?_
          obtain ⟨o5, ho5, hf⟩ := ob hf
          refine rxCallV (vx_runV (As := [.int x5, .int (0 : Int32), .int (63 : Int32)]) (rest := []) ⟨hx, hb, hml, hown, hts⟩ (ctX5_checkRange (l := l) (D := D) (cy := cy) (a := a) hfl ho5) (cwV 3 hts gX5_product_X5_checkRange rfl rfl rfl (by decide +kernel) ⟨Nat.le_of_ble_eq_true rfl, Nat.le_of_ble_eq_true rfl⟩) (pV hK hZ hw hS (rRecv hK hw (Nat.le_of_ble_eq_true rfl) en_pipe rfl)) rfl rfl hl.1 rfl (lv_room (Nat.le_of_ble_eq_true rfl)) dX5_product_38 ⟨Nat.le_of_ble_eq_true rfl, Nat.le_of_ble_eq_true rfl⟩) hS (fun ce q9 H locs hn hw hS h1 h2 h3 => ?_) (fun H locs hn hw hS => ?_)
          · have hf := iq hn hf
            obtain rfl := Option.some.inj hf
            exact rOut htb hlocks hn hw hS h1 h2 h3 (Nat.le_of_ble_eq_true rfl) (Nat.le_of_ble_eq_true rfl)
          · have hf := ip hn hf
            refine lv_iload hx hb dX5_product_41 (lv_at hl 5 rfl) ?_
            refine lv_iconst (v := (1 : Int32)) hx hb dX5_product_43 (by decide) ?_
            refine lv_iload_n hx hb dX5_product_44 rfl (lv_at hl 1 rfl) ?_
            refine lv_ishl hx hb dX5_product_45 ?_
            refine lv_iand hx hb dX5_product_46 ?_
            refine lv_if_eq (tgt := 60) hx hb dX5_product_47 (by decide) (fun c6 => ?_) (fun c6 => ?_)
            · have hf := ip c6 hf
              refine lv_aload_n hx hb dX5_product_60 rfl (lv_at hl 0 rfl) ?_
              refine rGet hx hb hts iX5_product_X5 hown hK hw (Nat.le_of_ble_eq_true rfl) en_pipe rfl 1 (by decide) (hts _ kX5_product_0) rfl rfl dX5_product_61 ?_
              refine lv_iload_n hx hb dX5_product_64 rfl (lv_at hl 1 rfl) ?_
              obtain ⟨hg7, hf⟩ := og hf
              refine rAald hx hb hK hw (k := 2) (Nat.le_of_ble_eq_true rfl) 3 en_prods rfl hg7 dX5_product_65 ?_
              refine lv_iload_n hx hb dX5_product_66 rfl (lv_at hl 2 rfl) ?_
              refine lv_iload_n hx hb dX5_product_67 rfl (lv_at hl 3 rfl) ?_
              refine lv_iload hx hb dX5_product_68 (lv_at hl 4 rfl) ?_
              refine lv_iload hx hb dX5_product_70 (lv_at hl 5 rfl) ?_
              obtain ⟨o8, ho8, hf⟩ := ob hf
              refine rCallV (va_runVN (As := [.int x2, .int x3, .int x4, .int x5]) (rest := []) ⟨hx, hb, hml, hown, hts⟩ (ctX1_tell (l := l) (D := D) (cy := cy) (a := a) ho8) ⟨va_cnB 4 hts gX5_product_X1_tell_n99 rfl rfl rfl (hK.2.2.1 _ nwM_99) (hts _ kX5_product_1) (by decide +kernel) ⟨Nat.le_of_ble_eq_true rfl, Nat.le_of_ble_eq_true rfl⟩, (hts _ kX5_product_2), (hts _ kX5_product_3)⟩ (pV hK hZ hw hS (rRecv hK hw (kprod (vi hg7)) (en_prod (vi hg7)) rfl)) rfl rfl hl.1 rfl (lv_room (Nat.le_of_ble_eq_true rfl)) dX5_product_72 ⟨Nat.le_of_ble_eq_true rfl, Nat.le_of_ble_eq_true rfl⟩) hS (fun H locs hw hS => ?_)
              obtain rfl := Option.some.inj hf
              refine W.widen (k := 6) (n := 36) (Nat.le_of_ble_eq_true rfl) (Nat.le_of_ble_eq_true rfl) ?_
              exact rxVret hx hb hr hlocks hw hS dX5_product_75
            · have hf := iq c6 hf
              obtain rfl := Option.some.inj hf
              exact rThrow hx hb hfl 1 (by decide) (by decide +kernel) hts hown hK hZ hw hS kX5_product_4 kX5_product_5 nwS_96 xX5_product_1 xbad_1_98 xgood_1_98_94 hml hl dX5_product_50 dX5_product_53 dX5_product_54 dX5_product_56 dX5_product_59 htb (Nat.le_of_ble_eq_true rfl) (Nat.le_of_ble_eq_true rfl) (Nat.le_of_ble_eq_true rfl) (Nat.le_of_ble_eq_true rfl) hlocks (Nat.le_of_ble_eq_true rfl) (Nat.le_of_ble_eq_true rfl)
set_option maxRecDepth 100000 in
set_option maxHeartbeats 4000000 in
theorem ctX5_product {l : Launch} {D : va_G} {cy : Nat → ClassId} {a : Nat} (hfl : l.stackTraces = false) {x1 : Int32} {x2 : Int32} {x3 : Int32} {x4 : Int32} {x5 : Int32} {M : Mm} {out : Nat × Mm} (hf : fX5_product x1 x2 x3 x4 x5 M = some out) : vx_Met l yX5_product wsX5_product rX5_product (Pre D cy a M [.ref (a + 0), .int x1, .int x2, .int x3, .int x4, .int x5]) (QVx D cy a out.1 out.2) (XT D cy a out.1 out.2) 6 36 (Aq a) := by
  refine vx_ofW (cc := cX5_product) (maxL := 6) (ret := none) (by decide +kernel) rfl ?_
  intro p e s m args below meth c s₁ B hml htb hv
  obtain ⟨rfl, hw, hK, hZ⟩ := hv
  have hS : va_S (Aq a) s.heap s.heap [] := va_S.rf
  have hl := lv_entry ([.ref (a + 0), .int x1, .int x2, .int x3, .int x4, .int x5]) (n := 6) (Nat.le_of_ble_eq_true rfl)
  rw [lg_entry_eq]
  generalize (lg_sl ([.ref (a + 0), .int x1, .int x2, .int x3, .int x4, .int x5]) ++ List.replicate (6 - (lg_sl ([.ref (a + 0), .int x1, .int x2, .int x3, .int x4, .int x5])).length) Slot.unset).toArray = ls at hl ⊢
  exact bX5_product_0 B.exec B.bytes B.returns hml (findClass_of_methodNamed B.named) (atoms_spec (ws := wsX5_product) B.pre) B.notSynchronized hK hZ htb hfl _ _ _ _ _ _ _ _ _ hw hS hl hf
def rX5_fillSegments : Room := { frames := 1, cells := 0, slots := 0, locals := 23 }
noncomputable def fX5_fillSegments_L9 : Nat → Int32 → Int32 → Int32 → Mm → Option (Int32 × Mm)
  | 0 => fun _ _ _ _ => none
  | n + 1 => fun x1 x2 x3 M => (if x3 < 0 then some (x2, M) else (if ¬ (x3 < 0 ∨ 6 ≤ x3.toNatClampNeg) then ((fX2_fill x3.toNatClampNeg x2 x1 M).bind fun o3 => (if ¬ (x3 < 0 ∨ 6 ≤ x3.toNatClampNeg) then (fX5_fillSegments_L9 n) x1 (x2 + (gi o3 (9 + 3 * x3.toNatClampNeg) 3)) (x3 + (-1 : Int32)) o3 else none)) else none))
noncomputable def fX5_fillSegments (x1 : Int32) (M : Mm) : Option (Int32 × Mm) := fX5_fillSegments_L9 400 x1 (0 : Int32) ((gi M 0 8) - (1 : Int32)) M
set_option maxRecDepth 20000 in
theorem iX5_fillSegments_X2 : ∀ w ∈ wsX20, w ∈ wsX5_fillSegments := by decide +kernel
set_option maxRecDepth 20000 in
theorem iX5_fillSegments_X5 : ∀ w ∈ wsX50, w ∈ wsX5_fillSegments := by decide +kernel
set_option maxRecDepth 20000 in
theorem kX5_fillSegments_0 : Cond.fieldLink RX5 11 "BatchPipe" "segments" "[LBatchPipe$Segment;" ∈ wsX5_fillSegments := by decide +kernel
set_option maxRecDepth 20000 in
theorem kX5_fillSegments_1 : Cond.initialized RX2 ∈ wsX5_fillSegments := by decide +kernel
set_option maxRecDepth 20000 in
theorem kX5_fillSegments_2 : Cond.instanceMethod yX2_fill ∈ wsX5_fillSegments := by decide +kernel
set_option maxRecDepth 20000 in
theorem kX5_fillSegments_3 : Cond.selects RX2 yX2_fill yX2_fill ∈ wsX5_fillSegments := by decide +kernel
set_option maxRecDepth 20000 in
theorem kX5_fillSegments_4 : Cond.fieldLink RX5 77 "BatchPipe" "segmentCount" "I" ∈ wsX5_fillSegments := by decide +kernel
set_option maxRecDepth 100000 in
set_option maxHeartbeats 4000000 in
theorem bX5_fillSegments_9 {p : Program} {l : Launch} {e : Env} {s : State} {m : MethodId} {args : Array Value} {below : List Frame} {meth : Method} {c : Code} {D : va_G} {cy : Nat → ClassId} {a : Nat} (hx : p.tables.exec = Jvm.exec) (hb : c.code = cX5_fillSegments) (hr : meth.sig.returnType = (some .int)) (hml : c.maxLocals = 4) (hown : s.vm.findClass RX5 = some m.cls) (hts : ∀ w ∈ wsX5_fillSegments, w.before args s = true) (hlocks : meth.locks = false) (hK : KS D cy s) (hZ : ZZ a s s.heap) {out : Int32 × Mm} : ∀ (n : Nat), ∀ (x1 : Int32) (x2 : Int32) (x3 : Int32) (M : Mm) (H : Heap) (locs : List Loc) (ls : Array Slot), HP D cy a M H → va_S (Aq a) s.heap H locs → lv_has ls 4 [(0, .ref (a + 0)), (1, .int x1), (2, .int x2), (3, .int x3)] → fX5_fillSegments_L9 n x1 x2 x3 M = some out → W p l e rX5_fillSegments s m args below meth c H locs 0 0 (MQ below (QI D cy a out.1 out.2) args s 0 0 (Aq a)) (F0 m 9 ls []) := by
  intro n
  induction n with
  | zero =>
    intro x1 x2 x3 M H locs ls hw hS hl hf
    have hf : (none : Option (Int32 × Mm)) = some out := hf
    cases hf
  | succ n ih =>
    intro x1 x2 x3 M H locs ls hw hS hl hf
    unfold fX5_fillSegments_L9 at hf
    refine lv_iload_n hx hb dX5_fillSegments_9 rfl (lv_at hl 3 rfl) ?_
    refine lv_if_lt (tgt := 42) hx hb dX5_fillSegments_10 (by decide) (fun c1 => ?_) (fun c1 => ?_)
    · have hf := ip c1 hf
      refine lv_iload_n hx hb dX5_fillSegments_42 rfl (lv_at hl 2 rfl) ?_
      obtain rfl := Option.some.inj hf
      exact rIret hx hb hr hlocks hw hS dX5_fillSegments_43
    · have hf := iq c1 hf
      refine lv_aload_n hx hb dX5_fillSegments_13 rfl (lv_at hl 0 rfl) ?_
      refine rGet hx hb hts iX5_fillSegments_X5 hown hK hw (Nat.le_of_ble_eq_true rfl) en_pipe rfl 0 (by decide) (hts _ kX5_fillSegments_0) rfl rfl dX5_fillSegments_14 ?_
      refine lv_iload_n hx hb dX5_fillSegments_17 rfl (lv_at hl 3 rfl) ?_
      obtain ⟨hg2, hf⟩ := og hf
      refine rAald hx hb hK hw (k := 1) (Nat.le_of_ble_eq_true rfl) 2 en_segs rfl hg2 dX5_fillSegments_18 ?_
      refine lv_iload_n hx hb dX5_fillSegments_19 rfl (lv_at hl 2 rfl) ?_
      refine lv_iload_n hx hb dX5_fillSegments_20 rfl (lv_at hl 1 rfl) ?_
      obtain ⟨o3, ho3, hf⟩ := ob hf
      refine rCallV (va_runVN (As := [.int x2, .int x1]) (rest := []) ⟨hx, hb, hml, hown, hts⟩ (ctX2_fill (l := l) (D := D) (cy := cy) (a := a) ho3) ⟨va_cnB 2 hts gX5_fillSegments_X2_fill_n243 rfl rfl rfl (hK.2.2.1 _ nwM_243) (hts _ kX5_fillSegments_1) (by decide +kernel) ⟨Nat.le_of_ble_eq_true rfl, Nat.le_of_ble_eq_true rfl⟩, (hts _ kX5_fillSegments_2), (hts _ kX5_fillSegments_3)⟩ (pV hK hZ hw hS (rRecv hK hw (kseg (vi hg2)) (en_seg (vi hg2)) rfl)) rfl rfl hl.1 rfl (lv_room (Nat.le_of_ble_eq_true rfl)) dX5_fillSegments_21 ⟨Nat.le_of_ble_eq_true rfl, Nat.le_of_ble_eq_true rfl⟩) hS (fun H locs hw hS => ?_)
      refine lv_iload_n hx hb dX5_fillSegments_24 rfl (lv_at hl 2 rfl) ?_
      refine lv_aload_n hx hb dX5_fillSegments_25 rfl (lv_at hl 0 rfl) ?_
      refine rGet hx hb hts iX5_fillSegments_X5 hown hK hw (Nat.le_of_ble_eq_true rfl) en_pipe rfl 0 (by decide) (hts _ kX5_fillSegments_0) rfl rfl dX5_fillSegments_26 ?_
      refine lv_iload_n hx hb dX5_fillSegments_29 rfl (lv_at hl 3 rfl) ?_
      obtain ⟨hg4, hf⟩ := og hf
      refine rAald hx hb hK hw (k := 1) (Nat.le_of_ble_eq_true rfl) 2 en_segs rfl hg4 dX5_fillSegments_30 ?_
      refine rGetNI hx hb hts iX5_fillSegments_X2 hown hK hw (kseg (vi hg4)) (en_seg (vi hg4)) rfl 3 (by decide) nwF_178 rfl ge2_3 dX5_fillSegments_31 ?_
      refine lv_iadd hx hb dX5_fillSegments_34 ?_
      refine lv_istore_n (lv' := [(2, .int (x2 + (gi o3 (9 + 3 * x3.toNatClampNeg) 3))), (0, .ref (a + 0)), (1, .int x1), (3, .int x3)]) hx hb dX5_fillSegments_35 rfl hl (Nat.le_of_ble_eq_true rfl) rfl (fun ls hl => ?_)
      refine lv_iinc (v := x3 + (-1 : Int32)) (lv' := [(3, .int (x3 + (-1 : Int32))), (2, .int (x2 + (gi o3 (9 + 3 * x3.toNatClampNeg) 3))), (0, .ref (a + 0)), (1, .int x1)]) hx hb dX5_fillSegments_36 hl (k := 3) rfl rfl (Nat.le_of_ble_eq_true rfl) rfl (fun ls hl => ?_)
      refine lv_goto (tgt := 9) hx hb dX5_fillSegments_39 (by decide) ?_
      exact ih _ _ _ _ _ _ _ hw hS (lv_sub hl [2, 3, 1, 0] rfl) hf
set_option maxRecDepth 100000 in
set_option maxHeartbeats 4000000 in
theorem bX5_fillSegments_0 {p : Program} {l : Launch} {e : Env} {s : State} {m : MethodId} {args : Array Value} {below : List Frame} {meth : Method} {c : Code} {D : va_G} {cy : Nat → ClassId} {a : Nat} (hx : p.tables.exec = Jvm.exec) (hb : c.code = cX5_fillSegments) (hr : meth.sig.returnType = (some .int)) (hml : c.maxLocals = 4) (hown : s.vm.findClass RX5 = some m.cls) (hts : ∀ w ∈ wsX5_fillSegments, w.before args s = true) (hlocks : meth.locks = false) (hK : KS D cy s) (hZ : ZZ a s s.heap) {out : Int32 × Mm} : ∀ (x1 : Int32) (M : Mm) (H : Heap) (locs : List Loc) (ls : Array Slot), HP D cy a M H → va_S (Aq a) s.heap H locs → lv_has ls 4 [(0, .ref (a + 0)), (1, .int x1)] → fX5_fillSegments x1 M = some out → W p l e rX5_fillSegments s m args below meth c H locs 0 0 (MQ below (QI D cy a out.1 out.2) args s 0 0 (Aq a)) (F0 m 0 ls []) := by
  intro x1 M H locs ls hw hS hl hf
  unfold fX5_fillSegments at hf
  refine lv_iconst (v := (0 : Int32)) hx hb dX5_fillSegments_0 (by decide) ?_
  refine lv_istore_n (lv' := [(2, .int (0 : Int32)), (0, .ref (a + 0)), (1, .int x1)]) hx hb dX5_fillSegments_1 rfl hl (Nat.le_of_ble_eq_true rfl) rfl (fun ls hl => ?_)
  refine lv_aload_n hx hb dX5_fillSegments_2 rfl (lv_at hl 1 rfl) ?_
  refine rGetI hx hb hts iX5_fillSegments_X5 hown hK hw (Nat.le_of_ble_eq_true rfl) en_pipe rfl 8 (by decide) (hts _ kX5_fillSegments_4) rfl ge5_8 dX5_fillSegments_3 ?_
  refine lv_iconst (v := (1 : Int32)) hx hb dX5_fillSegments_6 (by decide) ?_
  refine lv_isub hx hb dX5_fillSegments_7 ?_
  refine lv_istore_n (lv' := [(3, .int ((gi M 0 8) - (1 : Int32))), (2, .int (0 : Int32)), (0, .ref (a + 0)), (1, .int x1)]) hx hb dX5_fillSegments_8 rfl hl (Nat.le_of_ble_eq_true rfl) rfl (fun ls hl => ?_)
  exact bX5_fillSegments_9 hx hb hr hml hown hts hlocks hK hZ 400 _ _ _ _ _ _ _ hw hS (lv_sub hl [2, 3, 1, 0] rfl) hf
set_option maxRecDepth 100000 in
set_option maxHeartbeats 4000000 in
theorem ctX5_fillSegments {l : Launch} {D : va_G} {cy : Nat → ClassId} {a : Nat} {x1 : Int32} {M : Mm} {out : Int32 × Mm} (hf : fX5_fillSegments x1 M = some out) : Met l yX5_fillSegments wsX5_fillSegments rX5_fillSegments (Pre D cy a M [.ref (a + 0), .int x1]) (QI D cy a out.1 out.2) 0 0 (Aq a) := by
  refine Met.ofW (cc := cX5_fillSegments) (maxL := 4) (ret := (some .int)) (by decide +kernel) rfl ?_
  intro p e s m args below meth c s₁ B hml hv
  obtain ⟨rfl, hw, hK, hZ⟩ := hv
  have hS : va_S (Aq a) s.heap s.heap [] := va_S.rf
  have hl := lv_entry ([.ref (a + 0), .int x1]) (n := 4) (Nat.le_of_ble_eq_true rfl)
  rw [lg_entry_eq]
  generalize (lg_sl ([.ref (a + 0), .int x1]) ++ List.replicate (4 - (lg_sl ([.ref (a + 0), .int x1])).length) Slot.unset).toArray = ls at hl ⊢
  exact bX5_fillSegments_0 B.exec B.bytes B.returns hml (findClass_of_methodNamed B.named) (atoms_spec (ws := wsX5_fillSegments) B.pre) B.notSynchronized hK hZ _ _ _ _ _ hw hS hl hf
def rX5_open : Room := { frames := 7, cells := 2, slots := 12, locals := 112 }
noncomputable def fX5_open (x1 : Int32) (M : Mm) : Option (Nat × Int32 × Mm) := ((fX5_checkIndex x1 (6 : Int32) M).bind fun o1 => if o1 = 0 then (if (gi M 0 10) = 0 then (if (gi M 0 8) = 0 then some (2, 0, M) else ((fX5_fillSegments x1 M).bind fun o4 => (if ¬ ((0 : Int32) < 0 ∨ 40 ≤ (0 : Int32).toNatClampNeg) then (if ¬ (x1 < 0 ∨ 6 ≤ x1.toNatClampNeg) then ((fX0_tell ((0 : Int32).toNatClampNeg) (-1 : Int32) x1.toNatClampNeg o4.1 o4.2).bind fun o7 => (if ¬ ((0 : Int32) < 0 ∨ 40 ≤ (0 : Int32).toNatClampNeg) then ((fX4_tell 2 ((gi (si o7 (33 + ((0 : Int32).toNatClampNeg)) 4 o4.1) 0 8) - (1 : Int32)) (10 : Int32) (gi (si o7 (33 + ((0 : Int32).toNatClampNeg)) 4 o4.1) (6 + 2) 2) (si o7 (33 + ((0 : Int32).toNatClampNeg)) 4 o4.1)).bind fun o9 => some (0, o4.1, si o9 0 10 (1 : Int32))) else none)) else none) else none))) else some (2, 0, M)) else some (o1, 0, M))
set_option maxRecDepth 20000 in
theorem iX5_open_X0 : ∀ w ∈ wsX00, w ∈ wsX5_open := by decide +kernel
set_option maxRecDepth 20000 in
theorem iX5_open_X4 : ∀ w ∈ wsX40, w ∈ wsX5_open := by decide +kernel
set_option maxRecDepth 20000 in
theorem iX5_open_X5 : ∀ w ∈ wsX50, w ∈ wsX5_open := by decide +kernel
set_option maxRecDepth 20000 in
theorem kX5_open_0 : Cond.fieldLink RX5 73 "BatchPipe" "isOpen" "Z" ∈ wsX5_open := by decide +kernel
set_option maxRecDepth 20000 in
theorem kX5_open_1 : Cond.classLink RX5 80 "java/lang/IllegalStateException" ∈ wsX5_open := by decide +kernel
set_option maxRecDepth 20000 in
theorem kX5_open_2 : Cond.initialized "java/lang/IllegalStateException" ∈ wsX5_open := by decide +kernel
set_option maxRecDepth 20000 in
theorem kX5_open_3 : Cond.fieldLink RX5 77 "BatchPipe" "segmentCount" "I" ∈ wsX5_open := by decide +kernel
set_option maxRecDepth 20000 in
theorem kX5_open_4 : Cond.fieldLink RX5 23 "BatchPipe" "batches" "[LBatchPipe$Batch;" ∈ wsX5_open := by decide +kernel
set_option maxRecDepth 20000 in
theorem kX5_open_5 : Cond.fieldLink RX5 17 "BatchPipe" "products" "[LBatchPipe$Product;" ∈ wsX5_open := by decide +kernel
set_option maxRecDepth 20000 in
theorem kX5_open_6 : Cond.initialized RX0 ∈ wsX5_open := by decide +kernel
set_option maxRecDepth 20000 in
theorem kX5_open_7 : Cond.instanceMethod yX0_tell ∈ wsX5_open := by decide +kernel
set_option maxRecDepth 20000 in
theorem kX5_open_8 : Cond.selects RX0 yX0_tell yX0_tell ∈ wsX5_open := by decide +kernel
set_option maxRecDepth 20000 in
theorem kX5_open_9 : Cond.fieldLink RX5 47 "BatchPipe" "outlet" "LBatchPipe$Tap;" ∈ wsX5_open := by decide +kernel
set_option maxRecDepth 20000 in
theorem kX5_open_10 : Cond.initialized RX4 ∈ wsX5_open := by decide +kernel
set_option maxRecDepth 20000 in
theorem kX5_open_11 : Cond.instanceMethod yX4_tell ∈ wsX5_open := by decide +kernel
set_option maxRecDepth 20000 in
theorem kX5_open_12 : Cond.selects RX4 yX4_tell yX4_tell ∈ wsX5_open := by decide +kernel
set_option maxRecDepth 20000 in
theorem xX5_open_2 : ∀ w ∈ (vx_atS RX5 84 (exN 2) ["java/lang/RuntimeException", "java/lang/Exception"]).filter goodWord, w ∈ wsX5_open := by decide +kernel
set_option maxRecDepth 100000 in
set_option maxHeartbeats 4000000 in
theorem bX5_open_0 {p : Program} {l : Launch} {e : Env} {s : State} {m : MethodId} {args : Array Value} {below : List Frame} {meth : Method} {c : Code} {D : va_G} {cy : Nat → ClassId} {a : Nat} (hx : p.tables.exec = Jvm.exec) (hb : c.code = cX5_open) (hr : meth.sig.returnType = (some .int)) (hml : c.maxLocals = 3) (hown : s.vm.findClass RX5 = some m.cls) (hts : ∀ w ∈ wsX5_open, w.before args s = true) (hlocks : meth.locks = false) (hK : KS D cy s) (hZ : ZZ a s s.heap) (htb : ∀ x ∈ c.exceptionTable.toList, False) (hfl : l.stackTraces = false) {out : Nat × Int32 × Mm} : ∀ (x1 : Int32) (M : Mm) (H : Heap) (locs : List Loc) (ls : Array Slot), HP D cy a M H → va_S (Aq a) s.heap H locs → lv_has ls 3 [(0, .ref (a + 0)), (1, .int x1)] → fX5_open x1 M = some out → W p l e rX5_open s m args below meth c H locs 0 0 (vx_MQ below (QIx D cy a out.1 out.2.1 out.2.2) (XT D cy a out.1 out.2.2) args s 2 12 (Aq a)) (F0 m 0 ls []) := by
  intro x1 M H locs ls hw hS hl hf
  unfold fX5_open at hf
  refine lv_aload_n hx hb dX5_open_0 rfl (lv_at hl 0 rfl) ?_
  refine lv_iload_n hx hb dX5_open_1 rfl (lv_at hl 1 rfl) ?_
  refine lv_bipush (v := (6 : Int32)) hx hb dX5_open_2 (by decide) ?_
  obtain ⟨o1, ho1, hf⟩ := ob hf
  refine rxCallV (vx_runV (As := [.int x1, .int (6 : Int32)]) (rest := []) ⟨hx, hb, hml, hown, hts⟩ (ctX5_checkIndex (l := l) (D := D) (cy := cy) (a := a) hfl ho1) (cwV 2 hts gX5_open_X5_checkIndex rfl rfl rfl (by decide +kernel) ⟨Nat.le_of_ble_eq_true rfl, Nat.le_of_ble_eq_true rfl⟩) (pV hK hZ hw hS (rRecv hK hw (Nat.le_of_ble_eq_true rfl) en_pipe rfl)) rfl rfl hl.1 rfl (lv_room (Nat.le_of_ble_eq_true rfl)) dX5_open_4 ⟨Nat.le_of_ble_eq_true rfl, Nat.le_of_ble_eq_true rfl⟩) hS (fun ce q9 H locs hn hw hS h1 h2 h3 => ?_) (fun H locs hn hw hS => ?_)
  · have hf := iq hn hf
    obtain rfl := Option.some.inj hf
    exact rOut htb hlocks hn hw hS h1 h2 h3 (Nat.le_of_ble_eq_true rfl) (Nat.le_of_ble_eq_true rfl)
  · have hf := ip hn hf
    refine lv_aload_n hx hb dX5_open_7 rfl (lv_at hl 0 rfl) ?_
    refine rGetI hx hb hts iX5_open_X5 hown hK hw (Nat.le_of_ble_eq_true rfl) en_pipe rfl 10 (by decide) (hts _ kX5_open_0) rfl ge5_10 dX5_open_8 ?_
    refine lv_if_ne (tgt := 21) hx hb dX5_open_11 (by decide) (fun c2 => ?_) (fun c2 => ?_)
    · have hf := iq c2 hf
      obtain rfl := Option.some.inj hf
      exact rThrow hx hb hfl 2 (by decide) (by decide +kernel) hts hown hK hZ hw hS kX5_open_1 kX5_open_2 nwS_102 xX5_open_2 xbad_2_84 xgood_2_84_80 hml hl dX5_open_21 dX5_open_24 dX5_open_25 dX5_open_27 dX5_open_30 htb (Nat.le_of_ble_eq_true rfl) (Nat.le_of_ble_eq_true rfl) (Nat.le_of_ble_eq_true rfl) (Nat.le_of_ble_eq_true rfl) hlocks (Nat.le_of_ble_eq_true rfl) (Nat.le_of_ble_eq_true rfl)
    · have hf := ip c2 hf
      refine lv_aload_n hx hb dX5_open_14 rfl (lv_at hl 0 rfl) ?_
      refine rGetI hx hb hts iX5_open_X5 hown hK hw (Nat.le_of_ble_eq_true rfl) en_pipe rfl 8 (by decide) (hts _ kX5_open_3) rfl ge5_8 dX5_open_15 ?_
      refine lv_if_ne (tgt := 31) hx hb dX5_open_18 (by decide) (fun c3 => ?_) (fun c3 => ?_)
      · have hf := iq c3 hf
        refine lv_aload_n hx hb dX5_open_31 rfl (lv_at hl 0 rfl) ?_
        refine lv_iload_n hx hb dX5_open_32 rfl (lv_at hl 1 rfl) ?_
        obtain ⟨o4, ho4, hf⟩ := ob hf
        refine rCallI (va_runV (As := [.int x1]) (rest := []) ⟨hx, hb, hml, hown, hts⟩ (ctX5_fillSegments (l := l) (D := D) (cy := cy) (a := a) ho4) (cwV 1 hts gX5_open_X5_fillSegments rfl rfl rfl (by decide +kernel) ⟨Nat.le_of_ble_eq_true rfl, Nat.le_of_ble_eq_true rfl⟩) (pV hK hZ hw hS (rRecv hK hw (Nat.le_of_ble_eq_true rfl) en_pipe rfl)) rfl rfl hl.1 rfl (lv_room (Nat.le_of_ble_eq_true rfl)) dX5_open_33 ⟨Nat.le_of_ble_eq_true rfl, Nat.le_of_ble_eq_true rfl⟩) hS (fun H locs hw hS => ?_)
        refine lv_istore_n (lv' := [(2, .int o4.1), (0, .ref (a + 0)), (1, .int x1)]) hx hb dX5_open_36 rfl hl (Nat.le_of_ble_eq_true rfl) rfl (fun ls hl => ?_)
        refine lv_aload_n hx hb dX5_open_37 rfl (lv_at hl 1 rfl) ?_
        refine rGet hx hb hts iX5_open_X5 hown hK hw (Nat.le_of_ble_eq_true rfl) en_pipe rfl 2 (by decide) (hts _ kX5_open_4) rfl rfl dX5_open_38 ?_
        refine lv_iconst (v := (0 : Int32)) hx hb dX5_open_41 (by decide) ?_
        obtain ⟨hg5, hf⟩ := og hf
        refine rAald hx hb hK hw (k := 3) (Nat.le_of_ble_eq_true rfl) 4 en_bats rfl hg5 dX5_open_42 ?_
        refine lv_iconst (v := (-1 : Int32)) hx hb dX5_open_43 (by decide) ?_
        refine lv_aload_n hx hb dX5_open_44 rfl (lv_at hl 1 rfl) ?_
        refine rGet hx hb hts iX5_open_X5 hown hK hw (Nat.le_of_ble_eq_true rfl) en_pipe rfl 1 (by decide) (hts _ kX5_open_5) rfl rfl dX5_open_45 ?_
        refine lv_iload_n hx hb dX5_open_48 rfl (lv_at hl 2 rfl) ?_
        obtain ⟨hg6, hf⟩ := og hf
        refine rAald hx hb hK hw (k := 2) (Nat.le_of_ble_eq_true rfl) 3 en_prods rfl hg6 dX5_open_49 ?_
        refine lv_iload_n hx hb dX5_open_50 rfl (lv_at hl 0 rfl) ?_
        obtain ⟨o7, ho7, hf⟩ := ob hf
        refine rCallV (va_runVN (As := [.int (-1 : Int32), .ref (a + (27 + x1.toNatClampNeg)), .int o4.1]) (rest := []) ⟨hx, hb, hml, hown, hts⟩ (ctX0_tell (l := l) (D := D) (cy := cy) (a := a) ho7) ⟨va_cnB 3 hts gX5_open_X0_tell_n108 rfl rfl rfl (hK.2.2.1 _ nwM_108) (hts _ kX5_open_6) (by decide +kernel) ⟨Nat.le_of_ble_eq_true rfl, Nat.le_of_ble_eq_true rfl⟩, (hts _ kX5_open_7), (hts _ kX5_open_8)⟩ (pV hK hZ hw hS (rRecv hK hw (kbat (vi hg5)) (en_bat (vi hg5)) rfl)) rfl rfl hl.1 rfl (lv_room (Nat.le_of_ble_eq_true rfl)) dX5_open_51 ⟨Nat.le_of_ble_eq_true rfl, Nat.le_of_ble_eq_true rfl⟩) hS (fun H locs hw hS => ?_)
        refine lv_aload_n hx hb dX5_open_54 rfl (lv_at hl 1 rfl) ?_
        refine rGet hx hb hts iX5_open_X5 hown hK hw (Nat.le_of_ble_eq_true rfl) en_pipe rfl 2 (by decide) (hts _ kX5_open_4) rfl rfl dX5_open_55 ?_
        refine lv_iconst (v := (0 : Int32)) hx hb dX5_open_58 (by decide) ?_
        obtain ⟨hg8, hf⟩ := og hf
        refine rAald hx hb hK hw (k := 3) (Nat.le_of_ble_eq_true rfl) 4 en_bats rfl hg8 dX5_open_59 ?_
        refine lv_iload_n hx hb dX5_open_60 rfl (lv_at hl 0 rfl) ?_
        refine rPutN hx hb hts iX5_open_X0 tyX0 tyX0_ok nmX0 hown hK hw hS (kbat (vi hg8)) (en_bat (vi hg8)) rfl 4 (by decide) nwF_111 rfl rfl rfl rfl (Nat.le_of_ble_eq_true rfl) (hs0_4 (vi hg8)) dX5_open_61 (fun H locs hw hS => ?_)
        refine lv_aload_n hx hb dX5_open_64 rfl (lv_at hl 1 rfl) ?_
        refine rGet hx hb hts iX5_open_X5 hown hK hw (Nat.le_of_ble_eq_true rfl) en_pipe rfl 7 (by decide) (hts _ kX5_open_9) rfl rfl dX5_open_65 ?_
        refine lv_aload_n hx hb dX5_open_68 rfl (lv_at hl 1 rfl) ?_
        refine rGetI hx hb hts iX5_open_X5 hown hK hw (Nat.le_of_ble_eq_true rfl) en_pipe rfl 8 (by decide) (hts _ kX5_open_3) rfl ge5_8 dX5_open_69 ?_
        refine lv_iconst (v := (1 : Int32)) hx hb dX5_open_72 (by decide) ?_
        refine lv_isub hx hb dX5_open_73 ?_
        refine lv_bipush (v := (10 : Int32)) hx hb dX5_open_74 (by decide) ?_
        refine lv_aload_n hx hb dX5_open_76 rfl (lv_at hl 1 rfl) ?_
        refine rGet hx hb hts iX5_open_X5 hown hK hw (Nat.le_of_ble_eq_true rfl) en_pipe rfl 7 (by decide) (hts _ kX5_open_9) rfl rfl dX5_open_77 ?_
        refine rGetNI hx hb hts iX5_open_X4 hown hK hw (ktap (Nat.le_of_ble_eq_true rfl)) (en_tap (Nat.le_of_ble_eq_true rfl)) rfl 2 (by decide) nwF_114 rfl ge4_2 dX5_open_80 ?_
        obtain ⟨o9, ho9, hf⟩ := ob hf
        refine rCallV (va_runVN (As := [.int ((gi (si o7 (33 + ((0 : Int32).toNatClampNeg)) 4 o4.1) 0 8) - (1 : Int32)), .int (10 : Int32), .int (gi (si o7 (33 + ((0 : Int32).toNatClampNeg)) 4 o4.1) (6 + 2) 2)]) (rest := []) ⟨hx, hb, hml, hown, hts⟩ (ctX4_tell (l := l) (D := D) (cy := cy) (a := a) ho9) ⟨va_cnB 3 hts gX5_open_X4_tell_n117 rfl rfl rfl (hK.2.2.1 _ nwM_117) (hts _ kX5_open_10) (by decide +kernel) ⟨Nat.le_of_ble_eq_true rfl, Nat.le_of_ble_eq_true rfl⟩, (hts _ kX5_open_11), (hts _ kX5_open_12)⟩ (pV hK hZ hw hS (rRecv hK hw (ktap (Nat.le_of_ble_eq_true rfl)) (en_tap (Nat.le_of_ble_eq_true rfl)) rfl)) rfl rfl hl.1 rfl (lv_room (Nat.le_of_ble_eq_true rfl)) dX5_open_83 ⟨Nat.le_of_ble_eq_true rfl, Nat.le_of_ble_eq_true rfl⟩) hS (fun H locs hw hS => ?_)
        refine lv_aload_n hx hb dX5_open_86 rfl (lv_at hl 1 rfl) ?_
        refine lv_iconst (v := (1 : Int32)) hx hb dX5_open_87 (by decide) ?_
        refine rPut hx hb hts iX5_open_X5 tyX5 tyX5_ok nmX5 hown hK hw hS (Nat.le_of_ble_eq_true rfl) en_pipe rfl 10 (by decide) (hts _ kX5_open_0) rfl rfl rfl (bfit rfl) (Nat.le_of_ble_eq_true rfl) hs5_10 dX5_open_88 (fun H locs hw hS => ?_)
        refine lv_iload_n hx hb dX5_open_91 rfl (lv_at hl 0 rfl) ?_
        obtain rfl := Option.some.inj hf
        refine W.widen (k := 2) (n := 12) (Nat.le_of_ble_eq_true rfl) (Nat.le_of_ble_eq_true rfl) ?_
        exact rxIret hx hb hr hlocks hw hS dX5_open_92
      · have hf := ip c3 hf
        obtain rfl := Option.some.inj hf
        exact rThrow hx hb hfl 2 (by decide) (by decide +kernel) hts hown hK hZ hw hS kX5_open_1 kX5_open_2 nwS_102 xX5_open_2 xbad_2_84 xgood_2_84_80 hml hl dX5_open_21 dX5_open_24 dX5_open_25 dX5_open_27 dX5_open_30 htb (Nat.le_of_ble_eq_true rfl) (Nat.le_of_ble_eq_true rfl) (Nat.le_of_ble_eq_true rfl) (Nat.le_of_ble_eq_true rfl) hlocks (Nat.le_of_ble_eq_true rfl) (Nat.le_of_ble_eq_true rfl)
set_option maxRecDepth 100000 in
set_option maxHeartbeats 4000000 in
theorem ctX5_open {l : Launch} {D : va_G} {cy : Nat → ClassId} {a : Nat} (hfl : l.stackTraces = false) {x1 : Int32} {M : Mm} {out : Nat × Int32 × Mm} (hf : fX5_open x1 M = some out) : vx_Met l yX5_open wsX5_open rX5_open (Pre D cy a M [.ref (a + 0), .int x1]) (QIx D cy a out.1 out.2.1 out.2.2) (XT D cy a out.1 out.2.2) 2 12 (Aq a) := by
  refine vx_ofW (cc := cX5_open) (maxL := 3) (ret := (some .int)) (by decide +kernel) rfl ?_
  intro p e s m args below meth c s₁ B hml htb hv
  obtain ⟨rfl, hw, hK, hZ⟩ := hv
  have hS : va_S (Aq a) s.heap s.heap [] := va_S.rf
  have hl := lv_entry ([.ref (a + 0), .int x1]) (n := 3) (Nat.le_of_ble_eq_true rfl)
  rw [lg_entry_eq]
  generalize (lg_sl ([.ref (a + 0), .int x1]) ++ List.replicate (3 - (lg_sl ([.ref (a + 0), .int x1])).length) Slot.unset).toArray = ls at hl ⊢
  exact bX5_open_0 B.exec B.bytes B.returns hml (findClass_of_methodNamed B.named) (atoms_spec (ws := wsX5_open) B.pre) B.notSynchronized hK hZ htb hfl _ _ _ _ _ hw hS hl hf
def rX5_order : Room := { frames := 7, cells := 4, slots := 24, locals := 113 }
noncomputable def fX5_order (x1 : Int32) (x2 : Int32) (x3 : Int32) (M : Mm) : Option (Nat × Int32 × Mm) := ((fX5_checkIndex x1 (4 : Int32) M).bind fun o1 => if o1 = 0 then ((fX5_checkIndex x2 (6 : Int32) M).bind fun o2 => if o2 = 0 then ((fX5_checkRange x3 (1 : Int32) (200 : Int32) M).bind fun o3 => if o3 = 0 then (if (gi M 0 9) < (40 : Int32) then (if ¬ ((gi M 0 9) < 0 ∨ 40 ≤ (gi M 0 9).toNatClampNeg) then (if ¬ (x2 < 0 ∨ 6 ≤ x2.toNatClampNeg) then ((fX0_tell ((gi M 0 9).toNatClampNeg) x1 x2.toNatClampNeg x3 M).bind fun o7 => some (0, (gi (si o7 0 9 ((gi o7 0 9) + (1 : Int32))) 0 9) - (1 : Int32), si o7 0 9 ((gi o7 0 9) + (1 : Int32)))) else none) else none) else some (2, 0, M)) else some (o3, 0, M)) else some (o2, 0, M)) else some (o1, 0, M))
set_option maxRecDepth 20000 in
theorem iX5_order_X5 : ∀ w ∈ wsX50, w ∈ wsX5_order := by decide +kernel
set_option maxRecDepth 20000 in
theorem kX5_order_0 : Cond.fieldLink RX5 50 "BatchPipe" "batchCount" "I" ∈ wsX5_order := by decide +kernel
set_option maxRecDepth 20000 in
theorem kX5_order_1 : Cond.fieldLink RX5 23 "BatchPipe" "batches" "[LBatchPipe$Batch;" ∈ wsX5_order := by decide +kernel
set_option maxRecDepth 20000 in
theorem kX5_order_2 : Cond.fieldLink RX5 17 "BatchPipe" "products" "[LBatchPipe$Product;" ∈ wsX5_order := by decide +kernel
set_option maxRecDepth 20000 in
theorem kX5_order_3 : Cond.initialized RX0 ∈ wsX5_order := by decide +kernel
set_option maxRecDepth 20000 in
theorem kX5_order_4 : Cond.instanceMethod yX0_tell ∈ wsX5_order := by decide +kernel
set_option maxRecDepth 20000 in
theorem kX5_order_5 : Cond.selects RX0 yX0_tell yX0_tell ∈ wsX5_order := by decide +kernel
set_option maxRecDepth 20000 in
theorem kX5_order_6 : Cond.classLink RX5 80 "java/lang/IllegalStateException" ∈ wsX5_order := by decide +kernel
set_option maxRecDepth 20000 in
theorem kX5_order_7 : Cond.initialized "java/lang/IllegalStateException" ∈ wsX5_order := by decide +kernel
set_option maxRecDepth 20000 in
theorem xX5_order_2 : ∀ w ∈ (vx_atS RX5 84 (exN 2) ["java/lang/RuntimeException", "java/lang/Exception"]).filter goodWord, w ∈ wsX5_order := by decide +kernel
set_option maxRecDepth 100000 in
set_option maxHeartbeats 4000000 in
theorem bX5_order_0 {p : Program} {l : Launch} {e : Env} {s : State} {m : MethodId} {args : Array Value} {below : List Frame} {meth : Method} {c : Code} {D : va_G} {cy : Nat → ClassId} {a : Nat} (hx : p.tables.exec = Jvm.exec) (hb : c.code = cX5_order) (hr : meth.sig.returnType = (some .int)) (hml : c.maxLocals = 4) (hown : s.vm.findClass RX5 = some m.cls) (hts : ∀ w ∈ wsX5_order, w.before args s = true) (hlocks : meth.locks = false) (hK : KS D cy s) (hZ : ZZ a s s.heap) (htb : ∀ x ∈ c.exceptionTable.toList, False) (hfl : l.stackTraces = false) {out : Nat × Int32 × Mm} : ∀ (x1 : Int32) (x2 : Int32) (x3 : Int32) (M : Mm) (H : Heap) (locs : List Loc) (ls : Array Slot), HP D cy a M H → va_S (Aq a) s.heap H locs → lv_has ls 4 [(0, .ref (a + 0)), (1, .int x1), (2, .int x2), (3, .int x3)] → fX5_order x1 x2 x3 M = some out → W p l e rX5_order s m args below meth c H locs 0 0 (vx_MQ below (QIx D cy a out.1 out.2.1 out.2.2) (XT D cy a out.1 out.2.2) args s 4 24 (Aq a)) (F0 m 0 ls []) := by
  intro x1 x2 x3 M H locs ls hw hS hl hf
  unfold fX5_order at hf
  refine lv_aload_n hx hb dX5_order_0 rfl (lv_at hl 0 rfl) ?_
  refine lv_iload_n hx hb dX5_order_1 rfl (lv_at hl 1 rfl) ?_
  refine lv_iconst (v := (4 : Int32)) hx hb dX5_order_2 (by decide) ?_
  obtain ⟨o1, ho1, hf⟩ := ob hf
  refine rxCallV (vx_runV (As := [.int x1, .int (4 : Int32)]) (rest := []) ⟨hx, hb, hml, hown, hts⟩ (ctX5_checkIndex (l := l) (D := D) (cy := cy) (a := a) hfl ho1) (cwV 2 hts gX5_order_X5_checkIndex rfl rfl rfl (by decide +kernel) ⟨Nat.le_of_ble_eq_true rfl, Nat.le_of_ble_eq_true rfl⟩) (pV hK hZ hw hS (rRecv hK hw (Nat.le_of_ble_eq_true rfl) en_pipe rfl)) rfl rfl hl.1 rfl (lv_room (Nat.le_of_ble_eq_true rfl)) dX5_order_3 ⟨Nat.le_of_ble_eq_true rfl, Nat.le_of_ble_eq_true rfl⟩) hS (fun ce q9 H locs hn hw hS h1 h2 h3 => ?_) (fun H locs hn hw hS => ?_)
  · have hf := iq hn hf
    obtain rfl := Option.some.inj hf
    exact rOut htb hlocks hn hw hS h1 h2 h3 (Nat.le_of_ble_eq_true rfl) (Nat.le_of_ble_eq_true rfl)
  · have hf := ip hn hf
    refine lv_aload_n hx hb dX5_order_6 rfl (lv_at hl 0 rfl) ?_
    refine lv_iload_n hx hb dX5_order_7 rfl (lv_at hl 2 rfl) ?_
    refine lv_bipush (v := (6 : Int32)) hx hb dX5_order_8 (by decide) ?_
    obtain ⟨o2, ho2, hf⟩ := ob hf
    refine rxCallV (vx_runV (As := [.int x2, .int (6 : Int32)]) (rest := []) ⟨hx, hb, hml, hown, hts⟩ (ctX5_checkIndex (l := l) (D := D) (cy := cy) (a := a) hfl ho2) (cwV 2 hts gX5_order_X5_checkIndex rfl rfl rfl (by decide +kernel) ⟨Nat.le_of_ble_eq_true rfl, Nat.le_of_ble_eq_true rfl⟩) (pV hK hZ hw hS (rRecv hK hw (Nat.le_of_ble_eq_true rfl) en_pipe rfl)) rfl rfl hl.1 rfl (lv_room (Nat.le_of_ble_eq_true rfl)) dX5_order_10 ⟨Nat.le_of_ble_eq_true rfl, Nat.le_of_ble_eq_true rfl⟩) hS (fun ce q9 H locs hn hw hS h1 h2 h3 => ?_) (fun H locs hn hw hS => ?_)
    · have hf := iq hn hf
      obtain rfl := Option.some.inj hf
      exact rOut htb hlocks hn hw hS h1 h2 h3 (Nat.le_of_ble_eq_true rfl) (Nat.le_of_ble_eq_true rfl)
    · have hf := ip hn hf
      refine lv_aload_n hx hb dX5_order_13 rfl (lv_at hl 0 rfl) ?_
      refine lv_iload_n hx hb dX5_order_14 rfl (lv_at hl 3 rfl) ?_
      refine lv_iconst (v := (1 : Int32)) hx hb dX5_order_15 (by decide) ?_
      refine lv_sipush (v := (200 : Int32)) hx hb dX5_order_16 (by decide) ?_
      obtain ⟨o3, ho3, hf⟩ := ob hf
      refine rxCallV (vx_runV (As := [.int x3, .int (1 : Int32), .int (200 : Int32)]) (rest := []) ⟨hx, hb, hml, hown, hts⟩ (ctX5_checkRange (l := l) (D := D) (cy := cy) (a := a) hfl ho3) (cwV 3 hts gX5_order_X5_checkRange rfl rfl rfl (by decide +kernel) ⟨Nat.le_of_ble_eq_true rfl, Nat.le_of_ble_eq_true rfl⟩) (pV hK hZ hw hS (rRecv hK hw (Nat.le_of_ble_eq_true rfl) en_pipe rfl)) rfl rfl hl.1 rfl (lv_room (Nat.le_of_ble_eq_true rfl)) dX5_order_19 ⟨Nat.le_of_ble_eq_true rfl, Nat.le_of_ble_eq_true rfl⟩) hS (fun ce q9 H locs hn hw hS h1 h2 h3 => ?_) (fun H locs hn hw hS => ?_)
      · have hf := iq hn hf
        obtain rfl := Option.some.inj hf
        exact rOut htb hlocks hn hw hS h1 h2 h3 (Nat.le_of_ble_eq_true rfl) (Nat.le_of_ble_eq_true rfl)
      · have hf := ip hn hf
        refine lv_aload_n hx hb dX5_order_22 rfl (lv_at hl 0 rfl) ?_
        refine rGetI hx hb hts iX5_order_X5 hown hK hw (Nat.le_of_ble_eq_true rfl) en_pipe rfl 9 (by decide) (hts _ kX5_order_0) rfl ge5_9 dX5_order_23 ?_
        refine lv_bipush (v := (40 : Int32)) hx hb dX5_order_26 (by decide) ?_
        refine lv_icmp_lt (tgt := 41) hx hb dX5_order_28 (by decide) (fun c4 => ?_) (fun c4 => ?_)
        · have hf := ip c4 hf
          refine lv_aload_n hx hb dX5_order_41 rfl (lv_at hl 0 rfl) ?_
          refine rGet hx hb hts iX5_order_X5 hown hK hw (Nat.le_of_ble_eq_true rfl) en_pipe rfl 2 (by decide) (hts _ kX5_order_1) rfl rfl dX5_order_42 ?_
          refine lv_aload_n hx hb dX5_order_45 rfl (lv_at hl 0 rfl) ?_
          refine rGetI hx hb hts iX5_order_X5 hown hK hw (Nat.le_of_ble_eq_true rfl) en_pipe rfl 9 (by decide) (hts _ kX5_order_0) rfl ge5_9 dX5_order_46 ?_
          obtain ⟨hg5, hf⟩ := og hf
          refine rAald hx hb hK hw (k := 3) (Nat.le_of_ble_eq_true rfl) 4 en_bats rfl hg5 dX5_order_49 ?_
          refine lv_iload_n hx hb dX5_order_50 rfl (lv_at hl 1 rfl) ?_
          refine lv_aload_n hx hb dX5_order_51 rfl (lv_at hl 0 rfl) ?_
          refine rGet hx hb hts iX5_order_X5 hown hK hw (Nat.le_of_ble_eq_true rfl) en_pipe rfl 1 (by decide) (hts _ kX5_order_2) rfl rfl dX5_order_52 ?_
          refine lv_iload_n hx hb dX5_order_55 rfl (lv_at hl 2 rfl) ?_
          obtain ⟨hg6, hf⟩ := og hf
          refine rAald hx hb hK hw (k := 2) (Nat.le_of_ble_eq_true rfl) 3 en_prods rfl hg6 dX5_order_56 ?_
          refine lv_iload_n hx hb dX5_order_57 rfl (lv_at hl 3 rfl) ?_
          obtain ⟨o7, ho7, hf⟩ := ob hf
          refine rCallV (va_runVN (As := [.int x1, .ref (a + (27 + x2.toNatClampNeg)), .int x3]) (rest := []) ⟨hx, hb, hml, hown, hts⟩ (ctX0_tell (l := l) (D := D) (cy := cy) (a := a) ho7) ⟨va_cnB 3 hts gX5_order_X0_tell_n108 rfl rfl rfl (hK.2.2.1 _ nwM_108) (hts _ kX5_order_3) (by decide +kernel) ⟨Nat.le_of_ble_eq_true rfl, Nat.le_of_ble_eq_true rfl⟩, (hts _ kX5_order_4), (hts _ kX5_order_5)⟩ (pV hK hZ hw hS (rRecv hK hw (kbat (vi hg5)) (en_bat (vi hg5)) rfl)) rfl rfl hl.1 rfl (lv_room (Nat.le_of_ble_eq_true rfl)) dX5_order_58 ⟨Nat.le_of_ble_eq_true rfl, Nat.le_of_ble_eq_true rfl⟩) hS (fun H locs hw hS => ?_)
          refine lv_aload_n hx hb dX5_order_61 rfl (lv_at hl 0 rfl) ?_
          refine lv_dup hx hb dX5_order_62 rfl ?_
          refine rGetI hx hb hts iX5_order_X5 hown hK hw (Nat.le_of_ble_eq_true rfl) en_pipe rfl 9 (by decide) (hts _ kX5_order_0) rfl ge5_9 dX5_order_63 ?_
          refine lv_iconst (v := (1 : Int32)) hx hb dX5_order_66 (by decide) ?_
          refine lv_iadd hx hb dX5_order_67 ?_
          refine rPut hx hb hts iX5_order_X5 tyX5 tyX5_ok nmX5 hown hK hw hS (Nat.le_of_ble_eq_true rfl) en_pipe rfl 9 (by decide) (hts _ kX5_order_0) rfl rfl rfl rfl (Nat.le_of_ble_eq_true rfl) hs5_9 dX5_order_68 (fun H locs hw hS => ?_)
          refine lv_aload_n hx hb dX5_order_71 rfl (lv_at hl 0 rfl) ?_
          refine rGetI hx hb hts iX5_order_X5 hown hK hw (Nat.le_of_ble_eq_true rfl) en_pipe rfl 9 (by decide) (hts _ kX5_order_0) rfl ge5_9 dX5_order_72 ?_
          refine lv_iconst (v := (1 : Int32)) hx hb dX5_order_75 (by decide) ?_
          refine lv_isub hx hb dX5_order_76 ?_
          obtain rfl := Option.some.inj hf
          refine W.widen (k := 4) (n := 24) (Nat.le_of_ble_eq_true rfl) (Nat.le_of_ble_eq_true rfl) ?_
          exact rxIret hx hb hr hlocks hw hS dX5_order_77
        · have hf := iq c4 hf
          obtain rfl := Option.some.inj hf
          exact rThrow hx hb hfl 2 (by decide) (by decide +kernel) hts hown hK hZ hw hS kX5_order_6 kX5_order_7 nwS_118 xX5_order_2 xbad_2_84 xgood_2_84_80 hml hl dX5_order_31 dX5_order_34 dX5_order_35 dX5_order_37 dX5_order_40 htb (Nat.le_of_ble_eq_true rfl) (Nat.le_of_ble_eq_true rfl) (Nat.le_of_ble_eq_true rfl) (Nat.le_of_ble_eq_true rfl) hlocks (Nat.le_of_ble_eq_true rfl) (Nat.le_of_ble_eq_true rfl)
set_option maxRecDepth 100000 in
set_option maxHeartbeats 4000000 in
theorem ctX5_order {l : Launch} {D : va_G} {cy : Nat → ClassId} {a : Nat} (hfl : l.stackTraces = false) {x1 : Int32} {x2 : Int32} {x3 : Int32} {M : Mm} {out : Nat × Int32 × Mm} (hf : fX5_order x1 x2 x3 M = some out) : vx_Met l yX5_order wsX5_order rX5_order (Pre D cy a M [.ref (a + 0), .int x1, .int x2, .int x3]) (QIx D cy a out.1 out.2.1 out.2.2) (XT D cy a out.1 out.2.2) 4 24 (Aq a) := by
  refine vx_ofW (cc := cX5_order) (maxL := 4) (ret := (some .int)) (by decide +kernel) rfl ?_
  intro p e s m args below meth c s₁ B hml htb hv
  obtain ⟨rfl, hw, hK, hZ⟩ := hv
  have hS : va_S (Aq a) s.heap s.heap [] := va_S.rf
  have hl := lv_entry ([.ref (a + 0), .int x1, .int x2, .int x3]) (n := 4) (Nat.le_of_ble_eq_true rfl)
  rw [lg_entry_eq]
  generalize (lg_sl ([.ref (a + 0), .int x1, .int x2, .int x3]) ++ List.replicate (4 - (lg_sl ([.ref (a + 0), .int x1, .int x2, .int x3])).length) Slot.unset).toArray = ls at hl ⊢
  exact bX5_order_0 B.exec B.bytes B.returns hml (findClass_of_methodNamed B.named) (atoms_spec (ws := wsX5_order) B.pre) B.notSynchronized hK hZ htb hfl _ _ _ _ _ _ _ hw hS hl hf
def rX5_rate : Room := { frames := 7, cells := 1, slots := 6, locals := 113 }
noncomputable def fX5_rate (x1 : Int32) (M : Mm) : Option (Nat × Int32 × Mm) := ((fX5_checkRange x1 (0 : Int32) (10 : Int32) M).bind fun o1 => if o1 = 0 then some (0, gi M 0 13, si M 0 13 x1) else some (o1, 0, M))
set_option maxRecDepth 20000 in
theorem iX5_rate_X5 : ∀ w ∈ wsX50, w ∈ wsX5_rate := by decide +kernel
set_option maxRecDepth 20000 in
theorem kX5_rate_0 : Cond.fieldLink RX5 120 "BatchPipe" "rateTold" "I" ∈ wsX5_rate := by decide +kernel
set_option maxRecDepth 100000 in
set_option maxHeartbeats 4000000 in
theorem bX5_rate_0 {p : Program} {l : Launch} {e : Env} {s : State} {m : MethodId} {args : Array Value} {below : List Frame} {meth : Method} {c : Code} {D : va_G} {cy : Nat → ClassId} {a : Nat} (hx : p.tables.exec = Jvm.exec) (hb : c.code = cX5_rate) (hr : meth.sig.returnType = (some .int)) (hml : c.maxLocals = 3) (hown : s.vm.findClass RX5 = some m.cls) (hts : ∀ w ∈ wsX5_rate, w.before args s = true) (hlocks : meth.locks = false) (hK : KS D cy s) (hZ : ZZ a s s.heap) (htb : ∀ x ∈ c.exceptionTable.toList, False) (hfl : l.stackTraces = false) {out : Nat × Int32 × Mm} : ∀ (x1 : Int32) (M : Mm) (H : Heap) (locs : List Loc) (ls : Array Slot), HP D cy a M H → va_S (Aq a) s.heap H locs → lv_has ls 3 [(0, .ref (a + 0)), (1, .int x1)] → fX5_rate x1 M = some out → W p l e rX5_rate s m args below meth c H locs 0 0 (vx_MQ below (QIx D cy a out.1 out.2.1 out.2.2) (XT D cy a out.1 out.2.2) args s 1 6 (Aq a)) (F0 m 0 ls []) := by
  intro x1 M H locs ls hw hS hl hf
  unfold fX5_rate at hf
  refine lv_aload_n hx hb dX5_rate_0 rfl (lv_at hl 0 rfl) ?_
  refine lv_iload_n hx hb dX5_rate_1 rfl (lv_at hl 1 rfl) ?_
  refine lv_iconst (v := (0 : Int32)) hx hb dX5_rate_2 (by decide) ?_
  refine lv_bipush (v := (10 : Int32)) hx hb dX5_rate_3 (by decide) ?_
  obtain ⟨o1, ho1, hf⟩ := ob hf
  refine rxCallV (vx_runV (As := [.int x1, .int (0 : Int32), .int (10 : Int32)]) (rest := []) ⟨hx, hb, hml, hown, hts⟩ (ctX5_checkRange (l := l) (D := D) (cy := cy) (a := a) hfl ho1) (cwV 3 hts gX5_rate_X5_checkRange rfl rfl rfl (by decide +kernel) ⟨Nat.le_of_ble_eq_true rfl, Nat.le_of_ble_eq_true rfl⟩) (pV hK hZ hw hS (rRecv hK hw (Nat.le_of_ble_eq_true rfl) en_pipe rfl)) rfl rfl hl.1 rfl (lv_room (Nat.le_of_ble_eq_true rfl)) dX5_rate_5 ⟨Nat.le_of_ble_eq_true rfl, Nat.le_of_ble_eq_true rfl⟩) hS (fun ce q9 H locs hn hw hS h1 h2 h3 => ?_) (fun H locs hn hw hS => ?_)
  · have hf := iq hn hf
    obtain rfl := Option.some.inj hf
    exact rOut htb hlocks hn hw hS h1 h2 h3 (Nat.le_of_ble_eq_true rfl) (Nat.le_of_ble_eq_true rfl)
  · have hf := ip hn hf
    refine lv_aload_n hx hb dX5_rate_8 rfl (lv_at hl 0 rfl) ?_
    refine rGetI hx hb hts iX5_rate_X5 hown hK hw (Nat.le_of_ble_eq_true rfl) en_pipe rfl 13 (by decide) (hts _ kX5_rate_0) rfl ge5_13 dX5_rate_9 ?_
    refine lv_istore_n (lv' := [(2, .int (gi M 0 13)), (0, .ref (a + 0)), (1, .int x1)]) hx hb dX5_rate_12 rfl hl (Nat.le_of_ble_eq_true rfl) rfl (fun ls hl => ?_)
    refine lv_aload_n hx hb dX5_rate_13 rfl (lv_at hl 1 rfl) ?_
    refine lv_iload_n hx hb dX5_rate_14 rfl (lv_at hl 2 rfl) ?_
    refine rPut hx hb hts iX5_rate_X5 tyX5 tyX5_ok nmX5 hown hK hw hS (Nat.le_of_ble_eq_true rfl) en_pipe rfl 13 (by decide) (hts _ kX5_rate_0) rfl rfl rfl rfl (Nat.le_of_ble_eq_true rfl) hs5_13 dX5_rate_15 (fun H locs hw hS => ?_)
    refine lv_iload_n hx hb dX5_rate_18 rfl (lv_at hl 0 rfl) ?_
    obtain rfl := Option.some.inj hf
    exact rxIret hx hb hr hlocks hw hS dX5_rate_19
set_option maxRecDepth 100000 in
set_option maxHeartbeats 4000000 in
theorem ctX5_rate {l : Launch} {D : va_G} {cy : Nat → ClassId} {a : Nat} (hfl : l.stackTraces = false) {x1 : Int32} {M : Mm} {out : Nat × Int32 × Mm} (hf : fX5_rate x1 M = some out) : vx_Met l yX5_rate wsX5_rate rX5_rate (Pre D cy a M [.ref (a + 0), .int x1]) (QIx D cy a out.1 out.2.1 out.2.2) (XT D cy a out.1 out.2.2) 1 6 (Aq a) := by
  refine vx_ofW (cc := cX5_rate) (maxL := 3) (ret := (some .int)) (by decide +kernel) rfl ?_
  intro p e s m args below meth c s₁ B hml htb hv
  obtain ⟨rfl, hw, hK, hZ⟩ := hv
  have hS : va_S (Aq a) s.heap s.heap [] := va_S.rf
  have hl := lv_entry ([.ref (a + 0), .int x1]) (n := 3) (Nat.le_of_ble_eq_true rfl)
  rw [lg_entry_eq]
  generalize (lg_sl ([.ref (a + 0), .int x1]) ++ List.replicate (3 - (lg_sl ([.ref (a + 0), .int x1])).length) Slot.unset).toArray = ls at hl ⊢
  exact bX5_rate_0 B.exec B.bytes B.returns hml (findClass_of_methodNamed B.named) (atoms_spec (ws := wsX5_rate) B.pre) B.notSynchronized hK hZ htb hfl _ _ _ _ _ hw hS hl hf
def rX5_checkOnTheWay : Room := { frames := 7, cells := 1, slots := 6, locals := 112 }
noncomputable def fX5_checkOnTheWay (x1 : Int32) (M : Mm) : Option (Nat) := (if x1 = (-1 : Int32) then some (0) else ((fX5_checkIndex x1 ((gi M 0 8) - (1 : Int32)) M).bind fun o2 => if o2 = 0 then some (0) else some (o2)))
set_option maxRecDepth 20000 in
theorem iX5_checkOnTheWay_X5 : ∀ w ∈ wsX50, w ∈ wsX5_checkOnTheWay := by decide +kernel
set_option maxRecDepth 20000 in
theorem kX5_checkOnTheWay_0 : Cond.fieldLink RX5 77 "BatchPipe" "segmentCount" "I" ∈ wsX5_checkOnTheWay := by decide +kernel
set_option maxRecDepth 100000 in
set_option maxHeartbeats 4000000 in
theorem bX5_checkOnTheWay_0 {p : Program} {l : Launch} {e : Env} {s : State} {m : MethodId} {args : Array Value} {below : List Frame} {meth : Method} {c : Code} {D : va_G} {cy : Nat → ClassId} {a : Nat} (hx : p.tables.exec = Jvm.exec) (hb : c.code = cX5_checkOnTheWay) (hr : meth.sig.returnType = none) (hml : c.maxLocals = 2) (hown : s.vm.findClass RX5 = some m.cls) (hts : ∀ w ∈ wsX5_checkOnTheWay, w.before args s = true) (hlocks : meth.locks = false) (hK : KS D cy s) (hZ : ZZ a s s.heap) (htb : ∀ x ∈ c.exceptionTable.toList, False) (hfl : l.stackTraces = false) {out : Nat} : ∀ (x1 : Int32) (M : Mm) (H : Heap) (locs : List Loc) (ls : Array Slot), HP D cy a M H → va_S (Aq a) s.heap H locs → lv_has ls 2 [(0, .ref (a + 0)), (1, .int x1)] → fX5_checkOnTheWay x1 M = some out → W p l e rX5_checkOnTheWay s m args below meth c H locs 0 0 (vx_MQ below (QVx D cy a out M) (XT D cy a out M) args s 1 6 (Aq a)) (F0 m 0 ls []) := by
  intro x1 M H locs ls hw hS hl hf
  unfold fX5_checkOnTheWay at hf
  refine lv_iload_n hx hb dX5_checkOnTheWay_0 rfl (lv_at hl 1 rfl) ?_
  refine lv_iconst (v := (-1 : Int32)) hx hb dX5_checkOnTheWay_1 (by decide) ?_
  refine lv_icmp_eq (tgt := 16) hx hb dX5_checkOnTheWay_2 (by decide) (fun c1 => ?_) (fun c1 => ?_)
  · have hf := ip c1 hf
    obtain rfl := Option.some.inj hf
    refine W.widen (k := 1) (n := 6) (Nat.le_of_ble_eq_true rfl) (Nat.le_of_ble_eq_true rfl) ?_
    exact rxVret hx hb hr hlocks hw hS dX5_checkOnTheWay_16
  · have hf := iq c1 hf
    refine lv_aload_n hx hb dX5_checkOnTheWay_5 rfl (lv_at hl 0 rfl) ?_
    refine lv_iload_n hx hb dX5_checkOnTheWay_6 rfl (lv_at hl 1 rfl) ?_
    refine lv_aload_n hx hb dX5_checkOnTheWay_7 rfl (lv_at hl 0 rfl) ?_
    refine rGetI hx hb hts iX5_checkOnTheWay_X5 hown hK hw (Nat.le_of_ble_eq_true rfl) en_pipe rfl 8 (by decide) (hts _ kX5_checkOnTheWay_0) rfl ge5_8 dX5_checkOnTheWay_8 ?_
    refine lv_iconst (v := (1 : Int32)) hx hb dX5_checkOnTheWay_11 (by decide) ?_
    refine lv_isub hx hb dX5_checkOnTheWay_12 ?_
    obtain ⟨o2, ho2, hf⟩ := ob hf
    refine rxCallV (vx_runV (As := [.int x1, .int ((gi M 0 8) - (1 : Int32))]) (rest := []) ⟨hx, hb, hml, hown, hts⟩ (ctX5_checkIndex (l := l) (D := D) (cy := cy) (a := a) hfl ho2) (cwV 2 hts gX5_checkOnTheWay_X5_checkIndex rfl rfl rfl (by decide +kernel) ⟨Nat.le_of_ble_eq_true rfl, Nat.le_of_ble_eq_true rfl⟩) (pV hK hZ hw hS (rRecv hK hw (Nat.le_of_ble_eq_true rfl) en_pipe rfl)) rfl rfl hl.1 rfl (lv_room (Nat.le_of_ble_eq_true rfl)) dX5_checkOnTheWay_13 ⟨Nat.le_of_ble_eq_true rfl, Nat.le_of_ble_eq_true rfl⟩) hS (fun ce q9 H locs hn hw hS h1 h2 h3 => ?_) (fun H locs hn hw hS => ?_)
    · have hf := iq hn hf
      obtain rfl := Option.some.inj hf
      exact rOut htb hlocks hn hw hS h1 h2 h3 (Nat.le_of_ble_eq_true rfl) (Nat.le_of_ble_eq_true rfl)
    · have hf := ip hn hf
      obtain rfl := Option.some.inj hf
      exact rxVret hx hb hr hlocks hw hS dX5_checkOnTheWay_16
set_option maxRecDepth 100000 in
set_option maxHeartbeats 4000000 in
theorem ctX5_checkOnTheWay {l : Launch} {D : va_G} {cy : Nat → ClassId} {a : Nat} (hfl : l.stackTraces = false) {x1 : Int32} {M : Mm} {out : Nat} (hf : fX5_checkOnTheWay x1 M = some out) : vx_Met l yX5_checkOnTheWay wsX5_checkOnTheWay rX5_checkOnTheWay (Pre D cy a M [.ref (a + 0), .int x1]) (QVx D cy a out M) (XT D cy a out M) 1 6 (Aq a) := by
  refine vx_ofW (cc := cX5_checkOnTheWay) (maxL := 2) (ret := none) (by decide +kernel) rfl ?_
  intro p e s m args below meth c s₁ B hml htb hv
  obtain ⟨rfl, hw, hK, hZ⟩ := hv
  have hS : va_S (Aq a) s.heap s.heap [] := va_S.rf
  have hl := lv_entry ([.ref (a + 0), .int x1]) (n := 2) (Nat.le_of_ble_eq_true rfl)
  rw [lg_entry_eq]
  generalize (lg_sl ([.ref (a + 0), .int x1]) ++ List.replicate (2 - (lg_sl ([.ref (a + 0), .int x1])).length) Slot.unset).toArray = ls at hl ⊢
  exact bX5_checkOnTheWay_0 B.exec B.bytes B.returns hml (findClass_of_methodNamed B.named) (atoms_spec (ws := wsX5_checkOnTheWay) B.pre) B.notSynchronized hK hZ htb hfl _ _ _ _ _ hw hS hl hf
def rX5_drop : Room := { frames := 8, cells := 3, slots := 18, locals := 133 }
noncomputable def fX5_drop (x1 : Int32) (x2 : Int32) (x3 : Int32) (M : Mm) : Option (Nat × Mm) := ((fX5_checkOnTheWay x1 M).bind fun o1 => if o1 = 0 then ((fX5_checkIndex x3 (4 : Int32) M).bind fun o2 => if o2 = 0 then ((fX5_checkRange x2 (1 : Int32) (10 : Int32) M).bind fun o3 => if o3 = 0 then ((fX4_tell 1 x1 x2 x3 M).bind fun o4 => some (0, o4)) else some (o3, M)) else some (o2, M)) else some (o1, M))
set_option maxRecDepth 20000 in
theorem iX5_drop_X5 : ∀ w ∈ wsX50, w ∈ wsX5_drop := by decide +kernel
set_option maxRecDepth 20000 in
theorem kX5_drop_0 : Cond.fieldLink RX5 44 "BatchPipe" "dropTap" "LBatchPipe$Tap;" ∈ wsX5_drop := by decide +kernel
set_option maxRecDepth 20000 in
theorem kX5_drop_1 : Cond.initialized RX4 ∈ wsX5_drop := by decide +kernel
set_option maxRecDepth 20000 in
theorem kX5_drop_2 : Cond.instanceMethod yX4_tell ∈ wsX5_drop := by decide +kernel
set_option maxRecDepth 20000 in
theorem kX5_drop_3 : Cond.selects RX4 yX4_tell yX4_tell ∈ wsX5_drop := by decide +kernel
set_option maxRecDepth 100000 in
set_option maxHeartbeats 4000000 in
theorem bX5_drop_0 {p : Program} {l : Launch} {e : Env} {s : State} {m : MethodId} {args : Array Value} {below : List Frame} {meth : Method} {c : Code} {D : va_G} {cy : Nat → ClassId} {a : Nat} (hx : p.tables.exec = Jvm.exec) (hb : c.code = cX5_drop) (hr : meth.sig.returnType = none) (hml : c.maxLocals = 4) (hown : s.vm.findClass RX5 = some m.cls) (hts : ∀ w ∈ wsX5_drop, w.before args s = true) (hlocks : meth.locks = false) (hK : KS D cy s) (hZ : ZZ a s s.heap) (htb : ∀ x ∈ c.exceptionTable.toList, False) (hfl : l.stackTraces = false) {out : Nat × Mm} : ∀ (x1 : Int32) (x2 : Int32) (x3 : Int32) (M : Mm) (H : Heap) (locs : List Loc) (ls : Array Slot), HP D cy a M H → va_S (Aq a) s.heap H locs → lv_has ls 4 [(0, .ref (a + 0)), (1, .int x1), (2, .int x2), (3, .int x3)] → fX5_drop x1 x2 x3 M = some out → W p l e rX5_drop s m args below meth c H locs 0 0 (vx_MQ below (QVx D cy a out.1 out.2) (XT D cy a out.1 out.2) args s 3 18 (Aq a)) (F0 m 0 ls []) := by
  intro x1 x2 x3 M H locs ls hw hS hl hf
  unfold fX5_drop at hf
  refine lv_aload_n hx hb dX5_drop_0 rfl (lv_at hl 0 rfl) ?_
  refine lv_iload_n hx hb dX5_drop_1 rfl (lv_at hl 1 rfl) ?_
  obtain ⟨o1, ho1, hf⟩ := ob hf
  refine rxCallV (vx_runV (As := [.int x1]) (rest := []) ⟨hx, hb, hml, hown, hts⟩ (ctX5_checkOnTheWay (l := l) (D := D) (cy := cy) (a := a) hfl ho1) (cwV 1 hts gX5_drop_X5_checkOnTheWay rfl rfl rfl (by decide +kernel) ⟨Nat.le_of_ble_eq_true rfl, Nat.le_of_ble_eq_true rfl⟩) (pV hK hZ hw hS (rRecv hK hw (Nat.le_of_ble_eq_true rfl) en_pipe rfl)) rfl rfl hl.1 rfl (lv_room (Nat.le_of_ble_eq_true rfl)) dX5_drop_2 ⟨Nat.le_of_ble_eq_true rfl, Nat.le_of_ble_eq_true rfl⟩) hS (fun ce q9 H locs hn hw hS h1 h2 h3 => ?_) (fun H locs hn hw hS => ?_)
  · have hf := iq hn hf
    obtain rfl := Option.some.inj hf
    exact rOut htb hlocks hn hw hS h1 h2 h3 (Nat.le_of_ble_eq_true rfl) (Nat.le_of_ble_eq_true rfl)
  · have hf := ip hn hf
    refine lv_aload_n hx hb dX5_drop_5 rfl (lv_at hl 0 rfl) ?_
    refine lv_iload_n hx hb dX5_drop_6 rfl (lv_at hl 3 rfl) ?_
    refine lv_iconst (v := (4 : Int32)) hx hb dX5_drop_7 (by decide) ?_
    obtain ⟨o2, ho2, hf⟩ := ob hf
    refine rxCallV (vx_runV (As := [.int x3, .int (4 : Int32)]) (rest := []) ⟨hx, hb, hml, hown, hts⟩ (ctX5_checkIndex (l := l) (D := D) (cy := cy) (a := a) hfl ho2) (cwV 2 hts gX5_drop_X5_checkIndex rfl rfl rfl (by decide +kernel) ⟨Nat.le_of_ble_eq_true rfl, Nat.le_of_ble_eq_true rfl⟩) (pV hK hZ hw hS (rRecv hK hw (Nat.le_of_ble_eq_true rfl) en_pipe rfl)) rfl rfl hl.1 rfl (lv_room (Nat.le_of_ble_eq_true rfl)) dX5_drop_8 ⟨Nat.le_of_ble_eq_true rfl, Nat.le_of_ble_eq_true rfl⟩) hS (fun ce q9 H locs hn hw hS h1 h2 h3 => ?_) (fun H locs hn hw hS => ?_)
    · have hf := iq hn hf
      obtain rfl := Option.some.inj hf
      exact rOut htb hlocks hn hw hS h1 h2 h3 (Nat.le_of_ble_eq_true rfl) (Nat.le_of_ble_eq_true rfl)
    · have hf := ip hn hf
      refine lv_aload_n hx hb dX5_drop_11 rfl (lv_at hl 0 rfl) ?_
      refine lv_iload_n hx hb dX5_drop_12 rfl (lv_at hl 2 rfl) ?_
      refine lv_iconst (v := (1 : Int32)) hx hb dX5_drop_13 (by decide) ?_
      refine lv_bipush (v := (10 : Int32)) hx hb dX5_drop_14 (by decide) ?_
      obtain ⟨o3, ho3, hf⟩ := ob hf
      refine rxCallV (vx_runV (As := [.int x2, .int (1 : Int32), .int (10 : Int32)]) (rest := []) ⟨hx, hb, hml, hown, hts⟩ (ctX5_checkRange (l := l) (D := D) (cy := cy) (a := a) hfl ho3) (cwV 3 hts gX5_drop_X5_checkRange rfl rfl rfl (by decide +kernel) ⟨Nat.le_of_ble_eq_true rfl, Nat.le_of_ble_eq_true rfl⟩) (pV hK hZ hw hS (rRecv hK hw (Nat.le_of_ble_eq_true rfl) en_pipe rfl)) rfl rfl hl.1 rfl (lv_room (Nat.le_of_ble_eq_true rfl)) dX5_drop_16 ⟨Nat.le_of_ble_eq_true rfl, Nat.le_of_ble_eq_true rfl⟩) hS (fun ce q9 H locs hn hw hS h1 h2 h3 => ?_) (fun H locs hn hw hS => ?_)
      · have hf := iq hn hf
        obtain rfl := Option.some.inj hf
        exact rOut htb hlocks hn hw hS h1 h2 h3 (Nat.le_of_ble_eq_true rfl) (Nat.le_of_ble_eq_true rfl)
      · have hf := ip hn hf
        refine lv_aload_n hx hb dX5_drop_19 rfl (lv_at hl 0 rfl) ?_
        refine rGet hx hb hts iX5_drop_X5 hown hK hw (Nat.le_of_ble_eq_true rfl) en_pipe rfl 6 (by decide) (hts _ kX5_drop_0) rfl rfl dX5_drop_20 ?_
        refine lv_iload_n hx hb dX5_drop_23 rfl (lv_at hl 1 rfl) ?_
        refine lv_iload_n hx hb dX5_drop_24 rfl (lv_at hl 2 rfl) ?_
        refine lv_iload_n hx hb dX5_drop_25 rfl (lv_at hl 3 rfl) ?_
        obtain ⟨o4, ho4, hf⟩ := ob hf
        refine rCallV (va_runVN (As := [.int x1, .int x2, .int x3]) (rest := []) ⟨hx, hb, hml, hown, hts⟩ (ctX4_tell (l := l) (D := D) (cy := cy) (a := a) ho4) ⟨va_cnB 3 hts gX5_drop_X4_tell_n117 rfl rfl rfl (hK.2.2.1 _ nwM_117) (hts _ kX5_drop_1) (by decide +kernel) ⟨Nat.le_of_ble_eq_true rfl, Nat.le_of_ble_eq_true rfl⟩, (hts _ kX5_drop_2), (hts _ kX5_drop_3)⟩ (pV hK hZ hw hS (rRecv hK hw (ktap (Nat.le_of_ble_eq_true rfl)) (en_tap (Nat.le_of_ble_eq_true rfl)) rfl)) rfl rfl hl.1 rfl (lv_room (Nat.le_of_ble_eq_true rfl)) dX5_drop_26 ⟨Nat.le_of_ble_eq_true rfl, Nat.le_of_ble_eq_true rfl⟩) hS (fun H locs hw hS => ?_)
        obtain rfl := Option.some.inj hf
        exact rxVret hx hb hr hlocks hw hS dX5_drop_29
set_option maxRecDepth 100000 in
set_option maxHeartbeats 4000000 in
theorem ctX5_drop {l : Launch} {D : va_G} {cy : Nat → ClassId} {a : Nat} (hfl : l.stackTraces = false) {x1 : Int32} {x2 : Int32} {x3 : Int32} {M : Mm} {out : Nat × Mm} (hf : fX5_drop x1 x2 x3 M = some out) : vx_Met l yX5_drop wsX5_drop rX5_drop (Pre D cy a M [.ref (a + 0), .int x1, .int x2, .int x3]) (QVx D cy a out.1 out.2) (XT D cy a out.1 out.2) 3 18 (Aq a) := by
  refine vx_ofW (cc := cX5_drop) (maxL := 4) (ret := none) (by decide +kernel) rfl ?_
  intro p e s m args below meth c s₁ B hml htb hv
  obtain ⟨rfl, hw, hK, hZ⟩ := hv
  have hS : va_S (Aq a) s.heap s.heap [] := va_S.rf
  have hl := lv_entry ([.ref (a + 0), .int x1, .int x2, .int x3]) (n := 4) (Nat.le_of_ble_eq_true rfl)
  rw [lg_entry_eq]
  generalize (lg_sl ([.ref (a + 0), .int x1, .int x2, .int x3]) ++ List.replicate (4 - (lg_sl ([.ref (a + 0), .int x1, .int x2, .int x3])).length) Slot.unset).toArray = ls at hl ⊢
  exact bX5_drop_0 B.exec B.bytes B.returns hml (findClass_of_methodNamed B.named) (atoms_spec (ws := wsX5_drop) B.pre) B.notSynchronized hK hZ htb hfl _ _ _ _ _ _ _ hw hS hl hf
def rX5_leak : Room := { frames := 8, cells := 2, slots := 12, locals := 133 }
noncomputable def fX5_leak (x1 : Int32) (x2 : Int32) (M : Mm) : Option (Nat × Mm) := ((fX5_checkOnTheWay x1 M).bind fun o1 => if o1 = 0 then ((fX5_checkRange x2 (1 : Int32) (10 : Int32) M).bind fun o2 => if o2 = 0 then ((fX4_tell 0 x1 x2 (0 : Int32) M).bind fun o3 => some (0, o3)) else some (o2, M)) else some (o1, M))
set_option maxRecDepth 20000 in
theorem iX5_leak_X5 : ∀ w ∈ wsX50, w ∈ wsX5_leak := by decide +kernel
set_option maxRecDepth 20000 in
theorem kX5_leak_0 : Cond.fieldLink RX5 40 "BatchPipe" "leakTap" "LBatchPipe$Tap;" ∈ wsX5_leak := by decide +kernel
set_option maxRecDepth 20000 in
theorem kX5_leak_1 : Cond.initialized RX4 ∈ wsX5_leak := by decide +kernel
set_option maxRecDepth 20000 in
theorem kX5_leak_2 : Cond.instanceMethod yX4_tell ∈ wsX5_leak := by decide +kernel
set_option maxRecDepth 20000 in
theorem kX5_leak_3 : Cond.selects RX4 yX4_tell yX4_tell ∈ wsX5_leak := by decide +kernel
set_option maxRecDepth 100000 in
set_option maxHeartbeats 4000000 in
theorem bX5_leak_0 {p : Program} {l : Launch} {e : Env} {s : State} {m : MethodId} {args : Array Value} {below : List Frame} {meth : Method} {c : Code} {D : va_G} {cy : Nat → ClassId} {a : Nat} (hx : p.tables.exec = Jvm.exec) (hb : c.code = cX5_leak) (hr : meth.sig.returnType = none) (hml : c.maxLocals = 3) (hown : s.vm.findClass RX5 = some m.cls) (hts : ∀ w ∈ wsX5_leak, w.before args s = true) (hlocks : meth.locks = false) (hK : KS D cy s) (hZ : ZZ a s s.heap) (htb : ∀ x ∈ c.exceptionTable.toList, False) (hfl : l.stackTraces = false) {out : Nat × Mm} : ∀ (x1 : Int32) (x2 : Int32) (M : Mm) (H : Heap) (locs : List Loc) (ls : Array Slot), HP D cy a M H → va_S (Aq a) s.heap H locs → lv_has ls 3 [(0, .ref (a + 0)), (1, .int x1), (2, .int x2)] → fX5_leak x1 x2 M = some out → W p l e rX5_leak s m args below meth c H locs 0 0 (vx_MQ below (QVx D cy a out.1 out.2) (XT D cy a out.1 out.2) args s 2 12 (Aq a)) (F0 m 0 ls []) := by
  intro x1 x2 M H locs ls hw hS hl hf
  unfold fX5_leak at hf
  refine lv_aload_n hx hb dX5_leak_0 rfl (lv_at hl 0 rfl) ?_
  refine lv_iload_n hx hb dX5_leak_1 rfl (lv_at hl 1 rfl) ?_
  obtain ⟨o1, ho1, hf⟩ := ob hf
  refine rxCallV (vx_runV (As := [.int x1]) (rest := []) ⟨hx, hb, hml, hown, hts⟩ (ctX5_checkOnTheWay (l := l) (D := D) (cy := cy) (a := a) hfl ho1) (cwV 1 hts gX5_leak_X5_checkOnTheWay rfl rfl rfl (by decide +kernel) ⟨Nat.le_of_ble_eq_true rfl, Nat.le_of_ble_eq_true rfl⟩) (pV hK hZ hw hS (rRecv hK hw (Nat.le_of_ble_eq_true rfl) en_pipe rfl)) rfl rfl hl.1 rfl (lv_room (Nat.le_of_ble_eq_true rfl)) dX5_leak_2 ⟨Nat.le_of_ble_eq_true rfl, Nat.le_of_ble_eq_true rfl⟩) hS (fun ce q9 H locs hn hw hS h1 h2 h3 => ?_) (fun H locs hn hw hS => ?_)
  · have hf := iq hn hf
    obtain rfl := Option.some.inj hf
    exact rOut htb hlocks hn hw hS h1 h2 h3 (Nat.le_of_ble_eq_true rfl) (Nat.le_of_ble_eq_true rfl)
  · have hf := ip hn hf
    refine lv_aload_n hx hb dX5_leak_5 rfl (lv_at hl 0 rfl) ?_
    refine lv_iload_n hx hb dX5_leak_6 rfl (lv_at hl 2 rfl) ?_
    refine lv_iconst (v := (1 : Int32)) hx hb dX5_leak_7 (by decide) ?_
    refine lv_bipush (v := (10 : Int32)) hx hb dX5_leak_8 (by decide) ?_
    obtain ⟨o2, ho2, hf⟩ := ob hf
    refine rxCallV (vx_runV (As := [.int x2, .int (1 : Int32), .int (10 : Int32)]) (rest := []) ⟨hx, hb, hml, hown, hts⟩ (ctX5_checkRange (l := l) (D := D) (cy := cy) (a := a) hfl ho2) (cwV 3 hts gX5_leak_X5_checkRange rfl rfl rfl (by decide +kernel) ⟨Nat.le_of_ble_eq_true rfl, Nat.le_of_ble_eq_true rfl⟩) (pV hK hZ hw hS (rRecv hK hw (Nat.le_of_ble_eq_true rfl) en_pipe rfl)) rfl rfl hl.1 rfl (lv_room (Nat.le_of_ble_eq_true rfl)) dX5_leak_10 ⟨Nat.le_of_ble_eq_true rfl, Nat.le_of_ble_eq_true rfl⟩) hS (fun ce q9 H locs hn hw hS h1 h2 h3 => ?_) (fun H locs hn hw hS => ?_)
    · have hf := iq hn hf
      obtain rfl := Option.some.inj hf
      exact rOut htb hlocks hn hw hS h1 h2 h3 (Nat.le_of_ble_eq_true rfl) (Nat.le_of_ble_eq_true rfl)
    · have hf := ip hn hf
      refine lv_aload_n hx hb dX5_leak_13 rfl (lv_at hl 0 rfl) ?_
      refine rGet hx hb hts iX5_leak_X5 hown hK hw (Nat.le_of_ble_eq_true rfl) en_pipe rfl 5 (by decide) (hts _ kX5_leak_0) rfl rfl dX5_leak_14 ?_
      refine lv_iload_n hx hb dX5_leak_17 rfl (lv_at hl 1 rfl) ?_
      refine lv_iload_n hx hb dX5_leak_18 rfl (lv_at hl 2 rfl) ?_
      refine lv_iconst (v := (0 : Int32)) hx hb dX5_leak_19 (by decide) ?_
      obtain ⟨o3, ho3, hf⟩ := ob hf
      refine rCallV (va_runVN (As := [.int x1, .int x2, .int (0 : Int32)]) (rest := []) ⟨hx, hb, hml, hown, hts⟩ (ctX4_tell (l := l) (D := D) (cy := cy) (a := a) ho3) ⟨va_cnB 3 hts gX5_leak_X4_tell_n117 rfl rfl rfl (hK.2.2.1 _ nwM_117) (hts _ kX5_leak_1) (by decide +kernel) ⟨Nat.le_of_ble_eq_true rfl, Nat.le_of_ble_eq_true rfl⟩, (hts _ kX5_leak_2), (hts _ kX5_leak_3)⟩ (pV hK hZ hw hS (rRecv hK hw (ktap (Nat.le_of_ble_eq_true rfl)) (en_tap (Nat.le_of_ble_eq_true rfl)) rfl)) rfl rfl hl.1 rfl (lv_room (Nat.le_of_ble_eq_true rfl)) dX5_leak_20 ⟨Nat.le_of_ble_eq_true rfl, Nat.le_of_ble_eq_true rfl⟩) hS (fun H locs hw hS => ?_)
      obtain rfl := Option.some.inj hf
      exact rxVret hx hb hr hlocks hw hS dX5_leak_23
set_option maxRecDepth 100000 in
set_option maxHeartbeats 4000000 in
theorem ctX5_leak {l : Launch} {D : va_G} {cy : Nat → ClassId} {a : Nat} (hfl : l.stackTraces = false) {x1 : Int32} {x2 : Int32} {M : Mm} {out : Nat × Mm} (hf : fX5_leak x1 x2 M = some out) : vx_Met l yX5_leak wsX5_leak rX5_leak (Pre D cy a M [.ref (a + 0), .int x1, .int x2]) (QVx D cy a out.1 out.2) (XT D cy a out.1 out.2) 2 12 (Aq a) := by
  refine vx_ofW (cc := cX5_leak) (maxL := 3) (ret := none) (by decide +kernel) rfl ?_
  intro p e s m args below meth c s₁ B hml htb hv
  obtain ⟨rfl, hw, hK, hZ⟩ := hv
  have hS : va_S (Aq a) s.heap s.heap [] := va_S.rf
  have hl := lv_entry ([.ref (a + 0), .int x1, .int x2]) (n := 3) (Nat.le_of_ble_eq_true rfl)
  rw [lg_entry_eq]
  generalize (lg_sl ([.ref (a + 0), .int x1, .int x2]) ++ List.replicate (3 - (lg_sl ([.ref (a + 0), .int x1, .int x2])).length) Slot.unset).toArray = ls at hl ⊢
  exact bX5_leak_0 B.exec B.bytes B.returns hml (findClass_of_methodNamed B.named) (atoms_spec (ws := wsX5_leak) B.pre) B.notSynchronized hK hZ htb hfl _ _ _ _ _ _ hw hS hl hf
def rX5_receive : Room := { frames := 7, cells := 1, slots := 6, locals := 112 }
noncomputable def fX5_receive (x1 : Int32) (M : Mm) : Option (Nat × Int32 × Mm) := ((fX5_checkIndex x1 (4 : Int32) M).bind fun o1 => if o1 = 0 then some (0, gi M (6 + 2) 2, si M (6 + 2) 2 x1) else some (o1, 0, M))
set_option maxRecDepth 20000 in
theorem iX5_receive_X4 : ∀ w ∈ wsX40, w ∈ wsX5_receive := by decide +kernel
set_option maxRecDepth 20000 in
theorem iX5_receive_X5 : ∀ w ∈ wsX50, w ∈ wsX5_receive := by decide +kernel
set_option maxRecDepth 20000 in
theorem kX5_receive_0 : Cond.fieldLink RX5 47 "BatchPipe" "outlet" "LBatchPipe$Tap;" ∈ wsX5_receive := by decide +kernel
set_option maxRecDepth 100000 in
set_option maxHeartbeats 4000000 in
theorem bX5_receive_0 {p : Program} {l : Launch} {e : Env} {s : State} {m : MethodId} {args : Array Value} {below : List Frame} {meth : Method} {c : Code} {D : va_G} {cy : Nat → ClassId} {a : Nat} (hx : p.tables.exec = Jvm.exec) (hb : c.code = cX5_receive) (hr : meth.sig.returnType = (some .int)) (hml : c.maxLocals = 3) (hown : s.vm.findClass RX5 = some m.cls) (hts : ∀ w ∈ wsX5_receive, w.before args s = true) (hlocks : meth.locks = false) (hK : KS D cy s) (hZ : ZZ a s s.heap) (htb : ∀ x ∈ c.exceptionTable.toList, False) (hfl : l.stackTraces = false) {out : Nat × Int32 × Mm} : ∀ (x1 : Int32) (M : Mm) (H : Heap) (locs : List Loc) (ls : Array Slot), HP D cy a M H → va_S (Aq a) s.heap H locs → lv_has ls 3 [(0, .ref (a + 0)), (1, .int x1)] → fX5_receive x1 M = some out → W p l e rX5_receive s m args below meth c H locs 0 0 (vx_MQ below (QIx D cy a out.1 out.2.1 out.2.2) (XT D cy a out.1 out.2.2) args s 1 6 (Aq a)) (F0 m 0 ls []) := by
  intro x1 M H locs ls hw hS hl hf
  unfold fX5_receive at hf
  refine lv_aload_n hx hb dX5_receive_0 rfl (lv_at hl 0 rfl) ?_
  refine lv_iload_n hx hb dX5_receive_1 rfl (lv_at hl 1 rfl) ?_
  refine lv_iconst (v := (4 : Int32)) hx hb dX5_receive_2 (by decide) ?_
  obtain ⟨o1, ho1, hf⟩ := ob hf
  refine rxCallV (vx_runV (As := [.int x1, .int (4 : Int32)]) (rest := []) ⟨hx, hb, hml, hown, hts⟩ (ctX5_checkIndex (l := l) (D := D) (cy := cy) (a := a) hfl ho1) (cwV 2 hts gX5_receive_X5_checkIndex rfl rfl rfl (by decide +kernel) ⟨Nat.le_of_ble_eq_true rfl, Nat.le_of_ble_eq_true rfl⟩) (pV hK hZ hw hS (rRecv hK hw (Nat.le_of_ble_eq_true rfl) en_pipe rfl)) rfl rfl hl.1 rfl (lv_room (Nat.le_of_ble_eq_true rfl)) dX5_receive_3 ⟨Nat.le_of_ble_eq_true rfl, Nat.le_of_ble_eq_true rfl⟩) hS (fun ce q9 H locs hn hw hS h1 h2 h3 => ?_) (fun H locs hn hw hS => ?_)
  · have hf := iq hn hf
    obtain rfl := Option.some.inj hf
    exact rOut htb hlocks hn hw hS h1 h2 h3 (Nat.le_of_ble_eq_true rfl) (Nat.le_of_ble_eq_true rfl)
  · have hf := ip hn hf
    refine lv_aload_n hx hb dX5_receive_6 rfl (lv_at hl 0 rfl) ?_
    refine rGet hx hb hts iX5_receive_X5 hown hK hw (Nat.le_of_ble_eq_true rfl) en_pipe rfl 7 (by decide) (hts _ kX5_receive_0) rfl rfl dX5_receive_7 ?_
    refine rGetNI hx hb hts iX5_receive_X4 hown hK hw (ktap (Nat.le_of_ble_eq_true rfl)) (en_tap (Nat.le_of_ble_eq_true rfl)) rfl 2 (by decide) nwF_114 rfl ge4_2 dX5_receive_10 ?_
    refine lv_istore_n (lv' := [(2, .int (gi M (6 + 2) 2)), (0, .ref (a + 0)), (1, .int x1)]) hx hb dX5_receive_13 rfl hl (Nat.le_of_ble_eq_true rfl) rfl (fun ls hl => ?_)
    refine lv_aload_n hx hb dX5_receive_14 rfl (lv_at hl 1 rfl) ?_
    refine rGet hx hb hts iX5_receive_X5 hown hK hw (Nat.le_of_ble_eq_true rfl) en_pipe rfl 7 (by decide) (hts _ kX5_receive_0) rfl rfl dX5_receive_15 ?_
    refine lv_iload_n hx hb dX5_receive_18 rfl (lv_at hl 2 rfl) ?_
    refine rPutN hx hb hts iX5_receive_X4 tyX4 tyX4_ok nmX4 hown hK hw hS (ktap (Nat.le_of_ble_eq_true rfl)) (en_tap (Nat.le_of_ble_eq_true rfl)) rfl 2 (by decide) nwF_114 rfl rfl rfl rfl (Nat.le_of_ble_eq_true rfl) (hs4_2 (Nat.le_of_ble_eq_true rfl)) dX5_receive_19 (fun H locs hw hS => ?_)
    refine lv_iload_n hx hb dX5_receive_22 rfl (lv_at hl 0 rfl) ?_
    obtain rfl := Option.some.inj hf
    exact rxIret hx hb hr hlocks hw hS dX5_receive_23
set_option maxRecDepth 100000 in
set_option maxHeartbeats 4000000 in
theorem ctX5_receive {l : Launch} {D : va_G} {cy : Nat → ClassId} {a : Nat} (hfl : l.stackTraces = false) {x1 : Int32} {M : Mm} {out : Nat × Int32 × Mm} (hf : fX5_receive x1 M = some out) : vx_Met l yX5_receive wsX5_receive rX5_receive (Pre D cy a M [.ref (a + 0), .int x1]) (QIx D cy a out.1 out.2.1 out.2.2) (XT D cy a out.1 out.2.2) 1 6 (Aq a) := by
  refine vx_ofW (cc := cX5_receive) (maxL := 3) (ret := (some .int)) (by decide +kernel) rfl ?_
  intro p e s m args below meth c s₁ B hml htb hv
  obtain ⟨rfl, hw, hK, hZ⟩ := hv
  have hS : va_S (Aq a) s.heap s.heap [] := va_S.rf
  have hl := lv_entry ([.ref (a + 0), .int x1]) (n := 3) (Nat.le_of_ble_eq_true rfl)
  rw [lg_entry_eq]
  generalize (lg_sl ([.ref (a + 0), .int x1]) ++ List.replicate (3 - (lg_sl ([.ref (a + 0), .int x1])).length) Slot.unset).toArray = ls at hl ⊢
  exact bX5_receive_0 B.exec B.bytes B.returns hml (findClass_of_methodNamed B.named) (atoms_spec (ws := wsX5_receive) B.pre) B.notSynchronized hK hZ htb hfl _ _ _ _ _ hw hS hl hf
def rX5_empty : Room := { frames := 7, cells := 1, slots := 6, locals := 112 }
noncomputable def fX5_empty (x1 : Int32) (M : Mm) : Option (Nat × Int32 × Mm) := ((fX5_checkIndex x1 (4 : Int32) M).bind fun o1 => if o1 = 0 then (if ¬ (x1 < 0 ∨ 4 ≤ x1.toNatClampNeg) then ((fX3_pourOut x1.toNatClampNeg M).bind fun o3 => some (0, o3.1, o3.2)) else none) else some (o1, 0, M))
set_option maxRecDepth 20000 in
theorem iX5_empty_X5 : ∀ w ∈ wsX50, w ∈ wsX5_empty := by decide +kernel
set_option maxRecDepth 20000 in
theorem kX5_empty_0 : Cond.fieldLink RX5 29 "BatchPipe" "tanks" "[LBatchPipe$Tank;" ∈ wsX5_empty := by decide +kernel
set_option maxRecDepth 20000 in
theorem kX5_empty_1 : Cond.initialized RX3 ∈ wsX5_empty := by decide +kernel
set_option maxRecDepth 20000 in
theorem kX5_empty_2 : Cond.instanceMethod yX3_pourOut ∈ wsX5_empty := by decide +kernel
set_option maxRecDepth 20000 in
theorem kX5_empty_3 : Cond.selects RX3 yX3_pourOut yX3_pourOut ∈ wsX5_empty := by decide +kernel
set_option maxRecDepth 100000 in
set_option maxHeartbeats 4000000 in
theorem bX5_empty_0 {p : Program} {l : Launch} {e : Env} {s : State} {m : MethodId} {args : Array Value} {below : List Frame} {meth : Method} {c : Code} {D : va_G} {cy : Nat → ClassId} {a : Nat} (hx : p.tables.exec = Jvm.exec) (hb : c.code = cX5_empty) (hr : meth.sig.returnType = (some .int)) (hml : c.maxLocals = 2) (hown : s.vm.findClass RX5 = some m.cls) (hts : ∀ w ∈ wsX5_empty, w.before args s = true) (hlocks : meth.locks = false) (hK : KS D cy s) (hZ : ZZ a s s.heap) (htb : ∀ x ∈ c.exceptionTable.toList, False) (hfl : l.stackTraces = false) {out : Nat × Int32 × Mm} : ∀ (x1 : Int32) (M : Mm) (H : Heap) (locs : List Loc) (ls : Array Slot), HP D cy a M H → va_S (Aq a) s.heap H locs → lv_has ls 2 [(0, .ref (a + 0)), (1, .int x1)] → fX5_empty x1 M = some out → W p l e rX5_empty s m args below meth c H locs 0 0 (vx_MQ below (QIx D cy a out.1 out.2.1 out.2.2) (XT D cy a out.1 out.2.2) args s 1 6 (Aq a)) (F0 m 0 ls []) := by
  intro x1 M H locs ls hw hS hl hf
  unfold fX5_empty at hf
  refine lv_aload_n hx hb dX5_empty_0 rfl (lv_at hl 0 rfl) ?_
  refine lv_iload_n hx hb dX5_empty_1 rfl (lv_at hl 1 rfl) ?_
  refine lv_iconst (v := (4 : Int32)) hx hb dX5_empty_2 (by decide) ?_
  obtain ⟨o1, ho1, hf⟩ := ob hf
  refine rxCallV (vx_runV (As := [.int x1, .int (4 : Int32)]) (rest := []) ⟨hx, hb, hml, hown, hts⟩ (ctX5_checkIndex (l := l) (D := D) (cy := cy) (a := a) hfl ho1) (cwV 2 hts gX5_empty_X5_checkIndex rfl rfl rfl (by decide +kernel) ⟨Nat.le_of_ble_eq_true rfl, Nat.le_of_ble_eq_true rfl⟩) (pV hK hZ hw hS (rRecv hK hw (Nat.le_of_ble_eq_true rfl) en_pipe rfl)) rfl rfl hl.1 rfl (lv_room (Nat.le_of_ble_eq_true rfl)) dX5_empty_3 ⟨Nat.le_of_ble_eq_true rfl, Nat.le_of_ble_eq_true rfl⟩) hS (fun ce q9 H locs hn hw hS h1 h2 h3 => ?_) (fun H locs hn hw hS => ?_)
  · have hf := iq hn hf
    obtain rfl := Option.some.inj hf
    exact rOut htb hlocks hn hw hS h1 h2 h3 (Nat.le_of_ble_eq_true rfl) (Nat.le_of_ble_eq_true rfl)
  · have hf := ip hn hf
    refine lv_aload_n hx hb dX5_empty_6 rfl (lv_at hl 0 rfl) ?_
    refine rGet hx hb hts iX5_empty_X5 hown hK hw (Nat.le_of_ble_eq_true rfl) en_pipe rfl 3 (by decide) (hts _ kX5_empty_0) rfl rfl dX5_empty_7 ?_
    refine lv_iload_n hx hb dX5_empty_10 rfl (lv_at hl 1 rfl) ?_
    obtain ⟨hg2, hf⟩ := og hf
    refine rAald hx hb hK hw (k := 4) (Nat.le_of_ble_eq_true rfl) 5 en_tanks rfl hg2 dX5_empty_11 ?_
    obtain ⟨o3, ho3, hf⟩ := ob hf
    refine rCallI (va_runVN (As := []) (rest := []) ⟨hx, hb, hml, hown, hts⟩ (ctX3_pourOut (l := l) (D := D) (cy := cy) (a := a) ho3) ⟨va_cnB 0 hts gX5_empty_X3_pourOut_n126 rfl rfl rfl (hK.2.2.1 _ nwM_126) (hts _ kX5_empty_1) (by decide +kernel) ⟨Nat.le_of_ble_eq_true rfl, Nat.le_of_ble_eq_true rfl⟩, (hts _ kX5_empty_2), (hts _ kX5_empty_3)⟩ (pV hK hZ hw hS (rRecv hK hw (ktank (vi hg2)) (en_tank (vi hg2)) rfl)) rfl rfl hl.1 rfl (lv_room (Nat.le_of_ble_eq_true rfl)) dX5_empty_12 ⟨Nat.le_of_ble_eq_true rfl, Nat.le_of_ble_eq_true rfl⟩) hS (fun H locs hw hS => ?_)
    obtain rfl := Option.some.inj hf
    exact rxIret hx hb hr hlocks hw hS dX5_empty_15
set_option maxRecDepth 100000 in
set_option maxHeartbeats 4000000 in
theorem ctX5_empty {l : Launch} {D : va_G} {cy : Nat → ClassId} {a : Nat} (hfl : l.stackTraces = false) {x1 : Int32} {M : Mm} {out : Nat × Int32 × Mm} (hf : fX5_empty x1 M = some out) : vx_Met l yX5_empty wsX5_empty rX5_empty (Pre D cy a M [.ref (a + 0), .int x1]) (QIx D cy a out.1 out.2.1 out.2.2) (XT D cy a out.1 out.2.2) 1 6 (Aq a) := by
  refine vx_ofW (cc := cX5_empty) (maxL := 2) (ret := (some .int)) (by decide +kernel) rfl ?_
  intro p e s m args below meth c s₁ B hml htb hv
  obtain ⟨rfl, hw, hK, hZ⟩ := hv
  have hS : va_S (Aq a) s.heap s.heap [] := va_S.rf
  have hl := lv_entry ([.ref (a + 0), .int x1]) (n := 2) (Nat.le_of_ble_eq_true rfl)
  rw [lg_entry_eq]
  generalize (lg_sl ([.ref (a + 0), .int x1]) ++ List.replicate (2 - (lg_sl ([.ref (a + 0), .int x1])).length) Slot.unset).toArray = ls at hl ⊢
  exact bX5_empty_0 B.exec B.bytes B.returns hml (findClass_of_methodNamed B.named) (atoms_spec (ws := wsX5_empty) B.pre) B.notSynchronized hK hZ htb hfl _ _ _ _ _ hw hS hl hf
def rX5_unitOf : Room := { frames := 0, cells := 0, slots := 0, locals := 0 }
noncomputable def fX5_unitOf (i1 : Nat) (x2 : Int32) (M : Mm) : Option (Int32) := (if i1 < 40 then some (((gi M (33 + i1) 0) * (512 : Int32)) + x2) else none)
set_option maxRecDepth 20000 in
theorem iX5_unitOf_X0 : ∀ w ∈ wsX00, w ∈ wsX5_unitOf := by decide +kernel
set_option maxRecDepth 100000 in
set_option maxHeartbeats 4000000 in
theorem bX5_unitOf_0 {p : Program} {l : Launch} {e : Env} {s : State} {m : MethodId} {args : Array Value} {below : List Frame} {meth : Method} {c : Code} {D : va_G} {cy : Nat → ClassId} {a : Nat} (hx : p.tables.exec = Jvm.exec) (hb : c.code = cX5_unitOf) (hr : meth.sig.returnType = (some .int)) (hml : c.maxLocals = 3) (hown : s.vm.findClass RX5 = some m.cls) (hts : ∀ w ∈ wsX5_unitOf, w.before args s = true) (hlocks : meth.locks = false) (hK : KS D cy s) (hZ : ZZ a s s.heap) {out : Int32} : ∀ (i1 : Nat) (x2 : Int32) (M : Mm) (H : Heap) (locs : List Loc) (ls : Array Slot), HP D cy a M H → va_S (Aq a) s.heap H locs → lv_has ls 3 [(0, .ref (a + 0)), (1, .ref (a + (33 + i1))), (2, .int x2)] → fX5_unitOf i1 x2 M = some out → W p l e rX5_unitOf s m args below meth c H locs 0 0 (MQ below (QI D cy a out M) args s 0 0 (Aq a)) (F0 m 0 ls []) := by
  intro i1 x2 M H locs ls hw hS hl hf
  unfold fX5_unitOf at hf
  refine lv_aload_n hx hb dX5_unitOf_0 rfl (lv_at hl 1 rfl) ?_
  obtain ⟨hi1, hf⟩ := og hf
  refine rGetNI hx hb hts iX5_unitOf_X0 hown hK hw (kbat hi1) (en_bat hi1) rfl 0 (by decide) nwF_188 rfl ge0_0 dX5_unitOf_1 ?_
  refine lv_sipush (v := (512 : Int32)) hx hb dX5_unitOf_4 (by decide) ?_
  refine lv_imul hx hb dX5_unitOf_7 ?_
  refine lv_iload_n hx hb dX5_unitOf_8 rfl (lv_at hl 2 rfl) ?_
  refine lv_iadd hx hb dX5_unitOf_9 ?_
  obtain rfl := Option.some.inj hf
  exact rIret hx hb hr hlocks hw hS dX5_unitOf_10
set_option maxRecDepth 100000 in
set_option maxHeartbeats 4000000 in
theorem ctX5_unitOf {l : Launch} {D : va_G} {cy : Nat → ClassId} {a : Nat} {i1 : Nat} {x2 : Int32} {M : Mm} {out : Int32} (hf : fX5_unitOf i1 x2 M = some out) : Met l yX5_unitOf wsX5_unitOf rX5_unitOf (Pre D cy a M [.ref (a + 0), .ref (a + (33 + i1)), .int x2]) (QI D cy a out M) 0 0 (Aq a) := by
  refine Met.ofW (cc := cX5_unitOf) (maxL := 3) (ret := (some .int)) (by decide +kernel) rfl ?_
  intro p e s m args below meth c s₁ B hml hv
  obtain ⟨rfl, hw, hK, hZ⟩ := hv
  have hS : va_S (Aq a) s.heap s.heap [] := va_S.rf
  have hl := lv_entry ([.ref (a + 0), .ref (a + (33 + i1)), .int x2]) (n := 3) (Nat.le_of_ble_eq_true rfl)
  rw [lg_entry_eq]
  generalize (lg_sl ([.ref (a + 0), .ref (a + (33 + i1)), .int x2]) ++ List.replicate (3 - (lg_sl ([.ref (a + 0), .ref (a + (33 + i1)), .int x2])).length) Slot.unset).toArray = ls at hl ⊢
  exact bX5_unitOf_0 B.exec B.bytes B.returns hml (findClass_of_methodNamed B.named) (atoms_spec (ws := wsX5_unitOf) B.pre) B.notSynchronized hK hZ _ _ _ _ _ _ hw hS hl hf
def rX5_launch : Room := { frames := 6, cells := 1, slots := 6, locals := 90 }
noncomputable def fX5_launch (M : Mm) : Option (Nat × Mm) := (if (gi M 0 10) = 0 then some (2, M) else (if (gi M 0 16) = (-1 : Int32) then ((gr M 0 11).bind fun j3 => (if j3 < 40 then ((fX5_unitOf j3 ((gi M (33 + j3) 4) - (1 : Int32)) M).bind fun o5 => some (0, si M 0 16 o5)) else none)) else some (2, M)))
set_option maxRecDepth 20000 in
theorem iX5_launch_X0 : ∀ w ∈ wsX00, w ∈ wsX5_launch := by decide +kernel
set_option maxRecDepth 20000 in
theorem iX5_launch_X5 : ∀ w ∈ wsX50, w ∈ wsX5_launch := by decide +kernel
set_option maxRecDepth 20000 in
theorem kX5_launch_0 : Cond.fieldLink RX5 73 "BatchPipe" "isOpen" "Z" ∈ wsX5_launch := by decide +kernel
set_option maxRecDepth 20000 in
theorem kX5_launch_1 : Cond.classLink RX5 80 "java/lang/IllegalStateException" ∈ wsX5_launch := by decide +kernel
set_option maxRecDepth 20000 in
theorem kX5_launch_2 : Cond.initialized "java/lang/IllegalStateException" ∈ wsX5_launch := by decide +kernel
set_option maxRecDepth 20000 in
theorem kX5_launch_3 : Cond.fieldLink RX5 54 "BatchPipe" "pigBehind" "I" ∈ wsX5_launch := by decide +kernel
set_option maxRecDepth 20000 in
theorem kX5_launch_4 : Cond.fieldLink RX5 65 "BatchPipe" "inletBatch" "LBatchPipe$Batch;" ∈ wsX5_launch := by decide +kernel
set_option maxRecDepth 20000 in
theorem xX5_launch_2 : ∀ w ∈ (vx_atS RX5 84 (exN 2) ["java/lang/RuntimeException", "java/lang/Exception"]).filter goodWord, w ∈ wsX5_launch := by decide +kernel
set_option maxRecDepth 100000 in
set_option maxHeartbeats 4000000 in
theorem bX5_launch_0 {p : Program} {l : Launch} {e : Env} {s : State} {m : MethodId} {args : Array Value} {below : List Frame} {meth : Method} {c : Code} {D : va_G} {cy : Nat → ClassId} {a : Nat} (hx : p.tables.exec = Jvm.exec) (hb : c.code = cX5_launch) (hr : meth.sig.returnType = none) (hml : c.maxLocals = 1) (hown : s.vm.findClass RX5 = some m.cls) (hts : ∀ w ∈ wsX5_launch, w.before args s = true) (hlocks : meth.locks = false) (hK : KS D cy s) (hZ : ZZ a s s.heap) (htb : ∀ x ∈ c.exceptionTable.toList, False) (hfl : l.stackTraces = false) {out : Nat × Mm} : ∀ (M : Mm) (H : Heap) (locs : List Loc) (ls : Array Slot), HP D cy a M H → va_S (Aq a) s.heap H locs → lv_has ls 1 [(0, .ref (a + 0))] → fX5_launch  M = some out → W p l e rX5_launch s m args below meth c H locs 0 0 (vx_MQ below (QVx D cy a out.1 out.2) (XT D cy a out.1 out.2) args s 1 6 (Aq a)) (F0 m 0 ls []) := by
  intro M H locs ls hw hS hl hf
  unfold fX5_launch at hf
  refine lv_aload_n hx hb dX5_launch_0 rfl (lv_at hl 0 rfl) ?_
  refine rGetI hx hb hts iX5_launch_X5 hown hK hw (Nat.le_of_ble_eq_true rfl) en_pipe rfl 10 (by decide) (hts _ kX5_launch_0) rfl ge5_10 dX5_launch_1 ?_
  refine lv_if_eq (tgt := 15) hx hb dX5_launch_4 (by decide) (fun c1 => ?_) (fun c1 => ?_)
  · have hf := ip c1 hf
    obtain rfl := Option.some.inj hf
    exact rThrow hx hb hfl 2 (by decide) (by decide +kernel) hts hown hK hZ hw hS kX5_launch_1 kX5_launch_2 nwS_130 xX5_launch_2 xbad_2_84 xgood_2_84_80 hml hl dX5_launch_15 dX5_launch_18 dX5_launch_19 dX5_launch_21 dX5_launch_24 htb (Nat.le_of_ble_eq_true rfl) (Nat.le_of_ble_eq_true rfl) (Nat.le_of_ble_eq_true rfl) (Nat.le_of_ble_eq_true rfl) hlocks (Nat.le_of_ble_eq_true rfl) (Nat.le_of_ble_eq_true rfl)
  · have hf := iq c1 hf
    refine lv_aload_n hx hb dX5_launch_7 rfl (lv_at hl 0 rfl) ?_
    refine rGetI hx hb hts iX5_launch_X5 hown hK hw (Nat.le_of_ble_eq_true rfl) en_pipe rfl 16 (by decide) (hts _ kX5_launch_3) rfl ge5_16 dX5_launch_8 ?_
    refine lv_iconst (v := (-1 : Int32)) hx hb dX5_launch_11 (by decide) ?_
    refine lv_icmp_eq (tgt := 25) hx hb dX5_launch_12 (by decide) (fun c2 => ?_) (fun c2 => ?_)
    · have hf := ip c2 hf
      refine lv_aload_n hx hb dX5_launch_25 rfl (lv_at hl 0 rfl) ?_
      refine lv_aload_n hx hb dX5_launch_26 rfl (lv_at hl 0 rfl) ?_
      refine lv_aload_n hx hb dX5_launch_27 rfl (lv_at hl 0 rfl) ?_
      refine rGetR hx hb hts iX5_launch_X5 hown hK hw (Nat.le_of_ble_eq_true rfl) en_pipe rfl 11 (by decide) (hts _ kX5_launch_4) rfl (base := 33) ge5_11 dX5_launch_28 ?_
      refine lv_aload_n hx hb dX5_launch_31 rfl (lv_at hl 0 rfl) ?_
      refine rGetR hx hb hts iX5_launch_X5 hown hK hw (Nat.le_of_ble_eq_true rfl) en_pipe rfl 11 (by decide) (hts _ kX5_launch_4) rfl (base := 33) ge5_11 dX5_launch_32 ?_
      obtain ⟨j3, ej3, hf⟩ := ob hf
      refine rDer ej3 ?_
      obtain ⟨hi4, hf⟩ := og hf
      refine rGetNI hx hb hts iX5_launch_X0 hown hK hw (kbat hi4) (en_bat hi4) rfl 4 (by decide) nwF_111 rfl ge0_4 dX5_launch_35 ?_
      refine lv_iconst (v := (1 : Int32)) hx hb dX5_launch_38 (by decide) ?_
      refine lv_isub hx hb dX5_launch_39 ?_
      refine W.eq (g2 := F0 m 40 ls [.int ((gi M (33 + j3) 4) - (1 : Int32)), .ref (a + (33 + j3)), .ref (a + 0), .ref (a + 0)]) (by rw [ej3]; rfl) ?_
      obtain ⟨o5, ho5, hf⟩ := ob hf
      refine rCallI (va_runV (As := [.ref (a + (33 + j3)), .int ((gi M (33 + j3) 4) - (1 : Int32))]) (rest := [.ref (a + 0)]) ⟨hx, hb, hml, hown, hts⟩ (ctX5_unitOf (l := l) (D := D) (cy := cy) (a := a) ho5) (cwV 2 hts gX5_launch_X5_unitOf rfl rfl rfl (by decide +kernel) ⟨Nat.le_of_ble_eq_true rfl, Nat.le_of_ble_eq_true rfl⟩) (pV hK hZ hw hS (rRecv hK hw (Nat.le_of_ble_eq_true rfl) en_pipe rfl)) rfl rfl hl.1 rfl (lv_room (Nat.le_of_ble_eq_true rfl)) dX5_launch_40 ⟨Nat.le_of_ble_eq_true rfl, Nat.le_of_ble_eq_true rfl⟩) hS (fun H locs hw hS => ?_)
      refine rPut hx hb hts iX5_launch_X5 tyX5 tyX5_ok nmX5 hown hK hw hS (Nat.le_of_ble_eq_true rfl) en_pipe rfl 16 (by decide) (hts _ kX5_launch_3) rfl rfl rfl rfl (Nat.le_of_ble_eq_true rfl) hs5_16 dX5_launch_43 (fun H locs hw hS => ?_)
      obtain rfl := Option.some.inj hf
      refine W.widen (k := 1) (n := 6) (Nat.le_of_ble_eq_true rfl) (Nat.le_of_ble_eq_true rfl) ?_
      exact rxVret hx hb hr hlocks hw hS dX5_launch_46
    · have hf := iq c2 hf
      obtain rfl := Option.some.inj hf
      exact rThrow hx hb hfl 2 (by decide) (by decide +kernel) hts hown hK hZ hw hS kX5_launch_1 kX5_launch_2 nwS_130 xX5_launch_2 xbad_2_84 xgood_2_84_80 hml hl dX5_launch_15 dX5_launch_18 dX5_launch_19 dX5_launch_21 dX5_launch_24 htb (Nat.le_of_ble_eq_true rfl) (Nat.le_of_ble_eq_true rfl) (Nat.le_of_ble_eq_true rfl) (Nat.le_of_ble_eq_true rfl) hlocks (Nat.le_of_ble_eq_true rfl) (Nat.le_of_ble_eq_true rfl)
set_option maxRecDepth 100000 in
set_option maxHeartbeats 4000000 in
theorem ctX5_launch {l : Launch} {D : va_G} {cy : Nat → ClassId} {a : Nat} (hfl : l.stackTraces = false) {M : Mm} {out : Nat × Mm} (hf : fX5_launch  M = some out) : vx_Met l yX5_launch wsX5_launch rX5_launch (Pre D cy a M [.ref (a + 0)]) (QVx D cy a out.1 out.2) (XT D cy a out.1 out.2) 1 6 (Aq a) := by
  refine vx_ofW (cc := cX5_launch) (maxL := 1) (ret := none) (by decide +kernel) rfl ?_
  intro p e s m args below meth c s₁ B hml htb hv
  obtain ⟨rfl, hw, hK, hZ⟩ := hv
  have hS : va_S (Aq a) s.heap s.heap [] := va_S.rf
  have hl := lv_entry ([.ref (a + 0)]) (n := 1) (Nat.le_of_ble_eq_true rfl)
  rw [lg_entry_eq]
  generalize (lg_sl ([.ref (a + 0)]) ++ List.replicate (1 - (lg_sl ([.ref (a + 0)])).length) Slot.unset).toArray = ls at hl ⊢
  exact bX5_launch_0 B.exec B.bytes B.returns hml (findClass_of_methodNamed B.named) (atoms_spec (ws := wsX5_launch) B.pre) B.notSynchronized hK hZ htb hfl _ _ _ _ hw hS hl hf
