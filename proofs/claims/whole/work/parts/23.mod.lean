def rX6_share : Room := { frames := 2, cells := 0, slots := 0, locals := 42 }
noncomputable def fX6_share_L30 : Nat → Int32 → Int32 → Int32 → Int32 → Int32 → Mm → Option (Int32 × Mm)
  | 0 => fun _ _ _ _ _ _ => none
  | n + 1 => fun x1 x2 x3 x4 x5 M => (if (4 : Int32) ≤ x5 then ((fX6_enteredOf x1 M).bind fun o2 => (if ¬ x4 = 0 then (if x3 ≤ x2 then ((fX6_waits x1 M).bind fun o5 => some (o5, M)) else ((fX6_waits x1 M).bind fun o6 => (if ((x2 * (o2 + (1 : Int32))) / x4) ≤ o6 then some ((x2 * (o2 + (1 : Int32))) / x4, M) else ((fX6_waits x1 M).bind fun o8 => some (o8, M))))) else none)) else ((fX6_waits x5 M).bind fun o9 => ((fX6_enteredOf x5 M).bind fun o10 => (fX6_share_L30 n) x1 x2 (x3 + o9) (x4 + (o10 + (1 : Int32))) (x5 + (1 : Int32)) M)))
noncomputable def fX6_share (x1 : Int32) (x2 : Int32) (M : Mm) : Option (Int32 × Mm) := ((fX6_isShipper x1 M).bind fun o1 => ((fX6_isBetween x2 (0 : Int32) (9999 : Int32) M).bind fun o2 => ((fX6_goes o1 o2 (1 : Int32) M).bind fun o3 => (if o3.1 = 0 then some ((0 : Int32), o3.2) else fX6_share_L30 400 x1 x2 (0 : Int32) (0 : Int32) (0 : Int32) o3.2))))
set_option maxRecDepth 100000 in
set_option maxHeartbeats 4000000 in
theorem bX6_share_30 {p : Program} {l : Launch} {e : Env} {s : State} {m : MethodId} {args : Array Value} {below : List Frame} {meth : Method} {c : Code} {D : va_G} {cy : Nat → ClassId} {a : Nat} (hx : p.tables.exec = Jvm.exec) (hb : c.code = cX6_share) (hr : meth.sig.returnType = (some .int)) (hml : c.maxLocals = 6) (hown : s.vm.findClass RX6 = some m.cls) (hts : ∀ w ∈ wsX6_share, w.before args s = true) (hlocks : meth.locks = false) (hK : KS D cy s) (hZ : ZZ a s s.heap) {out : Int32 × Mm} : ∀ (n : Nat), ∀ (x1 : Int32) (x2 : Int32) (x3 : Int32) (x4 : Int32) (x5 : Int32) (M : Mm) (H : Heap) (locs : List Loc) (ls : Array Slot), HP D cy a M H → va_S (Aq a) s.heap H locs → lv_has ls 6 [(0, .ref (a + 77)), (1, .int x1), (2, .int x2), (3, .int x3), (4, .int x4), (5, .int x5)] → fX6_share_L30 n x1 x2 x3 x4 x5 M = some out → W p l e rX6_share s m args below meth c H locs 0 0 (MQ below (QI D cy a out.1 out.2) args s 0 0 (Aq a)) (F0 m 30 ls []) := by
  intro n
  induction n with
  | zero =>
    intro x1 x2 x3 x4 x5 M H locs ls hw hS hl hf
    have hf : (none : Option (Int32 × Mm)) = some out := hf
    cases hf
  | succ n ih =>
    intro x1 x2 x3 x4 x5 M H locs ls hw hS hl hf
    unfold fX6_share_L30 at hf
    refine lv_iload hx hb dX6_share_30 (lv_at hl 5 rfl) ?_
    refine lv_iconst (v := (4 : Int32)) hx hb dX6_share_32 (by decide) ?_
    refine lv_icmp_ge (tgt := 64) hx hb dX6_share_33 (by decide) (fun c1 => ?_) (fun c1 => ?_)
    · have hf := ip c1 hf
      refine lv_iload_n hx hb dX6_share_64 rfl (lv_at hl 2 rfl) ?_
      refine lv_aload_n hx hb dX6_share_65 rfl (lv_at hl 0 rfl) ?_
      refine lv_iload_n hx hb dX6_share_66 rfl (lv_at hl 1 rfl) ?_
      obtain ⟨o2, ho2, hf⟩ := ob hf
      refine rCallI (va_runV (As := [.int x1]) (rest := [.int x2]) ⟨hx, hb, hml, hown, hts⟩ (ctX6_enteredOf (l := l) (D := D) (cy := cy) (a := a) ho2) (cwV 1 hts gX6_share_X6_enteredOf rfl rfl rfl (by decide +kernel) ⟨Nat.le_of_ble_eq_true rfl, Nat.le_of_ble_eq_true rfl⟩) (pV hK hZ hw hS (rRecv hK hw (Nat.le_of_ble_eq_true rfl) en_model rfl)) rfl rfl hl.1 rfl (lv_room (Nat.le_of_ble_eq_true rfl)) dX6_share_67 ⟨Nat.le_of_ble_eq_true rfl, Nat.le_of_ble_eq_true rfl⟩) hS (fun H locs hw hS => ?_)
      refine lv_iconst (v := (1 : Int32)) hx hb dX6_share_70 (by decide) ?_
      refine lv_iadd hx hb dX6_share_71 ?_
      refine lv_imul hx hb dX6_share_72 ?_
      refine lv_iload hx hb dX6_share_73 (lv_at hl 4 rfl) ?_
      obtain ⟨hd3, hf⟩ := og hf
      refine lv_idiv hx hb dX6_share_75 hd3 ?_
      refine lv_istore (lv' := [(5, .int ((x2 * (o2 + (1 : Int32))) / x4)), (0, .ref (a + 77)), (1, .int x1), (2, .int x2), (3, .int x3), (4, .int x4)]) hx hb dX6_share_76 hl (Nat.le_of_ble_eq_true rfl) rfl (fun ls hl => ?_)
      refine lv_iload_n hx hb dX6_share_78 rfl (lv_at hl 4 rfl) ?_
      refine lv_iload_n hx hb dX6_share_79 rfl (lv_at hl 3 rfl) ?_
      refine lv_icmp_le (tgt := 93) hx hb dX6_share_80 (by decide) (fun c4 => ?_) (fun c4 => ?_)
      · have hf := ip c4 hf
        refine lv_aload_n hx hb dX6_share_93 rfl (lv_at hl 1 rfl) ?_
        refine lv_iload_n hx hb dX6_share_94 rfl (lv_at hl 2 rfl) ?_
        obtain ⟨o5, ho5, hf⟩ := ob hf
        refine rCallI (va_runV (As := [.int x1]) (rest := []) ⟨hx, hb, hml, hown, hts⟩ (ctX6_waits (l := l) (D := D) (cy := cy) (a := a) ho5) (cwV 1 hts gX6_share_X6_waits rfl rfl rfl (by decide +kernel) ⟨Nat.le_of_ble_eq_true rfl, Nat.le_of_ble_eq_true rfl⟩) (pV hK hZ hw hS (rRecv hK hw (Nat.le_of_ble_eq_true rfl) en_model rfl)) rfl rfl hl.1 rfl (lv_room (Nat.le_of_ble_eq_true rfl)) dX6_share_95 ⟨Nat.le_of_ble_eq_true rfl, Nat.le_of_ble_eq_true rfl⟩) hS (fun H locs hw hS => ?_)
        refine lv_goto (tgt := 103) hx hb dX6_share_98 (by decide) ?_
        obtain rfl := Option.some.inj hf
        exact rIret hx hb hr hlocks hw hS dX6_share_103
      · have hf := iq c4 hf
        refine lv_iload hx hb dX6_share_83 (lv_at hl 0 rfl) ?_
        refine lv_aload_n hx hb dX6_share_85 rfl (lv_at hl 1 rfl) ?_
        refine lv_iload_n hx hb dX6_share_86 rfl (lv_at hl 2 rfl) ?_
        obtain ⟨o6, ho6, hf⟩ := ob hf
        refine rCallI (va_runV (As := [.int x1]) (rest := [.int ((x2 * (o2 + (1 : Int32))) / x4)]) ⟨hx, hb, hml, hown, hts⟩ (ctX6_waits (l := l) (D := D) (cy := cy) (a := a) ho6) (cwV 1 hts gX6_share_X6_waits rfl rfl rfl (by decide +kernel) ⟨Nat.le_of_ble_eq_true rfl, Nat.le_of_ble_eq_true rfl⟩) (pV hK hZ hw hS (rRecv hK hw (Nat.le_of_ble_eq_true rfl) en_model rfl)) rfl rfl hl.1 rfl (lv_room (Nat.le_of_ble_eq_true rfl)) dX6_share_87 ⟨Nat.le_of_ble_eq_true rfl, Nat.le_of_ble_eq_true rfl⟩) hS (fun H locs hw hS => ?_)
        refine lv_icmp_le (tgt := 101) hx hb dX6_share_90 (by decide) (fun c7 => ?_) (fun c7 => ?_)
        · have hf := ip c7 hf
          refine lv_iload hx hb dX6_share_101 (lv_at hl 0 rfl) ?_
          obtain rfl := Option.some.inj hf
          exact rIret hx hb hr hlocks hw hS dX6_share_103
        · have hf := iq c7 hf
          refine lv_aload_n hx hb dX6_share_93 rfl (lv_at hl 1 rfl) ?_
          refine lv_iload_n hx hb dX6_share_94 rfl (lv_at hl 2 rfl) ?_
          obtain ⟨o8, ho8, hf⟩ := ob hf
          refine rCallI (va_runV (As := [.int x1]) (rest := []) ⟨hx, hb, hml, hown, hts⟩ (ctX6_waits (l := l) (D := D) (cy := cy) (a := a) ho8) (cwV 1 hts gX6_share_X6_waits rfl rfl rfl (by decide +kernel) ⟨Nat.le_of_ble_eq_true rfl, Nat.le_of_ble_eq_true rfl⟩) (pV hK hZ hw hS (rRecv hK hw (Nat.le_of_ble_eq_true rfl) en_model rfl)) rfl rfl hl.1 rfl (lv_room (Nat.le_of_ble_eq_true rfl)) dX6_share_95 ⟨Nat.le_of_ble_eq_true rfl, Nat.le_of_ble_eq_true rfl⟩) hS (fun H locs hw hS => ?_)
          refine lv_goto (tgt := 103) hx hb dX6_share_98 (by decide) ?_
          obtain rfl := Option.some.inj hf
          exact rIret hx hb hr hlocks hw hS dX6_share_103
    · have hf := iq c1 hf
      refine lv_iload_n hx hb dX6_share_36 rfl (lv_at hl 3 rfl) ?_
      refine lv_aload_n hx hb dX6_share_37 rfl (lv_at hl 0 rfl) ?_
      refine lv_iload hx hb dX6_share_38 (lv_at hl 5 rfl) ?_
      obtain ⟨o9, ho9, hf⟩ := ob hf
      refine rCallI (va_runV (As := [.int x5]) (rest := [.int x3]) ⟨hx, hb, hml, hown, hts⟩ (ctX6_waits (l := l) (D := D) (cy := cy) (a := a) ho9) (cwV 1 hts gX6_share_X6_waits rfl rfl rfl (by decide +kernel) ⟨Nat.le_of_ble_eq_true rfl, Nat.le_of_ble_eq_true rfl⟩) (pV hK hZ hw hS (rRecv hK hw (Nat.le_of_ble_eq_true rfl) en_model rfl)) rfl rfl hl.1 rfl (lv_room (Nat.le_of_ble_eq_true rfl)) dX6_share_40 ⟨Nat.le_of_ble_eq_true rfl, Nat.le_of_ble_eq_true rfl⟩) hS (fun H locs hw hS => ?_)
      refine lv_iadd hx hb dX6_share_43 ?_
      refine lv_istore_n (lv' := [(3, .int (x3 + o9)), (0, .ref (a + 77)), (1, .int x1), (2, .int x2), (4, .int x4), (5, .int x5)]) hx hb dX6_share_44 rfl hl (Nat.le_of_ble_eq_true rfl) rfl (fun ls hl => ?_)
      refine lv_iload hx hb dX6_share_45 (lv_at hl 4 rfl) ?_
      refine lv_aload_n hx hb dX6_share_47 rfl (lv_at hl 1 rfl) ?_
      refine lv_iload hx hb dX6_share_48 (lv_at hl 5 rfl) ?_
      obtain ⟨o10, ho10, hf⟩ := ob hf
      refine rCallI (va_runV (As := [.int x5]) (rest := [.int x4]) ⟨hx, hb, hml, hown, hts⟩ (ctX6_enteredOf (l := l) (D := D) (cy := cy) (a := a) ho10) (cwV 1 hts gX6_share_X6_enteredOf rfl rfl rfl (by decide +kernel) ⟨Nat.le_of_ble_eq_true rfl, Nat.le_of_ble_eq_true rfl⟩) (pV hK hZ hw hS (rRecv hK hw (Nat.le_of_ble_eq_true rfl) en_model rfl)) rfl rfl hl.1 rfl (lv_room (Nat.le_of_ble_eq_true rfl)) dX6_share_50 ⟨Nat.le_of_ble_eq_true rfl, Nat.le_of_ble_eq_true rfl⟩) hS (fun H locs hw hS => ?_)
      refine lv_iconst (v := (1 : Int32)) hx hb dX6_share_53 (by decide) ?_
      refine lv_iadd hx hb dX6_share_54 ?_
      refine lv_iadd hx hb dX6_share_55 ?_
      refine lv_istore (lv' := [(4, .int (x4 + (o10 + (1 : Int32)))), (3, .int (x3 + o9)), (0, .ref (a + 77)), (1, .int x1), (2, .int x2), (5, .int x5)]) hx hb dX6_share_56 hl (Nat.le_of_ble_eq_true rfl) rfl (fun ls hl => ?_)
      refine lv_iinc (v := x5 + (1 : Int32)) (lv' := [(5, .int (x5 + (1 : Int32))), (4, .int (x4 + (o10 + (1 : Int32)))), (3, .int (x3 + o9)), (0, .ref (a + 77)), (1, .int x1), (2, .int x2)]) hx hb dX6_share_58 hl (k := 5) rfl rfl (Nat.le_of_ble_eq_true rfl) rfl (fun ls hl => ?_)
      refine lv_goto (tgt := 30) hx hb dX6_share_61 (by decide) ?_
      exact ih _ _ _ _ _ _ _ _ _ hw hS (lv_sub hl [3, 4, 5, 2, 1, 0] rfl) hf
set_option maxRecDepth 100000 in
set_option maxHeartbeats 4000000 in
theorem bX6_share_0 {p : Program} {l : Launch} {e : Env} {s : State} {m : MethodId} {args : Array Value} {below : List Frame} {meth : Method} {c : Code} {D : va_G} {cy : Nat → ClassId} {a : Nat} (hx : p.tables.exec = Jvm.exec) (hb : c.code = cX6_share) (hr : meth.sig.returnType = (some .int)) (hml : c.maxLocals = 6) (hown : s.vm.findClass RX6 = some m.cls) (hts : ∀ w ∈ wsX6_share, w.before args s = true) (hlocks : meth.locks = false) (hK : KS D cy s) (hZ : ZZ a s s.heap) {out : Int32 × Mm} : ∀ (x1 : Int32) (x2 : Int32) (M : Mm) (H : Heap) (locs : List Loc) (ls : Array Slot), HP D cy a M H → va_S (Aq a) s.heap H locs → lv_has ls 6 [(0, .ref (a + 77)), (1, .int x1), (2, .int x2)] → fX6_share x1 x2 M = some out → W p l e rX6_share s m args below meth c H locs 0 0 (MQ below (QI D cy a out.1 out.2) args s 0 0 (Aq a)) (F0 m 0 ls []) := by
  intro x1 x2 M H locs ls hw hS hl hf
  unfold fX6_share at hf
  refine lv_aload_n hx hb dX6_share_0 rfl (lv_at hl 0 rfl) ?_
  refine lv_iload_n hx hb dX6_share_1 rfl (lv_at hl 1 rfl) ?_
  obtain ⟨o1, ho1, hf⟩ := ob hf
  refine rCallB (va_runS (As := [.int x1]) (rest := [.ref (a + 77)]) ⟨hx, hb, hml, hown, hts⟩ (ctX6_isShipper (l := l) (D := D) (cy := cy) (a := a) ho1) (va_cwS 1 hts gX6_share_X6_isShipper rfl rfl rfl (by decide +kernel) ⟨Nat.le_of_ble_eq_true rfl, Nat.le_of_ble_eq_true rfl⟩) (pS hK hZ hw hS) rfl rfl hl.1 rfl (lv_room (Nat.le_of_ble_eq_true rfl)) dX6_share_2 ⟨Nat.le_of_ble_eq_true rfl, Nat.le_of_ble_eq_true rfl⟩) hS (fun H locs hw hS ho1b => ?_)
  refine lv_iload_n hx hb dX6_share_5 rfl (lv_at hl 2 rfl) ?_
  refine lv_iconst (v := (0 : Int32)) hx hb dX6_share_6 (by decide) ?_
  refine lv_sipush (v := (9999 : Int32)) hx hb dX6_share_7 (by decide) ?_
  obtain ⟨o2, ho2, hf⟩ := ob hf
  refine rCallB (va_runS (As := [.int x2, .int (0 : Int32), .int (9999 : Int32)]) (rest := [.int o1, .ref (a + 77)]) ⟨hx, hb, hml, hown, hts⟩ (ctX6_isBetween (l := l) (D := D) (cy := cy) (a := a) ho2) (va_cwS 3 hts gX6_share_X6_isBetween rfl rfl rfl (by decide +kernel) ⟨Nat.le_of_ble_eq_true rfl, Nat.le_of_ble_eq_true rfl⟩) (pS hK hZ hw hS) rfl rfl hl.1 rfl (lv_room (Nat.le_of_ble_eq_true rfl)) dX6_share_10 ⟨Nat.le_of_ble_eq_true rfl, Nat.le_of_ble_eq_true rfl⟩) hS (fun H locs hw hS ho2b => ?_)
  refine lv_iconst (v := (1 : Int32)) hx hb dX6_share_13 (by decide) ?_
  obtain ⟨o3, ho3, hf⟩ := ob hf
  refine rCallB (va_runV (As := [.int o1, .int o2, .int (1 : Int32)]) (rest := []) ⟨hx, hb, hml, hown, hts⟩ (ctX6_goes (l := l) (D := D) (cy := cy) (a := a) ho3) (cwV 3 hts gX6_share_X6_goes rfl rfl rfl (by decide +kernel) ⟨Nat.le_of_ble_eq_true rfl, Nat.le_of_ble_eq_true rfl⟩) (pV hK hZ hw hS (rRecv hK hw (Nat.le_of_ble_eq_true rfl) en_model rfl)) rfl rfl hl.1 rfl (lv_room (Nat.le_of_ble_eq_true rfl)) dX6_share_14 ⟨Nat.le_of_ble_eq_true rfl, Nat.le_of_ble_eq_true rfl⟩) hS (fun H locs hw hS ho3b => ?_)
  refine lv_if_ne (tgt := 22) hx hb dX6_share_17 (by decide) (fun c4 => ?_) (fun c4 => ?_)
  · have hf := iq c4 hf
    refine lv_iconst (v := (0 : Int32)) hx hb dX6_share_22 (by decide) ?_
    refine lv_istore_n (lv' := [(3, .int (0 : Int32)), (0, .ref (a + 77)), (1, .int x1), (2, .int x2)]) hx hb dX6_share_23 rfl hl (Nat.le_of_ble_eq_true rfl) rfl (fun ls hl => ?_)
    refine lv_iconst (v := (0 : Int32)) hx hb dX6_share_24 (by decide) ?_
    refine lv_istore (lv' := [(4, .int (0 : Int32)), (3, .int (0 : Int32)), (0, .ref (a + 77)), (1, .int x1), (2, .int x2)]) hx hb dX6_share_25 hl (Nat.le_of_ble_eq_true rfl) rfl (fun ls hl => ?_)
    refine lv_iconst (v := (0 : Int32)) hx hb dX6_share_27 (by decide) ?_
    refine lv_istore (lv' := [(5, .int (0 : Int32)), (4, .int (0 : Int32)), (3, .int (0 : Int32)), (0, .ref (a + 77)), (1, .int x1), (2, .int x2)]) hx hb dX6_share_28 hl (Nat.le_of_ble_eq_true rfl) rfl (fun ls hl => ?_)
    exact bX6_share_30 hx hb hr hml hown hts hlocks hK hZ 400 _ _ _ _ _ _ _ _ _ hw hS (lv_sub hl [3, 4, 5, 2, 1, 0] rfl) hf
  · have hf := ip c4 hf
    refine lv_iconst (v := (0 : Int32)) hx hb dX6_share_20 (by decide) ?_
    obtain rfl := Option.some.inj hf
    exact rIret hx hb hr hlocks hw hS dX6_share_21
set_option maxRecDepth 100000 in
set_option maxHeartbeats 4000000 in
theorem ctX6_share {l : Launch} {D : va_G} {cy : Nat → ClassId} {a : Nat} {x1 : Int32} {x2 : Int32} {M : Mm} {out : Int32 × Mm} (hf : fX6_share x1 x2 M = some out) : Met l yX6_share wsX6_share rX6_share (Pre D cy a M [.ref (a + 77), .int x1, .int x2]) (QI D cy a out.1 out.2) 0 0 (Aq a) := by
  refine Met.ofW (cc := cX6_share) (maxL := 6) (ret := (some .int)) (by decide +kernel) rfl ?_
  intro p e s m args below meth c s₁ B hml hv
  obtain ⟨rfl, hw, hK, hZ⟩ := hv
  have hS : va_S (Aq a) s.heap s.heap [] := va_S.rf
  have hl := lv_entry ([.ref (a + 77), .int x1, .int x2]) (n := 6) (Nat.le_of_ble_eq_true rfl)
  rw [lg_entry_eq]
  generalize (lg_sl ([.ref (a + 77), .int x1, .int x2]) ++ List.replicate (6 - (lg_sl ([.ref (a + 77), .int x1, .int x2])).length) Slot.unset).toArray = ls at hl ⊢
  exact bX6_share_0 B.exec B.bytes B.returns hml (findClass_of_methodNamed B.named) (atoms_spec (ws := wsX6_share) B.pre) B.notSynchronized hK hZ _ _ _ _ _ _ hw hS hl hf
