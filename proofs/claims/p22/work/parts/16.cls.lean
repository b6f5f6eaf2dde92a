def rX5_tank : Room := { frames := 7, cells := 2, slots := 12, locals := 113 }
noncomputable def fX5_tank (x1 : Int32) (x2 : Int32) (M : Mm) : Option (Nat × Int32) := ((fX5_checkIndex x1 (4 : Int32) M).bind fun o1 => if o1 = 0 then ((fX5_checkRange x2 (0 : Int32) (2 : Int32) M).bind fun o2 => if o2 = 0 then (if x2 = (0 : Int32) then (if ¬ (x1 < 0 ∨ 4 ≤ x1.toNatClampNeg) then some (0, gi M (73 + x1.toNatClampNeg) 0) else none) else (if x2 = (1 : Int32) then (if ¬ (x1 < 0 ∨ 4 ≤ x1.toNatClampNeg) then some (0, gi M (73 + x1.toNatClampNeg) 1) else none) else (if ¬ (x1 < 0 ∨ 4 ≤ x1.toNatClampNeg) then some (0, gi M (73 + x1.toNatClampNeg) 2) else none))) else some (o2, 0)) else some (o1, 0))
set_option maxRecDepth 20000 in
theorem iX5_tank_X3 : ∀ w ∈ wsX30, w ∈ wsX5_tank := by decide +kernel
set_option maxRecDepth 20000 in
theorem iX5_tank_X5 : ∀ w ∈ wsX50, w ∈ wsX5_tank := by decide +kernel
set_option maxRecDepth 20000 in
theorem kX5_tank_0 : Cond.fieldLink RX5 29 "BatchPipe" "tanks" "[LBatchPipe$Tank;" ∈ wsX5_tank := by decide +kernel
set_option maxRecDepth 100000 in
set_option maxHeartbeats 4000000 in
theorem bX5_tank_0 {p : Program} {l : Launch} {e : Env} {s : State} {m : MethodId} {args : Array Value} {below : List Frame} {meth : Method} {c : Code} {D : va_G} {cy : Nat → ClassId} {a : Nat} (hx : p.tables.exec = Jvm.exec) (hb : c.code = cX5_tank) (hr : meth.sig.returnType = (some .int)) (hml : c.maxLocals = 3) (hown : s.vm.findClass RX5 = some m.cls) (hts : ∀ w ∈ wsX5_tank, w.before args s = true) (hlocks : meth.locks = false) (hK : KS D cy s) (hZ : ZZ a s s.heap) (htb : ∀ x ∈ c.exceptionTable.toList, False) (hfl : l.stackTraces = false) {out : Nat × Int32} : ∀ (x1 : Int32) (x2 : Int32) (M : Mm) (H : Heap) (locs : List Loc) (ls : Array Slot), HP D cy a M H → va_S (Aq a) s.heap H locs → lv_has ls 3 [(0, .ref (a + 0)), (1, .int x1), (2, .int x2)] → fX5_tank x1 x2 M = some out → W p l e rX5_tank s m args below meth c H locs 0 0 (vx_MQ below (QIx D cy a out.1 out.2 M) (XT D cy a out.1 M) args s 2 12 (Aq a)) (F0 m 0 ls []) := by
  intro x1 x2 M H locs ls hw hS hl hf
  unfold fX5_tank at hf
  refine lv_aload_n hx hb dX5_tank_0 rfl (lv_at hl 0 rfl) ?_
  refine lv_iload_n hx hb dX5_tank_1 rfl (lv_at hl 1 rfl) ?_
  refine lv_iconst (v := (4 : Int32)) hx hb dX5_tank_2 (by decide) ?_
  obtain ⟨o1, ho1, hf⟩ := ob hf
  refine rxCallV (vx_runV (As := [.int x1, .int (4 : Int32)]) (rest := []) ⟨hx, hb, hml, hown, hts⟩ (ctX5_checkIndex (l := l) (D := D) (cy := cy) (a := a) hfl ho1) (cwV 2 hts gX5_tank_X5_checkIndex rfl rfl rfl (by decide +kernel) ⟨Nat.le_of_ble_eq_true rfl, Nat.le_of_ble_eq_true rfl⟩) (pV hK hZ hw hS (rRecv hK hw (Nat.le_of_ble_eq_true rfl) en_pipe rfl)) rfl rfl hl.1 rfl (lv_room (Nat.le_of_ble_eq_true rfl)) dX5_tank_3 ⟨Nat.le_of_ble_eq_true rfl, Nat.le_of_ble_eq_true rfl⟩) hS (fun ce q9 H locs hn hw hS h1 h2 h3 => ?_) (fun H locs hn hw hS => ?_)
  · have hf := iq hn hf
    obtain rfl := Option.some.inj hf
    exact rOut htb hlocks hn hw hS h1 h2 h3 (Nat.le_of_ble_eq_true rfl) (Nat.le_of_ble_eq_true rfl)
  · have hf := ip hn hf
    refine lv_aload_n hx hb dX5_tank_6 rfl (lv_at hl 0 rfl) ?_
    refine lv_iload_n hx hb dX5_tank_7 rfl (lv_at hl 2 rfl) ?_
    refine lv_iconst (v := (0 : Int32)) hx hb dX5_tank_8 (by decide) ?_
    refine lv_iconst (v := (2 : Int32)) hx hb dX5_tank_9 (by decide) ?_
    obtain ⟨o2, ho2, hf⟩ := ob hf
    refine rxCallV (vx_runV (As := [.int x2, .int (0 : Int32), .int (2 : Int32)]) (rest := []) ⟨hx, hb, hml, hown, hts⟩ (ctX5_checkRange (l := l) (D := D) (cy := cy) (a := a) hfl ho2) (cwV 3 hts gX5_tank_X5_checkRange rfl rfl rfl (by decide +kernel) ⟨Nat.le_of_ble_eq_true rfl, Nat.le_of_ble_eq_true rfl⟩) (pV hK hZ hw hS (rRecv hK hw (Nat.le_of_ble_eq_true rfl) en_pipe rfl)) rfl rfl hl.1 rfl (lv_room (Nat.le_of_ble_eq_true rfl)) dX5_tank_10 ⟨Nat.le_of_ble_eq_true rfl, Nat.le_of_ble_eq_true rfl⟩) hS (fun ce q9 H locs hn hw hS h1 h2 h3 => ?_) (fun H locs hn hw hS => ?_)
    · have hf := iq hn hf
      obtain rfl := Option.some.inj hf
      exact rOut htb hlocks hn hw hS h1 h2 h3 (Nat.le_of_ble_eq_true rfl) (Nat.le_of_ble_eq_true rfl)
    · have hf := ip hn hf
      refine lv_iload_n hx hb dX5_tank_13 rfl (lv_at hl 2 rfl) ?_
      by_cases c3 : x2 = (0 : Int32)
      · have hf := ip c3 hf
        refine lv_lookup (off := 26) (tgt := 40) hx hb dX5_tank_14 (by decide) (by rw [c3]; decide) (by decide) ?_
        refine lv_aload_n hx hb dX5_tank_40 rfl (lv_at hl 0 rfl) ?_
        refine rGet hx hb hts iX5_tank_X5 hown hK hw (Nat.le_of_ble_eq_true rfl) en_pipe rfl 3 (by decide) (hts _ kX5_tank_0) rfl rfl dX5_tank_41 ?_
        refine lv_iload_n hx hb dX5_tank_44 rfl (lv_at hl 1 rfl) ?_
        obtain ⟨hg4, hf⟩ := og hf
        refine rAald hx hb hK hw (k := 4) (Nat.le_of_ble_eq_true rfl) 5 en_tanks rfl hg4 dX5_tank_45 ?_
        refine rGetNI hx hb hts iX5_tank_X3 hown hK hw (ktank (vi hg4)) (en_tank (vi hg4)) rfl 0 (by decide) nwF_205 rfl ge3_0 dX5_tank_46 ?_
        obtain rfl := Option.some.inj hf
        exact rxIret hx hb hr hlocks hw hS dX5_tank_49
      · have hf := iq c3 hf
        by_cases c5 : x2 = (1 : Int32)
        · have hf := ip c5 hf
          refine lv_lookup (off := 36) (tgt := 50) hx hb dX5_tank_14 (by decide) (by rw [c5]; decide) (by decide) ?_
          refine lv_aload_n hx hb dX5_tank_50 rfl (lv_at hl 0 rfl) ?_
          refine rGet hx hb hts iX5_tank_X5 hown hK hw (Nat.le_of_ble_eq_true rfl) en_pipe rfl 3 (by decide) (hts _ kX5_tank_0) rfl rfl dX5_tank_51 ?_
          refine lv_iload_n hx hb dX5_tank_54 rfl (lv_at hl 1 rfl) ?_
          obtain ⟨hg6, hf⟩ := og hf
          refine rAald hx hb hK hw (k := 4) (Nat.le_of_ble_eq_true rfl) 5 en_tanks rfl hg6 dX5_tank_55 ?_
          refine rGetNI hx hb hts iX5_tank_X3 hown hK hw (ktank (vi hg6)) (en_tank (vi hg6)) rfl 1 (by decide) nwF_208 rfl ge3_1 dX5_tank_56 ?_
          obtain rfl := Option.some.inj hf
          exact rxIret hx hb hr hlocks hw hS dX5_tank_59
        · have hf := iq c5 hf
          refine lv_lookup (off := 46) (tgt := 60) hx hb dX5_tank_14 (by decide) (by simp only [List.toList_toArray]; rw [lv_osw c3 (by decide), lv_osw c5 (by decide)]; rfl) (by decide) ?_
          refine lv_aload_n hx hb dX5_tank_60 rfl (lv_at hl 0 rfl) ?_
          refine rGet hx hb hts iX5_tank_X5 hown hK hw (Nat.le_of_ble_eq_true rfl) en_pipe rfl 3 (by decide) (hts _ kX5_tank_0) rfl rfl dX5_tank_61 ?_
          refine lv_iload_n hx hb dX5_tank_64 rfl (lv_at hl 1 rfl) ?_
          obtain ⟨hg7, hf⟩ := og hf
          refine rAald hx hb hK hw (k := 4) (Nat.le_of_ble_eq_true rfl) 5 en_tanks rfl hg7 dX5_tank_65 ?_
          refine rGetNI hx hb hts iX5_tank_X3 hown hK hw (ktank (vi hg7)) (en_tank (vi hg7)) rfl 2 (by decide) nwF_211 rfl ge3_2 dX5_tank_66 ?_
          obtain rfl := Option.some.inj hf
          exact rxIret hx hb hr hlocks hw hS dX5_tank_69
set_option maxRecDepth 100000 in
set_option maxHeartbeats 4000000 in
theorem ctX5_tank {l : Launch} {D : va_G} {cy : Nat → ClassId} {a : Nat} (hfl : l.stackTraces = false) {x1 : Int32} {x2 : Int32} {M : Mm} {out : Nat × Int32} (hf : fX5_tank x1 x2 M = some out) : vx_Met l yX5_tank wsX5_tank rX5_tank (Pre D cy a M [.ref (a + 0), .int x1, .int x2]) (QIx D cy a out.1 out.2 M) (XT D cy a out.1 M) 2 12 (Aq a) := by
  refine vx_ofW (cc := cX5_tank) (maxL := 3) (ret := (some .int)) (by decide +kernel) rfl ?_
  intro p e s m args below meth c s₁ B hml htb hv
  obtain ⟨rfl, hw, hK, hZ⟩ := hv
  have hS : va_S (Aq a) s.heap s.heap [] := va_S.rf
  have hl := lv_entry ([.ref (a + 0), .int x1, .int x2]) (n := 3) (Nat.le_of_ble_eq_true rfl)
  rw [lg_entry_eq]
  generalize (lg_sl ([.ref (a + 0), .int x1, .int x2]) ++ List.replicate (3 - (lg_sl ([.ref (a + 0), .int x1, .int x2])).length) Slot.unset).toArray = ls at hl ⊢
  exact bX5_tank_0 B.exec B.bytes B.returns hml (findClass_of_methodNamed B.named) (atoms_spec (ws := wsX5_tank) B.pre) B.notSynchronized hK hZ htb hfl _ _ _ _ _ _ hw hS hl hf
def rX5_latestBalance : Room := { frames := 0, cells := 0, slots := 0, locals := 0 }
noncomputable def fX5_latestBalance_L4 : Nat → Int32 → Int32 → Mm → Option (Int32)
  | 0 => fun _ _ _ => none
  | n + 1 => fun x1 x2 M => (if (5 : Int32) ≤ x2 then some (x1) else (if ¬ (x2 < 0 ∨ 5 ≤ x2.toNatClampNeg) then (fX5_latestBalance_L4 n) (x1 + (gi M 5 x2.toNatClampNeg)) (x2 + (1 : Int32)) M else none))
noncomputable def fX5_latestBalance (M : Mm) : Option (Int32) := fX5_latestBalance_L4 400 (0 : Int32) (0 : Int32) M
set_option maxRecDepth 20000 in
theorem iX5_latestBalance_X5 : ∀ w ∈ wsX50, w ∈ wsX5_latestBalance := by decide +kernel
set_option maxRecDepth 20000 in
theorem kX5_latestBalance_0 : Cond.fieldLink RX5 33 "BatchPipe" "balances" "[I" ∈ wsX5_latestBalance := by decide +kernel
set_option maxRecDepth 100000 in
set_option maxHeartbeats 4000000 in
theorem bX5_latestBalance_4 {p : Program} {l : Launch} {e : Env} {s : State} {m : MethodId} {args : Array Value} {below : List Frame} {meth : Method} {c : Code} {D : va_G} {cy : Nat → ClassId} {a : Nat} (hx : p.tables.exec = Jvm.exec) (hb : c.code = cX5_latestBalance) (hr : meth.sig.returnType = (some .int)) (hml : c.maxLocals = 3) (hown : s.vm.findClass RX5 = some m.cls) (hts : ∀ w ∈ wsX5_latestBalance, w.before args s = true) (hlocks : meth.locks = false) (hK : KS D cy s) (hZ : ZZ a s s.heap) {out : Int32} : ∀ (n : Nat), ∀ (x1 : Int32) (x2 : Int32) (M : Mm) (H : Heap) (locs : List Loc) (ls : Array Slot), HP D cy a M H → va_S (Aq a) s.heap H locs → lv_has ls 3 [(0, .ref (a + 0)), (1, .int x1), (2, .int x2)] → fX5_latestBalance_L4 n x1 x2 M = some out → W p l e rX5_latestBalance s m args below meth c H locs 0 0 (MQ below (QI D cy a out M) args s 0 0 (Aq a)) (F0 m 4 ls []) := by
  intro n
  induction n with
  | zero =>
    intro x1 x2 M H locs ls hw hS hl hf
    have hf : (none : Option (Int32)) = some out := hf
    cases hf
  | succ n ih =>
    intro x1 x2 M H locs ls hw hS hl hf
    unfold fX5_latestBalance_L4 at hf
    refine lv_iload_n hx hb dX5_latestBalance_4 rfl (lv_at hl 2 rfl) ?_
    refine lv_iconst (v := (5 : Int32)) hx hb dX5_latestBalance_5 (by decide) ?_
    refine lv_icmp_ge (tgt := 24) hx hb dX5_latestBalance_6 (by decide) (fun c1 => ?_) (fun c1 => ?_)
    · have hf := ip c1 hf
      refine lv_iload_n hx hb dX5_latestBalance_24 rfl (lv_at hl 1 rfl) ?_
      obtain rfl := Option.some.inj hf
      exact rIret hx hb hr hlocks hw hS dX5_latestBalance_25
    · have hf := iq c1 hf
      refine lv_iload_n hx hb dX5_latestBalance_9 rfl (lv_at hl 1 rfl) ?_
      refine lv_aload_n hx hb dX5_latestBalance_10 rfl (lv_at hl 0 rfl) ?_
      refine rGet hx hb hts iX5_latestBalance_X5 hown hK hw (Nat.le_of_ble_eq_true rfl) en_pipe rfl 4 (by decide) (hts _ kX5_latestBalance_0) rfl rfl dX5_latestBalance_11 ?_
      refine lv_iload_n hx hb dX5_latestBalance_14 rfl (lv_at hl 2 rfl) ?_
      obtain ⟨hg2, hf⟩ := og hf
      refine rIald hx hb hK hw (Nat.le_of_ble_eq_true rfl) en_a5 hg2 dX5_latestBalance_15 ?_
      refine lv_iadd hx hb dX5_latestBalance_16 ?_
      refine lv_istore_n (lv' := [(1, .int (x1 + (gi M 5 x2.toNatClampNeg))), (0, .ref (a + 0)), (2, .int x2)]) hx hb dX5_latestBalance_17 rfl hl (Nat.le_of_ble_eq_true rfl) rfl (fun ls hl => ?_)
      refine lv_iinc (v := x2 + (1 : Int32)) (lv' := [(2, .int (x2 + (1 : Int32))), (1, .int (x1 + (gi M 5 x2.toNatClampNeg))), (0, .ref (a + 0))]) hx hb dX5_latestBalance_18 hl (k := 2) rfl rfl (Nat.le_of_ble_eq_true rfl) rfl (fun ls hl => ?_)
      refine lv_goto (tgt := 4) hx hb dX5_latestBalance_21 (by decide) ?_
      exact ih _ _ _ _ _ _ hw hS (lv_sub hl [2, 1, 0] rfl) hf
set_option maxRecDepth 100000 in
set_option maxHeartbeats 4000000 in
theorem bX5_latestBalance_0 {p : Program} {l : Launch} {e : Env} {s : State} {m : MethodId} {args : Array Value} {below : List Frame} {meth : Method} {c : Code} {D : va_G} {cy : Nat → ClassId} {a : Nat} (hx : p.tables.exec = Jvm.exec) (hb : c.code = cX5_latestBalance) (hr : meth.sig.returnType = (some .int)) (hml : c.maxLocals = 3) (hown : s.vm.findClass RX5 = some m.cls) (hts : ∀ w ∈ wsX5_latestBalance, w.before args s = true) (hlocks : meth.locks = false) (hK : KS D cy s) (hZ : ZZ a s s.heap) {out : Int32} : ∀ (M : Mm) (H : Heap) (locs : List Loc) (ls : Array Slot), HP D cy a M H → va_S (Aq a) s.heap H locs → lv_has ls 3 [(0, .ref (a + 0))] → fX5_latestBalance  M = some out → W p l e rX5_latestBalance s m args below meth c H locs 0 0 (MQ below (QI D cy a out M) args s 0 0 (Aq a)) (F0 m 0 ls []) := by
  intro M H locs ls hw hS hl hf
  unfold fX5_latestBalance at hf
  refine lv_iconst (v := (0 : Int32)) hx hb dX5_latestBalance_0 (by decide) ?_
  refine lv_istore_n (lv' := [(1, .int (0 : Int32)), (0, .ref (a + 0))]) hx hb dX5_latestBalance_1 rfl hl (Nat.le_of_ble_eq_true rfl) rfl (fun ls hl => ?_)
  refine lv_iconst (v := (0 : Int32)) hx hb dX5_latestBalance_2 (by decide) ?_
  refine lv_istore_n (lv' := [(2, .int (0 : Int32)), (1, .int (0 : Int32)), (0, .ref (a + 0))]) hx hb dX5_latestBalance_3 rfl hl (Nat.le_of_ble_eq_true rfl) rfl (fun ls hl => ?_)
  exact bX5_latestBalance_4 hx hb hr hml hown hts hlocks hK hZ 400 _ _ _ _ _ _ hw hS (lv_sub hl [2, 1, 0] rfl) hf
set_option maxRecDepth 100000 in
set_option maxHeartbeats 4000000 in
theorem ctX5_latestBalance {l : Launch} {D : va_G} {cy : Nat → ClassId} {a : Nat} {M : Mm} {out : Int32} (hf : fX5_latestBalance  M = some out) : Met l yX5_latestBalance wsX5_latestBalance rX5_latestBalance (Pre D cy a M [.ref (a + 0)]) (QI D cy a out M) 0 0 (Aq a) := by
  refine Met.ofW (cc := cX5_latestBalance) (maxL := 3) (ret := (some .int)) (by decide +kernel) rfl ?_
  intro p e s m args below meth c s₁ B hml hv
  obtain ⟨rfl, hw, hK, hZ⟩ := hv
  have hS : va_S (Aq a) s.heap s.heap [] := va_S.rf
  have hl := lv_entry ([.ref (a + 0)]) (n := 3) (Nat.le_of_ble_eq_true rfl)
  rw [lg_entry_eq]
  generalize (lg_sl ([.ref (a + 0)]) ++ List.replicate (3 - (lg_sl ([.ref (a + 0)])).length) Slot.unset).toArray = ls at hl ⊢
  exact bX5_latestBalance_0 B.exec B.bytes B.returns hml (findClass_of_methodNamed B.named) (atoms_spec (ws := wsX5_latestBalance) B.pre) B.notSynchronized hK hZ _ _ _ _ hw hS hl hf
def rX5_spilledInAll : Room := { frames := 0, cells := 0, slots := 0, locals := 0 }
noncomputable def fX5_spilledInAll_L4 : Nat → Int32 → Int32 → Mm → Option (Int32)
  | 0 => fun _ _ _ => none
  | n + 1 => fun x1 x2 M => (if (4 : Int32) ≤ x2 then some (x1) else (if ¬ (x2 < 0 ∨ 4 ≤ x2.toNatClampNeg) then (fX5_spilledInAll_L4 n) (x1 + (gi M (73 + x2.toNatClampNeg) 3)) (x2 + (1 : Int32)) M else none))
noncomputable def fX5_spilledInAll (M : Mm) : Option (Int32) := fX5_spilledInAll_L4 400 (0 : Int32) (0 : Int32) M
set_option maxRecDepth 20000 in
theorem iX5_spilledInAll_X3 : ∀ w ∈ wsX30, w ∈ wsX5_spilledInAll := by decide +kernel
set_option maxRecDepth 20000 in
theorem iX5_spilledInAll_X5 : ∀ w ∈ wsX50, w ∈ wsX5_spilledInAll := by decide +kernel
set_option maxRecDepth 20000 in
theorem kX5_spilledInAll_0 : Cond.fieldLink RX5 29 "BatchPipe" "tanks" "[LBatchPipe$Tank;" ∈ wsX5_spilledInAll := by decide +kernel
set_option maxRecDepth 100000 in
set_option maxHeartbeats 4000000 in
theorem bX5_spilledInAll_4 {p : Program} {l : Launch} {e : Env} {s : State} {m : MethodId} {args : Array Value} {below : List Frame} {meth : Method} {c : Code} {D : va_G} {cy : Nat → ClassId} {a : Nat} (hx : p.tables.exec = Jvm.exec) (hb : c.code = cX5_spilledInAll) (hr : meth.sig.returnType = (some .int)) (hml : c.maxLocals = 3) (hown : s.vm.findClass RX5 = some m.cls) (hts : ∀ w ∈ wsX5_spilledInAll, w.before args s = true) (hlocks : meth.locks = false) (hK : KS D cy s) (hZ : ZZ a s s.heap) {out : Int32} : ∀ (n : Nat), ∀ (x1 : Int32) (x2 : Int32) (M : Mm) (H : Heap) (locs : List Loc) (ls : Array Slot), HP D cy a M H → va_S (Aq a) s.heap H locs → lv_has ls 3 [(0, .ref (a + 0)), (1, .int x1), (2, .int x2)] → fX5_spilledInAll_L4 n x1 x2 M = some out → W p l e rX5_spilledInAll s m args below meth c H locs 0 0 (MQ below (QI D cy a out M) args s 0 0 (Aq a)) (F0 m 4 ls []) := by
  intro n
  induction n with
  | zero =>
    intro x1 x2 M H locs ls hw hS hl hf
    have hf : (none : Option (Int32)) = some out := hf
    cases hf
  | succ n ih =>
    intro x1 x2 M H locs ls hw hS hl hf
    unfold fX5_spilledInAll_L4 at hf
    refine lv_iload_n hx hb dX5_spilledInAll_4 rfl (lv_at hl 2 rfl) ?_
    refine lv_iconst (v := (4 : Int32)) hx hb dX5_spilledInAll_5 (by decide) ?_
    refine lv_icmp_ge (tgt := 27) hx hb dX5_spilledInAll_6 (by decide) (fun c1 => ?_) (fun c1 => ?_)
    · have hf := ip c1 hf
      refine lv_iload_n hx hb dX5_spilledInAll_27 rfl (lv_at hl 1 rfl) ?_
      obtain rfl := Option.some.inj hf
      exact rIret hx hb hr hlocks hw hS dX5_spilledInAll_28
    · have hf := iq c1 hf
      refine lv_iload_n hx hb dX5_spilledInAll_9 rfl (lv_at hl 1 rfl) ?_
      refine lv_aload_n hx hb dX5_spilledInAll_10 rfl (lv_at hl 0 rfl) ?_
      refine rGet hx hb hts iX5_spilledInAll_X5 hown hK hw (Nat.le_of_ble_eq_true rfl) en_pipe rfl 3 (by decide) (hts _ kX5_spilledInAll_0) rfl rfl dX5_spilledInAll_11 ?_
      refine lv_iload_n hx hb dX5_spilledInAll_14 rfl (lv_at hl 2 rfl) ?_
      obtain ⟨hg2, hf⟩ := og hf
      refine rAald hx hb hK hw (k := 4) (Nat.le_of_ble_eq_true rfl) 5 en_tanks rfl hg2 dX5_spilledInAll_15 ?_
      refine rGetNI hx hb hts iX5_spilledInAll_X3 hown hK hw (ktank (vi hg2)) (en_tank (vi hg2)) rfl 3 (by decide) nwF_343 rfl ge3_3 dX5_spilledInAll_16 ?_
      refine lv_iadd hx hb dX5_spilledInAll_19 ?_
      refine lv_istore_n (lv' := [(1, .int (x1 + (gi M (73 + x2.toNatClampNeg) 3))), (0, .ref (a + 0)), (2, .int x2)]) hx hb dX5_spilledInAll_20 rfl hl (Nat.le_of_ble_eq_true rfl) rfl (fun ls hl => ?_)
      refine lv_iinc (v := x2 + (1 : Int32)) (lv' := [(2, .int (x2 + (1 : Int32))), (1, .int (x1 + (gi M (73 + x2.toNatClampNeg) 3))), (0, .ref (a + 0))]) hx hb dX5_spilledInAll_21 hl (k := 2) rfl rfl (Nat.le_of_ble_eq_true rfl) rfl (fun ls hl => ?_)
      refine lv_goto (tgt := 4) hx hb dX5_spilledInAll_24 (by decide) ?_
      exact ih _ _ _ _ _ _ hw hS (lv_sub hl [2, 1, 0] rfl) hf
set_option maxRecDepth 100000 in
set_option maxHeartbeats 4000000 in
theorem bX5_spilledInAll_0 {p : Program} {l : Launch} {e : Env} {s : State} {m : MethodId} {args : Array Value} {below : List Frame} {meth : Method} {c : Code} {D : va_G} {cy : Nat → ClassId} {a : Nat} (hx : p.tables.exec = Jvm.exec) (hb : c.code = cX5_spilledInAll) (hr : meth.sig.returnType = (some .int)) (hml : c.maxLocals = 3) (hown : s.vm.findClass RX5 = some m.cls) (hts : ∀ w ∈ wsX5_spilledInAll, w.before args s = true) (hlocks : meth.locks = false) (hK : KS D cy s) (hZ : ZZ a s s.heap) {out : Int32} : ∀ (M : Mm) (H : Heap) (locs : List Loc) (ls : Array Slot), HP D cy a M H → va_S (Aq a) s.heap H locs → lv_has ls 3 [(0, .ref (a + 0))] → fX5_spilledInAll  M = some out → W p l e rX5_spilledInAll s m args below meth c H locs 0 0 (MQ below (QI D cy a out M) args s 0 0 (Aq a)) (F0 m 0 ls []) := by
  intro M H locs ls hw hS hl hf
  unfold fX5_spilledInAll at hf
  refine lv_iconst (v := (0 : Int32)) hx hb dX5_spilledInAll_0 (by decide) ?_
  refine lv_istore_n (lv' := [(1, .int (0 : Int32)), (0, .ref (a + 0))]) hx hb dX5_spilledInAll_1 rfl hl (Nat.le_of_ble_eq_true rfl) rfl (fun ls hl => ?_)
  refine lv_iconst (v := (0 : Int32)) hx hb dX5_spilledInAll_2 (by decide) ?_
  refine lv_istore_n (lv' := [(2, .int (0 : Int32)), (1, .int (0 : Int32)), (0, .ref (a + 0))]) hx hb dX5_spilledInAll_3 rfl hl (Nat.le_of_ble_eq_true rfl) rfl (fun ls hl => ?_)
  exact bX5_spilledInAll_4 hx hb hr hml hown hts hlocks hK hZ 400 _ _ _ _ _ _ hw hS (lv_sub hl [2, 1, 0] rfl) hf
set_option maxRecDepth 100000 in
set_option maxHeartbeats 4000000 in
theorem ctX5_spilledInAll {l : Launch} {D : va_G} {cy : Nat → ClassId} {a : Nat} {M : Mm} {out : Int32} (hf : fX5_spilledInAll  M = some out) : Met l yX5_spilledInAll wsX5_spilledInAll rX5_spilledInAll (Pre D cy a M [.ref (a + 0)]) (QI D cy a out M) 0 0 (Aq a) := by
  refine Met.ofW (cc := cX5_spilledInAll) (maxL := 3) (ret := (some .int)) (by decide +kernel) rfl ?_
  intro p e s m args below meth c s₁ B hml hv
  obtain ⟨rfl, hw, hK, hZ⟩ := hv
  have hS : va_S (Aq a) s.heap s.heap [] := va_S.rf
  have hl := lv_entry ([.ref (a + 0)]) (n := 3) (Nat.le_of_ble_eq_true rfl)
  rw [lg_entry_eq]
  generalize (lg_sl ([.ref (a + 0)]) ++ List.replicate (3 - (lg_sl ([.ref (a + 0)])).length) Slot.unset).toArray = ls at hl ⊢
  exact bX5_spilledInAll_0 B.exec B.bytes B.returns hml (findClass_of_methodNamed B.named) (atoms_spec (ws := wsX5_spilledInAll) B.pre) B.notSynchronized hK hZ _ _ _ _ hw hS hl hf
def rX5_pipe : Room := { frames := 7, cells := 1, slots := 6, locals := 113 }
noncomputable def fX5_pipe (x1 : Int32) (M : Mm) : Option (Nat × Int32) := ((fX5_checkRange x1 (0 : Int32) (5 : Int32) M).bind fun o1 => if o1 = 0 then (if x1 = (0 : Int32) then some (0, gi M 0 14) else (if x1 = (1 : Int32) then ((fX5_latestBalance M).bind fun o4 => some (0, o4)) else (if x1 = (2 : Int32) then ((fX5_latestBalance M).bind fun o6 => (if o6 < (3 : Int32) then some (0, (0 : Int32)) else some (0, (1 : Int32)))) else (if x1 = (3 : Int32) then ((fX5_spilledInAll M).bind fun o9 => some (0, o9)) else (if x1 = (4 : Int32) then (if (gi M 0 16) = (-1 : Int32) then some (0, (0 : Int32)) else some (0, (1 : Int32))) else some (0, gi M 0 15)))))) else some (o1, 0))
set_option maxRecDepth 20000 in
theorem iX5_pipe_X5 : ∀ w ∈ wsX50, w ∈ wsX5_pipe := by decide +kernel
set_option maxRecDepth 20000 in
theorem kX5_pipe_0 : Cond.fieldLink RX5 214 "BatchPipe" "rateFound" "I" ∈ wsX5_pipe := by decide +kernel
set_option maxRecDepth 20000 in
theorem kX5_pipe_1 : Cond.fieldLink RX5 54 "BatchPipe" "pigBehind" "I" ∈ wsX5_pipe := by decide +kernel
set_option maxRecDepth 20000 in
theorem kX5_pipe_2 : Cond.fieldLink RX5 136 "BatchPipe" "minute" "I" ∈ wsX5_pipe := by decide +kernel
set_option maxRecDepth 100000 in
set_option maxHeartbeats 4000000 in
theorem bX5_pipe_0 {p : Program} {l : Launch} {e : Env} {s : State} {m : MethodId} {args : Array Value} {below : List Frame} {meth : Method} {c : Code} {D : va_G} {cy : Nat → ClassId} {a : Nat} (hx : p.tables.exec = Jvm.exec) (hb : c.code = cX5_pipe) (hr : meth.sig.returnType = (some .int)) (hml : c.maxLocals = 2) (hown : s.vm.findClass RX5 = some m.cls) (hts : ∀ w ∈ wsX5_pipe, w.before args s = true) (hlocks : meth.locks = false) (hK : KS D cy s) (hZ : ZZ a s s.heap) (htb : ∀ x ∈ c.exceptionTable.toList, False) (hfl : l.stackTraces = false) {out : Nat × Int32} : ∀ (x1 : Int32) (M : Mm) (H : Heap) (locs : List Loc) (ls : Array Slot), HP D cy a M H → va_S (Aq a) s.heap H locs → lv_has ls 2 [(0, .ref (a + 0)), (1, .int x1)] → fX5_pipe x1 M = some out → W p l e rX5_pipe s m args below meth c H locs 0 0 (vx_MQ below (QIx D cy a out.1 out.2 M) (XT D cy a out.1 M) args s 1 6 (Aq a)) (F0 m 0 ls []) := by
  intro x1 M H locs ls hw hS hl hf
  unfold fX5_pipe at hf
  refine lv_aload_n hx hb dX5_pipe_0 rfl (lv_at hl 0 rfl) ?_
  refine lv_iload_n hx hb dX5_pipe_1 rfl (lv_at hl 1 rfl) ?_
  refine lv_iconst (v := (0 : Int32)) hx hb dX5_pipe_2 (by decide) ?_
  refine lv_iconst (v := (5 : Int32)) hx hb dX5_pipe_3 (by decide) ?_
  obtain ⟨o1, ho1, hf⟩ := ob hf
  refine rxCallV (vx_runV (As := [.int x1, .int (0 : Int32), .int (5 : Int32)]) (rest := []) ⟨hx, hb, hml, hown, hts⟩ (ctX5_checkRange (l := l) (D := D) (cy := cy) (a := a) hfl ho1) (cwV 3 hts gX5_pipe_X5_checkRange rfl rfl rfl (by decide +kernel) ⟨Nat.le_of_ble_eq_true rfl, Nat.le_of_ble_eq_true rfl⟩) (pV hK hZ hw hS (rRecv hK hw (Nat.le_of_ble_eq_true rfl) en_pipe rfl)) rfl rfl hl.1 rfl (lv_room (Nat.le_of_ble_eq_true rfl)) dX5_pipe_4 ⟨Nat.le_of_ble_eq_true rfl, Nat.le_of_ble_eq_true rfl⟩) hS (fun ce q9 H locs hn hw hS h1 h2 h3 => ?_) (fun H locs hn hw hS => ?_)
  · have hf := iq hn hf
    obtain rfl := Option.some.inj hf
    exact rOut htb hlocks hn hw hS h1 h2 h3 (Nat.le_of_ble_eq_true rfl) (Nat.le_of_ble_eq_true rfl)
  · have hf := ip hn hf
    refine lv_iload_n hx hb dX5_pipe_7 rfl (lv_at hl 1 rfl) ?_
    by_cases c2 : x1 = (0 : Int32)
    · have hf := ip c2 hf
      refine lv_tableIn (off := 36) (tgt := 44) hx hb dX5_pipe_8 (by rw [c2]; decide) (by rw [c2]; decide) (by rw [c2]; rfl) (by decide) ?_
      refine lv_aload_n hx hb dX5_pipe_44 rfl (lv_at hl 0 rfl) ?_
      refine rGetI hx hb hts iX5_pipe_X5 hown hK hw (Nat.le_of_ble_eq_true rfl) en_pipe rfl 14 (by decide) (hts _ kX5_pipe_0) rfl ge5_14 dX5_pipe_45 ?_
      obtain rfl := Option.some.inj hf
      exact rxIret hx hb hr hlocks hw hS dX5_pipe_48
    · have hf := iq c2 hf
      by_cases c3 : x1 = (1 : Int32)
      · have hf := ip c3 hf
        refine lv_tableIn (off := 41) (tgt := 49) hx hb dX5_pipe_8 (by rw [c3]; decide) (by rw [c3]; decide) (by rw [c3]; rfl) (by decide) ?_
        refine lv_aload_n hx hb dX5_pipe_49 rfl (lv_at hl 0 rfl) ?_
        obtain ⟨o4, ho4, hf⟩ := ob hf
        refine rCallI (va_runV (As := []) (rest := []) ⟨hx, hb, hml, hown, hts⟩ (ctX5_latestBalance (l := l) (D := D) (cy := cy) (a := a) ho4) (cwV 0 hts gX5_pipe_X5_latestBalance rfl rfl rfl (by decide +kernel) ⟨Nat.le_of_ble_eq_true rfl, Nat.le_of_ble_eq_true rfl⟩) (pV hK hZ hw hS (rRecv hK hw (Nat.le_of_ble_eq_true rfl) en_pipe rfl)) rfl rfl hl.1 rfl (lv_room (Nat.le_of_ble_eq_true rfl)) dX5_pipe_50 ⟨Nat.le_of_ble_eq_true rfl, Nat.le_of_ble_eq_true rfl⟩) hS (fun H locs hw hS => ?_)
        obtain rfl := Option.some.inj hf
        exact rxIret hx hb hr hlocks hw hS dX5_pipe_53
      · have hf := iq c3 hf
        by_cases c5 : x1 = (2 : Int32)
        · have hf := ip c5 hf
          refine lv_tableIn (off := 46) (tgt := 54) hx hb dX5_pipe_8 (by rw [c5]; decide) (by rw [c5]; decide) (by rw [c5]; rfl) (by decide) ?_
          refine lv_aload_n hx hb dX5_pipe_54 rfl (lv_at hl 0 rfl) ?_
          obtain ⟨o6, ho6, hf⟩ := ob hf
          refine rCallI (va_runV (As := []) (rest := []) ⟨hx, hb, hml, hown, hts⟩ (ctX5_latestBalance (l := l) (D := D) (cy := cy) (a := a) ho6) (cwV 0 hts gX5_pipe_X5_latestBalance rfl rfl rfl (by decide +kernel) ⟨Nat.le_of_ble_eq_true rfl, Nat.le_of_ble_eq_true rfl⟩) (pV hK hZ hw hS (rRecv hK hw (Nat.le_of_ble_eq_true rfl) en_pipe rfl)) rfl rfl hl.1 rfl (lv_room (Nat.le_of_ble_eq_true rfl)) dX5_pipe_55 ⟨Nat.le_of_ble_eq_true rfl, Nat.le_of_ble_eq_true rfl⟩) hS (fun H locs hw hS => ?_)
          refine lv_iconst (v := (3 : Int32)) hx hb dX5_pipe_58 (by decide) ?_
          refine lv_icmp_lt (tgt := 66) hx hb dX5_pipe_59 (by decide) (fun c7 => ?_) (fun c7 => ?_)
          · have hf := ip c7 hf
            refine lv_iconst (v := (0 : Int32)) hx hb dX5_pipe_66 (by decide) ?_
            obtain rfl := Option.some.inj hf
            exact rxIret hx hb hr hlocks hw hS dX5_pipe_67
          · have hf := iq c7 hf
            refine lv_iconst (v := (1 : Int32)) hx hb dX5_pipe_62 (by decide) ?_
            refine lv_goto (tgt := 67) hx hb dX5_pipe_63 (by decide) ?_
            obtain rfl := Option.some.inj hf
            exact rxIret hx hb hr hlocks hw hS dX5_pipe_67
        · have hf := iq c5 hf
          by_cases c8 : x1 = (3 : Int32)
          · have hf := ip c8 hf
            refine lv_tableIn (off := 60) (tgt := 68) hx hb dX5_pipe_8 (by rw [c8]; decide) (by rw [c8]; decide) (by rw [c8]; rfl) (by decide) ?_
            refine lv_aload_n hx hb dX5_pipe_68 rfl (lv_at hl 0 rfl) ?_
            obtain ⟨o9, ho9, hf⟩ := ob hf
            refine rCallI (va_runV (As := []) (rest := []) ⟨hx, hb, hml, hown, hts⟩ (ctX5_spilledInAll (l := l) (D := D) (cy := cy) (a := a) ho9) (cwV 0 hts gX5_pipe_X5_spilledInAll rfl rfl rfl (by decide +kernel) ⟨Nat.le_of_ble_eq_true rfl, Nat.le_of_ble_eq_true rfl⟩) (pV hK hZ hw hS (rRecv hK hw (Nat.le_of_ble_eq_true rfl) en_pipe rfl)) rfl rfl hl.1 rfl (lv_room (Nat.le_of_ble_eq_true rfl)) dX5_pipe_69 ⟨Nat.le_of_ble_eq_true rfl, Nat.le_of_ble_eq_true rfl⟩) hS (fun H locs hw hS => ?_)
            obtain rfl := Option.some.inj hf
            exact rxIret hx hb hr hlocks hw hS dX5_pipe_72
          · have hf := iq c8 hf
            by_cases c10 : x1 = (4 : Int32)
            · have hf := ip c10 hf
              refine lv_tableIn (off := 65) (tgt := 73) hx hb dX5_pipe_8 (by rw [c10]; decide) (by rw [c10]; decide) (by rw [c10]; rfl) (by decide) ?_
              refine lv_aload_n hx hb dX5_pipe_73 rfl (lv_at hl 0 rfl) ?_
              refine rGetI hx hb hts iX5_pipe_X5 hown hK hw (Nat.le_of_ble_eq_true rfl) en_pipe rfl 16 (by decide) (hts _ kX5_pipe_1) rfl ge5_16 dX5_pipe_74 ?_
              refine lv_iconst (v := (-1 : Int32)) hx hb dX5_pipe_77 (by decide) ?_
              refine lv_icmp_eq (tgt := 85) hx hb dX5_pipe_78 (by decide) (fun c11 => ?_) (fun c11 => ?_)
              · have hf := ip c11 hf
                refine lv_iconst (v := (0 : Int32)) hx hb dX5_pipe_85 (by decide) ?_
                obtain rfl := Option.some.inj hf
                exact rxIret hx hb hr hlocks hw hS dX5_pipe_86
              · have hf := iq c11 hf
                refine lv_iconst (v := (1 : Int32)) hx hb dX5_pipe_81 (by decide) ?_
                refine lv_goto (tgt := 86) hx hb dX5_pipe_82 (by decide) ?_
                obtain rfl := Option.some.inj hf
                exact rxIret hx hb hr hlocks hw hS dX5_pipe_86
            · have hf := iq c10 hf
              refine lv_tableOut (tgt := 87) hx hb dX5_pipe_8 (swout0_4 c2 c3 c5 c8 c10) (by decide) ?_
              refine lv_aload_n hx hb dX5_pipe_87 rfl (lv_at hl 0 rfl) ?_
              refine rGetI hx hb hts iX5_pipe_X5 hown hK hw (Nat.le_of_ble_eq_true rfl) en_pipe rfl 15 (by decide) (hts _ kX5_pipe_2) rfl ge5_15 dX5_pipe_88 ?_
              obtain rfl := Option.some.inj hf
              exact rxIret hx hb hr hlocks hw hS dX5_pipe_91
set_option maxRecDepth 100000 in
set_option maxHeartbeats 4000000 in
theorem ctX5_pipe {l : Launch} {D : va_G} {cy : Nat → ClassId} {a : Nat} (hfl : l.stackTraces = false) {x1 : Int32} {M : Mm} {out : Nat × Int32} (hf : fX5_pipe x1 M = some out) : vx_Met l yX5_pipe wsX5_pipe rX5_pipe (Pre D cy a M [.ref (a + 0), .int x1]) (QIx D cy a out.1 out.2 M) (XT D cy a out.1 M) 1 6 (Aq a) := by
  refine vx_ofW (cc := cX5_pipe) (maxL := 2) (ret := (some .int)) (by decide +kernel) rfl ?_
  intro p e s m args below meth c s₁ B hml htb hv
  obtain ⟨rfl, hw, hK, hZ⟩ := hv
  have hS : va_S (Aq a) s.heap s.heap [] := va_S.rf
  have hl := lv_entry ([.ref (a + 0), .int x1]) (n := 2) (Nat.le_of_ble_eq_true rfl)
  rw [lg_entry_eq]
  generalize (lg_sl ([.ref (a + 0), .int x1]) ++ List.replicate (2 - (lg_sl ([.ref (a + 0), .int x1])).length) Slot.unset).toArray = ls at hl ⊢
  exact bX5_pipe_0 B.exec B.bytes B.returns hml (findClass_of_methodNamed B.named) (atoms_spec (ws := wsX5_pipe) B.pre) B.notSynchronized hK hZ htb hfl _ _ _ _ _ hw hS hl hf
def rX5_dirt : Room := { frames := 7, cells := 1, slots := 6, locals := 112 }
noncomputable def fX5_dirt (x1 : Int32) (M : Mm) : Option (Nat × Int32) := ((fX5_checkIndex x1 (gi M 0 8) M).bind fun o1 => if o1 = 0 then (if ¬ (x1 < 0 ∨ 6 ≤ x1.toNatClampNeg) then some (0, gi M (9 + 3 * x1.toNatClampNeg) 6) else none) else some (o1, 0))
set_option maxRecDepth 20000 in
theorem iX5_dirt_X2 : ∀ w ∈ wsX20, w ∈ wsX5_dirt := by decide +kernel
set_option maxRecDepth 20000 in
theorem iX5_dirt_X5 : ∀ w ∈ wsX50, w ∈ wsX5_dirt := by decide +kernel
set_option maxRecDepth 20000 in
theorem kX5_dirt_0 : Cond.fieldLink RX5 77 "BatchPipe" "segmentCount" "I" ∈ wsX5_dirt := by decide +kernel
set_option maxRecDepth 20000 in
theorem kX5_dirt_1 : Cond.fieldLink RX5 11 "BatchPipe" "segments" "[LBatchPipe$Segment;" ∈ wsX5_dirt := by decide +kernel
set_option maxRecDepth 100000 in
set_option maxHeartbeats 4000000 in
theorem bX5_dirt_0 {p : Program} {l : Launch} {e : Env} {s : State} {m : MethodId} {args : Array Value} {below : List Frame} {meth : Method} {c : Code} {D : va_G} {cy : Nat → ClassId} {a : Nat} (hx : p.tables.exec = Jvm.exec) (hb : c.code = cX5_dirt) (hr : meth.sig.returnType = (some .int)) (hml : c.maxLocals = 2) (hown : s.vm.findClass RX5 = some m.cls) (hts : ∀ w ∈ wsX5_dirt, w.before args s = true) (hlocks : meth.locks = false) (hK : KS D cy s) (hZ : ZZ a s s.heap) (htb : ∀ x ∈ c.exceptionTable.toList, False) (hfl : l.stackTraces = false) {out : Nat × Int32} : ∀ (x1 : Int32) (M : Mm) (H : Heap) (locs : List Loc) (ls : Array Slot), HP D cy a M H → va_S (Aq a) s.heap H locs → lv_has ls 2 [(0, .ref (a + 0)), (1, .int x1)] → fX5_dirt x1 M = some out → W p l e rX5_dirt s m args below meth c H locs 0 0 (vx_MQ below (QIx D cy a out.1 out.2 M) (XT D cy a out.1 M) args s 1 6 (Aq a)) (F0 m 0 ls []) := by
  intro x1 M H locs ls hw hS hl hf
  unfold fX5_dirt at hf
  refine lv_aload_n hx hb dX5_dirt_0 rfl (lv_at hl 0 rfl) ?_
  refine lv_iload_n hx hb dX5_dirt_1 rfl (lv_at hl 1 rfl) ?_
  refine lv_aload_n hx hb dX5_dirt_2 rfl (lv_at hl 0 rfl) ?_
  refine rGetI hx hb hts iX5_dirt_X5 hown hK hw (Nat.le_of_ble_eq_true rfl) en_pipe rfl 8 (by decide) (hts _ kX5_dirt_0) rfl ge5_8 dX5_dirt_3 ?_
  obtain ⟨o1, ho1, hf⟩ := ob hf
  refine rxCallV (vx_runV (As := [.int x1, .int (gi M 0 8)]) (rest := []) ⟨hx, hb, hml, hown, hts⟩ (ctX5_checkIndex (l := l) (D := D) (cy := cy) (a := a) hfl ho1) (cwV 2 hts gX5_dirt_X5_checkIndex rfl rfl rfl (by decide +kernel) ⟨Nat.le_of_ble_eq_true rfl, Nat.le_of_ble_eq_true rfl⟩) (pV hK hZ hw hS (rRecv hK hw (Nat.le_of_ble_eq_true rfl) en_pipe rfl)) rfl rfl hl.1 rfl (lv_room (Nat.le_of_ble_eq_true rfl)) dX5_dirt_6 ⟨Nat.le_of_ble_eq_true rfl, Nat.le_of_ble_eq_true rfl⟩) hS (fun ce q9 H locs hn hw hS h1 h2 h3 => ?_) (fun H locs hn hw hS => ?_)
  · have hf := iq hn hf
    obtain rfl := Option.some.inj hf
    exact rOut htb hlocks hn hw hS h1 h2 h3 (Nat.le_of_ble_eq_true rfl) (Nat.le_of_ble_eq_true rfl)
  · have hf := ip hn hf
    refine lv_aload_n hx hb dX5_dirt_9 rfl (lv_at hl 0 rfl) ?_
    refine rGet hx hb hts iX5_dirt_X5 hown hK hw (Nat.le_of_ble_eq_true rfl) en_pipe rfl 0 (by decide) (hts _ kX5_dirt_1) rfl rfl dX5_dirt_10 ?_
    refine lv_iload_n hx hb dX5_dirt_13 rfl (lv_at hl 1 rfl) ?_
    obtain ⟨hg2, hf⟩ := og hf
    refine rAald hx hb hK hw (k := 1) (Nat.le_of_ble_eq_true rfl) 2 en_segs rfl hg2 dX5_dirt_14 ?_
    refine rGetNI hx hb hts iX5_dirt_X2 hown hK hw (kseg (vi hg2)) (en_seg (vi hg2)) rfl 6 (by decide) nwF_223 rfl ge2_6 dX5_dirt_15 ?_
    obtain rfl := Option.some.inj hf
    exact rxIret hx hb hr hlocks hw hS dX5_dirt_18
set_option maxRecDepth 100000 in
set_option maxHeartbeats 4000000 in
theorem ctX5_dirt {l : Launch} {D : va_G} {cy : Nat → ClassId} {a : Nat} (hfl : l.stackTraces = false) {x1 : Int32} {M : Mm} {out : Nat × Int32} (hf : fX5_dirt x1 M = some out) : vx_Met l yX5_dirt wsX5_dirt rX5_dirt (Pre D cy a M [.ref (a + 0), .int x1]) (QIx D cy a out.1 out.2 M) (XT D cy a out.1 M) 1 6 (Aq a) := by
  refine vx_ofW (cc := cX5_dirt) (maxL := 2) (ret := (some .int)) (by decide +kernel) rfl ?_
  intro p e s m args below meth c s₁ B hml htb hv
  obtain ⟨rfl, hw, hK, hZ⟩ := hv
  have hS : va_S (Aq a) s.heap s.heap [] := va_S.rf
  have hl := lv_entry ([.ref (a + 0), .int x1]) (n := 2) (Nat.le_of_ble_eq_true rfl)
  rw [lg_entry_eq]
  generalize (lg_sl ([.ref (a + 0), .int x1]) ++ List.replicate (2 - (lg_sl ([.ref (a + 0), .int x1])).length) Slot.unset).toArray = ls at hl ⊢
  exact bX5_dirt_0 B.exec B.bytes B.returns hml (findClass_of_methodNamed B.named) (atoms_spec (ws := wsX5_dirt) B.pre) B.notSynchronized hK hZ htb hfl _ _ _ _ _ hw hS hl hf
def rX5_waitingFor : Room := { frames := 1, cells := 0, slots := 0, locals := 20 }
noncomputable def fX5_waitingFor_L4 : Nat → Int32 → Int32 → Int32 → Mm → Option (Int32)
  | 0 => fun _ _ _ _ => none
  | n + 1 => fun x1 x2 x3 M => (if (gi M 0 9) ≤ x3 then some (x2) else (if ¬ (x3 < 0 ∨ 40 ≤ x3.toNatClampNeg) then (if (gi M (33 + x3.toNatClampNeg) 2) = x1 then (if ¬ (x3 < 0 ∨ 40 ≤ x3.toNatClampNeg) then ((fX0_waiting x3.toNatClampNeg M).bind fun o5 => (fX5_waitingFor_L4 n) x1 (x2 + o5) (x3 + (1 : Int32)) M) else none) else (fX5_waitingFor_L4 n) x1 (x2 + (0 : Int32)) (x3 + (1 : Int32)) M) else none))
noncomputable def fX5_waitingFor (x1 : Int32) (M : Mm) : Option (Int32) := fX5_waitingFor_L4 400 x1 (0 : Int32) (1 : Int32) M
set_option maxRecDepth 20000 in
theorem iX5_waitingFor_X0 : ∀ w ∈ wsX00, w ∈ wsX5_waitingFor := by decide +kernel
set_option maxRecDepth 20000 in
theorem iX5_waitingFor_X5 : ∀ w ∈ wsX50, w ∈ wsX5_waitingFor := by decide +kernel
set_option maxRecDepth 20000 in
theorem kX5_waitingFor_0 : Cond.fieldLink RX5 50 "BatchPipe" "batchCount" "I" ∈ wsX5_waitingFor := by decide +kernel
set_option maxRecDepth 20000 in
theorem kX5_waitingFor_1 : Cond.fieldLink RX5 23 "BatchPipe" "batches" "[LBatchPipe$Batch;" ∈ wsX5_waitingFor := by decide +kernel
set_option maxRecDepth 20000 in
theorem kX5_waitingFor_2 : Cond.initialized RX0 ∈ wsX5_waitingFor := by decide +kernel
set_option maxRecDepth 20000 in
theorem kX5_waitingFor_3 : Cond.instanceMethod yX0_waiting ∈ wsX5_waitingFor := by decide +kernel
set_option maxRecDepth 20000 in
theorem kX5_waitingFor_4 : Cond.selects RX0 yX0_waiting yX0_waiting ∈ wsX5_waitingFor := by decide +kernel
set_option maxRecDepth 100000 in
set_option maxHeartbeats 4000000 in
theorem bX5_waitingFor_4 {p : Program} {l : Launch} {e : Env} {s : State} {m : MethodId} {args : Array Value} {below : List Frame} {meth : Method} {c : Code} {D : va_G} {cy : Nat → ClassId} {a : Nat} (hx : p.tables.exec = Jvm.exec) (hb : c.code = cX5_waitingFor) (hr : meth.sig.returnType = (some .int)) (hml : c.maxLocals = 4) (hown : s.vm.findClass RX5 = some m.cls) (hts : ∀ w ∈ wsX5_waitingFor, w.before args s = true) (hlocks : meth.locks = false) (hK : KS D cy s) (hZ : ZZ a s s.heap) {out : Int32} : ∀ (n : Nat), ∀ (x1 : Int32) (x2 : Int32) (x3 : Int32) (M : Mm) (H : Heap) (locs : List Loc) (ls : Array Slot), HP D cy a M H → va_S (Aq a) s.heap H locs → lv_has ls 4 [(0, .ref (a + 0)), (1, .int x1), (2, .int x2), (3, .int x3)] → fX5_waitingFor_L4 n x1 x2 x3 M = some out → W p l e rX5_waitingFor s m args below meth c H locs 0 0 (MQ below (QI D cy a out M) args s 0 0 (Aq a)) (F0 m 4 ls []) := by
  intro n
  induction n with
  | zero =>
    intro x1 x2 x3 M H locs ls hw hS hl hf
    have hf : (none : Option (Int32)) = some out := hf
    cases hf
  | succ n ih =>
    intro x1 x2 x3 M H locs ls hw hS hl hf
    unfold fX5_waitingFor_L4 at hf
    refine lv_iload_n hx hb dX5_waitingFor_4 rfl (lv_at hl 3 rfl) ?_
    refine lv_aload_n hx hb dX5_waitingFor_5 rfl (lv_at hl 0 rfl) ?_
    refine rGetI hx hb hts iX5_waitingFor_X5 hown hK hw (Nat.le_of_ble_eq_true rfl) en_pipe rfl 9 (by decide) (hts _ kX5_waitingFor_0) rfl ge5_9 dX5_waitingFor_6 ?_
    refine lv_icmp_ge (tgt := 47) hx hb dX5_waitingFor_9 (by decide) (fun c1 => ?_) (fun c1 => ?_)
    · have hf := ip c1 hf
      refine lv_iload_n hx hb dX5_waitingFor_47 rfl (lv_at hl 2 rfl) ?_
      obtain rfl := Option.some.inj hf
      exact rIret hx hb hr hlocks hw hS dX5_waitingFor_48
    · have hf := iq c1 hf
      refine lv_iload_n hx hb dX5_waitingFor_12 rfl (lv_at hl 2 rfl) ?_
      refine lv_aload_n hx hb dX5_waitingFor_13 rfl (lv_at hl 0 rfl) ?_
      refine rGet hx hb hts iX5_waitingFor_X5 hown hK hw (Nat.le_of_ble_eq_true rfl) en_pipe rfl 2 (by decide) (hts _ kX5_waitingFor_1) rfl rfl dX5_waitingFor_14 ?_
      refine lv_iload_n hx hb dX5_waitingFor_17 rfl (lv_at hl 3 rfl) ?_
      obtain ⟨hg2, hf⟩ := og hf
      refine rAald hx hb hK hw (k := 3) (Nat.le_of_ble_eq_true rfl) 4 en_bats rfl hg2 dX5_waitingFor_18 ?_
      refine rGetNI hx hb hts iX5_waitingFor_X0 hown hK hw (kbat (vi hg2)) (en_bat (vi hg2)) rfl 2 (by decide) nwF_346 rfl ge0_2 dX5_waitingFor_19 ?_
      refine lv_iload_n hx hb dX5_waitingFor_22 rfl (lv_at hl 1 rfl) ?_
      refine lv_icmp_ne (tgt := 38) hx hb dX5_waitingFor_23 (by decide) (fun c3 => ?_) (fun c3 => ?_)
      · have hf := iq c3 hf
        refine lv_iconst (v := (0 : Int32)) hx hb dX5_waitingFor_38 (by decide) ?_
        refine lv_iadd hx hb dX5_waitingFor_39 ?_
        refine lv_istore_n (lv' := [(2, .int (x2 + (0 : Int32))), (0, .ref (a + 0)), (1, .int x1), (3, .int x3)]) hx hb dX5_waitingFor_40 rfl hl (Nat.le_of_ble_eq_true rfl) rfl (fun ls hl => ?_)
        refine lv_iinc (v := x3 + (1 : Int32)) (lv' := [(3, .int (x3 + (1 : Int32))), (2, .int (x2 + (0 : Int32))), (0, .ref (a + 0)), (1, .int x1)]) hx hb dX5_waitingFor_41 hl (k := 3) rfl rfl (Nat.le_of_ble_eq_true rfl) rfl (fun ls hl => ?_)
        refine lv_goto (tgt := 4) hx hb dX5_waitingFor_44 (by decide) ?_
        exact ih _ _ _ _ _ _ _ hw hS (lv_sub hl [2, 3, 1, 0] rfl) hf
      · have hf := ip c3 hf
        refine lv_aload_n hx hb dX5_waitingFor_26 rfl (lv_at hl 0 rfl) ?_
        refine rGet hx hb hts iX5_waitingFor_X5 hown hK hw (Nat.le_of_ble_eq_true rfl) en_pipe rfl 2 (by decide) (hts _ kX5_waitingFor_1) rfl rfl dX5_waitingFor_27 ?_
        refine lv_iload_n hx hb dX5_waitingFor_30 rfl (lv_at hl 3 rfl) ?_
        obtain ⟨hg4, hf⟩ := og hf
        refine rAald hx hb hK hw (k := 3) (Nat.le_of_ble_eq_true rfl) 4 en_bats rfl hg4 dX5_waitingFor_31 ?_
        obtain ⟨o5, ho5, hf⟩ := ob hf
        refine rCallI (va_runVN (As := []) (rest := [.int x2]) ⟨hx, hb, hml, hown, hts⟩ (ctX0_waiting (l := l) (D := D) (cy := cy) (a := a) ho5) ⟨va_cnB 0 hts gX5_waitingFor_X0_waiting_n161 rfl rfl rfl (hK.2.2.1 _ nwM_161) (hts _ kX5_waitingFor_2) (by decide +kernel) ⟨Nat.le_of_ble_eq_true rfl, Nat.le_of_ble_eq_true rfl⟩, (hts _ kX5_waitingFor_3), (hts _ kX5_waitingFor_4)⟩ (pV hK hZ hw hS (rRecv hK hw (kbat (vi hg4)) (en_bat (vi hg4)) rfl)) rfl rfl hl.1 rfl (lv_room (Nat.le_of_ble_eq_true rfl)) dX5_waitingFor_32 ⟨Nat.le_of_ble_eq_true rfl, Nat.le_of_ble_eq_true rfl⟩) hS (fun H locs hw hS => ?_)
        refine lv_goto (tgt := 39) hx hb dX5_waitingFor_35 (by decide) ?_
        refine lv_iadd hx hb dX5_waitingFor_39 ?_
        refine lv_istore_n (lv' := [(2, .int (x2 + o5)), (0, .ref (a + 0)), (1, .int x1), (3, .int x3)]) hx hb dX5_waitingFor_40 rfl hl (Nat.le_of_ble_eq_true rfl) rfl (fun ls hl => ?_)
        refine lv_iinc (v := x3 + (1 : Int32)) (lv' := [(3, .int (x3 + (1 : Int32))), (2, .int (x2 + o5)), (0, .ref (a + 0)), (1, .int x1)]) hx hb dX5_waitingFor_41 hl (k := 3) rfl rfl (Nat.le_of_ble_eq_true rfl) rfl (fun ls hl => ?_)
        refine lv_goto (tgt := 4) hx hb dX5_waitingFor_44 (by decide) ?_
        exact ih _ _ _ _ _ _ _ hw hS (lv_sub hl [2, 3, 1, 0] rfl) hf
set_option maxRecDepth 100000 in
set_option maxHeartbeats 4000000 in
theorem bX5_waitingFor_0 {p : Program} {l : Launch} {e : Env} {s : State} {m : MethodId} {args : Array Value} {below : List Frame} {meth : Method} {c : Code} {D : va_G} {cy : Nat → ClassId} {a : Nat} (hx : p.tables.exec = Jvm.exec) (hb : c.code = cX5_waitingFor) (hr : meth.sig.returnType = (some .int)) (hml : c.maxLocals = 4) (hown : s.vm.findClass RX5 = some m.cls) (hts : ∀ w ∈ wsX5_waitingFor, w.before args s = true) (hlocks : meth.locks = false) (hK : KS D cy s) (hZ : ZZ a s s.heap) {out : Int32} : ∀ (x1 : Int32) (M : Mm) (H : Heap) (locs : List Loc) (ls : Array Slot), HP D cy a M H → va_S (Aq a) s.heap H locs → lv_has ls 4 [(0, .ref (a + 0)), (1, .int x1)] → fX5_waitingFor x1 M = some out → W p l e rX5_waitingFor s m args below meth c H locs 0 0 (MQ below (QI D cy a out M) args s 0 0 (Aq a)) (F0 m 0 ls []) := by
  intro x1 M H locs ls hw hS hl hf
  unfold fX5_waitingFor at hf
  refine lv_iconst (v := (0 : Int32)) hx hb dX5_waitingFor_0 (by decide) ?_
  refine lv_istore_n (lv' := [(2, .int (0 : Int32)), (0, .ref (a + 0)), (1, .int x1)]) hx hb dX5_waitingFor_1 rfl hl (Nat.le_of_ble_eq_true rfl) rfl (fun ls hl => ?_)
  refine lv_iconst (v := (1 : Int32)) hx hb dX5_waitingFor_2 (by decide) ?_
  refine lv_istore_n (lv' := [(3, .int (1 : Int32)), (2, .int (0 : Int32)), (0, .ref (a + 0)), (1, .int x1)]) hx hb dX5_waitingFor_3 rfl hl (Nat.le_of_ble_eq_true rfl) rfl (fun ls hl => ?_)
  exact bX5_waitingFor_4 hx hb hr hml hown hts hlocks hK hZ 400 _ _ _ _ _ _ _ hw hS (lv_sub hl [2, 3, 1, 0] rfl) hf
set_option maxRecDepth 100000 in
set_option maxHeartbeats 4000000 in
theorem ctX5_waitingFor {l : Launch} {D : va_G} {cy : Nat → ClassId} {a : Nat} {x1 : Int32} {M : Mm} {out : Int32} (hf : fX5_waitingFor x1 M = some out) : Met l yX5_waitingFor wsX5_waitingFor rX5_waitingFor (Pre D cy a M [.ref (a + 0), .int x1]) (QI D cy a out M) 0 0 (Aq a) := by
  refine Met.ofW (cc := cX5_waitingFor) (maxL := 4) (ret := (some .int)) (by decide +kernel) rfl ?_
  intro p e s m args below meth c s₁ B hml hv
  obtain ⟨rfl, hw, hK, hZ⟩ := hv
  have hS : va_S (Aq a) s.heap s.heap [] := va_S.rf
  have hl := lv_entry ([.ref (a + 0), .int x1]) (n := 4) (Nat.le_of_ble_eq_true rfl)
  rw [lg_entry_eq]
  generalize (lg_sl ([.ref (a + 0), .int x1]) ++ List.replicate (4 - (lg_sl ([.ref (a + 0), .int x1])).length) Slot.unset).toArray = ls at hl ⊢
  exact bX5_waitingFor_0 B.exec B.bytes B.returns hml (findClass_of_methodNamed B.named) (atoms_spec (ws := wsX5_waitingFor) B.pre) B.notSynchronized hK hZ _ _ _ _ _ hw hS hl hf
def rX5_claimOf : Room := { frames := 0, cells := 0, slots := 0, locals := 0 }
noncomputable def fX5_claimOf_L4 : Nat → Int32 → Int32 → Int32 → Mm → Option (Int32)
  | 0 => fun _ _ _ _ => none
  | n + 1 => fun x1 x2 x3 M => (if (gi M 0 9) ≤ x3 then some (x2) else (if ¬ (x3 < 0 ∨ 40 ≤ x3.toNatClampNeg) then (if (gi M (33 + x3.toNatClampNeg) 2) = x1 then (if ¬ (x3 < 0 ∨ 40 ≤ x3.toNatClampNeg) then (fX5_claimOf_L4 n) x1 (x2 + (gi M (33 + x3.toNatClampNeg) 4)) (x3 + (1 : Int32)) M else none) else (fX5_claimOf_L4 n) x1 (x2 + (0 : Int32)) (x3 + (1 : Int32)) M) else none))
noncomputable def fX5_claimOf (x1 : Int32) (M : Mm) : Option (Int32) := fX5_claimOf_L4 400 x1 (1 : Int32) (1 : Int32) M
set_option maxRecDepth 20000 in
theorem iX5_claimOf_X0 : ∀ w ∈ wsX00, w ∈ wsX5_claimOf := by decide +kernel
set_option maxRecDepth 20000 in
theorem iX5_claimOf_X5 : ∀ w ∈ wsX50, w ∈ wsX5_claimOf := by decide +kernel
set_option maxRecDepth 20000 in
theorem kX5_claimOf_0 : Cond.fieldLink RX5 50 "BatchPipe" "batchCount" "I" ∈ wsX5_claimOf := by decide +kernel
set_option maxRecDepth 20000 in
theorem kX5_claimOf_1 : Cond.fieldLink RX5 23 "BatchPipe" "batches" "[LBatchPipe$Batch;" ∈ wsX5_claimOf := by decide +kernel
set_option maxRecDepth 100000 in
set_option maxHeartbeats 4000000 in
theorem bX5_claimOf_4 {p : Program} {l : Launch} {e : Env} {s : State} {m : MethodId} {args : Array Value} {below : List Frame} {meth : Method} {c : Code} {D : va_G} {cy : Nat → ClassId} {a : Nat} (hx : p.tables.exec = Jvm.exec) (hb : c.code = cX5_claimOf) (hr : meth.sig.returnType = (some .int)) (hml : c.maxLocals = 4) (hown : s.vm.findClass RX5 = some m.cls) (hts : ∀ w ∈ wsX5_claimOf, w.before args s = true) (hlocks : meth.locks = false) (hK : KS D cy s) (hZ : ZZ a s s.heap) {out : Int32} : ∀ (n : Nat), ∀ (x1 : Int32) (x2 : Int32) (x3 : Int32) (M : Mm) (H : Heap) (locs : List Loc) (ls : Array Slot), HP D cy a M H → va_S (Aq a) s.heap H locs → lv_has ls 4 [(0, .ref (a + 0)), (1, .int x1), (2, .int x2), (3, .int x3)] → fX5_claimOf_L4 n x1 x2 x3 M = some out → W p l e rX5_claimOf s m args below meth c H locs 0 0 (MQ below (QI D cy a out M) args s 0 0 (Aq a)) (F0 m 4 ls []) := by
  intro n
  induction n with
  | zero =>
    intro x1 x2 x3 M H locs ls hw hS hl hf
    have hf : (none : Option (Int32)) = some out := hf
    cases hf
  | succ n ih =>
    intro x1 x2 x3 M H locs ls hw hS hl hf
    unfold fX5_claimOf_L4 at hf
    refine lv_iload_n hx hb dX5_claimOf_4 rfl (lv_at hl 3 rfl) ?_
    refine lv_aload_n hx hb dX5_claimOf_5 rfl (lv_at hl 0 rfl) ?_
    refine rGetI hx hb hts iX5_claimOf_X5 hown hK hw (Nat.le_of_ble_eq_true rfl) en_pipe rfl 9 (by decide) (hts _ kX5_claimOf_0) rfl ge5_9 dX5_claimOf_6 ?_
    refine lv_icmp_ge (tgt := 47) hx hb dX5_claimOf_9 (by decide) (fun c1 => ?_) (fun c1 => ?_)
    · have hf := ip c1 hf
      refine lv_iload_n hx hb dX5_claimOf_47 rfl (lv_at hl 2 rfl) ?_
      obtain rfl := Option.some.inj hf
      exact rIret hx hb hr hlocks hw hS dX5_claimOf_48
    · have hf := iq c1 hf
      refine lv_iload_n hx hb dX5_claimOf_12 rfl (lv_at hl 2 rfl) ?_
      refine lv_aload_n hx hb dX5_claimOf_13 rfl (lv_at hl 0 rfl) ?_
      refine rGet hx hb hts iX5_claimOf_X5 hown hK hw (Nat.le_of_ble_eq_true rfl) en_pipe rfl 2 (by decide) (hts _ kX5_claimOf_1) rfl rfl dX5_claimOf_14 ?_
      refine lv_iload_n hx hb dX5_claimOf_17 rfl (lv_at hl 3 rfl) ?_
      obtain ⟨hg2, hf⟩ := og hf
      refine rAald hx hb hK hw (k := 3) (Nat.le_of_ble_eq_true rfl) 4 en_bats rfl hg2 dX5_claimOf_18 ?_
      refine rGetNI hx hb hts iX5_claimOf_X0 hown hK hw (kbat (vi hg2)) (en_bat (vi hg2)) rfl 2 (by decide) nwF_346 rfl ge0_2 dX5_claimOf_19 ?_
      refine lv_iload_n hx hb dX5_claimOf_22 rfl (lv_at hl 1 rfl) ?_
      refine lv_icmp_ne (tgt := 38) hx hb dX5_claimOf_23 (by decide) (fun c3 => ?_) (fun c3 => ?_)
      · have hf := iq c3 hf
        refine lv_iconst (v := (0 : Int32)) hx hb dX5_claimOf_38 (by decide) ?_
        refine lv_iadd hx hb dX5_claimOf_39 ?_
        refine lv_istore_n (lv' := [(2, .int (x2 + (0 : Int32))), (0, .ref (a + 0)), (1, .int x1), (3, .int x3)]) hx hb dX5_claimOf_40 rfl hl (Nat.le_of_ble_eq_true rfl) rfl (fun ls hl => ?_)
        refine lv_iinc (v := x3 + (1 : Int32)) (lv' := [(3, .int (x3 + (1 : Int32))), (2, .int (x2 + (0 : Int32))), (0, .ref (a + 0)), (1, .int x1)]) hx hb dX5_claimOf_41 hl (k := 3) rfl rfl (Nat.le_of_ble_eq_true rfl) rfl (fun ls hl => ?_)
        refine lv_goto (tgt := 4) hx hb dX5_claimOf_44 (by decide) ?_
        exact ih _ _ _ _ _ _ _ hw hS (lv_sub hl [2, 3, 1, 0] rfl) hf
      · have hf := ip c3 hf
        refine lv_aload_n hx hb dX5_claimOf_26 rfl (lv_at hl 0 rfl) ?_
        refine rGet hx hb hts iX5_claimOf_X5 hown hK hw (Nat.le_of_ble_eq_true rfl) en_pipe rfl 2 (by decide) (hts _ kX5_claimOf_1) rfl rfl dX5_claimOf_27 ?_
        refine lv_iload_n hx hb dX5_claimOf_30 rfl (lv_at hl 3 rfl) ?_
        obtain ⟨hg4, hf⟩ := og hf
        refine rAald hx hb hK hw (k := 3) (Nat.le_of_ble_eq_true rfl) 4 en_bats rfl hg4 dX5_claimOf_31 ?_
        refine rGetNI hx hb hts iX5_claimOf_X0 hown hK hw (kbat (vi hg4)) (en_bat (vi hg4)) rfl 4 (by decide) nwF_111 rfl ge0_4 dX5_claimOf_32 ?_
        refine lv_goto (tgt := 39) hx hb dX5_claimOf_35 (by decide) ?_
        refine lv_iadd hx hb dX5_claimOf_39 ?_
        refine lv_istore_n (lv' := [(2, .int (x2 + (gi M (33 + x3.toNatClampNeg) 4))), (0, .ref (a + 0)), (1, .int x1), (3, .int x3)]) hx hb dX5_claimOf_40 rfl hl (Nat.le_of_ble_eq_true rfl) rfl (fun ls hl => ?_)
        refine lv_iinc (v := x3 + (1 : Int32)) (lv' := [(3, .int (x3 + (1 : Int32))), (2, .int (x2 + (gi M (33 + x3.toNatClampNeg) 4))), (0, .ref (a + 0)), (1, .int x1)]) hx hb dX5_claimOf_41 hl (k := 3) rfl rfl (Nat.le_of_ble_eq_true rfl) rfl (fun ls hl => ?_)
        refine lv_goto (tgt := 4) hx hb dX5_claimOf_44 (by decide) ?_
        exact ih _ _ _ _ _ _ _ hw hS (lv_sub hl [2, 3, 1, 0] rfl) hf
set_option maxRecDepth 100000 in
set_option maxHeartbeats 4000000 in
theorem bX5_claimOf_0 {p : Program} {l : Launch} {e : Env} {s : State} {m : MethodId} {args : Array Value} {below : List Frame} {meth : Method} {c : Code} {D : va_G} {cy : Nat → ClassId} {a : Nat} (hx : p.tables.exec = Jvm.exec) (hb : c.code = cX5_claimOf) (hr : meth.sig.returnType = (some .int)) (hml : c.maxLocals = 4) (hown : s.vm.findClass RX5 = some m.cls) (hts : ∀ w ∈ wsX5_claimOf, w.before args s = true) (hlocks : meth.locks = false) (hK : KS D cy s) (hZ : ZZ a s s.heap) {out : Int32} : ∀ (x1 : Int32) (M : Mm) (H : Heap) (locs : List Loc) (ls : Array Slot), HP D cy a M H → va_S (Aq a) s.heap H locs → lv_has ls 4 [(0, .ref (a + 0)), (1, .int x1)] → fX5_claimOf x1 M = some out → W p l e rX5_claimOf s m args below meth c H locs 0 0 (MQ below (QI D cy a out M) args s 0 0 (Aq a)) (F0 m 0 ls []) := by
  intro x1 M H locs ls hw hS hl hf
  unfold fX5_claimOf at hf
  refine lv_iconst (v := (1 : Int32)) hx hb dX5_claimOf_0 (by decide) ?_
  refine lv_istore_n (lv' := [(2, .int (1 : Int32)), (0, .ref (a + 0)), (1, .int x1)]) hx hb dX5_claimOf_1 rfl hl (Nat.le_of_ble_eq_true rfl) rfl (fun ls hl => ?_)
  refine lv_iconst (v := (1 : Int32)) hx hb dX5_claimOf_2 (by decide) ?_
  refine lv_istore_n (lv' := [(3, .int (1 : Int32)), (2, .int (1 : Int32)), (0, .ref (a + 0)), (1, .int x1)]) hx hb dX5_claimOf_3 rfl hl (Nat.le_of_ble_eq_true rfl) rfl (fun ls hl => ?_)
  exact bX5_claimOf_4 hx hb hr hml hown hts hlocks hK hZ 400 _ _ _ _ _ _ _ hw hS (lv_sub hl [2, 3, 1, 0] rfl) hf
set_option maxRecDepth 100000 in
set_option maxHeartbeats 4000000 in
theorem ctX5_claimOf {l : Launch} {D : va_G} {cy : Nat → ClassId} {a : Nat} {x1 : Int32} {M : Mm} {out : Int32} (hf : fX5_claimOf x1 M = some out) : Met l yX5_claimOf wsX5_claimOf rX5_claimOf (Pre D cy a M [.ref (a + 0), .int x1]) (QI D cy a out M) 0 0 (Aq a) := by
  refine Met.ofW (cc := cX5_claimOf) (maxL := 4) (ret := (some .int)) (by decide +kernel) rfl ?_
  intro p e s m args below meth c s₁ B hml hv
  obtain ⟨rfl, hw, hK, hZ⟩ := hv
  have hS : va_S (Aq a) s.heap s.heap [] := va_S.rf
  have hl := lv_entry ([.ref (a + 0), .int x1]) (n := 4) (Nat.le_of_ble_eq_true rfl)
  rw [lg_entry_eq]
  generalize (lg_sl ([.ref (a + 0), .int x1]) ++ List.replicate (4 - (lg_sl ([.ref (a + 0), .int x1])).length) Slot.unset).toArray = ls at hl ⊢
  exact bX5_claimOf_0 B.exec B.bytes B.returns hml (findClass_of_methodNamed B.named) (atoms_spec (ws := wsX5_claimOf) B.pre) B.notSynchronized hK hZ _ _ _ _ _ hw hS hl hf
def rX5_share : Room := { frames := 7, cells := 2, slots := 12, locals := 113 }
noncomputable def fX5_share_L23 : Nat → Int32 → Int32 → Int32 → Int32 → Int32 → Mm → Option (Nat × Int32)
  | 0 => fun _ _ _ _ _ _ => none
  | n + 1 => fun x1 x2 x3 x4 x5 M => (if (4 : Int32) ≤ x5 then ((fX5_waitingFor x1 M).bind fun o2 => (if x3 ≤ x2 then some (0, o2) else (if 0 < x4 then ((fX5_claimOf x1 M).bind fun o5 => (if ¬ x4 = 0 then some (0, imin o2 ((x2 * o5) / x4)) else none)) else some (0, o2)))) else ((fX5_waitingFor x5 M).bind fun o7 => ((fX5_claimOf x5 M).bind fun o8 => (fX5_share_L23 n) x1 x2 (x3 + o7) (x4 + o8) (x5 + (1 : Int32)) M)))
noncomputable def fX5_share (x1 : Int32) (x2 : Int32) (M : Mm) : Option (Nat × Int32) := ((fX5_checkIndex x1 (4 : Int32) M).bind fun o1 => if o1 = 0 then ((fX5_checkRange x2 (0 : Int32) (9999 : Int32) M).bind fun o2 => if o2 = 0 then fX5_share_L23 400 x1 x2 (0 : Int32) (0 : Int32) (0 : Int32) M else some (o2, 0)) else some (o1, 0))
set_option maxRecDepth 20000 in
theorem kX5_share_0 : Cond.methodLink RX5 232 Lib.Math.min.name ∈ wsX5_share := by decide +kernel
set_option maxRecDepth 20000 in
theorem kX5_share_1 : Cond.static Lib.Math.min.name ∈ wsX5_share := by decide +kernel
set_option maxRecDepth 20000 in
theorem kX5_share_2 : Cond.initialized "java/lang/Math" ∈ wsX5_share := by decide +kernel
set_option maxRecDepth 20000 in
theorem kX5_share_3 : Cond.code Lib.Math.min.name Lib.Math.min.code 2 (some .int) ∈ wsX5_share := by decide +kernel
set_option maxRecDepth 100000 in
set_option maxHeartbeats 4000000 in
theorem bX5_share_23 {p : Program} {l : Launch} {e : Env} {s : State} {m : MethodId} {args : Array Value} {below : List Frame} {meth : Method} {c : Code} {D : va_G} {cy : Nat → ClassId} {a : Nat} (hx : p.tables.exec = Jvm.exec) (hb : c.code = cX5_share) (hr : meth.sig.returnType = (some .int)) (hml : c.maxLocals = 6) (hown : s.vm.findClass RX5 = some m.cls) (hts : ∀ w ∈ wsX5_share, w.before args s = true) (hlocks : meth.locks = false) (hK : KS D cy s) (hZ : ZZ a s s.heap) (htb : ∀ x ∈ c.exceptionTable.toList, False) (hfl : l.stackTraces = false) {out : Nat × Int32} : ∀ (n : Nat), ∀ (x1 : Int32) (x2 : Int32) (x3 : Int32) (x4 : Int32) (x5 : Int32) (M : Mm) (H : Heap) (locs : List Loc) (ls : Array Slot), HP D cy a M H → va_S (Aq a) s.heap H locs → lv_has ls 6 [(0, .ref (a + 0)), (1, .int x1), (2, .int x2), (3, .int x3), (4, .int x4), (5, .int x5)] → fX5_share_L23 n x1 x2 x3 x4 x5 M = some out → W p l e rX5_share s m args below meth c H locs 2 12 (vx_MQ below (QIx D cy a out.1 out.2 M) (XT D cy a out.1 M) args s 2 12 (Aq a)) (F0 m 23 ls []) := by
  intro n
  induction n with
  | zero =>
    intro x1 x2 x3 x4 x5 M H locs ls hw hS hl hf
    have hf : (none : Option (Nat × Int32)) = some out := hf
    cases hf
  | succ n ih =>
    intro x1 x2 x3 x4 x5 M H locs ls hw hS hl hf
    unfold fX5_share_L23 at hf
    refine lv_iload hx hb dX5_share_23 (lv_at hl 5 rfl) ?_
    refine lv_iconst (v := (4 : Int32)) hx hb dX5_share_25 (by decide) ?_
    refine lv_icmp_ge (tgt := 55) hx hb dX5_share_26 (by decide) (fun c1 => ?_) (fun c1 => ?_)
    · have hf := ip c1 hf
      refine lv_aload_n hx hb dX5_share_55 rfl (lv_at hl 0 rfl) ?_
      refine lv_iload_n hx hb dX5_share_56 rfl (lv_at hl 1 rfl) ?_
      obtain ⟨o2, ho2, hf⟩ := ob hf
      refine rCallI (va_runV (As := [.int x1]) (rest := []) ⟨hx, hb, hml, hown, hts⟩ (ctX5_waitingFor (l := l) (D := D) (cy := cy) (a := a) ho2) (cwV 1 hts gX5_share_X5_waitingFor rfl rfl rfl (by decide +kernel) ⟨Nat.le_of_ble_eq_true rfl, Nat.le_of_ble_eq_true rfl⟩) (pV hK hZ hw hS (rRecv hK hw (Nat.le_of_ble_eq_true rfl) en_pipe rfl)) rfl rfl hl.1 rfl (lv_room (Nat.le_of_ble_eq_true rfl)) dX5_share_57 ⟨Nat.le_of_ble_eq_true rfl, Nat.le_of_ble_eq_true rfl⟩) hS (fun H locs hw hS => ?_)
      refine lv_istore (lv' := [(5, .int o2), (0, .ref (a + 0)), (1, .int x1), (2, .int x2), (3, .int x3), (4, .int x4)]) hx hb dX5_share_60 hl (Nat.le_of_ble_eq_true rfl) rfl (fun ls hl => ?_)
      refine lv_iload_n hx hb dX5_share_62 rfl (lv_at hl 4 rfl) ?_
      refine lv_iload_n hx hb dX5_share_63 rfl (lv_at hl 3 rfl) ?_
      refine lv_icmp_le (tgt := 72) hx hb dX5_share_64 (by decide) (fun c3 => ?_) (fun c3 => ?_)
      · have hf := ip c3 hf
        refine lv_iload hx hb dX5_share_72 (lv_at hl 0 rfl) ?_
        obtain rfl := Option.some.inj hf
        exact rxIret hx hb hr hlocks hw hS dX5_share_74
      · have hf := iq c3 hf
        refine lv_iload hx hb dX5_share_67 (lv_at hl 5 rfl) ?_
        refine lv_if_gt (tgt := 75) hx hb dX5_share_69 (by decide) (fun c4 => ?_) (fun c4 => ?_)
        · have hf := ip c4 hf
          refine lv_iload hx hb dX5_share_75 (lv_at hl 0 rfl) ?_
          refine lv_iload_n hx hb dX5_share_77 rfl (lv_at hl 3 rfl) ?_
          refine lv_aload_n hx hb dX5_share_78 rfl (lv_at hl 1 rfl) ?_
          refine lv_iload_n hx hb dX5_share_79 rfl (lv_at hl 2 rfl) ?_
          obtain ⟨o5, ho5, hf⟩ := ob hf
          refine rCallI (va_runV (As := [.int x1]) (rest := [.int x2, .int o2]) ⟨hx, hb, hml, hown, hts⟩ (ctX5_claimOf (l := l) (D := D) (cy := cy) (a := a) ho5) (cwV 1 hts gX5_share_X5_claimOf rfl rfl rfl (by decide +kernel) ⟨Nat.le_of_ble_eq_true rfl, Nat.le_of_ble_eq_true rfl⟩) (pV hK hZ hw hS (rRecv hK hw (Nat.le_of_ble_eq_true rfl) en_pipe rfl)) rfl rfl hl.1 rfl (lv_room (Nat.le_of_ble_eq_true rfl)) dX5_share_80 ⟨Nat.le_of_ble_eq_true rfl, Nat.le_of_ble_eq_true rfl⟩) hS (fun H locs hw hS => ?_)
          refine lv_imul hx hb dX5_share_83 ?_
          refine lv_iload hx hb dX5_share_84 (lv_at hl 5 rfl) ?_
          obtain ⟨hd6, hf⟩ := og hf
          refine lv_idiv hx hb dX5_share_86 hd6 ?_
          refine rMin hx hb hml hl hown (hts _ kX5_share_0) (hts _ kX5_share_1) (hts _ kX5_share_2) (hts _ kX5_share_3) (Nat.le_of_ble_eq_true rfl) (Nat.le_of_ble_eq_true rfl) (Nat.le_of_ble_eq_true rfl) (Nat.le_of_ble_eq_true rfl) dX5_share_87 ?_
          obtain rfl := Option.some.inj hf
          exact rxIret hx hb hr hlocks hw hS dX5_share_90
        · have hf := iq c4 hf
          refine lv_iload hx hb dX5_share_72 (lv_at hl 0 rfl) ?_
          obtain rfl := Option.some.inj hf
          exact rxIret hx hb hr hlocks hw hS dX5_share_74
    · have hf := iq c1 hf
      refine lv_iload_n hx hb dX5_share_29 rfl (lv_at hl 3 rfl) ?_
      refine lv_aload_n hx hb dX5_share_30 rfl (lv_at hl 0 rfl) ?_
      refine lv_iload hx hb dX5_share_31 (lv_at hl 5 rfl) ?_
      obtain ⟨o7, ho7, hf⟩ := ob hf
      refine rCallI (va_runV (As := [.int x5]) (rest := [.int x3]) ⟨hx, hb, hml, hown, hts⟩ (ctX5_waitingFor (l := l) (D := D) (cy := cy) (a := a) ho7) (cwV 1 hts gX5_share_X5_waitingFor rfl rfl rfl (by decide +kernel) ⟨Nat.le_of_ble_eq_true rfl, Nat.le_of_ble_eq_true rfl⟩) (pV hK hZ hw hS (rRecv hK hw (Nat.le_of_ble_eq_true rfl) en_pipe rfl)) rfl rfl hl.1 rfl (lv_room (Nat.le_of_ble_eq_true rfl)) dX5_share_33 ⟨Nat.le_of_ble_eq_true rfl, Nat.le_of_ble_eq_true rfl⟩) hS (fun H locs hw hS => ?_)
      refine lv_iadd hx hb dX5_share_36 ?_
      refine lv_istore_n (lv' := [(3, .int (x3 + o7)), (0, .ref (a + 0)), (1, .int x1), (2, .int x2), (4, .int x4), (5, .int x5)]) hx hb dX5_share_37 rfl hl (Nat.le_of_ble_eq_true rfl) rfl (fun ls hl => ?_)
      refine lv_iload hx hb dX5_share_38 (lv_at hl 4 rfl) ?_
      refine lv_aload_n hx hb dX5_share_40 rfl (lv_at hl 1 rfl) ?_
      refine lv_iload hx hb dX5_share_41 (lv_at hl 5 rfl) ?_
      obtain ⟨o8, ho8, hf⟩ := ob hf
      refine rCallI (va_runV (As := [.int x5]) (rest := [.int x4]) ⟨hx, hb, hml, hown, hts⟩ (ctX5_claimOf (l := l) (D := D) (cy := cy) (a := a) ho8) (cwV 1 hts gX5_share_X5_claimOf rfl rfl rfl (by decide +kernel) ⟨Nat.le_of_ble_eq_true rfl, Nat.le_of_ble_eq_true rfl⟩) (pV hK hZ hw hS (rRecv hK hw (Nat.le_of_ble_eq_true rfl) en_pipe rfl)) rfl rfl hl.1 rfl (lv_room (Nat.le_of_ble_eq_true rfl)) dX5_share_43 ⟨Nat.le_of_ble_eq_true rfl, Nat.le_of_ble_eq_true rfl⟩) hS (fun H locs hw hS => ?_)
      refine lv_iadd hx hb dX5_share_46 ?_
      refine lv_istore (lv' := [(4, .int (x4 + o8)), (3, .int (x3 + o7)), (0, .ref (a + 0)), (1, .int x1), (2, .int x2), (5, .int x5)]) hx hb dX5_share_47 hl (Nat.le_of_ble_eq_true rfl) rfl (fun ls hl => ?_)
      refine lv_iinc (v := x5 + (1 : Int32)) (lv' := [(5, .int (x5 + (1 : Int32))), (4, .int (x4 + o8)), (3, .int (x3 + o7)), (0, .ref (a + 0)), (1, .int x1), (2, .int x2)]) hx hb dX5_share_49 hl (k := 5) rfl rfl (Nat.le_of_ble_eq_true rfl) rfl (fun ls hl => ?_)
      refine lv_goto (tgt := 23) hx hb dX5_share_52 (by decide) ?_
      exact ih _ _ _ _ _ _ _ _ _ hw hS (lv_sub hl [3, 4, 5, 2, 1, 0] rfl) hf
set_option maxRecDepth 100000 in
set_option maxHeartbeats 4000000 in
theorem bX5_share_0 {p : Program} {l : Launch} {e : Env} {s : State} {m : MethodId} {args : Array Value} {below : List Frame} {meth : Method} {c : Code} {D : va_G} {cy : Nat → ClassId} {a : Nat} (hx : p.tables.exec = Jvm.exec) (hb : c.code = cX5_share) (hr : meth.sig.returnType = (some .int)) (hml : c.maxLocals = 6) (hown : s.vm.findClass RX5 = some m.cls) (hts : ∀ w ∈ wsX5_share, w.before args s = true) (hlocks : meth.locks = false) (hK : KS D cy s) (hZ : ZZ a s s.heap) (htb : ∀ x ∈ c.exceptionTable.toList, False) (hfl : l.stackTraces = false) {out : Nat × Int32} : ∀ (x1 : Int32) (x2 : Int32) (M : Mm) (H : Heap) (locs : List Loc) (ls : Array Slot), HP D cy a M H → va_S (Aq a) s.heap H locs → lv_has ls 6 [(0, .ref (a + 0)), (1, .int x1), (2, .int x2)] → fX5_share x1 x2 M = some out → W p l e rX5_share s m args below meth c H locs 0 0 (vx_MQ below (QIx D cy a out.1 out.2 M) (XT D cy a out.1 M) args s 2 12 (Aq a)) (F0 m 0 ls []) := by
  intro x1 x2 M H locs ls hw hS hl hf
  unfold fX5_share at hf
  refine lv_aload_n hx hb dX5_share_0 rfl (lv_at hl 0 rfl) ?_
  refine lv_iload_n hx hb dX5_share_1 rfl (lv_at hl 1 rfl) ?_
  refine lv_iconst (v := (4 : Int32)) hx hb dX5_share_2 (by decide) ?_
  obtain ⟨o1, ho1, hf⟩ := ob hf
  refine rxCallV (vx_runV (As := [.int x1, .int (4 : Int32)]) (rest := []) ⟨hx, hb, hml, hown, hts⟩ (ctX5_checkIndex (l := l) (D := D) (cy := cy) (a := a) hfl ho1) (cwV 2 hts gX5_share_X5_checkIndex rfl rfl rfl (by decide +kernel) ⟨Nat.le_of_ble_eq_true rfl, Nat.le_of_ble_eq_true rfl⟩) (pV hK hZ hw hS (rRecv hK hw (Nat.le_of_ble_eq_true rfl) en_pipe rfl)) rfl rfl hl.1 rfl (lv_room (Nat.le_of_ble_eq_true rfl)) dX5_share_3 ⟨Nat.le_of_ble_eq_true rfl, Nat.le_of_ble_eq_true rfl⟩) hS (fun ce q9 H locs hn hw hS h1 h2 h3 => ?_) (fun H locs hn hw hS => ?_)
  · have hf := iq hn hf
    obtain rfl := Option.some.inj hf
    exact rOut htb hlocks hn hw hS h1 h2 h3 (Nat.le_of_ble_eq_true rfl) (Nat.le_of_ble_eq_true rfl)
  · have hf := ip hn hf
    refine lv_aload_n hx hb dX5_share_6 rfl (lv_at hl 0 rfl) ?_
    refine lv_iload_n hx hb dX5_share_7 rfl (lv_at hl 2 rfl) ?_
    refine lv_iconst (v := (0 : Int32)) hx hb dX5_share_8 (by decide) ?_
    refine lv_sipush (v := (9999 : Int32)) hx hb dX5_share_9 (by decide) ?_
    obtain ⟨o2, ho2, hf⟩ := ob hf
    refine rxCallV (vx_runV (As := [.int x2, .int (0 : Int32), .int (9999 : Int32)]) (rest := []) ⟨hx, hb, hml, hown, hts⟩ (ctX5_checkRange (l := l) (D := D) (cy := cy) (a := a) hfl ho2) (cwV 3 hts gX5_share_X5_checkRange rfl rfl rfl (by decide +kernel) ⟨Nat.le_of_ble_eq_true rfl, Nat.le_of_ble_eq_true rfl⟩) (pV hK hZ hw hS (rRecv hK hw (Nat.le_of_ble_eq_true rfl) en_pipe rfl)) rfl rfl hl.1 rfl (lv_room (Nat.le_of_ble_eq_true rfl)) dX5_share_12 ⟨Nat.le_of_ble_eq_true rfl, Nat.le_of_ble_eq_true rfl⟩) hS (fun ce q9 H locs hn hw hS h1 h2 h3 => ?_) (fun H locs hn hw hS => ?_)
    · have hf := iq hn hf
      obtain rfl := Option.some.inj hf
      exact rOut htb hlocks hn hw hS h1 h2 h3 (Nat.le_of_ble_eq_true rfl) (Nat.le_of_ble_eq_true rfl)
    · have hf := ip hn hf
      refine lv_iconst (v := (0 : Int32)) hx hb dX5_share_15 (by decide) ?_
      refine lv_istore_n (lv' := [(3, .int (0 : Int32)), (0, .ref (a + 0)), (1, .int x1), (2, .int x2)]) hx hb dX5_share_16 rfl hl (Nat.le_of_ble_eq_true rfl) rfl (fun ls hl => ?_)
      refine lv_iconst (v := (0 : Int32)) hx hb dX5_share_17 (by decide) ?_
      refine lv_istore (lv' := [(4, .int (0 : Int32)), (3, .int (0 : Int32)), (0, .ref (a + 0)), (1, .int x1), (2, .int x2)]) hx hb dX5_share_18 hl (Nat.le_of_ble_eq_true rfl) rfl (fun ls hl => ?_)
      refine lv_iconst (v := (0 : Int32)) hx hb dX5_share_20 (by decide) ?_
      refine lv_istore (lv' := [(5, .int (0 : Int32)), (4, .int (0 : Int32)), (3, .int (0 : Int32)), (0, .ref (a + 0)), (1, .int x1), (2, .int x2)]) hx hb dX5_share_21 hl (Nat.le_of_ble_eq_true rfl) rfl (fun ls hl => ?_)
      exact bX5_share_23 hx hb hr hml hown hts hlocks hK hZ htb hfl 400 _ _ _ _ _ _ _ _ _ hw hS (lv_sub hl [3, 4, 5, 2, 1, 0] rfl) hf
set_option maxRecDepth 100000 in
set_option maxHeartbeats 4000000 in
theorem ctX5_share {l : Launch} {D : va_G} {cy : Nat → ClassId} {a : Nat} (hfl : l.stackTraces = false) {x1 : Int32} {x2 : Int32} {M : Mm} {out : Nat × Int32} (hf : fX5_share x1 x2 M = some out) : vx_Met l yX5_share wsX5_share rX5_share (Pre D cy a M [.ref (a + 0), .int x1, .int x2]) (QIx D cy a out.1 out.2 M) (XT D cy a out.1 M) 2 12 (Aq a) := by
  refine vx_ofW (cc := cX5_share) (maxL := 6) (ret := (some .int)) (by decide +kernel) rfl ?_
  intro p e s m args below meth c s₁ B hml htb hv
  obtain ⟨rfl, hw, hK, hZ⟩ := hv
  have hS : va_S (Aq a) s.heap s.heap [] := va_S.rf
  have hl := lv_entry ([.ref (a + 0), .int x1, .int x2]) (n := 6) (Nat.le_of_ble_eq_true rfl)
  rw [lg_entry_eq]
  generalize (lg_sl ([.ref (a + 0), .int x1, .int x2]) ++ List.replicate (6 - (lg_sl ([.ref (a + 0), .int x1, .int x2])).length) Slot.unset).toArray = ls at hl ⊢
  exact bX5_share_0 B.exec B.bytes B.returns hml (findClass_of_methodNamed B.named) (atoms_spec (ws := wsX5_share) B.pre) B.notSynchronized hK hZ htb hfl _ _ _ _ _ _ hw hS hl hf
