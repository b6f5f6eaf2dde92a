def rL_pressure : Room := { frames := 8, cells := 3, slots := 18, locals := 137 }
noncomputable def fL_pressure (x1 : Int32) (x2 : Int32) (M : Mm) : Option (Int32 × Mm) := ((fX5_pressure x1 x2 M).bind fun o1 => if o1.1 = 0 then (if ¬ ((0 : Int32) < 0 ∨ 1 ≤ (0 : Int32).toNatClampNeg) then some ((0 : Int32), si M 103 (0 : Int32).toNatClampNeg o1.2) else none) else (if o1.1 = 3 then some ((1 : Int32), M) else (if o1.1 = 1 then some ((2 : Int32), M) else (if o1.1 = 2 then some ((3 : Int32), M) else none))))
set_option maxRecDepth 20000 in
theorem kL_pressure_0 : Cond.classLink RL 21 "java/lang/IndexOutOfBoundsException" ∈ wsL_pressure := by decide +kernel
set_option maxRecDepth 20000 in
theorem kL_pressure_1 : Cond.classLink RL 13 "java/lang/IllegalArgumentException" ∈ wsL_pressure := by decide +kernel
set_option maxRecDepth 20000 in
theorem kL_pressure_2 : Cond.classLink RL 15 "java/lang/IllegalStateException" ∈ wsL_pressure := by decide +kernel
set_option maxRecDepth 100000 in
set_option maxHeartbeats 4000000 in
theorem bL_pressure_0 {p : Program} {l : Launch} {e : Env} {s : State} {m : MethodId} {args : Array Value} {below : List Frame} {meth : Method} {c : Code} {D : va_G} {cy : Nat → ClassId} {a : Nat} (hx : p.tables.exec = Jvm.exec) (hb : c.code = cL_pressure) (hr : meth.sig.returnType = (some .int)) (hml : c.maxLocals = 5) (hown : s.vm.findClass RL = some m.cls) (hts : ∀ w ∈ wsL_pressure, w.before args s = true) (hlocks : meth.locks = false) (hK : KS D cy s) (hZ : ZZ a s s.heap) (htb : c.exceptionTable.toList = [(⟨0, 10, 13, 21⟩ : ExceptionTableEntry), (⟨0, 10, 17, 13⟩ : ExceptionTableEntry), (⟨0, 10, 21, 15⟩ : ExceptionTableEntry)]) (hfl : l.stackTraces = false) {out : Int32 × Mm} : ∀ (x1 : Int32) (x2 : Int32) (M : Mm) (H : Heap) (locs : List Loc) (ls : Array Slot), HP D cy a M H → va_S (Aq a) s.heap H locs → lv_has ls 5 [(0, .ref (a + 0)), (1, .int x1), (2, .int x2), (3, .ref (a + 103))] → fL_pressure x1 x2 M = some out → W p l e rL_pressure s m args below meth c H locs 0 0 (MQ below (QI D cy a out.1 out.2) args s 3 18 (Aq a)) (F0 m 0 ls []) := by
  intro x1 x2 M H locs ls hw hS hl hf
  unfold fL_pressure at hf
  refine lv_aload_n hx hb dL_pressure_0 rfl (lv_at hl 3 rfl) ?_
  refine lv_iconst (v := (0 : Int32)) hx hb dL_pressure_1 (by decide) ?_
  refine lv_aload_n hx hb dL_pressure_2 rfl (lv_at hl 0 rfl) ?_
  refine lv_iload_n hx hb dL_pressure_3 rfl (lv_at hl 1 rfl) ?_
  refine lv_iload_n hx hb dL_pressure_4 rfl (lv_at hl 2 rfl) ?_
  obtain ⟨o1, ho1, hf⟩ := ob hf
  refine rxCallI (vx_runV (As := [.int x1, .int x2]) (rest := [.int (0 : Int32), .ref (a + 103)]) ⟨hx, hb, hml, hown, hts⟩ (ctX5_pressure (l := l) (D := D) (cy := cy) (a := a) hfl ho1) (cwV 2 hts gL_pressure_X5_pressure rfl rfl rfl (by decide +kernel) ⟨Nat.le_of_ble_eq_true rfl, Nat.le_of_ble_eq_true rfl⟩) (pV hK hZ hw hS (rRecv hK hw (Nat.le_of_ble_eq_true rfl) en_pipe rfl)) rfl rfl hl.1 rfl (lv_room (Nat.le_of_ble_eq_true rfl)) dL_pressure_5 ⟨Nat.le_of_ble_eq_true rfl, Nat.le_of_ble_eq_true rfl⟩) hS (fun ce q9 H locs hn hw hS h1 h2 h3 => ?_) (fun H locs hn hw hS => ?_)
  · have hf := iq hn hf
    by_cases c2 : o1.1 = 3
    · have hf := ip c2 hf
      rw [c2] at h3
      refine vx_catch (E := exN 3) (name := "java/lang/IndexOutOfBoundsException") (ce := ce) hown [] ⟨0, 10, 13, 21⟩ [⟨0, 10, 17, 13⟩, ⟨0, 10, 21, 15⟩] htb (fun z hz => nomatch hz) (by decide) (by decide) (hts _ kL_pressure_0) (va_Nw.use rfl (hK.2.2.2.1 "java/lang/IndexOutOfBoundsException" (by decide +kernel))) h1 h2 h3 ?_
      refine lv_astore (lv' := [(4, .ref q9), (0, .ref (a + 0)), (1, .int x1), (2, .int x2), (3, .ref (a + 103))]) hx hb dL_pressure_13 hl (Nat.le_of_ble_eq_true rfl) rfl (fun ls hl => ?_)
      refine lv_iconst (v := (1 : Int32)) hx hb dL_pressure_15 (by decide) ?_
      obtain rfl := Option.some.inj hf
      refine W.widen (k := 3) (n := 18) (Nat.le_of_ble_eq_true rfl) (Nat.le_of_ble_eq_true rfl) ?_
      exact rIret hx hb hr hlocks hw hS dL_pressure_16
    · have hf := iq c2 hf
      by_cases c3 : o1.1 = 1
      · have hf := ip c3 hf
        rw [c3] at h3
        refine vx_catch (E := exN 1) (name := "java/lang/IllegalArgumentException") (ce := ce) hown [⟨0, 10, 13, 21⟩] ⟨0, 10, 17, 13⟩ [⟨0, 10, 21, 15⟩] htb (by intro z hz; simp only [List.mem_cons, List.not_mem_nil, or_false] at hz; subst hz; exact Or.inr ⟨by decide, "java/lang/IndexOutOfBoundsException", (hts _ kL_pressure_0), hK.2.2.2.2.2.2 ("java/lang/IllegalArgumentException", "java/lang/IndexOutOfBoundsException") (by decide +kernel)⟩) (by decide) (by decide) (hts _ kL_pressure_1) (va_Nw.use rfl (hK.2.2.2.1 "java/lang/IllegalArgumentException" (by decide +kernel))) h1 h2 h3 ?_
        refine lv_astore (lv' := [(4, .ref q9), (0, .ref (a + 0)), (1, .int x1), (2, .int x2), (3, .ref (a + 103))]) hx hb dL_pressure_17 hl (Nat.le_of_ble_eq_true rfl) rfl (fun ls hl => ?_)
        refine lv_iconst (v := (2 : Int32)) hx hb dL_pressure_19 (by decide) ?_
        obtain rfl := Option.some.inj hf
        refine W.widen (k := 3) (n := 18) (Nat.le_of_ble_eq_true rfl) (Nat.le_of_ble_eq_true rfl) ?_
        exact rIret hx hb hr hlocks hw hS dL_pressure_20
      · have hf := iq c3 hf
        by_cases c4 : o1.1 = 2
        · have hf := ip c4 hf
          rw [c4] at h3
          refine vx_catch (E := exN 2) (name := "java/lang/IllegalStateException") (ce := ce) hown [⟨0, 10, 13, 21⟩, ⟨0, 10, 17, 13⟩] ⟨0, 10, 21, 15⟩ [] htb (by intro z hz; simp only [List.mem_cons, List.not_mem_nil, or_false] at hz; rcases hz with rfl | rfl; exact Or.inr ⟨by decide, "java/lang/IndexOutOfBoundsException", (hts _ kL_pressure_0), hK.2.2.2.2.2.2 ("java/lang/IllegalStateException", "java/lang/IndexOutOfBoundsException") (by decide +kernel)⟩; exact Or.inr ⟨by decide, "java/lang/IllegalArgumentException", (hts _ kL_pressure_1), hK.2.2.2.2.2.2 ("java/lang/IllegalStateException", "java/lang/IllegalArgumentException") (by decide +kernel)⟩) (by decide) (by decide) (hts _ kL_pressure_2) (va_Nw.use rfl (hK.2.2.2.1 "java/lang/IllegalStateException" (by decide +kernel))) h1 h2 h3 ?_
          refine lv_astore (lv' := [(4, .ref q9), (0, .ref (a + 0)), (1, .int x1), (2, .int x2), (3, .ref (a + 103))]) hx hb dL_pressure_21 hl (Nat.le_of_ble_eq_true rfl) rfl (fun ls hl => ?_)
          refine lv_iconst (v := (3 : Int32)) hx hb dL_pressure_23 (by decide) ?_
          obtain rfl := Option.some.inj hf
          refine W.widen (k := 3) (n := 18) (Nat.le_of_ble_eq_true rfl) (Nat.le_of_ble_eq_true rfl) ?_
          exact rIret hx hb hr hlocks hw hS dL_pressure_24
        · have hf := iq c4 hf
          cases hf
  · have hf := ip hn hf
    refine lv_i2l hx hb dL_pressure_8 rfl ?_
    obtain ⟨hg5, hf⟩ := og hf
    refine rLast hx hb hK hw hS hg5 dL_pressure_9 (fun H locs hw hS => ?_)
    refine lv_goto (tgt := 25) hx hb dL_pressure_10 (by decide) ?_
    refine lv_iconst (v := (0 : Int32)) hx hb dL_pressure_25 (by decide) ?_
    obtain rfl := Option.some.inj hf
    exact rIret hx hb hr hlocks hw hS dL_pressure_26
set_option maxRecDepth 100000 in
set_option maxHeartbeats 4000000 in
theorem ctL_pressure {l : Launch} {D : va_G} {cy : Nat → ClassId} {a : Nat} (hfl : l.stackTraces = false) {x1 : Int32} {x2 : Int32} {M : Mm} {out : Int32 × Mm} (hf : fL_pressure x1 x2 M = some out) : Met l yL_pressure wsL_pressure rL_pressure (Pre D cy a M [.ref (a + 0), .int x1, .int x2, .ref (a + 103)]) (QI D cy a out.1 out.2) 3 18 (Aq a) := by
  refine mOfWH (cc := cL_pressure) (maxL := 5) (ret := (some .int)) (hh := [(0, 10, 13, 21), (0, 10, 17, 13), (0, 10, 21, 15)]) (by decide +kernel) rfl ?_
  intro p e s m args below meth c s₁ B hml hv
  obtain ⟨rfl, hw, hK, hZ⟩ := hv
  have hS : va_S (Aq a) s.heap s.heap [] := va_S.rf
  have htb := vx_table (x := yL_pressure) (hh := [(0, 10, 13, 21), (0, 10, 17, 13), (0, 10, 21, 15)]) B (atoms_spec (ws := wsL_pressure) B.pre _ List.mem_cons_self)
  have hl := lv_entry ([.ref (a + 0), .int x1, .int x2, .ref (a + 103)]) (n := 5) (Nat.le_of_ble_eq_true rfl)
  rw [lg_entry_eq]
  generalize (lg_sl ([.ref (a + 0), .int x1, .int x2, .ref (a + 103)]) ++ List.replicate (5 - (lg_sl ([.ref (a + 0), .int x1, .int x2, .ref (a + 103)])).length) Slot.unset).toArray = ls at hl ⊢
  exact bL_pressure_0 B.exec B.bytes B.returns hml (findClass_of_methodNamed B.named) (atoms_spec (ws := wsL_pressure) B.pre) B.notSynchronized hK hZ htb hfl _ _ _ _ _ _ hw hS hl hf
def rL_tank : Room := { frames := 8, cells := 2, slots := 12, locals := 135 }
noncomputable def fL_tank (x1 : Int32) (x2 : Int32) (M : Mm) : Option (Int32 × Mm) := ((fX5_tank x1 x2 M).bind fun o1 => if o1.1 = 0 then (if ¬ ((0 : Int32) < 0 ∨ 1 ≤ (0 : Int32).toNatClampNeg) then some ((0 : Int32), si M 103 (0 : Int32).toNatClampNeg o1.2) else none) else (if o1.1 = 3 then some ((1 : Int32), M) else (if o1.1 = 1 then some ((2 : Int32), M) else none)))
set_option maxRecDepth 20000 in
theorem kL_tank_0 : Cond.classLink RL 21 "java/lang/IndexOutOfBoundsException" ∈ wsL_tank := by decide +kernel
set_option maxRecDepth 20000 in
theorem kL_tank_1 : Cond.classLink RL 13 "java/lang/IllegalArgumentException" ∈ wsL_tank := by decide +kernel
set_option maxRecDepth 100000 in
set_option maxHeartbeats 4000000 in
theorem bL_tank_0 {p : Program} {l : Launch} {e : Env} {s : State} {m : MethodId} {args : Array Value} {below : List Frame} {meth : Method} {c : Code} {D : va_G} {cy : Nat → ClassId} {a : Nat} (hx : p.tables.exec = Jvm.exec) (hb : c.code = cL_tank) (hr : meth.sig.returnType = (some .int)) (hml : c.maxLocals = 5) (hown : s.vm.findClass RL = some m.cls) (hts : ∀ w ∈ wsL_tank, w.before args s = true) (hlocks : meth.locks = false) (hK : KS D cy s) (hZ : ZZ a s s.heap) (htb : c.exceptionTable.toList = [(⟨0, 10, 13, 21⟩ : ExceptionTableEntry), (⟨0, 10, 17, 13⟩ : ExceptionTableEntry)]) (hfl : l.stackTraces = false) {out : Int32 × Mm} : ∀ (x1 : Int32) (x2 : Int32) (M : Mm) (H : Heap) (locs : List Loc) (ls : Array Slot), HP D cy a M H → va_S (Aq a) s.heap H locs → lv_has ls 5 [(0, .ref (a + 0)), (1, .int x1), (2, .int x2), (3, .ref (a + 103))] → fL_tank x1 x2 M = some out → W p l e rL_tank s m args below meth c H locs 0 0 (MQ below (QI D cy a out.1 out.2) args s 2 12 (Aq a)) (F0 m 0 ls []) := by
  intro x1 x2 M H locs ls hw hS hl hf
  unfold fL_tank at hf
  refine lv_aload_n hx hb dL_tank_0 rfl (lv_at hl 3 rfl) ?_
  refine lv_iconst (v := (0 : Int32)) hx hb dL_tank_1 (by decide) ?_
  refine lv_aload_n hx hb dL_tank_2 rfl (lv_at hl 0 rfl) ?_
  refine lv_iload_n hx hb dL_tank_3 rfl (lv_at hl 1 rfl) ?_
  refine lv_iload_n hx hb dL_tank_4 rfl (lv_at hl 2 rfl) ?_
  obtain ⟨o1, ho1, hf⟩ := ob hf
  refine rxCallI (vx_runV (As := [.int x1, .int x2]) (rest := [.int (0 : Int32), .ref (a + 103)]) ⟨hx, hb, hml, hown, hts⟩ (ctX5_tank (l := l) (D := D) (cy := cy) (a := a) hfl ho1) (cwV 2 hts gL_tank_X5_tank rfl rfl rfl (by decide +kernel) ⟨Nat.le_of_ble_eq_true rfl, Nat.le_of_ble_eq_true rfl⟩) (pV hK hZ hw hS (rRecv hK hw (Nat.le_of_ble_eq_true rfl) en_pipe rfl)) rfl rfl hl.1 rfl (lv_room (Nat.le_of_ble_eq_true rfl)) dL_tank_5 ⟨Nat.le_of_ble_eq_true rfl, Nat.le_of_ble_eq_true rfl⟩) hS (fun ce q9 H locs hn hw hS h1 h2 h3 => ?_) (fun H locs hn hw hS => ?_)
  · have hf := iq hn hf
    by_cases c2 : o1.1 = 3
    · have hf := ip c2 hf
      rw [c2] at h3
      refine vx_catch (E := exN 3) (name := "java/lang/IndexOutOfBoundsException") (ce := ce) hown [] ⟨0, 10, 13, 21⟩ [⟨0, 10, 17, 13⟩] htb (fun z hz => nomatch hz) (by decide) (by decide) (hts _ kL_tank_0) (va_Nw.use rfl (hK.2.2.2.1 "java/lang/IndexOutOfBoundsException" (by decide +kernel))) h1 h2 h3 ?_
      refine lv_astore (lv' := [(4, .ref q9), (0, .ref (a + 0)), (1, .int x1), (2, .int x2), (3, .ref (a + 103))]) hx hb dL_tank_13 hl (Nat.le_of_ble_eq_true rfl) rfl (fun ls hl => ?_)
      refine lv_iconst (v := (1 : Int32)) hx hb dL_tank_15 (by decide) ?_
      obtain rfl := Option.some.inj hf
      refine W.widen (k := 2) (n := 12) (Nat.le_of_ble_eq_true rfl) (Nat.le_of_ble_eq_true rfl) ?_
      exact rIret hx hb hr hlocks hw hS dL_tank_16
    · have hf := iq c2 hf
      by_cases c3 : o1.1 = 1
      · have hf := ip c3 hf
        rw [c3] at h3
        refine vx_catch (E := exN 1) (name := "java/lang/IllegalArgumentException") (ce := ce) hown [⟨0, 10, 13, 21⟩] ⟨0, 10, 17, 13⟩ [] htb (by intro z hz; simp only [List.mem_cons, List.not_mem_nil, or_false] at hz; subst hz; exact Or.inr ⟨by decide, "java/lang/IndexOutOfBoundsException", (hts _ kL_tank_0), hK.2.2.2.2.2.2 ("java/lang/IllegalArgumentException", "java/lang/IndexOutOfBoundsException") (by decide +kernel)⟩) (by decide) (by decide) (hts _ kL_tank_1) (va_Nw.use rfl (hK.2.2.2.1 "java/lang/IllegalArgumentException" (by decide +kernel))) h1 h2 h3 ?_
        refine lv_astore (lv' := [(4, .ref q9), (0, .ref (a + 0)), (1, .int x1), (2, .int x2), (3, .ref (a + 103))]) hx hb dL_tank_17 hl (Nat.le_of_ble_eq_true rfl) rfl (fun ls hl => ?_)
        refine lv_iconst (v := (2 : Int32)) hx hb dL_tank_19 (by decide) ?_
        obtain rfl := Option.some.inj hf
        refine W.widen (k := 2) (n := 12) (Nat.le_of_ble_eq_true rfl) (Nat.le_of_ble_eq_true rfl) ?_
        exact rIret hx hb hr hlocks hw hS dL_tank_20
      · have hf := iq c3 hf
        cases hf
  · have hf := ip hn hf
    refine lv_i2l hx hb dL_tank_8 rfl ?_
    obtain ⟨hg4, hf⟩ := og hf
    refine rLast hx hb hK hw hS hg4 dL_tank_9 (fun H locs hw hS => ?_)
    refine lv_goto (tgt := 21) hx hb dL_tank_10 (by decide) ?_
    refine lv_iconst (v := (0 : Int32)) hx hb dL_tank_21 (by decide) ?_
    obtain rfl := Option.some.inj hf
    exact rIret hx hb hr hlocks hw hS dL_tank_22
set_option maxRecDepth 100000 in
set_option maxHeartbeats 4000000 in
theorem ctL_tank {l : Launch} {D : va_G} {cy : Nat → ClassId} {a : Nat} (hfl : l.stackTraces = false) {x1 : Int32} {x2 : Int32} {M : Mm} {out : Int32 × Mm} (hf : fL_tank x1 x2 M = some out) : Met l yL_tank wsL_tank rL_tank (Pre D cy a M [.ref (a + 0), .int x1, .int x2, .ref (a + 103)]) (QI D cy a out.1 out.2) 2 12 (Aq a) := by
  refine mOfWH (cc := cL_tank) (maxL := 5) (ret := (some .int)) (hh := [(0, 10, 13, 21), (0, 10, 17, 13)]) (by decide +kernel) rfl ?_
  intro p e s m args below meth c s₁ B hml hv
  obtain ⟨rfl, hw, hK, hZ⟩ := hv
  have hS : va_S (Aq a) s.heap s.heap [] := va_S.rf
  have htb := vx_table (x := yL_tank) (hh := [(0, 10, 13, 21), (0, 10, 17, 13)]) B (atoms_spec (ws := wsL_tank) B.pre _ List.mem_cons_self)
  have hl := lv_entry ([.ref (a + 0), .int x1, .int x2, .ref (a + 103)]) (n := 5) (Nat.le_of_ble_eq_true rfl)
  rw [lg_entry_eq]
  generalize (lg_sl ([.ref (a + 0), .int x1, .int x2, .ref (a + 103)]) ++ List.replicate (5 - (lg_sl ([.ref (a + 0), .int x1, .int x2, .ref (a + 103)])).length) Slot.unset).toArray = ls at hl ⊢
  exact bL_tank_0 B.exec B.bytes B.returns hml (findClass_of_methodNamed B.named) (atoms_spec (ws := wsL_tank) B.pre) B.notSynchronized hK hZ htb hfl _ _ _ _ _ _ hw hS hl hf
def rL_pipe : Room := { frames := 8, cells := 1, slots := 6, locals := 134 }
noncomputable def fL_pipe (x1 : Int32) (M : Mm) : Option (Int32 × Mm) := ((fX5_pipe x1 M).bind fun o1 => if o1.1 = 0 then (if ¬ ((0 : Int32) < 0 ∨ 1 ≤ (0 : Int32).toNatClampNeg) then some ((0 : Int32), si M 103 (0 : Int32).toNatClampNeg o1.2) else none) else (if o1.1 = 1 then some ((1 : Int32), M) else none))
set_option maxRecDepth 20000 in
theorem kL_pipe_0 : Cond.classLink RL 13 "java/lang/IllegalArgumentException" ∈ wsL_pipe := by decide +kernel
set_option maxRecDepth 100000 in
set_option maxHeartbeats 4000000 in
theorem bL_pipe_0 {p : Program} {l : Launch} {e : Env} {s : State} {m : MethodId} {args : Array Value} {below : List Frame} {meth : Method} {c : Code} {D : va_G} {cy : Nat → ClassId} {a : Nat} (hx : p.tables.exec = Jvm.exec) (hb : c.code = cL_pipe) (hr : meth.sig.returnType = (some .int)) (hml : c.maxLocals = 4) (hown : s.vm.findClass RL = some m.cls) (hts : ∀ w ∈ wsL_pipe, w.before args s = true) (hlocks : meth.locks = false) (hK : KS D cy s) (hZ : ZZ a s s.heap) (htb : c.exceptionTable.toList = [(⟨0, 9, 12, 13⟩ : ExceptionTableEntry)]) (hfl : l.stackTraces = false) {out : Int32 × Mm} : ∀ (x1 : Int32) (M : Mm) (H : Heap) (locs : List Loc) (ls : Array Slot), HP D cy a M H → va_S (Aq a) s.heap H locs → lv_has ls 4 [(0, .ref (a + 0)), (1, .int x1), (2, .ref (a + 103))] → fL_pipe x1 M = some out → W p l e rL_pipe s m args below meth c H locs 0 0 (MQ below (QI D cy a out.1 out.2) args s 1 6 (Aq a)) (F0 m 0 ls []) := by
  intro x1 M H locs ls hw hS hl hf
  unfold fL_pipe at hf
  refine lv_aload_n hx hb dL_pipe_0 rfl (lv_at hl 2 rfl) ?_
  refine lv_iconst (v := (0 : Int32)) hx hb dL_pipe_1 (by decide) ?_
  refine lv_aload_n hx hb dL_pipe_2 rfl (lv_at hl 0 rfl) ?_
  refine lv_iload_n hx hb dL_pipe_3 rfl (lv_at hl 1 rfl) ?_
  obtain ⟨o1, ho1, hf⟩ := ob hf
  refine rxCallI (vx_runV (As := [.int x1]) (rest := [.int (0 : Int32), .ref (a + 103)]) ⟨hx, hb, hml, hown, hts⟩ (ctX5_pipe (l := l) (D := D) (cy := cy) (a := a) hfl ho1) (cwV 1 hts gL_pipe_X5_pipe rfl rfl rfl (by decide +kernel) ⟨Nat.le_of_ble_eq_true rfl, Nat.le_of_ble_eq_true rfl⟩) (pV hK hZ hw hS (rRecv hK hw (Nat.le_of_ble_eq_true rfl) en_pipe rfl)) rfl rfl hl.1 rfl (lv_room (Nat.le_of_ble_eq_true rfl)) dL_pipe_4 ⟨Nat.le_of_ble_eq_true rfl, Nat.le_of_ble_eq_true rfl⟩) hS (fun ce q9 H locs hn hw hS h1 h2 h3 => ?_) (fun H locs hn hw hS => ?_)
  · have hf := iq hn hf
    by_cases c2 : o1.1 = 1
    · have hf := ip c2 hf
      rw [c2] at h3
      refine vx_catch (E := exN 1) (name := "java/lang/IllegalArgumentException") (ce := ce) hown [] ⟨0, 9, 12, 13⟩ [] htb (fun z hz => nomatch hz) (by decide) (by decide) (hts _ kL_pipe_0) (va_Nw.use rfl (hK.2.2.2.1 "java/lang/IllegalArgumentException" (by decide +kernel))) h1 h2 h3 ?_
      refine lv_astore_n (lv' := [(3, .ref q9), (0, .ref (a + 0)), (1, .int x1), (2, .ref (a + 103))]) hx hb dL_pipe_12 rfl hl (Nat.le_of_ble_eq_true rfl) rfl (fun ls hl => ?_)
      refine lv_iconst (v := (1 : Int32)) hx hb dL_pipe_13 (by decide) ?_
      obtain rfl := Option.some.inj hf
      refine W.widen (k := 1) (n := 6) (Nat.le_of_ble_eq_true rfl) (Nat.le_of_ble_eq_true rfl) ?_
      exact rIret hx hb hr hlocks hw hS dL_pipe_14
    · have hf := iq c2 hf
      cases hf
  · have hf := ip hn hf
    refine lv_i2l hx hb dL_pipe_7 rfl ?_
    obtain ⟨hg3, hf⟩ := og hf
    refine rLast hx hb hK hw hS hg3 dL_pipe_8 (fun H locs hw hS => ?_)
    refine lv_goto (tgt := 15) hx hb dL_pipe_9 (by decide) ?_
    refine lv_iconst (v := (0 : Int32)) hx hb dL_pipe_15 (by decide) ?_
    obtain rfl := Option.some.inj hf
    exact rIret hx hb hr hlocks hw hS dL_pipe_16
set_option maxRecDepth 100000 in
set_option maxHeartbeats 4000000 in
theorem ctL_pipe {l : Launch} {D : va_G} {cy : Nat → ClassId} {a : Nat} (hfl : l.stackTraces = false) {x1 : Int32} {M : Mm} {out : Int32 × Mm} (hf : fL_pipe x1 M = some out) : Met l yL_pipe wsL_pipe rL_pipe (Pre D cy a M [.ref (a + 0), .int x1, .ref (a + 103)]) (QI D cy a out.1 out.2) 1 6 (Aq a) := by
  refine mOfWH (cc := cL_pipe) (maxL := 4) (ret := (some .int)) (hh := [(0, 9, 12, 13)]) (by decide +kernel) rfl ?_
  intro p e s m args below meth c s₁ B hml hv
  obtain ⟨rfl, hw, hK, hZ⟩ := hv
  have hS : va_S (Aq a) s.heap s.heap [] := va_S.rf
  have htb := vx_table (x := yL_pipe) (hh := [(0, 9, 12, 13)]) B (atoms_spec (ws := wsL_pipe) B.pre _ List.mem_cons_self)
  have hl := lv_entry ([.ref (a + 0), .int x1, .ref (a + 103)]) (n := 4) (Nat.le_of_ble_eq_true rfl)
  rw [lg_entry_eq]
  generalize (lg_sl ([.ref (a + 0), .int x1, .ref (a + 103)]) ++ List.replicate (4 - (lg_sl ([.ref (a + 0), .int x1, .ref (a + 103)])).length) Slot.unset).toArray = ls at hl ⊢
  exact bL_pipe_0 B.exec B.bytes B.returns hml (findClass_of_methodNamed B.named) (atoms_spec (ws := wsL_pipe) B.pre) B.notSynchronized hK hZ htb hfl _ _ _ _ _ hw hS hl hf
def rL_dirt : Room := { frames := 8, cells := 1, slots := 6, locals := 133 }
noncomputable def fL_dirt (x1 : Int32) (M : Mm) : Option (Int32 × Mm) := ((fX5_dirt x1 M).bind fun o1 => if o1.1 = 0 then (if ¬ ((0 : Int32) < 0 ∨ 1 ≤ (0 : Int32).toNatClampNeg) then some ((0 : Int32), si M 103 (0 : Int32).toNatClampNeg o1.2) else none) else (if o1.1 = 3 then some ((1 : Int32), M) else none))
set_option maxRecDepth 20000 in
theorem kL_dirt_0 : Cond.classLink RL 21 "java/lang/IndexOutOfBoundsException" ∈ wsL_dirt := by decide +kernel
set_option maxRecDepth 100000 in
set_option maxHeartbeats 4000000 in
theorem bL_dirt_0 {p : Program} {l : Launch} {e : Env} {s : State} {m : MethodId} {args : Array Value} {below : List Frame} {meth : Method} {c : Code} {D : va_G} {cy : Nat → ClassId} {a : Nat} (hx : p.tables.exec = Jvm.exec) (hb : c.code = cL_dirt) (hr : meth.sig.returnType = (some .int)) (hml : c.maxLocals = 4) (hown : s.vm.findClass RL = some m.cls) (hts : ∀ w ∈ wsL_dirt, w.before args s = true) (hlocks : meth.locks = false) (hK : KS D cy s) (hZ : ZZ a s s.heap) (htb : c.exceptionTable.toList = [(⟨0, 9, 12, 21⟩ : ExceptionTableEntry)]) (hfl : l.stackTraces = false) {out : Int32 × Mm} : ∀ (x1 : Int32) (M : Mm) (H : Heap) (locs : List Loc) (ls : Array Slot), HP D cy a M H → va_S (Aq a) s.heap H locs → lv_has ls 4 [(0, .ref (a + 0)), (1, .int x1), (2, .ref (a + 103))] → fL_dirt x1 M = some out → W p l e rL_dirt s m args below meth c H locs 0 0 (MQ below (QI D cy a out.1 out.2) args s 1 6 (Aq a)) (F0 m 0 ls []) := by
  intro x1 M H locs ls hw hS hl hf
  unfold fL_dirt at hf
  refine lv_aload_n hx hb dL_dirt_0 rfl (lv_at hl 2 rfl) ?_
  refine lv_iconst (v := (0 : Int32)) hx hb dL_dirt_1 (by decide) ?_
  refine lv_aload_n hx hb dL_dirt_2 rfl (lv_at hl 0 rfl) ?_
  refine lv_iload_n hx hb dL_dirt_3 rfl (lv_at hl 1 rfl) ?_
  obtain ⟨o1, ho1, hf⟩ := ob hf
  refine rxCallI (vx_runV (As := [.int x1]) (rest := [.int (0 : Int32), .ref (a + 103)]) ⟨hx, hb, hml, hown, hts⟩ (ctX5_dirt (l := l) (D := D) (cy := cy) (a := a) hfl ho1) (cwV 1 hts gL_dirt_X5_dirt rfl rfl rfl (by decide +kernel) ⟨Nat.le_of_ble_eq_true rfl, Nat.le_of_ble_eq_true rfl⟩) (pV hK hZ hw hS (rRecv hK hw (Nat.le_of_ble_eq_true rfl) en_pipe rfl)) rfl rfl hl.1 rfl (lv_room (Nat.le_of_ble_eq_true rfl)) dL_dirt_4 ⟨Nat.le_of_ble_eq_true rfl, Nat.le_of_ble_eq_true rfl⟩) hS (fun ce q9 H locs hn hw hS h1 h2 h3 => ?_) (fun H locs hn hw hS => ?_)
  · have hf := iq hn hf
    by_cases c2 : o1.1 = 3
    · have hf := ip c2 hf
      rw [c2] at h3
      refine vx_catch (E := exN 3) (name := "java/lang/IndexOutOfBoundsException") (ce := ce) hown [] ⟨0, 9, 12, 21⟩ [] htb (fun z hz => nomatch hz) (by decide) (by decide) (hts _ kL_dirt_0) (va_Nw.use rfl (hK.2.2.2.1 "java/lang/IndexOutOfBoundsException" (by decide +kernel))) h1 h2 h3 ?_
      refine lv_astore_n (lv' := [(3, .ref q9), (0, .ref (a + 0)), (1, .int x1), (2, .ref (a + 103))]) hx hb dL_dirt_12 rfl hl (Nat.le_of_ble_eq_true rfl) rfl (fun ls hl => ?_)
      refine lv_iconst (v := (1 : Int32)) hx hb dL_dirt_13 (by decide) ?_
      obtain rfl := Option.some.inj hf
      refine W.widen (k := 1) (n := 6) (Nat.le_of_ble_eq_true rfl) (Nat.le_of_ble_eq_true rfl) ?_
      exact rIret hx hb hr hlocks hw hS dL_dirt_14
    · have hf := iq c2 hf
      cases hf
  · have hf := ip hn hf
    refine lv_i2l hx hb dL_dirt_7 rfl ?_
    obtain ⟨hg3, hf⟩ := og hf
    refine rLast hx hb hK hw hS hg3 dL_dirt_8 (fun H locs hw hS => ?_)
    refine lv_goto (tgt := 15) hx hb dL_dirt_9 (by decide) ?_
    refine lv_iconst (v := (0 : Int32)) hx hb dL_dirt_15 (by decide) ?_
    obtain rfl := Option.some.inj hf
    exact rIret hx hb hr hlocks hw hS dL_dirt_16
set_option maxRecDepth 100000 in
set_option maxHeartbeats 4000000 in
theorem ctL_dirt {l : Launch} {D : va_G} {cy : Nat → ClassId} {a : Nat} (hfl : l.stackTraces = false) {x1 : Int32} {M : Mm} {out : Int32 × Mm} (hf : fL_dirt x1 M = some out) : Met l yL_dirt wsL_dirt rL_dirt (Pre D cy a M [.ref (a + 0), .int x1, .ref (a + 103)]) (QI D cy a out.1 out.2) 1 6 (Aq a) := by
  refine mOfWH (cc := cL_dirt) (maxL := 4) (ret := (some .int)) (hh := [(0, 9, 12, 21)]) (by decide +kernel) rfl ?_
  intro p e s m args below meth c s₁ B hml hv
  obtain ⟨rfl, hw, hK, hZ⟩ := hv
  have hS : va_S (Aq a) s.heap s.heap [] := va_S.rf
  have htb := vx_table (x := yL_dirt) (hh := [(0, 9, 12, 21)]) B (atoms_spec (ws := wsL_dirt) B.pre _ List.mem_cons_self)
  have hl := lv_entry ([.ref (a + 0), .int x1, .ref (a + 103)]) (n := 4) (Nat.le_of_ble_eq_true rfl)
  rw [lg_entry_eq]
  generalize (lg_sl ([.ref (a + 0), .int x1, .ref (a + 103)]) ++ List.replicate (4 - (lg_sl ([.ref (a + 0), .int x1, .ref (a + 103)])).length) Slot.unset).toArray = ls at hl ⊢
  exact bL_dirt_0 B.exec B.bytes B.returns hml (findClass_of_methodNamed B.named) (atoms_spec (ws := wsL_dirt) B.pre) B.notSynchronized hK hZ htb hfl _ _ _ _ _ hw hS hl hf
def rL_share : Room := { frames := 8, cells := 2, slots := 12, locals := 138 }
noncomputable def fL_share (x1 : Int32) (x2 : Int32) (M : Mm) : Option (Int32 × Mm) := ((fX5_share x1 x2 M).bind fun o1 => if o1.1 = 0 then (if ¬ ((0 : Int32) < 0 ∨ 1 ≤ (0 : Int32).toNatClampNeg) then some ((0 : Int32), si M 103 (0 : Int32).toNatClampNeg o1.2) else none) else (if o1.1 = 3 then some ((1 : Int32), M) else (if o1.1 = 1 then some ((2 : Int32), M) else none)))
set_option maxRecDepth 20000 in
theorem kL_share_0 : Cond.classLink RL 21 "java/lang/IndexOutOfBoundsException" ∈ wsL_share := by decide +kernel
set_option maxRecDepth 20000 in
theorem kL_share_1 : Cond.classLink RL 13 "java/lang/IllegalArgumentException" ∈ wsL_share := by decide +kernel
set_option maxRecDepth 100000 in
set_option maxHeartbeats 4000000 in
theorem bL_share_0 {p : Program} {l : Launch} {e : Env} {s : State} {m : MethodId} {args : Array Value} {below : List Frame} {meth : Method} {c : Code} {D : va_G} {cy : Nat → ClassId} {a : Nat} (hx : p.tables.exec = Jvm.exec) (hb : c.code = cL_share) (hr : meth.sig.returnType = (some .int)) (hml : c.maxLocals = 5) (hown : s.vm.findClass RL = some m.cls) (hts : ∀ w ∈ wsL_share, w.before args s = true) (hlocks : meth.locks = false) (hK : KS D cy s) (hZ : ZZ a s s.heap) (htb : c.exceptionTable.toList = [(⟨0, 10, 13, 21⟩ : ExceptionTableEntry), (⟨0, 10, 17, 13⟩ : ExceptionTableEntry)]) (hfl : l.stackTraces = false) {out : Int32 × Mm} : ∀ (x1 : Int32) (x2 : Int32) (M : Mm) (H : Heap) (locs : List Loc) (ls : Array Slot), HP D cy a M H → va_S (Aq a) s.heap H locs → lv_has ls 5 [(0, .ref (a + 0)), (1, .int x1), (2, .int x2), (3, .ref (a + 103))] → fL_share x1 x2 M = some out → W p l e rL_share s m args below meth c H locs 0 0 (MQ below (QI D cy a out.1 out.2) args s 2 12 (Aq a)) (F0 m 0 ls []) := by
  intro x1 x2 M H locs ls hw hS hl hf
  unfold fL_share at hf
  refine lv_aload_n hx hb dL_share_0 rfl (lv_at hl 3 rfl) ?_
  refine lv_iconst (v := (0 : Int32)) hx hb dL_share_1 (by decide) ?_
  refine lv_aload_n hx hb dL_share_2 rfl (lv_at hl 0 rfl) ?_
  refine lv_iload_n hx hb dL_share_3 rfl (lv_at hl 1 rfl) ?_
  refine lv_iload_n hx hb dL_share_4 rfl (lv_at hl 2 rfl) ?_
  obtain ⟨o1, ho1, hf⟩ := ob hf
  refine rxCallI (vx_runV (As := [.int x1, .int x2]) (rest := [.int (0 : Int32), .ref (a + 103)]) ⟨hx, hb, hml, hown, hts⟩ (ctX5_share (l := l) (D := D) (cy := cy) (a := a) hfl ho1) (cwV 2 hts gL_share_X5_share rfl rfl rfl (by decide +kernel) ⟨Nat.le_of_ble_eq_true rfl, Nat.le_of_ble_eq_true rfl⟩) (pV hK hZ hw hS (rRecv hK hw (Nat.le_of_ble_eq_true rfl) en_pipe rfl)) rfl rfl hl.1 rfl (lv_room (Nat.le_of_ble_eq_true rfl)) dL_share_5 ⟨Nat.le_of_ble_eq_true rfl, Nat.le_of_ble_eq_true rfl⟩) hS (fun ce q9 H locs hn hw hS h1 h2 h3 => ?_) (fun H locs hn hw hS => ?_)
  · have hf := iq hn hf
    by_cases c2 : o1.1 = 3
    · have hf := ip c2 hf
      rw [c2] at h3
      refine vx_catch (E := exN 3) (name := "java/lang/IndexOutOfBoundsException") (ce := ce) hown [] ⟨0, 10, 13, 21⟩ [⟨0, 10, 17, 13⟩] htb (fun z hz => nomatch hz) (by decide) (by decide) (hts _ kL_share_0) (va_Nw.use rfl (hK.2.2.2.1 "java/lang/IndexOutOfBoundsException" (by decide +kernel))) h1 h2 h3 ?_
      refine lv_astore (lv' := [(4, .ref q9), (0, .ref (a + 0)), (1, .int x1), (2, .int x2), (3, .ref (a + 103))]) hx hb dL_share_13 hl (Nat.le_of_ble_eq_true rfl) rfl (fun ls hl => ?_)
      refine lv_iconst (v := (1 : Int32)) hx hb dL_share_15 (by decide) ?_
      obtain rfl := Option.some.inj hf
      refine W.widen (k := 2) (n := 12) (Nat.le_of_ble_eq_true rfl) (Nat.le_of_ble_eq_true rfl) ?_
      exact rIret hx hb hr hlocks hw hS dL_share_16
    · have hf := iq c2 hf
      by_cases c3 : o1.1 = 1
      · have hf := ip c3 hf
        rw [c3] at h3
        refine vx_catch (E := exN 1) (name := "java/lang/IllegalArgumentException") (ce := ce) hown [⟨0, 10, 13, 21⟩] ⟨0, 10, 17, 13⟩ [] htb (by intro z hz; simp only [List.mem_cons, List.not_mem_nil, or_false] at hz; subst hz; exact Or.inr ⟨by decide, "java/lang/IndexOutOfBoundsException", (hts _ kL_share_0), hK.2.2.2.2.2.2 ("java/lang/IllegalArgumentException", "java/lang/IndexOutOfBoundsException") (by decide +kernel)⟩) (by decide) (by decide) (hts _ kL_share_1) (va_Nw.use rfl (hK.2.2.2.1 "java/lang/IllegalArgumentException" (by decide +kernel))) h1 h2 h3 ?_
        refine lv_astore (lv' := [(4, .ref q9), (0, .ref (a + 0)), (1, .int x1), (2, .int x2), (3, .ref (a + 103))]) hx hb dL_share_17 hl (Nat.le_of_ble_eq_true rfl) rfl (fun ls hl => ?_)
        refine lv_iconst (v := (2 : Int32)) hx hb dL_share_19 (by decide) ?_
        obtain rfl := Option.some.inj hf
        refine W.widen (k := 2) (n := 12) (Nat.le_of_ble_eq_true rfl) (Nat.le_of_ble_eq_true rfl) ?_
        exact rIret hx hb hr hlocks hw hS dL_share_20
      · have hf := iq c3 hf
        cases hf
  · have hf := ip hn hf
    refine lv_i2l hx hb dL_share_8 rfl ?_
    obtain ⟨hg4, hf⟩ := og hf
    refine rLast hx hb hK hw hS hg4 dL_share_9 (fun H locs hw hS => ?_)
    refine lv_goto (tgt := 21) hx hb dL_share_10 (by decide) ?_
    refine lv_iconst (v := (0 : Int32)) hx hb dL_share_21 (by decide) ?_
    obtain rfl := Option.some.inj hf
    exact rIret hx hb hr hlocks hw hS dL_share_22
set_option maxRecDepth 100000 in
set_option maxHeartbeats 4000000 in
theorem ctL_share {l : Launch} {D : va_G} {cy : Nat → ClassId} {a : Nat} (hfl : l.stackTraces = false) {x1 : Int32} {x2 : Int32} {M : Mm} {out : Int32 × Mm} (hf : fL_share x1 x2 M = some out) : Met l yL_share wsL_share rL_share (Pre D cy a M [.ref (a + 0), .int x1, .int x2, .ref (a + 103)]) (QI D cy a out.1 out.2) 2 12 (Aq a) := by
  refine mOfWH (cc := cL_share) (maxL := 5) (ret := (some .int)) (hh := [(0, 10, 13, 21), (0, 10, 17, 13)]) (by decide +kernel) rfl ?_
  intro p e s m args below meth c s₁ B hml hv
  obtain ⟨rfl, hw, hK, hZ⟩ := hv
  have hS : va_S (Aq a) s.heap s.heap [] := va_S.rf
  have htb := vx_table (x := yL_share) (hh := [(0, 10, 13, 21), (0, 10, 17, 13)]) B (atoms_spec (ws := wsL_share) B.pre _ List.mem_cons_self)
  have hl := lv_entry ([.ref (a + 0), .int x1, .int x2, .ref (a + 103)]) (n := 5) (Nat.le_of_ble_eq_true rfl)
  rw [lg_entry_eq]
  generalize (lg_sl ([.ref (a + 0), .int x1, .int x2, .ref (a + 103)]) ++ List.replicate (5 - (lg_sl ([.ref (a + 0), .int x1, .int x2, .ref (a + 103)])).length) Slot.unset).toArray = ls at hl ⊢
  exact bL_share_0 B.exec B.bytes B.returns hml (findClass_of_methodNamed B.named) (atoms_spec (ws := wsL_share) B.pre) B.notSynchronized hK hZ htb hfl _ _ _ _ _ _ hw hS hl hf
