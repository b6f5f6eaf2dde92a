def rL_segment : Room := { frames := 8, cells := 4, slots := 24, locals := 136 }
noncomputable def fL_segment (x1 : Int32) (x2 : Int32) (x3 : Int32) (M : Mm) : Option (Int32 × Mm) := ((fX5_segment x1 x2 x3 M).bind fun o1 => if o1.1 = 0 then some (o1.2.1, o1.2.2) else (if o1.1 = 1 then some ((-102 : Int32), o1.2.2) else (if o1.1 = 2 then some ((-103 : Int32), o1.2.2) else none)))
set_option maxRecDepth 20000 in
theorem kL_segment_0 : Cond.classLink RL 15 "java/lang/IllegalArgumentException" ∈ wsL_segment := by decide +kernel
set_option maxRecDepth 20000 in
theorem kL_segment_1 : Cond.classLink RL 17 "java/lang/IllegalStateException" ∈ wsL_segment := by decide +kernel
set_option maxRecDepth 100000 in
set_option maxHeartbeats 4000000 in
theorem bL_segment_0 {p : Program} {l : Launch} {e : Env} {s : State} {m : MethodId} {args : Array Value} {below : List Frame} {meth : Method} {c : Code} {D : va_G} {cy : Nat → ClassId} {a : Nat} (hx : p.tables.exec = Jvm.exec) (hb : c.code = cL_segment) (hr : meth.sig.returnType = (some .int)) (hml : c.maxLocals = 5) (hown : s.vm.findClass RL = some m.cls) (hts : ∀ w ∈ wsL_segment, w.before args s = true) (hlocks : meth.locks = false) (hK : KS D cy s) (hZ : ZZ a s s.heap) (htb : c.exceptionTable.toList = [(⟨0, 7, 8, 15⟩ : ExceptionTableEntry), (⟨0, 7, 13, 17⟩ : ExceptionTableEntry)]) (hfl : l.stackTraces = false) {out : Int32 × Mm} : ∀ (x1 : Int32) (x2 : Int32) (x3 : Int32) (M : Mm) (H : Heap) (locs : List Loc) (ls : Array Slot), HP D cy a M H → va_S (Aq a) s.heap H locs → lv_has ls 5 [(0, .ref (a + 0)), (1, .int x1), (2, .int x2), (3, .int x3)] → fL_segment x1 x2 x3 M = some out → W p l e rL_segment s m args below meth c H locs 0 0 (MQ below (QI D cy a out.1 out.2) args s 4 24 (Aq a)) (F0 m 0 ls []) := by
  intro x1 x2 x3 M H locs ls hw hS hl hf
  unfold fL_segment at hf
  refine lv_aload_n hx hb dL_segment_0 rfl (lv_at hl 0 rfl) ?_
  refine lv_iload_n hx hb dL_segment_1 rfl (lv_at hl 1 rfl) ?_
  refine lv_iload_n hx hb dL_segment_2 rfl (lv_at hl 2 rfl) ?_
  refine lv_iload_n hx hb dL_segment_3 rfl (lv_at hl 3 rfl) ?_
  obtain ⟨o1, ho1, hf⟩ := ob hf
  refine rxCallI (vx_runV (As := [.int x1, .int x2, .int x3]) (rest := []) ⟨hx, hb, hml, hown, hts⟩ (ctX5_segment (l := l) (D := D) (cy := cy) (a := a) hfl ho1) (cwV 3 hts gL_segment_X5_segment rfl rfl rfl (by decide +kernel) ⟨Nat.le_of_ble_eq_true rfl, Nat.le_of_ble_eq_true rfl⟩) (pV hK hZ hw hS (rRecv hK hw (Nat.le_of_ble_eq_true rfl) en_pipe rfl)) rfl rfl hl.1 rfl (lv_room (Nat.le_of_ble_eq_true rfl)) dL_segment_4 ⟨Nat.le_of_ble_eq_true rfl, Nat.le_of_ble_eq_true rfl⟩) hS (fun ce q9 H locs hn hw hS h1 h2 h3 => ?_) (fun H locs hn hw hS => ?_)
  · have hf := iq hn hf
    by_cases c2 : o1.1 = 1
    · have hf := ip c2 hf
      rw [c2] at h3
      refine vx_catch (E := exN 1) (name := "java/lang/IllegalArgumentException") (ce := ce) hown [] ⟨0, 7, 8, 15⟩ [⟨0, 7, 13, 17⟩] htb (fun z hz => nomatch hz) (by decide) (by decide) (hts _ kL_segment_0) (va_Nw.use rfl (hK.2.2.2.1 "java/lang/IllegalArgumentException" (by decide +kernel))) h1 h2 h3 ?_
      refine lv_astore (lv' := [(4, .ref q9), (0, .ref (a + 0)), (1, .int x1), (2, .int x2), (3, .int x3)]) hx hb dL_segment_8 hl (Nat.le_of_ble_eq_true rfl) rfl (fun ls hl => ?_)
      refine lv_bipush (v := (-102 : Int32)) hx hb dL_segment_10 (by decide) ?_
      obtain rfl := Option.some.inj hf
      refine W.widen (k := 4) (n := 24) (Nat.le_of_ble_eq_true rfl) (Nat.le_of_ble_eq_true rfl) ?_
      exact rIret hx hb hr hlocks hw hS dL_segment_12
    · have hf := iq c2 hf
      by_cases c3 : o1.1 = 2
      · have hf := ip c3 hf
        rw [c3] at h3
        refine vx_catch (E := exN 2) (name := "java/lang/IllegalStateException") (ce := ce) hown [⟨0, 7, 8, 15⟩] ⟨0, 7, 13, 17⟩ [] htb (by intro z hz; simp only [List.mem_cons, List.not_mem_nil, or_false] at hz; subst hz; exact Or.inr ⟨by decide, "java/lang/IllegalArgumentException", (hts _ kL_segment_0), hK.2.2.2.2.2.2 ("java/lang/IllegalStateException", "java/lang/IllegalArgumentException") (by decide +kernel)⟩) (by decide) (by decide) (hts _ kL_segment_1) (va_Nw.use rfl (hK.2.2.2.1 "java/lang/IllegalStateException" (by decide +kernel))) h1 h2 h3 ?_
        refine lv_astore (lv' := [(4, .ref q9), (0, .ref (a + 0)), (1, .int x1), (2, .int x2), (3, .int x3)]) hx hb dL_segment_13 hl (Nat.le_of_ble_eq_true rfl) rfl (fun ls hl => ?_)
        refine lv_bipush (v := (-103 : Int32)) hx hb dL_segment_15 (by decide) ?_
        obtain rfl := Option.some.inj hf
        refine W.widen (k := 4) (n := 24) (Nat.le_of_ble_eq_true rfl) (Nat.le_of_ble_eq_true rfl) ?_
        exact rIret hx hb hr hlocks hw hS dL_segment_17
      · have hf := iq c3 hf
        cases hf
  · have hf := ip hn hf
    obtain rfl := Option.some.inj hf
    exact rIret hx hb hr hlocks hw hS dL_segment_7
set_option maxRecDepth 100000 in
set_option maxHeartbeats 4000000 in
theorem ctL_segment {l : Launch} {D : va_G} {cy : Nat → ClassId} {a : Nat} (hfl : l.stackTraces = false) {x1 : Int32} {x2 : Int32} {x3 : Int32} {M : Mm} {out : Int32 × Mm} (hf : fL_segment x1 x2 x3 M = some out) : Met l yL_segment wsL_segment rL_segment (Pre D cy a M [.ref (a + 0), .int x1, .int x2, .int x3]) (QI D cy a out.1 out.2) 4 24 (Aq a) := by
  refine mOfWH (cc := cL_segment) (maxL := 5) (ret := (some .int)) (hh := [(0, 7, 8, 15), (0, 7, 13, 17)]) (by decide +kernel) rfl ?_
  intro p e s m args below meth c s₁ B hml hv
  obtain ⟨rfl, hw, hK, hZ⟩ := hv
  have hS : va_S (Aq a) s.heap s.heap [] := va_S.rf
  have htb := vx_table (x := yL_segment) (hh := [(0, 7, 8, 15), (0, 7, 13, 17)]) B (atoms_spec (ws := wsL_segment) B.pre _ List.mem_cons_self)
  have hl := lv_entry ([.ref (a + 0), .int x1, .int x2, .int x3]) (n := 5) (Nat.le_of_ble_eq_true rfl)
  rw [lg_entry_eq]
  generalize (lg_sl ([.ref (a + 0), .int x1, .int x2, .int x3]) ++ List.replicate (5 - (lg_sl ([.ref (a + 0), .int x1, .int x2, .int x3])).length) Slot.unset).toArray = ls at hl ⊢
  exact bL_segment_0 B.exec B.bytes B.returns hml (findClass_of_methodNamed B.named) (atoms_spec (ws := wsL_segment) B.pre) B.notSynchronized hK hZ htb hfl _ _ _ _ _ _ _ hw hS hl hf
def rL_product : Room := { frames := 8, cells := 6, slots := 36, locals := 138 }
noncomputable def fL_product (x1 : Int32) (x2 : Int32) (x3 : Int32) (x4 : Int32) (x5 : Int32) (M : Mm) : Option (Int32 × Mm) := ((fX5_product x1 x2 x3 x4 x5 M).bind fun o1 => if o1.1 = 0 then some ((0 : Int32), o1.2) else (if o1.1 = 3 then some ((-101 : Int32), o1.2) else (if o1.1 = 1 then some ((-102 : Int32), o1.2) else none)))
set_option maxRecDepth 20000 in
theorem kL_product_0 : Cond.classLink RL 23 "java/lang/IndexOutOfBoundsException" ∈ wsL_product := by decide +kernel
set_option maxRecDepth 20000 in
theorem kL_product_1 : Cond.classLink RL 15 "java/lang/IllegalArgumentException" ∈ wsL_product := by decide +kernel
set_option maxRecDepth 100000 in
set_option maxHeartbeats 4000000 in
theorem bL_product_0 {p : Program} {l : Launch} {e : Env} {s : State} {m : MethodId} {args : Array Value} {below : List Frame} {meth : Method} {c : Code} {D : va_G} {cy : Nat → ClassId} {a : Nat} (hx : p.tables.exec = Jvm.exec) (hb : c.code = cL_product) (hr : meth.sig.returnType = (some .int)) (hml : c.maxLocals = 7) (hown : s.vm.findClass RL = some m.cls) (hts : ∀ w ∈ wsL_product, w.before args s = true) (hlocks : meth.locks = false) (hK : KS D cy s) (hZ : ZZ a s s.heap) (htb : c.exceptionTable.toList = [(⟨0, 12, 13, 23⟩ : ExceptionTableEntry), (⟨0, 12, 18, 15⟩ : ExceptionTableEntry)]) (hfl : l.stackTraces = false) {out : Int32 × Mm} : ∀ (x1 : Int32) (x2 : Int32) (x3 : Int32) (x4 : Int32) (x5 : Int32) (M : Mm) (H : Heap) (locs : List Loc) (ls : Array Slot), HP D cy a M H → va_S (Aq a) s.heap H locs → lv_has ls 7 [(0, .ref (a + 0)), (1, .int x1), (2, .int x2), (3, .int x3), (4, .int x4), (5, .int x5)] → fL_product x1 x2 x3 x4 x5 M = some out → W p l e rL_product s m args below meth c H locs 0 0 (MQ below (QI D cy a out.1 out.2) args s 6 36 (Aq a)) (F0 m 0 ls []) := by
  intro x1 x2 x3 x4 x5 M H locs ls hw hS hl hf
  unfold fL_product at hf
  refine lv_aload_n hx hb dL_product_0 rfl (lv_at hl 0 rfl) ?_
  refine lv_iload_n hx hb dL_product_1 rfl (lv_at hl 1 rfl) ?_
  refine lv_iload_n hx hb dL_product_2 rfl (lv_at hl 2 rfl) ?_
  refine lv_iload_n hx hb dL_product_3 rfl (lv_at hl 3 rfl) ?_
  refine lv_iload hx hb dL_product_4 (lv_at hl 4 rfl) ?_
  refine lv_iload hx hb dL_product_6 (lv_at hl 5 rfl) ?_
  obtain ⟨o1, ho1, hf⟩ := ob hf
  refine rxCallV (vx_runV (As := [.int x1, .int x2, .int x3, .int x4, .int x5]) (rest := []) ⟨hx, hb, hml, hown, hts⟩ (ctX5_product (l := l) (D := D) (cy := cy) (a := a) hfl ho1) (cwV 5 hts gL_product_X5_product rfl rfl rfl (by decide +kernel) ⟨Nat.le_of_ble_eq_true rfl, Nat.le_of_ble_eq_true rfl⟩) (pV hK hZ hw hS (rRecv hK hw (Nat.le_of_ble_eq_true rfl) en_pipe rfl)) rfl rfl hl.1 rfl (lv_room (Nat.le_of_ble_eq_true rfl)) dL_product_8 ⟨Nat.le_of_ble_eq_true rfl, Nat.le_of_ble_eq_true rfl⟩) hS (fun ce q9 H locs hn hw hS h1 h2 h3 => ?_) (fun H locs hn hw hS => ?_)
  · have hf := iq hn hf
    by_cases c2 : o1.1 = 3
    · have hf := ip c2 hf
      rw [c2] at h3
      refine vx_catch (E := exN 3) (name := "java/lang/IndexOutOfBoundsException") (ce := ce) hown [] ⟨0, 12, 13, 23⟩ [⟨0, 12, 18, 15⟩] htb (fun z hz => nomatch hz) (by decide) (by decide) (hts _ kL_product_0) (va_Nw.use rfl (hK.2.2.2.1 "java/lang/IndexOutOfBoundsException" (by decide +kernel))) h1 h2 h3 ?_
      refine lv_astore (lv' := [(6, .ref q9), (0, .ref (a + 0)), (1, .int x1), (2, .int x2), (3, .int x3), (4, .int x4), (5, .int x5)]) hx hb dL_product_13 hl (Nat.le_of_ble_eq_true rfl) rfl (fun ls hl => ?_)
      refine lv_bipush (v := (-101 : Int32)) hx hb dL_product_15 (by decide) ?_
      obtain rfl := Option.some.inj hf
      refine W.widen (k := 6) (n := 36) (Nat.le_of_ble_eq_true rfl) (Nat.le_of_ble_eq_true rfl) ?_
      exact rIret hx hb hr hlocks hw hS dL_product_17
    · have hf := iq c2 hf
      by_cases c3 : o1.1 = 1
      · have hf := ip c3 hf
        rw [c3] at h3
        refine vx_catch (E := exN 1) (name := "java/lang/IllegalArgumentException") (ce := ce) hown [⟨0, 12, 13, 23⟩] ⟨0, 12, 18, 15⟩ [] htb (by intro z hz; simp only [List.mem_cons, List.not_mem_nil, or_false] at hz; subst hz; exact Or.inr ⟨by decide, "java/lang/IndexOutOfBoundsException", (hts _ kL_product_0), hK.2.2.2.2.2.2 ("java/lang/IllegalArgumentException", "java/lang/IndexOutOfBoundsException") (by decide +kernel)⟩) (by decide) (by decide) (hts _ kL_product_1) (va_Nw.use rfl (hK.2.2.2.1 "java/lang/IllegalArgumentException" (by decide +kernel))) h1 h2 h3 ?_
        refine lv_astore (lv' := [(6, .ref q9), (0, .ref (a + 0)), (1, .int x1), (2, .int x2), (3, .int x3), (4, .int x4), (5, .int x5)]) hx hb dL_product_18 hl (Nat.le_of_ble_eq_true rfl) rfl (fun ls hl => ?_)
        refine lv_bipush (v := (-102 : Int32)) hx hb dL_product_20 (by decide) ?_
        obtain rfl := Option.some.inj hf
        refine W.widen (k := 6) (n := 36) (Nat.le_of_ble_eq_true rfl) (Nat.le_of_ble_eq_true rfl) ?_
        exact rIret hx hb hr hlocks hw hS dL_product_22
      · have hf := iq c3 hf
        cases hf
  · have hf := ip hn hf
    refine lv_iconst (v := (0 : Int32)) hx hb dL_product_11 (by decide) ?_
    obtain rfl := Option.some.inj hf
    exact rIret hx hb hr hlocks hw hS dL_product_12
set_option maxRecDepth 100000 in
set_option maxHeartbeats 4000000 in
theorem ctL_product {l : Launch} {D : va_G} {cy : Nat → ClassId} {a : Nat} (hfl : l.stackTraces = false) {x1 : Int32} {x2 : Int32} {x3 : Int32} {x4 : Int32} {x5 : Int32} {M : Mm} {out : Int32 × Mm} (hf : fL_product x1 x2 x3 x4 x5 M = some out) : Met l yL_product wsL_product rL_product (Pre D cy a M [.ref (a + 0), .int x1, .int x2, .int x3, .int x4, .int x5]) (QI D cy a out.1 out.2) 6 36 (Aq a) := by
  refine mOfWH (cc := cL_product) (maxL := 7) (ret := (some .int)) (hh := [(0, 12, 13, 23), (0, 12, 18, 15)]) (by decide +kernel) rfl ?_
  intro p e s m args below meth c s₁ B hml hv
  obtain ⟨rfl, hw, hK, hZ⟩ := hv
  have hS : va_S (Aq a) s.heap s.heap [] := va_S.rf
  have htb := vx_table (x := yL_product) (hh := [(0, 12, 13, 23), (0, 12, 18, 15)]) B (atoms_spec (ws := wsL_product) B.pre _ List.mem_cons_self)
  have hl := lv_entry ([.ref (a + 0), .int x1, .int x2, .int x3, .int x4, .int x5]) (n := 7) (Nat.le_of_ble_eq_true rfl)
  rw [lg_entry_eq]
  generalize (lg_sl ([.ref (a + 0), .int x1, .int x2, .int x3, .int x4, .int x5]) ++ List.replicate (7 - (lg_sl ([.ref (a + 0), .int x1, .int x2, .int x3, .int x4, .int x5])).length) Slot.unset).toArray = ls at hl ⊢
  exact bL_product_0 B.exec B.bytes B.returns hml (findClass_of_methodNamed B.named) (atoms_spec (ws := wsL_product) B.pre) B.notSynchronized hK hZ htb hfl _ _ _ _ _ _ _ _ _ hw hS hl hf
def rL_open : Room := { frames := 8, cells := 2, slots := 12, locals := 134 }
noncomputable def fL_open (x1 : Int32) (M : Mm) : Option (Int32 × Mm) := ((fX5_open x1 M).bind fun o1 => if o1.1 = 0 then some (o1.2.1, o1.2.2) else (if o1.1 = 3 then some ((-101 : Int32), o1.2.2) else (if o1.1 = 2 then some ((-103 : Int32), o1.2.2) else none)))
set_option maxRecDepth 20000 in
theorem kL_open_0 : Cond.classLink RL 23 "java/lang/IndexOutOfBoundsException" ∈ wsL_open := by decide +kernel
set_option maxRecDepth 20000 in
theorem kL_open_1 : Cond.classLink RL 17 "java/lang/IllegalStateException" ∈ wsL_open := by decide +kernel
set_option maxRecDepth 100000 in
set_option maxHeartbeats 4000000 in
theorem bL_open_0 {p : Program} {l : Launch} {e : Env} {s : State} {m : MethodId} {args : Array Value} {below : List Frame} {meth : Method} {c : Code} {D : va_G} {cy : Nat → ClassId} {a : Nat} (hx : p.tables.exec = Jvm.exec) (hb : c.code = cL_open) (hr : meth.sig.returnType = (some .int)) (hml : c.maxLocals = 3) (hown : s.vm.findClass RL = some m.cls) (hts : ∀ w ∈ wsL_open, w.before args s = true) (hlocks : meth.locks = false) (hK : KS D cy s) (hZ : ZZ a s s.heap) (htb : c.exceptionTable.toList = [(⟨0, 5, 6, 23⟩ : ExceptionTableEntry), (⟨0, 5, 10, 17⟩ : ExceptionTableEntry)]) (hfl : l.stackTraces = false) {out : Int32 × Mm} : ∀ (x1 : Int32) (M : Mm) (H : Heap) (locs : List Loc) (ls : Array Slot), HP D cy a M H → va_S (Aq a) s.heap H locs → lv_has ls 3 [(0, .ref (a + 0)), (1, .int x1)] → fL_open x1 M = some out → W p l e rL_open s m args below meth c H locs 0 0 (MQ below (QI D cy a out.1 out.2) args s 2 12 (Aq a)) (F0 m 0 ls []) := by
  intro x1 M H locs ls hw hS hl hf
  unfold fL_open at hf
  refine lv_aload_n hx hb dL_open_0 rfl (lv_at hl 0 rfl) ?_
  refine lv_iload_n hx hb dL_open_1 rfl (lv_at hl 1 rfl) ?_
  obtain ⟨o1, ho1, hf⟩ := ob hf
  refine rxCallI (vx_runV (As := [.int x1]) (rest := []) ⟨hx, hb, hml, hown, hts⟩ (ctX5_open (l := l) (D := D) (cy := cy) (a := a) hfl ho1) (cwV 1 hts gL_open_X5_open rfl rfl rfl (by decide +kernel) ⟨Nat.le_of_ble_eq_true rfl, Nat.le_of_ble_eq_true rfl⟩) (pV hK hZ hw hS (rRecv hK hw (Nat.le_of_ble_eq_true rfl) en_pipe rfl)) rfl rfl hl.1 rfl (lv_room (Nat.le_of_ble_eq_true rfl)) dL_open_2 ⟨Nat.le_of_ble_eq_true rfl, Nat.le_of_ble_eq_true rfl⟩) hS (fun ce q9 H locs hn hw hS h1 h2 h3 => ?_) (fun H locs hn hw hS => ?_)
  · have hf := iq hn hf
    by_cases c2 : o1.1 = 3
    · have hf := ip c2 hf
      rw [c2] at h3
      refine vx_catch (E := exN 3) (name := "java/lang/IndexOutOfBoundsException") (ce := ce) hown [] ⟨0, 5, 6, 23⟩ [⟨0, 5, 10, 17⟩] htb (fun z hz => nomatch hz) (by decide) (by decide) (hts _ kL_open_0) (va_Nw.use rfl (hK.2.2.2.1 "java/lang/IndexOutOfBoundsException" (by decide +kernel))) h1 h2 h3 ?_
      refine lv_astore_n (lv' := [(2, .ref q9), (0, .ref (a + 0)), (1, .int x1)]) hx hb dL_open_6 rfl hl (Nat.le_of_ble_eq_true rfl) rfl (fun ls hl => ?_)
      refine lv_bipush (v := (-101 : Int32)) hx hb dL_open_7 (by decide) ?_
      obtain rfl := Option.some.inj hf
      refine W.widen (k := 2) (n := 12) (Nat.le_of_ble_eq_true rfl) (Nat.le_of_ble_eq_true rfl) ?_
      exact rIret hx hb hr hlocks hw hS dL_open_9
    · have hf := iq c2 hf
      by_cases c3 : o1.1 = 2
      · have hf := ip c3 hf
        rw [c3] at h3
        refine vx_catch (E := exN 2) (name := "java/lang/IllegalStateException") (ce := ce) hown [⟨0, 5, 6, 23⟩] ⟨0, 5, 10, 17⟩ [] htb (by intro z hz; simp only [List.mem_cons, List.not_mem_nil, or_false] at hz; subst hz; exact Or.inr ⟨by decide, "java/lang/IndexOutOfBoundsException", (hts _ kL_open_0), hK.2.2.2.2.2.2 ("java/lang/IllegalStateException", "java/lang/IndexOutOfBoundsException") (by decide +kernel)⟩) (by decide) (by decide) (hts _ kL_open_1) (va_Nw.use rfl (hK.2.2.2.1 "java/lang/IllegalStateException" (by decide +kernel))) h1 h2 h3 ?_
        refine lv_astore_n (lv' := [(2, .ref q9), (0, .ref (a + 0)), (1, .int x1)]) hx hb dL_open_10 rfl hl (Nat.le_of_ble_eq_true rfl) rfl (fun ls hl => ?_)
        refine lv_bipush (v := (-103 : Int32)) hx hb dL_open_11 (by decide) ?_
        obtain rfl := Option.some.inj hf
        refine W.widen (k := 2) (n := 12) (Nat.le_of_ble_eq_true rfl) (Nat.le_of_ble_eq_true rfl) ?_
        exact rIret hx hb hr hlocks hw hS dL_open_13
      · have hf := iq c3 hf
        cases hf
  · have hf := ip hn hf
    obtain rfl := Option.some.inj hf
    exact rIret hx hb hr hlocks hw hS dL_open_5
set_option maxRecDepth 100000 in
set_option maxHeartbeats 4000000 in
theorem ctL_open {l : Launch} {D : va_G} {cy : Nat → ClassId} {a : Nat} (hfl : l.stackTraces = false) {x1 : Int32} {M : Mm} {out : Int32 × Mm} (hf : fL_open x1 M = some out) : Met l yL_open wsL_open rL_open (Pre D cy a M [.ref (a + 0), .int x1]) (QI D cy a out.1 out.2) 2 12 (Aq a) := by
  refine mOfWH (cc := cL_open) (maxL := 3) (ret := (some .int)) (hh := [(0, 5, 6, 23), (0, 5, 10, 17)]) (by decide +kernel) rfl ?_
  intro p e s m args below meth c s₁ B hml hv
  obtain ⟨rfl, hw, hK, hZ⟩ := hv
  have hS : va_S (Aq a) s.heap s.heap [] := va_S.rf
  have htb := vx_table (x := yL_open) (hh := [(0, 5, 6, 23), (0, 5, 10, 17)]) B (atoms_spec (ws := wsL_open) B.pre _ List.mem_cons_self)
  have hl := lv_entry ([.ref (a + 0), .int x1]) (n := 3) (Nat.le_of_ble_eq_true rfl)
  rw [lg_entry_eq]
  generalize (lg_sl ([.ref (a + 0), .int x1]) ++ List.replicate (3 - (lg_sl ([.ref (a + 0), .int x1])).length) Slot.unset).toArray = ls at hl ⊢
  exact bL_open_0 B.exec B.bytes B.returns hml (findClass_of_methodNamed B.named) (atoms_spec (ws := wsL_open) B.pre) B.notSynchronized hK hZ htb hfl _ _ _ _ _ hw hS hl hf
def rL_order : Room := { frames := 8, cells := 4, slots := 24, locals := 136 }
noncomputable def fL_order (x1 : Int32) (x2 : Int32) (x3 : Int32) (M : Mm) : Option (Int32 × Mm) := ((fX5_order x1 x2 x3 M).bind fun o1 => if o1.1 = 0 then some (o1.2.1, o1.2.2) else (if o1.1 = 3 then some ((-101 : Int32), o1.2.2) else (if o1.1 = 1 then some ((-102 : Int32), o1.2.2) else (if o1.1 = 2 then some ((-103 : Int32), o1.2.2) else none))))
set_option maxRecDepth 20000 in
theorem kL_order_0 : Cond.classLink RL 23 "java/lang/IndexOutOfBoundsException" ∈ wsL_order := by decide +kernel
set_option maxRecDepth 20000 in
theorem kL_order_1 : Cond.classLink RL 15 "java/lang/IllegalArgumentException" ∈ wsL_order := by decide +kernel
set_option maxRecDepth 20000 in
theorem kL_order_2 : Cond.classLink RL 17 "java/lang/IllegalStateException" ∈ wsL_order := by decide +kernel
set_option maxRecDepth 100000 in
set_option maxHeartbeats 4000000 in
theorem bL_order_0 {p : Program} {l : Launch} {e : Env} {s : State} {m : MethodId} {args : Array Value} {below : List Frame} {meth : Method} {c : Code} {D : va_G} {cy : Nat → ClassId} {a : Nat} (hx : p.tables.exec = Jvm.exec) (hb : c.code = cL_order) (hr : meth.sig.returnType = (some .int)) (hml : c.maxLocals = 5) (hown : s.vm.findClass RL = some m.cls) (hts : ∀ w ∈ wsL_order, w.before args s = true) (hlocks : meth.locks = false) (hK : KS D cy s) (hZ : ZZ a s s.heap) (htb : c.exceptionTable.toList = [(⟨0, 7, 8, 23⟩ : ExceptionTableEntry), (⟨0, 7, 13, 15⟩ : ExceptionTableEntry), (⟨0, 7, 18, 17⟩ : ExceptionTableEntry)]) (hfl : l.stackTraces = false) {out : Int32 × Mm} : ∀ (x1 : Int32) (x2 : Int32) (x3 : Int32) (M : Mm) (H : Heap) (locs : List Loc) (ls : Array Slot), HP D cy a M H → va_S (Aq a) s.heap H locs → lv_has ls 5 [(0, .ref (a + 0)), (1, .int x1), (2, .int x2), (3, .int x3)] → fL_order x1 x2 x3 M = some out → W p l e rL_order s m args below meth c H locs 0 0 (MQ below (QI D cy a out.1 out.2) args s 4 24 (Aq a)) (F0 m 0 ls []) := by
  intro x1 x2 x3 M H locs ls hw hS hl hf
  unfold fL_order at hf
  refine lv_aload_n hx hb dL_order_0 rfl (lv_at hl 0 rfl) ?_
  refine lv_iload_n hx hb dL_order_1 rfl (lv_at hl 1 rfl) ?_
  refine lv_iload_n hx hb dL_order_2 rfl (lv_at hl 2 rfl) ?_
  refine lv_iload_n hx hb dL_order_3 rfl (lv_at hl 3 rfl) ?_
  obtain ⟨o1, ho1, hf⟩ := ob hf
  refine rxCallI (vx_runV (As := [.int x1, .int x2, .int x3]) (rest := []) ⟨hx, hb, hml, hown, hts⟩ (ctX5_order (l := l) (D := D) (cy := cy) (a := a) hfl ho1) (cwV 3 hts gL_order_X5_order rfl rfl rfl (by decide +kernel) ⟨Nat.le_of_ble_eq_true rfl, Nat.le_of_ble_eq_true rfl⟩) (pV hK hZ hw hS (rRecv hK hw (Nat.le_of_ble_eq_true rfl) en_pipe rfl)) rfl rfl hl.1 rfl (lv_room (Nat.le_of_ble_eq_true rfl)) dL_order_4 ⟨Nat.le_of_ble_eq_true rfl, Nat.le_of_ble_eq_true rfl⟩) hS (fun ce q9 H locs hn hw hS h1 h2 h3 => ?_) (fun H locs hn hw hS => ?_)
  · have hf := iq hn hf
    by_cases c2 : o1.1 = 3
    · have hf := ip c2 hf
      rw [c2] at h3
      refine vx_catch (E := exN 3) (name := "java/lang/IndexOutOfBoundsException") (ce := ce) hown [] ⟨0, 7, 8, 23⟩ [⟨0, 7, 13, 15⟩, ⟨0, 7, 18, 17⟩] htb (fun z hz => nomatch hz) (by decide) (by decide) (hts _ kL_order_0) (va_Nw.use rfl (hK.2.2.2.1 "java/lang/IndexOutOfBoundsException" (by decide +kernel))) h1 h2 h3 ?_
      refine lv_astore (lv' := [(4, .ref q9), (0, .ref (a + 0)), (1, .int x1), (2, .int x2), (3, .int x3)]) hx hb dL_order_8 hl (Nat.le_of_ble_eq_true rfl) rfl (fun ls hl => ?_)
      refine lv_bipush (v := (-101 : Int32)) hx hb dL_order_10 (by decide) ?_
      obtain rfl := Option.some.inj hf
      refine W.widen (k := 4) (n := 24) (Nat.le_of_ble_eq_true rfl) (Nat.le_of_ble_eq_true rfl) ?_
      exact rIret hx hb hr hlocks hw hS dL_order_12
    · have hf := iq c2 hf
      by_cases c3 : o1.1 = 1
      · have hf := ip c3 hf
        rw [c3] at h3
        refine vx_catch (E := exN 1) (name := "java/lang/IllegalArgumentException") (ce := ce) hown [⟨0, 7, 8, 23⟩] ⟨0, 7, 13, 15⟩ [⟨0, 7, 18, 17⟩] htb (by intro z hz; simp only [List.mem_cons, List.not_mem_nil, or_false] at hz; subst hz; exact Or.inr ⟨by decide, "java/lang/IndexOutOfBoundsException", (hts _ kL_order_0), hK.2.2.2.2.2.2 ("java/lang/IllegalArgumentException", "java/lang/IndexOutOfBoundsException") (by decide +kernel)⟩) (by decide) (by decide) (hts _ kL_order_1) (va_Nw.use rfl (hK.2.2.2.1 "java/lang/IllegalArgumentException" (by decide +kernel))) h1 h2 h3 ?_
        refine lv_astore (lv' := [(4, .ref q9), (0, .ref (a + 0)), (1, .int x1), (2, .int x2), (3, .int x3)]) hx hb dL_order_13 hl (Nat.le_of_ble_eq_true rfl) rfl (fun ls hl => ?_)
        refine lv_bipush (v := (-102 : Int32)) hx hb dL_order_15 (by decide) ?_
        obtain rfl := Option.some.inj hf
        refine W.widen (k := 4) (n := 24) (Nat.le_of_ble_eq_true rfl) (Nat.le_of_ble_eq_true rfl) ?_
        exact rIret hx hb hr hlocks hw hS dL_order_17
      · have hf := iq c3 hf
        by_cases c4 : o1.1 = 2
        · have hf := ip c4 hf
          rw [c4] at h3
          refine vx_catch (E := exN 2) (name := "java/lang/IllegalStateException") (ce := ce) hown [⟨0, 7, 8, 23⟩, ⟨0, 7, 13, 15⟩] ⟨0, 7, 18, 17⟩ [] htb (by intro z hz; simp only [List.mem_cons, List.not_mem_nil, or_false] at hz; rcases hz with rfl | rfl; exact Or.inr ⟨by decide, "java/lang/IndexOutOfBoundsException", (hts _ kL_order_0), hK.2.2.2.2.2.2 ("java/lang/IllegalStateException", "java/lang/IndexOutOfBoundsException") (by decide +kernel)⟩; exact Or.inr ⟨by decide, "java/lang/IllegalArgumentException", (hts _ kL_order_1), hK.2.2.2.2.2.2 ("java/lang/IllegalStateException", "java/lang/IllegalArgumentException") (by decide +kernel)⟩) (by decide) (by decide) (hts _ kL_order_2) (va_Nw.use rfl (hK.2.2.2.1 "java/lang/IllegalStateException" (by decide +kernel))) h1 h2 h3 ?_
          refine lv_astore (lv' := [(4, .ref q9), (0, .ref (a + 0)), (1, .int x1), (2, .int x2), (3, .int x3)]) hx hb dL_order_18 hl (Nat.le_of_ble_eq_true rfl) rfl (fun ls hl => ?_)
          refine lv_bipush (v := (-103 : Int32)) hx hb dL_order_20 (by decide) ?_
          obtain rfl := Option.some.inj hf
          refine W.widen (k := 4) (n := 24) (Nat.le_of_ble_eq_true rfl) (Nat.le_of_ble_eq_true rfl) ?_
          exact rIret hx hb hr hlocks hw hS dL_order_22
        · have hf := iq c4 hf
          cases hf
  · have hf := ip hn hf
    obtain rfl := Option.some.inj hf
    exact rIret hx hb hr hlocks hw hS dL_order_7
set_option maxRecDepth 100000 in
set_option maxHeartbeats 4000000 in
theorem ctL_order {l : Launch} {D : va_G} {cy : Nat → ClassId} {a : Nat} (hfl : l.stackTraces = false) {x1 : Int32} {x2 : Int32} {x3 : Int32} {M : Mm} {out : Int32 × Mm} (hf : fL_order x1 x2 x3 M = some out) : Met l yL_order wsL_order rL_order (Pre D cy a M [.ref (a + 0), .int x1, .int x2, .int x3]) (QI D cy a out.1 out.2) 4 24 (Aq a) := by
  refine mOfWH (cc := cL_order) (maxL := 5) (ret := (some .int)) (hh := [(0, 7, 8, 23), (0, 7, 13, 15), (0, 7, 18, 17)]) (by decide +kernel) rfl ?_
  intro p e s m args below meth c s₁ B hml hv
  obtain ⟨rfl, hw, hK, hZ⟩ := hv
  have hS : va_S (Aq a) s.heap s.heap [] := va_S.rf
  have htb := vx_table (x := yL_order) (hh := [(0, 7, 8, 23), (0, 7, 13, 15), (0, 7, 18, 17)]) B (atoms_spec (ws := wsL_order) B.pre _ List.mem_cons_self)
  have hl := lv_entry ([.ref (a + 0), .int x1, .int x2, .int x3]) (n := 5) (Nat.le_of_ble_eq_true rfl)
  rw [lg_entry_eq]
  generalize (lg_sl ([.ref (a + 0), .int x1, .int x2, .int x3]) ++ List.replicate (5 - (lg_sl ([.ref (a + 0), .int x1, .int x2, .int x3])).length) Slot.unset).toArray = ls at hl ⊢
  exact bL_order_0 B.exec B.bytes B.returns hml (findClass_of_methodNamed B.named) (atoms_spec (ws := wsL_order) B.pre) B.notSynchronized hK hZ htb hfl _ _ _ _ _ _ _ hw hS hl hf
def rL_rate : Room := { frames := 8, cells := 1, slots := 6, locals := 135 }
noncomputable def fL_rate (x1 : Int32) (M : Mm) : Option (Int32 × Mm) := ((fX5_rate x1 M).bind fun o1 => if o1.1 = 0 then some (o1.2.1, o1.2.2) else (if o1.1 = 1 then some ((-102 : Int32), o1.2.2) else none))
set_option maxRecDepth 20000 in
theorem kL_rate_0 : Cond.classLink RL 15 "java/lang/IllegalArgumentException" ∈ wsL_rate := by decide +kernel
set_option maxRecDepth 100000 in
set_option maxHeartbeats 4000000 in
theorem bL_rate_0 {p : Program} {l : Launch} {e : Env} {s : State} {m : MethodId} {args : Array Value} {below : List Frame} {meth : Method} {c : Code} {D : va_G} {cy : Nat → ClassId} {a : Nat} (hx : p.tables.exec = Jvm.exec) (hb : c.code = cL_rate) (hr : meth.sig.returnType = (some .int)) (hml : c.maxLocals = 3) (hown : s.vm.findClass RL = some m.cls) (hts : ∀ w ∈ wsL_rate, w.before args s = true) (hlocks : meth.locks = false) (hK : KS D cy s) (hZ : ZZ a s s.heap) (htb : c.exceptionTable.toList = [(⟨0, 5, 6, 15⟩ : ExceptionTableEntry)]) (hfl : l.stackTraces = false) {out : Int32 × Mm} : ∀ (x1 : Int32) (M : Mm) (H : Heap) (locs : List Loc) (ls : Array Slot), HP D cy a M H → va_S (Aq a) s.heap H locs → lv_has ls 3 [(0, .ref (a + 0)), (1, .int x1)] → fL_rate x1 M = some out → W p l e rL_rate s m args below meth c H locs 0 0 (MQ below (QI D cy a out.1 out.2) args s 1 6 (Aq a)) (F0 m 0 ls []) := by
  intro x1 M H locs ls hw hS hl hf
  unfold fL_rate at hf
  refine lv_aload_n hx hb dL_rate_0 rfl (lv_at hl 0 rfl) ?_
  refine lv_iload_n hx hb dL_rate_1 rfl (lv_at hl 1 rfl) ?_
  obtain ⟨o1, ho1, hf⟩ := ob hf
  refine rxCallI (vx_runV (As := [.int x1]) (rest := []) ⟨hx, hb, hml, hown, hts⟩ (ctX5_rate (l := l) (D := D) (cy := cy) (a := a) hfl ho1) (cwV 1 hts gL_rate_X5_rate rfl rfl rfl (by decide +kernel) ⟨Nat.le_of_ble_eq_true rfl, Nat.le_of_ble_eq_true rfl⟩) (pV hK hZ hw hS (rRecv hK hw (Nat.le_of_ble_eq_true rfl) en_pipe rfl)) rfl rfl hl.1 rfl (lv_room (Nat.le_of_ble_eq_true rfl)) dL_rate_2 ⟨Nat.le_of_ble_eq_true rfl, Nat.le_of_ble_eq_true rfl⟩) hS (fun ce q9 H locs hn hw hS h1 h2 h3 => ?_) (fun H locs hn hw hS => ?_)
  · have hf := iq hn hf
    by_cases c2 : o1.1 = 1
    · have hf := ip c2 hf
      rw [c2] at h3
      refine vx_catch (E := exN 1) (name := "java/lang/IllegalArgumentException") (ce := ce) hown [] ⟨0, 5, 6, 15⟩ [] htb (fun z hz => nomatch hz) (by decide) (by decide) (hts _ kL_rate_0) (va_Nw.use rfl (hK.2.2.2.1 "java/lang/IllegalArgumentException" (by decide +kernel))) h1 h2 h3 ?_
      refine lv_astore_n (lv' := [(2, .ref q9), (0, .ref (a + 0)), (1, .int x1)]) hx hb dL_rate_6 rfl hl (Nat.le_of_ble_eq_true rfl) rfl (fun ls hl => ?_)
      refine lv_bipush (v := (-102 : Int32)) hx hb dL_rate_7 (by decide) ?_
      obtain rfl := Option.some.inj hf
      refine W.widen (k := 1) (n := 6) (Nat.le_of_ble_eq_true rfl) (Nat.le_of_ble_eq_true rfl) ?_
      exact rIret hx hb hr hlocks hw hS dL_rate_9
    · have hf := iq c2 hf
      cases hf
  · have hf := ip hn hf
    obtain rfl := Option.some.inj hf
    exact rIret hx hb hr hlocks hw hS dL_rate_5
set_option maxRecDepth 100000 in
set_option maxHeartbeats 4000000 in
theorem ctL_rate {l : Launch} {D : va_G} {cy : Nat → ClassId} {a : Nat} (hfl : l.stackTraces = false) {x1 : Int32} {M : Mm} {out : Int32 × Mm} (hf : fL_rate x1 M = some out) : Met l yL_rate wsL_rate rL_rate (Pre D cy a M [.ref (a + 0), .int x1]) (QI D cy a out.1 out.2) 1 6 (Aq a) := by
  refine mOfWH (cc := cL_rate) (maxL := 3) (ret := (some .int)) (hh := [(0, 5, 6, 15)]) (by decide +kernel) rfl ?_
  intro p e s m args below meth c s₁ B hml hv
  obtain ⟨rfl, hw, hK, hZ⟩ := hv
  have hS : va_S (Aq a) s.heap s.heap [] := va_S.rf
  have htb := vx_table (x := yL_rate) (hh := [(0, 5, 6, 15)]) B (atoms_spec (ws := wsL_rate) B.pre _ List.mem_cons_self)
  have hl := lv_entry ([.ref (a + 0), .int x1]) (n := 3) (Nat.le_of_ble_eq_true rfl)
  rw [lg_entry_eq]
  generalize (lg_sl ([.ref (a + 0), .int x1]) ++ List.replicate (3 - (lg_sl ([.ref (a + 0), .int x1])).length) Slot.unset).toArray = ls at hl ⊢
  exact bL_rate_0 B.exec B.bytes B.returns hml (findClass_of_methodNamed B.named) (atoms_spec (ws := wsL_rate) B.pre) B.notSynchronized hK hZ htb hfl _ _ _ _ _ hw hS hl hf
def rL_drop : Room := { frames := 9, cells := 3, slots := 18, locals := 156 }
noncomputable def fL_drop (x1 : Int32) (x2 : Int32) (x3 : Int32) (M : Mm) : Option (Int32 × Mm) := ((fX5_drop x1 x2 x3 M).bind fun o1 => if o1.1 = 0 then some ((0 : Int32), o1.2) else (if o1.1 = 3 then some ((-101 : Int32), o1.2) else (if o1.1 = 1 then some ((-102 : Int32), o1.2) else none)))
set_option maxRecDepth 20000 in
theorem kL_drop_0 : Cond.classLink RL 23 "java/lang/IndexOutOfBoundsException" ∈ wsL_drop := by decide +kernel
set_option maxRecDepth 20000 in
theorem kL_drop_1 : Cond.classLink RL 15 "java/lang/IllegalArgumentException" ∈ wsL_drop := by decide +kernel
set_option maxRecDepth 100000 in
set_option maxHeartbeats 4000000 in
theorem bL_drop_0 {p : Program} {l : Launch} {e : Env} {s : State} {m : MethodId} {args : Array Value} {below : List Frame} {meth : Method} {c : Code} {D : va_G} {cy : Nat → ClassId} {a : Nat} (hx : p.tables.exec = Jvm.exec) (hb : c.code = cL_drop) (hr : meth.sig.returnType = (some .int)) (hml : c.maxLocals = 5) (hown : s.vm.findClass RL = some m.cls) (hts : ∀ w ∈ wsL_drop, w.before args s = true) (hlocks : meth.locks = false) (hK : KS D cy s) (hZ : ZZ a s s.heap) (htb : c.exceptionTable.toList = [(⟨0, 8, 9, 23⟩ : ExceptionTableEntry), (⟨0, 8, 14, 15⟩ : ExceptionTableEntry)]) (hfl : l.stackTraces = false) {out : Int32 × Mm} : ∀ (x1 : Int32) (x2 : Int32) (x3 : Int32) (M : Mm) (H : Heap) (locs : List Loc) (ls : Array Slot), HP D cy a M H → va_S (Aq a) s.heap H locs → lv_has ls 5 [(0, .ref (a + 0)), (1, .int x1), (2, .int x2), (3, .int x3)] → fL_drop x1 x2 x3 M = some out → W p l e rL_drop s m args below meth c H locs 0 0 (MQ below (QI D cy a out.1 out.2) args s 3 18 (Aq a)) (F0 m 0 ls []) := by
  intro x1 x2 x3 M H locs ls hw hS hl hf
  unfold fL_drop at hf
  refine lv_aload_n hx hb dL_drop_0 rfl (lv_at hl 0 rfl) ?_
  refine lv_iload_n hx hb dL_drop_1 rfl (lv_at hl 1 rfl) ?_
  refine lv_iload_n hx hb dL_drop_2 rfl (lv_at hl 2 rfl) ?_
  refine lv_iload_n hx hb dL_drop_3 rfl (lv_at hl 3 rfl) ?_
  obtain ⟨o1, ho1, hf⟩ := ob hf
  refine rxCallV (vx_runV (As := [.int x1, .int x2, .int x3]) (rest := []) ⟨hx, hb, hml, hown, hts⟩ (ctX5_drop (l := l) (D := D) (cy := cy) (a := a) hfl ho1) (cwV 3 hts gL_drop_X5_drop rfl rfl rfl (by decide +kernel) ⟨Nat.le_of_ble_eq_true rfl, Nat.le_of_ble_eq_true rfl⟩) (pV hK hZ hw hS (rRecv hK hw (Nat.le_of_ble_eq_true rfl) en_pipe rfl)) rfl rfl hl.1 rfl (lv_room (Nat.le_of_ble_eq_true rfl)) dL_drop_4 ⟨Nat.le_of_ble_eq_true rfl, Nat.le_of_ble_eq_true rfl⟩) hS (fun ce q9 H locs hn hw hS h1 h2 h3 => ?_) (fun H locs hn hw hS => ?_)
  · have hf := iq hn hf
    by_cases c2 : o1.1 = 3
    · have hf := ip c2 hf
      rw [c2] at h3
      refine vx_catch (E := exN 3) (name := "java/lang/IndexOutOfBoundsException") (ce := ce) hown [] ⟨0, 8, 9, 23⟩ [⟨0, 8, 14, 15⟩] htb (fun z hz => nomatch hz) (by decide) (by decide) (hts _ kL_drop_0) (va_Nw.use rfl (hK.2.2.2.1 "java/lang/IndexOutOfBoundsException" (by decide +kernel))) h1 h2 h3 ?_
      refine lv_astore (lv' := [(4, .ref q9), (0, .ref (a + 0)), (1, .int x1), (2, .int x2), (3, .int x3)]) hx hb dL_drop_9 hl (Nat.le_of_ble_eq_true rfl) rfl (fun ls hl => ?_)
      refine lv_bipush (v := (-101 : Int32)) hx hb dL_drop_11 (by decide) ?_
      obtain rfl := Option.some.inj hf
      refine W.widen (k := 3) (n := 18) (Nat.le_of_ble_eq_true rfl) (Nat.le_of_ble_eq_true rfl) ?_
      exact rIret hx hb hr hlocks hw hS dL_drop_13
    · have hf := iq c2 hf
      by_cases c3 : o1.1 = 1
      · have hf := ip c3 hf
        rw [c3] at h3
        refine vx_catch (E := exN 1) (name := "java/lang/IllegalArgumentException") (ce := ce) hown [⟨0, 8, 9, 23⟩] ⟨0, 8, 14, 15⟩ [] htb (by intro z hz; simp only [List.mem_cons, List.not_mem_nil, or_false] at hz; subst hz; exact Or.inr ⟨by decide, "java/lang/IndexOutOfBoundsException", (hts _ kL_drop_0), hK.2.2.2.2.2.2 ("java/lang/IllegalArgumentException", "java/lang/IndexOutOfBoundsException") (by decide +kernel)⟩) (by decide) (by decide) (hts _ kL_drop_1) (va_Nw.use rfl (hK.2.2.2.1 "java/lang/IllegalArgumentException" (by decide +kernel))) h1 h2 h3 ?_
        refine lv_astore (lv' := [(4, .ref q9), (0, .ref (a + 0)), (1, .int x1), (2, .int x2), (3, .int x3)]) hx hb dL_drop_14 hl (Nat.le_of_ble_eq_true rfl) rfl (fun ls hl => ?_)
        refine lv_bipush (v := (-102 : Int32)) hx hb dL_drop_16 (by decide) ?_
        obtain rfl := Option.some.inj hf
        refine W.widen (k := 3) (n := 18) (Nat.le_of_ble_eq_true rfl) (Nat.le_of_ble_eq_true rfl) ?_
        exact rIret hx hb hr hlocks hw hS dL_drop_18
      · have hf := iq c3 hf
        cases hf
  · have hf := ip hn hf
    refine lv_iconst (v := (0 : Int32)) hx hb dL_drop_7 (by decide) ?_
    obtain rfl := Option.some.inj hf
    exact rIret hx hb hr hlocks hw hS dL_drop_8
set_option maxRecDepth 100000 in
set_option maxHeartbeats 4000000 in
theorem ctL_drop {l : Launch} {D : va_G} {cy : Nat → ClassId} {a : Nat} (hfl : l.stackTraces = false) {x1 : Int32} {x2 : Int32} {x3 : Int32} {M : Mm} {out : Int32 × Mm} (hf : fL_drop x1 x2 x3 M = some out) : Met l yL_drop wsL_drop rL_drop (Pre D cy a M [.ref (a + 0), .int x1, .int x2, .int x3]) (QI D cy a out.1 out.2) 3 18 (Aq a) := by
  refine mOfWH (cc := cL_drop) (maxL := 5) (ret := (some .int)) (hh := [(0, 8, 9, 23), (0, 8, 14, 15)]) (by decide +kernel) rfl ?_
  intro p e s m args below meth c s₁ B hml hv
  obtain ⟨rfl, hw, hK, hZ⟩ := hv
  have hS : va_S (Aq a) s.heap s.heap [] := va_S.rf
  have htb := vx_table (x := yL_drop) (hh := [(0, 8, 9, 23), (0, 8, 14, 15)]) B (atoms_spec (ws := wsL_drop) B.pre _ List.mem_cons_self)
  have hl := lv_entry ([.ref (a + 0), .int x1, .int x2, .int x3]) (n := 5) (Nat.le_of_ble_eq_true rfl)
  rw [lg_entry_eq]
  generalize (lg_sl ([.ref (a + 0), .int x1, .int x2, .int x3]) ++ List.replicate (5 - (lg_sl ([.ref (a + 0), .int x1, .int x2, .int x3])).length) Slot.unset).toArray = ls at hl ⊢
  exact bL_drop_0 B.exec B.bytes B.returns hml (findClass_of_methodNamed B.named) (atoms_spec (ws := wsL_drop) B.pre) B.notSynchronized hK hZ htb hfl _ _ _ _ _ _ _ hw hS hl hf
def rL_leak : Room := { frames := 9, cells := 2, slots := 12, locals := 155 }
noncomputable def fL_leak (x1 : Int32) (x2 : Int32) (M : Mm) : Option (Int32 × Mm) := ((fX5_leak x1 x2 M).bind fun o1 => if o1.1 = 0 then some ((0 : Int32), o1.2) else (if o1.1 = 3 then some ((-101 : Int32), o1.2) else (if o1.1 = 1 then some ((-102 : Int32), o1.2) else none)))
set_option maxRecDepth 20000 in
theorem kL_leak_0 : Cond.classLink RL 23 "java/lang/IndexOutOfBoundsException" ∈ wsL_leak := by decide +kernel
set_option maxRecDepth 20000 in
theorem kL_leak_1 : Cond.classLink RL 15 "java/lang/IllegalArgumentException" ∈ wsL_leak := by decide +kernel
set_option maxRecDepth 100000 in
set_option maxHeartbeats 4000000 in
theorem bL_leak_0 {p : Program} {l : Launch} {e : Env} {s : State} {m : MethodId} {args : Array Value} {below : List Frame} {meth : Method} {c : Code} {D : va_G} {cy : Nat → ClassId} {a : Nat} (hx : p.tables.exec = Jvm.exec) (hb : c.code = cL_leak) (hr : meth.sig.returnType = (some .int)) (hml : c.maxLocals = 4) (hown : s.vm.findClass RL = some m.cls) (hts : ∀ w ∈ wsL_leak, w.before args s = true) (hlocks : meth.locks = false) (hK : KS D cy s) (hZ : ZZ a s s.heap) (htb : c.exceptionTable.toList = [(⟨0, 7, 8, 23⟩ : ExceptionTableEntry), (⟨0, 7, 12, 15⟩ : ExceptionTableEntry)]) (hfl : l.stackTraces = false) {out : Int32 × Mm} : ∀ (x1 : Int32) (x2 : Int32) (M : Mm) (H : Heap) (locs : List Loc) (ls : Array Slot), HP D cy a M H → va_S (Aq a) s.heap H locs → lv_has ls 4 [(0, .ref (a + 0)), (1, .int x1), (2, .int x2)] → fL_leak x1 x2 M = some out → W p l e rL_leak s m args below meth c H locs 0 0 (MQ below (QI D cy a out.1 out.2) args s 2 12 (Aq a)) (F0 m 0 ls []) := by
  intro x1 x2 M H locs ls hw hS hl hf
  unfold fL_leak at hf
  refine lv_aload_n hx hb dL_leak_0 rfl (lv_at hl 0 rfl) ?_
  refine lv_iload_n hx hb dL_leak_1 rfl (lv_at hl 1 rfl) ?_
  refine lv_iload_n hx hb dL_leak_2 rfl (lv_at hl 2 rfl) ?_
  obtain ⟨o1, ho1, hf⟩ := ob hf
  refine rxCallV (vx_runV (As := [.int x1, .int x2]) (rest := []) ⟨hx, hb, hml, hown, hts⟩ (ctX5_leak (l := l) (D := D) (cy := cy) (a := a) hfl ho1) (cwV 2 hts gL_leak_X5_leak rfl rfl rfl (by decide +kernel) ⟨Nat.le_of_ble_eq_true rfl, Nat.le_of_ble_eq_true rfl⟩) (pV hK hZ hw hS (rRecv hK hw (Nat.le_of_ble_eq_true rfl) en_pipe rfl)) rfl rfl hl.1 rfl (lv_room (Nat.le_of_ble_eq_true rfl)) dL_leak_3 ⟨Nat.le_of_ble_eq_true rfl, Nat.le_of_ble_eq_true rfl⟩) hS (fun ce q9 H locs hn hw hS h1 h2 h3 => ?_) (fun H locs hn hw hS => ?_)
  · have hf := iq hn hf
    by_cases c2 : o1.1 = 3
    · have hf := ip c2 hf
      rw [c2] at h3
      refine vx_catch (E := exN 3) (name := "java/lang/IndexOutOfBoundsException") (ce := ce) hown [] ⟨0, 7, 8, 23⟩ [⟨0, 7, 12, 15⟩] htb (fun z hz => nomatch hz) (by decide) (by decide) (hts _ kL_leak_0) (va_Nw.use rfl (hK.2.2.2.1 "java/lang/IndexOutOfBoundsException" (by decide +kernel))) h1 h2 h3 ?_
      refine lv_astore_n (lv' := [(3, .ref q9), (0, .ref (a + 0)), (1, .int x1), (2, .int x2)]) hx hb dL_leak_8 rfl hl (Nat.le_of_ble_eq_true rfl) rfl (fun ls hl => ?_)
      refine lv_bipush (v := (-101 : Int32)) hx hb dL_leak_9 (by decide) ?_
      obtain rfl := Option.some.inj hf
      refine W.widen (k := 2) (n := 12) (Nat.le_of_ble_eq_true rfl) (Nat.le_of_ble_eq_true rfl) ?_
      exact rIret hx hb hr hlocks hw hS dL_leak_11
    · have hf := iq c2 hf
      by_cases c3 : o1.1 = 1
      · have hf := ip c3 hf
        rw [c3] at h3
        refine vx_catch (E := exN 1) (name := "java/lang/IllegalArgumentException") (ce := ce) hown [⟨0, 7, 8, 23⟩] ⟨0, 7, 12, 15⟩ [] htb (by intro z hz; simp only [List.mem_cons, List.not_mem_nil, or_false] at hz; subst hz; exact Or.inr ⟨by decide, "java/lang/IndexOutOfBoundsException", (hts _ kL_leak_0), hK.2.2.2.2.2.2 ("java/lang/IllegalArgumentException", "java/lang/IndexOutOfBoundsException") (by decide +kernel)⟩) (by decide) (by decide) (hts _ kL_leak_1) (va_Nw.use rfl (hK.2.2.2.1 "java/lang/IllegalArgumentException" (by decide +kernel))) h1 h2 h3 ?_
        refine lv_astore_n (lv' := [(3, .ref q9), (0, .ref (a + 0)), (1, .int x1), (2, .int x2)]) hx hb dL_leak_12 rfl hl (Nat.le_of_ble_eq_true rfl) rfl (fun ls hl => ?_)
        refine lv_bipush (v := (-102 : Int32)) hx hb dL_leak_13 (by decide) ?_
        obtain rfl := Option.some.inj hf
        refine W.widen (k := 2) (n := 12) (Nat.le_of_ble_eq_true rfl) (Nat.le_of_ble_eq_true rfl) ?_
        exact rIret hx hb hr hlocks hw hS dL_leak_15
      · have hf := iq c3 hf
        cases hf
  · have hf := ip hn hf
    refine lv_iconst (v := (0 : Int32)) hx hb dL_leak_6 (by decide) ?_
    obtain rfl := Option.some.inj hf
    exact rIret hx hb hr hlocks hw hS dL_leak_7
set_option maxRecDepth 100000 in
set_option maxHeartbeats 4000000 in
theorem ctL_leak {l : Launch} {D : va_G} {cy : Nat → ClassId} {a : Nat} (hfl : l.stackTraces = false) {x1 : Int32} {x2 : Int32} {M : Mm} {out : Int32 × Mm} (hf : fL_leak x1 x2 M = some out) : Met l yL_leak wsL_leak rL_leak (Pre D cy a M [.ref (a + 0), .int x1, .int x2]) (QI D cy a out.1 out.2) 2 12 (Aq a) := by
  refine mOfWH (cc := cL_leak) (maxL := 4) (ret := (some .int)) (hh := [(0, 7, 8, 23), (0, 7, 12, 15)]) (by decide +kernel) rfl ?_
  intro p e s m args below meth c s₁ B hml hv
  obtain ⟨rfl, hw, hK, hZ⟩ := hv
  have hS : va_S (Aq a) s.heap s.heap [] := va_S.rf
  have htb := vx_table (x := yL_leak) (hh := [(0, 7, 8, 23), (0, 7, 12, 15)]) B (atoms_spec (ws := wsL_leak) B.pre _ List.mem_cons_self)
  have hl := lv_entry ([.ref (a + 0), .int x1, .int x2]) (n := 4) (Nat.le_of_ble_eq_true rfl)
  rw [lg_entry_eq]
  generalize (lg_sl ([.ref (a + 0), .int x1, .int x2]) ++ List.replicate (4 - (lg_sl ([.ref (a + 0), .int x1, .int x2])).length) Slot.unset).toArray = ls at hl ⊢
  exact bL_leak_0 B.exec B.bytes B.returns hml (findClass_of_methodNamed B.named) (atoms_spec (ws := wsL_leak) B.pre) B.notSynchronized hK hZ htb hfl _ _ _ _ _ _ hw hS hl hf
def rL_receive : Room := { frames := 8, cells := 1, slots := 6, locals := 134 }
noncomputable def fL_receive (x1 : Int32) (M : Mm) : Option (Int32 × Mm) := ((fX5_receive x1 M).bind fun o1 => if o1.1 = 0 then some (o1.2.1, o1.2.2) else (if o1.1 = 3 then some ((-101 : Int32), o1.2.2) else none))
set_option maxRecDepth 20000 in
theorem kL_receive_0 : Cond.classLink RL 23 "java/lang/IndexOutOfBoundsException" ∈ wsL_receive := by decide +kernel
set_option maxRecDepth 100000 in
set_option maxHeartbeats 4000000 in
theorem bL_receive_0 {p : Program} {l : Launch} {e : Env} {s : State} {m : MethodId} {args : Array Value} {below : List Frame} {meth : Method} {c : Code} {D : va_G} {cy : Nat → ClassId} {a : Nat} (hx : p.tables.exec = Jvm.exec) (hb : c.code = cL_receive) (hr : meth.sig.returnType = (some .int)) (hml : c.maxLocals = 3) (hown : s.vm.findClass RL = some m.cls) (hts : ∀ w ∈ wsL_receive, w.before args s = true) (hlocks : meth.locks = false) (hK : KS D cy s) (hZ : ZZ a s s.heap) (htb : c.exceptionTable.toList = [(⟨0, 5, 6, 23⟩ : ExceptionTableEntry)]) (hfl : l.stackTraces = false) {out : Int32 × Mm} : ∀ (x1 : Int32) (M : Mm) (H : Heap) (locs : List Loc) (ls : Array Slot), HP D cy a M H → va_S (Aq a) s.heap H locs → lv_has ls 3 [(0, .ref (a + 0)), (1, .int x1)] → fL_receive x1 M = some out → W p l e rL_receive s m args below meth c H locs 0 0 (MQ below (QI D cy a out.1 out.2) args s 1 6 (Aq a)) (F0 m 0 ls []) := by
  intro x1 M H locs ls hw hS hl hf
  unfold fL_receive at hf
  refine lv_aload_n hx hb dL_receive_0 rfl (lv_at hl 0 rfl) ?_
  refine lv_iload_n hx hb dL_receive_1 rfl (lv_at hl 1 rfl) ?_
  obtain ⟨o1, ho1, hf⟩ := ob hf
  refine rxCallI (vx_runV (As := [.int x1]) (rest := []) ⟨hx, hb, hml, hown, hts⟩ (ctX5_receive (l := l) (D := D) (cy := cy) (a := a) hfl ho1) (cwV 1 hts gL_receive_X5_receive rfl rfl rfl (by decide +kernel) ⟨Nat.le_of_ble_eq_true rfl, Nat.le_of_ble_eq_true rfl⟩) (pV hK hZ hw hS (rRecv hK hw (Nat.le_of_ble_eq_true rfl) en_pipe rfl)) rfl rfl hl.1 rfl (lv_room (Nat.le_of_ble_eq_true rfl)) dL_receive_2 ⟨Nat.le_of_ble_eq_true rfl, Nat.le_of_ble_eq_true rfl⟩) hS (fun ce q9 H locs hn hw hS h1 h2 h3 => ?_) (fun H locs hn hw hS => ?_)
  · have hf := iq hn hf
    by_cases c2 : o1.1 = 3
    · have hf := ip c2 hf
      rw [c2] at h3
      refine vx_catch (E := exN 3) (name := "java/lang/IndexOutOfBoundsException") (ce := ce) hown [] ⟨0, 5, 6, 23⟩ [] htb (fun z hz => nomatch hz) (by decide) (by decide) (hts _ kL_receive_0) (va_Nw.use rfl (hK.2.2.2.1 "java/lang/IndexOutOfBoundsException" (by decide +kernel))) h1 h2 h3 ?_
      refine lv_astore_n (lv' := [(2, .ref q9), (0, .ref (a + 0)), (1, .int x1)]) hx hb dL_receive_6 rfl hl (Nat.le_of_ble_eq_true rfl) rfl (fun ls hl => ?_)
      refine lv_bipush (v := (-101 : Int32)) hx hb dL_receive_7 (by decide) ?_
      obtain rfl := Option.some.inj hf
      refine W.widen (k := 1) (n := 6) (Nat.le_of_ble_eq_true rfl) (Nat.le_of_ble_eq_true rfl) ?_
      exact rIret hx hb hr hlocks hw hS dL_receive_9
    · have hf := iq c2 hf
      cases hf
  · have hf := ip hn hf
    obtain rfl := Option.some.inj hf
    exact rIret hx hb hr hlocks hw hS dL_receive_5
set_option maxRecDepth 100000 in
set_option maxHeartbeats 4000000 in
theorem ctL_receive {l : Launch} {D : va_G} {cy : Nat → ClassId} {a : Nat} (hfl : l.stackTraces = false) {x1 : Int32} {M : Mm} {out : Int32 × Mm} (hf : fL_receive x1 M = some out) : Met l yL_receive wsL_receive rL_receive (Pre D cy a M [.ref (a + 0), .int x1]) (QI D cy a out.1 out.2) 1 6 (Aq a) := by
  refine mOfWH (cc := cL_receive) (maxL := 3) (ret := (some .int)) (hh := [(0, 5, 6, 23)]) (by decide +kernel) rfl ?_
  intro p e s m args below meth c s₁ B hml hv
  obtain ⟨rfl, hw, hK, hZ⟩ := hv
  have hS : va_S (Aq a) s.heap s.heap [] := va_S.rf
  have htb := vx_table (x := yL_receive) (hh := [(0, 5, 6, 23)]) B (atoms_spec (ws := wsL_receive) B.pre _ List.mem_cons_self)
  have hl := lv_entry ([.ref (a + 0), .int x1]) (n := 3) (Nat.le_of_ble_eq_true rfl)
  rw [lg_entry_eq]
  generalize (lg_sl ([.ref (a + 0), .int x1]) ++ List.replicate (3 - (lg_sl ([.ref (a + 0), .int x1])).length) Slot.unset).toArray = ls at hl ⊢
  exact bL_receive_0 B.exec B.bytes B.returns hml (findClass_of_methodNamed B.named) (atoms_spec (ws := wsL_receive) B.pre) B.notSynchronized hK hZ htb hfl _ _ _ _ _ hw hS hl hf
def rL_empty : Room := { frames := 8, cells := 1, slots := 6, locals := 133 }
noncomputable def fL_empty (x1 : Int32) (M : Mm) : Option (Int32 × Mm) := ((fX5_empty x1 M).bind fun o1 => if o1.1 = 0 then some (o1.2.1, o1.2.2) else (if o1.1 = 3 then some ((-101 : Int32), o1.2.2) else none))
set_option maxRecDepth 20000 in
theorem kL_empty_0 : Cond.classLink RL 23 "java/lang/IndexOutOfBoundsException" ∈ wsL_empty := by decide +kernel
set_option maxRecDepth 100000 in
set_option maxHeartbeats 4000000 in
theorem bL_empty_0 {p : Program} {l : Launch} {e : Env} {s : State} {m : MethodId} {args : Array Value} {below : List Frame} {meth : Method} {c : Code} {D : va_G} {cy : Nat → ClassId} {a : Nat} (hx : p.tables.exec = Jvm.exec) (hb : c.code = cL_empty) (hr : meth.sig.returnType = (some .int)) (hml : c.maxLocals = 3) (hown : s.vm.findClass RL = some m.cls) (hts : ∀ w ∈ wsL_empty, w.before args s = true) (hlocks : meth.locks = false) (hK : KS D cy s) (hZ : ZZ a s s.heap) (htb : c.exceptionTable.toList = [(⟨0, 5, 6, 23⟩ : ExceptionTableEntry)]) (hfl : l.stackTraces = false) {out : Int32 × Mm} : ∀ (x1 : Int32) (M : Mm) (H : Heap) (locs : List Loc) (ls : Array Slot), HP D cy a M H → va_S (Aq a) s.heap H locs → lv_has ls 3 [(0, .ref (a + 0)), (1, .int x1)] → fL_empty x1 M = some out → W p l e rL_empty s m args below meth c H locs 0 0 (MQ below (QI D cy a out.1 out.2) args s 1 6 (Aq a)) (F0 m 0 ls []) := by
  intro x1 M H locs ls hw hS hl hf
  unfold fL_empty at hf
  refine lv_aload_n hx hb dL_empty_0 rfl (lv_at hl 0 rfl) ?_
  refine lv_iload_n hx hb dL_empty_1 rfl (lv_at hl 1 rfl) ?_
  obtain ⟨o1, ho1, hf⟩ := ob hf
  refine rxCallI (vx_runV (As := [.int x1]) (rest := []) ⟨hx, hb, hml, hown, hts⟩ (ctX5_empty (l := l) (D := D) (cy := cy) (a := a) hfl ho1) (cwV 1 hts gL_empty_X5_empty rfl rfl rfl (by decide +kernel) ⟨Nat.le_of_ble_eq_true rfl, Nat.le_of_ble_eq_true rfl⟩) (pV hK hZ hw hS (rRecv hK hw (Nat.le_of_ble_eq_true rfl) en_pipe rfl)) rfl rfl hl.1 rfl (lv_room (Nat.le_of_ble_eq_true rfl)) dL_empty_2 ⟨Nat.le_of_ble_eq_true rfl, Nat.le_of_ble_eq_true rfl⟩) hS (fun ce q9 H locs hn hw hS h1 h2 h3 => ?_) (fun H locs hn hw hS => ?_)
  · have hf := iq hn hf
    by_cases c2 : o1.1 = 3
    · have hf := ip c2 hf
      rw [c2] at h3
      refine vx_catch (E := exN 3) (name := "java/lang/IndexOutOfBoundsException") (ce := ce) hown [] ⟨0, 5, 6, 23⟩ [] htb (fun z hz => nomatch hz) (by decide) (by decide) (hts _ kL_empty_0) (va_Nw.use rfl (hK.2.2.2.1 "java/lang/IndexOutOfBoundsException" (by decide +kernel))) h1 h2 h3 ?_
      refine lv_astore_n (lv' := [(2, .ref q9), (0, .ref (a + 0)), (1, .int x1)]) hx hb dL_empty_6 rfl hl (Nat.le_of_ble_eq_true rfl) rfl (fun ls hl => ?_)
      refine lv_bipush (v := (-101 : Int32)) hx hb dL_empty_7 (by decide) ?_
      obtain rfl := Option.some.inj hf
      refine W.widen (k := 1) (n := 6) (Nat.le_of_ble_eq_true rfl) (Nat.le_of_ble_eq_true rfl) ?_
      exact rIret hx hb hr hlocks hw hS dL_empty_9
    · have hf := iq c2 hf
      cases hf
  · have hf := ip hn hf
    obtain rfl := Option.some.inj hf
    exact rIret hx hb hr hlocks hw hS dL_empty_5
set_option maxRecDepth 100000 in
set_option maxHeartbeats 4000000 in
theorem ctL_empty {l : Launch} {D : va_G} {cy : Nat → ClassId} {a : Nat} (hfl : l.stackTraces = false) {x1 : Int32} {M : Mm} {out : Int32 × Mm} (hf : fL_empty x1 M = some out) : Met l yL_empty wsL_empty rL_empty (Pre D cy a M [.ref (a + 0), .int x1]) (QI D cy a out.1 out.2) 1 6 (Aq a) := by
  refine mOfWH (cc := cL_empty) (maxL := 3) (ret := (some .int)) (hh := [(0, 5, 6, 23)]) (by decide +kernel) rfl ?_
  intro p e s m args below meth c s₁ B hml hv
  obtain ⟨rfl, hw, hK, hZ⟩ := hv
  have hS : va_S (Aq a) s.heap s.heap [] := va_S.rf
  have htb := vx_table (x := yL_empty) (hh := [(0, 5, 6, 23)]) B (atoms_spec (ws := wsL_empty) B.pre _ List.mem_cons_self)
  have hl := lv_entry ([.ref (a + 0), .int x1]) (n := 3) (Nat.le_of_ble_eq_true rfl)
  rw [lg_entry_eq]
  generalize (lg_sl ([.ref (a + 0), .int x1]) ++ List.replicate (3 - (lg_sl ([.ref (a + 0), .int x1])).length) Slot.unset).toArray = ls at hl ⊢
  exact bL_empty_0 B.exec B.bytes B.returns hml (findClass_of_methodNamed B.named) (atoms_spec (ws := wsL_empty) B.pre) B.notSynchronized hK hZ htb hfl _ _ _ _ _ hw hS hl hf
def rL_launch : Room := { frames := 7, cells := 1, slots := 6, locals := 110 }
noncomputable def fL_launch (M : Mm) : Option (Int32 × Mm) := ((fX5_launch M).bind fun o1 => if o1.1 = 0 then some ((0 : Int32), o1.2) else (if o1.1 = 2 then some ((-103 : Int32), o1.2) else none))
set_option maxRecDepth 20000 in
theorem kL_launch_0 : Cond.classLink RL 17 "java/lang/IllegalStateException" ∈ wsL_launch := by decide +kernel
set_option maxRecDepth 100000 in
set_option maxHeartbeats 4000000 in
theorem bL_launch_0 {p : Program} {l : Launch} {e : Env} {s : State} {m : MethodId} {args : Array Value} {below : List Frame} {meth : Method} {c : Code} {D : va_G} {cy : Nat → ClassId} {a : Nat} (hx : p.tables.exec = Jvm.exec) (hb : c.code = cL_launch) (hr : meth.sig.returnType = (some .int)) (hml : c.maxLocals = 2) (hown : s.vm.findClass RL = some m.cls) (hts : ∀ w ∈ wsL_launch, w.before args s = true) (hlocks : meth.locks = false) (hK : KS D cy s) (hZ : ZZ a s s.heap) (htb : c.exceptionTable.toList = [(⟨0, 5, 6, 17⟩ : ExceptionTableEntry)]) (hfl : l.stackTraces = false) {out : Int32 × Mm} : ∀ (M : Mm) (H : Heap) (locs : List Loc) (ls : Array Slot), HP D cy a M H → va_S (Aq a) s.heap H locs → lv_has ls 2 [(0, .ref (a + 0))] → fL_launch  M = some out → W p l e rL_launch s m args below meth c H locs 0 0 (MQ below (QI D cy a out.1 out.2) args s 1 6 (Aq a)) (F0 m 0 ls []) := by
  intro M H locs ls hw hS hl hf
  unfold fL_launch at hf
  refine lv_aload_n hx hb dL_launch_0 rfl (lv_at hl 0 rfl) ?_
  obtain ⟨o1, ho1, hf⟩ := ob hf
  refine rxCallV (vx_runV (As := []) (rest := []) ⟨hx, hb, hml, hown, hts⟩ (ctX5_launch (l := l) (D := D) (cy := cy) (a := a) hfl ho1) (cwV 0 hts gL_launch_X5_launch rfl rfl rfl (by decide +kernel) ⟨Nat.le_of_ble_eq_true rfl, Nat.le_of_ble_eq_true rfl⟩) (pV hK hZ hw hS (rRecv hK hw (Nat.le_of_ble_eq_true rfl) en_pipe rfl)) rfl rfl hl.1 rfl (lv_room (Nat.le_of_ble_eq_true rfl)) dL_launch_1 ⟨Nat.le_of_ble_eq_true rfl, Nat.le_of_ble_eq_true rfl⟩) hS (fun ce q9 H locs hn hw hS h1 h2 h3 => ?_) (fun H locs hn hw hS => ?_)
  · have hf := iq hn hf
    by_cases c2 : o1.1 = 2
    · have hf := ip c2 hf
      rw [c2] at h3
      refine vx_catch (E := exN 2) (name := "java/lang/IllegalStateException") (ce := ce) hown [] ⟨0, 5, 6, 17⟩ [] htb (fun z hz => nomatch hz) (by decide) (by decide) (hts _ kL_launch_0) (va_Nw.use rfl (hK.2.2.2.1 "java/lang/IllegalStateException" (by decide +kernel))) h1 h2 h3 ?_
      refine lv_astore_n (lv' := [(1, .ref q9), (0, .ref (a + 0))]) hx hb dL_launch_6 rfl hl (Nat.le_of_ble_eq_true rfl) rfl (fun ls hl => ?_)
      refine lv_bipush (v := (-103 : Int32)) hx hb dL_launch_7 (by decide) ?_
      obtain rfl := Option.some.inj hf
      refine W.widen (k := 1) (n := 6) (Nat.le_of_ble_eq_true rfl) (Nat.le_of_ble_eq_true rfl) ?_
      exact rIret hx hb hr hlocks hw hS dL_launch_9
    · have hf := iq c2 hf
      cases hf
  · have hf := ip hn hf
    refine lv_iconst (v := (0 : Int32)) hx hb dL_launch_4 (by decide) ?_
    obtain rfl := Option.some.inj hf
    exact rIret hx hb hr hlocks hw hS dL_launch_5
set_option maxRecDepth 100000 in
set_option maxHeartbeats 4000000 in
theorem ctL_launch {l : Launch} {D : va_G} {cy : Nat → ClassId} {a : Nat} (hfl : l.stackTraces = false) {M : Mm} {out : Int32 × Mm} (hf : fL_launch  M = some out) : Met l yL_launch wsL_launch rL_launch (Pre D cy a M [.ref (a + 0)]) (QI D cy a out.1 out.2) 1 6 (Aq a) := by
  refine mOfWH (cc := cL_launch) (maxL := 2) (ret := (some .int)) (hh := [(0, 5, 6, 17)]) (by decide +kernel) rfl ?_
  intro p e s m args below meth c s₁ B hml hv
  obtain ⟨rfl, hw, hK, hZ⟩ := hv
  have hS : va_S (Aq a) s.heap s.heap [] := va_S.rf
  have htb := vx_table (x := yL_launch) (hh := [(0, 5, 6, 17)]) B (atoms_spec (ws := wsL_launch) B.pre _ List.mem_cons_self)
  have hl := lv_entry ([.ref (a + 0)]) (n := 2) (Nat.le_of_ble_eq_true rfl)
  rw [lg_entry_eq]
  generalize (lg_sl ([.ref (a + 0)]) ++ List.replicate (2 - (lg_sl ([.ref (a + 0)])).length) Slot.unset).toArray = ls at hl ⊢
  exact bL_launch_0 B.exec B.bytes B.returns hml (findClass_of_methodNamed B.named) (atoms_spec (ws := wsL_launch) B.pre) B.notSynchronized hK hZ htb hfl _ _ _ _ hw hS hl hf
def rL_pass : Room := { frames := 8, cells := 2, slots := 12, locals := 159 }
noncomputable def fL_pass (x1 : Int32) (M : Mm) : Option (Int32 × Mm) := ((fX5_pass x1 M).bind fun o1 => if o1.1 = 0 then some (o1.2.1, o1.2.2) else (if o1.1 = 1 then some ((-102 : Int32), o1.2.2) else (if o1.1 = 2 then some ((-103 : Int32), o1.2.2) else none)))
set_option maxRecDepth 20000 in
theorem kL_pass_0 : Cond.classLink RL 15 "java/lang/IllegalArgumentException" ∈ wsL_pass := by decide +kernel
set_option maxRecDepth 20000 in
theorem kL_pass_1 : Cond.classLink RL 17 "java/lang/IllegalStateException" ∈ wsL_pass := by decide +kernel
set_option maxRecDepth 100000 in
set_option maxHeartbeats 4000000 in
theorem bL_pass_0 {p : Program} {l : Launch} {e : Env} {s : State} {m : MethodId} {args : Array Value} {below : List Frame} {meth : Method} {c : Code} {D : va_G} {cy : Nat → ClassId} {a : Nat} (hx : p.tables.exec = Jvm.exec) (hb : c.code = cL_pass) (hr : meth.sig.returnType = (some .int)) (hml : c.maxLocals = 3) (hown : s.vm.findClass RL = some m.cls) (hts : ∀ w ∈ wsL_pass, w.before args s = true) (hlocks : meth.locks = false) (hK : KS D cy s) (hZ : ZZ a s s.heap) (htb : c.exceptionTable.toList = [(⟨0, 5, 6, 15⟩ : ExceptionTableEntry), (⟨0, 5, 10, 17⟩ : ExceptionTableEntry)]) (hfl : l.stackTraces = false) {out : Int32 × Mm} : ∀ (x1 : Int32) (M : Mm) (H : Heap) (locs : List Loc) (ls : Array Slot), HP D cy a M H → va_S (Aq a) s.heap H locs → lv_has ls 3 [(0, .ref (a + 0)), (1, .int x1)] → fL_pass x1 M = some out → W p l e rL_pass s m args below meth c H locs 0 0 (MQ below (QI D cy a out.1 out.2) args s 2 12 (Aq a)) (F0 m 0 ls []) := by
  intro x1 M H locs ls hw hS hl hf
  unfold fL_pass at hf
  refine lv_aload_n hx hb dL_pass_0 rfl (lv_at hl 0 rfl) ?_
  refine lv_iload_n hx hb dL_pass_1 rfl (lv_at hl 1 rfl) ?_
  obtain ⟨o1, ho1, hf⟩ := ob hf
  refine rxCallI (vx_runV (As := [.int x1]) (rest := []) ⟨hx, hb, hml, hown, hts⟩ (ctX5_pass (l := l) (D := D) (cy := cy) (a := a) hfl ho1) (cwV 1 hts gL_pass_X5_pass rfl rfl rfl (by decide +kernel) ⟨Nat.le_of_ble_eq_true rfl, Nat.le_of_ble_eq_true rfl⟩) (pV hK hZ hw hS (rRecv hK hw (Nat.le_of_ble_eq_true rfl) en_pipe rfl)) rfl rfl hl.1 rfl (lv_room (Nat.le_of_ble_eq_true rfl)) dL_pass_2 ⟨Nat.le_of_ble_eq_true rfl, Nat.le_of_ble_eq_true rfl⟩) hS (fun ce q9 H locs hn hw hS h1 h2 h3 => ?_) (fun H locs hn hw hS => ?_)
  · have hf := iq hn hf
    by_cases c2 : o1.1 = 1
    · have hf := ip c2 hf
      rw [c2] at h3
      refine vx_catch (E := exN 1) (name := "java/lang/IllegalArgumentException") (ce := ce) hown [] ⟨0, 5, 6, 15⟩ [⟨0, 5, 10, 17⟩] htb (fun z hz => nomatch hz) (by decide) (by decide) (hts _ kL_pass_0) (va_Nw.use rfl (hK.2.2.2.1 "java/lang/IllegalArgumentException" (by decide +kernel))) h1 h2 h3 ?_
      refine lv_astore_n (lv' := [(2, .ref q9), (0, .ref (a + 0)), (1, .int x1)]) hx hb dL_pass_6 rfl hl (Nat.le_of_ble_eq_true rfl) rfl (fun ls hl => ?_)
      refine lv_bipush (v := (-102 : Int32)) hx hb dL_pass_7 (by decide) ?_
      obtain rfl := Option.some.inj hf
      refine W.widen (k := 2) (n := 12) (Nat.le_of_ble_eq_true rfl) (Nat.le_of_ble_eq_true rfl) ?_
      exact rIret hx hb hr hlocks hw hS dL_pass_9
    · have hf := iq c2 hf
      by_cases c3 : o1.1 = 2
      · have hf := ip c3 hf
        rw [c3] at h3
        refine vx_catch (E := exN 2) (name := "java/lang/IllegalStateException") (ce := ce) hown [⟨0, 5, 6, 15⟩] ⟨0, 5, 10, 17⟩ [] htb (by intro z hz; simp only [List.mem_cons, List.not_mem_nil, or_false] at hz; subst hz; exact Or.inr ⟨by decide, "java/lang/IllegalArgumentException", (hts _ kL_pass_0), hK.2.2.2.2.2.2 ("java/lang/IllegalStateException", "java/lang/IllegalArgumentException") (by decide +kernel)⟩) (by decide) (by decide) (hts _ kL_pass_1) (va_Nw.use rfl (hK.2.2.2.1 "java/lang/IllegalStateException" (by decide +kernel))) h1 h2 h3 ?_
        refine lv_astore_n (lv' := [(2, .ref q9), (0, .ref (a + 0)), (1, .int x1)]) hx hb dL_pass_10 rfl hl (Nat.le_of_ble_eq_true rfl) rfl (fun ls hl => ?_)
        refine lv_bipush (v := (-103 : Int32)) hx hb dL_pass_11 (by decide) ?_
        obtain rfl := Option.some.inj hf
        refine W.widen (k := 2) (n := 12) (Nat.le_of_ble_eq_true rfl) (Nat.le_of_ble_eq_true rfl) ?_
        exact rIret hx hb hr hlocks hw hS dL_pass_13
      · have hf := iq c3 hf
        cases hf
  · have hf := ip hn hf
    obtain rfl := Option.some.inj hf
    exact rIret hx hb hr hlocks hw hS dL_pass_5
set_option maxRecDepth 100000 in
set_option maxHeartbeats 4000000 in
theorem ctL_pass {l : Launch} {D : va_G} {cy : Nat → ClassId} {a : Nat} (hfl : l.stackTraces = false) {x1 : Int32} {M : Mm} {out : Int32 × Mm} (hf : fL_pass x1 M = some out) : Met l yL_pass wsL_pass rL_pass (Pre D cy a M [.ref (a + 0), .int x1]) (QI D cy a out.1 out.2) 2 12 (Aq a) := by
  refine mOfWH (cc := cL_pass) (maxL := 3) (ret := (some .int)) (hh := [(0, 5, 6, 15), (0, 5, 10, 17)]) (by decide +kernel) rfl ?_
  intro p e s m args below meth c s₁ B hml hv
  obtain ⟨rfl, hw, hK, hZ⟩ := hv
  have hS : va_S (Aq a) s.heap s.heap [] := va_S.rf
  have htb := vx_table (x := yL_pass) (hh := [(0, 5, 6, 15), (0, 5, 10, 17)]) B (atoms_spec (ws := wsL_pass) B.pre _ List.mem_cons_self)
  have hl := lv_entry ([.ref (a + 0), .int x1]) (n := 3) (Nat.le_of_ble_eq_true rfl)
  rw [lg_entry_eq]
  generalize (lg_sl ([.ref (a + 0), .int x1]) ++ List.replicate (3 - (lg_sl ([.ref (a + 0), .int x1])).length) Slot.unset).toArray = ls at hl ⊢
  exact bL_pass_0 B.exec B.bytes B.returns hml (findClass_of_methodNamed B.named) (atoms_spec (ws := wsL_pass) B.pre) B.notSynchronized hK hZ htb hfl _ _ _ _ _ hw hS hl hf
def rL_batch : Room := { frames := 8, cells := 2, slots := 12, locals := 136 }
noncomputable def fL_batch (x1 : Int32) (x2 : Int32) (M : Mm) : Option (Int32) := ((fX5_batch x1 x2 M).bind fun o1 => if o1.1 = 0 then some (o1.2) else (if o1.1 = 3 then some ((-101 : Int32)) else (if o1.1 = 1 then some ((-102 : Int32)) else none)))
set_option maxRecDepth 20000 in
theorem kL_batch_0 : Cond.classLink RL 23 "java/lang/IndexOutOfBoundsException" ∈ wsL_batch := by decide +kernel
set_option maxRecDepth 20000 in
theorem kL_batch_1 : Cond.classLink RL 15 "java/lang/IllegalArgumentException" ∈ wsL_batch := by decide +kernel
set_option maxRecDepth 100000 in
set_option maxHeartbeats 4000000 in
theorem bL_batch_0 {p : Program} {l : Launch} {e : Env} {s : State} {m : MethodId} {args : Array Value} {below : List Frame} {meth : Method} {c : Code} {D : va_G} {cy : Nat → ClassId} {a : Nat} (hx : p.tables.exec = Jvm.exec) (hb : c.code = cL_batch) (hr : meth.sig.returnType = (some .int)) (hml : c.maxLocals = 4) (hown : s.vm.findClass RL = some m.cls) (hts : ∀ w ∈ wsL_batch, w.before args s = true) (hlocks : meth.locks = false) (hK : KS D cy s) (hZ : ZZ a s s.heap) (htb : c.exceptionTable.toList = [(⟨0, 6, 7, 23⟩ : ExceptionTableEntry), (⟨0, 6, 11, 15⟩ : ExceptionTableEntry)]) (hfl : l.stackTraces = false) {out : Int32} : ∀ (x1 : Int32) (x2 : Int32) (M : Mm) (H : Heap) (locs : List Loc) (ls : Array Slot), HP D cy a M H → va_S (Aq a) s.heap H locs → lv_has ls 4 [(0, .ref (a + 0)), (1, .int x1), (2, .int x2)] → fL_batch x1 x2 M = some out → W p l e rL_batch s m args below meth c H locs 0 0 (MQ below (QI D cy a out M) args s 2 12 (Aq a)) (F0 m 0 ls []) := by
  intro x1 x2 M H locs ls hw hS hl hf
  unfold fL_batch at hf
  refine lv_aload_n hx hb dL_batch_0 rfl (lv_at hl 0 rfl) ?_
  refine lv_iload_n hx hb dL_batch_1 rfl (lv_at hl 1 rfl) ?_
  refine lv_iload_n hx hb dL_batch_2 rfl (lv_at hl 2 rfl) ?_
  obtain ⟨o1, ho1, hf⟩ := ob hf
  refine rxCallI (vx_runV (As := [.int x1, .int x2]) (rest := []) ⟨hx, hb, hml, hown, hts⟩ (ctX5_batch (l := l) (D := D) (cy := cy) (a := a) hfl ho1) (cwV 2 hts gL_batch_X5_batch rfl rfl rfl (by decide +kernel) ⟨Nat.le_of_ble_eq_true rfl, Nat.le_of_ble_eq_true rfl⟩) (pV hK hZ hw hS (rRecv hK hw (Nat.le_of_ble_eq_true rfl) en_pipe rfl)) rfl rfl hl.1 rfl (lv_room (Nat.le_of_ble_eq_true rfl)) dL_batch_3 ⟨Nat.le_of_ble_eq_true rfl, Nat.le_of_ble_eq_true rfl⟩) hS (fun ce q9 H locs hn hw hS h1 h2 h3 => ?_) (fun H locs hn hw hS => ?_)
  · have hf := iq hn hf
    by_cases c2 : o1.1 = 3
    · have hf := ip c2 hf
      rw [c2] at h3
      refine vx_catch (E := exN 3) (name := "java/lang/IndexOutOfBoundsException") (ce := ce) hown [] ⟨0, 6, 7, 23⟩ [⟨0, 6, 11, 15⟩] htb (fun z hz => nomatch hz) (by decide) (by decide) (hts _ kL_batch_0) (va_Nw.use rfl (hK.2.2.2.1 "java/lang/IndexOutOfBoundsException" (by decide +kernel))) h1 h2 h3 ?_
      refine lv_astore_n (lv' := [(3, .ref q9), (0, .ref (a + 0)), (1, .int x1), (2, .int x2)]) hx hb dL_batch_7 rfl hl (Nat.le_of_ble_eq_true rfl) rfl (fun ls hl => ?_)
      refine lv_bipush (v := (-101 : Int32)) hx hb dL_batch_8 (by decide) ?_
      obtain rfl := Option.some.inj hf
      refine W.widen (k := 2) (n := 12) (Nat.le_of_ble_eq_true rfl) (Nat.le_of_ble_eq_true rfl) ?_
      exact rIret hx hb hr hlocks hw hS dL_batch_10
    · have hf := iq c2 hf
      by_cases c3 : o1.1 = 1
      · have hf := ip c3 hf
        rw [c3] at h3
        refine vx_catch (E := exN 1) (name := "java/lang/IllegalArgumentException") (ce := ce) hown [⟨0, 6, 7, 23⟩] ⟨0, 6, 11, 15⟩ [] htb (by intro z hz; simp only [List.mem_cons, List.not_mem_nil, or_false] at hz; subst hz; exact Or.inr ⟨by decide, "java/lang/IndexOutOfBoundsException", (hts _ kL_batch_0), hK.2.2.2.2.2.2 ("java/lang/IllegalArgumentException", "java/lang/IndexOutOfBoundsException") (by decide +kernel)⟩) (by decide) (by decide) (hts _ kL_batch_1) (va_Nw.use rfl (hK.2.2.2.1 "java/lang/IllegalArgumentException" (by decide +kernel))) h1 h2 h3 ?_
        refine lv_astore_n (lv' := [(3, .ref q9), (0, .ref (a + 0)), (1, .int x1), (2, .int x2)]) hx hb dL_batch_11 rfl hl (Nat.le_of_ble_eq_true rfl) rfl (fun ls hl => ?_)
        refine lv_bipush (v := (-102 : Int32)) hx hb dL_batch_12 (by decide) ?_
        obtain rfl := Option.some.inj hf
        refine W.widen (k := 2) (n := 12) (Nat.le_of_ble_eq_true rfl) (Nat.le_of_ble_eq_true rfl) ?_
        exact rIret hx hb hr hlocks hw hS dL_batch_14
      · have hf := iq c3 hf
        cases hf
  · have hf := ip hn hf
    obtain rfl := Option.some.inj hf
    exact rIret hx hb hr hlocks hw hS dL_batch_6
set_option maxRecDepth 100000 in
set_option maxHeartbeats 4000000 in
theorem ctL_batch {l : Launch} {D : va_G} {cy : Nat → ClassId} {a : Nat} (hfl : l.stackTraces = false) {x1 : Int32} {x2 : Int32} {M : Mm} {out : Int32} (hf : fL_batch x1 x2 M = some out) : Met l yL_batch wsL_batch rL_batch (Pre D cy a M [.ref (a + 0), .int x1, .int x2]) (QI D cy a out M) 2 12 (Aq a) := by
  refine mOfWH (cc := cL_batch) (maxL := 4) (ret := (some .int)) (hh := [(0, 6, 7, 23), (0, 6, 11, 15)]) (by decide +kernel) rfl ?_
  intro p e s m args below meth c s₁ B hml hv
  obtain ⟨rfl, hw, hK, hZ⟩ := hv
  have hS : va_S (Aq a) s.heap s.heap [] := va_S.rf
  have htb := vx_table (x := yL_batch) (hh := [(0, 6, 7, 23), (0, 6, 11, 15)]) B (atoms_spec (ws := wsL_batch) B.pre _ List.mem_cons_self)
  have hl := lv_entry ([.ref (a + 0), .int x1, .int x2]) (n := 4) (Nat.le_of_ble_eq_true rfl)
  rw [lg_entry_eq]
  generalize (lg_sl ([.ref (a + 0), .int x1, .int x2]) ++ List.replicate (4 - (lg_sl ([.ref (a + 0), .int x1, .int x2])).length) Slot.unset).toArray = ls at hl ⊢
  exact bL_batch_0 B.exec B.bytes B.returns hml (findClass_of_methodNamed B.named) (atoms_spec (ws := wsL_batch) B.pre) B.notSynchronized hK hZ htb hfl _ _ _ _ _ _ hw hS hl hf
def rL_unit : Room := { frames := 8, cells := 1, slots := 6, locals := 134 }
noncomputable def fL_unit (x1 : Int32) (M : Mm) : Option (Int32) := ((fX5_unit x1 M).bind fun o1 => if o1.1 = 0 then some (o1.2) else (if o1.1 = 3 then some ((-101 : Int32)) else none))
set_option maxRecDepth 20000 in
theorem kL_unit_0 : Cond.classLink RL 23 "java/lang/IndexOutOfBoundsException" ∈ wsL_unit := by decide +kernel
set_option maxRecDepth 100000 in
set_option maxHeartbeats 4000000 in
theorem bL_unit_0 {p : Program} {l : Launch} {e : Env} {s : State} {m : MethodId} {args : Array Value} {below : List Frame} {meth : Method} {c : Code} {D : va_G} {cy : Nat → ClassId} {a : Nat} (hx : p.tables.exec = Jvm.exec) (hb : c.code = cL_unit) (hr : meth.sig.returnType = (some .int)) (hml : c.maxLocals = 3) (hown : s.vm.findClass RL = some m.cls) (hts : ∀ w ∈ wsL_unit, w.before args s = true) (hlocks : meth.locks = false) (hK : KS D cy s) (hZ : ZZ a s s.heap) (htb : c.exceptionTable.toList = [(⟨0, 5, 6, 23⟩ : ExceptionTableEntry)]) (hfl : l.stackTraces = false) {out : Int32} : ∀ (x1 : Int32) (M : Mm) (H : Heap) (locs : List Loc) (ls : Array Slot), HP D cy a M H → va_S (Aq a) s.heap H locs → lv_has ls 3 [(0, .ref (a + 0)), (1, .int x1)] → fL_unit x1 M = some out → W p l e rL_unit s m args below meth c H locs 0 0 (MQ below (QI D cy a out M) args s 1 6 (Aq a)) (F0 m 0 ls []) := by
  intro x1 M H locs ls hw hS hl hf
  unfold fL_unit at hf
  refine lv_aload_n hx hb dL_unit_0 rfl (lv_at hl 0 rfl) ?_
  refine lv_iload_n hx hb dL_unit_1 rfl (lv_at hl 1 rfl) ?_
  obtain ⟨o1, ho1, hf⟩ := ob hf
  refine rxCallI (vx_runV (As := [.int x1]) (rest := []) ⟨hx, hb, hml, hown, hts⟩ (ctX5_unit (l := l) (D := D) (cy := cy) (a := a) hfl ho1) (cwV 1 hts gL_unit_X5_unit rfl rfl rfl (by decide +kernel) ⟨Nat.le_of_ble_eq_true rfl, Nat.le_of_ble_eq_true rfl⟩) (pV hK hZ hw hS (rRecv hK hw (Nat.le_of_ble_eq_true rfl) en_pipe rfl)) rfl rfl hl.1 rfl (lv_room (Nat.le_of_ble_eq_true rfl)) dL_unit_2 ⟨Nat.le_of_ble_eq_true rfl, Nat.le_of_ble_eq_true rfl⟩) hS (fun ce q9 H locs hn hw hS h1 h2 h3 => ?_) (fun H locs hn hw hS => ?_)
  · have hf := iq hn hf
    by_cases c2 : o1.1 = 3
    · have hf := ip c2 hf
      rw [c2] at h3
      refine vx_catch (E := exN 3) (name := "java/lang/IndexOutOfBoundsException") (ce := ce) hown [] ⟨0, 5, 6, 23⟩ [] htb (fun z hz => nomatch hz) (by decide) (by decide) (hts _ kL_unit_0) (va_Nw.use rfl (hK.2.2.2.1 "java/lang/IndexOutOfBoundsException" (by decide +kernel))) h1 h2 h3 ?_
      refine lv_astore_n (lv' := [(2, .ref q9), (0, .ref (a + 0)), (1, .int x1)]) hx hb dL_unit_6 rfl hl (Nat.le_of_ble_eq_true rfl) rfl (fun ls hl => ?_)
      refine lv_bipush (v := (-101 : Int32)) hx hb dL_unit_7 (by decide) ?_
      obtain rfl := Option.some.inj hf
      refine W.widen (k := 1) (n := 6) (Nat.le_of_ble_eq_true rfl) (Nat.le_of_ble_eq_true rfl) ?_
      exact rIret hx hb hr hlocks hw hS dL_unit_9
    · have hf := iq c2 hf
      cases hf
  · have hf := ip hn hf
    obtain rfl := Option.some.inj hf
    exact rIret hx hb hr hlocks hw hS dL_unit_5
set_option maxRecDepth 100000 in
set_option maxHeartbeats 4000000 in
theorem ctL_unit {l : Launch} {D : va_G} {cy : Nat → ClassId} {a : Nat} (hfl : l.stackTraces = false) {x1 : Int32} {M : Mm} {out : Int32} (hf : fL_unit x1 M = some out) : Met l yL_unit wsL_unit rL_unit (Pre D cy a M [.ref (a + 0), .int x1]) (QI D cy a out M) 1 6 (Aq a) := by
  refine mOfWH (cc := cL_unit) (maxL := 3) (ret := (some .int)) (hh := [(0, 5, 6, 23)]) (by decide +kernel) rfl ?_
  intro p e s m args below meth c s₁ B hml hv
  obtain ⟨rfl, hw, hK, hZ⟩ := hv
  have hS : va_S (Aq a) s.heap s.heap [] := va_S.rf
  have htb := vx_table (x := yL_unit) (hh := [(0, 5, 6, 23)]) B (atoms_spec (ws := wsL_unit) B.pre _ List.mem_cons_self)
  have hl := lv_entry ([.ref (a + 0), .int x1]) (n := 3) (Nat.le_of_ble_eq_true rfl)
  rw [lg_entry_eq]
  generalize (lg_sl ([.ref (a + 0), .int x1]) ++ List.replicate (3 - (lg_sl ([.ref (a + 0), .int x1])).length) Slot.unset).toArray = ls at hl ⊢
  exact bL_unit_0 B.exec B.bytes B.returns hml (findClass_of_methodNamed B.named) (atoms_spec (ws := wsL_unit) B.pre) B.notSynchronized hK hZ htb hfl _ _ _ _ _ hw hS hl hf
def rL_unitAnew : Room := { frames := 8, cells := 1, slots := 6, locals := 134 }
noncomputable def fL_unitAnew (x1 : Int32) (M : Mm) : Option (Int32) := ((fX5_unitAnew x1 M).bind fun o1 => if o1.1 = 0 then some (o1.2) else (if o1.1 = 3 then some ((-101 : Int32)) else none))
set_option maxRecDepth 20000 in
theorem kL_unitAnew_0 : Cond.classLink RL 23 "java/lang/IndexOutOfBoundsException" ∈ wsL_unitAnew := by decide +kernel
set_option maxRecDepth 100000 in
set_option maxHeartbeats 4000000 in
theorem bL_unitAnew_0 {p : Program} {l : Launch} {e : Env} {s : State} {m : MethodId} {args : Array Value} {below : List Frame} {meth : Method} {c : Code} {D : va_G} {cy : Nat → ClassId} {a : Nat} (hx : p.tables.exec = Jvm.exec) (hb : c.code = cL_unitAnew) (hr : meth.sig.returnType = (some .int)) (hml : c.maxLocals = 3) (hown : s.vm.findClass RL = some m.cls) (hts : ∀ w ∈ wsL_unitAnew, w.before args s = true) (hlocks : meth.locks = false) (hK : KS D cy s) (hZ : ZZ a s s.heap) (htb : c.exceptionTable.toList = [(⟨0, 5, 6, 23⟩ : ExceptionTableEntry)]) (hfl : l.stackTraces = false) {out : Int32} : ∀ (x1 : Int32) (M : Mm) (H : Heap) (locs : List Loc) (ls : Array Slot), HP D cy a M H → va_S (Aq a) s.heap H locs → lv_has ls 3 [(0, .ref (a + 0)), (1, .int x1)] → fL_unitAnew x1 M = some out → W p l e rL_unitAnew s m args below meth c H locs 0 0 (MQ below (QI D cy a out M) args s 1 6 (Aq a)) (F0 m 0 ls []) := by
  intro x1 M H locs ls hw hS hl hf
  unfold fL_unitAnew at hf
  refine lv_aload_n hx hb dL_unitAnew_0 rfl (lv_at hl 0 rfl) ?_
  refine lv_iload_n hx hb dL_unitAnew_1 rfl (lv_at hl 1 rfl) ?_
  obtain ⟨o1, ho1, hf⟩ := ob hf
  refine rxCallI (vx_runV (As := [.int x1]) (rest := []) ⟨hx, hb, hml, hown, hts⟩ (ctX5_unitAnew (l := l) (D := D) (cy := cy) (a := a) hfl ho1) (cwV 1 hts gL_unitAnew_X5_unitAnew rfl rfl rfl (by decide +kernel) ⟨Nat.le_of_ble_eq_true rfl, Nat.le_of_ble_eq_true rfl⟩) (pV hK hZ hw hS (rRecv hK hw (Nat.le_of_ble_eq_true rfl) en_pipe rfl)) rfl rfl hl.1 rfl (lv_room (Nat.le_of_ble_eq_true rfl)) dL_unitAnew_2 ⟨Nat.le_of_ble_eq_true rfl, Nat.le_of_ble_eq_true rfl⟩) hS (fun ce q9 H locs hn hw hS h1 h2 h3 => ?_) (fun H locs hn hw hS => ?_)
  · have hf := iq hn hf
    by_cases c2 : o1.1 = 3
    · have hf := ip c2 hf
      rw [c2] at h3
      refine vx_catch (E := exN 3) (name := "java/lang/IndexOutOfBoundsException") (ce := ce) hown [] ⟨0, 5, 6, 23⟩ [] htb (fun z hz => nomatch hz) (by decide) (by decide) (hts _ kL_unitAnew_0) (va_Nw.use rfl (hK.2.2.2.1 "java/lang/IndexOutOfBoundsException" (by decide +kernel))) h1 h2 h3 ?_
      refine lv_astore_n (lv' := [(2, .ref q9), (0, .ref (a + 0)), (1, .int x1)]) hx hb dL_unitAnew_6 rfl hl (Nat.le_of_ble_eq_true rfl) rfl (fun ls hl => ?_)
      refine lv_bipush (v := (-101 : Int32)) hx hb dL_unitAnew_7 (by decide) ?_
      obtain rfl := Option.some.inj hf
      refine W.widen (k := 1) (n := 6) (Nat.le_of_ble_eq_true rfl) (Nat.le_of_ble_eq_true rfl) ?_
      exact rIret hx hb hr hlocks hw hS dL_unitAnew_9
    · have hf := iq c2 hf
      cases hf
  · have hf := ip hn hf
    obtain rfl := Option.some.inj hf
    exact rIret hx hb hr hlocks hw hS dL_unitAnew_5
set_option maxRecDepth 100000 in
set_option maxHeartbeats 4000000 in
theorem ctL_unitAnew {l : Launch} {D : va_G} {cy : Nat → ClassId} {a : Nat} (hfl : l.stackTraces = false) {x1 : Int32} {M : Mm} {out : Int32} (hf : fL_unitAnew x1 M = some out) : Met l yL_unitAnew wsL_unitAnew rL_unitAnew (Pre D cy a M [.ref (a + 0), .int x1]) (QI D cy a out M) 1 6 (Aq a) := by
  refine mOfWH (cc := cL_unitAnew) (maxL := 3) (ret := (some .int)) (hh := [(0, 5, 6, 23)]) (by decide +kernel) rfl ?_
  intro p e s m args below meth c s₁ B hml hv
  obtain ⟨rfl, hw, hK, hZ⟩ := hv
  have hS : va_S (Aq a) s.heap s.heap [] := va_S.rf
  have htb := vx_table (x := yL_unitAnew) (hh := [(0, 5, 6, 23)]) B (atoms_spec (ws := wsL_unitAnew) B.pre _ List.mem_cons_self)
  have hl := lv_entry ([.ref (a + 0), .int x1]) (n := 3) (Nat.le_of_ble_eq_true rfl)
  rw [lg_entry_eq]
  generalize (lg_sl ([.ref (a + 0), .int x1]) ++ List.replicate (3 - (lg_sl ([.ref (a + 0), .int x1])).length) Slot.unset).toArray = ls at hl ⊢
  exact bL_unitAnew_0 B.exec B.bytes B.returns hml (findClass_of_methodNamed B.named) (atoms_spec (ws := wsL_unitAnew) B.pre) B.notSynchronized hK hZ htb hfl _ _ _ _ _ hw hS hl hf
def rL_pressure : Room := { frames := 8, cells := 3, slots := 18, locals := 137 }
noncomputable def fL_pressure (x1 : Int32) (x2 : Int32) (M : Mm) : Option (Int32) := ((fX5_pressure x1 x2 M).bind fun o1 => if o1.1 = 0 then some (o1.2) else (if o1.1 = 3 then some ((-101 : Int32)) else (if o1.1 = 1 then some ((-102 : Int32)) else (if o1.1 = 2 then some ((-103 : Int32)) else none))))
set_option maxRecDepth 20000 in
theorem kL_pressure_0 : Cond.classLink RL 23 "java/lang/IndexOutOfBoundsException" ∈ wsL_pressure := by decide +kernel
set_option maxRecDepth 20000 in
theorem kL_pressure_1 : Cond.classLink RL 15 "java/lang/IllegalArgumentException" ∈ wsL_pressure := by decide +kernel
set_option maxRecDepth 20000 in
theorem kL_pressure_2 : Cond.classLink RL 17 "java/lang/IllegalStateException" ∈ wsL_pressure := by decide +kernel
set_option maxRecDepth 100000 in
set_option maxHeartbeats 4000000 in
theorem bL_pressure_0 {p : Program} {l : Launch} {e : Env} {s : State} {m : MethodId} {args : Array Value} {below : List Frame} {meth : Method} {c : Code} {D : va_G} {cy : Nat → ClassId} {a : Nat} (hx : p.tables.exec = Jvm.exec) (hb : c.code = cL_pressure) (hr : meth.sig.returnType = (some .int)) (hml : c.maxLocals = 4) (hown : s.vm.findClass RL = some m.cls) (hts : ∀ w ∈ wsL_pressure, w.before args s = true) (hlocks : meth.locks = false) (hK : KS D cy s) (hZ : ZZ a s s.heap) (htb : c.exceptionTable.toList = [(⟨0, 6, 7, 23⟩ : ExceptionTableEntry), (⟨0, 6, 11, 15⟩ : ExceptionTableEntry), (⟨0, 6, 15, 17⟩ : ExceptionTableEntry)]) (hfl : l.stackTraces = false) {out : Int32} : ∀ (x1 : Int32) (x2 : Int32) (M : Mm) (H : Heap) (locs : List Loc) (ls : Array Slot), HP D cy a M H → va_S (Aq a) s.heap H locs → lv_has ls 4 [(0, .ref (a + 0)), (1, .int x1), (2, .int x2)] → fL_pressure x1 x2 M = some out → W p l e rL_pressure s m args below meth c H locs 0 0 (MQ below (QI D cy a out M) args s 3 18 (Aq a)) (F0 m 0 ls []) := by
  intro x1 x2 M H locs ls hw hS hl hf
  unfold fL_pressure at hf
  refine lv_aload_n hx hb dL_pressure_0 rfl (lv_at hl 0 rfl) ?_
  refine lv_iload_n hx hb dL_pressure_1 rfl (lv_at hl 1 rfl) ?_
  refine lv_iload_n hx hb dL_pressure_2 rfl (lv_at hl 2 rfl) ?_
  obtain ⟨o1, ho1, hf⟩ := ob hf
  refine rxCallI (vx_runV (As := [.int x1, .int x2]) (rest := []) ⟨hx, hb, hml, hown, hts⟩ (ctX5_pressure (l := l) (D := D) (cy := cy) (a := a) hfl ho1) (cwV 2 hts gL_pressure_X5_pressure rfl rfl rfl (by decide +kernel) ⟨Nat.le_of_ble_eq_true rfl, Nat.le_of_ble_eq_true rfl⟩) (pV hK hZ hw hS (rRecv hK hw (Nat.le_of_ble_eq_true rfl) en_pipe rfl)) rfl rfl hl.1 rfl (lv_room (Nat.le_of_ble_eq_true rfl)) dL_pressure_3 ⟨Nat.le_of_ble_eq_true rfl, Nat.le_of_ble_eq_true rfl⟩) hS (fun ce q9 H locs hn hw hS h1 h2 h3 => ?_) (fun H locs hn hw hS => ?_)
  · have hf := iq hn hf
    by_cases c2 : o1.1 = 3
    · have hf := ip c2 hf
      rw [c2] at h3
      refine vx_catch (E := exN 3) (name := "java/lang/IndexOutOfBoundsException") (ce := ce) hown [] ⟨0, 6, 7, 23⟩ [⟨0, 6, 11, 15⟩, ⟨0, 6, 15, 17⟩] htb (fun z hz => nomatch hz) (by decide) (by decide) (hts _ kL_pressure_0) (va_Nw.use rfl (hK.2.2.2.1 "java/lang/IndexOutOfBoundsException" (by decide +kernel))) h1 h2 h3 ?_
      refine lv_astore_n (lv' := [(3, .ref q9), (0, .ref (a + 0)), (1, .int x1), (2, .int x2)]) hx hb dL_pressure_7 rfl hl (Nat.le_of_ble_eq_true rfl) rfl (fun ls hl => ?_)
      refine lv_bipush (v := (-101 : Int32)) hx hb dL_pressure_8 (by decide) ?_
      obtain rfl := Option.some.inj hf
      refine W.widen (k := 3) (n := 18) (Nat.le_of_ble_eq_true rfl) (Nat.le_of_ble_eq_true rfl) ?_
      exact rIret hx hb hr hlocks hw hS dL_pressure_10
    · have hf := iq c2 hf
      by_cases c3 : o1.1 = 1
      · have hf := ip c3 hf
        rw [c3] at h3
        refine vx_catch (E := exN 1) (name := "java/lang/IllegalArgumentException") (ce := ce) hown [⟨0, 6, 7, 23⟩] ⟨0, 6, 11, 15⟩ [⟨0, 6, 15, 17⟩] htb (by intro z hz; simp only [List.mem_cons, List.not_mem_nil, or_false] at hz; subst hz; exact Or.inr ⟨by decide, "java/lang/IndexOutOfBoundsException", (hts _ kL_pressure_0), hK.2.2.2.2.2.2 ("java/lang/IllegalArgumentException", "java/lang/IndexOutOfBoundsException") (by decide +kernel)⟩) (by decide) (by decide) (hts _ kL_pressure_1) (va_Nw.use rfl (hK.2.2.2.1 "java/lang/IllegalArgumentException" (by decide +kernel))) h1 h2 h3 ?_
        refine lv_astore_n (lv' := [(3, .ref q9), (0, .ref (a + 0)), (1, .int x1), (2, .int x2)]) hx hb dL_pressure_11 rfl hl (Nat.le_of_ble_eq_true rfl) rfl (fun ls hl => ?_)
        refine lv_bipush (v := (-102 : Int32)) hx hb dL_pressure_12 (by decide) ?_
        obtain rfl := Option.some.inj hf
        refine W.widen (k := 3) (n := 18) (Nat.le_of_ble_eq_true rfl) (Nat.le_of_ble_eq_true rfl) ?_
        exact rIret hx hb hr hlocks hw hS dL_pressure_14
      · have hf := iq c3 hf
        by_cases c4 : o1.1 = 2
        · have hf := ip c4 hf
          rw [c4] at h3
          refine vx_catch (E := exN 2) (name := "java/lang/IllegalStateException") (ce := ce) hown [⟨0, 6, 7, 23⟩, ⟨0, 6, 11, 15⟩] ⟨0, 6, 15, 17⟩ [] htb (by intro z hz; simp only [List.mem_cons, List.not_mem_nil, or_false] at hz; rcases hz with rfl | rfl; exact Or.inr ⟨by decide, "java/lang/IndexOutOfBoundsException", (hts _ kL_pressure_0), hK.2.2.2.2.2.2 ("java/lang/IllegalStateException", "java/lang/IndexOutOfBoundsException") (by decide +kernel)⟩; exact Or.inr ⟨by decide, "java/lang/IllegalArgumentException", (hts _ kL_pressure_1), hK.2.2.2.2.2.2 ("java/lang/IllegalStateException", "java/lang/IllegalArgumentException") (by decide +kernel)⟩) (by decide) (by decide) (hts _ kL_pressure_2) (va_Nw.use rfl (hK.2.2.2.1 "java/lang/IllegalStateException" (by decide +kernel))) h1 h2 h3 ?_
          refine lv_astore_n (lv' := [(3, .ref q9), (0, .ref (a + 0)), (1, .int x1), (2, .int x2)]) hx hb dL_pressure_15 rfl hl (Nat.le_of_ble_eq_true rfl) rfl (fun ls hl => ?_)
          refine lv_bipush (v := (-103 : Int32)) hx hb dL_pressure_16 (by decide) ?_
          obtain rfl := Option.some.inj hf
          refine W.widen (k := 3) (n := 18) (Nat.le_of_ble_eq_true rfl) (Nat.le_of_ble_eq_true rfl) ?_
          exact rIret hx hb hr hlocks hw hS dL_pressure_18
        · have hf := iq c4 hf
          cases hf
  · have hf := ip hn hf
    obtain rfl := Option.some.inj hf
    exact rIret hx hb hr hlocks hw hS dL_pressure_6
set_option maxRecDepth 100000 in
set_option maxHeartbeats 4000000 in
theorem ctL_pressure {l : Launch} {D : va_G} {cy : Nat → ClassId} {a : Nat} (hfl : l.stackTraces = false) {x1 : Int32} {x2 : Int32} {M : Mm} {out : Int32} (hf : fL_pressure x1 x2 M = some out) : Met l yL_pressure wsL_pressure rL_pressure (Pre D cy a M [.ref (a + 0), .int x1, .int x2]) (QI D cy a out M) 3 18 (Aq a) := by
  refine mOfWH (cc := cL_pressure) (maxL := 4) (ret := (some .int)) (hh := [(0, 6, 7, 23), (0, 6, 11, 15), (0, 6, 15, 17)]) (by decide +kernel) rfl ?_
  intro p e s m args below meth c s₁ B hml hv
  obtain ⟨rfl, hw, hK, hZ⟩ := hv
  have hS : va_S (Aq a) s.heap s.heap [] := va_S.rf
  have htb := vx_table (x := yL_pressure) (hh := [(0, 6, 7, 23), (0, 6, 11, 15), (0, 6, 15, 17)]) B (atoms_spec (ws := wsL_pressure) B.pre _ List.mem_cons_self)
  have hl := lv_entry ([.ref (a + 0), .int x1, .int x2]) (n := 4) (Nat.le_of_ble_eq_true rfl)
  rw [lg_entry_eq]
  generalize (lg_sl ([.ref (a + 0), .int x1, .int x2]) ++ List.replicate (4 - (lg_sl ([.ref (a + 0), .int x1, .int x2])).length) Slot.unset).toArray = ls at hl ⊢
  exact bL_pressure_0 B.exec B.bytes B.returns hml (findClass_of_methodNamed B.named) (atoms_spec (ws := wsL_pressure) B.pre) B.notSynchronized hK hZ htb hfl _ _ _ _ _ _ hw hS hl hf
def rL_tank : Room := { frames := 8, cells := 2, slots := 12, locals := 135 }
noncomputable def fL_tank (x1 : Int32) (x2 : Int32) (M : Mm) : Option (Int32) := ((fX5_tank x1 x2 M).bind fun o1 => if o1.1 = 0 then some (o1.2) else (if o1.1 = 3 then some ((-101 : Int32)) else (if o1.1 = 1 then some ((-102 : Int32)) else none)))
set_option maxRecDepth 20000 in
theorem kL_tank_0 : Cond.classLink RL 23 "java/lang/IndexOutOfBoundsException" ∈ wsL_tank := by decide +kernel
set_option maxRecDepth 20000 in
theorem kL_tank_1 : Cond.classLink RL 15 "java/lang/IllegalArgumentException" ∈ wsL_tank := by decide +kernel
set_option maxRecDepth 100000 in
set_option maxHeartbeats 4000000 in
theorem bL_tank_0 {p : Program} {l : Launch} {e : Env} {s : State} {m : MethodId} {args : Array Value} {below : List Frame} {meth : Method} {c : Code} {D : va_G} {cy : Nat → ClassId} {a : Nat} (hx : p.tables.exec = Jvm.exec) (hb : c.code = cL_tank) (hr : meth.sig.returnType = (some .int)) (hml : c.maxLocals = 4) (hown : s.vm.findClass RL = some m.cls) (hts : ∀ w ∈ wsL_tank, w.before args s = true) (hlocks : meth.locks = false) (hK : KS D cy s) (hZ : ZZ a s s.heap) (htb : c.exceptionTable.toList = [(⟨0, 6, 7, 23⟩ : ExceptionTableEntry), (⟨0, 6, 11, 15⟩ : ExceptionTableEntry)]) (hfl : l.stackTraces = false) {out : Int32} : ∀ (x1 : Int32) (x2 : Int32) (M : Mm) (H : Heap) (locs : List Loc) (ls : Array Slot), HP D cy a M H → va_S (Aq a) s.heap H locs → lv_has ls 4 [(0, .ref (a + 0)), (1, .int x1), (2, .int x2)] → fL_tank x1 x2 M = some out → W p l e rL_tank s m args below meth c H locs 0 0 (MQ below (QI D cy a out M) args s 2 12 (Aq a)) (F0 m 0 ls []) := by
  intro x1 x2 M H locs ls hw hS hl hf
  unfold fL_tank at hf
  refine lv_aload_n hx hb dL_tank_0 rfl (lv_at hl 0 rfl) ?_
  refine lv_iload_n hx hb dL_tank_1 rfl (lv_at hl 1 rfl) ?_
  refine lv_iload_n hx hb dL_tank_2 rfl (lv_at hl 2 rfl) ?_
  obtain ⟨o1, ho1, hf⟩ := ob hf
  refine rxCallI (vx_runV (As := [.int x1, .int x2]) (rest := []) ⟨hx, hb, hml, hown, hts⟩ (ctX5_tank (l := l) (D := D) (cy := cy) (a := a) hfl ho1) (cwV 2 hts gL_tank_X5_tank rfl rfl rfl (by decide +kernel) ⟨Nat.le_of_ble_eq_true rfl, Nat.le_of_ble_eq_true rfl⟩) (pV hK hZ hw hS (rRecv hK hw (Nat.le_of_ble_eq_true rfl) en_pipe rfl)) rfl rfl hl.1 rfl (lv_room (Nat.le_of_ble_eq_true rfl)) dL_tank_3 ⟨Nat.le_of_ble_eq_true rfl, Nat.le_of_ble_eq_true rfl⟩) hS (fun ce q9 H locs hn hw hS h1 h2 h3 => ?_) (fun H locs hn hw hS => ?_)
  · have hf := iq hn hf
    by_cases c2 : o1.1 = 3
    · have hf := ip c2 hf
      rw [c2] at h3
      refine vx_catch (E := exN 3) (name := "java/lang/IndexOutOfBoundsException") (ce := ce) hown [] ⟨0, 6, 7, 23⟩ [⟨0, 6, 11, 15⟩] htb (fun z hz => nomatch hz) (by decide) (by decide) (hts _ kL_tank_0) (va_Nw.use rfl (hK.2.2.2.1 "java/lang/IndexOutOfBoundsException" (by decide +kernel))) h1 h2 h3 ?_
      refine lv_astore_n (lv' := [(3, .ref q9), (0, .ref (a + 0)), (1, .int x1), (2, .int x2)]) hx hb dL_tank_7 rfl hl (Nat.le_of_ble_eq_true rfl) rfl (fun ls hl => ?_)
      refine lv_bipush (v := (-101 : Int32)) hx hb dL_tank_8 (by decide) ?_
      obtain rfl := Option.some.inj hf
      refine W.widen (k := 2) (n := 12) (Nat.le_of_ble_eq_true rfl) (Nat.le_of_ble_eq_true rfl) ?_
      exact rIret hx hb hr hlocks hw hS dL_tank_10
    · have hf := iq c2 hf
      by_cases c3 : o1.1 = 1
      · have hf := ip c3 hf
        rw [c3] at h3
        refine vx_catch (E := exN 1) (name := "java/lang/IllegalArgumentException") (ce := ce) hown [⟨0, 6, 7, 23⟩] ⟨0, 6, 11, 15⟩ [] htb (by intro z hz; simp only [List.mem_cons, List.not_mem_nil, or_false] at hz; subst hz; exact Or.inr ⟨by decide, "java/lang/IndexOutOfBoundsException", (hts _ kL_tank_0), hK.2.2.2.2.2.2 ("java/lang/IllegalArgumentException", "java/lang/IndexOutOfBoundsException") (by decide +kernel)⟩) (by decide) (by decide) (hts _ kL_tank_1) (va_Nw.use rfl (hK.2.2.2.1 "java/lang/IllegalArgumentException" (by decide +kernel))) h1 h2 h3 ?_
        refine lv_astore_n (lv' := [(3, .ref q9), (0, .ref (a + 0)), (1, .int x1), (2, .int x2)]) hx hb dL_tank_11 rfl hl (Nat.le_of_ble_eq_true rfl) rfl (fun ls hl => ?_)
        refine lv_bipush (v := (-102 : Int32)) hx hb dL_tank_12 (by decide) ?_
        obtain rfl := Option.some.inj hf
        refine W.widen (k := 2) (n := 12) (Nat.le_of_ble_eq_true rfl) (Nat.le_of_ble_eq_true rfl) ?_
        exact rIret hx hb hr hlocks hw hS dL_tank_14
      · have hf := iq c3 hf
        cases hf
  · have hf := ip hn hf
    obtain rfl := Option.some.inj hf
    exact rIret hx hb hr hlocks hw hS dL_tank_6
set_option maxRecDepth 100000 in
set_option maxHeartbeats 4000000 in
theorem ctL_tank {l : Launch} {D : va_G} {cy : Nat → ClassId} {a : Nat} (hfl : l.stackTraces = false) {x1 : Int32} {x2 : Int32} {M : Mm} {out : Int32} (hf : fL_tank x1 x2 M = some out) : Met l yL_tank wsL_tank rL_tank (Pre D cy a M [.ref (a + 0), .int x1, .int x2]) (QI D cy a out M) 2 12 (Aq a) := by
  refine mOfWH (cc := cL_tank) (maxL := 4) (ret := (some .int)) (hh := [(0, 6, 7, 23), (0, 6, 11, 15)]) (by decide +kernel) rfl ?_
  intro p e s m args below meth c s₁ B hml hv
  obtain ⟨rfl, hw, hK, hZ⟩ := hv
  have hS : va_S (Aq a) s.heap s.heap [] := va_S.rf
  have htb := vx_table (x := yL_tank) (hh := [(0, 6, 7, 23), (0, 6, 11, 15)]) B (atoms_spec (ws := wsL_tank) B.pre _ List.mem_cons_self)
  have hl := lv_entry ([.ref (a + 0), .int x1, .int x2]) (n := 4) (Nat.le_of_ble_eq_true rfl)
  rw [lg_entry_eq]
  generalize (lg_sl ([.ref (a + 0), .int x1, .int x2]) ++ List.replicate (4 - (lg_sl ([.ref (a + 0), .int x1, .int x2])).length) Slot.unset).toArray = ls at hl ⊢
  exact bL_tank_0 B.exec B.bytes B.returns hml (findClass_of_methodNamed B.named) (atoms_spec (ws := wsL_tank) B.pre) B.notSynchronized hK hZ htb hfl _ _ _ _ _ _ hw hS hl hf
