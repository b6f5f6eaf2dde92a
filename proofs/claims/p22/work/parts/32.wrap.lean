def rL_pipe : Room := { frames := 8, cells := 1, slots := 6, locals := 134 }
noncomputable def fL_pipe (x1 : Int32) (M : Mm) : Option (Int32) := ((fX5_pipe x1 M).bind fun o1 => if o1.1 = 0 then some (o1.2) else (if o1.1 = 1 then some ((-102 : Int32)) else none))
set_option maxRecDepth 20000 in
theorem kL_pipe_0 : Cond.classLink RL 15 "java/lang/IllegalArgumentException" ∈ wsL_pipe := by decide +kernel
set_option maxRecDepth 100000 in
set_option maxHeartbeats 4000000 in
theorem bL_pipe_0 {p : Program} {l : Launch} {e : Env} {s : State} {m : MethodId} {args : Array Value} {below : List Frame} {meth : Method} {c : Code} {D : va_G} {cy : Nat → ClassId} {a : Nat} (hx : p.tables.exec = Jvm.exec) (hb : c.code = cL_pipe) (hr : meth.sig.returnType = (some .int)) (hml : c.maxLocals = 3) (hown : s.vm.findClass RL = some m.cls) (hts : ∀ w ∈ wsL_pipe, w.before args s = true) (hlocks : meth.locks = false) (hK : KS D cy s) (hZ : ZZ a s s.heap) (htb : c.exceptionTable.toList = [(⟨0, 5, 6, 15⟩ : ExceptionTableEntry)]) (hfl : l.stackTraces = false) {out : Int32} : ∀ (x1 : Int32) (M : Mm) (H : Heap) (locs : List Loc) (ls : Array Slot), HP D cy a M H → va_S (Aq a) s.heap H locs → lv_has ls 3 [(0, .ref (a + 0)), (1, .int x1)] → fL_pipe x1 M = some out → W p l e rL_pipe s m args below meth c H locs 0 0 (MQ below (QI D cy a out M) args s 1 6 (Aq a)) (F0 m 0 ls []) := by
  intro x1 M H locs ls hw hS hl hf
  unfold fL_pipe at hf
  refine lv_aload_n hx hb dL_pipe_0 rfl (lv_at hl 0 rfl) ?_
  refine lv_iload_n hx hb dL_pipe_1 rfl (lv_at hl 1 rfl) ?_
  obtain ⟨o1, ho1, hf⟩ := ob hf
  refine rxCallI (vx_runV (As := [.int x1]) (rest := []) ⟨hx, hb, hml, hown, hts⟩ (ctX5_pipe (l := l) (D := D) (cy := cy) (a := a) hfl ho1) (cwV 1 hts gL_pipe_X5_pipe rfl rfl rfl (by decide +kernel) ⟨Nat.le_of_ble_eq_true rfl, Nat.le_of_ble_eq_true rfl⟩) (pV hK hZ hw hS (rRecv hK hw (Nat.le_of_ble_eq_true rfl) en_pipe rfl)) rfl rfl hl.1 rfl (lv_room (Nat.le_of_ble_eq_true rfl)) dL_pipe_2 ⟨Nat.le_of_ble_eq_true rfl, Nat.le_of_ble_eq_true rfl⟩) hS (fun ce q9 H locs hn hw hS h1 h2 h3 => ?_) (fun H locs hn hw hS => ?_)
  · have hf := iq hn hf
    by_cases c2 : o1.1 = 1
    · have hf := ip c2 hf
      rw [c2] at h3
      refine vx_catch (E := exN 1) (name := "java/lang/IllegalArgumentException") (ce := ce) hown [] ⟨0, 5, 6, 15⟩ [] htb (fun z hz => nomatch hz) (by decide) (by decide) (hts _ kL_pipe_0) (va_Nw.use rfl (hK.2.2.2.1 "java/lang/IllegalArgumentException" (by decide +kernel))) h1 h2 h3 ?_
      refine lv_astore_n (lv' := [(2, .ref q9), (0, .ref (a + 0)), (1, .int x1)]) hx hb dL_pipe_6 rfl hl (Nat.le_of_ble_eq_true rfl) rfl (fun ls hl => ?_)
      refine lv_bipush (v := (-102 : Int32)) hx hb dL_pipe_7 (by decide) ?_
      obtain rfl := Option.some.inj hf
      refine W.widen (k := 1) (n := 6) (Nat.le_of_ble_eq_true rfl) (Nat.le_of_ble_eq_true rfl) ?_
      exact rIret hx hb hr hlocks hw hS dL_pipe_9
    · have hf := iq c2 hf
      cases hf
  · have hf := ip hn hf
    obtain rfl := Option.some.inj hf
    exact rIret hx hb hr hlocks hw hS dL_pipe_5
set_option maxRecDepth 100000 in
set_option maxHeartbeats 4000000 in
theorem ctL_pipe {l : Launch} {D : va_G} {cy : Nat → ClassId} {a : Nat} (hfl : l.stackTraces = false) {x1 : Int32} {M : Mm} {out : Int32} (hf : fL_pipe x1 M = some out) : Met l yL_pipe wsL_pipe rL_pipe (Pre D cy a M [.ref (a + 0), .int x1]) (QI D cy a out M) 1 6 (Aq a) := by
  refine mOfWH (cc := cL_pipe) (maxL := 3) (ret := (some .int)) (hh := [(0, 5, 6, 15)]) (by decide +kernel) rfl ?_
  intro p e s m args below meth c s₁ B hml hv
  obtain ⟨rfl, hw, hK, hZ⟩ := hv
  have hS : va_S (Aq a) s.heap s.heap [] := va_S.rf
  have htb := vx_table (x := yL_pipe) (hh := [(0, 5, 6, 15)]) B (atoms_spec (ws := wsL_pipe) B.pre _ List.mem_cons_self)
  have hl := lv_entry ([.ref (a + 0), .int x1]) (n := 3) (Nat.le_of_ble_eq_true rfl)
  rw [lg_entry_eq]
  generalize (lg_sl ([.ref (a + 0), .int x1]) ++ List.replicate (3 - (lg_sl ([.ref (a + 0), .int x1])).length) Slot.unset).toArray = ls at hl ⊢
  exact bL_pipe_0 B.exec B.bytes B.returns hml (findClass_of_methodNamed B.named) (atoms_spec (ws := wsL_pipe) B.pre) B.notSynchronized hK hZ htb hfl _ _ _ _ _ hw hS hl hf
def rL_dirt : Room := { frames := 8, cells := 1, slots := 6, locals := 133 }
noncomputable def fL_dirt (x1 : Int32) (M : Mm) : Option (Int32) := ((fX5_dirt x1 M).bind fun o1 => if o1.1 = 0 then some (o1.2) else (if o1.1 = 3 then some ((-101 : Int32)) else none))
set_option maxRecDepth 20000 in
theorem kL_dirt_0 : Cond.classLink RL 23 "java/lang/IndexOutOfBoundsException" ∈ wsL_dirt := by decide +kernel
set_option maxRecDepth 100000 in
set_option maxHeartbeats 4000000 in
theorem bL_dirt_0 {p : Program} {l : Launch} {e : Env} {s : State} {m : MethodId} {args : Array Value} {below : List Frame} {meth : Method} {c : Code} {D : va_G} {cy : Nat → ClassId} {a : Nat} (hx : p.tables.exec = Jvm.exec) (hb : c.code = cL_dirt) (hr : meth.sig.returnType = (some .int)) (hml : c.maxLocals = 3) (hown : s.vm.findClass RL = some m.cls) (hts : ∀ w ∈ wsL_dirt, w.before args s = true) (hlocks : meth.locks = false) (hK : KS D cy s) (hZ : ZZ a s s.heap) (htb : c.exceptionTable.toList = [(⟨0, 5, 6, 23⟩ : ExceptionTableEntry)]) (hfl : l.stackTraces = false) {out : Int32} : ∀ (x1 : Int32) (M : Mm) (H : Heap) (locs : List Loc) (ls : Array Slot), HP D cy a M H → va_S (Aq a) s.heap H locs → lv_has ls 3 [(0, .ref (a + 0)), (1, .int x1)] → fL_dirt x1 M = some out → W p l e rL_dirt s m args below meth c H locs 0 0 (MQ below (QI D cy a out M) args s 1 6 (Aq a)) (F0 m 0 ls []) := by
  intro x1 M H locs ls hw hS hl hf
  unfold fL_dirt at hf
  refine lv_aload_n hx hb dL_dirt_0 rfl (lv_at hl 0 rfl) ?_
  refine lv_iload_n hx hb dL_dirt_1 rfl (lv_at hl 1 rfl) ?_
  obtain ⟨o1, ho1, hf⟩ := ob hf
  refine rxCallI (vx_runV (As := [.int x1]) (rest := []) ⟨hx, hb, hml, hown, hts⟩ (ctX5_dirt (l := l) (D := D) (cy := cy) (a := a) hfl ho1) (cwV 1 hts gL_dirt_X5_dirt rfl rfl rfl (by decide +kernel) ⟨Nat.le_of_ble_eq_true rfl, Nat.le_of_ble_eq_true rfl⟩) (pV hK hZ hw hS (rRecv hK hw (Nat.le_of_ble_eq_true rfl) en_pipe rfl)) rfl rfl hl.1 rfl (lv_room (Nat.le_of_ble_eq_true rfl)) dL_dirt_2 ⟨Nat.le_of_ble_eq_true rfl, Nat.le_of_ble_eq_true rfl⟩) hS (fun ce q9 H locs hn hw hS h1 h2 h3 => ?_) (fun H locs hn hw hS => ?_)
  · have hf := iq hn hf
    by_cases c2 : o1.1 = 3
    · have hf := ip c2 hf
      rw [c2] at h3
      refine vx_catch (E := exN 3) (name := "java/lang/IndexOutOfBoundsException") (ce := ce) hown [] ⟨0, 5, 6, 23⟩ [] htb (fun z hz => nomatch hz) (by decide) (by decide) (hts _ kL_dirt_0) (va_Nw.use rfl (hK.2.2.2.1 "java/lang/IndexOutOfBoundsException" (by decide +kernel))) h1 h2 h3 ?_
      refine lv_astore_n (lv' := [(2, .ref q9), (0, .ref (a + 0)), (1, .int x1)]) hx hb dL_dirt_6 rfl hl (Nat.le_of_ble_eq_true rfl) rfl (fun ls hl => ?_)
      refine lv_bipush (v := (-101 : Int32)) hx hb dL_dirt_7 (by decide) ?_
      obtain rfl := Option.some.inj hf
      refine W.widen (k := 1) (n := 6) (Nat.le_of_ble_eq_true rfl) (Nat.le_of_ble_eq_true rfl) ?_
      exact rIret hx hb hr hlocks hw hS dL_dirt_9
    · have hf := iq c2 hf
      cases hf
  · have hf := ip hn hf
    obtain rfl := Option.some.inj hf
    exact rIret hx hb hr hlocks hw hS dL_dirt_5
set_option maxRecDepth 100000 in
set_option maxHeartbeats 4000000 in
theorem ctL_dirt {l : Launch} {D : va_G} {cy : Nat → ClassId} {a : Nat} (hfl : l.stackTraces = false) {x1 : Int32} {M : Mm} {out : Int32} (hf : fL_dirt x1 M = some out) : Met l yL_dirt wsL_dirt rL_dirt (Pre D cy a M [.ref (a + 0), .int x1]) (QI D cy a out M) 1 6 (Aq a) := by
  refine mOfWH (cc := cL_dirt) (maxL := 3) (ret := (some .int)) (hh := [(0, 5, 6, 23)]) (by decide +kernel) rfl ?_
  intro p e s m args below meth c s₁ B hml hv
  obtain ⟨rfl, hw, hK, hZ⟩ := hv
  have hS : va_S (Aq a) s.heap s.heap [] := va_S.rf
  have htb := vx_table (x := yL_dirt) (hh := [(0, 5, 6, 23)]) B (atoms_spec (ws := wsL_dirt) B.pre _ List.mem_cons_self)
  have hl := lv_entry ([.ref (a + 0), .int x1]) (n := 3) (Nat.le_of_ble_eq_true rfl)
  rw [lg_entry_eq]
  generalize (lg_sl ([.ref (a + 0), .int x1]) ++ List.replicate (3 - (lg_sl ([.ref (a + 0), .int x1])).length) Slot.unset).toArray = ls at hl ⊢
  exact bL_dirt_0 B.exec B.bytes B.returns hml (findClass_of_methodNamed B.named) (atoms_spec (ws := wsL_dirt) B.pre) B.notSynchronized hK hZ htb hfl _ _ _ _ _ hw hS hl hf
def rL_share : Room := { frames := 8, cells := 2, slots := 12, locals := 138 }
noncomputable def fL_share (x1 : Int32) (x2 : Int32) (M : Mm) : Option (Int32) := ((fX5_share x1 x2 M).bind fun o1 => if o1.1 = 0 then some (o1.2) else (if o1.1 = 3 then some ((-101 : Int32)) else (if o1.1 = 1 then some ((-102 : Int32)) else none)))
set_option maxRecDepth 20000 in
theorem kL_share_0 : Cond.classLink RL 23 "java/lang/IndexOutOfBoundsException" ∈ wsL_share := by decide +kernel
set_option maxRecDepth 20000 in
theorem kL_share_1 : Cond.classLink RL 15 "java/lang/IllegalArgumentException" ∈ wsL_share := by decide +kernel
set_option maxRecDepth 100000 in
set_option maxHeartbeats 4000000 in
theorem bL_share_0 {p : Program} {l : Launch} {e : Env} {s : State} {m : MethodId} {args : Array Value} {below : List Frame} {meth : Method} {c : Code} {D : va_G} {cy : Nat → ClassId} {a : Nat} (hx : p.tables.exec = Jvm.exec) (hb : c.code = cL_share) (hr : meth.sig.returnType = (some .int)) (hml : c.maxLocals = 4) (hown : s.vm.findClass RL = some m.cls) (hts : ∀ w ∈ wsL_share, w.before args s = true) (hlocks : meth.locks = false) (hK : KS D cy s) (hZ : ZZ a s s.heap) (htb : c.exceptionTable.toList = [(⟨0, 6, 7, 23⟩ : ExceptionTableEntry), (⟨0, 6, 11, 15⟩ : ExceptionTableEntry)]) (hfl : l.stackTraces = false) {out : Int32} : ∀ (x1 : Int32) (x2 : Int32) (M : Mm) (H : Heap) (locs : List Loc) (ls : Array Slot), HP D cy a M H → va_S (Aq a) s.heap H locs → lv_has ls 4 [(0, .ref (a + 0)), (1, .int x1), (2, .int x2)] → fL_share x1 x2 M = some out → W p l e rL_share s m args below meth c H locs 0 0 (MQ below (QI D cy a out M) args s 2 12 (Aq a)) (F0 m 0 ls []) := by
  intro x1 x2 M H locs ls hw hS hl hf
  unfold fL_share at hf
  refine lv_aload_n hx hb dL_share_0 rfl (lv_at hl 0 rfl) ?_
  refine lv_iload_n hx hb dL_share_1 rfl (lv_at hl 1 rfl) ?_
  refine lv_iload_n hx hb dL_share_2 rfl (lv_at hl 2 rfl) ?_
  obtain ⟨o1, ho1, hf⟩ := ob hf
  refine rxCallI (vx_runV (As := [.int x1, .int x2]) (rest := []) ⟨hx, hb, hml, hown, hts⟩ (ctX5_share (l := l) (D := D) (cy := cy) (a := a) hfl ho1) (cwV 2 hts gL_share_X5_share rfl rfl rfl (by decide +kernel) ⟨Nat.le_of_ble_eq_true rfl, Nat.le_of_ble_eq_true rfl⟩) (pV hK hZ hw hS (rRecv hK hw (Nat.le_of_ble_eq_true rfl) en_pipe rfl)) rfl rfl hl.1 rfl (lv_room (Nat.le_of_ble_eq_true rfl)) dL_share_3 ⟨Nat.le_of_ble_eq_true rfl, Nat.le_of_ble_eq_true rfl⟩) hS (fun ce q9 H locs hn hw hS h1 h2 h3 => ?_) (fun H locs hn hw hS => ?_)
  · have hf := iq hn hf
    by_cases c2 : o1.1 = 3
    · have hf := ip c2 hf
      rw [c2] at h3
      refine vx_catch (E := exN 3) (name := "java/lang/IndexOutOfBoundsException") (ce := ce) hown [] ⟨0, 6, 7, 23⟩ [⟨0, 6, 11, 15⟩] htb (fun z hz => nomatch hz) (by decide) (by decide) (hts _ kL_share_0) (va_Nw.use rfl (hK.2.2.2.1 "java/lang/IndexOutOfBoundsException" (by decide +kernel))) h1 h2 h3 ?_
      refine lv_astore_n (lv' := [(3, .ref q9), (0, .ref (a + 0)), (1, .int x1), (2, .int x2)]) hx hb dL_share_7 rfl hl (Nat.le_of_ble_eq_true rfl) rfl (fun ls hl => ?_)
      refine lv_bipush (v := (-101 : Int32)) hx hb dL_share_8 (by decide) ?_
      obtain rfl := Option.some.inj hf
      refine W.widen (k := 2) (n := 12) (Nat.le_of_ble_eq_true rfl) (Nat.le_of_ble_eq_true rfl) ?_
      exact rIret hx hb hr hlocks hw hS dL_share_10
    · have hf := iq c2 hf
      by_cases c3 : o1.1 = 1
      · have hf := ip c3 hf
        rw [c3] at h3
        refine vx_catch (E := exN 1) (name := "java/lang/IllegalArgumentException") (ce := ce) hown [⟨0, 6, 7, 23⟩] ⟨0, 6, 11, 15⟩ [] htb (by intro z hz; simp only [List.mem_cons, List.not_mem_nil, or_false] at hz; subst hz; exact Or.inr ⟨by decide, "java/lang/IndexOutOfBoundsException", (hts _ kL_share_0), hK.2.2.2.2.2.2 ("java/lang/IllegalArgumentException", "java/lang/IndexOutOfBoundsException") (by decide +kernel)⟩) (by decide) (by decide) (hts _ kL_share_1) (va_Nw.use rfl (hK.2.2.2.1 "java/lang/IllegalArgumentException" (by decide +kernel))) h1 h2 h3 ?_
        refine lv_astore_n (lv' := [(3, .ref q9), (0, .ref (a + 0)), (1, .int x1), (2, .int x2)]) hx hb dL_share_11 rfl hl (Nat.le_of_ble_eq_true rfl) rfl (fun ls hl => ?_)
        refine lv_bipush (v := (-102 : Int32)) hx hb dL_share_12 (by decide) ?_
        obtain rfl := Option.some.inj hf
        refine W.widen (k := 2) (n := 12) (Nat.le_of_ble_eq_true rfl) (Nat.le_of_ble_eq_true rfl) ?_
        exact rIret hx hb hr hlocks hw hS dL_share_14
      · have hf := iq c3 hf
        cases hf
  · have hf := ip hn hf
    obtain rfl := Option.some.inj hf
    exact rIret hx hb hr hlocks hw hS dL_share_6
set_option maxRecDepth 100000 in
set_option maxHeartbeats 4000000 in
theorem ctL_share {l : Launch} {D : va_G} {cy : Nat → ClassId} {a : Nat} (hfl : l.stackTraces = false) {x1 : Int32} {x2 : Int32} {M : Mm} {out : Int32} (hf : fL_share x1 x2 M = some out) : Met l yL_share wsL_share rL_share (Pre D cy a M [.ref (a + 0), .int x1, .int x2]) (QI D cy a out M) 2 12 (Aq a) := by
  refine mOfWH (cc := cL_share) (maxL := 4) (ret := (some .int)) (hh := [(0, 6, 7, 23), (0, 6, 11, 15)]) (by decide +kernel) rfl ?_
  intro p e s m args below meth c s₁ B hml hv
  obtain ⟨rfl, hw, hK, hZ⟩ := hv
  have hS : va_S (Aq a) s.heap s.heap [] := va_S.rf
  have htb := vx_table (x := yL_share) (hh := [(0, 6, 7, 23), (0, 6, 11, 15)]) B (atoms_spec (ws := wsL_share) B.pre _ List.mem_cons_self)
  have hl := lv_entry ([.ref (a + 0), .int x1, .int x2]) (n := 4) (Nat.le_of_ble_eq_true rfl)
  rw [lg_entry_eq]
  generalize (lg_sl ([.ref (a + 0), .int x1, .int x2]) ++ List.replicate (4 - (lg_sl ([.ref (a + 0), .int x1, .int x2])).length) Slot.unset).toArray = ls at hl ⊢
  exact bL_share_0 B.exec B.bytes B.returns hml (findClass_of_methodNamed B.named) (atoms_spec (ws := wsL_share) B.pre) B.notSynchronized hK hZ htb hfl _ _ _ _ _ _ hw hS hl hf
