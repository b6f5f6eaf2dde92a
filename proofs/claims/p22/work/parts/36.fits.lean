def rL_fits : Room := { frames := 9, cells := 2624, slots := 15744, locals := 159 }
noncomputable def fL_fits_b320 (x2 : Int32) (x3 : Int32) (x4 : Int32) (x5 : Int32) (x6 : Int32) (x7 : Int32) (M : Mm) : Option (Int32) := (if x7 = 0 then some ((0 : Int32)) else (if x3 = x2 then (if x5 < x6 then some ((0 : Int32)) else (if x4 < x2 then some ((0 : Int32)) else ((fL_unit x2 M).bind fun o5 => (if o5 = (-1 : Int32) then ((fL_pipe (2 : Int32) M).bind fun o7 => ((fL_pipe (1 : Int32) M).bind fun o8 => (if o8 < (3 : Int32) then (if o7 = (0 : Int32) then some ((1 : Int32)) else some ((0 : Int32))) else (if o7 = (1 : Int32) then some ((1 : Int32)) else some ((0 : Int32)))))) else some ((0 : Int32)))))) else some ((0 : Int32))))
noncomputable def fL_fits_b292 (kL227 : Int32 → Int32 → Int32 → Int32 → Int32 → Int32 → Int32 → Mm → Option (Int32)) (x2 : Int32) (x3 : Int32) (x4 : Int32) (x5 : Int32) (x6 : Int32) (x8 : Int32) (x9 : Int32) (xs0 : Int32) (xs1 : Int32) (M : Mm) : Option (Int32) := (if xs0 = xs1 then ((fL_tank x8 (2 : Int32) M).bind fun o2 => (if x9 < o2 then kL227 x2 x3 x4 x5 x6 (0 : Int32) (x8 + (1 : Int32)) M else kL227 x2 x3 x4 x5 x6 (1 : Int32) (x8 + (1 : Int32)) M)) else kL227 x2 x3 x4 x5 x6 (0 : Int32) (x8 + (1 : Int32)) M)
noncomputable def fL_fits_b282 (kL227 : Int32 → Int32 → Int32 → Int32 → Int32 → Int32 → Int32 → Mm → Option (Int32)) (x2 : Int32) (x3 : Int32) (x4 : Int32) (x5 : Int32) (x6 : Int32) (x8 : Int32) (x9 : Int32) (xs0 : Int32) (M : Mm) : Option (Int32) := (if x9 = 0 then fL_fits_b292 kL227 x2 x3 x4 x5 x6 x8 x9 xs0 (1 : Int32) M else fL_fits_b292 kL227 x2 x3 x4 x5 x6 x8 x9 xs0 (0 : Int32) M)
noncomputable def fL_fits_L227 : Nat → Int32 → Int32 → Int32 → Int32 → Int32 → Int32 → Int32 → Mm → Option (Int32)
  | 0 => fun _ _ _ _ _ _ _ _ => none
  | n + 1 => fun x2 x3 x4 x5 x6 x7 x8 M => (if (4 : Int32) ≤ x8 then fL_fits_b320 x2 x3 x4 x5 x6 x7 M else (if x7 = 0 then fL_fits_b320 x2 x3 x4 x5 x6 x7 M else ((fL_tank x8 (0 : Int32) M).bind fun o3 => (if o3 < 0 then (fL_fits_L227 n) x2 x3 x4 x5 (x6 + o3) (0 : Int32) (x8 + (1 : Int32)) M else (if (100 : Int32) < o3 then (fL_fits_L227 n) x2 x3 x4 x5 (x6 + o3) (0 : Int32) (x8 + (1 : Int32)) M else ((fL_tank x8 (1 : Int32) M).bind fun o6 => (if o6 = (-1 : Int32) then fL_fits_b282 (fL_fits_L227 n) x2 x3 x4 x5 (x6 + o3) x8 o3 (1 : Int32) M else fL_fits_b282 (fL_fits_L227 n) x2 x3 x4 x5 (x6 + o3) x8 o3 (0 : Int32) M)))))))
noncomputable def fL_fits_L166 : Nat → Int32 → Int32 → Int32 → Int32 → Int32 → Int32 → Int32 → Int32 → Mm → Option (Int32)
  | 0 => fun _ _ _ _ _ _ _ _ _ => none
  | n + 1 => fun x1 x2 x3 x4 x5 x6 x7 x8 M => (if x2 ≤ x8 then fL_fits_L227 6 x2 x3 x4 x5 x6 x7 (0 : Int32) M else (if x7 = 0 then fL_fits_L227 6 x2 x3 x4 x5 x6 x7 (0 : Int32) M else ((fL_unit x8 M).bind fun o3 => ((fL_unitAnew x8 M).bind fun o4 => (if o3 = o4 then ((fL_unit x8 M).bind fun o6 => (if o6 < 0 then (fL_fits_L166 n) x1 x2 x3 x4 x5 x6 (0 : Int32) (x8 + (1 : Int32)) M else ((fL_unit x8 M).bind fun o8 => (if x1 ≤ o8 then (fL_fits_L166 n) x1 x2 x3 x4 x5 x6 (0 : Int32) (x8 + (1 : Int32)) M else (fL_fits_L166 n) x1 x2 x3 x4 x5 x6 (1 : Int32) (x8 + (1 : Int32)) M)))) else (fL_fits_L166 n) x1 x2 x3 x4 x5 x6 (0 : Int32) (x8 + (1 : Int32)) M)))))
noncomputable def fL_fits_L21 : Nat → Int32 → Int32 → Int32 → Int32 → Int32 → Int32 → Int32 → Int32 → Mm → Option (Int32)
  | 0 => fun _ _ _ _ _ _ _ _ _ => none
  | n + 1 => fun x1 x2 x3 x4 x5 x6 x7 x8 M => (if x1 ≤ x8 then fL_fits_L166 400 x1 x2 x3 x4 x5 x6 x7 (0 : Int32) M else (if x7 = 0 then fL_fits_L166 400 x1 x2 x3 x4 x5 x6 x7 (0 : Int32) M else ((fL_batch x8 (2 : Int32) M).bind fun o3 => ((fL_batch x8 (3 : Int32) M).bind fun o4 => ((fL_batch x8 (4 : Int32) M).bind fun o5 => ((fL_batch x8 (1 : Int32) M).bind fun o6 => ((fL_batch x8 (2 : Int32) M).bind fun o7 => ((fL_batch x8 (3 : Int32) M).bind fun o8 => ((fL_batch x8 (0 : Int32) M).bind fun o9 => ((fL_batch x8 (0 : Int32) M).bind fun o10 => ((fL_batch x8 (1 : Int32) M).bind fun o11 => (if o10 = (o11 - ((o3 + o4) + o5)) then ((fL_batch x8 (0 : Int32) M).bind fun o13 => (if o13 < 0 then (fL_fits_L21 n) x1 x2 (x3 + o9) (x4 + o6) (x5 + (o7 + o8)) x6 (0 : Int32) (x8 + (1 : Int32)) M else ((fL_batch x8 (5 : Int32) M).bind fun o15 => (if o15 < 0 then (fL_fits_L21 n) x1 x2 (x3 + o9) (x4 + o6) (x5 + (o7 + o8)) x6 (0 : Int32) (x8 + (1 : Int32)) M else ((fL_batch x8 (6 : Int32) M).bind fun o17 => (if o17 < 0 then (fL_fits_L21 n) x1 x2 (x3 + o9) (x4 + o6) (x5 + (o7 + o8)) x6 (0 : Int32) (x8 + (1 : Int32)) M else (fL_fits_L21 n) x1 x2 (x3 + o9) (x4 + o6) (x5 + (o7 + o8)) x6 (1 : Int32) (x8 + (1 : Int32)) M)))))) else (fL_fits_L21 n) x1 x2 (x3 + o9) (x4 + o6) (x5 + (o7 + o8)) x6 (0 : Int32) (x8 + (1 : Int32)) M))))))))))))
noncomputable def fL_fits (x1 : Int32) (x2 : Int32) (M : Mm) : Option (Int32) := ((fL_pipe (3 : Int32) M).bind fun o1 => fL_fits_L21 41 x1 x2 (0 : Int32) (0 : Int32) (0 : Int32) o1 (1 : Int32) (0 : Int32) M)
set_option maxRecDepth 100000 in
set_option maxHeartbeats 4000000 in
theorem bL_fits_320 {p : Program} {l : Launch} {e : Env} {s : State} {m : MethodId} {args : Array Value} {below : List Frame} {meth : Method} {c : Code} {D : va_G} {cy : Nat → ClassId} {a : Nat} (hx : p.tables.exec = Jvm.exec) (hb : c.code = cL_fits) (hr : meth.sig.returnType = (some .boolean)) (hml : c.maxLocals = 10) (hown : s.vm.findClass RL = some m.cls) (hts : ∀ w ∈ wsL_fits, w.before args s = true) (hlocks : meth.locks = false) (hK : KS D cy s) (hZ : ZZ a s s.heap) (hfl : l.stackTraces = false) {out : Int32} : ∀ (x2 : Int32) (x3 : Int32) (x4 : Int32) (x5 : Int32) (x6 : Int32) (x7 : Int32) (cells slots : Nat) (M : Mm) (H : Heap) (locs : List Loc) (ls : Array Slot), cells + (3) ≤ 2624 → slots + (18) ≤ 15744 → HP D cy a M H → va_S (Aq a) s.heap H locs → lv_has ls 10 [(0, .ref (a + 0)), (2, .int x2), (3, .int x3), (4, .int x4), (5, .int x5), (6, .int x6), (7, .int x7)] → narrow .boolean (.int x7) = .int x7 → fL_fits_b320 x2 x3 x4 x5 x6 x7 M = some out → W p l e rL_fits s m args below meth c H locs cells slots (MQ below (QB D cy a out M) args s 2624 15744 (Aq a)) (F0 m 320 ls []) := by
  intro x2 x3 x4 x5 x6 x7 cells slots M H locs ls hc1 hc2 hw hS hl hb7 hf
  unfold fL_fits_b320 at hf
  refine lv_iload hx hb dL_fits_320 (lv_at hl 6 rfl) ?_
  refine lv_if_eq (tgt := 378) hx hb dL_fits_322 (by decide) (fun c1 => ?_) (fun c1 => ?_)
  · have hf := ip c1 hf
    refine lv_iconst (v := (0 : Int32)) hx hb dL_fits_378 (by decide) ?_
    obtain rfl := Option.some.inj hf
    refine W.widen (k := 2624) (n := 15744) (by omega) (by omega) ?_
    exact rBret (x := (0 : Int32)) hx hb hr hlocks hw hS rfl dL_fits_379
  · have hf := iq c1 hf
    refine lv_iload_n hx hb dL_fits_325 rfl (lv_at hl 2 rfl) ?_
    refine lv_iload_n hx hb dL_fits_326 rfl (lv_at hl 1 rfl) ?_
    refine lv_icmp_ne (tgt := 378) hx hb dL_fits_327 (by decide) (fun c2 => ?_) (fun c2 => ?_)
    · have hf := iq c2 hf
      refine lv_iconst (v := (0 : Int32)) hx hb dL_fits_378 (by decide) ?_
      obtain rfl := Option.some.inj hf
      refine W.widen (k := 2624) (n := 15744) (by omega) (by omega) ?_
      exact rBret (x := (0 : Int32)) hx hb hr hlocks hw hS rfl dL_fits_379
    · have hf := ip c2 hf
      refine lv_iload hx hb dL_fits_330 (lv_at hl 5 rfl) ?_
      refine lv_iload hx hb dL_fits_332 (lv_at hl 4 rfl) ?_
      refine lv_icmp_gt (tgt := 378) hx hb dL_fits_334 (by decide) (fun c3 => ?_) (fun c3 => ?_)
      · have hf := ip c3 hf
        refine lv_iconst (v := (0 : Int32)) hx hb dL_fits_378 (by decide) ?_
        obtain rfl := Option.some.inj hf
        refine W.widen (k := 2624) (n := 15744) (by omega) (by omega) ?_
        exact rBret (x := (0 : Int32)) hx hb hr hlocks hw hS rfl dL_fits_379
      · have hf := iq c3 hf
        refine lv_iload hx hb dL_fits_337 (lv_at hl 3 rfl) ?_
        refine lv_iload_n hx hb dL_fits_339 rfl (lv_at hl 1 rfl) ?_
        refine lv_icmp_lt (tgt := 378) hx hb dL_fits_340 (by decide) (fun c4 => ?_) (fun c4 => ?_)
        · have hf := ip c4 hf
          refine lv_iconst (v := (0 : Int32)) hx hb dL_fits_378 (by decide) ?_
          obtain rfl := Option.some.inj hf
          refine W.widen (k := 2624) (n := 15744) (by omega) (by omega) ?_
          exact rBret (x := (0 : Int32)) hx hb hr hlocks hw hS rfl dL_fits_379
        · have hf := iq c4 hf
          refine lv_aload_n hx hb dL_fits_343 rfl (lv_at hl 0 rfl) ?_
          refine lv_iload_n hx hb dL_fits_344 rfl (lv_at hl 1 rfl) ?_
          obtain ⟨o5, ho5, hf⟩ := ob hf
          refine rCallI (vx_runSW (hh := [(0, 5, 6, 23)]) (As := [.ref (a + 0), .int x2]) (rest := []) ⟨hx, hb, hml, hown, hts⟩ (ctL_unit (l := l) (D := D) (cy := cy) (a := a) hfl ho5) (vx_cwSW 2 hts gL_fits_L_unit rfl rfl rfl (by decide +kernel) ⟨Nat.le_of_ble_eq_true rfl, Nat.le_of_ble_eq_true rfl⟩) (pS hK hZ hw hS) rfl rfl hl.1 rfl (lv_room (Nat.le_of_ble_eq_true rfl)) dL_fits_345 ⟨(by show _ ≤ 2624; omega), (by show _ ≤ 15744; omega)⟩) hS (fun H locs hw hS => ?_)
          refine lv_iconst (v := (-1 : Int32)) hx hb dL_fits_348 (by decide) ?_
          refine lv_icmp_ne (tgt := 378) hx hb dL_fits_349 (by decide) (fun c6 => ?_) (fun c6 => ?_)
          · have hf := iq c6 hf
            refine lv_iconst (v := (0 : Int32)) hx hb dL_fits_378 (by decide) ?_
            obtain rfl := Option.some.inj hf
            refine W.widen (k := 2624) (n := 15744) (by omega) (by omega) ?_
            exact rBret (x := (0 : Int32)) hx hb hr hlocks hw hS rfl dL_fits_379
          · have hf := ip c6 hf
            refine lv_aload_n hx hb dL_fits_352 rfl (lv_at hl 0 rfl) ?_
            refine lv_iconst (v := (2 : Int32)) hx hb dL_fits_353 (by decide) ?_
            obtain ⟨o7, ho7, hf⟩ := ob hf
            refine rCallI (vx_runSW (hh := [(0, 5, 6, 15)]) (As := [.ref (a + 0), .int (2 : Int32)]) (rest := []) ⟨hx, hb, hml, hown, hts⟩ (ctL_pipe (l := l) (D := D) (cy := cy) (a := a) hfl ho7) (vx_cwSW 2 hts gL_fits_L_pipe rfl rfl rfl (by decide +kernel) ⟨Nat.le_of_ble_eq_true rfl, Nat.le_of_ble_eq_true rfl⟩) (pS hK hZ hw hS) rfl rfl hl.1 rfl (lv_room (Nat.le_of_ble_eq_true rfl)) dL_fits_354 ⟨(by show _ ≤ 2624; omega), (by show _ ≤ 15744; omega)⟩) hS (fun H locs hw hS => ?_)
            refine lv_aload_n hx hb dL_fits_357 rfl (lv_at hl 0 rfl) ?_
            refine lv_iconst (v := (1 : Int32)) hx hb dL_fits_358 (by decide) ?_
            obtain ⟨o8, ho8, hf⟩ := ob hf
            refine rCallI (vx_runSW (hh := [(0, 5, 6, 15)]) (As := [.ref (a + 0), .int (1 : Int32)]) (rest := [.int o7]) ⟨hx, hb, hml, hown, hts⟩ (ctL_pipe (l := l) (D := D) (cy := cy) (a := a) hfl ho8) (vx_cwSW 2 hts gL_fits_L_pipe rfl rfl rfl (by decide +kernel) ⟨Nat.le_of_ble_eq_true rfl, Nat.le_of_ble_eq_true rfl⟩) (pS hK hZ hw hS) rfl rfl hl.1 rfl (lv_room (Nat.le_of_ble_eq_true rfl)) dL_fits_359 ⟨(by show _ ≤ 2624; omega), (by show _ ≤ 15744; omega)⟩) hS (fun H locs hw hS => ?_)
            refine lv_iconst (v := (3 : Int32)) hx hb dL_fits_362 (by decide) ?_
            refine lv_icmp_lt (tgt := 370) hx hb dL_fits_363 (by decide) (fun c9 => ?_) (fun c9 => ?_)
            · have hf := ip c9 hf
              refine lv_iconst (v := (0 : Int32)) hx hb dL_fits_370 (by decide) ?_
              refine lv_icmp_ne (tgt := 378) hx hb dL_fits_371 (by decide) (fun c10 => ?_) (fun c10 => ?_)
              · have hf := iq c10 hf
                refine lv_iconst (v := (0 : Int32)) hx hb dL_fits_378 (by decide) ?_
                obtain rfl := Option.some.inj hf
                refine W.widen (k := 2624) (n := 15744) (by omega) (by omega) ?_
                exact rBret (x := (0 : Int32)) hx hb hr hlocks hw hS rfl dL_fits_379
              · have hf := ip c10 hf
                refine lv_iconst (v := (1 : Int32)) hx hb dL_fits_374 (by decide) ?_
                refine lv_goto (tgt := 379) hx hb dL_fits_375 (by decide) ?_
                obtain rfl := Option.some.inj hf
                refine W.widen (k := 2624) (n := 15744) (by omega) (by omega) ?_
                exact rBret (x := (1 : Int32)) hx hb hr hlocks hw hS rfl dL_fits_379
            · have hf := iq c9 hf
              refine lv_iconst (v := (1 : Int32)) hx hb dL_fits_366 (by decide) ?_
              refine lv_goto (tgt := 371) hx hb dL_fits_367 (by decide) ?_
              refine lv_icmp_ne (tgt := 378) hx hb dL_fits_371 (by decide) (fun c11 => ?_) (fun c11 => ?_)
              · have hf := iq c11 hf
                refine lv_iconst (v := (0 : Int32)) hx hb dL_fits_378 (by decide) ?_
                obtain rfl := Option.some.inj hf
                refine W.widen (k := 2624) (n := 15744) (by omega) (by omega) ?_
                exact rBret (x := (0 : Int32)) hx hb hr hlocks hw hS rfl dL_fits_379
              · have hf := ip c11 hf
                refine lv_iconst (v := (1 : Int32)) hx hb dL_fits_374 (by decide) ?_
                refine lv_goto (tgt := 379) hx hb dL_fits_375 (by decide) ?_
                obtain rfl := Option.some.inj hf
                refine W.widen (k := 2624) (n := 15744) (by omega) (by omega) ?_
                exact rBret (x := (1 : Int32)) hx hb hr hlocks hw hS rfl dL_fits_379
set_option maxRecDepth 100000 in
set_option maxHeartbeats 4000000 in
theorem bL_fits_292 {p : Program} {l : Launch} {e : Env} {s : State} {m : MethodId} {args : Array Value} {below : List Frame} {meth : Method} {c : Code} {D : va_G} {cy : Nat → ClassId} {a : Nat} (hx : p.tables.exec = Jvm.exec) (hb : c.code = cL_fits) (hr : meth.sig.returnType = (some .boolean)) (hml : c.maxLocals = 10) (hown : s.vm.findClass RL = some m.cls) (hts : ∀ w ∈ wsL_fits, w.before args s = true) (hlocks : meth.locks = false) (hK : KS D cy s) (hZ : ZZ a s s.heap) (hfl : l.stackTraces = false) {out : Int32} (kL227 : Int32 → Int32 → Int32 → Int32 → Int32 → Int32 → Int32 → Mm → Option (Int32)) (nL227 : Nat) (hkL227 : ∀ (x2 : Int32) (x3 : Int32) (x4 : Int32) (x5 : Int32) (x6 : Int32) (x7 : Int32) (x8 : Int32) (cells slots : Nat) (M : Mm) (H : Heap) (locs : List Loc) (ls : Array Slot), cells + (3 + nL227 * 6) ≤ 2624 → slots + (18 + nL227 * 36) ≤ 15744 → HP D cy a M H → va_S (Aq a) s.heap H locs → lv_has ls 10 [(0, .ref (a + 0)), (2, .int x2), (3, .int x3), (4, .int x4), (5, .int x5), (6, .int x6), (7, .int x7), (8, .int x8)] → narrow .boolean (.int x7) = .int x7 → kL227 x2 x3 x4 x5 x6 x7 x8 M = some out → W p l e rL_fits s m args below meth c H locs cells slots (MQ below (QB D cy a out M) args s 2624 15744 (Aq a)) (F0 m 227 ls [])) : ∀ (x2 : Int32) (x3 : Int32) (x4 : Int32) (x5 : Int32) (x6 : Int32) (x8 : Int32) (x9 : Int32) (xs0 : Int32) (xs1 : Int32) (cells slots : Nat) (M : Mm) (H : Heap) (locs : List Loc) (ls : Array Slot), cells + (5 + nL227 * 6) ≤ 2624 → slots + (30 + nL227 * 36) ≤ 15744 → HP D cy a M H → va_S (Aq a) s.heap H locs → lv_has ls 10 [(0, .ref (a + 0)), (2, .int x2), (3, .int x3), (4, .int x4), (5, .int x5), (6, .int x6), (8, .int x8), (9, .int x9)] → narrow .boolean (.int xs0) = .int xs0 → narrow .boolean (.int xs1) = .int xs1 → fL_fits_b292 kL227 x2 x3 x4 x5 x6 x8 x9 xs0 xs1 M = some out → W p l e rL_fits s m args below meth c H locs cells slots (MQ below (QB D cy a out M) args s 2624 15744 (Aq a)) (F0 m 292 ls [.int xs1, .int xs0]) := by
  intro x2 x3 x4 x5 x6 x8 x9 xs0 xs1 cells slots M H locs ls hc1 hc2 hw hS hl hbs0 hbs1 hf
  unfold fL_fits_b292 at hf
  refine lv_icmp_ne (tgt := 311) hx hb dL_fits_292 (by decide) (fun c1 => ?_) (fun c1 => ?_)
  · have hf := iq c1 hf
    refine lv_iconst (v := (0 : Int32)) hx hb dL_fits_311 (by decide) ?_
    refine lv_istore (lv' := [(7, .int (0 : Int32)), (0, .ref (a + 0)), (2, .int x2), (3, .int x3), (4, .int x4), (5, .int x5), (6, .int x6), (8, .int x8), (9, .int x9)]) hx hb dL_fits_312 hl (Nat.le_of_ble_eq_true rfl) rfl (fun ls hl => ?_)
    refine lv_iinc (v := x8 + (1 : Int32)) (lv' := [(8, .int (x8 + (1 : Int32))), (7, .int (0 : Int32)), (0, .ref (a + 0)), (2, .int x2), (3, .int x3), (4, .int x4), (5, .int x5), (6, .int x6), (9, .int x9)]) hx hb dL_fits_314 hl (k := 7) rfl rfl (Nat.le_of_ble_eq_true rfl) rfl (fun ls hl => ?_)
    refine lv_goto (tgt := 227) hx hb dL_fits_317 (by decide) ?_
    exact hkL227 _ _ _ _ _ _ _ _ _ _ _ _ _ (by omega) (by omega) hw hS (lv_sub hl [2, 3, 4, 5, 6, 7, 1, 0] rfl) rfl hf
  · have hf := ip c1 hf
    refine lv_aload_n hx hb dL_fits_295 rfl (lv_at hl 0 rfl) ?_
    refine lv_iload hx hb dL_fits_296 (lv_at hl 6 rfl) ?_
    refine lv_iconst (v := (2 : Int32)) hx hb dL_fits_298 (by decide) ?_
    obtain ⟨o2, ho2, hf⟩ := ob hf
    refine rCallI (vx_runSW (hh := [(0, 6, 7, 23), (0, 6, 11, 15)]) (As := [.ref (a + 0), .int x8, .int (2 : Int32)]) (rest := []) ⟨hx, hb, hml, hown, hts⟩ (ctL_tank (l := l) (D := D) (cy := cy) (a := a) hfl ho2) (vx_cwSW 3 hts gL_fits_L_tank rfl rfl rfl (by decide +kernel) ⟨Nat.le_of_ble_eq_true rfl, Nat.le_of_ble_eq_true rfl⟩) (pS hK hZ hw hS) rfl rfl hl.1 rfl (lv_room (Nat.le_of_ble_eq_true rfl)) dL_fits_299 ⟨(by show _ ≤ 2624; omega), (by show _ ≤ 15744; omega)⟩) hS (fun H locs hw hS => ?_)
    refine lv_iload hx hb dL_fits_302 (lv_at hl 7 rfl) ?_
    refine lv_icmp_gt (tgt := 311) hx hb dL_fits_304 (by decide) (fun c3 => ?_) (fun c3 => ?_)
    · have hf := ip c3 hf
      refine lv_iconst (v := (0 : Int32)) hx hb dL_fits_311 (by decide) ?_
      refine lv_istore (lv' := [(7, .int (0 : Int32)), (0, .ref (a + 0)), (2, .int x2), (3, .int x3), (4, .int x4), (5, .int x5), (6, .int x6), (8, .int x8), (9, .int x9)]) hx hb dL_fits_312 hl (Nat.le_of_ble_eq_true rfl) rfl (fun ls hl => ?_)
      refine lv_iinc (v := x8 + (1 : Int32)) (lv' := [(8, .int (x8 + (1 : Int32))), (7, .int (0 : Int32)), (0, .ref (a + 0)), (2, .int x2), (3, .int x3), (4, .int x4), (5, .int x5), (6, .int x6), (9, .int x9)]) hx hb dL_fits_314 hl (k := 7) rfl rfl (Nat.le_of_ble_eq_true rfl) rfl (fun ls hl => ?_)
      refine lv_goto (tgt := 227) hx hb dL_fits_317 (by decide) ?_
      exact hkL227 _ _ _ _ _ _ _ _ _ _ _ _ _ (by omega) (by omega) hw hS (lv_sub hl [2, 3, 4, 5, 6, 7, 1, 0] rfl) rfl hf
    · have hf := iq c3 hf
      refine lv_iconst (v := (1 : Int32)) hx hb dL_fits_307 (by decide) ?_
      refine lv_goto (tgt := 312) hx hb dL_fits_308 (by decide) ?_
      refine lv_istore (lv' := [(7, .int (1 : Int32)), (0, .ref (a + 0)), (2, .int x2), (3, .int x3), (4, .int x4), (5, .int x5), (6, .int x6), (8, .int x8), (9, .int x9)]) hx hb dL_fits_312 hl (Nat.le_of_ble_eq_true rfl) rfl (fun ls hl => ?_)
      refine lv_iinc (v := x8 + (1 : Int32)) (lv' := [(8, .int (x8 + (1 : Int32))), (7, .int (1 : Int32)), (0, .ref (a + 0)), (2, .int x2), (3, .int x3), (4, .int x4), (5, .int x5), (6, .int x6), (9, .int x9)]) hx hb dL_fits_314 hl (k := 7) rfl rfl (Nat.le_of_ble_eq_true rfl) rfl (fun ls hl => ?_)
      refine lv_goto (tgt := 227) hx hb dL_fits_317 (by decide) ?_
      exact hkL227 _ _ _ _ _ _ _ _ _ _ _ _ _ (by omega) (by omega) hw hS (lv_sub hl [2, 3, 4, 5, 6, 7, 1, 0] rfl) rfl hf
set_option maxRecDepth 100000 in
set_option maxHeartbeats 4000000 in
theorem bL_fits_282 {p : Program} {l : Launch} {e : Env} {s : State} {m : MethodId} {args : Array Value} {below : List Frame} {meth : Method} {c : Code} {D : va_G} {cy : Nat → ClassId} {a : Nat} (hx : p.tables.exec = Jvm.exec) (hb : c.code = cL_fits) (hr : meth.sig.returnType = (some .boolean)) (hml : c.maxLocals = 10) (hown : s.vm.findClass RL = some m.cls) (hts : ∀ w ∈ wsL_fits, w.before args s = true) (hlocks : meth.locks = false) (hK : KS D cy s) (hZ : ZZ a s s.heap) (hfl : l.stackTraces = false) {out : Int32} (kL227 : Int32 → Int32 → Int32 → Int32 → Int32 → Int32 → Int32 → Mm → Option (Int32)) (nL227 : Nat) (hkL227 : ∀ (x2 : Int32) (x3 : Int32) (x4 : Int32) (x5 : Int32) (x6 : Int32) (x7 : Int32) (x8 : Int32) (cells slots : Nat) (M : Mm) (H : Heap) (locs : List Loc) (ls : Array Slot), cells + (3 + nL227 * 6) ≤ 2624 → slots + (18 + nL227 * 36) ≤ 15744 → HP D cy a M H → va_S (Aq a) s.heap H locs → lv_has ls 10 [(0, .ref (a + 0)), (2, .int x2), (3, .int x3), (4, .int x4), (5, .int x5), (6, .int x6), (7, .int x7), (8, .int x8)] → narrow .boolean (.int x7) = .int x7 → kL227 x2 x3 x4 x5 x6 x7 x8 M = some out → W p l e rL_fits s m args below meth c H locs cells slots (MQ below (QB D cy a out M) args s 2624 15744 (Aq a)) (F0 m 227 ls [])) : ∀ (x2 : Int32) (x3 : Int32) (x4 : Int32) (x5 : Int32) (x6 : Int32) (x8 : Int32) (x9 : Int32) (xs0 : Int32) (cells slots : Nat) (M : Mm) (H : Heap) (locs : List Loc) (ls : Array Slot), cells + (5 + nL227 * 6) ≤ 2624 → slots + (30 + nL227 * 36) ≤ 15744 → HP D cy a M H → va_S (Aq a) s.heap H locs → lv_has ls 10 [(0, .ref (a + 0)), (2, .int x2), (3, .int x3), (4, .int x4), (5, .int x5), (6, .int x6), (8, .int x8), (9, .int x9)] → narrow .boolean (.int xs0) = .int xs0 → fL_fits_b282 kL227 x2 x3 x4 x5 x6 x8 x9 xs0 M = some out → W p l e rL_fits s m args below meth c H locs cells slots (MQ below (QB D cy a out M) args s 2624 15744 (Aq a)) (F0 m 282 ls [.int xs0]) := by
  intro x2 x3 x4 x5 x6 x8 x9 xs0 cells slots M H locs ls hc1 hc2 hw hS hl hbs0 hf
  unfold fL_fits_b282 at hf
  refine lv_iload hx hb dL_fits_282 (lv_at hl 7 rfl) ?_
  refine lv_if_ne (tgt := 291) hx hb dL_fits_284 (by decide) (fun c1 => ?_) (fun c1 => ?_)
  · have hf := iq c1 hf
    refine lv_iconst (v := (0 : Int32)) hx hb dL_fits_291 (by decide) ?_
    exact bL_fits_292 hx hb hr hml hown hts hlocks hK hZ hfl kL227 nL227 hkL227 _ _ _ _ _ _ _ _ _ _ _ _ _ _ _ (by omega) (by omega) hw hS (lv_sub hl [0, 1, 2, 3, 4, 5, 6, 7] rfl) hbs0 rfl hf
  · have hf := ip c1 hf
    refine lv_iconst (v := (1 : Int32)) hx hb dL_fits_287 (by decide) ?_
    refine lv_goto (tgt := 292) hx hb dL_fits_288 (by decide) ?_
    exact bL_fits_292 hx hb hr hml hown hts hlocks hK hZ hfl kL227 nL227 hkL227 _ _ _ _ _ _ _ _ _ _ _ _ _ _ _ (by omega) (by omega) hw hS (lv_sub hl [0, 1, 2, 3, 4, 5, 6, 7] rfl) hbs0 rfl hf
set_option maxRecDepth 100000 in
set_option maxHeartbeats 4000000 in
theorem bL_fits_227 {p : Program} {l : Launch} {e : Env} {s : State} {m : MethodId} {args : Array Value} {below : List Frame} {meth : Method} {c : Code} {D : va_G} {cy : Nat → ClassId} {a : Nat} (hx : p.tables.exec = Jvm.exec) (hb : c.code = cL_fits) (hr : meth.sig.returnType = (some .boolean)) (hml : c.maxLocals = 10) (hown : s.vm.findClass RL = some m.cls) (hts : ∀ w ∈ wsL_fits, w.before args s = true) (hlocks : meth.locks = false) (hK : KS D cy s) (hZ : ZZ a s s.heap) (hfl : l.stackTraces = false) {out : Int32} : ∀ (n : Nat), ∀ (x2 : Int32) (x3 : Int32) (x4 : Int32) (x5 : Int32) (x6 : Int32) (x7 : Int32) (x8 : Int32) (cells slots : Nat) (M : Mm) (H : Heap) (locs : List Loc) (ls : Array Slot), cells + (3 + n * 6) ≤ 2624 → slots + (18 + n * 36) ≤ 15744 → HP D cy a M H → va_S (Aq a) s.heap H locs → lv_has ls 10 [(0, .ref (a + 0)), (2, .int x2), (3, .int x3), (4, .int x4), (5, .int x5), (6, .int x6), (7, .int x7), (8, .int x8)] → narrow .boolean (.int x7) = .int x7 → fL_fits_L227 n x2 x3 x4 x5 x6 x7 x8 M = some out → W p l e rL_fits s m args below meth c H locs cells slots (MQ below (QB D cy a out M) args s 2624 15744 (Aq a)) (F0 m 227 ls []) := by
  intro n
  induction n with
  | zero =>
    intro x2 x3 x4 x5 x6 x7 x8 cells slots M H locs ls hc1 hc2 hw hS hl hb7 hf
    have hf : (none : Option (Int32)) = some out := hf
    cases hf
  | succ n ih =>
    intro x2 x3 x4 x5 x6 x7 x8 cells slots M H locs ls hc1 hc2 hw hS hl hb7 hf
    unfold fL_fits_L227 at hf
    refine lv_iload hx hb dL_fits_227 (lv_at hl 7 rfl) ?_
    refine lv_iconst (v := (4 : Int32)) hx hb dL_fits_229 (by decide) ?_
    refine lv_icmp_ge (tgt := 320) hx hb dL_fits_230 (by decide) (fun c1 => ?_) (fun c1 => ?_)
    · have hf := ip c1 hf
      exact bL_fits_320 hx hb hr hml hown hts hlocks hK hZ hfl _ _ _ _ _ _ _ _ _ _ _ _ (by omega) (by omega) hw hS (lv_sub hl [0, 1, 2, 3, 4, 5, 6] rfl) hb7 hf
    · have hf := iq c1 hf
      refine lv_iload hx hb dL_fits_233 (lv_at hl 6 rfl) ?_
      refine lv_if_eq (tgt := 320) hx hb dL_fits_235 (by decide) (fun c2 => ?_) (fun c2 => ?_)
      · have hf := ip c2 hf
        exact bL_fits_320 hx hb hr hml hown hts hlocks hK hZ hfl _ _ _ _ _ _ _ _ _ _ _ _ (by omega) (by omega) hw hS (lv_sub hl [0, 1, 2, 3, 4, 5, 6] rfl) hb7 hf
      · have hf := iq c2 hf
        refine lv_aload_n hx hb dL_fits_238 rfl (lv_at hl 0 rfl) ?_
        refine lv_iload hx hb dL_fits_239 (lv_at hl 7 rfl) ?_
        refine lv_iconst (v := (0 : Int32)) hx hb dL_fits_241 (by decide) ?_
        obtain ⟨o3, ho3, hf⟩ := ob hf
        refine rCallI (vx_runSW (hh := [(0, 6, 7, 23), (0, 6, 11, 15)]) (As := [.ref (a + 0), .int x8, .int (0 : Int32)]) (rest := []) ⟨hx, hb, hml, hown, hts⟩ (ctL_tank (l := l) (D := D) (cy := cy) (a := a) hfl ho3) (vx_cwSW 3 hts gL_fits_L_tank rfl rfl rfl (by decide +kernel) ⟨Nat.le_of_ble_eq_true rfl, Nat.le_of_ble_eq_true rfl⟩) (pS hK hZ hw hS) rfl rfl hl.1 rfl (lv_room (Nat.le_of_ble_eq_true rfl)) dL_fits_242 ⟨(by show _ ≤ 2624; omega), (by show _ ≤ 15744; omega)⟩) hS (fun H locs hw hS => ?_)
        refine lv_istore (lv' := [(9, .int o3), (0, .ref (a + 0)), (2, .int x2), (3, .int x3), (4, .int x4), (5, .int x5), (6, .int x6), (7, .int x7), (8, .int x8)]) hx hb dL_fits_245 hl (Nat.le_of_ble_eq_true rfl) rfl (fun ls hl => ?_)
        refine lv_iload hx hb dL_fits_247 (lv_at hl 6 rfl) ?_
        refine lv_iload hx hb dL_fits_249 (lv_at hl 0 rfl) ?_
        refine lv_iadd hx hb dL_fits_251 ?_
        refine lv_istore (lv' := [(6, .int (x6 + o3)), (9, .int o3), (0, .ref (a + 0)), (2, .int x2), (3, .int x3), (4, .int x4), (5, .int x5), (7, .int x7), (8, .int x8)]) hx hb dL_fits_252 hl (Nat.le_of_ble_eq_true rfl) rfl (fun ls hl => ?_)
        refine lv_iload hx hb dL_fits_254 (lv_at hl 1 rfl) ?_
        refine lv_if_lt (tgt := 311) hx hb dL_fits_256 (by decide) (fun c4 => ?_) (fun c4 => ?_)
        · have hf := ip c4 hf
          refine lv_iconst (v := (0 : Int32)) hx hb dL_fits_311 (by decide) ?_
          refine lv_istore (lv' := [(7, .int (0 : Int32)), (6, .int (x6 + o3)), (9, .int o3), (0, .ref (a + 0)), (2, .int x2), (3, .int x3), (4, .int x4), (5, .int x5), (8, .int x8)]) hx hb dL_fits_312 hl (Nat.le_of_ble_eq_true rfl) rfl (fun ls hl => ?_)
          refine lv_iinc (v := x8 + (1 : Int32)) (lv' := [(8, .int (x8 + (1 : Int32))), (7, .int (0 : Int32)), (6, .int (x6 + o3)), (9, .int o3), (0, .ref (a + 0)), (2, .int x2), (3, .int x3), (4, .int x4), (5, .int x5)]) hx hb dL_fits_314 hl (k := 8) rfl rfl (Nat.le_of_ble_eq_true rfl) rfl (fun ls hl => ?_)
          refine lv_goto (tgt := 227) hx hb dL_fits_317 (by decide) ?_
          exact ih _ _ _ _ _ _ _ _ _ _ _ _ _ (by omega) (by omega) hw hS (lv_sub hl [4, 5, 6, 7, 8, 2, 1, 0] rfl) rfl hf
        · have hf := iq c4 hf
          refine lv_iload hx hb dL_fits_259 (lv_at hl 1 rfl) ?_
          refine lv_bipush (v := (100 : Int32)) hx hb dL_fits_261 (by decide) ?_
          refine lv_icmp_gt (tgt := 311) hx hb dL_fits_263 (by decide) (fun c5 => ?_) (fun c5 => ?_)
          · have hf := ip c5 hf
            refine lv_iconst (v := (0 : Int32)) hx hb dL_fits_311 (by decide) ?_
            refine lv_istore (lv' := [(7, .int (0 : Int32)), (6, .int (x6 + o3)), (9, .int o3), (0, .ref (a + 0)), (2, .int x2), (3, .int x3), (4, .int x4), (5, .int x5), (8, .int x8)]) hx hb dL_fits_312 hl (Nat.le_of_ble_eq_true rfl) rfl (fun ls hl => ?_)
            refine lv_iinc (v := x8 + (1 : Int32)) (lv' := [(8, .int (x8 + (1 : Int32))), (7, .int (0 : Int32)), (6, .int (x6 + o3)), (9, .int o3), (0, .ref (a + 0)), (2, .int x2), (3, .int x3), (4, .int x4), (5, .int x5)]) hx hb dL_fits_314 hl (k := 8) rfl rfl (Nat.le_of_ble_eq_true rfl) rfl (fun ls hl => ?_)
            refine lv_goto (tgt := 227) hx hb dL_fits_317 (by decide) ?_
            exact ih _ _ _ _ _ _ _ _ _ _ _ _ _ (by omega) (by omega) hw hS (lv_sub hl [4, 5, 6, 7, 8, 2, 1, 0] rfl) rfl hf
          · have hf := iq c5 hf
            refine lv_aload_n hx hb dL_fits_266 rfl (lv_at hl 2 rfl) ?_
            refine lv_iload hx hb dL_fits_267 (lv_at hl 8 rfl) ?_
            refine lv_iconst (v := (1 : Int32)) hx hb dL_fits_269 (by decide) ?_
            obtain ⟨o6, ho6, hf⟩ := ob hf
            refine rCallI (vx_runSW (hh := [(0, 6, 7, 23), (0, 6, 11, 15)]) (As := [.ref (a + 0), .int x8, .int (1 : Int32)]) (rest := []) ⟨hx, hb, hml, hown, hts⟩ (ctL_tank (l := l) (D := D) (cy := cy) (a := a) hfl ho6) (vx_cwSW 3 hts gL_fits_L_tank rfl rfl rfl (by decide +kernel) ⟨Nat.le_of_ble_eq_true rfl, Nat.le_of_ble_eq_true rfl⟩) (pS hK hZ hw hS) rfl rfl hl.1 rfl (lv_room (Nat.le_of_ble_eq_true rfl)) dL_fits_270 ⟨(by show _ ≤ 2624; omega), (by show _ ≤ 15744; omega)⟩) hS (fun H locs hw hS => ?_)
            refine lv_iconst (v := (-1 : Int32)) hx hb dL_fits_273 (by decide) ?_
            refine lv_icmp_ne (tgt := 281) hx hb dL_fits_274 (by decide) (fun c7 => ?_) (fun c7 => ?_)
            · have hf := iq c7 hf
              refine lv_iconst (v := (0 : Int32)) hx hb dL_fits_281 (by decide) ?_
              exact bL_fits_282 hx hb hr hml hown hts hlocks hK hZ hfl (fL_fits_L227 n) n ih _ _ _ _ _ _ _ _ _ _ _ _ _ _ (by omega) (by omega) hw hS (lv_sub hl [2, 3, 4, 5, 6, 0, 8, 1] rfl) rfl hf
            · have hf := ip c7 hf
              refine lv_iconst (v := (1 : Int32)) hx hb dL_fits_277 (by decide) ?_
              refine lv_goto (tgt := 282) hx hb dL_fits_278 (by decide) ?_
              exact bL_fits_282 hx hb hr hml hown hts hlocks hK hZ hfl (fL_fits_L227 n) n ih _ _ _ _ _ _ _ _ _ _ _ _ _ _ (by omega) (by omega) hw hS (lv_sub hl [2, 3, 4, 5, 6, 0, 8, 1] rfl) rfl hf
set_option maxRecDepth 100000 in
set_option maxHeartbeats 4000000 in
theorem bL_fits_166 {p : Program} {l : Launch} {e : Env} {s : State} {m : MethodId} {args : Array Value} {below : List Frame} {meth : Method} {c : Code} {D : va_G} {cy : Nat → ClassId} {a : Nat} (hx : p.tables.exec = Jvm.exec) (hb : c.code = cL_fits) (hr : meth.sig.returnType = (some .boolean)) (hml : c.maxLocals = 10) (hown : s.vm.findClass RL = some m.cls) (hts : ∀ w ∈ wsL_fits, w.before args s = true) (hlocks : meth.locks = false) (hK : KS D cy s) (hZ : ZZ a s s.heap) (hfl : l.stackTraces = false) {out : Int32} : ∀ (n : Nat), ∀ (x1 : Int32) (x2 : Int32) (x3 : Int32) (x4 : Int32) (x5 : Int32) (x6 : Int32) (x7 : Int32) (x8 : Int32) (cells slots : Nat) (M : Mm) (H : Heap) (locs : List Loc) (ls : Array Slot), cells + (39 + n * 4) ≤ 2624 → slots + (234 + n * 24) ≤ 15744 → HP D cy a M H → va_S (Aq a) s.heap H locs → lv_has ls 10 [(0, .ref (a + 0)), (1, .int x1), (2, .int x2), (3, .int x3), (4, .int x4), (5, .int x5), (6, .int x6), (7, .int x7), (8, .int x8)] → narrow .boolean (.int x7) = .int x7 → fL_fits_L166 n x1 x2 x3 x4 x5 x6 x7 x8 M = some out → W p l e rL_fits s m args below meth c H locs cells slots (MQ below (QB D cy a out M) args s 2624 15744 (Aq a)) (F0 m 166 ls []) := by
  intro n
  induction n with
  | zero =>
    intro x1 x2 x3 x4 x5 x6 x7 x8 cells slots M H locs ls hc1 hc2 hw hS hl hb7 hf
    have hf : (none : Option (Int32)) = some out := hf
    cases hf
  | succ n ih =>
    intro x1 x2 x3 x4 x5 x6 x7 x8 cells slots M H locs ls hc1 hc2 hw hS hl hb7 hf
    unfold fL_fits_L166 at hf
    refine lv_iload hx hb dL_fits_166 (lv_at hl 8 rfl) ?_
    refine lv_iload_n hx hb dL_fits_168 rfl (lv_at hl 2 rfl) ?_
    refine lv_icmp_ge (tgt := 224) hx hb dL_fits_169 (by decide) (fun c1 => ?_) (fun c1 => ?_)
    · have hf := ip c1 hf
      refine lv_iconst (v := (0 : Int32)) hx hb dL_fits_224 (by decide) ?_
      refine lv_istore (lv' := [(8, .int (0 : Int32)), (0, .ref (a + 0)), (1, .int x1), (2, .int x2), (3, .int x3), (4, .int x4), (5, .int x5), (6, .int x6), (7, .int x7)]) hx hb dL_fits_225 hl (Nat.le_of_ble_eq_true rfl) rfl (fun ls hl => ?_)
      exact bL_fits_227 hx hb hr hml hown hts hlocks hK hZ hfl 6 _ _ _ _ _ _ _ _ _ _ _ _ _ (by omega) (by omega) hw hS (lv_sub hl [1, 3, 4, 5, 6, 7, 8, 0] rfl) hb7 hf
    · have hf := iq c1 hf
      refine lv_iload hx hb dL_fits_172 (lv_at hl 7 rfl) ?_
      refine lv_if_eq (tgt := 224) hx hb dL_fits_174 (by decide) (fun c2 => ?_) (fun c2 => ?_)
      · have hf := ip c2 hf
        refine lv_iconst (v := (0 : Int32)) hx hb dL_fits_224 (by decide) ?_
        refine lv_istore (lv' := [(8, .int (0 : Int32)), (0, .ref (a + 0)), (1, .int x1), (2, .int x2), (3, .int x3), (4, .int x4), (5, .int x5), (6, .int x6), (7, .int x7)]) hx hb dL_fits_225 hl (Nat.le_of_ble_eq_true rfl) rfl (fun ls hl => ?_)
        exact bL_fits_227 hx hb hr hml hown hts hlocks hK hZ hfl 6 _ _ _ _ _ _ _ _ _ _ _ _ _ (by omega) (by omega) hw hS (lv_sub hl [1, 3, 4, 5, 6, 7, 8, 0] rfl) hb7 hf
      · have hf := iq c2 hf
        refine lv_aload_n hx hb dL_fits_177 rfl (lv_at hl 0 rfl) ?_
        refine lv_iload hx hb dL_fits_178 (lv_at hl 8 rfl) ?_
        obtain ⟨o3, ho3, hf⟩ := ob hf
        refine rCallI (vx_runSW (hh := [(0, 5, 6, 23)]) (As := [.ref (a + 0), .int x8]) (rest := []) ⟨hx, hb, hml, hown, hts⟩ (ctL_unit (l := l) (D := D) (cy := cy) (a := a) hfl ho3) (vx_cwSW 2 hts gL_fits_L_unit rfl rfl rfl (by decide +kernel) ⟨Nat.le_of_ble_eq_true rfl, Nat.le_of_ble_eq_true rfl⟩) (pS hK hZ hw hS) rfl rfl hl.1 rfl (lv_room (Nat.le_of_ble_eq_true rfl)) dL_fits_180 ⟨(by show _ ≤ 2624; omega), (by show _ ≤ 15744; omega)⟩) hS (fun H locs hw hS => ?_)
        refine lv_aload_n hx hb dL_fits_183 rfl (lv_at hl 0 rfl) ?_
        refine lv_iload hx hb dL_fits_184 (lv_at hl 8 rfl) ?_
        obtain ⟨o4, ho4, hf⟩ := ob hf
        refine rCallI (vx_runSW (hh := [(0, 5, 6, 23)]) (As := [.ref (a + 0), .int x8]) (rest := [.int o3]) ⟨hx, hb, hml, hown, hts⟩ (ctL_unitAnew (l := l) (D := D) (cy := cy) (a := a) hfl ho4) (vx_cwSW 2 hts gL_fits_L_unitAnew rfl rfl rfl (by decide +kernel) ⟨Nat.le_of_ble_eq_true rfl, Nat.le_of_ble_eq_true rfl⟩) (pS hK hZ hw hS) rfl rfl hl.1 rfl (lv_room (Nat.le_of_ble_eq_true rfl)) dL_fits_186 ⟨(by show _ ≤ 2624; omega), (by show _ ≤ 15744; omega)⟩) hS (fun H locs hw hS => ?_)
        refine lv_icmp_ne (tgt := 215) hx hb dL_fits_189 (by decide) (fun c5 => ?_) (fun c5 => ?_)
        · have hf := iq c5 hf
          refine lv_iconst (v := (0 : Int32)) hx hb dL_fits_215 (by decide) ?_
          refine lv_istore (lv' := [(7, .int (0 : Int32)), (0, .ref (a + 0)), (1, .int x1), (2, .int x2), (3, .int x3), (4, .int x4), (5, .int x5), (6, .int x6), (8, .int x8)]) hx hb dL_fits_216 hl (Nat.le_of_ble_eq_true rfl) rfl (fun ls hl => ?_)
          refine lv_iinc (v := x8 + (1 : Int32)) (lv' := [(8, .int (x8 + (1 : Int32))), (7, .int (0 : Int32)), (0, .ref (a + 0)), (1, .int x1), (2, .int x2), (3, .int x3), (4, .int x4), (5, .int x5), (6, .int x6)]) hx hb dL_fits_218 hl (k := 8) rfl rfl (Nat.le_of_ble_eq_true rfl) rfl (fun ls hl => ?_)
          refine lv_goto (tgt := 166) hx hb dL_fits_221 (by decide) ?_
          exact ih _ _ _ _ _ _ _ _ _ _ _ _ _ _ (by omega) (by omega) hw hS (lv_sub hl [2, 3, 4, 5, 6, 7, 8, 1, 0] rfl) rfl hf
        · have hf := ip c5 hf
          refine lv_aload_n hx hb dL_fits_192 rfl (lv_at hl 0 rfl) ?_
          refine lv_iload hx hb dL_fits_193 (lv_at hl 8 rfl) ?_
          obtain ⟨o6, ho6, hf⟩ := ob hf
          refine rCallI (vx_runSW (hh := [(0, 5, 6, 23)]) (As := [.ref (a + 0), .int x8]) (rest := []) ⟨hx, hb, hml, hown, hts⟩ (ctL_unit (l := l) (D := D) (cy := cy) (a := a) hfl ho6) (vx_cwSW 2 hts gL_fits_L_unit rfl rfl rfl (by decide +kernel) ⟨Nat.le_of_ble_eq_true rfl, Nat.le_of_ble_eq_true rfl⟩) (pS hK hZ hw hS) rfl rfl hl.1 rfl (lv_room (Nat.le_of_ble_eq_true rfl)) dL_fits_195 ⟨(by show _ ≤ 2624; omega), (by show _ ≤ 15744; omega)⟩) hS (fun H locs hw hS => ?_)
          refine lv_if_lt (tgt := 215) hx hb dL_fits_198 (by decide) (fun c7 => ?_) (fun c7 => ?_)
          · have hf := ip c7 hf
            refine lv_iconst (v := (0 : Int32)) hx hb dL_fits_215 (by decide) ?_
            refine lv_istore (lv' := [(7, .int (0 : Int32)), (0, .ref (a + 0)), (1, .int x1), (2, .int x2), (3, .int x3), (4, .int x4), (5, .int x5), (6, .int x6), (8, .int x8)]) hx hb dL_fits_216 hl (Nat.le_of_ble_eq_true rfl) rfl (fun ls hl => ?_)
            refine lv_iinc (v := x8 + (1 : Int32)) (lv' := [(8, .int (x8 + (1 : Int32))), (7, .int (0 : Int32)), (0, .ref (a + 0)), (1, .int x1), (2, .int x2), (3, .int x3), (4, .int x4), (5, .int x5), (6, .int x6)]) hx hb dL_fits_218 hl (k := 8) rfl rfl (Nat.le_of_ble_eq_true rfl) rfl (fun ls hl => ?_)
            refine lv_goto (tgt := 166) hx hb dL_fits_221 (by decide) ?_
            exact ih _ _ _ _ _ _ _ _ _ _ _ _ _ _ (by omega) (by omega) hw hS (lv_sub hl [2, 3, 4, 5, 6, 7, 8, 1, 0] rfl) rfl hf
          · have hf := iq c7 hf
            refine lv_aload_n hx hb dL_fits_201 rfl (lv_at hl 0 rfl) ?_
            refine lv_iload hx hb dL_fits_202 (lv_at hl 8 rfl) ?_
            obtain ⟨o8, ho8, hf⟩ := ob hf
            refine rCallI (vx_runSW (hh := [(0, 5, 6, 23)]) (As := [.ref (a + 0), .int x8]) (rest := []) ⟨hx, hb, hml, hown, hts⟩ (ctL_unit (l := l) (D := D) (cy := cy) (a := a) hfl ho8) (vx_cwSW 2 hts gL_fits_L_unit rfl rfl rfl (by decide +kernel) ⟨Nat.le_of_ble_eq_true rfl, Nat.le_of_ble_eq_true rfl⟩) (pS hK hZ hw hS) rfl rfl hl.1 rfl (lv_room (Nat.le_of_ble_eq_true rfl)) dL_fits_204 ⟨(by show _ ≤ 2624; omega), (by show _ ≤ 15744; omega)⟩) hS (fun H locs hw hS => ?_)
            refine lv_iload_n hx hb dL_fits_207 rfl (lv_at hl 1 rfl) ?_
            refine lv_icmp_ge (tgt := 215) hx hb dL_fits_208 (by decide) (fun c9 => ?_) (fun c9 => ?_)
            · have hf := ip c9 hf
              refine lv_iconst (v := (0 : Int32)) hx hb dL_fits_215 (by decide) ?_
              refine lv_istore (lv' := [(7, .int (0 : Int32)), (0, .ref (a + 0)), (1, .int x1), (2, .int x2), (3, .int x3), (4, .int x4), (5, .int x5), (6, .int x6), (8, .int x8)]) hx hb dL_fits_216 hl (Nat.le_of_ble_eq_true rfl) rfl (fun ls hl => ?_)
              refine lv_iinc (v := x8 + (1 : Int32)) (lv' := [(8, .int (x8 + (1 : Int32))), (7, .int (0 : Int32)), (0, .ref (a + 0)), (1, .int x1), (2, .int x2), (3, .int x3), (4, .int x4), (5, .int x5), (6, .int x6)]) hx hb dL_fits_218 hl (k := 8) rfl rfl (Nat.le_of_ble_eq_true rfl) rfl (fun ls hl => ?_)
              refine lv_goto (tgt := 166) hx hb dL_fits_221 (by decide) ?_
              exact ih _ _ _ _ _ _ _ _ _ _ _ _ _ _ (by omega) (by omega) hw hS (lv_sub hl [2, 3, 4, 5, 6, 7, 8, 1, 0] rfl) rfl hf
            · have hf := iq c9 hf
              refine lv_iconst (v := (1 : Int32)) hx hb dL_fits_211 (by decide) ?_
              refine lv_goto (tgt := 216) hx hb dL_fits_212 (by decide) ?_
              refine lv_istore (lv' := [(7, .int (1 : Int32)), (0, .ref (a + 0)), (1, .int x1), (2, .int x2), (3, .int x3), (4, .int x4), (5, .int x5), (6, .int x6), (8, .int x8)]) hx hb dL_fits_216 hl (Nat.le_of_ble_eq_true rfl) rfl (fun ls hl => ?_)
              refine lv_iinc (v := x8 + (1 : Int32)) (lv' := [(8, .int (x8 + (1 : Int32))), (7, .int (1 : Int32)), (0, .ref (a + 0)), (1, .int x1), (2, .int x2), (3, .int x3), (4, .int x4), (5, .int x5), (6, .int x6)]) hx hb dL_fits_218 hl (k := 8) rfl rfl (Nat.le_of_ble_eq_true rfl) rfl (fun ls hl => ?_)
              refine lv_goto (tgt := 166) hx hb dL_fits_221 (by decide) ?_
              exact ih _ _ _ _ _ _ _ _ _ _ _ _ _ _ (by omega) (by omega) hw hS (lv_sub hl [2, 3, 4, 5, 6, 7, 8, 1, 0] rfl) rfl hf
set_option maxRecDepth 100000 in
set_option maxHeartbeats 4000000 in
theorem bL_fits_21 {p : Program} {l : Launch} {e : Env} {s : State} {m : MethodId} {args : Array Value} {below : List Frame} {meth : Method} {c : Code} {D : va_G} {cy : Nat → ClassId} {a : Nat} (hx : p.tables.exec = Jvm.exec) (hb : c.code = cL_fits) (hr : meth.sig.returnType = (some .boolean)) (hml : c.maxLocals = 10) (hown : s.vm.findClass RL = some m.cls) (hts : ∀ w ∈ wsL_fits, w.before args s = true) (hlocks : meth.locks = false) (hK : KS D cy s) (hZ : ZZ a s s.heap) (hfl : l.stackTraces = false) {out : Int32} : ∀ (n : Nat), ∀ (x1 : Int32) (x2 : Int32) (x3 : Int32) (x4 : Int32) (x5 : Int32) (x6 : Int32) (x7 : Int32) (x8 : Int32) (cells slots : Nat) (M : Mm) (H : Heap) (locs : List Loc) (ls : Array Slot), cells + (1639 + n * 24) ≤ 2624 → slots + (9834 + n * 144) ≤ 15744 → HP D cy a M H → va_S (Aq a) s.heap H locs → lv_has ls 10 [(0, .ref (a + 0)), (1, .int x1), (2, .int x2), (3, .int x3), (4, .int x4), (5, .int x5), (6, .int x6), (7, .int x7), (8, .int x8)] → narrow .boolean (.int x7) = .int x7 → fL_fits_L21 n x1 x2 x3 x4 x5 x6 x7 x8 M = some out → W p l e rL_fits s m args below meth c H locs cells slots (MQ below (QB D cy a out M) args s 2624 15744 (Aq a)) (F0 m 21 ls []) := by
  intro n
  induction n with
  | zero =>
    intro x1 x2 x3 x4 x5 x6 x7 x8 cells slots M H locs ls hc1 hc2 hw hS hl hb7 hf
    have hf : (none : Option (Int32)) = some out := hf
    cases hf
  | succ n ih =>
    intro x1 x2 x3 x4 x5 x6 x7 x8 cells slots M H locs ls hc1 hc2 hw hS hl hb7 hf
    unfold fL_fits_L21 at hf
    refine lv_iload hx hb dL_fits_21 (lv_at hl 8 rfl) ?_
    refine lv_iload_n hx hb dL_fits_23 rfl (lv_at hl 1 rfl) ?_
    refine lv_icmp_ge (tgt := 163) hx hb dL_fits_24 (by decide) (fun c1 => ?_) (fun c1 => ?_)
    · have hf := ip c1 hf
      refine lv_iconst (v := (0 : Int32)) hx hb dL_fits_163 (by decide) ?_
      refine lv_istore (lv' := [(8, .int (0 : Int32)), (0, .ref (a + 0)), (1, .int x1), (2, .int x2), (3, .int x3), (4, .int x4), (5, .int x5), (6, .int x6), (7, .int x7)]) hx hb dL_fits_164 hl (Nat.le_of_ble_eq_true rfl) rfl (fun ls hl => ?_)
      exact bL_fits_166 hx hb hr hml hown hts hlocks hK hZ hfl 400 _ _ _ _ _ _ _ _ _ _ _ _ _ _ (by omega) (by omega) hw hS (lv_sub hl [1, 2, 3, 4, 5, 6, 7, 8, 0] rfl) hb7 hf
    · have hf := iq c1 hf
      refine lv_iload hx hb dL_fits_27 (lv_at hl 7 rfl) ?_
      refine lv_if_eq (tgt := 163) hx hb dL_fits_29 (by decide) (fun c2 => ?_) (fun c2 => ?_)
      · have hf := ip c2 hf
        refine lv_iconst (v := (0 : Int32)) hx hb dL_fits_163 (by decide) ?_
        refine lv_istore (lv' := [(8, .int (0 : Int32)), (0, .ref (a + 0)), (1, .int x1), (2, .int x2), (3, .int x3), (4, .int x4), (5, .int x5), (6, .int x6), (7, .int x7)]) hx hb dL_fits_164 hl (Nat.le_of_ble_eq_true rfl) rfl (fun ls hl => ?_)
        exact bL_fits_166 hx hb hr hml hown hts hlocks hK hZ hfl 400 _ _ _ _ _ _ _ _ _ _ _ _ _ _ (by omega) (by omega) hw hS (lv_sub hl [1, 2, 3, 4, 5, 6, 7, 8, 0] rfl) hb7 hf
      · have hf := iq c2 hf
        refine lv_aload_n hx hb dL_fits_32 rfl (lv_at hl 0 rfl) ?_
        refine lv_iload hx hb dL_fits_33 (lv_at hl 8 rfl) ?_
        refine lv_iconst (v := (2 : Int32)) hx hb dL_fits_35 (by decide) ?_
        obtain ⟨o3, ho3, hf⟩ := ob hf
        refine rCallI (vx_runSW (hh := [(0, 6, 7, 23), (0, 6, 11, 15)]) (As := [.ref (a + 0), .int x8, .int (2 : Int32)]) (rest := []) ⟨hx, hb, hml, hown, hts⟩ (ctL_batch (l := l) (D := D) (cy := cy) (a := a) hfl ho3) (vx_cwSW 3 hts gL_fits_L_batch rfl rfl rfl (by decide +kernel) ⟨Nat.le_of_ble_eq_true rfl, Nat.le_of_ble_eq_true rfl⟩) (pS hK hZ hw hS) rfl rfl hl.1 rfl (lv_room (Nat.le_of_ble_eq_true rfl)) dL_fits_36 ⟨(by show _ ≤ 2624; omega), (by show _ ≤ 15744; omega)⟩) hS (fun H locs hw hS => ?_)
        refine lv_aload_n hx hb dL_fits_39 rfl (lv_at hl 0 rfl) ?_
        refine lv_iload hx hb dL_fits_40 (lv_at hl 8 rfl) ?_
        refine lv_iconst (v := (3 : Int32)) hx hb dL_fits_42 (by decide) ?_
        obtain ⟨o4, ho4, hf⟩ := ob hf
        refine rCallI (vx_runSW (hh := [(0, 6, 7, 23), (0, 6, 11, 15)]) (As := [.ref (a + 0), .int x8, .int (3 : Int32)]) (rest := [.int o3]) ⟨hx, hb, hml, hown, hts⟩ (ctL_batch (l := l) (D := D) (cy := cy) (a := a) hfl ho4) (vx_cwSW 3 hts gL_fits_L_batch rfl rfl rfl (by decide +kernel) ⟨Nat.le_of_ble_eq_true rfl, Nat.le_of_ble_eq_true rfl⟩) (pS hK hZ hw hS) rfl rfl hl.1 rfl (lv_room (Nat.le_of_ble_eq_true rfl)) dL_fits_43 ⟨(by show _ ≤ 2624; omega), (by show _ ≤ 15744; omega)⟩) hS (fun H locs hw hS => ?_)
        refine lv_iadd hx hb dL_fits_46 ?_
        refine lv_aload_n hx hb dL_fits_47 rfl (lv_at hl 0 rfl) ?_
        refine lv_iload hx hb dL_fits_48 (lv_at hl 8 rfl) ?_
        refine lv_iconst (v := (4 : Int32)) hx hb dL_fits_50 (by decide) ?_
        obtain ⟨o5, ho5, hf⟩ := ob hf
        refine rCallI (vx_runSW (hh := [(0, 6, 7, 23), (0, 6, 11, 15)]) (As := [.ref (a + 0), .int x8, .int (4 : Int32)]) (rest := [.int (o3 + o4)]) ⟨hx, hb, hml, hown, hts⟩ (ctL_batch (l := l) (D := D) (cy := cy) (a := a) hfl ho5) (vx_cwSW 3 hts gL_fits_L_batch rfl rfl rfl (by decide +kernel) ⟨Nat.le_of_ble_eq_true rfl, Nat.le_of_ble_eq_true rfl⟩) (pS hK hZ hw hS) rfl rfl hl.1 rfl (lv_room (Nat.le_of_ble_eq_true rfl)) dL_fits_51 ⟨(by show _ ≤ 2624; omega), (by show _ ≤ 15744; omega)⟩) hS (fun H locs hw hS => ?_)
        refine lv_iadd hx hb dL_fits_54 ?_
        refine lv_istore (lv' := [(9, .int ((o3 + o4) + o5)), (0, .ref (a + 0)), (1, .int x1), (2, .int x2), (3, .int x3), (4, .int x4), (5, .int x5), (6, .int x6), (7, .int x7), (8, .int x8)]) hx hb dL_fits_55 hl (Nat.le_of_ble_eq_true rfl) rfl (fun ls hl => ?_)
        refine lv_iload hx hb dL_fits_57 (lv_at hl 5 rfl) ?_
        refine lv_aload_n hx hb dL_fits_59 rfl (lv_at hl 1 rfl) ?_
        refine lv_iload hx hb dL_fits_60 (lv_at hl 9 rfl) ?_
        refine lv_iconst (v := (1 : Int32)) hx hb dL_fits_62 (by decide) ?_
        obtain ⟨o6, ho6, hf⟩ := ob hf
        refine rCallI (vx_runSW (hh := [(0, 6, 7, 23), (0, 6, 11, 15)]) (As := [.ref (a + 0), .int x8, .int (1 : Int32)]) (rest := [.int x4]) ⟨hx, hb, hml, hown, hts⟩ (ctL_batch (l := l) (D := D) (cy := cy) (a := a) hfl ho6) (vx_cwSW 3 hts gL_fits_L_batch rfl rfl rfl (by decide +kernel) ⟨Nat.le_of_ble_eq_true rfl, Nat.le_of_ble_eq_true rfl⟩) (pS hK hZ hw hS) rfl rfl hl.1 rfl (lv_room (Nat.le_of_ble_eq_true rfl)) dL_fits_63 ⟨(by show _ ≤ 2624; omega), (by show _ ≤ 15744; omega)⟩) hS (fun H locs hw hS => ?_)
        refine lv_iadd hx hb dL_fits_66 ?_
        refine lv_istore (lv' := [(4, .int (x4 + o6)), (9, .int ((o3 + o4) + o5)), (0, .ref (a + 0)), (1, .int x1), (2, .int x2), (3, .int x3), (5, .int x5), (6, .int x6), (7, .int x7), (8, .int x8)]) hx hb dL_fits_67 hl (Nat.le_of_ble_eq_true rfl) rfl (fun ls hl => ?_)
        refine lv_iload hx hb dL_fits_69 (lv_at hl 6 rfl) ?_
        refine lv_aload_n hx hb dL_fits_71 rfl (lv_at hl 2 rfl) ?_
        refine lv_iload hx hb dL_fits_72 (lv_at hl 9 rfl) ?_
        refine lv_iconst (v := (2 : Int32)) hx hb dL_fits_74 (by decide) ?_
        obtain ⟨o7, ho7, hf⟩ := ob hf
        refine rCallI (vx_runSW (hh := [(0, 6, 7, 23), (0, 6, 11, 15)]) (As := [.ref (a + 0), .int x8, .int (2 : Int32)]) (rest := [.int x5]) ⟨hx, hb, hml, hown, hts⟩ (ctL_batch (l := l) (D := D) (cy := cy) (a := a) hfl ho7) (vx_cwSW 3 hts gL_fits_L_batch rfl rfl rfl (by decide +kernel) ⟨Nat.le_of_ble_eq_true rfl, Nat.le_of_ble_eq_true rfl⟩) (pS hK hZ hw hS) rfl rfl hl.1 rfl (lv_room (Nat.le_of_ble_eq_true rfl)) dL_fits_75 ⟨(by show _ ≤ 2624; omega), (by show _ ≤ 15744; omega)⟩) hS (fun H locs hw hS => ?_)
        refine lv_aload_n hx hb dL_fits_78 rfl (lv_at hl 2 rfl) ?_
        refine lv_iload hx hb dL_fits_79 (lv_at hl 9 rfl) ?_
        refine lv_iconst (v := (3 : Int32)) hx hb dL_fits_81 (by decide) ?_
        obtain ⟨o8, ho8, hf⟩ := ob hf
        refine rCallI (vx_runSW (hh := [(0, 6, 7, 23), (0, 6, 11, 15)]) (As := [.ref (a + 0), .int x8, .int (3 : Int32)]) (rest := [.int o7, .int x5]) ⟨hx, hb, hml, hown, hts⟩ (ctL_batch (l := l) (D := D) (cy := cy) (a := a) hfl ho8) (vx_cwSW 3 hts gL_fits_L_batch rfl rfl rfl (by decide +kernel) ⟨Nat.le_of_ble_eq_true rfl, Nat.le_of_ble_eq_true rfl⟩) (pS hK hZ hw hS) rfl rfl hl.1 rfl (lv_room (Nat.le_of_ble_eq_true rfl)) dL_fits_82 ⟨(by show _ ≤ 2624; omega), (by show _ ≤ 15744; omega)⟩) hS (fun H locs hw hS => ?_)
        refine lv_iadd hx hb dL_fits_85 ?_
        refine lv_iadd hx hb dL_fits_86 ?_
        refine lv_istore (lv' := [(5, .int (x5 + (o7 + o8))), (4, .int (x4 + o6)), (9, .int ((o3 + o4) + o5)), (0, .ref (a + 0)), (1, .int x1), (2, .int x2), (3, .int x3), (6, .int x6), (7, .int x7), (8, .int x8)]) hx hb dL_fits_87 hl (Nat.le_of_ble_eq_true rfl) rfl (fun ls hl => ?_)
        refine lv_iload_n hx hb dL_fits_89 rfl (lv_at hl 6 rfl) ?_
        refine lv_aload_n hx hb dL_fits_90 rfl (lv_at hl 3 rfl) ?_
        refine lv_iload hx hb dL_fits_91 (lv_at hl 9 rfl) ?_
        refine lv_iconst (v := (0 : Int32)) hx hb dL_fits_93 (by decide) ?_
        obtain ⟨o9, ho9, hf⟩ := ob hf
        refine rCallI (vx_runSW (hh := [(0, 6, 7, 23), (0, 6, 11, 15)]) (As := [.ref (a + 0), .int x8, .int (0 : Int32)]) (rest := [.int x3]) ⟨hx, hb, hml, hown, hts⟩ (ctL_batch (l := l) (D := D) (cy := cy) (a := a) hfl ho9) (vx_cwSW 3 hts gL_fits_L_batch rfl rfl rfl (by decide +kernel) ⟨Nat.le_of_ble_eq_true rfl, Nat.le_of_ble_eq_true rfl⟩) (pS hK hZ hw hS) rfl rfl hl.1 rfl (lv_room (Nat.le_of_ble_eq_true rfl)) dL_fits_94 ⟨(by show _ ≤ 2624; omega), (by show _ ≤ 15744; omega)⟩) hS (fun H locs hw hS => ?_)
        refine lv_iadd hx hb dL_fits_97 ?_
        refine lv_istore_n (lv' := [(3, .int (x3 + o9)), (5, .int (x5 + (o7 + o8))), (4, .int (x4 + o6)), (9, .int ((o3 + o4) + o5)), (0, .ref (a + 0)), (1, .int x1), (2, .int x2), (6, .int x6), (7, .int x7), (8, .int x8)]) hx hb dL_fits_98 rfl hl (Nat.le_of_ble_eq_true rfl) rfl (fun ls hl => ?_)
        refine lv_aload_n hx hb dL_fits_99 rfl (lv_at hl 4 rfl) ?_
        refine lv_iload hx hb dL_fits_100 (lv_at hl 9 rfl) ?_
        refine lv_iconst (v := (0 : Int32)) hx hb dL_fits_102 (by decide) ?_
        obtain ⟨o10, ho10, hf⟩ := ob hf
        refine rCallI (vx_runSW (hh := [(0, 6, 7, 23), (0, 6, 11, 15)]) (As := [.ref (a + 0), .int x8, .int (0 : Int32)]) (rest := []) ⟨hx, hb, hml, hown, hts⟩ (ctL_batch (l := l) (D := D) (cy := cy) (a := a) hfl ho10) (vx_cwSW 3 hts gL_fits_L_batch rfl rfl rfl (by decide +kernel) ⟨Nat.le_of_ble_eq_true rfl, Nat.le_of_ble_eq_true rfl⟩) (pS hK hZ hw hS) rfl rfl hl.1 rfl (lv_room (Nat.le_of_ble_eq_true rfl)) dL_fits_103 ⟨(by show _ ≤ 2624; omega), (by show _ ≤ 15744; omega)⟩) hS (fun H locs hw hS => ?_)
        refine lv_aload_n hx hb dL_fits_106 rfl (lv_at hl 4 rfl) ?_
        refine lv_iload hx hb dL_fits_107 (lv_at hl 9 rfl) ?_
        refine lv_iconst (v := (1 : Int32)) hx hb dL_fits_109 (by decide) ?_
        obtain ⟨o11, ho11, hf⟩ := ob hf
        refine rCallI (vx_runSW (hh := [(0, 6, 7, 23), (0, 6, 11, 15)]) (As := [.ref (a + 0), .int x8, .int (1 : Int32)]) (rest := [.int o10]) ⟨hx, hb, hml, hown, hts⟩ (ctL_batch (l := l) (D := D) (cy := cy) (a := a) hfl ho11) (vx_cwSW 3 hts gL_fits_L_batch rfl rfl rfl (by decide +kernel) ⟨Nat.le_of_ble_eq_true rfl, Nat.le_of_ble_eq_true rfl⟩) (pS hK hZ hw hS) rfl rfl hl.1 rfl (lv_room (Nat.le_of_ble_eq_true rfl)) dL_fits_110 ⟨(by show _ ≤ 2624; omega), (by show _ ≤ 15744; omega)⟩) hS (fun H locs hw hS => ?_)
        refine lv_iload hx hb dL_fits_113 (lv_at hl 3 rfl) ?_
        refine lv_isub hx hb dL_fits_115 ?_
        refine lv_icmp_ne (tgt := 154) hx hb dL_fits_116 (by decide) (fun c12 => ?_) (fun c12 => ?_)
        · have hf := iq c12 hf
          refine lv_iconst (v := (0 : Int32)) hx hb dL_fits_154 (by decide) ?_
          refine lv_istore (lv' := [(7, .int (0 : Int32)), (3, .int (x3 + o9)), (5, .int (x5 + (o7 + o8))), (4, .int (x4 + o6)), (9, .int ((o3 + o4) + o5)), (0, .ref (a + 0)), (1, .int x1), (2, .int x2), (6, .int x6), (8, .int x8)]) hx hb dL_fits_155 hl (Nat.le_of_ble_eq_true rfl) rfl (fun ls hl => ?_)
          refine lv_iinc (v := x8 + (1 : Int32)) (lv' := [(8, .int (x8 + (1 : Int32))), (7, .int (0 : Int32)), (3, .int (x3 + o9)), (5, .int (x5 + (o7 + o8))), (4, .int (x4 + o6)), (9, .int ((o3 + o4) + o5)), (0, .ref (a + 0)), (1, .int x1), (2, .int x2), (6, .int x6)]) hx hb dL_fits_157 hl (k := 9) rfl rfl (Nat.le_of_ble_eq_true rfl) rfl (fun ls hl => ?_)
          refine lv_goto (tgt := 21) hx hb dL_fits_160 (by decide) ?_
          exact ih _ _ _ _ _ _ _ _ _ _ _ _ _ _ (by omega) (by omega) hw hS (lv_sub hl [6, 7, 8, 2, 4, 3, 9, 1, 0] rfl) rfl hf
        · have hf := ip c12 hf
          refine lv_aload_n hx hb dL_fits_119 rfl (lv_at hl 4 rfl) ?_
          refine lv_iload hx hb dL_fits_120 (lv_at hl 9 rfl) ?_
          refine lv_iconst (v := (0 : Int32)) hx hb dL_fits_122 (by decide) ?_
          obtain ⟨o13, ho13, hf⟩ := ob hf
          refine rCallI (vx_runSW (hh := [(0, 6, 7, 23), (0, 6, 11, 15)]) (As := [.ref (a + 0), .int x8, .int (0 : Int32)]) (rest := []) ⟨hx, hb, hml, hown, hts⟩ (ctL_batch (l := l) (D := D) (cy := cy) (a := a) hfl ho13) (vx_cwSW 3 hts gL_fits_L_batch rfl rfl rfl (by decide +kernel) ⟨Nat.le_of_ble_eq_true rfl, Nat.le_of_ble_eq_true rfl⟩) (pS hK hZ hw hS) rfl rfl hl.1 rfl (lv_room (Nat.le_of_ble_eq_true rfl)) dL_fits_123 ⟨(by show _ ≤ 2624; omega), (by show _ ≤ 15744; omega)⟩) hS (fun H locs hw hS => ?_)
          refine lv_if_lt (tgt := 154) hx hb dL_fits_126 (by decide) (fun c14 => ?_) (fun c14 => ?_)
          · have hf := ip c14 hf
            refine lv_iconst (v := (0 : Int32)) hx hb dL_fits_154 (by decide) ?_
            refine lv_istore (lv' := [(7, .int (0 : Int32)), (3, .int (x3 + o9)), (5, .int (x5 + (o7 + o8))), (4, .int (x4 + o6)), (9, .int ((o3 + o4) + o5)), (0, .ref (a + 0)), (1, .int x1), (2, .int x2), (6, .int x6), (8, .int x8)]) hx hb dL_fits_155 hl (Nat.le_of_ble_eq_true rfl) rfl (fun ls hl => ?_)
            refine lv_iinc (v := x8 + (1 : Int32)) (lv' := [(8, .int (x8 + (1 : Int32))), (7, .int (0 : Int32)), (3, .int (x3 + o9)), (5, .int (x5 + (o7 + o8))), (4, .int (x4 + o6)), (9, .int ((o3 + o4) + o5)), (0, .ref (a + 0)), (1, .int x1), (2, .int x2), (6, .int x6)]) hx hb dL_fits_157 hl (k := 9) rfl rfl (Nat.le_of_ble_eq_true rfl) rfl (fun ls hl => ?_)
            refine lv_goto (tgt := 21) hx hb dL_fits_160 (by decide) ?_
            exact ih _ _ _ _ _ _ _ _ _ _ _ _ _ _ (by omega) (by omega) hw hS (lv_sub hl [6, 7, 8, 2, 4, 3, 9, 1, 0] rfl) rfl hf
          · have hf := iq c14 hf
            refine lv_aload_n hx hb dL_fits_129 rfl (lv_at hl 4 rfl) ?_
            refine lv_iload hx hb dL_fits_130 (lv_at hl 9 rfl) ?_
            refine lv_iconst (v := (5 : Int32)) hx hb dL_fits_132 (by decide) ?_
            obtain ⟨o15, ho15, hf⟩ := ob hf
            refine rCallI (vx_runSW (hh := [(0, 6, 7, 23), (0, 6, 11, 15)]) (As := [.ref (a + 0), .int x8, .int (5 : Int32)]) (rest := []) ⟨hx, hb, hml, hown, hts⟩ (ctL_batch (l := l) (D := D) (cy := cy) (a := a) hfl ho15) (vx_cwSW 3 hts gL_fits_L_batch rfl rfl rfl (by decide +kernel) ⟨Nat.le_of_ble_eq_true rfl, Nat.le_of_ble_eq_true rfl⟩) (pS hK hZ hw hS) rfl rfl hl.1 rfl (lv_room (Nat.le_of_ble_eq_true rfl)) dL_fits_133 ⟨(by show _ ≤ 2624; omega), (by show _ ≤ 15744; omega)⟩) hS (fun H locs hw hS => ?_)
            refine lv_if_lt (tgt := 154) hx hb dL_fits_136 (by decide) (fun c16 => ?_) (fun c16 => ?_)
            · have hf := ip c16 hf
              refine lv_iconst (v := (0 : Int32)) hx hb dL_fits_154 (by decide) ?_
              refine lv_istore (lv' := [(7, .int (0 : Int32)), (3, .int (x3 + o9)), (5, .int (x5 + (o7 + o8))), (4, .int (x4 + o6)), (9, .int ((o3 + o4) + o5)), (0, .ref (a + 0)), (1, .int x1), (2, .int x2), (6, .int x6), (8, .int x8)]) hx hb dL_fits_155 hl (Nat.le_of_ble_eq_true rfl) rfl (fun ls hl => ?_)
              refine lv_iinc (v := x8 + (1 : Int32)) (lv' := [(8, .int (x8 + (1 : Int32))), (7, .int (0 : Int32)), (3, .int (x3 + o9)), (5, .int (x5 + (o7 + o8))), (4, .int (x4 + o6)), (9, .int ((o3 + o4) + o5)), (0, .ref (a + 0)), (1, .int x1), (2, .int x2), (6, .int x6)]) hx hb dL_fits_157 hl (k := 9) rfl rfl (Nat.le_of_ble_eq_true rfl) rfl (fun ls hl => ?_)
              refine lv_goto (tgt := 21) hx hb dL_fits_160 (by decide) ?_
              exact ih _ _ _ _ _ _ _ _ _ _ _ _ _ _ (by omega) (by omega) hw hS (lv_sub hl [6, 7, 8, 2, 4, 3, 9, 1, 0] rfl) rfl hf
            · have hf := iq c16 hf
              refine lv_aload_n hx hb dL_fits_139 rfl (lv_at hl 4 rfl) ?_
              refine lv_iload hx hb dL_fits_140 (lv_at hl 9 rfl) ?_
              refine lv_bipush (v := (6 : Int32)) hx hb dL_fits_142 (by decide) ?_
              obtain ⟨o17, ho17, hf⟩ := ob hf
              refine rCallI (vx_runSW (hh := [(0, 6, 7, 23), (0, 6, 11, 15)]) (As := [.ref (a + 0), .int x8, .int (6 : Int32)]) (rest := []) ⟨hx, hb, hml, hown, hts⟩ (ctL_batch (l := l) (D := D) (cy := cy) (a := a) hfl ho17) (vx_cwSW 3 hts gL_fits_L_batch rfl rfl rfl (by decide +kernel) ⟨Nat.le_of_ble_eq_true rfl, Nat.le_of_ble_eq_true rfl⟩) (pS hK hZ hw hS) rfl rfl hl.1 rfl (lv_room (Nat.le_of_ble_eq_true rfl)) dL_fits_144 ⟨(by show _ ≤ 2624; omega), (by show _ ≤ 15744; omega)⟩) hS (fun H locs hw hS => ?_)
              refine lv_if_lt (tgt := 154) hx hb dL_fits_147 (by decide) (fun c18 => ?_) (fun c18 => ?_)
              · have hf := ip c18 hf
                refine lv_iconst (v := (0 : Int32)) hx hb dL_fits_154 (by decide) ?_
                refine lv_istore (lv' := [(7, .int (0 : Int32)), (3, .int (x3 + o9)), (5, .int (x5 + (o7 + o8))), (4, .int (x4 + o6)), (9, .int ((o3 + o4) + o5)), (0, .ref (a + 0)), (1, .int x1), (2, .int x2), (6, .int x6), (8, .int x8)]) hx hb dL_fits_155 hl (Nat.le_of_ble_eq_true rfl) rfl (fun ls hl => ?_)
                refine lv_iinc (v := x8 + (1 : Int32)) (lv' := [(8, .int (x8 + (1 : Int32))), (7, .int (0 : Int32)), (3, .int (x3 + o9)), (5, .int (x5 + (o7 + o8))), (4, .int (x4 + o6)), (9, .int ((o3 + o4) + o5)), (0, .ref (a + 0)), (1, .int x1), (2, .int x2), (6, .int x6)]) hx hb dL_fits_157 hl (k := 9) rfl rfl (Nat.le_of_ble_eq_true rfl) rfl (fun ls hl => ?_)
                refine lv_goto (tgt := 21) hx hb dL_fits_160 (by decide) ?_
                exact ih _ _ _ _ _ _ _ _ _ _ _ _ _ _ (by omega) (by omega) hw hS (lv_sub hl [6, 7, 8, 2, 4, 3, 9, 1, 0] rfl) rfl hf
              · have hf := iq c18 hf
                refine lv_iconst (v := (1 : Int32)) hx hb dL_fits_150 (by decide) ?_
                refine lv_goto (tgt := 155) hx hb dL_fits_151 (by decide) ?_
                refine lv_istore (lv' := [(7, .int (1 : Int32)), (3, .int (x3 + o9)), (5, .int (x5 + (o7 + o8))), (4, .int (x4 + o6)), (9, .int ((o3 + o4) + o5)), (0, .ref (a + 0)), (1, .int x1), (2, .int x2), (6, .int x6), (8, .int x8)]) hx hb dL_fits_155 hl (Nat.le_of_ble_eq_true rfl) rfl (fun ls hl => ?_)
                refine lv_iinc (v := x8 + (1 : Int32)) (lv' := [(8, .int (x8 + (1 : Int32))), (7, .int (1 : Int32)), (3, .int (x3 + o9)), (5, .int (x5 + (o7 + o8))), (4, .int (x4 + o6)), (9, .int ((o3 + o4) + o5)), (0, .ref (a + 0)), (1, .int x1), (2, .int x2), (6, .int x6)]) hx hb dL_fits_157 hl (k := 9) rfl rfl (Nat.le_of_ble_eq_true rfl) rfl (fun ls hl => ?_)
                refine lv_goto (tgt := 21) hx hb dL_fits_160 (by decide) ?_
                exact ih _ _ _ _ _ _ _ _ _ _ _ _ _ _ (by omega) (by omega) hw hS (lv_sub hl [6, 7, 8, 2, 4, 3, 9, 1, 0] rfl) rfl hf
set_option maxRecDepth 100000 in
set_option maxHeartbeats 4000000 in
theorem bL_fits_0 {p : Program} {l : Launch} {e : Env} {s : State} {m : MethodId} {args : Array Value} {below : List Frame} {meth : Method} {c : Code} {D : va_G} {cy : Nat → ClassId} {a : Nat} (hx : p.tables.exec = Jvm.exec) (hb : c.code = cL_fits) (hr : meth.sig.returnType = (some .boolean)) (hml : c.maxLocals = 10) (hown : s.vm.findClass RL = some m.cls) (hts : ∀ w ∈ wsL_fits, w.before args s = true) (hlocks : meth.locks = false) (hK : KS D cy s) (hZ : ZZ a s s.heap) (hfl : l.stackTraces = false) {out : Int32} : ∀ (x1 : Int32) (x2 : Int32) (cells slots : Nat) (M : Mm) (H : Heap) (locs : List Loc) (ls : Array Slot), cells + (2624) ≤ 2624 → slots + (15744) ≤ 15744 → HP D cy a M H → va_S (Aq a) s.heap H locs → lv_has ls 10 [(0, .ref (a + 0)), (1, .int x1), (2, .int x2)] → fL_fits x1 x2 M = some out → W p l e rL_fits s m args below meth c H locs cells slots (MQ below (QB D cy a out M) args s 2624 15744 (Aq a)) (F0 m 0 ls []) := by
  intro x1 x2 cells slots M H locs ls hc1 hc2 hw hS hl hf
  unfold fL_fits at hf
  refine lv_iconst (v := (0 : Int32)) hx hb dL_fits_0 (by decide) ?_
  refine lv_istore_n (lv' := [(3, .int (0 : Int32)), (0, .ref (a + 0)), (1, .int x1), (2, .int x2)]) hx hb dL_fits_1 rfl hl (Nat.le_of_ble_eq_true rfl) rfl (fun ls hl => ?_)
  refine lv_iconst (v := (0 : Int32)) hx hb dL_fits_2 (by decide) ?_
  refine lv_istore (lv' := [(4, .int (0 : Int32)), (3, .int (0 : Int32)), (0, .ref (a + 0)), (1, .int x1), (2, .int x2)]) hx hb dL_fits_3 hl (Nat.le_of_ble_eq_true rfl) rfl (fun ls hl => ?_)
  refine lv_iconst (v := (0 : Int32)) hx hb dL_fits_5 (by decide) ?_
  refine lv_istore (lv' := [(5, .int (0 : Int32)), (4, .int (0 : Int32)), (3, .int (0 : Int32)), (0, .ref (a + 0)), (1, .int x1), (2, .int x2)]) hx hb dL_fits_6 hl (Nat.le_of_ble_eq_true rfl) rfl (fun ls hl => ?_)
  refine lv_aload_n hx hb dL_fits_8 rfl (lv_at hl 3 rfl) ?_
  refine lv_iconst (v := (3 : Int32)) hx hb dL_fits_9 (by decide) ?_
  obtain ⟨o1, ho1, hf⟩ := ob hf
  refine rCallI (vx_runSW (hh := [(0, 5, 6, 15)]) (As := [.ref (a + 0), .int (3 : Int32)]) (rest := []) ⟨hx, hb, hml, hown, hts⟩ (ctL_pipe (l := l) (D := D) (cy := cy) (a := a) hfl ho1) (vx_cwSW 2 hts gL_fits_L_pipe rfl rfl rfl (by decide +kernel) ⟨Nat.le_of_ble_eq_true rfl, Nat.le_of_ble_eq_true rfl⟩) (pS hK hZ hw hS) rfl rfl hl.1 rfl (lv_room (Nat.le_of_ble_eq_true rfl)) dL_fits_10 ⟨(by show _ ≤ 2624; omega), (by show _ ≤ 15744; omega)⟩) hS (fun H locs hw hS => ?_)
  refine lv_istore (lv' := [(6, .int o1), (5, .int (0 : Int32)), (4, .int (0 : Int32)), (3, .int (0 : Int32)), (0, .ref (a + 0)), (1, .int x1), (2, .int x2)]) hx hb dL_fits_13 hl (Nat.le_of_ble_eq_true rfl) rfl (fun ls hl => ?_)
  refine lv_iconst (v := (1 : Int32)) hx hb dL_fits_15 (by decide) ?_
  refine lv_istore (lv' := [(7, .int (1 : Int32)), (6, .int o1), (5, .int (0 : Int32)), (4, .int (0 : Int32)), (3, .int (0 : Int32)), (0, .ref (a + 0)), (1, .int x1), (2, .int x2)]) hx hb dL_fits_16 hl (Nat.le_of_ble_eq_true rfl) rfl (fun ls hl => ?_)
  refine lv_iconst (v := (0 : Int32)) hx hb dL_fits_18 (by decide) ?_
  refine lv_istore (lv' := [(8, .int (0 : Int32)), (7, .int (1 : Int32)), (6, .int o1), (5, .int (0 : Int32)), (4, .int (0 : Int32)), (3, .int (0 : Int32)), (0, .ref (a + 0)), (1, .int x1), (2, .int x2)]) hx hb dL_fits_19 hl (Nat.le_of_ble_eq_true rfl) rfl (fun ls hl => ?_)
  exact bL_fits_21 hx hb hr hml hown hts hlocks hK hZ hfl 41 _ _ _ _ _ _ _ _ _ _ _ _ _ _ (by omega) (by omega) hw hS (lv_sub hl [6, 7, 8, 5, 4, 3, 2, 1, 0] rfl) rfl hf
set_option maxRecDepth 100000 in
set_option maxHeartbeats 4000000 in
theorem ctL_fits {l : Launch} {D : va_G} {cy : Nat → ClassId} {a : Nat} (hfl : l.stackTraces = false) {x1 : Int32} {x2 : Int32} {M : Mm} {out : Int32} (hf : fL_fits x1 x2 M = some out) : Met l yL_fits wsL_fits rL_fits (Pre D cy a M [.ref (a + 0), .int x1, .int x2]) (QB D cy a out M) 2624 15744 (Aq a) := by
  refine Met.ofW (cc := cL_fits) (maxL := 10) (ret := (some .boolean)) (by decide +kernel) rfl ?_
  intro p e s m args below meth c s₁ B hml hv
  obtain ⟨rfl, hw, hK, hZ⟩ := hv
  have hS : va_S (Aq a) s.heap s.heap [] := va_S.rf
  have hl := lv_entry ([.ref (a + 0), .int x1, .int x2]) (n := 10) (Nat.le_of_ble_eq_true rfl)
  rw [lg_entry_eq]
  generalize (lg_sl ([.ref (a + 0), .int x1, .int x2]) ++ List.replicate (10 - (lg_sl ([.ref (a + 0), .int x1, .int x2])).length) Slot.unset).toArray = ls at hl ⊢
  exact bL_fits_0 B.exec B.bytes B.returns hml (findClass_of_methodNamed B.named) (atoms_spec (ws := wsL_fits) B.pre) B.notSynchronized hK hZ hfl _ _ _ _ _ _ _ _ (by omega) (by omega) hw hS hl hf
