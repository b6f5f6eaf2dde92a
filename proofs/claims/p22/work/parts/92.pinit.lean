/-! THE PIPE'S CONSTRUCTOR -/
def cP (a : Nat) (x : Value) : List Value := [.ref (a + 1), .ref (a + 2), .ref (a + 3), .ref (a + 4), .ref (a + 5), .ref (a + (6 + 0)), .ref (a + (6 + 1)), .ref (a + (6 + 2)), .int 0, .int 1, .int 0, x, .int 0, .int 0, .int 0, .int 0, .int (-1)]
def cPn : List Value := [.null, .null, .null, .null, .null, .null, .null, .null, .int 0, .int 0, .int 0, .null, .int 0, .int 0, .int 0, .int 0, .int 0]
/-- the pipe's cells, its rows filled so far -/
def EI (cy : Nat → ClassId) (a : Nat) (c0 : List Value) (i1 i2 i3 i4 : Nat) : Nat → va_E := fun k =>
  if k < 9 then (match k with
    | 0 => .inr (5, c0)
    | 1 => .inl (cy 2, 6, .inr (.inr (.inr (.inr (fun j => if j < i1 then some (a + (9 + 3 * j)) else none)))))
    | 2 => .inl (cy 3, 6, .inr (.inr (.inr (.inr (fun j => if j < i2 then some (a + (27 + j)) else none)))))
    | 3 => .inl (cy 4, 40, .inr (.inr (.inr (.inr (fun j => if j < i3 then some (a + (33 + j)) else none)))))
    | 4 => .inl (cy 5, 4, .inr (.inr (.inr (.inr (fun j => if j < i4 then some (a + (73 + j)) else none)))))
    | 5 => .inl (cy 0, 5, .inl (fun _ => 0))
    | _ => .inr (4, eFour (upd (fun _ => 0) 0 (-1))))
  else if k < 27 then (if (k - 9) % 3 = 0 then .inr (2, [.ref (a + (k + 1)), .ref (a + (k + 2)), .int 0, .int 5, .int 0, .int 0, .int 0]) else if (k - 9) % 3 = 1 then .inl (cy 0, 60, .inl (fun _ => 0)) else .inl (cy 0, 6, .inl (fun _ => 0)))
  else if k < 33 then .inr (1, [.int (nI (k - 27)), .int 8, .int 3, .int (nI (k - 27)), .int 0])
  else if k < 73 then .inr (0, [.int (nI (k - 33)), .ref (a + 27), .int (-1), .int 0, .int 0, .int 0, .int 0, .int 0, .null, .null, .int 0, .int 0, .int 0])
  else .inr (3, eFour (upd (fun _ => 0) 1 (-1)))
set_option maxRecDepth 20000 in
theorem iX5_init_X5 : ∀ w ∈ wsX50, w ∈ wsX5_init := by decide +kernel
set_option maxRecDepth 20000 in
theorem iX5_init_X4 : ∀ w ∈ wsX40, w ∈ wsX5_init := by decide +kernel
set_option maxRecDepth 20000 in
theorem iX5_init_X2 : ∀ w ∈ wsX20, w ∈ wsX5_init := by decide +kernel
set_option maxRecDepth 20000 in
theorem iX5_init_X1 : ∀ w ∈ wsX10, w ∈ wsX5_init := by decide +kernel
set_option maxRecDepth 20000 in
theorem iX5_init_X0 : ∀ w ∈ wsX00, w ∈ wsX5_init := by decide +kernel
set_option maxRecDepth 20000 in
theorem iX5_init_X3 : ∀ w ∈ wsX30, w ∈ wsX5_init := by decide +kernel
def rI5 : Room := { frames := 2, cells := 76, slots := 1077, locals := 60 }
def AO (U : State) : Prop := va_AO RX2 U ∧ va_AO RX1 U ∧ va_AO RX0 U ∧ va_AO RX3 U
section Pi
variable {p : Program} {l : Launch} {e : Env} {s : State} {m : MethodId} {args : Array Value} {below : List Frame} {meth : Method} {c : Code} {D : va_G} {cy : Nat → ClassId} {a : Nat} {Q : State → Prop}
set_option maxRecDepth 100000 in
set_option maxHeartbeats 4000000 in
theorem bX5_init_0 (hx : p.tables.exec = Jvm.exec) (hb : c.code = cX5_init) (hml : c.maxLocals = 2) (hown : s.vm.findClass RX5 = some m.cls) (hmn : meth.name = "<init>") (hts : ∀ w ∈ wsX5_init, w.before args s = true) (hK : KS D cy s) (hO : AO s) (hsz : s.heap.size = a + 1) {E : Nat → va_E} (he : E 0 = .inr (5, cPn)) {H : Heap} {locs : List Loc} {ls : Array Slot} (hw : GP D a 1 E H) (hS : va_S (Aq a) s.heap H locs) (hl : lv_has ls 2 [(0, .ref (a + 0))])
    (K : ∀ (H : Heap) (locs : List Loc), GP D a 9 (EI cy a (cP a .null) 0 0 0 0) H → va_S (Aq a) s.heap H locs → W p l e rI5 s m args below meth c H locs 8 (0 + 6 + 6 + 40 + 4 + 5 + 4 + 4 + 4) Q (F0 m 89 ls [])) : W p l e rI5 s m args below meth c H locs 0 0 Q (F0 m 0 ls []) := by
  refine lv_aload_n hx hb dX5_init_0 rfl (lv_at hl 0 rfl) ?_
  refine W.objInit hx hb hown (hts _ (by decide +kernel)) (hts _ (by decide +kernel)) (hts _ (by decide +kernel)) rfl (by rw [hml]; exact hl.1) rfl dX5_init_1 (Nat.le_of_ble_eq_true rfl) (Nat.le_of_ble_eq_true rfl) ?_
  refine lv_aload_n hx hb dX5_init_4 rfl (lv_at hl 0 rfl) ?_
  refine lv_bipush (v := (6 : Int32)) hx hb dX5_init_5 (by decide) ?_
  refine gAnew (C := RX2) (t0 := 2) (N' := 6) hx hb hown (hts _ (by decide +kernel)) hO.1.use hK rfl hw hS (by decide) (by omega) (by omega) (by decide) rfl (Nat.le_of_ble_eq_true rfl) (Nat.le_of_ble_eq_true rfl) (Nat.le_of_ble_eq_true rfl) dX5_init_7 (fun H hw hS => ?_)
  refine gPutF hx hb hts iX5_init_X5 tyX5 tyX5_ok nmX5 hown hmn hK hw hS (k := 0) (by decide) (by rw [va_up_ne _ _ (by decide)]; exact he) rfl 0 (by decide) (hts _ (by decide +kernel)) rfl rfl rfl rfl rfl (Nat.le_of_ble_eq_true rfl) dX5_init_10 (fun H locs hw hS => ?_)
  refine lv_aload_n hx hb dX5_init_13 rfl (lv_at hl 0 rfl) ?_
  refine lv_bipush (v := (6 : Int32)) hx hb dX5_init_14 (by decide) ?_
  refine gAnew (C := RX1) (t0 := 3) (N' := 6) hx hb hown (hts _ (by decide +kernel)) hO.2.1.use hK rfl hw hS (by decide) (by omega) (by omega) (by decide) rfl (Nat.le_of_ble_eq_true rfl) (Nat.le_of_ble_eq_true rfl) (Nat.le_of_ble_eq_true rfl) dX5_init_16 (fun H hw hS => ?_)
  refine gPutF hx hb hts iX5_init_X5 tyX5 tyX5_ok nmX5 hown hmn hK hw hS (k := 0) (by decide) (by repeat (first | exact va_up_self _ _ _ | rw [va_up_ne _ _ (by decide)])) rfl 1 (by decide) (hts _ (by decide +kernel)) rfl rfl rfl rfl rfl (Nat.le_of_ble_eq_true rfl) dX5_init_19 (fun H locs hw hS => ?_)
  refine lv_aload_n hx hb dX5_init_22 rfl (lv_at hl 0 rfl) ?_
  refine lv_bipush (v := (40 : Int32)) hx hb dX5_init_23 (by decide) ?_
  refine gAnew (C := RX0) (t0 := 4) (N' := 40) hx hb hown (hts _ (by decide +kernel)) hO.2.2.1.use hK rfl hw hS (by decide) (by omega) (by omega) (by decide) rfl (Nat.le_of_ble_eq_true rfl) (Nat.le_of_ble_eq_true rfl) (Nat.le_of_ble_eq_true rfl) dX5_init_25 (fun H hw hS => ?_)
  refine gPutF hx hb hts iX5_init_X5 tyX5 tyX5_ok nmX5 hown hmn hK hw hS (k := 0) (by decide) (by repeat (first | exact va_up_self _ _ _ | rw [va_up_ne _ _ (by decide)])) rfl 2 (by decide) (hts _ (by decide +kernel)) rfl rfl rfl rfl rfl (Nat.le_of_ble_eq_true rfl) dX5_init_28 (fun H locs hw hS => ?_)
  refine lv_aload_n hx hb dX5_init_31 rfl (lv_at hl 0 rfl) ?_
  refine lv_iconst (v := (4 : Int32)) hx hb dX5_init_32 (by decide) ?_
  refine gAnew (C := RX3) (t0 := 5) (N' := 4) hx hb hown (hts _ (by decide +kernel)) hO.2.2.2.use hK rfl hw hS (by decide) (by omega) (by omega) (by decide) rfl (Nat.le_of_ble_eq_true rfl) (Nat.le_of_ble_eq_true rfl) (Nat.le_of_ble_eq_true rfl) dX5_init_33 (fun H hw hS => ?_)
  refine gPutF hx hb hts iX5_init_X5 tyX5 tyX5_ok nmX5 hown hmn hK hw hS (k := 0) (by decide) (by repeat (first | exact va_up_self _ _ _ | rw [va_up_ne _ _ (by decide)])) rfl 3 (by decide) (hts _ (by decide +kernel)) rfl rfl rfl rfl rfl (Nat.le_of_ble_eq_true rfl) dX5_init_36 (fun H locs hw hS => ?_)
  refine lv_aload_n hx hb dX5_init_39 rfl (lv_at hl 0 rfl) ?_
  refine lv_iconst (v := (5 : Int32)) hx hb dX5_init_40 (by decide) ?_
  refine gNewa (ty := .int) (t0 := 0) (N' := 5) (a0 := (5, .inl (fun _ => 0))) hx hb (hts _ (by decide +kernel)) rfl hK rfl (fun _ h => h) hw hS (by omega) (by omega) (fun _ => rfl) (by decide) rfl (Nat.le_of_ble_eq_true rfl) (Nat.le_of_ble_eq_true rfl) (Nat.le_of_ble_eq_true rfl) dX5_init_41 (fun H hw hS => ?_)
  refine gPutF hx hb hts iX5_init_X5 tyX5 tyX5_ok nmX5 hown hmn hK hw hS (k := 0) (by decide) (by repeat (first | exact va_up_self _ _ _ | rw [va_up_ne _ _ (by decide)])) rfl 4 (by decide) (hts _ (by decide +kernel)) rfl rfl rfl rfl rfl (Nat.le_of_ble_eq_true rfl) dX5_init_43 (fun H locs hw hS => ?_)
  refine lv_aload_n hx hb dX5_init_46 rfl (lv_at hl 0 rfl) ?_
  refine gNew (fs := eFour (fun _ => 0)) hx hb hts iX5_init_X4 tyX4 tyX4_ok hown (hts _ (by decide +kernel)) (hts _ (by decide +kernel)) (hts _ (by decide +kernel)) hK hw hS (by omega) (by omega) (ci := 4) rfl (by decide) (Nat.le_of_ble_eq_true rfl) (Nat.le_of_ble_eq_true rfl) dX5_init_47 (fun H hw hS => ?_)
  refine lv_dup hx hb dX5_init_50 rfl ?_
  refine gSz hw (by decide) (by omega) (fun hz => ?_)
  refine gCall (va_runIN (As := []) (rest := [.ref (a + 6), .ref (a + 0)]) ⟨hx, hb, hml, hown, hts⟩ (ctX4_init (l := l) (D := D) (cy := cy) (a := a) (n := 7) (k := 6) (by decide) (va_up_self _ _ _)) ⟨va_cnB 0 hts gX5_init_X4_init_n39 rfl rfl rfl (hK.2.2.1 _ nwM_39) (hts _ (by decide +kernel)) (by decide +kernel) ⟨Nat.le_of_ble_eq_true rfl, Nat.le_of_ble_eq_true rfl⟩, rfl, hts _ (by decide +kernel)⟩ (gS hK hw hz) rfl rfl hl.1 rfl (lv_room (Nat.le_of_ble_eq_true rfl)) dX5_init_51 ⟨Nat.le_of_ble_eq_true rfl, Nat.le_of_ble_eq_true rfl⟩) hS (fun H locs hw hz hS => ?_)
  refine gPutF hx hb hts iX5_init_X5 tyX5 tyX5_ok nmX5 hown hmn hK hw hS (k := 0) (by decide) (by repeat (first | exact va_up_self _ _ _ | rw [va_up_ne _ _ (by decide)])) rfl 5 (by decide) (hts _ (by decide +kernel)) rfl rfl rfl rfl rfl (Nat.le_of_ble_eq_true rfl) dX5_init_54 (fun H locs hw hS => ?_)
  refine lv_aload_n hx hb dX5_init_57 rfl (lv_at hl 0 rfl) ?_
  refine gNew (fs := eFour (fun _ => 0)) hx hb hts iX5_init_X4 tyX4 tyX4_ok hown (hts _ (by decide +kernel)) (hts _ (by decide +kernel)) (hts _ (by decide +kernel)) hK hw hS (by omega) (by omega) (ci := 4) rfl (by decide) (Nat.le_of_ble_eq_true rfl) (Nat.le_of_ble_eq_true rfl) dX5_init_58 (fun H hw hS => ?_)
  refine lv_dup hx hb dX5_init_61 rfl ?_
  refine gSz hw (by decide) (by omega) (fun hz => ?_)
  refine gCall (va_runIN (As := []) (rest := [.ref (a + 7), .ref (a + 0)]) ⟨hx, hb, hml, hown, hts⟩ (ctX4_init (l := l) (D := D) (cy := cy) (a := a) (n := 8) (k := 7) (by decide) (va_up_self _ _ _)) ⟨va_cnB 0 hts gX5_init_X4_init_n39 rfl rfl rfl (hK.2.2.1 _ nwM_39) (hts _ (by decide +kernel)) (by decide +kernel) ⟨Nat.le_of_ble_eq_true rfl, Nat.le_of_ble_eq_true rfl⟩, rfl, hts _ (by decide +kernel)⟩ (gS hK hw hz) rfl rfl hl.1 rfl (lv_room (Nat.le_of_ble_eq_true rfl)) dX5_init_62 ⟨Nat.le_of_ble_eq_true rfl, Nat.le_of_ble_eq_true rfl⟩) hS (fun H locs hw hz hS => ?_)
  refine gPutF hx hb hts iX5_init_X5 tyX5 tyX5_ok nmX5 hown hmn hK hw hS (k := 0) (by decide) (by repeat (first | exact va_up_self _ _ _ | rw [va_up_ne _ _ (by decide)])) rfl 6 (by decide) (hts _ (by decide +kernel)) rfl rfl rfl rfl rfl (Nat.le_of_ble_eq_true rfl) dX5_init_65 (fun H locs hw hS => ?_)
  refine lv_aload_n hx hb dX5_init_68 rfl (lv_at hl 0 rfl) ?_
  refine gNew (fs := eFour (fun _ => 0)) hx hb hts iX5_init_X4 tyX4 tyX4_ok hown (hts _ (by decide +kernel)) (hts _ (by decide +kernel)) (hts _ (by decide +kernel)) hK hw hS (by omega) (by omega) (ci := 4) rfl (by decide) (Nat.le_of_ble_eq_true rfl) (Nat.le_of_ble_eq_true rfl) dX5_init_69 (fun H hw hS => ?_)
  refine lv_dup hx hb dX5_init_72 rfl ?_
  refine gSz hw (by decide) (by omega) (fun hz => ?_)
  refine gCall (va_runIN (As := []) (rest := [.ref (a + 8), .ref (a + 0)]) ⟨hx, hb, hml, hown, hts⟩ (ctX4_init (l := l) (D := D) (cy := cy) (a := a) (n := 9) (k := 8) (by decide) (va_up_self _ _ _)) ⟨va_cnB 0 hts gX5_init_X4_init_n39 rfl rfl rfl (hK.2.2.1 _ nwM_39) (hts _ (by decide +kernel)) (by decide +kernel) ⟨Nat.le_of_ble_eq_true rfl, Nat.le_of_ble_eq_true rfl⟩, rfl, hts _ (by decide +kernel)⟩ (gS hK hw hz) rfl rfl hl.1 rfl (lv_room (Nat.le_of_ble_eq_true rfl)) dX5_init_73 ⟨Nat.le_of_ble_eq_true rfl, Nat.le_of_ble_eq_true rfl⟩) hS (fun H locs hw hz hS => ?_)
  refine gPutF hx hb hts iX5_init_X5 tyX5 tyX5_ok nmX5 hown hmn hK hw hS (k := 0) (by decide) (by repeat (first | exact va_up_self _ _ _ | rw [va_up_ne _ _ (by decide)])) rfl 7 (by decide) (hts _ (by decide +kernel)) rfl rfl rfl rfl rfl (Nat.le_of_ble_eq_true rfl) dX5_init_76 (fun H locs hw hS => ?_)
  refine lv_aload_n hx hb dX5_init_79 rfl (lv_at hl 0 rfl) ?_
  refine lv_iconst (v := (1 : Int32)) hx hb dX5_init_80 (by decide) ?_
  refine gPut hx hb hts iX5_init_X5 tyX5 tyX5_ok nmX5 hown hK hw hS (k := 0) (by decide) (by repeat (first | exact va_up_self _ _ _ | rw [va_up_ne _ _ (by decide)])) rfl 9 (by decide) (hts _ (by decide +kernel)) rfl rfl rfl rfl (Nat.le_of_ble_eq_true rfl) dX5_init_81 (fun H locs hw hS => ?_)
  refine lv_aload_n hx hb dX5_init_84 rfl (lv_at hl 0 rfl) ?_
  refine lv_iconst (v := (-1 : Int32)) hx hb dX5_init_85 (by decide) ?_
  refine gPut hx hb hts iX5_init_X5 tyX5 tyX5_ok nmX5 hown hK hw hS (k := 0) (by decide) (by repeat (first | exact va_up_self _ _ _ | rw [va_up_ne _ _ (by decide)])) rfl 16 (by decide) (hts _ (by decide +kernel)) rfl rfl rfl rfl (Nat.le_of_ble_eq_true rfl) dX5_init_86 (fun H locs hw hS => ?_)
  refine K H locs ?_ hS
  show va_P D vwCl (GW a 9 _) _
  rw [show GW a 9 (EI cy a (cP a .null) 0 0 0 0) = _ from GW_c (fun k hk => ?_)]
  · exact hw
  · rcases (show k = 0 ∨ k = 1 ∨ k = 2 ∨ k = 3 ∨ k = 4 ∨ k = 5 ∨ k = 6 ∨ k = 7 ∨ k = 8 by omega) with rfl | rfl | rfl | rfl | rfl | rfl | rfl | rfl | rfl <;> rfl
end Pi
