/-! THE REFERENCE'S CONSTRUCTOR -/
def rM : Nat → Int32 := fun j => if j = 12 then 1 else if j = 29 then -1 else if j = 32 then -1 else 0
def cMn : List Value := [.int 0, .int 0, .null, .null, .null, .null, .int 0, .int 0, .null, .null, .null, .null, .int 0, .null, .null, .null, .null, .null, .null, .null, .null, .null, .null, .null, .int 0, .null, .null, .int 0, .int 0, .int 0, .int 0, .int 0, .int 0, .int 0, .int 0, .null, .null, .null, .int 0, .int 0, .int 0, .int 0, .null, .int 0, .int 0]
def rowJ (i1 i2 k : Nat) : Nat → Int32 := if k = 82 then (fun j => if j < i1 then 8 else 0) else if k = 83 then (fun j => if j < i1 then 3 else 0) else if k = 84 then (fun j => if j < i1 then nI j else 0) else if k = 93 ∨ k = 94 ∨ k = 96 then (fun j => if j < i2 then -1 else 0) else (fun _ => 0)
def EJ (cy : Nat → ClassId) (a : Nat) (E0 : Nat → va_E) (i1 i2 : Nat) : Nat → va_E := fun k => if k < 77 then E0 k else if k = 77 then .inr (6, eModel a rM) else .inl (cy 0, mlen k, .inl (rowJ i1 i2 k))
theorem EJ_0 {cy : Nat → ClassId} {a : Nat} {E0 : Nat → va_E} {i1 i2 k : Nat} (h : k < 77) : EJ cy a E0 i1 i2 k = E0 k := by
  unfold EJ
  rw [if_pos h]
theorem EJ_m {cy : Nat → ClassId} {a : Nat} {E0 : Nat → va_E} {i1 i2 : Nat} : EJ cy a E0 i1 i2 77 = .inr (6, eModel a rM) := rfl
theorem EJ_r {cy : Nat → ClassId} {a : Nat} {E0 : Nat → va_E} {i1 i2 k : Nat} (h : 78 ≤ k) : EJ cy a E0 i1 i2 k = .inl (cy 0, mlen k, .inl (rowJ i1 i2 k)) := by
  unfold EJ
  rw [if_neg (by omega), if_neg (by omega)]
theorem filv (g : Nat → Int32) (i : Nat) : (fun j => if j < i + 1 then g j else 0) = upd (fun j => if j < i then g j else 0) i (g i) := by
  funext j
  unfold upd
  by_cases h : j = i
  · rw [if_pos (by omega), if_pos h, h]
  · rw [if_neg h]
    dsimp only
    by_cases h2 : j < i
    · rw [if_pos (by omega), if_pos h2]
    · rw [if_neg (by omega), if_neg h2]
set_option maxRecDepth 20000 in
theorem iX6_init_X6 : ∀ w ∈ wsX60, w ∈ wsX6_init := by decide +kernel
def rI6 : Room := { frames := 1, cells := 25, slots := 1225, locals := 12 }
section Mi6
variable {p : Program} {l : Launch} {e : Env} {s : State} {m : MethodId} {args : Array Value} {below : List Frame} {meth : Method} {c : Code} {D : va_G} {cy : Nat → ClassId} {a : Nat} {Q : State → Prop}
set_option maxRecDepth 100000 in
set_option maxHeartbeats 4000000 in
theorem bX6_init_0 (hx : p.tables.exec = Jvm.exec) (hb : c.code = cX6_init) (hml : c.maxLocals = 2) (hown : s.vm.findClass RX6 = some m.cls) (hmn : meth.name = "<init>") (hts : ∀ w ∈ wsX6_init, w.before args s = true) (hK : KS D cy s) (hsz : s.heap.size = a + 78) {E : Nat → va_E} (he : E 77 = .inr (6, cMn)) {H : Heap} {locs : List Loc} {ls : Array Slot} (hw : GP D a 78 E H) (hS : va_S (Aq a) s.heap H locs) (hl : lv_has ls 2 [(0, .ref (a + 77))])
    (K : ∀ (H : Heap) (locs : List Loc), GP D a 103 (EJ cy a E 0 0) H → va_S (Aq a) s.heap H locs → W p l e rI6 s m args below meth c H locs 25 1225 Q (F0 m 217 ls [])) : W p l e rI6 s m args below meth c H locs 0 0 Q (F0 m 0 ls []) := by
  refine lv_aload_n hx hb dX6_init_0 rfl (lv_at hl 0 rfl) ?_
  refine W.objInit hx hb hown (hts _ (by decide +kernel)) (hts _ (by decide +kernel)) (hts _ (by decide +kernel)) rfl (by rw [hml]; exact hl.1) rfl dX6_init_1 (Nat.le_of_ble_eq_true rfl) (Nat.le_of_ble_eq_true rfl) ?_
  refine lv_aload_n hx hb dX6_init_4 rfl (lv_at hl 0 rfl) ?_
  refine lv_bipush (v := (6 : Int32)) hx hb dX6_init_5 (by decide) ?_
  refine gNewa (ty := .int) (t0 := 0) (N' := 6) (a0 := (6, .inl (fun _ => 0))) hx hb (hts _ (by decide +kernel)) rfl hK rfl (fun _ h => h) hw hS (by omega) (by omega) (fun _ => rfl) (by decide) rfl (Nat.le_of_ble_eq_true rfl) (Nat.le_of_ble_eq_true rfl) (Nat.le_of_ble_eq_true rfl) dX6_init_7 (fun H hw hS => ?_)
  refine gPutF hx hb hts iX6_init_X6 tyX6 tyX6_ok nmX6 hown hmn hK hw hS (k := 77) (by decide) (by rw [va_up_ne _ _ (by decide)]; exact he) rfl 2 (by decide) (hts _ (by decide +kernel)) rfl rfl rfl rfl rfl (Nat.le_of_ble_eq_true rfl) dX6_init_9 (fun H locs hw hS => ?_)
  refine lv_aload_n hx hb dX6_init_12 rfl (lv_at hl 0 rfl) ?_
  refine lv_bipush (v := (6 : Int32)) hx hb dX6_init_13 (by decide) ?_
  refine gNewa (ty := .int) (t0 := 0) (N' := 6) (a0 := (6, .inl (fun _ => 0))) hx hb (hts _ (by decide +kernel)) rfl hK rfl (fun _ h => h) hw hS (by omega) (by omega) (fun _ => rfl) (by decide) rfl (Nat.le_of_ble_eq_true rfl) (Nat.le_of_ble_eq_true rfl) (Nat.le_of_ble_eq_true rfl) dX6_init_15 (fun H hw hS => ?_)
  refine gPutF hx hb hts iX6_init_X6 tyX6 tyX6_ok nmX6 hown hmn hK hw hS (k := 77) (by decide) (by repeat (first | exact va_up_self _ _ _ | rw [va_up_ne _ _ (by decide)])) rfl 3 (by decide) (hts _ (by decide +kernel)) rfl rfl rfl rfl rfl (Nat.le_of_ble_eq_true rfl) dX6_init_17 (fun H locs hw hS => ?_)
  refine lv_aload_n hx hb dX6_init_20 rfl (lv_at hl 0 rfl) ?_
  refine lv_bipush (v := (6 : Int32)) hx hb dX6_init_21 (by decide) ?_
  refine gNewa (ty := .int) (t0 := 0) (N' := 6) (a0 := (6, .inl (fun _ => 0))) hx hb (hts _ (by decide +kernel)) rfl hK rfl (fun _ h => h) hw hS (by omega) (by omega) (fun _ => rfl) (by decide) rfl (Nat.le_of_ble_eq_true rfl) (Nat.le_of_ble_eq_true rfl) (Nat.le_of_ble_eq_true rfl) dX6_init_23 (fun H hw hS => ?_)
  refine gPutF hx hb hts iX6_init_X6 tyX6 tyX6_ok nmX6 hown hmn hK hw hS (k := 77) (by decide) (by repeat (first | exact va_up_self _ _ _ | rw [va_up_ne _ _ (by decide)])) rfl 4 (by decide) (hts _ (by decide +kernel)) rfl rfl rfl rfl rfl (Nat.le_of_ble_eq_true rfl) dX6_init_25 (fun H locs hw hS => ?_)
  refine lv_aload_n hx hb dX6_init_28 rfl (lv_at hl 0 rfl) ?_
  refine lv_bipush (v := (6 : Int32)) hx hb dX6_init_29 (by decide) ?_
  refine gNewa (ty := .int) (t0 := 0) (N' := 6) (a0 := (6, .inl (fun _ => 0))) hx hb (hts _ (by decide +kernel)) rfl hK rfl (fun _ h => h) hw hS (by omega) (by omega) (fun _ => rfl) (by decide) rfl (Nat.le_of_ble_eq_true rfl) (Nat.le_of_ble_eq_true rfl) (Nat.le_of_ble_eq_true rfl) dX6_init_31 (fun H hw hS => ?_)
  refine gPutF hx hb hts iX6_init_X6 tyX6 tyX6_ok nmX6 hown hmn hK hw hS (k := 77) (by decide) (by repeat (first | exact va_up_self _ _ _ | rw [va_up_ne _ _ (by decide)])) rfl 5 (by decide) (hts _ (by decide +kernel)) rfl rfl rfl rfl rfl (Nat.le_of_ble_eq_true rfl) dX6_init_33 (fun H locs hw hS => ?_)
  refine lv_aload_n hx hb dX6_init_36 rfl (lv_at hl 0 rfl) ?_
  refine lv_bipush (v := (6 : Int32)) hx hb dX6_init_37 (by decide) ?_
  refine gNewa (ty := .int) (t0 := 0) (N' := 6) (a0 := (6, .inl (fun _ => 0))) hx hb (hts _ (by decide +kernel)) rfl hK rfl (fun _ h => h) hw hS (by omega) (by omega) (fun _ => rfl) (by decide) rfl (Nat.le_of_ble_eq_true rfl) (Nat.le_of_ble_eq_true rfl) (Nat.le_of_ble_eq_true rfl) dX6_init_39 (fun H hw hS => ?_)
  refine gPutF hx hb hts iX6_init_X6 tyX6 tyX6_ok nmX6 hown hmn hK hw hS (k := 77) (by decide) (by repeat (first | exact va_up_self _ _ _ | rw [va_up_ne _ _ (by decide)])) rfl 8 (by decide) (hts _ (by decide +kernel)) rfl rfl rfl rfl rfl (Nat.le_of_ble_eq_true rfl) dX6_init_41 (fun H locs hw hS => ?_)
  refine lv_aload_n hx hb dX6_init_44 rfl (lv_at hl 0 rfl) ?_
  refine lv_bipush (v := (6 : Int32)) hx hb dX6_init_45 (by decide) ?_
  refine gNewa (ty := .int) (t0 := 0) (N' := 6) (a0 := (6, .inl (fun _ => 0))) hx hb (hts _ (by decide +kernel)) rfl hK rfl (fun _ h => h) hw hS (by omega) (by omega) (fun _ => rfl) (by decide) rfl (Nat.le_of_ble_eq_true rfl) (Nat.le_of_ble_eq_true rfl) (Nat.le_of_ble_eq_true rfl) dX6_init_47 (fun H hw hS => ?_)
  refine gPutF hx hb hts iX6_init_X6 tyX6 tyX6_ok nmX6 hown hmn hK hw hS (k := 77) (by decide) (by repeat (first | exact va_up_self _ _ _ | rw [va_up_ne _ _ (by decide)])) rfl 9 (by decide) (hts _ (by decide +kernel)) rfl rfl rfl rfl rfl (Nat.le_of_ble_eq_true rfl) dX6_init_49 (fun H locs hw hS => ?_)
  refine lv_aload_n hx hb dX6_init_52 rfl (lv_at hl 0 rfl) ?_
  refine lv_bipush (v := (6 : Int32)) hx hb dX6_init_53 (by decide) ?_
  refine gNewa (ty := .int) (t0 := 0) (N' := 6) (a0 := (6, .inl (fun _ => 0))) hx hb (hts _ (by decide +kernel)) rfl hK rfl (fun _ h => h) hw hS (by omega) (by omega) (fun _ => rfl) (by decide) rfl (Nat.le_of_ble_eq_true rfl) (Nat.le_of_ble_eq_true rfl) (Nat.le_of_ble_eq_true rfl) dX6_init_55 (fun H hw hS => ?_)
  refine gPutF hx hb hts iX6_init_X6 tyX6 tyX6_ok nmX6 hown hmn hK hw hS (k := 77) (by decide) (by repeat (first | exact va_up_self _ _ _ | rw [va_up_ne _ _ (by decide)])) rfl 10 (by decide) (hts _ (by decide +kernel)) rfl rfl rfl rfl rfl (Nat.le_of_ble_eq_true rfl) dX6_init_57 (fun H locs hw hS => ?_)
  refine lv_aload_n hx hb dX6_init_60 rfl (lv_at hl 0 rfl) ?_
  refine lv_bipush (v := (6 : Int32)) hx hb dX6_init_61 (by decide) ?_
  refine gNewa (ty := .int) (t0 := 0) (N' := 6) (a0 := (6, .inl (fun _ => 0))) hx hb (hts _ (by decide +kernel)) rfl hK rfl (fun _ h => h) hw hS (by omega) (by omega) (fun _ => rfl) (by decide) rfl (Nat.le_of_ble_eq_true rfl) (Nat.le_of_ble_eq_true rfl) (Nat.le_of_ble_eq_true rfl) dX6_init_63 (fun H hw hS => ?_)
  refine gPutF hx hb hts iX6_init_X6 tyX6 tyX6_ok nmX6 hown hmn hK hw hS (k := 77) (by decide) (by repeat (first | exact va_up_self _ _ _ | rw [va_up_ne _ _ (by decide)])) rfl 11 (by decide) (hts _ (by decide +kernel)) rfl rfl rfl rfl rfl (Nat.le_of_ble_eq_true rfl) dX6_init_65 (fun H locs hw hS => ?_)
  refine lv_aload_n hx hb dX6_init_68 rfl (lv_at hl 0 rfl) ?_
  refine lv_iconst (v := (1 : Int32)) hx hb dX6_init_69 (by decide) ?_
  refine gPut hx hb hts iX6_init_X6 tyX6 tyX6_ok nmX6 hown hK hw hS (k := 77) (by decide) (by repeat (first | exact va_up_self _ _ _ | rw [va_up_ne _ _ (by decide)])) rfl 12 (by decide) (hts _ (by decide +kernel)) rfl rfl rfl rfl (Nat.le_of_ble_eq_true rfl) dX6_init_70 (fun H locs hw hS => ?_)
  refine lv_aload_n hx hb dX6_init_73 rfl (lv_at hl 0 rfl) ?_
  refine lv_bipush (v := (40 : Int32)) hx hb dX6_init_74 (by decide) ?_
  refine gNewa (ty := .int) (t0 := 0) (N' := 40) (a0 := (40, .inl (fun _ => 0))) hx hb (hts _ (by decide +kernel)) rfl hK rfl (fun _ h => h) hw hS (by omega) (by omega) (fun _ => rfl) (by decide) rfl (Nat.le_of_ble_eq_true rfl) (Nat.le_of_ble_eq_true rfl) (Nat.le_of_ble_eq_true rfl) dX6_init_76 (fun H hw hS => ?_)
  refine gPutF hx hb hts iX6_init_X6 tyX6 tyX6_ok nmX6 hown hmn hK hw hS (k := 77) (by decide) (by repeat (first | exact va_up_self _ _ _ | rw [va_up_ne _ _ (by decide)])) rfl 13 (by decide) (hts _ (by decide +kernel)) rfl rfl rfl rfl rfl (Nat.le_of_ble_eq_true rfl) dX6_init_78 (fun H locs hw hS => ?_)
  refine lv_aload_n hx hb dX6_init_81 rfl (lv_at hl 0 rfl) ?_
  refine lv_bipush (v := (40 : Int32)) hx hb dX6_init_82 (by decide) ?_
  refine gNewa (ty := .int) (t0 := 0) (N' := 40) (a0 := (40, .inl (fun _ => 0))) hx hb (hts _ (by decide +kernel)) rfl hK rfl (fun _ h => h) hw hS (by omega) (by omega) (fun _ => rfl) (by decide) rfl (Nat.le_of_ble_eq_true rfl) (Nat.le_of_ble_eq_true rfl) (Nat.le_of_ble_eq_true rfl) dX6_init_84 (fun H hw hS => ?_)
  refine gPutF hx hb hts iX6_init_X6 tyX6 tyX6_ok nmX6 hown hmn hK hw hS (k := 77) (by decide) (by repeat (first | exact va_up_self _ _ _ | rw [va_up_ne _ _ (by decide)])) rfl 14 (by decide) (hts _ (by decide +kernel)) rfl rfl rfl rfl rfl (Nat.le_of_ble_eq_true rfl) dX6_init_86 (fun H locs hw hS => ?_)
  refine lv_aload_n hx hb dX6_init_89 rfl (lv_at hl 0 rfl) ?_
  refine lv_bipush (v := (40 : Int32)) hx hb dX6_init_90 (by decide) ?_
  refine gNewa (ty := .int) (t0 := 0) (N' := 40) (a0 := (40, .inl (fun _ => 0))) hx hb (hts _ (by decide +kernel)) rfl hK rfl (fun _ h => h) hw hS (by omega) (by omega) (fun _ => rfl) (by decide) rfl (Nat.le_of_ble_eq_true rfl) (Nat.le_of_ble_eq_true rfl) (Nat.le_of_ble_eq_true rfl) dX6_init_92 (fun H hw hS => ?_)
  refine gPutF hx hb hts iX6_init_X6 tyX6 tyX6_ok nmX6 hown hmn hK hw hS (k := 77) (by decide) (by repeat (first | exact va_up_self _ _ _ | rw [va_up_ne _ _ (by decide)])) rfl 15 (by decide) (hts _ (by decide +kernel)) rfl rfl rfl rfl rfl (Nat.le_of_ble_eq_true rfl) dX6_init_94 (fun H locs hw hS => ?_)
  refine lv_aload_n hx hb dX6_init_97 rfl (lv_at hl 0 rfl) ?_
  refine lv_bipush (v := (40 : Int32)) hx hb dX6_init_98 (by decide) ?_
  refine gNewa (ty := .int) (t0 := 0) (N' := 40) (a0 := (40, .inl (fun _ => 0))) hx hb (hts _ (by decide +kernel)) rfl hK rfl (fun _ h => h) hw hS (by omega) (by omega) (fun _ => rfl) (by decide) rfl (Nat.le_of_ble_eq_true rfl) (Nat.le_of_ble_eq_true rfl) (Nat.le_of_ble_eq_true rfl) dX6_init_100 (fun H hw hS => ?_)
  refine gPutF hx hb hts iX6_init_X6 tyX6 tyX6_ok nmX6 hown hmn hK hw hS (k := 77) (by decide) (by repeat (first | exact va_up_self _ _ _ | rw [va_up_ne _ _ (by decide)])) rfl 16 (by decide) (hts _ (by decide +kernel)) rfl rfl rfl rfl rfl (Nat.le_of_ble_eq_true rfl) dX6_init_102 (fun H locs hw hS => ?_)
  refine lv_aload_n hx hb dX6_init_105 rfl (lv_at hl 0 rfl) ?_
  refine lv_bipush (v := (40 : Int32)) hx hb dX6_init_106 (by decide) ?_
  refine gNewa (ty := .int) (t0 := 0) (N' := 40) (a0 := (40, .inl (fun _ => 0))) hx hb (hts _ (by decide +kernel)) rfl hK rfl (fun _ h => h) hw hS (by omega) (by omega) (fun _ => rfl) (by decide) rfl (Nat.le_of_ble_eq_true rfl) (Nat.le_of_ble_eq_true rfl) (Nat.le_of_ble_eq_true rfl) dX6_init_108 (fun H hw hS => ?_)
  refine gPutF hx hb hts iX6_init_X6 tyX6 tyX6_ok nmX6 hown hmn hK hw hS (k := 77) (by decide) (by repeat (first | exact va_up_self _ _ _ | rw [va_up_ne _ _ (by decide)])) rfl 17 (by decide) (hts _ (by decide +kernel)) rfl rfl rfl rfl rfl (Nat.le_of_ble_eq_true rfl) dX6_init_110 (fun H locs hw hS => ?_)
  refine lv_aload_n hx hb dX6_init_113 rfl (lv_at hl 0 rfl) ?_
  refine lv_bipush (v := (40 : Int32)) hx hb dX6_init_114 (by decide) ?_
  refine gNewa (ty := .int) (t0 := 0) (N' := 40) (a0 := (40, .inl (fun _ => 0))) hx hb (hts _ (by decide +kernel)) rfl hK rfl (fun _ h => h) hw hS (by omega) (by omega) (fun _ => rfl) (by decide) rfl (Nat.le_of_ble_eq_true rfl) (Nat.le_of_ble_eq_true rfl) (Nat.le_of_ble_eq_true rfl) dX6_init_116 (fun H hw hS => ?_)
  refine gPutF hx hb hts iX6_init_X6 tyX6 tyX6_ok nmX6 hown hmn hK hw hS (k := 77) (by decide) (by repeat (first | exact va_up_self _ _ _ | rw [va_up_ne _ _ (by decide)])) rfl 18 (by decide) (hts _ (by decide +kernel)) rfl rfl rfl rfl rfl (Nat.le_of_ble_eq_true rfl) dX6_init_118 (fun H locs hw hS => ?_)
  refine lv_aload_n hx hb dX6_init_121 rfl (lv_at hl 0 rfl) ?_
  refine lv_bipush (v := (40 : Int32)) hx hb dX6_init_122 (by decide) ?_
  refine gNewa (ty := .int) (t0 := 0) (N' := 40) (a0 := (40, .inl (fun _ => 0))) hx hb (hts _ (by decide +kernel)) rfl hK rfl (fun _ h => h) hw hS (by omega) (by omega) (fun _ => rfl) (by decide) rfl (Nat.le_of_ble_eq_true rfl) (Nat.le_of_ble_eq_true rfl) (Nat.le_of_ble_eq_true rfl) dX6_init_124 (fun H hw hS => ?_)
  refine gPutF hx hb hts iX6_init_X6 tyX6 tyX6_ok nmX6 hown hmn hK hw hS (k := 77) (by decide) (by repeat (first | exact va_up_self _ _ _ | rw [va_up_ne _ _ (by decide)])) rfl 19 (by decide) (hts _ (by decide +kernel)) rfl rfl rfl rfl rfl (Nat.le_of_ble_eq_true rfl) dX6_init_126 (fun H locs hw hS => ?_)
  refine lv_aload_n hx hb dX6_init_129 rfl (lv_at hl 0 rfl) ?_
  refine lv_bipush (v := (40 : Int32)) hx hb dX6_init_130 (by decide) ?_
  refine gNewa (ty := .int) (t0 := 0) (N' := 40) (a0 := (40, .inl (fun _ => 0))) hx hb (hts _ (by decide +kernel)) rfl hK rfl (fun _ h => h) hw hS (by omega) (by omega) (fun _ => rfl) (by decide) rfl (Nat.le_of_ble_eq_true rfl) (Nat.le_of_ble_eq_true rfl) (Nat.le_of_ble_eq_true rfl) dX6_init_132 (fun H hw hS => ?_)
  refine gPutF hx hb hts iX6_init_X6 tyX6 tyX6_ok nmX6 hown hmn hK hw hS (k := 77) (by decide) (by repeat (first | exact va_up_self _ _ _ | rw [va_up_ne _ _ (by decide)])) rfl 20 (by decide) (hts _ (by decide +kernel)) rfl rfl rfl rfl rfl (Nat.le_of_ble_eq_true rfl) dX6_init_134 (fun H locs hw hS => ?_)
  refine lv_aload_n hx hb dX6_init_137 rfl (lv_at hl 0 rfl) ?_
  refine lv_bipush (v := (40 : Int32)) hx hb dX6_init_138 (by decide) ?_
  refine gNewa (ty := .int) (t0 := 0) (N' := 40) (a0 := (40, .inl (fun _ => 0))) hx hb (hts _ (by decide +kernel)) rfl hK rfl (fun _ h => h) hw hS (by omega) (by omega) (fun _ => rfl) (by decide) rfl (Nat.le_of_ble_eq_true rfl) (Nat.le_of_ble_eq_true rfl) (Nat.le_of_ble_eq_true rfl) dX6_init_140 (fun H hw hS => ?_)
  refine gPutF hx hb hts iX6_init_X6 tyX6 tyX6_ok nmX6 hown hmn hK hw hS (k := 77) (by decide) (by repeat (first | exact va_up_self _ _ _ | rw [va_up_ne _ _ (by decide)])) rfl 21 (by decide) (hts _ (by decide +kernel)) rfl rfl rfl rfl rfl (Nat.le_of_ble_eq_true rfl) dX6_init_142 (fun H locs hw hS => ?_)
  refine lv_aload_n hx hb dX6_init_145 rfl (lv_at hl 0 rfl) ?_
  refine lv_bipush (v := (40 : Int32)) hx hb dX6_init_146 (by decide) ?_
  refine gNewa (ty := .int) (t0 := 0) (N' := 40) (a0 := (40, .inl (fun _ => 0))) hx hb (hts _ (by decide +kernel)) rfl hK rfl (fun _ h => h) hw hS (by omega) (by omega) (fun _ => rfl) (by decide) rfl (Nat.le_of_ble_eq_true rfl) (Nat.le_of_ble_eq_true rfl) (Nat.le_of_ble_eq_true rfl) dX6_init_148 (fun H hw hS => ?_)
  refine gPutF hx hb hts iX6_init_X6 tyX6 tyX6_ok nmX6 hown hmn hK hw hS (k := 77) (by decide) (by repeat (first | exact va_up_self _ _ _ | rw [va_up_ne _ _ (by decide)])) rfl 22 (by decide) (hts _ (by decide +kernel)) rfl rfl rfl rfl rfl (Nat.le_of_ble_eq_true rfl) dX6_init_150 (fun H locs hw hS => ?_)
  refine lv_aload_n hx hb dX6_init_153 rfl (lv_at hl 0 rfl) ?_
  refine lv_bipush (v := (40 : Int32)) hx hb dX6_init_154 (by decide) ?_
  refine gNewa (ty := .int) (t0 := 0) (N' := 40) (a0 := (40, .inl (fun _ => 0))) hx hb (hts _ (by decide +kernel)) rfl hK rfl (fun _ h => h) hw hS (by omega) (by omega) (fun _ => rfl) (by decide) rfl (Nat.le_of_ble_eq_true rfl) (Nat.le_of_ble_eq_true rfl) (Nat.le_of_ble_eq_true rfl) dX6_init_156 (fun H hw hS => ?_)
  refine gPutF hx hb hts iX6_init_X6 tyX6 tyX6_ok nmX6 hown hmn hK hw hS (k := 77) (by decide) (by repeat (first | exact va_up_self _ _ _ | rw [va_up_ne _ _ (by decide)])) rfl 23 (by decide) (hts _ (by decide +kernel)) rfl rfl rfl rfl rfl (Nat.le_of_ble_eq_true rfl) dX6_init_158 (fun H locs hw hS => ?_)
  refine lv_aload_n hx hb dX6_init_161 rfl (lv_at hl 0 rfl) ?_
  refine lv_sipush (v := (360 : Int32)) hx hb dX6_init_162 (by decide) ?_
  refine gNewa (ty := .int) (t0 := 0) (N' := 360) (a0 := (360, .inl (fun _ => 0))) hx hb (hts _ (by decide +kernel)) rfl hK rfl (fun _ h => h) hw hS (by omega) (by omega) (fun _ => rfl) (by decide) rfl (Nat.le_of_ble_eq_true rfl) (Nat.le_of_ble_eq_true rfl) (Nat.le_of_ble_eq_true rfl) dX6_init_165 (fun H hw hS => ?_)
  refine gPutF hx hb hts iX6_init_X6 tyX6 tyX6_ok nmX6 hown hmn hK hw hS (k := 77) (by decide) (by repeat (first | exact va_up_self _ _ _ | rw [va_up_ne _ _ (by decide)])) rfl 25 (by decide) (hts _ (by decide +kernel)) rfl rfl rfl rfl rfl (Nat.le_of_ble_eq_true rfl) dX6_init_167 (fun H locs hw hS => ?_)
  refine lv_aload_n hx hb dX6_init_170 rfl (lv_at hl 0 rfl) ?_
  refine lv_sipush (v := (360 : Int32)) hx hb dX6_init_171 (by decide) ?_
  refine gNewa (ty := .int) (t0 := 0) (N' := 360) (a0 := (360, .inl (fun _ => 0))) hx hb (hts _ (by decide +kernel)) rfl hK rfl (fun _ h => h) hw hS (by omega) (by omega) (fun _ => rfl) (by decide) rfl (Nat.le_of_ble_eq_true rfl) (Nat.le_of_ble_eq_true rfl) (Nat.le_of_ble_eq_true rfl) dX6_init_174 (fun H hw hS => ?_)
  refine gPutF hx hb hts iX6_init_X6 tyX6 tyX6_ok nmX6 hown hmn hK hw hS (k := 77) (by decide) (by repeat (first | exact va_up_self _ _ _ | rw [va_up_ne _ _ (by decide)])) rfl 26 (by decide) (hts _ (by decide +kernel)) rfl rfl rfl rfl rfl (Nat.le_of_ble_eq_true rfl) dX6_init_176 (fun H locs hw hS => ?_)
  refine lv_aload_n hx hb dX6_init_179 rfl (lv_at hl 0 rfl) ?_
  refine lv_iconst (v := (-1 : Int32)) hx hb dX6_init_180 (by decide) ?_
  refine gPut hx hb hts iX6_init_X6 tyX6 tyX6_ok nmX6 hown hK hw hS (k := 77) (by decide) (by repeat (first | exact va_up_self _ _ _ | rw [va_up_ne _ _ (by decide)])) rfl 29 (by decide) (hts _ (by decide +kernel)) rfl rfl rfl rfl (Nat.le_of_ble_eq_true rfl) dX6_init_181 (fun H locs hw hS => ?_)
  refine lv_aload_n hx hb dX6_init_184 rfl (lv_at hl 0 rfl) ?_
  refine lv_iconst (v := (-1 : Int32)) hx hb dX6_init_185 (by decide) ?_
  refine gPut hx hb hts iX6_init_X6 tyX6 tyX6_ok nmX6 hown hK hw hS (k := 77) (by decide) (by repeat (first | exact va_up_self _ _ _ | rw [va_up_ne _ _ (by decide)])) rfl 32 (by decide) (hts _ (by decide +kernel)) rfl rfl rfl rfl (Nat.le_of_ble_eq_true rfl) dX6_init_186 (fun H locs hw hS => ?_)
  refine lv_aload_n hx hb dX6_init_189 rfl (lv_at hl 0 rfl) ?_
  refine lv_iconst (v := (4 : Int32)) hx hb dX6_init_190 (by decide) ?_
  refine gNewa (ty := .int) (t0 := 0) (N' := 4) (a0 := (4, .inl (fun _ => 0))) hx hb (hts _ (by decide +kernel)) rfl hK rfl (fun _ h => h) hw hS (by omega) (by omega) (fun _ => rfl) (by decide) rfl (Nat.le_of_ble_eq_true rfl) (Nat.le_of_ble_eq_true rfl) (Nat.le_of_ble_eq_true rfl) dX6_init_191 (fun H hw hS => ?_)
  refine gPutF hx hb hts iX6_init_X6 tyX6 tyX6_ok nmX6 hown hmn hK hw hS (k := 77) (by decide) (by repeat (first | exact va_up_self _ _ _ | rw [va_up_ne _ _ (by decide)])) rfl 35 (by decide) (hts _ (by decide +kernel)) rfl rfl rfl rfl rfl (Nat.le_of_ble_eq_true rfl) dX6_init_193 (fun H locs hw hS => ?_)
  refine lv_aload_n hx hb dX6_init_196 rfl (lv_at hl 0 rfl) ?_
  refine lv_iconst (v := (4 : Int32)) hx hb dX6_init_197 (by decide) ?_
  refine gNewa (ty := .int) (t0 := 0) (N' := 4) (a0 := (4, .inl (fun _ => 0))) hx hb (hts _ (by decide +kernel)) rfl hK rfl (fun _ h => h) hw hS (by omega) (by omega) (fun _ => rfl) (by decide) rfl (Nat.le_of_ble_eq_true rfl) (Nat.le_of_ble_eq_true rfl) (Nat.le_of_ble_eq_true rfl) dX6_init_198 (fun H hw hS => ?_)
  refine gPutF hx hb hts iX6_init_X6 tyX6 tyX6_ok nmX6 hown hmn hK hw hS (k := 77) (by decide) (by repeat (first | exact va_up_self _ _ _ | rw [va_up_ne _ _ (by decide)])) rfl 36 (by decide) (hts _ (by decide +kernel)) rfl rfl rfl rfl rfl (Nat.le_of_ble_eq_true rfl) dX6_init_200 (fun H locs hw hS => ?_)
  refine lv_aload_n hx hb dX6_init_203 rfl (lv_at hl 0 rfl) ?_
  refine lv_iconst (v := (4 : Int32)) hx hb dX6_init_204 (by decide) ?_
  refine gNewa (ty := .int) (t0 := 0) (N' := 4) (a0 := (4, .inl (fun _ => 0))) hx hb (hts _ (by decide +kernel)) rfl hK rfl (fun _ h => h) hw hS (by omega) (by omega) (fun _ => rfl) (by decide) rfl (Nat.le_of_ble_eq_true rfl) (Nat.le_of_ble_eq_true rfl) (Nat.le_of_ble_eq_true rfl) dX6_init_205 (fun H hw hS => ?_)
  refine gPutF hx hb hts iX6_init_X6 tyX6 tyX6_ok nmX6 hown hmn hK hw hS (k := 77) (by decide) (by repeat (first | exact va_up_self _ _ _ | rw [va_up_ne _ _ (by decide)])) rfl 37 (by decide) (hts _ (by decide +kernel)) rfl rfl rfl rfl rfl (Nat.le_of_ble_eq_true rfl) dX6_init_207 (fun H locs hw hS => ?_)
  refine lv_aload_n hx hb dX6_init_210 rfl (lv_at hl 0 rfl) ?_
  refine lv_iconst (v := (5 : Int32)) hx hb dX6_init_211 (by decide) ?_
  refine gNewa (ty := .int) (t0 := 0) (N' := 5) (a0 := (5, .inl (fun _ => 0))) hx hb (hts _ (by decide +kernel)) rfl hK rfl (fun _ h => h) hw hS (by omega) (by omega) (fun _ => rfl) (by decide) rfl (Nat.le_of_ble_eq_true rfl) (Nat.le_of_ble_eq_true rfl) (Nat.le_of_ble_eq_true rfl) dX6_init_212 (fun H hw hS => ?_)
  refine gPutF hx hb hts iX6_init_X6 tyX6 tyX6_ok nmX6 hown hmn hK hw hS (k := 77) (by decide) (by repeat (first | exact va_up_self _ _ _ | rw [va_up_ne _ _ (by decide)])) rfl 42 (by decide) (hts _ (by decide +kernel)) rfl rfl rfl rfl rfl (Nat.le_of_ble_eq_true rfl) dX6_init_214 (fun H locs hw hS => ?_)
  refine K H locs ?_ hS
  show va_P D vwCl (GW a 103 _) _
  rw [show GW a 103 (EJ cy a E 0 0) = _ from GW_c (fun k hk => ?_)]
  · exact hw
  · rcases Nat.lt_or_ge k 77 with h | h
    · rw [EJ_0 h]
      repeat rw [va_up_ne _ _ (by omega)]
    · obtain ⟨i, rfl⟩ : ∃ i, k = 77 + i := ⟨k - 77, by omega⟩
      rcases (show i = 0 ∨ i = 1 ∨ i = 2 ∨ i = 3 ∨ i = 4 ∨ i = 5 ∨ i = 6 ∨ i = 7 ∨ i = 8 ∨ i = 9 ∨ i = 10 ∨ i = 11 ∨ i = 12 ∨ i = 13 ∨ i = 14 ∨ i = 15 ∨ i = 16 ∨ i = 17 ∨ i = 18 ∨ i = 19 ∨ i = 20 ∨ i = 21 ∨ i = 22 ∨ i = 23 ∨ i = 24 ∨ i = 25 by omega) with rfl | rfl | rfl | rfl | rfl | rfl | rfl | rfl | rfl | rfl | rfl | rfl | rfl | rfl | rfl | rfl | rfl | rfl | rfl | rfl | rfl | rfl | rfl | rfl | rfl | rfl <;> rfl
end Mi6
