/-! THE PIPE'S CONSTRUCTOR: ITS LOOPS -/
theorem EI_seg {cy : Nat → ClassId} {a : Nat} {c0 : List Value} {i1 i2 i3 i4 i : Nat} (h : i < 6) : EI cy a c0 i1 i2 i3 i4 (9 + 3 * i) = .inr (2, [.ref (a + (9 + 3 * i + 1)), .ref (a + (9 + 3 * i + 2)), .int 0, .int 5, .int 0, .int 0, .int 0]) := by
  unfold EI
  rw [if_neg (by omega), if_pos (show 9 + 3 * i < 27 by omega), if_pos (show (9 + 3 * i - 9) % 3 = 0 by omega)]
theorem EI_ring {cy : Nat → ClassId} {a : Nat} {c0 : List Value} {i1 i2 i3 i4 i : Nat} (h : i < 6) : EI cy a c0 i1 i2 i3 i4 (9 + 3 * i + 1) = .inl (cy 0, 60, .inl (fun _ => 0)) := by
  unfold EI
  rw [if_neg (by omega), if_pos (show 9 + 3 * i + 1 < 27 by omega), if_neg (show ¬ (9 + 3 * i + 1 - 9) % 3 = 0 by omega), if_pos (show (9 + 3 * i + 1 - 9) % 3 = 1 by omega)]
theorem EI_uof {cy : Nat → ClassId} {a : Nat} {c0 : List Value} {i1 i2 i3 i4 i : Nat} (h : i < 6) : EI cy a c0 i1 i2 i3 i4 (9 + 3 * i + 2) = .inl (cy 0, 6, .inl (fun _ => 0)) := by
  unfold EI
  rw [if_neg (by omega), if_pos (show 9 + 3 * i + 2 < 27 by omega), if_neg (show ¬ (9 + 3 * i + 2 - 9) % 3 = 0 by omega), if_neg (show ¬ (9 + 3 * i + 2 - 9) % 3 = 1 by omega)]
theorem EI_prod {cy : Nat → ClassId} {a : Nat} {c0 : List Value} {i1 i2 i3 i4 i : Nat} (h : i < 6) : EI cy a c0 i1 i2 i3 i4 (27 + i) = .inr (1, [.int (nI i), .int 8, .int 3, .int (nI i), .int 0]) := by
  unfold EI
  rw [if_neg (by omega), if_neg (show ¬ 27 + i < 27 by omega), if_pos (show 27 + i < 33 by omega), show 27 + i - 27 = i by omega]
theorem EI_bat {cy : Nat → ClassId} {a : Nat} {c0 : List Value} {i1 i2 i3 i4 i : Nat} (h : i < 40) : EI cy a c0 i1 i2 i3 i4 (33 + i) = .inr (0, [.int (nI i), .ref (a + 27), .int (-1), .int 0, .int 0, .int 0, .int 0, .int 0, .null, .null, .int 0, .int 0, .int 0]) := by
  unfold EI
  rw [if_neg (by omega), if_neg (show ¬ 33 + i < 27 by omega), if_neg (show ¬ 33 + i < 33 by omega), if_pos (show 33 + i < 73 by omega), show 33 + i - 33 = i by omega]
theorem EI_tank {cy : Nat → ClassId} {a : Nat} {c0 : List Value} {i1 i2 i3 i4 i : Nat} : EI cy a c0 i1 i2 i3 i4 (73 + i) = .inr (3, eFour (upd (fun _ => 0) 1 (-1))) := by
  unfold EI
  rw [if_neg (by omega), if_neg (show ¬ 73 + i < 27 by omega), if_neg (show ¬ 73 + i < 33 by omega), if_neg (show ¬ 73 + i < 73 by omega)]
/-- behind cell 8, the rows' fill doesn't matter -/
theorem EI_9 {cy : Nat → ClassId} {a : Nat} {c0 c0' : List Value} {i1 i2 i3 i4 j1 j2 j3 j4 k : Nat} (h : 9 ≤ k) : EI cy a c0 i1 i2 i3 i4 k = EI cy a c0' j1 j2 j3 j4 k := by
  unfold EI
  rw [if_neg (show ¬ k < 9 by omega), if_neg (show ¬ k < 9 by omega)]
theorem fil (g : Nat → Nat) (i : Nat) : (fun j => if j < i + 1 then some (g j) else none) = va_up (fun j => if j < i then some (g j) else none) i (some (g i)) := by
  funext j
  unfold va_up
  by_cases h : j = i
  · rw [if_pos (by omega), if_pos h, h]
  · rw [if_neg h]
    dsimp only
    by_cases h2 : j < i
    · rw [if_pos (by omega), if_pos h2]
    · rw [if_neg (by omega), if_neg h2]
section Pl
variable {p : Program} {l : Launch} {e : Env} {s : State} {m : MethodId} {args : Array Value} {below : List Frame} {meth : Method} {c : Code} {D : va_G} {cy : Nat → ClassId} {a : Nat} {Q : State → Prop}
set_option maxRecDepth 100000 in
set_option maxHeartbeats 4000000 in
theorem bX5_init_91 (hx : p.tables.exec = Jvm.exec) (hb : c.code = cX5_init) (hml : c.maxLocals = 2) (hown : s.vm.findClass RX5 = some m.cls) (hts : ∀ w ∈ wsX5_init, w.before args s = true) (hK : KS D cy s) (hsz : s.heap.size = a + 1)
    (K : ∀ (H : Heap) (locs : List Loc) (ls : Array Slot), GP D a 27 (EI cy a (cP a .null) 6 0 0 0) H → va_S (Aq a) s.heap H locs → lv_has ls 2 [(1, .int (nI 6)), (0, .ref (a + 0))] → W p l e rI5 s m args below meth c H locs 26 511 Q (F0 m 116 ls [])) : ∀ (r i : Nat) (H : Heap) (locs : List Loc) (ls : Array Slot) (cells slots : Nat), i + r = 6 → cells = 8 + 3 * i → slots = 73 + 73 * i → GP D a (9 + 3 * i) (EI cy a (cP a .null) i 0 0 0) H → va_S (Aq a) s.heap H locs → lv_has ls 2 [(1, .int (nI i)), (0, .ref (a + 0))] → W p l e rI5 s m args below meth c H locs cells slots Q (F0 m 91 ls []) := by
  intro r
  induction r with
  | zero =>
    intro i H locs ls cells slots hi hc hs hw hS hl
    have h6 : i = 6 := by omega
    subst h6
    subst hc
    subst hs
    refine lv_iload_n hx hb dX5_init_91 rfl (lv_at hl 0 rfl) ?_
    refine lv_bipush (v := (6 : Int32)) hx hb dX5_init_92 (by decide) ?_
    refine lv_icmp_ge (tgt := 116) hx hb dX5_init_94 (by decide) (fun c1 => ?_) (fun c1 => ?_)
    · exact K H locs ls hw hS hl
    · exact absurd (show (6 : Int32) ≤ nI 6 by decide) c1
  | succ r ih =>
    intro i H locs ls cells slots hi hc hs hw hS hl
    have h6 : i < 6 := by omega
    refine lv_iload_n hx hb dX5_init_91 rfl (lv_at hl 0 rfl) ?_
    refine lv_bipush (v := (6 : Int32)) hx hb dX5_init_92 (by decide) ?_
    refine lv_icmp_ge (tgt := 116) hx hb dX5_init_94 (by decide) (fun c1 => ?_) (fun c1 => ?_)
    · have c2 : nI 6 ≤ nI i := c1
      rw [cLe (by omega) (by omega)] at c2
      omega
    refine lv_aload_n hx hb dX5_init_97 rfl (lv_at hl 1 rfl) ?_
    refine gGet hx hb hts iX5_init_X5 hown hK hw (k := 0) (by omega) (fs := cP a .null) (ci := 5) rfl rfl 0 (by decide) (hts _ (by decide +kernel)) rfl rfl dX5_init_98 ?_
    refine lv_iload_n hx hb dX5_init_101 rfl (lv_at hl 0 rfl) ?_
    refine gNew (fs := [.null, .null, .int 0, .int 0, .int 0, .int 0, .int 0]) hx hb hts iX5_init_X2 tyX2 tyX2_ok hown (hts _ (by decide +kernel)) (hts _ (by decide +kernel)) (hts _ (by decide +kernel)) hK hw hS (by omega) (by omega) (ci := 2) rfl (by decide) (show cells + 1 ≤ 76 by omega) (show slots + 7 ≤ 1077 by omega) dX5_init_102 (fun H hw hS => ?_)
    refine lv_dup hx hb dX5_init_105 rfl ?_
    refine gSz hw (by omega) (by omega) (fun hz => ?_)
    refine gCall (va_runIN (As := []) (rest := [.ref (a + (9 + 3 * i)), .int (nI i), .ref (a + 1)]) ⟨hx, hb, hml, hown, hts⟩ (ctX2_init (l := l) (D := D) (cy := cy) (a := a) (n := 9 + 3 * i + 1) (k := 9 + 3 * i) (by omega) (va_up_self _ _ _)) ⟨va_cnB 0 hts gX5_init_X2_init_n57 rfl rfl rfl (hK.2.2.1 _ nwM_57) (hts _ (by decide +kernel)) (by decide +kernel) ⟨Nat.le_of_ble_eq_true rfl, Nat.le_of_ble_eq_true rfl⟩, rfl, hts _ (by decide +kernel)⟩ (gS hK hw hz) rfl rfl hl.1 rfl (lv_room (Nat.le_of_ble_eq_true rfl)) dX5_init_106 ⟨show cells + 1 + 2 ≤ 76 by omega, show slots + 7 + 66 ≤ 1077 by omega⟩) hS (fun H locs hw hz hS => ?_)
    rw [va_up2] at hw
    refine gAst (t0 := 2) (k := 1) (q := 9 + 3 * i) (N := 6) (ci := 2) (f := fun j => if j < i then some (a + (9 + 3 * j)) else none) hx hb hK hw hS (by omega) (by omega) (by rw [va_up_ne _ _ (by omega), va_up_ne _ _ (by omega), va_up_ne _ _ (by omega)]; rfl) rfl (by rw [va_up_ne _ _ (by omega), va_up_ne _ _ (by omega), va_up_self]) rfl h6 (by omega) dX5_init_109 (fun H locs hw hS => ?_)
    refine lv_iinc (v := nI i + 1) (lv' := [(1, .int (nI i + 1)), (0, .ref (a + 0))]) hx hb dX5_init_110 hl (k := 0) rfl rfl (Nat.le_of_ble_eq_true rfl) rfl (fun ls hl => ?_)
    refine lv_goto (tgt := 91) hx hb dX5_init_113 (by decide) ?_
    rw [Lt1, cAdd] at hl
    refine ih (i + 1) H locs ls _ _ (by omega) (by omega) (by omega) ?_ hS hl
    show va_P D vwCl (GW a (9 + 3 * (i + 1)) _) _
    rw [show 9 + 3 * (i + 1) = 9 + 3 * i + 1 + 2 by omega, show GW a (9 + 3 * i + 1 + 2) (EI cy a (cP a .null) (i + 1) 0 0 0) = _ from GW_c (fun k hk => ?_)]
    · exact hw
    · by_cases h1 : k = 1
      · subst h1
        rw [va_up_self]
        show Sum.inl (cy 2, 6, Sum.inr (Sum.inr (Sum.inr (Sum.inr (fun j => if j < i + 1 then some (a + (9 + 3 * j)) else none))))) = _
        rw [fil (fun j => a + (9 + 3 * j))]
      · rw [va_up_ne _ _ h1]
        by_cases h2 : k = 9 + 3 * i + 1 + 1
        · subst h2
          rw [va_up_self]
          exact EI_uof h6
        · rw [va_up_ne _ _ h2]
          by_cases h3 : k = 9 + 3 * i + 1
          · subst h3
            rw [va_up_self]
            exact EI_ring h6
          · rw [va_up_ne _ _ h3]
            by_cases h4 : k = 9 + 3 * i
            · subst h4
              rw [va_up_self]
              exact EI_seg h6
            · rw [va_up_ne _ _ h4]
              rcases Nat.lt_or_ge k 9 with h5 | h5
              · rcases (show k = 0 ∨ k = 2 ∨ k = 3 ∨ k = 4 ∨ k = 5 ∨ k = 6 ∨ k = 7 ∨ k = 8 by omega) with rfl | rfl | rfl | rfl | rfl | rfl | rfl | rfl <;> rfl
              · exact EI_9 h5
set_option maxRecDepth 100000 in
set_option maxHeartbeats 4000000 in
theorem bX5_init_118 (hx : p.tables.exec = Jvm.exec) (hb : c.code = cX5_init) (hml : c.maxLocals = 2) (hown : s.vm.findClass RX5 = some m.cls) (hts : ∀ w ∈ wsX5_init, w.before args s = true) (hK : KS D cy s) (hsz : s.heap.size = a + 1)
    (K : ∀ (H : Heap) (locs : List Loc) (ls : Array Slot), GP D a 33 (EI cy a (cP a .null) 6 6 0 0) H → va_S (Aq a) s.heap H locs → lv_has ls 2 [(1, .int (nI 6)), (0, .ref (a + 0))] → W p l e rI5 s m args below meth c H locs 32 541 Q (F0 m 144 ls [])) : ∀ (r i : Nat) (H : Heap) (locs : List Loc) (ls : Array Slot) (cells slots : Nat), i + r = 6 → cells = 26 + i → slots = 511 + 5 * i → GP D a (27 + i) (EI cy a (cP a .null) 6 i 0 0) H → va_S (Aq a) s.heap H locs → lv_has ls 2 [(1, .int (nI i)), (0, .ref (a + 0))] → W p l e rI5 s m args below meth c H locs cells slots Q (F0 m 118 ls []) := by
  intro r
  induction r with
  | zero =>
    intro i H locs ls cells slots hi hc hs hw hS hl
    have h6 : i = 6 := by omega
    subst h6
    subst hc
    subst hs
    refine lv_iload_n hx hb dX5_init_118 rfl (lv_at hl 0 rfl) ?_
    refine lv_bipush (v := (6 : Int32)) hx hb dX5_init_119 (by decide) ?_
    refine lv_icmp_ge (tgt := 144) hx hb dX5_init_121 (by decide) (fun c1 => ?_) (fun c1 => ?_)
    · exact K H locs ls hw hS hl
    · exact absurd (show (6 : Int32) ≤ nI 6 by decide) c1
  | succ r ih =>
    intro i H locs ls cells slots hi hc hs hw hS hl
    have h6 : i < 6 := by omega
    refine lv_iload_n hx hb dX5_init_118 rfl (lv_at hl 0 rfl) ?_
    refine lv_bipush (v := (6 : Int32)) hx hb dX5_init_119 (by decide) ?_
    refine lv_icmp_ge (tgt := 144) hx hb dX5_init_121 (by decide) (fun c1 => ?_) (fun c1 => ?_)
    · have c2 : nI 6 ≤ nI i := c1
      rw [cLe (by omega) (by omega)] at c2
      omega
    refine lv_aload_n hx hb dX5_init_124 rfl (lv_at hl 1 rfl) ?_
    refine gGet hx hb hts iX5_init_X5 hown hK hw (k := 0) (by omega) (fs := cP a .null) (ci := 5) rfl rfl 1 (by decide) (hts _ (by decide +kernel)) rfl rfl dX5_init_125 ?_
    refine lv_iload_n hx hb dX5_init_128 rfl (lv_at hl 0 rfl) ?_
    refine gNew (fs := eProd (fun _ => 0)) hx hb hts iX5_init_X1 tyX1 tyX1_ok hown (hts _ (by decide +kernel)) (hts _ (by decide +kernel)) (hts _ (by decide +kernel)) hK hw hS (by omega) (by omega) (ci := 1) rfl (by decide) (show cells + 1 ≤ 76 by omega) (show slots + 5 ≤ 1077 by omega) dX5_init_129 (fun H hw hS => ?_)
    refine lv_dup hx hb dX5_init_132 rfl ?_
    refine lv_iload_n hx hb dX5_init_133 rfl (lv_at hl 0 rfl) ?_
    refine gSz hw (by omega) (by omega) (fun hz => ?_)
    refine gCall (va_runIN (As := [.int (nI i)]) (rest := [.ref (a + (27 + i)), .int (nI i), .ref (a + 2)]) ⟨hx, hb, hml, hown, hts⟩ (ctX1_init (l := l) (D := D) (cy := cy) (a := a) (n := 27 + i + 1) (k := 27 + i) (i := nI i) (by omega) (va_up_self _ _ _)) ⟨va_cnB 1 hts gX5_init_X1_init_n58 rfl rfl rfl (hK.2.2.1 _ nwM_58) (hts _ (by decide +kernel)) (by decide +kernel) ⟨Nat.le_of_ble_eq_true rfl, Nat.le_of_ble_eq_true rfl⟩, rfl, hts _ (by decide +kernel)⟩ (gS hK hw hz) rfl rfl hl.1 rfl (lv_room (Nat.le_of_ble_eq_true rfl)) dX5_init_134 ⟨show cells + 1 + 0 ≤ 76 by omega, show slots + 5 + 0 ≤ 1077 by omega⟩) hS (fun H locs hw hz hS => ?_)
    rw [va_up2] at hw
    refine gAst (t0 := 3) (k := 2) (q := 27 + i) (N := 6) (ci := 1) (f := fun j => if j < i then some (a + (27 + j)) else none) hx hb hK hw hS (by omega) (by omega) (by rw [va_up_ne _ _ (by omega)]; rfl) rfl (va_up_self _ _ _) rfl h6 (by omega) dX5_init_137 (fun H locs hw hS => ?_)
    refine lv_iinc (v := nI i + 1) (lv' := [(1, .int (nI i + 1)), (0, .ref (a + 0))]) hx hb dX5_init_138 hl (k := 0) rfl rfl (Nat.le_of_ble_eq_true rfl) rfl (fun ls hl => ?_)
    refine lv_goto (tgt := 118) hx hb dX5_init_141 (by decide) ?_
    rw [Lt1, cAdd] at hl
    refine ih (i + 1) H locs ls _ _ (by omega) (by omega) (by omega) ?_ hS hl
    show va_P D vwCl (GW a (27 + (i + 1)) _) _
    rw [show 27 + (i + 1) = 27 + i + 1 by omega, show GW a (27 + i + 1) (EI cy a (cP a .null) 6 (i + 1) 0 0) = _ from GW_c (fun k hk => ?_)]
    · exact hw
    · by_cases h1 : k = 2
      · subst h1
        rw [va_up_self]
        show Sum.inl (cy 3, 6, Sum.inr (Sum.inr (Sum.inr (Sum.inr (fun j => if j < i + 1 then some (a + (27 + j)) else none))))) = _
        rw [fil (fun j => a + (27 + j))]
      · rw [va_up_ne _ _ h1]
        by_cases h4 : k = 27 + i
        · subst h4
          rw [va_up_self]
          exact EI_prod h6
        · rw [va_up_ne _ _ h4]
          rcases Nat.lt_or_ge k 9 with h5 | h5
          · rcases (show k = 0 ∨ k = 1 ∨ k = 3 ∨ k = 4 ∨ k = 5 ∨ k = 6 ∨ k = 7 ∨ k = 8 by omega) with rfl | rfl | rfl | rfl | rfl | rfl | rfl | rfl <;> rfl
          · exact EI_9 h5
set_option maxRecDepth 100000 in
set_option maxHeartbeats 4000000 in
theorem bX5_init_146 (hx : p.tables.exec = Jvm.exec) (hb : c.code = cX5_init) (hml : c.maxLocals = 2) (hown : s.vm.findClass RX5 = some m.cls) (hts : ∀ w ∈ wsX5_init, w.before args s = true) (hK : KS D cy s) (hsz : s.heap.size = a + 1)
    (K : ∀ (H : Heap) (locs : List Loc) (ls : Array Slot), GP D a 73 (EI cy a (cP a .null) 6 6 40 0) H → va_S (Aq a) s.heap H locs → lv_has ls 2 [(1, .int (nI 40)), (0, .ref (a + 0))] → W p l e rI5 s m args below meth c H locs 72 1061 Q (F0 m 178 ls [])) : ∀ (r i : Nat) (H : Heap) (locs : List Loc) (ls : Array Slot) (cells slots : Nat), i + r = 40 → cells = 32 + i → slots = 541 + 13 * i → GP D a (33 + i) (EI cy a (cP a .null) 6 6 i 0) H → va_S (Aq a) s.heap H locs → lv_has ls 2 [(1, .int (nI i)), (0, .ref (a + 0))] → W p l e rI5 s m args below meth c H locs cells slots Q (F0 m 146 ls []) := by
  intro r
  induction r with
  | zero =>
    intro i H locs ls cells slots hi hc hs hw hS hl
    have h6 : i = 40 := by omega
    subst h6
    subst hc
    subst hs
    refine lv_iload_n hx hb dX5_init_146 rfl (lv_at hl 0 rfl) ?_
    refine lv_bipush (v := (40 : Int32)) hx hb dX5_init_147 (by decide) ?_
    refine lv_icmp_ge (tgt := 178) hx hb dX5_init_149 (by decide) (fun c1 => ?_) (fun c1 => ?_)
    · exact K H locs ls hw hS hl
    · exact absurd (show (40 : Int32) ≤ nI 40 by decide) c1
  | succ r ih =>
    intro i H locs ls cells slots hi hc hs hw hS hl
    have h6 : i < 40 := by omega
    refine lv_iload_n hx hb dX5_init_146 rfl (lv_at hl 0 rfl) ?_
    refine lv_bipush (v := (40 : Int32)) hx hb dX5_init_147 (by decide) ?_
    refine lv_icmp_ge (tgt := 178) hx hb dX5_init_149 (by decide) (fun c1 => ?_) (fun c1 => ?_)
    · have c2 : nI 40 ≤ nI i := c1
      rw [cLe (by omega) (by omega)] at c2
      omega
    refine lv_aload_n hx hb dX5_init_152 rfl (lv_at hl 1 rfl) ?_
    refine gGet hx hb hts iX5_init_X5 hown hK hw (k := 0) (by omega) (fs := cP a .null) (ci := 5) rfl rfl 2 (by decide) (hts _ (by decide +kernel)) rfl rfl dX5_init_153 ?_
    refine lv_iload_n hx hb dX5_init_156 rfl (lv_at hl 0 rfl) ?_
    refine gNew (fs := eBatch a (fun _ => 0) (fun _ => none)) hx hb hts iX5_init_X0 tyX0 tyX0_ok hown (hts _ (by decide +kernel)) (hts _ (by decide +kernel)) (hts _ (by decide +kernel)) hK hw hS (by omega) (by omega) (ci := 0) rfl (fun j hj => by rcases (show j = 0 ∨ j = 1 ∨ j = 2 ∨ j = 3 ∨ j = 4 ∨ j = 5 ∨ j = 6 ∨ j = 7 ∨ j = 8 ∨ j = 9 ∨ j = 10 ∨ j = 11 ∨ j = 12 by omega) with rfl | rfl | rfl | rfl | rfl | rfl | rfl | rfl | rfl | rfl | rfl | rfl | rfl <;> rfl) (show cells + 1 ≤ 76 by omega) (show slots + 13 ≤ 1077 by omega) dX5_init_157 (fun H hw hS => ?_)
    refine lv_dup hx hb dX5_init_160 rfl ?_
    refine lv_iload_n hx hb dX5_init_161 rfl (lv_at hl 0 rfl) ?_
    refine lv_aload_n hx hb dX5_init_162 rfl (lv_at hl 1 rfl) ?_
    refine gGet hx hb hts iX5_init_X5 hown hK hw (k := 0) (by omega) (fs := cP a .null) (ci := 5) (by rw [va_up_ne _ _ (by omega)]; rfl) rfl 1 (by decide) (hts _ (by decide +kernel)) rfl rfl dX5_init_163 ?_
    refine lv_iconst (v := (0 : Int32)) hx hb dX5_init_166 (by decide) ?_
    refine va_aldq (f := fun j => if j < 6 then some (a + (27 + j)) else none) hx hb hK.1 hw 2 3 (by rw [GW_at (by omega), va_up_ne _ _ (by omega)]; rfl) rfl (show ¬ ((0 : Int32) < 0 ∨ 6 ≤ (0 : Int32).toNatClampNeg) from by decide) dX5_init_167 ?_
    refine gSz hw (by omega) (by omega) (fun hz => ?_)
    refine gCall (va_runIN (As := [.int (nI i), .ref (a + 27)]) (rest := [.ref (a + (33 + i)), .int (nI i), .ref (a + 3)]) ⟨hx, hb, hml, hown, hts⟩ (ctX0_init (l := l) (D := D) (cy := cy) (a := a) (n := 33 + i + 1) (k := 33 + i) (i := nI i) (q := a + 27) (by omega) (va_up_self _ _ _)) ⟨va_cnB 2 hts gX5_init_X0_init_n61 rfl rfl rfl (hK.2.2.1 _ nwM_61) (hts _ (by decide +kernel)) (by decide +kernel) ⟨Nat.le_of_ble_eq_true rfl, Nat.le_of_ble_eq_true rfl⟩, rfl, hts _ (by decide +kernel)⟩ (gS hK hw hz) rfl rfl hl.1 rfl (lv_room (Nat.le_of_ble_eq_true rfl)) dX5_init_168 ⟨show cells + 1 + 0 ≤ 76 by omega, show slots + 13 + 0 ≤ 1077 by omega⟩) hS (fun H locs hw hz hS => ?_)
    rw [va_up2] at hw
    refine gAst (t0 := 4) (k := 3) (q := 33 + i) (N := 40) (ci := 0) (f := fun j => if j < i then some (a + (33 + j)) else none) hx hb hK hw hS (by omega) (by omega) (by rw [va_up_ne _ _ (by omega)]; rfl) rfl (va_up_self _ _ _) rfl h6 (by omega) dX5_init_171 (fun H locs hw hS => ?_)
    refine lv_iinc (v := nI i + 1) (lv' := [(1, .int (nI i + 1)), (0, .ref (a + 0))]) hx hb dX5_init_172 hl (k := 0) rfl rfl (Nat.le_of_ble_eq_true rfl) rfl (fun ls hl => ?_)
    refine lv_goto (tgt := 146) hx hb dX5_init_175 (by decide) ?_
    rw [Lt1, cAdd] at hl
    refine ih (i + 1) H locs ls _ _ (by omega) (by omega) (by omega) ?_ hS hl
    show va_P D vwCl (GW a (33 + (i + 1)) _) _
    rw [show 33 + (i + 1) = 33 + i + 1 by omega, show GW a (33 + i + 1) (EI cy a (cP a .null) 6 6 (i + 1) 0) = _ from GW_c (fun k hk => ?_)]
    · exact hw
    · by_cases h1 : k = 3
      · subst h1
        rw [va_up_self]
        show Sum.inl (cy 4, 40, Sum.inr (Sum.inr (Sum.inr (Sum.inr (fun j => if j < i + 1 then some (a + (33 + j)) else none))))) = _
        rw [fil (fun j => a + (33 + j))]
      · rw [va_up_ne _ _ h1]
        by_cases h4 : k = 33 + i
        · subst h4
          rw [va_up_self]
          exact EI_bat h6
        · rw [va_up_ne _ _ h4]
          rcases Nat.lt_or_ge k 9 with h5 | h5
          · rcases (show k = 0 ∨ k = 1 ∨ k = 2 ∨ k = 4 ∨ k = 5 ∨ k = 6 ∨ k = 7 ∨ k = 8 by omega) with rfl | rfl | rfl | rfl | rfl | rfl | rfl | rfl <;> rfl
          · exact EI_9 h5
set_option maxRecDepth 100000 in
set_option maxHeartbeats 4000000 in
theorem bX5_init_180 (hx : p.tables.exec = Jvm.exec) (hb : c.code = cX5_init) (hml : c.maxLocals = 2) (hown : s.vm.findClass RX5 = some m.cls) (hts : ∀ w ∈ wsX5_init, w.before args s = true) (hK : KS D cy s) (hsz : s.heap.size = a + 1)
    (K : ∀ (H : Heap) (locs : List Loc) (ls : Array Slot), GP D a 77 (EI cy a (cP a .null) 6 6 40 4) H → va_S (Aq a) s.heap H locs → lv_has ls 2 [(1, .int (nI 4)), (0, .ref (a + 0))] → W p l e rI5 s m args below meth c H locs 76 1077 Q (F0 m 204 ls [])) : ∀ (r i : Nat) (H : Heap) (locs : List Loc) (ls : Array Slot) (cells slots : Nat), i + r = 4 → cells = 72 + i → slots = 1061 + 4 * i → GP D a (73 + i) (EI cy a (cP a .null) 6 6 40 i) H → va_S (Aq a) s.heap H locs → lv_has ls 2 [(1, .int (nI i)), (0, .ref (a + 0))] → W p l e rI5 s m args below meth c H locs cells slots Q (F0 m 180 ls []) := by
  intro r
  induction r with
  | zero =>
    intro i H locs ls cells slots hi hc hs hw hS hl
    have h6 : i = 4 := by omega
    subst h6
    subst hc
    subst hs
    refine lv_iload_n hx hb dX5_init_180 rfl (lv_at hl 0 rfl) ?_
    refine lv_iconst (v := (4 : Int32)) hx hb dX5_init_181 (by decide) ?_
    refine lv_icmp_ge (tgt := 204) hx hb dX5_init_182 (by decide) (fun c1 => ?_) (fun c1 => ?_)
    · exact K H locs ls hw hS hl
    · exact absurd (show (4 : Int32) ≤ nI 4 by decide) c1
  | succ r ih =>
    intro i H locs ls cells slots hi hc hs hw hS hl
    have h6 : i < 4 := by omega
    refine lv_iload_n hx hb dX5_init_180 rfl (lv_at hl 0 rfl) ?_
    refine lv_iconst (v := (4 : Int32)) hx hb dX5_init_181 (by decide) ?_
    refine lv_icmp_ge (tgt := 204) hx hb dX5_init_182 (by decide) (fun c1 => ?_) (fun c1 => ?_)
    · have c2 : nI 4 ≤ nI i := c1
      rw [cLe (by omega) (by omega)] at c2
      omega
    refine lv_aload_n hx hb dX5_init_185 rfl (lv_at hl 1 rfl) ?_
    refine gGet hx hb hts iX5_init_X5 hown hK hw (k := 0) (by omega) (fs := cP a .null) (ci := 5) rfl rfl 3 (by decide) (hts _ (by decide +kernel)) rfl rfl dX5_init_186 ?_
    refine lv_iload_n hx hb dX5_init_189 rfl (lv_at hl 0 rfl) ?_
    refine gNew (fs := eFour (fun _ => 0)) hx hb hts iX5_init_X3 tyX3 tyX3_ok hown (hts _ (by decide +kernel)) (hts _ (by decide +kernel)) (hts _ (by decide +kernel)) hK hw hS (by omega) (by omega) (ci := 3) rfl (by decide) (show cells + 1 ≤ 76 by omega) (show slots + 4 ≤ 1077 by omega) dX5_init_190 (fun H hw hS => ?_)
    refine lv_dup hx hb dX5_init_193 rfl ?_
    refine gSz hw (by omega) (by omega) (fun hz => ?_)
    refine gCall (va_runIN (As := []) (rest := [.ref (a + (73 + i)), .int (nI i), .ref (a + 4)]) ⟨hx, hb, hml, hown, hts⟩ (ctX3_init (l := l) (D := D) (cy := cy) (a := a) (n := 73 + i + 1) (k := 73 + i) (by omega) (va_up_self _ _ _)) ⟨va_cnB 0 hts gX5_init_X3_init_n64 rfl rfl rfl (hK.2.2.1 _ nwM_64) (hts _ (by decide +kernel)) (by decide +kernel) ⟨Nat.le_of_ble_eq_true rfl, Nat.le_of_ble_eq_true rfl⟩, rfl, hts _ (by decide +kernel)⟩ (gS hK hw hz) rfl rfl hl.1 rfl (lv_room (Nat.le_of_ble_eq_true rfl)) dX5_init_194 ⟨show cells + 1 + 0 ≤ 76 by omega, show slots + 4 + 0 ≤ 1077 by omega⟩) hS (fun H locs hw hz hS => ?_)
    rw [va_up2] at hw
    refine gAst (t0 := 5) (k := 4) (q := 73 + i) (N := 4) (ci := 3) (f := fun j => if j < i then some (a + (73 + j)) else none) hx hb hK hw hS (by omega) (by omega) (by rw [va_up_ne _ _ (by omega)]; rfl) rfl (va_up_self _ _ _) rfl h6 (by omega) dX5_init_197 (fun H locs hw hS => ?_)
    refine lv_iinc (v := nI i + 1) (lv' := [(1, .int (nI i + 1)), (0, .ref (a + 0))]) hx hb dX5_init_198 hl (k := 0) rfl rfl (Nat.le_of_ble_eq_true rfl) rfl (fun ls hl => ?_)
    refine lv_goto (tgt := 180) hx hb dX5_init_201 (by decide) ?_
    rw [Lt1, cAdd] at hl
    refine ih (i + 1) H locs ls _ _ (by omega) (by omega) (by omega) ?_ hS hl
    show va_P D vwCl (GW a (73 + (i + 1)) _) _
    rw [show 73 + (i + 1) = 73 + i + 1 by omega, show GW a (73 + i + 1) (EI cy a (cP a .null) 6 6 40 (i + 1)) = _ from GW_c (fun k hk => ?_)]
    · exact hw
    · by_cases h1 : k = 4
      · subst h1
        rw [va_up_self]
        show Sum.inl (cy 5, 4, Sum.inr (Sum.inr (Sum.inr (Sum.inr (fun j => if j < i + 1 then some (a + (73 + j)) else none))))) = _
        rw [fil (fun j => a + (73 + j))]
      · rw [va_up_ne _ _ h1]
        by_cases h4 : k = 73 + i
        · subst h4
          rw [va_up_self]
          exact EI_tank
        · rw [va_up_ne _ _ h4]
          rcases Nat.lt_or_ge k 9 with h5 | h5
          · rcases (show k = 0 ∨ k = 1 ∨ k = 2 ∨ k = 3 ∨ k = 5 ∨ k = 6 ∨ k = 7 ∨ k = 8 by omega) with rfl | rfl | rfl | rfl | rfl | rfl | rfl | rfl <;> rfl
          · exact EI_9 h5
end Pl
