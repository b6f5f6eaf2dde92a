set_option maxRecDepth 100000 in
set_option maxHeartbeats 4000000 in
theorem bL_law_694 {p : Program} {l : Launch} {e : Env} {s : State} {m : MethodId} {below : List Frame} {meth : Method} {c : Code} {D : va_G} {cy : Nat → ClassId} {b L : Nat} {xs : Nat → Int32} (C0 : lw_At p s m meth c b L xs) (hK : KS D cy s) (hZ : ZZ s.heap.size s s.heap) (hfl : l.stackTraces = false) (kL147 : Int32 → Int32 → Int32 → Int32 → Int32 → Int32 → Mm → Option (Int32)) (nL147 : Nat) (hkL147 : ∀ (x2 : Int32) (x3 : Int32) (x4 : Int32) (x5 : Int32) (x6 : Int32) (x7 : Int32) (cells slots : Nat) (M : Mm) (H : Heap) (locs : List Loc) (ls : Array Slot), cells + (0 + nL147 * 2718) ≤ 600086 → slots + (0 + nL147 * 16308) ≤ 7301442 → HP D cy s.heap.size M H → va_S (Aq s.heap.size) s.heap H locs → lv_has ls 15 [(0, .ref b), (1, .ref (s.heap.size + 0)), (2, .int x2), (3, .int x3), (4, .int x4), (5, .int x5), (6, .int x6), (7, .int x7)] → narrow .boolean (.int x6) = .int x6 → kL147 x2 x3 x4 x5 x6 x7 M = some (1 : Int32) → W p l e room_1 s m #[Value.ref b] below meth c H locs cells slots (lw_Z below #[Value.ref b] s) (F0 m 147 ls [])) : ∀ (n : Nat), ∀ (x2 : Int32) (x3 : Int32) (x4 : Int32) (x5 : Int32) (x6 : Int32) (x7 : Int32) (x14 : Int32) (cells slots : Nat) (M : Mm) (H : Heap) (locs : List Loc) (ls : Array Slot), cells + (0 + n * 8 + nL147 * 2718) ≤ 600086 → slots + (0 + n * 48 + nL147 * 16308) ≤ 7301442 → HP D cy s.heap.size M H → va_S (Aq s.heap.size) s.heap H locs → lv_has ls 15 [(0, .ref b), (1, .ref (s.heap.size + 0)), (2, .int x2), (3, .int x3), (4, .int x4), (5, .int x5), (6, .int x6), (7, .int x7), (14, .int x14)] → narrow .boolean (.int x6) = .int x6 → fL_law_L694 xs L kL147 n x2 x3 x4 x5 x6 x7 x14 M = some (1 : Int32) → W p l e room_1 s m #[Value.ref b] below meth c H locs cells slots (lw_Z below #[Value.ref b] s) (F0 m 694 ls []) := by
  obtain ⟨hx, hb, hr, hml, hown, hts0, hX, hbl, hlocks, hgv⟩ := id C0
  have hts : ∀ w ∈ wsL_law, w.before #[Value.ref b] s = true := fun w h => hts0 w (wsL_law_in w h)
  have hbA : ¬ Aq s.heap.size b := Nat.not_le.mpr hbl
  intro n
  induction n with
  | zero =>
    intro x2 x3 x4 x5 x6 x7 x14 cells slots M H locs ls hc1 hc2 hw hS hl hb6 hf
    have hf : (none : Option (Int32)) = some (1 : Int32) := hf
    cases hf
  | succ n ih =>
    intro x2 x3 x4 x5 x6 x7 x14 cells slots M H locs ls hc1 hc2 hw hS hl hb6 hf
    unfold fL_law_L694 at hf
    refine lv_iload hx hb dL_law_694 (lv_at hl 8 rfl) ?_
    refine lv_iload hx hb dL_law_696 (lv_at hl 4 rfl) ?_
    refine lv_icmp_ge (tgt := 757) hx hb dL_law_698 (by decide) (fun c1 => ?_) (fun c1 => ?_)
    · have hf := ip c1 hf
      refine lv_iinc (v := x7 + (1 : Int32)) (lv' := [(7, .int (x7 + (1 : Int32))), (0, .ref b), (1, .ref (s.heap.size + 0)), (2, .int x2), (3, .int x3), (4, .int x4), (5, .int x5), (6, .int x6), (14, .int x14)]) hx hb dL_law_757 hl (k := 7) rfl rfl (Nat.le_of_ble_eq_true rfl) rfl (fun ls hl => ?_)
      refine lv_goto (tgt := 147) hx hb dL_law_760 (by decide) ?_
      exact hkL147 _ _ _ _ _ _ _ _ _ _ _ _ (by omega) (by omega) hw hS (lv_sub hl [1, 2, 3, 4, 5, 6, 7, 0] rfl) hb6 hf
    · have hf := iq c1 hf
      refine lv_iload hx hb dL_law_701 (lv_at hl 6 rfl) ?_
      refine lv_if_eq (tgt := 757) hx hb dL_law_703 (by decide) (fun c2 => ?_) (fun c2 => ?_)
      · have hf := ip c2 hf
        refine lv_iinc (v := x7 + (1 : Int32)) (lv' := [(7, .int (x7 + (1 : Int32))), (0, .ref b), (1, .ref (s.heap.size + 0)), (2, .int x2), (3, .int x3), (4, .int x4), (5, .int x5), (6, .int x6), (14, .int x14)]) hx hb dL_law_757 hl (k := 7) rfl rfl (Nat.le_of_ble_eq_true rfl) rfl (fun ls hl => ?_)
        refine lv_goto (tgt := 147) hx hb dL_law_760 (by decide) ?_
        exact hkL147 _ _ _ _ _ _ _ _ _ _ _ _ (by omega) (by omega) hw hS (lv_sub hl [1, 2, 3, 4, 5, 6, 7, 0] rfl) hb6 hf
      · have hf := iq c2 hf
        refine lv_aload_n hx hb dL_law_706 rfl (lv_at hl 1 rfl) ?_
        refine lv_iload hx hb dL_law_707 (lv_at hl 8 rfl) ?_
        obtain ⟨o3, ho3, hf⟩ := ob hf
        refine rCallI (vx_runSW (hh := [(0, 5, 6, 23)]) (As := [.ref (s.heap.size + 0), .int x14]) (rest := []) ⟨hx, hb, hml, hown, hts⟩ (ctL_dirt (l := l) (D := D) (cy := cy) (a := s.heap.size) hfl ho3) (vx_cwSW 2 hts gL_law_L_dirt rfl rfl rfl (by decide +kernel) ⟨Nat.le_of_ble_eq_true rfl, Nat.le_of_ble_eq_true rfl⟩) (pS hK hZ hw hS) rfl rfl hl.1 rfl (lv_room (Nat.le_of_ble_eq_true rfl)) dL_law_709 ⟨(by show _ ≤ 600086; omega), (by show _ ≤ 7301442; omega)⟩) hS (fun H locs hw hS => ?_)
        refine lv_if_lt (tgt := 748) hx hb dL_law_712 (by decide) (fun c4 => ?_) (fun c4 => ?_)
        · have hf := ip c4 hf
          refine lv_iconst (v := (0 : Int32)) hx hb dL_law_748 (by decide) ?_
          refine lv_istore (lv' := [(6, .int (0 : Int32)), (0, .ref b), (1, .ref (s.heap.size + 0)), (2, .int x2), (3, .int x3), (4, .int x4), (5, .int x5), (7, .int x7), (14, .int x14)]) hx hb dL_law_749 hl (Nat.le_of_ble_eq_true rfl) rfl (fun ls hl => ?_)
          refine lv_iinc (v := x14 + (1 : Int32)) (lv' := [(14, .int (x14 + (1 : Int32))), (6, .int (0 : Int32)), (0, .ref b), (1, .ref (s.heap.size + 0)), (2, .int x2), (3, .int x3), (4, .int x4), (5, .int x5), (7, .int x7)]) hx hb dL_law_751 hl (k := 8) rfl rfl (Nat.le_of_ble_eq_true rfl) rfl (fun ls hl => ?_)
          refine lv_goto (tgt := 694) hx hb dL_law_754 (by decide) ?_
          exact ih _ _ _ _ _ _ _ _ _ _ _ _ _ (by omega) (by omega) hw hS (lv_sub hl [2, 3, 4, 5, 6, 7, 1, 8, 0] rfl) rfl hf
        · have hf := iq c4 hf
          refine lv_aload_n hx hb dL_law_715 rfl (lv_at hl 1 rfl) ?_
          refine lv_iload hx hb dL_law_716 (lv_at hl 8 rfl) ?_
          obtain ⟨o5, ho5, hf⟩ := ob hf
          refine rCallI (vx_runSW (hh := [(0, 5, 6, 23)]) (As := [.ref (s.heap.size + 0), .int x14]) (rest := []) ⟨hx, hb, hml, hown, hts⟩ (ctL_dirt (l := l) (D := D) (cy := cy) (a := s.heap.size) hfl ho5) (vx_cwSW 2 hts gL_law_L_dirt rfl rfl rfl (by decide +kernel) ⟨Nat.le_of_ble_eq_true rfl, Nat.le_of_ble_eq_true rfl⟩) (pS hK hZ hw hS) rfl rfl hl.1 rfl (lv_room (Nat.le_of_ble_eq_true rfl)) dL_law_718 ⟨(by show _ ≤ 600086; omega), (by show _ ≤ 7301442; omega)⟩) hS (fun H locs hw hS => ?_)
          refine lv_sipush (v := (200 : Int32)) hx hb dL_law_721 (by decide) ?_
          refine lv_icmp_gt (tgt := 748) hx hb dL_law_724 (by decide) (fun c6 => ?_) (fun c6 => ?_)
          · have hf := ip c6 hf
            refine lv_iconst (v := (0 : Int32)) hx hb dL_law_748 (by decide) ?_
            refine lv_istore (lv' := [(6, .int (0 : Int32)), (0, .ref b), (1, .ref (s.heap.size + 0)), (2, .int x2), (3, .int x3), (4, .int x4), (5, .int x5), (7, .int x7), (14, .int x14)]) hx hb dL_law_749 hl (Nat.le_of_ble_eq_true rfl) rfl (fun ls hl => ?_)
            refine lv_iinc (v := x14 + (1 : Int32)) (lv' := [(14, .int (x14 + (1 : Int32))), (6, .int (0 : Int32)), (0, .ref b), (1, .ref (s.heap.size + 0)), (2, .int x2), (3, .int x3), (4, .int x4), (5, .int x5), (7, .int x7)]) hx hb dL_law_751 hl (k := 8) rfl rfl (Nat.le_of_ble_eq_true rfl) rfl (fun ls hl => ?_)
            refine lv_goto (tgt := 694) hx hb dL_law_754 (by decide) ?_
            exact ih _ _ _ _ _ _ _ _ _ _ _ _ _ (by omega) (by omega) hw hS (lv_sub hl [2, 3, 4, 5, 6, 7, 1, 8, 0] rfl) rfl hf
          · have hf := iq c6 hf
            refine lv_aload_n hx hb dL_law_727 rfl (lv_at hl 1 rfl) ?_
            refine lv_iload hx hb dL_law_728 (lv_at hl 8 rfl) ?_
            refine lv_iconst (v := (3 : Int32)) hx hb dL_law_730 (by decide) ?_
            obtain ⟨o7, ho7, hf⟩ := ob hf
            refine rCallI (vx_runSW (hh := [(0, 6, 7, 23), (0, 6, 11, 15), (0, 6, 15, 17)]) (As := [.ref (s.heap.size + 0), .int x14, .int (3 : Int32)]) (rest := []) ⟨hx, hb, hml, hown, hts⟩ (ctL_pressure (l := l) (D := D) (cy := cy) (a := s.heap.size) hfl ho7) (vx_cwSW 3 hts gL_law_L_pressure rfl rfl rfl (by decide +kernel) ⟨Nat.le_of_ble_eq_true rfl, Nat.le_of_ble_eq_true rfl⟩) (pS hK hZ hw hS) rfl rfl hl.1 rfl (lv_room (Nat.le_of_ble_eq_true rfl)) dL_law_731 ⟨(by show _ ≤ 600086; omega), (by show _ ≤ 7301442; omega)⟩) hS (fun H locs hw hS => ?_)
            refine lv_aload_n hx hb dL_law_734 rfl (lv_at hl 1 rfl) ?_
            refine lv_iload hx hb dL_law_735 (lv_at hl 8 rfl) ?_
            refine lv_iconst (v := (4 : Int32)) hx hb dL_law_737 (by decide) ?_
            obtain ⟨o8, ho8, hf⟩ := ob hf
            refine rCallI (vx_runSW (hh := [(0, 6, 7, 23), (0, 6, 11, 15), (0, 6, 15, 17)]) (As := [.ref (s.heap.size + 0), .int x14, .int (4 : Int32)]) (rest := [.int o7]) ⟨hx, hb, hml, hown, hts⟩ (ctL_pressure (l := l) (D := D) (cy := cy) (a := s.heap.size) hfl ho8) (vx_cwSW 3 hts gL_law_L_pressure rfl rfl rfl (by decide +kernel) ⟨Nat.le_of_ble_eq_true rfl, Nat.le_of_ble_eq_true rfl⟩) (pS hK hZ hw hS) rfl rfl hl.1 rfl (lv_room (Nat.le_of_ble_eq_true rfl)) dL_law_738 ⟨(by show _ ≤ 600086; omega), (by show _ ≤ 7301442; omega)⟩) hS (fun H locs hw hS => ?_)
            refine lv_icmp_gt (tgt := 748) hx hb dL_law_741 (by decide) (fun c9 => ?_) (fun c9 => ?_)
            · have hf := ip c9 hf
              refine lv_iconst (v := (0 : Int32)) hx hb dL_law_748 (by decide) ?_
              refine lv_istore (lv' := [(6, .int (0 : Int32)), (0, .ref b), (1, .ref (s.heap.size + 0)), (2, .int x2), (3, .int x3), (4, .int x4), (5, .int x5), (7, .int x7), (14, .int x14)]) hx hb dL_law_749 hl (Nat.le_of_ble_eq_true rfl) rfl (fun ls hl => ?_)
              refine lv_iinc (v := x14 + (1 : Int32)) (lv' := [(14, .int (x14 + (1 : Int32))), (6, .int (0 : Int32)), (0, .ref b), (1, .ref (s.heap.size + 0)), (2, .int x2), (3, .int x3), (4, .int x4), (5, .int x5), (7, .int x7)]) hx hb dL_law_751 hl (k := 8) rfl rfl (Nat.le_of_ble_eq_true rfl) rfl (fun ls hl => ?_)
              refine lv_goto (tgt := 694) hx hb dL_law_754 (by decide) ?_
              exact ih _ _ _ _ _ _ _ _ _ _ _ _ _ (by omega) (by omega) hw hS (lv_sub hl [2, 3, 4, 5, 6, 7, 1, 8, 0] rfl) rfl hf
            · have hf := iq c9 hf
              refine lv_iconst (v := (1 : Int32)) hx hb dL_law_744 (by decide) ?_
              refine lv_goto (tgt := 749) hx hb dL_law_745 (by decide) ?_
              refine lv_istore (lv' := [(6, .int (1 : Int32)), (0, .ref b), (1, .ref (s.heap.size + 0)), (2, .int x2), (3, .int x3), (4, .int x4), (5, .int x5), (7, .int x7), (14, .int x14)]) hx hb dL_law_749 hl (Nat.le_of_ble_eq_true rfl) rfl (fun ls hl => ?_)
              refine lv_iinc (v := x14 + (1 : Int32)) (lv' := [(14, .int (x14 + (1 : Int32))), (6, .int (1 : Int32)), (0, .ref b), (1, .ref (s.heap.size + 0)), (2, .int x2), (3, .int x3), (4, .int x4), (5, .int x5), (7, .int x7)]) hx hb dL_law_751 hl (k := 8) rfl rfl (Nat.le_of_ble_eq_true rfl) rfl (fun ls hl => ?_)
              refine lv_goto (tgt := 694) hx hb dL_law_754 (by decide) ?_
              exact ih _ _ _ _ _ _ _ _ _ _ _ _ _ (by omega) (by omega) hw hS (lv_sub hl [2, 3, 4, 5, 6, 7, 1, 8, 0] rfl) rfl hf
set_option maxRecDepth 100000 in
set_option maxHeartbeats 4000000 in
theorem bL_law_656 {p : Program} {l : Launch} {e : Env} {s : State} {m : MethodId} {below : List Frame} {meth : Method} {c : Code} {D : va_G} {cy : Nat → ClassId} {b L : Nat} {xs : Nat → Int32} (C0 : lw_At p s m meth c b L xs) (hK : KS D cy s) (hZ : ZZ s.heap.size s s.heap) (hfl : l.stackTraces = false) (kL147 : Int32 → Int32 → Int32 → Int32 → Int32 → Int32 → Mm → Option (Int32)) (nL147 : Nat) (hkL147 : ∀ (x2 : Int32) (x3 : Int32) (x4 : Int32) (x5 : Int32) (x6 : Int32) (x7 : Int32) (cells slots : Nat) (M : Mm) (H : Heap) (locs : List Loc) (ls : Array Slot), cells + (0 + nL147 * 2718) ≤ 600086 → slots + (0 + nL147 * 16308) ≤ 7301442 → HP D cy s.heap.size M H → va_S (Aq s.heap.size) s.heap H locs → lv_has ls 15 [(0, .ref b), (1, .ref (s.heap.size + 0)), (2, .int x2), (3, .int x3), (4, .int x4), (5, .int x5), (6, .int x6), (7, .int x7)] → narrow .boolean (.int x6) = .int x6 → kL147 x2 x3 x4 x5 x6 x7 M = some (1 : Int32) → W p l e room_1 s m #[Value.ref b] below meth c H locs cells slots (lw_Z below #[Value.ref b] s) (F0 m 147 ls [])) : ∀ (x2 : Int32) (x3 : Int32) (x4 : Int32) (x5 : Int32) (x6 : Int32) (x7 : Int32) (x11 : Int32) (x12 : Int32) (x13 : Int32) (cells slots : Nat) (M : Mm) (H : Heap) (locs : List Loc) (ls : Array Slot), cells + (2688 + nL147 * 2718) ≤ 600086 → slots + (16128 + nL147 * 16308) ≤ 7301442 → HP D cy s.heap.size M H → va_S (Aq s.heap.size) s.heap H locs → lv_has ls 15 [(0, .ref b), (1, .ref (s.heap.size + 0)), (2, .int x2), (3, .int x3), (4, .int x4), (5, .int x5), (6, .int x6), (7, .int x7), (11, .int x11), (12, .int x12), (13, .int x13)] → narrow .boolean (.int x6) = .int x6 → fL_law_b656 xs L kL147 x2 x3 x4 x5 x6 x7 x11 x12 x13 M = some (1 : Int32) → W p l e room_1 s m #[Value.ref b] below meth c H locs cells slots (lw_Z below #[Value.ref b] s) (F0 m 656 ls []) := by
  obtain ⟨hx, hb, hr, hml, hown, hts0, hX, hbl, hlocks, hgv⟩ := id C0
  have hts : ∀ w ∈ wsL_law, w.before #[Value.ref b] s = true := fun w h => hts0 w (wsL_law_in w h)
  have hbA : ¬ Aq s.heap.size b := Nat.not_le.mpr hbl
  intro x2 x3 x4 x5 x6 x7 x11 x12 x13 cells slots M H locs ls hc1 hc2 hw hS hl hb6 hf
  unfold fL_law_b656 at hf
  refine lv_iload hx hb dL_law_656 (lv_at hl 6 rfl) ?_
  refine lv_if_eq (tgt := 688) hx hb dL_law_658 (by decide) (fun c1 => ?_) (fun c1 => ?_)
  · have hf := ip c1 hf
    refine lv_iconst (v := (0 : Int32)) hx hb dL_law_688 (by decide) ?_
    refine lv_istore (lv' := [(6, .int (0 : Int32)), (0, .ref b), (1, .ref (s.heap.size + 0)), (2, .int x2), (3, .int x3), (4, .int x4), (5, .int x5), (7, .int x7), (11, .int x11), (12, .int x12), (13, .int x13)]) hx hb dL_law_689 hl (Nat.le_of_ble_eq_true rfl) rfl (fun ls hl => ?_)
    refine lv_iconst (v := (0 : Int32)) hx hb dL_law_691 (by decide) ?_
    refine lv_istore (lv' := [(14, .int (0 : Int32)), (6, .int (0 : Int32)), (0, .ref b), (1, .ref (s.heap.size + 0)), (2, .int x2), (3, .int x3), (4, .int x4), (5, .int x5), (7, .int x7), (11, .int x11), (12, .int x12), (13, .int x13)]) hx hb dL_law_692 hl (Nat.le_of_ble_eq_true rfl) rfl (fun ls hl => ?_)
    exact bL_law_694 C0 hK hZ hfl kL147 nL147 hkL147 8 _ _ _ _ _ _ _ _ _ _ _ _ _ (by omega) (by omega) hw hS (lv_sub hl [2, 3, 4, 5, 6, 7, 1, 8, 0] rfl) rfl hf
  · have hf := iq c1 hf
    refine lv_iload hx hb dL_law_661 (lv_at hl 9 rfl) ?_
    refine lv_iload hx hb dL_law_663 (lv_at hl 10 rfl) ?_
    refine lv_icmp_gt (tgt := 688) hx hb dL_law_665 (by decide) (fun c2 => ?_) (fun c2 => ?_)
    · have hf := ip c2 hf
      refine lv_iconst (v := (0 : Int32)) hx hb dL_law_688 (by decide) ?_
      refine lv_istore (lv' := [(6, .int (0 : Int32)), (0, .ref b), (1, .ref (s.heap.size + 0)), (2, .int x2), (3, .int x3), (4, .int x4), (5, .int x5), (7, .int x7), (11, .int x11), (12, .int x12), (13, .int x13)]) hx hb dL_law_689 hl (Nat.le_of_ble_eq_true rfl) rfl (fun ls hl => ?_)
      refine lv_iconst (v := (0 : Int32)) hx hb dL_law_691 (by decide) ?_
      refine lv_istore (lv' := [(14, .int (0 : Int32)), (6, .int (0 : Int32)), (0, .ref b), (1, .ref (s.heap.size + 0)), (2, .int x2), (3, .int x3), (4, .int x4), (5, .int x5), (7, .int x7), (11, .int x11), (12, .int x12), (13, .int x13)]) hx hb dL_law_692 hl (Nat.le_of_ble_eq_true rfl) rfl (fun ls hl => ?_)
      exact bL_law_694 C0 hK hZ hfl kL147 nL147 hkL147 8 _ _ _ _ _ _ _ _ _ _ _ _ _ (by omega) (by omega) hw hS (lv_sub hl [2, 3, 4, 5, 6, 7, 1, 8, 0] rfl) rfl hf
    · have hf := iq c2 hf
      refine lv_iload hx hb dL_law_668 (lv_at hl 9 rfl) ?_
      refine lv_iload hx hb dL_law_670 (lv_at hl 8 rfl) ?_
      refine lv_icmp_gt (tgt := 688) hx hb dL_law_672 (by decide) (fun c3 => ?_) (fun c3 => ?_)
      · have hf := ip c3 hf
        refine lv_iconst (v := (0 : Int32)) hx hb dL_law_688 (by decide) ?_
        refine lv_istore (lv' := [(6, .int (0 : Int32)), (0, .ref b), (1, .ref (s.heap.size + 0)), (2, .int x2), (3, .int x3), (4, .int x4), (5, .int x5), (7, .int x7), (11, .int x11), (12, .int x12), (13, .int x13)]) hx hb dL_law_689 hl (Nat.le_of_ble_eq_true rfl) rfl (fun ls hl => ?_)
        refine lv_iconst (v := (0 : Int32)) hx hb dL_law_691 (by decide) ?_
        refine lv_istore (lv' := [(14, .int (0 : Int32)), (6, .int (0 : Int32)), (0, .ref b), (1, .ref (s.heap.size + 0)), (2, .int x2), (3, .int x3), (4, .int x4), (5, .int x5), (7, .int x7), (11, .int x11), (12, .int x12), (13, .int x13)]) hx hb dL_law_692 hl (Nat.le_of_ble_eq_true rfl) rfl (fun ls hl => ?_)
        exact bL_law_694 C0 hK hZ hfl kL147 nL147 hkL147 8 _ _ _ _ _ _ _ _ _ _ _ _ _ (by omega) (by omega) hw hS (lv_sub hl [2, 3, 4, 5, 6, 7, 1, 8, 0] rfl) rfl hf
      · have hf := iq c3 hf
        refine lv_aload_n hx hb dL_law_675 rfl (lv_at hl 1 rfl) ?_
        refine lv_iload_n hx hb dL_law_676 rfl (lv_at hl 3 rfl) ?_
        refine lv_iload_n hx hb dL_law_677 rfl (lv_at hl 2 rfl) ?_
        obtain ⟨o4, ho4, hf⟩ := ob hf
        refine rCallB (va_runS (As := [.ref (s.heap.size + 0), .int x3, .int x2]) (rest := []) ⟨hx, hb, hml, hown, hts⟩ (ctL_fits (l := l) (D := D) (cy := cy) (a := s.heap.size) hfl ho4) (va_cwS 3 hts gL_law_L_fits rfl rfl rfl (by decide +kernel) ⟨Nat.le_of_ble_eq_true rfl, Nat.le_of_ble_eq_true rfl⟩) (pS hK hZ hw hS) rfl rfl hl.1 rfl (lv_room (Nat.le_of_ble_eq_true rfl)) dL_law_678 ⟨(by show _ ≤ 600086; omega), (by show _ ≤ 7301442; omega)⟩) hS (fun H locs hw hS ho4b => ?_)
        refine lv_if_eq (tgt := 688) hx hb dL_law_681 (by decide) (fun c5 => ?_) (fun c5 => ?_)
        · have hf := ip c5 hf
          refine lv_iconst (v := (0 : Int32)) hx hb dL_law_688 (by decide) ?_
          refine lv_istore (lv' := [(6, .int (0 : Int32)), (0, .ref b), (1, .ref (s.heap.size + 0)), (2, .int x2), (3, .int x3), (4, .int x4), (5, .int x5), (7, .int x7), (11, .int x11), (12, .int x12), (13, .int x13)]) hx hb dL_law_689 hl (Nat.le_of_ble_eq_true rfl) rfl (fun ls hl => ?_)
          refine lv_iconst (v := (0 : Int32)) hx hb dL_law_691 (by decide) ?_
          refine lv_istore (lv' := [(14, .int (0 : Int32)), (6, .int (0 : Int32)), (0, .ref b), (1, .ref (s.heap.size + 0)), (2, .int x2), (3, .int x3), (4, .int x4), (5, .int x5), (7, .int x7), (11, .int x11), (12, .int x12), (13, .int x13)]) hx hb dL_law_692 hl (Nat.le_of_ble_eq_true rfl) rfl (fun ls hl => ?_)
          exact bL_law_694 C0 hK hZ hfl kL147 nL147 hkL147 8 _ _ _ _ _ _ _ _ _ _ _ _ _ (by omega) (by omega) hw hS (lv_sub hl [2, 3, 4, 5, 6, 7, 1, 8, 0] rfl) rfl hf
        · have hf := iq c5 hf
          refine lv_iconst (v := (1 : Int32)) hx hb dL_law_684 (by decide) ?_
          refine lv_goto (tgt := 689) hx hb dL_law_685 (by decide) ?_
          refine lv_istore (lv' := [(6, .int (1 : Int32)), (0, .ref b), (1, .ref (s.heap.size + 0)), (2, .int x2), (3, .int x3), (4, .int x4), (5, .int x5), (7, .int x7), (11, .int x11), (12, .int x12), (13, .int x13)]) hx hb dL_law_689 hl (Nat.le_of_ble_eq_true rfl) rfl (fun ls hl => ?_)
          refine lv_iconst (v := (0 : Int32)) hx hb dL_law_691 (by decide) ?_
          refine lv_istore (lv' := [(14, .int (0 : Int32)), (6, .int (1 : Int32)), (0, .ref b), (1, .ref (s.heap.size + 0)), (2, .int x2), (3, .int x3), (4, .int x4), (5, .int x5), (7, .int x7), (11, .int x11), (12, .int x12), (13, .int x13)]) hx hb dL_law_692 hl (Nat.le_of_ble_eq_true rfl) rfl (fun ls hl => ?_)
          exact bL_law_694 C0 hK hZ hfl kL147 nL147 hkL147 8 _ _ _ _ _ _ _ _ _ _ _ _ _ (by omega) (by omega) hw hS (lv_sub hl [2, 3, 4, 5, 6, 7, 1, 8, 0] rfl) rfl hf
set_option maxRecDepth 100000 in
set_option maxHeartbeats 4000000 in
theorem bL_law_612 {p : Program} {l : Launch} {e : Env} {s : State} {m : MethodId} {below : List Frame} {meth : Method} {c : Code} {D : va_G} {cy : Nat → ClassId} {b L : Nat} {xs : Nat → Int32} (C0 : lw_At p s m meth c b L xs) (hK : KS D cy s) (hZ : ZZ s.heap.size s s.heap) (hfl : l.stackTraces = false) (kL147 : Int32 → Int32 → Int32 → Int32 → Int32 → Int32 → Mm → Option (Int32)) (nL147 : Nat) (hkL147 : ∀ (x2 : Int32) (x3 : Int32) (x4 : Int32) (x5 : Int32) (x6 : Int32) (x7 : Int32) (cells slots : Nat) (M : Mm) (H : Heap) (locs : List Loc) (ls : Array Slot), cells + (0 + nL147 * 2718) ≤ 600086 → slots + (0 + nL147 * 16308) ≤ 7301442 → HP D cy s.heap.size M H → va_S (Aq s.heap.size) s.heap H locs → lv_has ls 15 [(0, .ref b), (1, .ref (s.heap.size + 0)), (2, .int x2), (3, .int x3), (4, .int x4), (5, .int x5), (6, .int x6), (7, .int x7)] → narrow .boolean (.int x6) = .int x6 → kL147 x2 x3 x4 x5 x6 x7 M = some (1 : Int32) → W p l e room_1 s m #[Value.ref b] below meth c H locs cells slots (lw_Z below #[Value.ref b] s) (F0 m 147 ls [])) : ∀ (n : Nat), ∀ (x2 : Int32) (x3 : Int32) (x4 : Int32) (x5 : Int32) (x6 : Int32) (x7 : Int32) (x11 : Int32) (x12 : Int32) (x13 : Int32) (x14 : Int32) (cells slots : Nat) (M : Mm) (H : Heap) (locs : List Loc) (ls : Array Slot), cells + (2688 + n * 4 + nL147 * 2718) ≤ 600086 → slots + (16128 + n * 24 + nL147 * 16308) ≤ 7301442 → HP D cy s.heap.size M H → va_S (Aq s.heap.size) s.heap H locs → lv_has ls 15 [(0, .ref b), (1, .ref (s.heap.size + 0)), (2, .int x2), (3, .int x3), (4, .int x4), (5, .int x5), (6, .int x6), (7, .int x7), (11, .int x11), (12, .int x12), (13, .int x13), (14, .int x14)] → narrow .boolean (.int x6) = .int x6 → fL_law_L612 xs L kL147 n x2 x3 x4 x5 x6 x7 x11 x12 x13 x14 M = some (1 : Int32) → W p l e room_1 s m #[Value.ref b] below meth c H locs cells slots (lw_Z below #[Value.ref b] s) (F0 m 612 ls []) := by
  obtain ⟨hx, hb, hr, hml, hown, hts0, hX, hbl, hlocks, hgv⟩ := id C0
  have hts : ∀ w ∈ wsL_law, w.before #[Value.ref b] s = true := fun w h => hts0 w (wsL_law_in w h)
  have hbA : ¬ Aq s.heap.size b := Nat.not_le.mpr hbl
  intro n
  induction n with
  | zero =>
    intro x2 x3 x4 x5 x6 x7 x11 x12 x13 x14 cells slots M H locs ls hc1 hc2 hw hS hl hb6 hf
    have hf : (none : Option (Int32)) = some (1 : Int32) := hf
    cases hf
  | succ n ih =>
    intro x2 x3 x4 x5 x6 x7 x11 x12 x13 x14 cells slots M H locs ls hc1 hc2 hw hS hl hb6 hf
    unfold fL_law_L612 at hf
    refine lv_iload hx hb dL_law_612 (lv_at hl 11 rfl) ?_
    refine lv_iconst (v := (4 : Int32)) hx hb dL_law_614 (by decide) ?_
    refine lv_icmp_ge (tgt := 656) hx hb dL_law_615 (by decide) (fun c1 => ?_) (fun c1 => ?_)
    · have hf := ip c1 hf
      exact bL_law_656 C0 hK hZ hfl kL147 nL147 hkL147 _ _ _ _ _ _ _ _ _ _ _ _ _ _ _ (by omega) (by omega) hw hS (lv_sub hl [0, 1, 2, 3, 4, 5, 6, 7, 8, 9, 10] rfl) hb6 hf
    · have hf := iq c1 hf
      refine lv_iload hx hb dL_law_618 (lv_at hl 6 rfl) ?_
      refine lv_if_eq (tgt := 656) hx hb dL_law_620 (by decide) (fun c2 => ?_) (fun c2 => ?_)
      · have hf := ip c2 hf
        exact bL_law_656 C0 hK hZ hfl kL147 nL147 hkL147 _ _ _ _ _ _ _ _ _ _ _ _ _ _ _ (by omega) (by omega) hw hS (lv_sub hl [0, 1, 2, 3, 4, 5, 6, 7, 8, 9, 10] rfl) hb6 hf
      · have hf := iq c2 hf
        refine lv_iload hx hb dL_law_623 (lv_at hl 9 rfl) ?_
        refine lv_aload_n hx hb dL_law_625 rfl (lv_at hl 1 rfl) ?_
        refine lv_iload hx hb dL_law_626 (lv_at hl 11 rfl) ?_
        refine lv_iload hx hb dL_law_628 (lv_at hl 10 rfl) ?_
        obtain ⟨o3, ho3, hf⟩ := ob hf
        refine rCallI (vx_runSW (hh := [(0, 6, 7, 23), (0, 6, 11, 15)]) (As := [.ref (s.heap.size + 0), .int x14, .int x13]) (rest := [.int x12]) ⟨hx, hb, hml, hown, hts⟩ (ctL_share (l := l) (D := D) (cy := cy) (a := s.heap.size) hfl ho3) (vx_cwSW 3 hts gL_law_L_share rfl rfl rfl (by decide +kernel) ⟨Nat.le_of_ble_eq_true rfl, Nat.le_of_ble_eq_true rfl⟩) (pS hK hZ hw hS) rfl rfl hl.1 rfl (lv_room (Nat.le_of_ble_eq_true rfl)) dL_law_630 ⟨(by show _ ≤ 600086; omega), (by show _ ≤ 7301442; omega)⟩) hS (fun H locs hw hS => ?_)
        refine lv_iadd hx hb dL_law_633 ?_
        refine lv_istore (lv' := [(12, .int (x12 + o3)), (0, .ref b), (1, .ref (s.heap.size + 0)), (2, .int x2), (3, .int x3), (4, .int x4), (5, .int x5), (6, .int x6), (7, .int x7), (11, .int x11), (13, .int x13), (14, .int x14)]) hx hb dL_law_634 hl (Nat.le_of_ble_eq_true rfl) rfl (fun ls hl => ?_)
        refine lv_iload hx hb dL_law_636 (lv_at hl 9 rfl) ?_
        refine lv_aload_n hx hb dL_law_638 rfl (lv_at hl 2 rfl) ?_
        refine lv_iload hx hb dL_law_639 (lv_at hl 11 rfl) ?_
        refine lv_sipush (v := (9999 : Int32)) hx hb dL_law_641 (by decide) ?_
        obtain ⟨o4, ho4, hf⟩ := ob hf
        refine rCallI (vx_runSW (hh := [(0, 6, 7, 23), (0, 6, 11, 15)]) (As := [.ref (s.heap.size + 0), .int x14, .int (9999 : Int32)]) (rest := [.int x11]) ⟨hx, hb, hml, hown, hts⟩ (ctL_share (l := l) (D := D) (cy := cy) (a := s.heap.size) hfl ho4) (vx_cwSW 3 hts gL_law_L_share rfl rfl rfl (by decide +kernel) ⟨Nat.le_of_ble_eq_true rfl, Nat.le_of_ble_eq_true rfl⟩) (pS hK hZ hw hS) rfl rfl hl.1 rfl (lv_room (Nat.le_of_ble_eq_true rfl)) dL_law_644 ⟨(by show _ ≤ 600086; omega), (by show _ ≤ 7301442; omega)⟩) hS (fun H locs hw hS => ?_)
        refine lv_iadd hx hb dL_law_647 ?_
        refine lv_istore (lv' := [(11, .int (x11 + o4)), (12, .int (x12 + o3)), (0, .ref b), (1, .ref (s.heap.size + 0)), (2, .int x2), (3, .int x3), (4, .int x4), (5, .int x5), (6, .int x6), (7, .int x7), (13, .int x13), (14, .int x14)]) hx hb dL_law_648 hl (Nat.le_of_ble_eq_true rfl) rfl (fun ls hl => ?_)
        refine lv_iinc (v := x14 + (1 : Int32)) (lv' := [(14, .int (x14 + (1 : Int32))), (11, .int (x11 + o4)), (12, .int (x12 + o3)), (0, .ref b), (1, .ref (s.heap.size + 0)), (2, .int x2), (3, .int x3), (4, .int x4), (5, .int x5), (6, .int x6), (7, .int x7), (13, .int x13)]) hx hb dL_law_650 hl (k := 11) rfl rfl (Nat.le_of_ble_eq_true rfl) rfl (fun ls hl => ?_)
        refine lv_goto (tgt := 612) hx hb dL_law_653 (by decide) ?_
        exact ih _ _ _ _ _ _ _ _ _ _ _ _ _ _ _ _ (by omega) (by omega) hw hS (lv_sub hl [3, 4, 5, 6, 7, 8, 9, 10, 1, 2, 11, 0] rfl) hb6 hf
set_option maxRecDepth 100000 in
set_option maxHeartbeats 4000000 in
theorem bL_law_595 {p : Program} {l : Launch} {e : Env} {s : State} {m : MethodId} {below : List Frame} {meth : Method} {c : Code} {D : va_G} {cy : Nat → ClassId} {b L : Nat} {xs : Nat → Int32} (C0 : lw_At p s m meth c b L xs) (hK : KS D cy s) (hZ : ZZ s.heap.size s s.heap) (hfl : l.stackTraces = false) (kL147 : Int32 → Int32 → Int32 → Int32 → Int32 → Int32 → Mm → Option (Int32)) (nL147 : Nat) (hkL147 : ∀ (x2 : Int32) (x3 : Int32) (x4 : Int32) (x5 : Int32) (x6 : Int32) (x7 : Int32) (cells slots : Nat) (M : Mm) (H : Heap) (locs : List Loc) (ls : Array Slot), cells + (0 + nL147 * 2718) ≤ 600086 → slots + (0 + nL147 * 16308) ≤ 7301442 → HP D cy s.heap.size M H → va_S (Aq s.heap.size) s.heap H locs → lv_has ls 15 [(0, .ref b), (1, .ref (s.heap.size + 0)), (2, .int x2), (3, .int x3), (4, .int x4), (5, .int x5), (6, .int x6), (7, .int x7)] → narrow .boolean (.int x6) = .int x6 → kL147 x2 x3 x4 x5 x6 x7 M = some (1 : Int32) → W p l e room_1 s m #[Value.ref b] below meth c H locs cells slots (lw_Z below #[Value.ref b] s) (F0 m 147 ls [])) : ∀ (x2 : Int32) (x3 : Int32) (x4 : Int32) (x5 : Int32) (x6 : Int32) (x7 : Int32) (x9 : Int32) (cells slots : Nat) (M : Mm) (H : Heap) (locs : List Loc) (ls : Array Slot), cells + (2712 + nL147 * 2718) ≤ 600086 → slots + (16272 + nL147 * 16308) ≤ 7301442 → HP D cy s.heap.size M H → va_S (Aq s.heap.size) s.heap H locs → lv_has ls 15 [(0, .ref b), (1, .ref (s.heap.size + 0)), (2, .int x2), (3, .int x3), (4, .int x4), (5, .int x5), (6, .int x6), (7, .int x7), (9, .int x9)] → narrow .boolean (.int x6) = .int x6 → fL_law_b595 xs L kL147 x2 x3 x4 x5 x6 x7 x9 M = some (1 : Int32) → W p l e room_1 s m #[Value.ref b] below meth c H locs cells slots (lw_Z below #[Value.ref b] s) (F0 m 595 ls []) := by
  obtain ⟨hx, hb, hr, hml, hown, hts0, hX, hbl, hlocks, hgv⟩ := id C0
  have hts : ∀ w ∈ wsL_law, w.before #[Value.ref b] s = true := fun w h => hts0 w (wsL_law_in w h)
  have hbA : ¬ Aq s.heap.size b := Nat.not_le.mpr hbl
  intro x2 x3 x4 x5 x6 x7 x9 cells slots M H locs ls hc1 hc2 hw hS hl hb6 hf
  unfold fL_law_b595 at hf
  refine lv_iconst (v := (0 : Int32)) hx hb dL_law_595 (by decide) ?_
  refine lv_istore (lv' := [(11, .int (0 : Int32)), (0, .ref b), (1, .ref (s.heap.size + 0)), (2, .int x2), (3, .int x3), (4, .int x4), (5, .int x5), (6, .int x6), (7, .int x7), (9, .int x9)]) hx hb dL_law_596 hl (Nat.le_of_ble_eq_true rfl) rfl (fun ls hl => ?_)
  refine lv_iconst (v := (0 : Int32)) hx hb dL_law_598 (by decide) ?_
  refine lv_istore (lv' := [(12, .int (0 : Int32)), (11, .int (0 : Int32)), (0, .ref b), (1, .ref (s.heap.size + 0)), (2, .int x2), (3, .int x3), (4, .int x4), (5, .int x5), (6, .int x6), (7, .int x7), (9, .int x9)]) hx hb dL_law_599 hl (Nat.le_of_ble_eq_true rfl) rfl (fun ls hl => ?_)
  refine lv_iload hx hb dL_law_601 (lv_at hl 10 rfl) ?_
  refine lv_sipush (v := (200 : Int32)) hx hb dL_law_603 (by decide) ?_
  refine lv_irem hx hb dL_law_606 (by decide) ?_
  refine lv_istore (lv' := [(13, .int (irem x9 (200 : Int32))), (12, .int (0 : Int32)), (11, .int (0 : Int32)), (0, .ref b), (1, .ref (s.heap.size + 0)), (2, .int x2), (3, .int x3), (4, .int x4), (5, .int x5), (6, .int x6), (7, .int x7), (9, .int x9)]) hx hb dL_law_607 hl (Nat.le_of_ble_eq_true rfl) rfl (fun ls hl => ?_)
  refine lv_iconst (v := (0 : Int32)) hx hb dL_law_609 (by decide) ?_
  refine lv_istore (lv' := [(14, .int (0 : Int32)), (13, .int (irem x9 (200 : Int32))), (12, .int (0 : Int32)), (11, .int (0 : Int32)), (0, .ref b), (1, .ref (s.heap.size + 0)), (2, .int x2), (3, .int x3), (4, .int x4), (5, .int x5), (6, .int x6), (7, .int x7), (9, .int x9)]) hx hb dL_law_610 hl (Nat.le_of_ble_eq_true rfl) rfl (fun ls hl => ?_)
  exact bL_law_612 C0 hK hZ hfl kL147 nL147 hkL147 6 _ _ _ _ _ _ _ _ _ _ _ _ _ _ _ _ (by omega) (by omega) hw hS (lv_sub hl [4, 5, 6, 7, 8, 9, 10, 11, 3, 2, 1, 0] rfl) hb6 hf
set_option maxRecDepth 100000 in
set_option maxHeartbeats 4000000 in
theorem bL_law_225 {p : Program} {l : Launch} {e : Env} {s : State} {m : MethodId} {below : List Frame} {meth : Method} {c : Code} {D : va_G} {cy : Nat → ClassId} {b L : Nat} {xs : Nat → Int32} (C0 : lw_At p s m meth c b L xs) (hK : KS D cy s) (hZ : ZZ s.heap.size s s.heap) (hfl : l.stackTraces = false) (kL147 : Int32 → Int32 → Int32 → Int32 → Int32 → Int32 → Mm → Option (Int32)) (nL147 : Nat) (hkL147 : ∀ (x2 : Int32) (x3 : Int32) (x4 : Int32) (x5 : Int32) (x6 : Int32) (x7 : Int32) (cells slots : Nat) (M : Mm) (H : Heap) (locs : List Loc) (ls : Array Slot), cells + (0 + nL147 * 2718) ≤ 600086 → slots + (0 + nL147 * 16308) ≤ 7301442 → HP D cy s.heap.size M H → va_S (Aq s.heap.size) s.heap H locs → lv_has ls 15 [(0, .ref b), (1, .ref (s.heap.size + 0)), (2, .int x2), (3, .int x3), (4, .int x4), (5, .int x5), (6, .int x6), (7, .int x7)] → narrow .boolean (.int x6) = .int x6 → kL147 x2 x3 x4 x5 x6 x7 M = some (1 : Int32) → W p l e room_1 s m #[Value.ref b] below meth c H locs cells slots (lw_Z below #[Value.ref b] s) (F0 m 147 ls [])) : ∀ (x2 : Int32) (x3 : Int32) (x4 : Int32) (x5 : Int32) (x7 : Int32) (x9 : Int32) (xs0 : Int32) (cells slots : Nat) (M : Mm) (H : Heap) (locs : List Loc) (ls : Array Slot), cells + (2712 + nL147 * 2718) ≤ 600086 → slots + (16272 + nL147 * 16308) ≤ 7301442 → HP D cy s.heap.size M H → va_S (Aq s.heap.size) s.heap H locs → lv_has ls 15 [(0, .ref b), (1, .ref (s.heap.size + 0)), (2, .int x2), (3, .int x3), (4, .int x4), (5, .int x5), (7, .int x7), (9, .int x9)] → narrow .boolean (.int xs0) = .int xs0 → fL_law_b225 xs L kL147 x2 x3 x4 x5 x7 x9 xs0 M = some (1 : Int32) → W p l e room_1 s m #[Value.ref b] below meth c H locs cells slots (lw_Z below #[Value.ref b] s) (F0 m 225 ls [.int xs0]) := by
  obtain ⟨hx, hb, hr, hml, hown, hts0, hX, hbl, hlocks, hgv⟩ := id C0
  have hts : ∀ w ∈ wsL_law, w.before #[Value.ref b] s = true := fun w h => hts0 w (wsL_law_in w h)
  have hbA : ¬ Aq s.heap.size b := Nat.not_le.mpr hbl
  intro x2 x3 x4 x5 x7 x9 xs0 cells slots M H locs ls hc1 hc2 hw hS hl hbs0 hf
  unfold fL_law_b225 at hf
  refine lv_istore (lv' := [(6, .int xs0), (0, .ref b), (1, .ref (s.heap.size + 0)), (2, .int x2), (3, .int x3), (4, .int x4), (5, .int x5), (7, .int x7), (9, .int x9)]) hx hb dL_law_225 hl (Nat.le_of_ble_eq_true rfl) rfl (fun ls hl => ?_)
  refine lv_iinc (v := x3 + (1 : Int32)) (lv' := [(3, .int (x3 + (1 : Int32))), (6, .int xs0), (0, .ref b), (1, .ref (s.heap.size + 0)), (2, .int x2), (4, .int x4), (5, .int x5), (7, .int x7), (9, .int x9)]) hx hb dL_law_227 hl (k := 4) rfl rfl (Nat.le_of_ble_eq_true rfl) rfl (fun ls hl => ?_)
  refine lv_goto (tgt := 595) hx hb dL_law_230 (by decide) ?_
  exact bL_law_595 C0 hK hZ hfl kL147 nL147 hkL147 _ _ _ _ _ _ _ _ _ _ _ _ _ (by omega) (by omega) hw hS (lv_sub hl [2, 3, 4, 0, 5, 6, 1, 7, 8] rfl) hbs0 hf
set_option maxRecDepth 100000 in
set_option maxHeartbeats 4000000 in
theorem bL_law_187 {p : Program} {l : Launch} {e : Env} {s : State} {m : MethodId} {below : List Frame} {meth : Method} {c : Code} {D : va_G} {cy : Nat → ClassId} {b L : Nat} {xs : Nat → Int32} (C0 : lw_At p s m meth c b L xs) (hK : KS D cy s) (hZ : ZZ s.heap.size s s.heap) (hfl : l.stackTraces = false) (kL147 : Int32 → Int32 → Int32 → Int32 → Int32 → Int32 → Mm → Option (Int32)) (nL147 : Nat) (hkL147 : ∀ (x2 : Int32) (x3 : Int32) (x4 : Int32) (x5 : Int32) (x6 : Int32) (x7 : Int32) (cells slots : Nat) (M : Mm) (H : Heap) (locs : List Loc) (ls : Array Slot), cells + (0 + nL147 * 2718) ≤ 600086 → slots + (0 + nL147 * 16308) ≤ 7301442 → HP D cy s.heap.size M H → va_S (Aq s.heap.size) s.heap H locs → lv_has ls 15 [(0, .ref b), (1, .ref (s.heap.size + 0)), (2, .int x2), (3, .int x3), (4, .int x4), (5, .int x5), (6, .int x6), (7, .int x7)] → narrow .boolean (.int x6) = .int x6 → kL147 x2 x3 x4 x5 x6 x7 M = some (1 : Int32) → W p l e room_1 s m #[Value.ref b] below meth c H locs cells slots (lw_Z below #[Value.ref b] s) (F0 m 147 ls [])) : ∀ (x2 : Int32) (x3 : Int32) (x4 : Int32) (x5 : Int32) (x7 : Int32) (x9 : Int32) (cells slots : Nat) (M : Mm) (H : Heap) (locs : List Loc) (ls : Array Slot), cells + (2716 + nL147 * 2718) ≤ 600086 → slots + (16296 + nL147 * 16308) ≤ 7301442 → HP D cy s.heap.size M H → va_S (Aq s.heap.size) s.heap H locs → lv_has ls 15 [(0, .ref b), (1, .ref (s.heap.size + 0)), (2, .int x2), (3, .int x3), (4, .int x4), (5, .int x5), (7, .int x7), (9, .int x9)] → fL_law_b187 xs L kL147 x2 x3 x4 x5 x7 x9 M = some (1 : Int32) → W p l e room_1 s m #[Value.ref b] below meth c H locs cells slots (lw_Z below #[Value.ref b] s) (F0 m 187 ls []) := by
  obtain ⟨hx, hb, hr, hml, hown, hts0, hX, hbl, hlocks, hgv⟩ := id C0
  have hts : ∀ w ∈ wsL_law, w.before #[Value.ref b] s = true := fun w h => hts0 w (wsL_law_in w h)
  have hbA : ¬ Aq s.heap.size b := Nat.not_le.mpr hbl
  intro x2 x3 x4 x5 x7 x9 cells slots M H locs ls hc1 hc2 hw hS hl hf
  unfold fL_law_b187 at hf
  refine lv_aload_n hx hb dL_law_187 rfl (lv_at hl 1 rfl) ?_
  refine lv_iload hx hb dL_law_188 (lv_at hl 7 rfl) ?_
  refine lv_iconst (v := (4 : Int32)) hx hb dL_law_190 (by decide) ?_
  refine lv_irem hx hb dL_law_191 (by decide) ?_
  refine lv_iload hx hb dL_law_192 (lv_at hl 7 rfl) ?_
  refine lv_iconst (v := (4 : Int32)) hx hb dL_law_194 (by decide) ?_
  refine lv_idiv hx hb dL_law_195 (by decide) ?_
  refine lv_bipush (v := (6 : Int32)) hx hb dL_law_196 (by decide) ?_
  refine lv_irem hx hb dL_law_198 (by decide) ?_
  refine lv_iconst (v := (1 : Int32)) hx hb dL_law_199 (by decide) ?_
  refine lv_iload hx hb dL_law_200 (lv_at hl 7 rfl) ?_
  refine lv_bipush (v := (24 : Int32)) hx hb dL_law_202 (by decide) ?_
  refine lv_idiv hx hb dL_law_204 (by decide) ?_
  refine lv_bipush (v := (40 : Int32)) hx hb dL_law_205 (by decide) ?_
  refine lv_irem hx hb dL_law_207 (by decide) ?_
  refine lv_iadd hx hb dL_law_208 ?_
  obtain ⟨o1, ho1, hf⟩ := ob hf
  refine rCallI (vx_runSW (hh := [(0, 7, 8, 23), (0, 7, 13, 15), (0, 7, 18, 17)]) (As := [.ref (s.heap.size + 0), .int (irem x9 (4 : Int32)), .int (irem (x9 / (4 : Int32)) (6 : Int32)), .int ((1 : Int32) + (irem (x9 / (24 : Int32)) (40 : Int32)))]) (rest := []) ⟨hx, hb, hml, hown, hts⟩ (ctL_order (l := l) (D := D) (cy := cy) (a := s.heap.size) hfl ho1) (vx_cwSW 4 hts gL_law_L_order rfl rfl rfl (by decide +kernel) ⟨Nat.le_of_ble_eq_true rfl, Nat.le_of_ble_eq_true rfl⟩) (pS hK hZ hw hS) rfl rfl hl.1 rfl (lv_room (Nat.le_of_ble_eq_true rfl)) dL_law_209 ⟨(by show _ ≤ 600086; omega), (by show _ ≤ 7301442; omega)⟩) hS (fun H locs hw hS => ?_)
  refine lv_istore (lv' := [(11, .int o1.1), (0, .ref b), (1, .ref (s.heap.size + 0)), (2, .int x2), (3, .int x3), (4, .int x4), (5, .int x5), (7, .int x7), (9, .int x9)]) hx hb dL_law_212 hl (Nat.le_of_ble_eq_true rfl) rfl (fun ls hl => ?_)
  refine lv_iload hx hb dL_law_214 (lv_at hl 0 rfl) ?_
  refine lv_iload_n hx hb dL_law_216 rfl (lv_at hl 4 rfl) ?_
  refine lv_icmp_ne (tgt := 224) hx hb dL_law_217 (by decide) (fun c2 => ?_) (fun c2 => ?_)
  · have hf := iq c2 hf
    refine lv_iconst (v := (0 : Int32)) hx hb dL_law_224 (by decide) ?_
    exact bL_law_225 C0 hK hZ hfl kL147 nL147 hkL147 _ _ _ _ _ _ _ _ _ _ _ _ _ (by omega) (by omega) hw hS (lv_sub hl [1, 2, 3, 4, 5, 6, 7, 8] rfl) rfl hf
  · have hf := ip c2 hf
    refine lv_iconst (v := (1 : Int32)) hx hb dL_law_220 (by decide) ?_
    refine lv_goto (tgt := 225) hx hb dL_law_221 (by decide) ?_
    exact bL_law_225 C0 hK hZ hfl kL147 nL147 hkL147 _ _ _ _ _ _ _ _ _ _ _ _ _ (by omega) (by omega) hw hS (lv_sub hl [1, 2, 3, 4, 5, 6, 7, 8] rfl) rfl hf
set_option maxRecDepth 100000 in
set_option maxHeartbeats 4000000 in
theorem bL_law_305 {p : Program} {l : Launch} {e : Env} {s : State} {m : MethodId} {below : List Frame} {meth : Method} {c : Code} {D : va_G} {cy : Nat → ClassId} {b L : Nat} {xs : Nat → Int32} (C0 : lw_At p s m meth c b L xs) (hK : KS D cy s) (hZ : ZZ s.heap.size s s.heap) (hfl : l.stackTraces = false) (kL147 : Int32 → Int32 → Int32 → Int32 → Int32 → Int32 → Mm → Option (Int32)) (nL147 : Nat) (hkL147 : ∀ (x2 : Int32) (x3 : Int32) (x4 : Int32) (x5 : Int32) (x6 : Int32) (x7 : Int32) (cells slots : Nat) (M : Mm) (H : Heap) (locs : List Loc) (ls : Array Slot), cells + (0 + nL147 * 2718) ≤ 600086 → slots + (0 + nL147 * 16308) ≤ 7301442 → HP D cy s.heap.size M H → va_S (Aq s.heap.size) s.heap H locs → lv_has ls 15 [(0, .ref b), (1, .ref (s.heap.size + 0)), (2, .int x2), (3, .int x3), (4, .int x4), (5, .int x5), (6, .int x6), (7, .int x7)] → narrow .boolean (.int x6) = .int x6 → kL147 x2 x3 x4 x5 x6 x7 M = some (1 : Int32) → W p l e room_1 s m #[Value.ref b] below meth c H locs cells slots (lw_Z below #[Value.ref b] s) (F0 m 147 ls [])) : ∀ (x2 : Int32) (x3 : Int32) (x4 : Int32) (x5 : Int32) (x7 : Int32) (x9 : Int32) (xs0 : Int32) (cells slots : Nat) (M : Mm) (H : Heap) (locs : List Loc) (ls : Array Slot), cells + (2712 + nL147 * 2718) ≤ 600086 → slots + (16272 + nL147 * 16308) ≤ 7301442 → HP D cy s.heap.size M H → va_S (Aq s.heap.size) s.heap H locs → lv_has ls 15 [(0, .ref b), (1, .ref (s.heap.size + 0)), (2, .int x2), (3, .int x3), (4, .int x4), (5, .int x5), (7, .int x7), (9, .int x9)] → narrow .boolean (.int xs0) = .int xs0 → fL_law_b305 xs L kL147 x2 x3 x4 x5 x7 x9 xs0 M = some (1 : Int32) → W p l e room_1 s m #[Value.ref b] below meth c H locs cells slots (lw_Z below #[Value.ref b] s) (F0 m 305 ls [.int xs0]) := by
  obtain ⟨hx, hb, hr, hml, hown, hts0, hX, hbl, hlocks, hgv⟩ := id C0
  have hts : ∀ w ∈ wsL_law, w.before #[Value.ref b] s = true := fun w h => hts0 w (wsL_law_in w h)
  have hbA : ¬ Aq s.heap.size b := Nat.not_le.mpr hbl
  intro x2 x3 x4 x5 x7 x9 xs0 cells slots M H locs ls hc1 hc2 hw hS hl hbs0 hf
  unfold fL_law_b305 at hf
  refine lv_istore (lv' := [(6, .int xs0), (0, .ref b), (1, .ref (s.heap.size + 0)), (2, .int x2), (3, .int x3), (4, .int x4), (5, .int x5), (7, .int x7), (9, .int x9)]) hx hb dL_law_305 hl (Nat.le_of_ble_eq_true rfl) rfl (fun ls hl => ?_)
  refine lv_goto (tgt := 595) hx hb dL_law_307 (by decide) ?_
  exact bL_law_595 C0 hK hZ hfl kL147 nL147 hkL147 _ _ _ _ _ _ _ _ _ _ _ _ _ (by omega) (by omega) hw hS (lv_sub hl [1, 2, 3, 4, 5, 6, 0, 7, 8] rfl) hbs0 hf
set_option maxRecDepth 100000 in
set_option maxHeartbeats 4000000 in
theorem bL_law_239 {p : Program} {l : Launch} {e : Env} {s : State} {m : MethodId} {below : List Frame} {meth : Method} {c : Code} {D : va_G} {cy : Nat → ClassId} {b L : Nat} {xs : Nat → Int32} (C0 : lw_At p s m meth c b L xs) (hK : KS D cy s) (hZ : ZZ s.heap.size s s.heap) (hfl : l.stackTraces = false) (kL147 : Int32 → Int32 → Int32 → Int32 → Int32 → Int32 → Mm → Option (Int32)) (nL147 : Nat) (hkL147 : ∀ (x2 : Int32) (x3 : Int32) (x4 : Int32) (x5 : Int32) (x6 : Int32) (x7 : Int32) (cells slots : Nat) (M : Mm) (H : Heap) (locs : List Loc) (ls : Array Slot), cells + (0 + nL147 * 2718) ≤ 600086 → slots + (0 + nL147 * 16308) ≤ 7301442 → HP D cy s.heap.size M H → va_S (Aq s.heap.size) s.heap H locs → lv_has ls 15 [(0, .ref b), (1, .ref (s.heap.size + 0)), (2, .int x2), (3, .int x3), (4, .int x4), (5, .int x5), (6, .int x6), (7, .int x7)] → narrow .boolean (.int x6) = .int x6 → kL147 x2 x3 x4 x5 x6 x7 M = some (1 : Int32) → W p l e room_1 s m #[Value.ref b] below meth c H locs cells slots (lw_Z below #[Value.ref b] s) (F0 m 147 ls [])) : ∀ (x2 : Int32) (x3 : Int32) (x4 : Int32) (x5 : Int32) (x7 : Int32) (x9 : Int32) (cells slots : Nat) (M : Mm) (H : Heap) (locs : List Loc) (ls : Array Slot), cells + (2718 + nL147 * 2718) ≤ 600086 → slots + (16308 + nL147 * 16308) ≤ 7301442 → HP D cy s.heap.size M H → va_S (Aq s.heap.size) s.heap H locs → lv_has ls 15 [(0, .ref b), (1, .ref (s.heap.size + 0)), (2, .int x2), (3, .int x3), (4, .int x4), (5, .int x5), (7, .int x7), (9, .int x9)] → fL_law_b239 xs L kL147 x2 x3 x4 x5 x7 x9 M = some (1 : Int32) → W p l e room_1 s m #[Value.ref b] below meth c H locs cells slots (lw_Z below #[Value.ref b] s) (F0 m 239 ls []) := by
  obtain ⟨hx, hb, hr, hml, hown, hts0, hX, hbl, hlocks, hgv⟩ := id C0
  have hts : ∀ w ∈ wsL_law, w.before #[Value.ref b] s = true := fun w h => hts0 w (wsL_law_in w h)
  have hbA : ¬ Aq s.heap.size b := Nat.not_le.mpr hbl
  intro x2 x3 x4 x5 x7 x9 cells slots M H locs ls hc1 hc2 hw hS hl hf
  unfold fL_law_b239 at hf
  refine lv_iload hx hb dL_law_239 (lv_at hl 7 rfl) ?_
  refine lv_bipush (v := (6 : Int32)) hx hb dL_law_241 (by decide) ?_
  refine lv_irem hx hb dL_law_243 (by decide) ?_
  refine lv_istore (lv' := [(11, .int (irem x9 (6 : Int32))), (0, .ref b), (1, .ref (s.heap.size + 0)), (2, .int x2), (3, .int x3), (4, .int x4), (5, .int x5), (7, .int x7), (9, .int x9)]) hx hb dL_law_244 hl (Nat.le_of_ble_eq_true rfl) rfl (fun ls hl => ?_)
  refine lv_aload_n hx hb dL_law_246 rfl (lv_at hl 2 rfl) ?_
  refine lv_iload hx hb dL_law_247 (lv_at hl 0 rfl) ?_
  refine lv_iconst (v := (1 : Int32)) hx hb dL_law_249 (by decide) ?_
  refine lv_iload hx hb dL_law_250 (lv_at hl 8 rfl) ?_
  refine lv_bipush (v := (6 : Int32)) hx hb dL_law_252 (by decide) ?_
  refine lv_idiv hx hb dL_law_254 (by decide) ?_
  refine lv_bipush (v := (10 : Int32)) hx hb dL_law_255 (by decide) ?_
  refine lv_irem hx hb dL_law_257 (by decide) ?_
  refine lv_iadd hx hb dL_law_258 ?_
  refine lv_iconst (v := (1 : Int32)) hx hb dL_law_259 (by decide) ?_
  refine lv_iload hx hb dL_law_260 (lv_at hl 8 rfl) ?_
  refine lv_bipush (v := (60 : Int32)) hx hb dL_law_262 (by decide) ?_
  refine lv_idiv hx hb dL_law_264 (by decide) ?_
  refine lv_bipush (v := (10 : Int32)) hx hb dL_law_265 (by decide) ?_
  refine lv_irem hx hb dL_law_267 (by decide) ?_
  refine lv_iadd hx hb dL_law_268 ?_
  refine lv_iload hx hb dL_law_269 (lv_at hl 8 rfl) ?_
  refine lv_sipush (v := (600 : Int32)) hx hb dL_law_271 (by decide) ?_
  refine lv_idiv hx hb dL_law_274 (by decide) ?_
  refine lv_bipush (v := (10 : Int32)) hx hb dL_law_275 (by decide) ?_
  refine lv_irem hx hb dL_law_277 (by decide) ?_
  refine lv_iload hx hb dL_law_278 (lv_at hl 8 rfl) ?_
  refine lv_sipush (v := (6000 : Int32)) hx hb dL_law_280 (by decide) ?_
  refine lv_idiv hx hb dL_law_283 (by decide) ?_
  refine lv_bipush (v := (64 : Int32)) hx hb dL_law_284 (by decide) ?_
  refine lv_irem hx hb dL_law_286 (by decide) ?_
  refine lv_iconst (v := (1 : Int32)) hx hb dL_law_287 (by decide) ?_
  refine lv_iload hx hb dL_law_288 (lv_at hl 0 rfl) ?_
  refine lv_ishl hx hb dL_law_290 ?_
  refine lv_iconst (v := (-1 : Int32)) hx hb dL_law_291 (by decide) ?_
  refine lv_ixor hx hb dL_law_292 ?_
  refine lv_iand hx hb dL_law_293 ?_
  obtain ⟨o1, ho1, hf⟩ := ob hf
  refine rCallI (vx_runSW (hh := [(0, 12, 13, 23), (0, 12, 18, 15)]) (As := [.ref (s.heap.size + 0), .int (irem x9 (6 : Int32)), .int ((1 : Int32) + (irem (x9 / (6 : Int32)) (10 : Int32))), .int ((1 : Int32) + (irem (x9 / (60 : Int32)) (10 : Int32))), .int (irem (x9 / (600 : Int32)) (10 : Int32)), .int ((irem (x9 / (6000 : Int32)) (64 : Int32)) &&& ((ishl (1 : Int32) (irem x9 (6 : Int32))) ^^^ (-1 : Int32)))]) (rest := []) ⟨hx, hb, hml, hown, hts⟩ (ctL_product (l := l) (D := D) (cy := cy) (a := s.heap.size) hfl ho1) (vx_cwSW 6 hts gL_law_L_product rfl rfl rfl (by decide +kernel) ⟨Nat.le_of_ble_eq_true rfl, Nat.le_of_ble_eq_true rfl⟩) (pS hK hZ hw hS) rfl rfl hl.1 rfl (lv_room (Nat.le_of_ble_eq_true rfl)) dL_law_294 ⟨(by show _ ≤ 600086; omega), (by show _ ≤ 7301442; omega)⟩) hS (fun H locs hw hS => ?_)
  refine lv_if_ne (tgt := 304) hx hb dL_law_297 (by decide) (fun c2 => ?_) (fun c2 => ?_)
  · have hf := iq c2 hf
    refine lv_iconst (v := (0 : Int32)) hx hb dL_law_304 (by decide) ?_
    exact bL_law_305 C0 hK hZ hfl kL147 nL147 hkL147 _ _ _ _ _ _ _ _ _ _ _ _ _ (by omega) (by omega) hw hS (lv_sub hl [1, 2, 3, 4, 5, 6, 7, 8] rfl) rfl hf
  · have hf := ip c2 hf
    refine lv_iconst (v := (1 : Int32)) hx hb dL_law_300 (by decide) ?_
    refine lv_goto (tgt := 305) hx hb dL_law_301 (by decide) ?_
    exact bL_law_305 C0 hK hZ hfl kL147 nL147 hkL147 _ _ _ _ _ _ _ _ _ _ _ _ _ (by omega) (by omega) hw hS (lv_sub hl [1, 2, 3, 4, 5, 6, 7, 8] rfl) rfl hf
set_option maxRecDepth 100000 in
set_option maxHeartbeats 4000000 in
theorem bL_law_398 {p : Program} {l : Launch} {e : Env} {s : State} {m : MethodId} {below : List Frame} {meth : Method} {c : Code} {D : va_G} {cy : Nat → ClassId} {b L : Nat} {xs : Nat → Int32} (C0 : lw_At p s m meth c b L xs) (hK : KS D cy s) (hZ : ZZ s.heap.size s s.heap) (hfl : l.stackTraces = false) (kL147 : Int32 → Int32 → Int32 → Int32 → Int32 → Int32 → Mm → Option (Int32)) (nL147 : Nat) (hkL147 : ∀ (x2 : Int32) (x3 : Int32) (x4 : Int32) (x5 : Int32) (x6 : Int32) (x7 : Int32) (cells slots : Nat) (M : Mm) (H : Heap) (locs : List Loc) (ls : Array Slot), cells + (0 + nL147 * 2718) ≤ 600086 → slots + (0 + nL147 * 16308) ≤ 7301442 → HP D cy s.heap.size M H → va_S (Aq s.heap.size) s.heap H locs → lv_has ls 15 [(0, .ref b), (1, .ref (s.heap.size + 0)), (2, .int x2), (3, .int x3), (4, .int x4), (5, .int x5), (6, .int x6), (7, .int x7)] → narrow .boolean (.int x6) = .int x6 → kL147 x2 x3 x4 x5 x6 x7 M = some (1 : Int32) → W p l e room_1 s m #[Value.ref b] below meth c H locs cells slots (lw_Z below #[Value.ref b] s) (F0 m 147 ls [])) : ∀ (x2 : Int32) (x3 : Int32) (x4 : Int32) (x5 : Int32) (x7 : Int32) (x9 : Int32) (xs0 : Int32) (cells slots : Nat) (M : Mm) (H : Heap) (locs : List Loc) (ls : Array Slot), cells + (2712 + nL147 * 2718) ≤ 600086 → slots + (16272 + nL147 * 16308) ≤ 7301442 → HP D cy s.heap.size M H → va_S (Aq s.heap.size) s.heap H locs → lv_has ls 15 [(0, .ref b), (1, .ref (s.heap.size + 0)), (2, .int x2), (3, .int x3), (4, .int x4), (5, .int x5), (7, .int x7), (9, .int x9)] → narrow .boolean (.int xs0) = .int xs0 → fL_law_b398 xs L kL147 x2 x3 x4 x5 x7 x9 xs0 M = some (1 : Int32) → W p l e room_1 s m #[Value.ref b] below meth c H locs cells slots (lw_Z below #[Value.ref b] s) (F0 m 398 ls [.int xs0]) := by
  obtain ⟨hx, hb, hr, hml, hown, hts0, hX, hbl, hlocks, hgv⟩ := id C0
  have hts : ∀ w ∈ wsL_law, w.before #[Value.ref b] s = true := fun w h => hts0 w (wsL_law_in w h)
  have hbA : ¬ Aq s.heap.size b := Nat.not_le.mpr hbl
  intro x2 x3 x4 x5 x7 x9 xs0 cells slots M H locs ls hc1 hc2 hw hS hl hbs0 hf
  unfold fL_law_b398 at hf
  refine lv_istore (lv' := [(6, .int xs0), (0, .ref b), (1, .ref (s.heap.size + 0)), (2, .int x2), (3, .int x3), (4, .int x4), (5, .int x5), (7, .int x7), (9, .int x9)]) hx hb dL_law_398 hl (Nat.le_of_ble_eq_true rfl) rfl (fun ls hl => ?_)
  refine lv_goto (tgt := 595) hx hb dL_law_400 (by decide) ?_
  exact bL_law_595 C0 hK hZ hfl kL147 nL147 hkL147 _ _ _ _ _ _ _ _ _ _ _ _ _ (by omega) (by omega) hw hS (lv_sub hl [1, 2, 3, 4, 5, 6, 0, 7, 8] rfl) hbs0 hf
set_option maxRecDepth 100000 in
set_option maxHeartbeats 4000000 in
theorem bL_law_397 {p : Program} {l : Launch} {e : Env} {s : State} {m : MethodId} {below : List Frame} {meth : Method} {c : Code} {D : va_G} {cy : Nat → ClassId} {b L : Nat} {xs : Nat → Int32} (C0 : lw_At p s m meth c b L xs) (hK : KS D cy s) (hZ : ZZ s.heap.size s s.heap) (hfl : l.stackTraces = false) (kL147 : Int32 → Int32 → Int32 → Int32 → Int32 → Int32 → Mm → Option (Int32)) (nL147 : Nat) (hkL147 : ∀ (x2 : Int32) (x3 : Int32) (x4 : Int32) (x5 : Int32) (x6 : Int32) (x7 : Int32) (cells slots : Nat) (M : Mm) (H : Heap) (locs : List Loc) (ls : Array Slot), cells + (0 + nL147 * 2718) ≤ 600086 → slots + (0 + nL147 * 16308) ≤ 7301442 → HP D cy s.heap.size M H → va_S (Aq s.heap.size) s.heap H locs → lv_has ls 15 [(0, .ref b), (1, .ref (s.heap.size + 0)), (2, .int x2), (3, .int x3), (4, .int x4), (5, .int x5), (6, .int x6), (7, .int x7)] → narrow .boolean (.int x6) = .int x6 → kL147 x2 x3 x4 x5 x6 x7 M = some (1 : Int32) → W p l e room_1 s m #[Value.ref b] below meth c H locs cells slots (lw_Z below #[Value.ref b] s) (F0 m 147 ls [])) : ∀ (x2 : Int32) (x3 : Int32) (x4 : Int32) (x5 : Int32) (x7 : Int32) (x9 : Int32) (cells slots : Nat) (M : Mm) (H : Heap) (locs : List Loc) (ls : Array Slot), cells + (2712 + nL147 * 2718) ≤ 600086 → slots + (16272 + nL147 * 16308) ≤ 7301442 → HP D cy s.heap.size M H → va_S (Aq s.heap.size) s.heap H locs → lv_has ls 15 [(0, .ref b), (1, .ref (s.heap.size + 0)), (2, .int x2), (3, .int x3), (4, .int x4), (5, .int x5), (7, .int x7), (9, .int x9)] → fL_law_b397 xs L kL147 x2 x3 x4 x5 x7 x9 M = some (1 : Int32) → W p l e room_1 s m #[Value.ref b] below meth c H locs cells slots (lw_Z below #[Value.ref b] s) (F0 m 397 ls []) := by
  obtain ⟨hx, hb, hr, hml, hown, hts0, hX, hbl, hlocks, hgv⟩ := id C0
  have hts : ∀ w ∈ wsL_law, w.before #[Value.ref b] s = true := fun w h => hts0 w (wsL_law_in w h)
  have hbA : ¬ Aq s.heap.size b := Nat.not_le.mpr hbl
  intro x2 x3 x4 x5 x7 x9 cells slots M H locs ls hc1 hc2 hw hS hl hf
  unfold fL_law_b397 at hf
  refine lv_iconst (v := (0 : Int32)) hx hb dL_law_397 (by decide) ?_
  exact bL_law_398 C0 hK hZ hfl kL147 nL147 hkL147 _ _ _ _ _ _ _ _ _ _ _ _ _ (by omega) (by omega) hw hS (lv_sub hl [0, 1, 2, 3, 4, 5, 6, 7] rfl) rfl hf
set_option maxRecDepth 100000 in
set_option maxHeartbeats 4000000 in
theorem bL_law_377 {p : Program} {l : Launch} {e : Env} {s : State} {m : MethodId} {below : List Frame} {meth : Method} {c : Code} {D : va_G} {cy : Nat → ClassId} {b L : Nat} {xs : Nat → Int32} (C0 : lw_At p s m meth c b L xs) (hK : KS D cy s) (hZ : ZZ s.heap.size s s.heap) (hfl : l.stackTraces = false) (kL147 : Int32 → Int32 → Int32 → Int32 → Int32 → Int32 → Mm → Option (Int32)) (nL147 : Nat) (hkL147 : ∀ (x2 : Int32) (x3 : Int32) (x4 : Int32) (x5 : Int32) (x6 : Int32) (x7 : Int32) (cells slots : Nat) (M : Mm) (H : Heap) (locs : List Loc) (ls : Array Slot), cells + (0 + nL147 * 2718) ≤ 600086 → slots + (0 + nL147 * 16308) ≤ 7301442 → HP D cy s.heap.size M H → va_S (Aq s.heap.size) s.heap H locs → lv_has ls 15 [(0, .ref b), (1, .ref (s.heap.size + 0)), (2, .int x2), (3, .int x3), (4, .int x4), (5, .int x5), (6, .int x6), (7, .int x7)] → narrow .boolean (.int x6) = .int x6 → kL147 x2 x3 x4 x5 x6 x7 M = some (1 : Int32) → W p l e room_1 s m #[Value.ref b] below meth c H locs cells slots (lw_Z below #[Value.ref b] s) (F0 m 147 ls [])) : ∀ (x2 : Int32) (x3 : Int32) (x4 : Int32) (x5 : Int32) (x7 : Int32) (x9 : Int32) (xs1 : Int32) (cells slots : Nat) (M : Mm) (H : Heap) (locs : List Loc) (ls : Array Slot), cells + (2714 + nL147 * 2718) ≤ 600086 → slots + (16284 + nL147 * 16308) ≤ 7301442 → HP D cy s.heap.size M H → va_S (Aq s.heap.size) s.heap H locs → lv_has ls 15 [(0, .ref b), (1, .ref (s.heap.size + 0)), (2, .int x2), (3, .int x3), (4, .int x4), (5, .int x5), (7, .int x7), (9, .int x9)] → fL_law_b377 xs L kL147 x2 x3 x4 x5 x7 x9 xs1 M = some (1 : Int32) → W p l e room_1 s m #[Value.ref b] below meth c H locs cells slots (lw_Z below #[Value.ref b] s) (F0 m 377 ls [.int xs1, .ref (s.heap.size + 0)]) := by
  obtain ⟨hx, hb, hr, hml, hown, hts0, hX, hbl, hlocks, hgv⟩ := id C0
  have hts : ∀ w ∈ wsL_law, w.before #[Value.ref b] s = true := fun w h => hts0 w (wsL_law_in w h)
  have hbA : ¬ Aq s.heap.size b := Nat.not_le.mpr hbl
  intro x2 x3 x4 x5 x7 x9 xs1 cells slots M H locs ls hc1 hc2 hw hS hl hf
  unfold fL_law_b377 at hf
  refine lv_iconst (v := (1 : Int32)) hx hb dL_law_377 (by decide) ?_
  refine lv_iload hx hb dL_law_378 (lv_at hl 7 rfl) ?_
  refine lv_sipush (v := (160 : Int32)) hx hb dL_law_380 (by decide) ?_
  refine lv_idiv hx hb dL_law_383 (by decide) ?_
  refine lv_iconst (v := (3 : Int32)) hx hb dL_law_384 (by decide) ?_
  refine lv_irem hx hb dL_law_385 (by decide) ?_
  refine lv_iadd hx hb dL_law_386 ?_
  obtain ⟨o1, ho1, hf⟩ := ob hf
  refine rCallI (vx_runSW (hh := [(0, 7, 8, 23), (0, 7, 12, 15)]) (As := [.ref (s.heap.size + 0), .int xs1, .int ((1 : Int32) + (irem (x9 / (160 : Int32)) (3 : Int32)))]) (rest := []) ⟨hx, hb, hml, hown, hts⟩ (ctL_leak (l := l) (D := D) (cy := cy) (a := s.heap.size) hfl ho1) (vx_cwSW 3 hts gL_law_L_leak rfl rfl rfl (by decide +kernel) ⟨Nat.le_of_ble_eq_true rfl, Nat.le_of_ble_eq_true rfl⟩) (pS hK hZ hw hS) rfl rfl hl.1 rfl (lv_room (Nat.le_of_ble_eq_true rfl)) dL_law_387 ⟨(by show _ ≤ 600086; omega), (by show _ ≤ 7301442; omega)⟩) hS (fun H locs hw hS => ?_)
  refine lv_if_ne (tgt := 397) hx hb dL_law_390 (by decide) (fun c2 => ?_) (fun c2 => ?_)
  · have hf := iq c2 hf
    exact bL_law_397 C0 hK hZ hfl kL147 nL147 hkL147 _ _ _ _ _ _ _ _ _ _ _ _ (by omega) (by omega) hw hS (lv_sub hl [0, 1, 2, 3, 4, 5, 6, 7] rfl) hf
  · have hf := ip c2 hf
    refine lv_iconst (v := (1 : Int32)) hx hb dL_law_393 (by decide) ?_
    refine lv_goto (tgt := 398) hx hb dL_law_394 (by decide) ?_
    exact bL_law_398 C0 hK hZ hfl kL147 nL147 hkL147 _ _ _ _ _ _ _ _ _ _ _ _ _ (by omega) (by omega) hw hS (lv_sub hl [0, 1, 2, 3, 4, 5, 6, 7] rfl) rfl hf
set_option maxRecDepth 100000 in
set_option maxHeartbeats 4000000 in
theorem bL_law_334 {p : Program} {l : Launch} {e : Env} {s : State} {m : MethodId} {below : List Frame} {meth : Method} {c : Code} {D : va_G} {cy : Nat → ClassId} {b L : Nat} {xs : Nat → Int32} (C0 : lw_At p s m meth c b L xs) (hK : KS D cy s) (hZ : ZZ s.heap.size s s.heap) (hfl : l.stackTraces = false) (kL147 : Int32 → Int32 → Int32 → Int32 → Int32 → Int32 → Mm → Option (Int32)) (nL147 : Nat) (hkL147 : ∀ (x2 : Int32) (x3 : Int32) (x4 : Int32) (x5 : Int32) (x6 : Int32) (x7 : Int32) (cells slots : Nat) (M : Mm) (H : Heap) (locs : List Loc) (ls : Array Slot), cells + (0 + nL147 * 2718) ≤ 600086 → slots + (0 + nL147 * 16308) ≤ 7301442 → HP D cy s.heap.size M H → va_S (Aq s.heap.size) s.heap H locs → lv_has ls 15 [(0, .ref b), (1, .ref (s.heap.size + 0)), (2, .int x2), (3, .int x3), (4, .int x4), (5, .int x5), (6, .int x6), (7, .int x7)] → narrow .boolean (.int x6) = .int x6 → kL147 x2 x3 x4 x5 x6 x7 M = some (1 : Int32) → W p l e room_1 s m #[Value.ref b] below meth c H locs cells slots (lw_Z below #[Value.ref b] s) (F0 m 147 ls [])) : ∀ (x2 : Int32) (x3 : Int32) (x4 : Int32) (x5 : Int32) (x7 : Int32) (x9 : Int32) (xs0 : Int32) (cells slots : Nat) (M : Mm) (H : Heap) (locs : List Loc) (ls : Array Slot), cells + (2717 + nL147 * 2718) ≤ 600086 → slots + (16302 + nL147 * 16308) ≤ 7301442 → HP D cy s.heap.size M H → va_S (Aq s.heap.size) s.heap H locs → lv_has ls 15 [(0, .ref b), (1, .ref (s.heap.size + 0)), (2, .int x2), (3, .int x3), (4, .int x4), (5, .int x5), (7, .int x7), (9, .int x9)] → fL_law_b334 xs L kL147 x2 x3 x4 x5 x7 x9 xs0 M = some (1 : Int32) → W p l e room_1 s m #[Value.ref b] below meth c H locs cells slots (lw_Z below #[Value.ref b] s) (F0 m 334 ls [.int xs0]) := by
  obtain ⟨hx, hb, hr, hml, hown, hts0, hX, hbl, hlocks, hgv⟩ := id C0
  have hts : ∀ w ∈ wsL_law, w.before #[Value.ref b] s = true := fun w h => hts0 w (wsL_law_in w h)
  have hbA : ¬ Aq s.heap.size b := Nat.not_le.mpr hbl
  intro x2 x3 x4 x5 x7 x9 xs0 cells slots M H locs ls hc1 hc2 hw hS hl hf
  unfold fL_law_b334 at hf
  refine lv_istore (lv' := [(11, .int xs0), (0, .ref b), (1, .ref (s.heap.size + 0)), (2, .int x2), (3, .int x3), (4, .int x4), (5, .int x5), (7, .int x7), (9, .int x9)]) hx hb dL_law_334 hl (Nat.le_of_ble_eq_true rfl) rfl (fun ls hl => ?_)
  refine lv_aload_n hx hb dL_law_336 rfl (lv_at hl 2 rfl) ?_
  refine lv_iload hx hb dL_law_337 (lv_at hl 0 rfl) ?_
  refine lv_iconst (v := (1 : Int32)) hx hb dL_law_339 (by decide) ?_
  refine lv_iload hx hb dL_law_340 (lv_at hl 8 rfl) ?_
  refine lv_iconst (v := (4 : Int32)) hx hb dL_law_342 (by decide) ?_
  refine lv_idiv hx hb dL_law_343 (by decide) ?_
  refine lv_iconst (v := (5 : Int32)) hx hb dL_law_344 (by decide) ?_
  refine lv_irem hx hb dL_law_345 (by decide) ?_
  refine lv_iadd hx hb dL_law_346 ?_
  refine lv_iload hx hb dL_law_347 (lv_at hl 8 rfl) ?_
  refine lv_bipush (v := (20 : Int32)) hx hb dL_law_349 (by decide) ?_
  refine lv_idiv hx hb dL_law_351 (by decide) ?_
  refine lv_iconst (v := (4 : Int32)) hx hb dL_law_352 (by decide) ?_
  refine lv_irem hx hb dL_law_353 (by decide) ?_
  obtain ⟨o1, ho1, hf⟩ := ob hf
  refine rCallI (vx_runSW (hh := [(0, 8, 9, 23), (0, 8, 14, 15)]) (As := [.ref (s.heap.size + 0), .int xs0, .int ((1 : Int32) + (irem (x9 / (4 : Int32)) (5 : Int32))), .int (irem (x9 / (20 : Int32)) (4 : Int32))]) (rest := []) ⟨hx, hb, hml, hown, hts⟩ (ctL_drop (l := l) (D := D) (cy := cy) (a := s.heap.size) hfl ho1) (vx_cwSW 4 hts gL_law_L_drop rfl rfl rfl (by decide +kernel) ⟨Nat.le_of_ble_eq_true rfl, Nat.le_of_ble_eq_true rfl⟩) (pS hK hZ hw hS) rfl rfl hl.1 rfl (lv_room (Nat.le_of_ble_eq_true rfl)) dL_law_354 ⟨(by show _ ≤ 600086; omega), (by show _ ≤ 7301442; omega)⟩) hS (fun H locs hw hS => ?_)
  refine lv_if_ne (tgt := 397) hx hb dL_law_357 (by decide) (fun c2 => ?_) (fun c2 => ?_)
  · have hf := iq c2 hf
    exact bL_law_397 C0 hK hZ hfl kL147 nL147 hkL147 _ _ _ _ _ _ _ _ _ _ _ _ (by omega) (by omega) hw hS (lv_sub hl [1, 2, 3, 4, 5, 6, 7, 8] rfl) hf
  · have hf := ip c2 hf
    refine lv_aload_n hx hb dL_law_360 rfl (lv_at hl 2 rfl) ?_
    refine lv_iload hx hb dL_law_361 (lv_at hl 8 rfl) ?_
    refine lv_bipush (v := (80 : Int32)) hx hb dL_law_363 (by decide) ?_
    refine lv_idiv hx hb dL_law_365 (by decide) ?_
    refine lv_iconst (v := (2 : Int32)) hx hb dL_law_366 (by decide) ?_
    refine lv_irem hx hb dL_law_367 (by decide) ?_
    refine lv_if_ne (tgt := 375) hx hb dL_law_368 (by decide) (fun c3 => ?_) (fun c3 => ?_)
    · have hf := iq c3 hf
      refine lv_iload hx hb dL_law_375 (lv_at hl 0 rfl) ?_
      exact bL_law_377 C0 hK hZ hfl kL147 nL147 hkL147 _ _ _ _ _ _ _ _ _ _ _ _ _ (by omega) (by omega) hw hS (lv_sub hl [1, 2, 3, 4, 5, 6, 7, 8] rfl) hf
    · have hf := ip c3 hf
      refine lv_iconst (v := (-1 : Int32)) hx hb dL_law_371 (by decide) ?_
      refine lv_goto (tgt := 377) hx hb dL_law_372 (by decide) ?_
      exact bL_law_377 C0 hK hZ hfl kL147 nL147 hkL147 _ _ _ _ _ _ _ _ _ _ _ _ _ (by omega) (by omega) hw hS (lv_sub hl [1, 2, 3, 4, 5, 6, 7, 8] rfl) hf
set_option maxRecDepth 100000 in
set_option maxHeartbeats 4000000 in
theorem bL_law_317 {p : Program} {l : Launch} {e : Env} {s : State} {m : MethodId} {below : List Frame} {meth : Method} {c : Code} {D : va_G} {cy : Nat → ClassId} {b L : Nat} {xs : Nat → Int32} (C0 : lw_At p s m meth c b L xs) (hK : KS D cy s) (hZ : ZZ s.heap.size s s.heap) (hfl : l.stackTraces = false) (kL147 : Int32 → Int32 → Int32 → Int32 → Int32 → Int32 → Mm → Option (Int32)) (nL147 : Nat) (hkL147 : ∀ (x2 : Int32) (x3 : Int32) (x4 : Int32) (x5 : Int32) (x6 : Int32) (x7 : Int32) (cells slots : Nat) (M : Mm) (H : Heap) (locs : List Loc) (ls : Array Slot), cells + (0 + nL147 * 2718) ≤ 600086 → slots + (0 + nL147 * 16308) ≤ 7301442 → HP D cy s.heap.size M H → va_S (Aq s.heap.size) s.heap H locs → lv_has ls 15 [(0, .ref b), (1, .ref (s.heap.size + 0)), (2, .int x2), (3, .int x3), (4, .int x4), (5, .int x5), (6, .int x6), (7, .int x7)] → narrow .boolean (.int x6) = .int x6 → kL147 x2 x3 x4 x5 x6 x7 M = some (1 : Int32) → W p l e room_1 s m #[Value.ref b] below meth c H locs cells slots (lw_Z below #[Value.ref b] s) (F0 m 147 ls [])) : ∀ (x2 : Int32) (x3 : Int32) (x4 : Int32) (x5 : Int32) (x7 : Int32) (x9 : Int32) (cells slots : Nat) (M : Mm) (H : Heap) (locs : List Loc) (ls : Array Slot), cells + (2717 + nL147 * 2718) ≤ 600086 → slots + (16302 + nL147 * 16308) ≤ 7301442 → HP D cy s.heap.size M H → va_S (Aq s.heap.size) s.heap H locs → lv_has ls 15 [(0, .ref b), (1, .ref (s.heap.size + 0)), (2, .int x2), (3, .int x3), (4, .int x4), (5, .int x5), (7, .int x7), (9, .int x9)] → fL_law_b317 xs L kL147 x2 x3 x4 x5 x7 x9 M = some (1 : Int32) → W p l e room_1 s m #[Value.ref b] below meth c H locs cells slots (lw_Z below #[Value.ref b] s) (F0 m 317 ls []) := by
  obtain ⟨hx, hb, hr, hml, hown, hts0, hX, hbl, hlocks, hgv⟩ := id C0
  have hts : ∀ w ∈ wsL_law, w.before #[Value.ref b] s = true := fun w h => hts0 w (wsL_law_in w h)
  have hbA : ¬ Aq s.heap.size b := Nat.not_le.mpr hbl
  intro x2 x3 x4 x5 x7 x9 cells slots M H locs ls hc1 hc2 hw hS hl hf
  unfold fL_law_b317 at hf
  refine lv_iload hx hb dL_law_317 (lv_at hl 4 rfl) ?_
  refine lv_iconst (v := (1 : Int32)) hx hb dL_law_319 (by decide) ?_
  refine lv_icmp_ne (tgt := 327) hx hb dL_law_320 (by decide) (fun c1 => ?_) (fun c1 => ?_)
  · have hf := iq c1 hf
    refine lv_iload hx hb dL_law_327 (lv_at hl 7 rfl) ?_
    refine lv_iload hx hb dL_law_329 (lv_at hl 4 rfl) ?_
    obtain ⟨hd2, hf⟩ := og hf
    refine lv_irem hx hb dL_law_331 hd2 ?_
    refine lv_iconst (v := (1 : Int32)) hx hb dL_law_332 (by decide) ?_
    refine lv_isub hx hb dL_law_333 ?_
    exact bL_law_334 C0 hK hZ hfl kL147 nL147 hkL147 _ _ _ _ _ _ _ _ _ _ _ _ _ (by omega) (by omega) hw hS (lv_sub hl [0, 1, 2, 3, 4, 5, 6, 7] rfl) hf
  · have hf := ip c1 hf
    refine lv_iconst (v := (-1 : Int32)) hx hb dL_law_323 (by decide) ?_
    refine lv_goto (tgt := 334) hx hb dL_law_324 (by decide) ?_
    exact bL_law_334 C0 hK hZ hfl kL147 nL147 hkL147 _ _ _ _ _ _ _ _ _ _ _ _ _ (by omega) (by omega) hw hS (lv_sub hl [0, 1, 2, 3, 4, 5, 6, 7] rfl) hf
set_option maxRecDepth 100000 in
set_option maxHeartbeats 4000000 in
theorem bL_law_453 {p : Program} {l : Launch} {e : Env} {s : State} {m : MethodId} {below : List Frame} {meth : Method} {c : Code} {D : va_G} {cy : Nat → ClassId} {b L : Nat} {xs : Nat → Int32} (C0 : lw_At p s m meth c b L xs) (hK : KS D cy s) (hZ : ZZ s.heap.size s s.heap) (hfl : l.stackTraces = false) (kL147 : Int32 → Int32 → Int32 → Int32 → Int32 → Int32 → Mm → Option (Int32)) (nL147 : Nat) (hkL147 : ∀ (x2 : Int32) (x3 : Int32) (x4 : Int32) (x5 : Int32) (x6 : Int32) (x7 : Int32) (cells slots : Nat) (M : Mm) (H : Heap) (locs : List Loc) (ls : Array Slot), cells + (0 + nL147 * 2718) ≤ 600086 → slots + (0 + nL147 * 16308) ≤ 7301442 → HP D cy s.heap.size M H → va_S (Aq s.heap.size) s.heap H locs → lv_has ls 15 [(0, .ref b), (1, .ref (s.heap.size + 0)), (2, .int x2), (3, .int x3), (4, .int x4), (5, .int x5), (6, .int x6), (7, .int x7)] → narrow .boolean (.int x6) = .int x6 → kL147 x2 x3 x4 x5 x6 x7 M = some (1 : Int32) → W p l e room_1 s m #[Value.ref b] below meth c H locs cells slots (lw_Z below #[Value.ref b] s) (F0 m 147 ls [])) : ∀ (x2 : Int32) (x3 : Int32) (x4 : Int32) (x5 : Int32) (x7 : Int32) (x9 : Int32) (xs0 : Int32) (cells slots : Nat) (M : Mm) (H : Heap) (locs : List Loc) (ls : Array Slot), cells + (2712 + nL147 * 2718) ≤ 600086 → slots + (16272 + nL147 * 16308) ≤ 7301442 → HP D cy s.heap.size M H → va_S (Aq s.heap.size) s.heap H locs → lv_has ls 15 [(0, .ref b), (1, .ref (s.heap.size + 0)), (2, .int x2), (3, .int x3), (4, .int x4), (5, .int x5), (7, .int x7), (9, .int x9)] → narrow .boolean (.int xs0) = .int xs0 → fL_law_b453 xs L kL147 x2 x3 x4 x5 x7 x9 xs0 M = some (1 : Int32) → W p l e room_1 s m #[Value.ref b] below meth c H locs cells slots (lw_Z below #[Value.ref b] s) (F0 m 453 ls [.int xs0]) := by
  obtain ⟨hx, hb, hr, hml, hown, hts0, hX, hbl, hlocks, hgv⟩ := id C0
  have hts : ∀ w ∈ wsL_law, w.before #[Value.ref b] s = true := fun w h => hts0 w (wsL_law_in w h)
  have hbA : ¬ Aq s.heap.size b := Nat.not_le.mpr hbl
  intro x2 x3 x4 x5 x7 x9 xs0 cells slots M H locs ls hc1 hc2 hw hS hl hbs0 hf
  unfold fL_law_b453 at hf
  refine lv_istore (lv' := [(6, .int xs0), (0, .ref b), (1, .ref (s.heap.size + 0)), (2, .int x2), (3, .int x3), (4, .int x4), (5, .int x5), (7, .int x7), (9, .int x9)]) hx hb dL_law_453 hl (Nat.le_of_ble_eq_true rfl) rfl (fun ls hl => ?_)
  refine lv_goto (tgt := 595) hx hb dL_law_455 (by decide) ?_
  exact bL_law_595 C0 hK hZ hfl kL147 nL147 hkL147 _ _ _ _ _ _ _ _ _ _ _ _ _ (by omega) (by omega) hw hS (lv_sub hl [1, 2, 3, 4, 5, 6, 0, 7, 8] rfl) hbs0 hf
set_option maxRecDepth 100000 in
set_option maxHeartbeats 4000000 in
theorem bL_law_452 {p : Program} {l : Launch} {e : Env} {s : State} {m : MethodId} {below : List Frame} {meth : Method} {c : Code} {D : va_G} {cy : Nat → ClassId} {b L : Nat} {xs : Nat → Int32} (C0 : lw_At p s m meth c b L xs) (hK : KS D cy s) (hZ : ZZ s.heap.size s s.heap) (hfl : l.stackTraces = false) (kL147 : Int32 → Int32 → Int32 → Int32 → Int32 → Int32 → Mm → Option (Int32)) (nL147 : Nat) (hkL147 : ∀ (x2 : Int32) (x3 : Int32) (x4 : Int32) (x5 : Int32) (x6 : Int32) (x7 : Int32) (cells slots : Nat) (M : Mm) (H : Heap) (locs : List Loc) (ls : Array Slot), cells + (0 + nL147 * 2718) ≤ 600086 → slots + (0 + nL147 * 16308) ≤ 7301442 → HP D cy s.heap.size M H → va_S (Aq s.heap.size) s.heap H locs → lv_has ls 15 [(0, .ref b), (1, .ref (s.heap.size + 0)), (2, .int x2), (3, .int x3), (4, .int x4), (5, .int x5), (6, .int x6), (7, .int x7)] → narrow .boolean (.int x6) = .int x6 → kL147 x2 x3 x4 x5 x6 x7 M = some (1 : Int32) → W p l e room_1 s m #[Value.ref b] below meth c H locs cells slots (lw_Z below #[Value.ref b] s) (F0 m 147 ls [])) : ∀ (x2 : Int32) (x3 : Int32) (x4 : Int32) (x5 : Int32) (x7 : Int32) (x9 : Int32) (cells slots : Nat) (M : Mm) (H : Heap) (locs : List Loc) (ls : Array Slot), cells + (2712 + nL147 * 2718) ≤ 600086 → slots + (16272 + nL147 * 16308) ≤ 7301442 → HP D cy s.heap.size M H → va_S (Aq s.heap.size) s.heap H locs → lv_has ls 15 [(0, .ref b), (1, .ref (s.heap.size + 0)), (2, .int x2), (3, .int x3), (4, .int x4), (5, .int x5), (7, .int x7), (9, .int x9)] → fL_law_b452 xs L kL147 x2 x3 x4 x5 x7 x9 M = some (1 : Int32) → W p l e room_1 s m #[Value.ref b] below meth c H locs cells slots (lw_Z below #[Value.ref b] s) (F0 m 452 ls []) := by
  obtain ⟨hx, hb, hr, hml, hown, hts0, hX, hbl, hlocks, hgv⟩ := id C0
  have hts : ∀ w ∈ wsL_law, w.before #[Value.ref b] s = true := fun w h => hts0 w (wsL_law_in w h)
  have hbA : ¬ Aq s.heap.size b := Nat.not_le.mpr hbl
  intro x2 x3 x4 x5 x7 x9 cells slots M H locs ls hc1 hc2 hw hS hl hf
  unfold fL_law_b452 at hf
  refine lv_iconst (v := (0 : Int32)) hx hb dL_law_452 (by decide) ?_
  exact bL_law_453 C0 hK hZ hfl kL147 nL147 hkL147 _ _ _ _ _ _ _ _ _ _ _ _ _ (by omega) (by omega) hw hS (lv_sub hl [0, 1, 2, 3, 4, 5, 6, 7] rfl) rfl hf
set_option maxRecDepth 100000 in
set_option maxHeartbeats 4000000 in
theorem bL_law_410 {p : Program} {l : Launch} {e : Env} {s : State} {m : MethodId} {below : List Frame} {meth : Method} {c : Code} {D : va_G} {cy : Nat → ClassId} {b L : Nat} {xs : Nat → Int32} (C0 : lw_At p s m meth c b L xs) (hK : KS D cy s) (hZ : ZZ s.heap.size s s.heap) (hfl : l.stackTraces = false) (kL147 : Int32 → Int32 → Int32 → Int32 → Int32 → Int32 → Mm → Option (Int32)) (nL147 : Nat) (hkL147 : ∀ (x2 : Int32) (x3 : Int32) (x4 : Int32) (x5 : Int32) (x6 : Int32) (x7 : Int32) (cells slots : Nat) (M : Mm) (H : Heap) (locs : List Loc) (ls : Array Slot), cells + (0 + nL147 * 2718) ≤ 600086 → slots + (0 + nL147 * 16308) ≤ 7301442 → HP D cy s.heap.size M H → va_S (Aq s.heap.size) s.heap H locs → lv_has ls 15 [(0, .ref b), (1, .ref (s.heap.size + 0)), (2, .int x2), (3, .int x3), (4, .int x4), (5, .int x5), (6, .int x6), (7, .int x7)] → narrow .boolean (.int x6) = .int x6 → kL147 x2 x3 x4 x5 x6 x7 M = some (1 : Int32) → W p l e room_1 s m #[Value.ref b] below meth c H locs cells slots (lw_Z below #[Value.ref b] s) (F0 m 147 ls [])) : ∀ (x2 : Int32) (x3 : Int32) (x4 : Int32) (x5 : Int32) (x7 : Int32) (x9 : Int32) (cells slots : Nat) (M : Mm) (H : Heap) (locs : List Loc) (ls : Array Slot), cells + (2716 + nL147 * 2718) ≤ 600086 → slots + (16296 + nL147 * 16308) ≤ 7301442 → HP D cy s.heap.size M H → va_S (Aq s.heap.size) s.heap H locs → lv_has ls 15 [(0, .ref b), (1, .ref (s.heap.size + 0)), (2, .int x2), (3, .int x3), (4, .int x4), (5, .int x5), (7, .int x7), (9, .int x9)] → fL_law_b410 xs L kL147 x2 x3 x4 x5 x7 x9 M = some (1 : Int32) → W p l e room_1 s m #[Value.ref b] below meth c H locs cells slots (lw_Z below #[Value.ref b] s) (F0 m 410 ls []) := by
  obtain ⟨hx, hb, hr, hml, hown, hts0, hX, hbl, hlocks, hgv⟩ := id C0
  have hts : ∀ w ∈ wsL_law, w.before #[Value.ref b] s = true := fun w h => hts0 w (wsL_law_in w h)
  have hbA : ¬ Aq s.heap.size b := Nat.not_le.mpr hbl
  intro x2 x3 x4 x5 x7 x9 cells slots M H locs ls hc1 hc2 hw hS hl hf
  unfold fL_law_b410 at hf
  refine lv_aload_n hx hb dL_law_410 rfl (lv_at hl 1 rfl) ?_
  refine lv_iload hx hb dL_law_411 (lv_at hl 7 rfl) ?_
  refine lv_iconst (v := (4 : Int32)) hx hb dL_law_413 (by decide) ?_
  refine lv_irem hx hb dL_law_414 (by decide) ?_
  obtain ⟨o1, ho1, hf⟩ := ob hf
  refine rCallI (vx_runSW (hh := [(0, 5, 6, 23)]) (As := [.ref (s.heap.size + 0), .int (irem x9 (4 : Int32))]) (rest := []) ⟨hx, hb, hml, hown, hts⟩ (ctL_receive (l := l) (D := D) (cy := cy) (a := s.heap.size) hfl ho1) (vx_cwSW 2 hts gL_law_L_receive rfl rfl rfl (by decide +kernel) ⟨Nat.le_of_ble_eq_true rfl, Nat.le_of_ble_eq_true rfl⟩) (pS hK hZ hw hS) rfl rfl hl.1 rfl (lv_room (Nat.le_of_ble_eq_true rfl)) dL_law_415 ⟨(by show _ ≤ 600086; omega), (by show _ ≤ 7301442; omega)⟩) hS (fun H locs hw hS => ?_)
  refine lv_if_lt (tgt := 452) hx hb dL_law_418 (by decide) (fun c2 => ?_) (fun c2 => ?_)
  · have hf := ip c2 hf
    exact bL_law_452 C0 hK hZ hfl kL147 nL147 hkL147 _ _ _ _ _ _ _ _ _ _ _ _ (by omega) (by omega) hw hS (lv_sub hl [0, 1, 2, 3, 4, 5, 6, 7] rfl) hf
  · have hf := iq c2 hf
    refine lv_aload_n hx hb dL_law_421 rfl (lv_at hl 1 rfl) ?_
    refine lv_iload hx hb dL_law_422 (lv_at hl 7 rfl) ?_
    refine lv_iconst (v := (4 : Int32)) hx hb dL_law_424 (by decide) ?_
    refine lv_idiv hx hb dL_law_425 (by decide) ?_
    refine lv_iconst (v := (4 : Int32)) hx hb dL_law_426 (by decide) ?_
    refine lv_irem hx hb dL_law_427 (by decide) ?_
    obtain ⟨o3, ho3, hf⟩ := ob hf
    refine rCallI (vx_runSW (hh := [(0, 5, 6, 23)]) (As := [.ref (s.heap.size + 0), .int (irem (x9 / (4 : Int32)) (4 : Int32))]) (rest := []) ⟨hx, hb, hml, hown, hts⟩ (ctL_empty (l := l) (D := D) (cy := cy) (a := s.heap.size) hfl ho3) (vx_cwSW 2 hts gL_law_L_empty rfl rfl rfl (by decide +kernel) ⟨Nat.le_of_ble_eq_true rfl, Nat.le_of_ble_eq_true rfl⟩) (pS hK hZ hw hS) rfl rfl hl.1 rfl (lv_room (Nat.le_of_ble_eq_true rfl)) dL_law_428 ⟨(by show _ ≤ 600086; omega), (by show _ ≤ 7301442; omega)⟩) hS (fun H locs hw hS => ?_)
    refine lv_if_lt (tgt := 452) hx hb dL_law_431 (by decide) (fun c4 => ?_) (fun c4 => ?_)
    · have hf := ip c4 hf
      exact bL_law_452 C0 hK hZ hfl kL147 nL147 hkL147 _ _ _ _ _ _ _ _ _ _ _ _ (by omega) (by omega) hw hS (lv_sub hl [0, 1, 2, 3, 4, 5, 6, 7] rfl) hf
    · have hf := iq c4 hf
      refine lv_aload_n hx hb dL_law_434 rfl (lv_at hl 1 rfl) ?_
      refine lv_iload hx hb dL_law_435 (lv_at hl 7 rfl) ?_
      refine lv_iconst (v := (4 : Int32)) hx hb dL_law_437 (by decide) ?_
      refine lv_idiv hx hb dL_law_438 (by decide) ?_
      refine lv_iconst (v := (4 : Int32)) hx hb dL_law_439 (by decide) ?_
      refine lv_irem hx hb dL_law_440 (by decide) ?_
      refine lv_iconst (v := (0 : Int32)) hx hb dL_law_441 (by decide) ?_
      obtain ⟨o5, ho5, hf⟩ := ob hf
      refine rCallI (vx_runSW (hh := [(0, 6, 7, 23), (0, 6, 11, 15)]) (As := [.ref (s.heap.size + 0), .int (irem (x9 / (4 : Int32)) (4 : Int32)), .int (0 : Int32)]) (rest := []) ⟨hx, hb, hml, hown, hts⟩ (ctL_tank (l := l) (D := D) (cy := cy) (a := s.heap.size) hfl ho5) (vx_cwSW 3 hts gL_law_L_tank rfl rfl rfl (by decide +kernel) ⟨Nat.le_of_ble_eq_true rfl, Nat.le_of_ble_eq_true rfl⟩) (pS hK hZ hw hS) rfl rfl hl.1 rfl (lv_room (Nat.le_of_ble_eq_true rfl)) dL_law_442 ⟨(by show _ ≤ 600086; omega), (by show _ ≤ 7301442; omega)⟩) hS (fun H locs hw hS => ?_)
      refine lv_if_ne (tgt := 452) hx hb dL_law_445 (by decide) (fun c6 => ?_) (fun c6 => ?_)
      · have hf := iq c6 hf
        exact bL_law_452 C0 hK hZ hfl kL147 nL147 hkL147 _ _ _ _ _ _ _ _ _ _ _ _ (by omega) (by omega) hw hS (lv_sub hl [0, 1, 2, 3, 4, 5, 6, 7] rfl) hf
      · have hf := ip c6 hf
        refine lv_iconst (v := (1 : Int32)) hx hb dL_law_448 (by decide) ?_
        refine lv_goto (tgt := 453) hx hb dL_law_449 (by decide) ?_
        exact bL_law_453 C0 hK hZ hfl kL147 nL147 hkL147 _ _ _ _ _ _ _ _ _ _ _ _ _ (by omega) (by omega) hw hS (lv_sub hl [0, 1, 2, 3, 4, 5, 6, 7] rfl) rfl hf
set_option maxRecDepth 100000 in
set_option maxHeartbeats 4000000 in
theorem bL_law_505 {p : Program} {l : Launch} {e : Env} {s : State} {m : MethodId} {below : List Frame} {meth : Method} {c : Code} {D : va_G} {cy : Nat → ClassId} {b L : Nat} {xs : Nat → Int32} (C0 : lw_At p s m meth c b L xs) (hK : KS D cy s) (hZ : ZZ s.heap.size s s.heap) (hfl : l.stackTraces = false) (kL147 : Int32 → Int32 → Int32 → Int32 → Int32 → Int32 → Mm → Option (Int32)) (nL147 : Nat) (hkL147 : ∀ (x2 : Int32) (x3 : Int32) (x4 : Int32) (x5 : Int32) (x6 : Int32) (x7 : Int32) (cells slots : Nat) (M : Mm) (H : Heap) (locs : List Loc) (ls : Array Slot), cells + (0 + nL147 * 2718) ≤ 600086 → slots + (0 + nL147 * 16308) ≤ 7301442 → HP D cy s.heap.size M H → va_S (Aq s.heap.size) s.heap H locs → lv_has ls 15 [(0, .ref b), (1, .ref (s.heap.size + 0)), (2, .int x2), (3, .int x3), (4, .int x4), (5, .int x5), (6, .int x6), (7, .int x7)] → narrow .boolean (.int x6) = .int x6 → kL147 x2 x3 x4 x5 x6 x7 M = some (1 : Int32) → W p l e room_1 s m #[Value.ref b] below meth c H locs cells slots (lw_Z below #[Value.ref b] s) (F0 m 147 ls [])) : ∀ (x2 : Int32) (x3 : Int32) (x4 : Int32) (x5 : Int32) (x7 : Int32) (x9 : Int32) (xs0 : Int32) (cells slots : Nat) (M : Mm) (H : Heap) (locs : List Loc) (ls : Array Slot), cells + (2712 + nL147 * 2718) ≤ 600086 → slots + (16272 + nL147 * 16308) ≤ 7301442 → HP D cy s.heap.size M H → va_S (Aq s.heap.size) s.heap H locs → lv_has ls 15 [(0, .ref b), (1, .ref (s.heap.size + 0)), (2, .int x2), (3, .int x3), (4, .int x4), (5, .int x5), (7, .int x7), (9, .int x9)] → narrow .boolean (.int xs0) = .int xs0 → fL_law_b505 xs L kL147 x2 x3 x4 x5 x7 x9 xs0 M = some (1 : Int32) → W p l e room_1 s m #[Value.ref b] below meth c H locs cells slots (lw_Z below #[Value.ref b] s) (F0 m 505 ls [.int xs0]) := by
  obtain ⟨hx, hb, hr, hml, hown, hts0, hX, hbl, hlocks, hgv⟩ := id C0
  have hts : ∀ w ∈ wsL_law, w.before #[Value.ref b] s = true := fun w h => hts0 w (wsL_law_in w h)
  have hbA : ¬ Aq s.heap.size b := Nat.not_le.mpr hbl
  intro x2 x3 x4 x5 x7 x9 xs0 cells slots M H locs ls hc1 hc2 hw hS hl hbs0 hf
  unfold fL_law_b505 at hf
  refine lv_istore (lv' := [(6, .int xs0), (0, .ref b), (1, .ref (s.heap.size + 0)), (2, .int x2), (3, .int x3), (4, .int x4), (5, .int x5), (7, .int x7), (9, .int x9)]) hx hb dL_law_505 hl (Nat.le_of_ble_eq_true rfl) rfl (fun ls hl => ?_)
  refine lv_goto (tgt := 595) hx hb dL_law_507 (by decide) ?_
  exact bL_law_595 C0 hK hZ hfl kL147 nL147 hkL147 _ _ _ _ _ _ _ _ _ _ _ _ _ (by omega) (by omega) hw hS (lv_sub hl [1, 2, 3, 4, 5, 6, 0, 7, 8] rfl) hbs0 hf
set_option maxRecDepth 100000 in
set_option maxHeartbeats 4000000 in
theorem bL_law_504 {p : Program} {l : Launch} {e : Env} {s : State} {m : MethodId} {below : List Frame} {meth : Method} {c : Code} {D : va_G} {cy : Nat → ClassId} {b L : Nat} {xs : Nat → Int32} (C0 : lw_At p s m meth c b L xs) (hK : KS D cy s) (hZ : ZZ s.heap.size s s.heap) (hfl : l.stackTraces = false) (kL147 : Int32 → Int32 → Int32 → Int32 → Int32 → Int32 → Mm → Option (Int32)) (nL147 : Nat) (hkL147 : ∀ (x2 : Int32) (x3 : Int32) (x4 : Int32) (x5 : Int32) (x6 : Int32) (x7 : Int32) (cells slots : Nat) (M : Mm) (H : Heap) (locs : List Loc) (ls : Array Slot), cells + (0 + nL147 * 2718) ≤ 600086 → slots + (0 + nL147 * 16308) ≤ 7301442 → HP D cy s.heap.size M H → va_S (Aq s.heap.size) s.heap H locs → lv_has ls 15 [(0, .ref b), (1, .ref (s.heap.size + 0)), (2, .int x2), (3, .int x3), (4, .int x4), (5, .int x5), (6, .int x6), (7, .int x7)] → narrow .boolean (.int x6) = .int x6 → kL147 x2 x3 x4 x5 x6 x7 M = some (1 : Int32) → W p l e room_1 s m #[Value.ref b] below meth c H locs cells slots (lw_Z below #[Value.ref b] s) (F0 m 147 ls [])) : ∀ (x2 : Int32) (x3 : Int32) (x4 : Int32) (x5 : Int32) (x7 : Int32) (x9 : Int32) (cells slots : Nat) (M : Mm) (H : Heap) (locs : List Loc) (ls : Array Slot), cells + (2712 + nL147 * 2718) ≤ 600086 → slots + (16272 + nL147 * 16308) ≤ 7301442 → HP D cy s.heap.size M H → va_S (Aq s.heap.size) s.heap H locs → lv_has ls 15 [(0, .ref b), (1, .ref (s.heap.size + 0)), (2, .int x2), (3, .int x3), (4, .int x4), (5, .int x5), (7, .int x7), (9, .int x9)] → fL_law_b504 xs L kL147 x2 x3 x4 x5 x7 x9 M = some (1 : Int32) → W p l e room_1 s m #[Value.ref b] below meth c H locs cells slots (lw_Z below #[Value.ref b] s) (F0 m 504 ls []) := by
  obtain ⟨hx, hb, hr, hml, hown, hts0, hX, hbl, hlocks, hgv⟩ := id C0
  have hts : ∀ w ∈ wsL_law, w.before #[Value.ref b] s = true := fun w h => hts0 w (wsL_law_in w h)
  have hbA : ¬ Aq s.heap.size b := Nat.not_le.mpr hbl
  intro x2 x3 x4 x5 x7 x9 cells slots M H locs ls hc1 hc2 hw hS hl hf
  unfold fL_law_b504 at hf
  refine lv_iconst (v := (0 : Int32)) hx hb dL_law_504 (by decide) ?_
  exact bL_law_505 C0 hK hZ hfl kL147 nL147 hkL147 _ _ _ _ _ _ _ _ _ _ _ _ _ (by omega) (by omega) hw hS (lv_sub hl [0, 1, 2, 3, 4, 5, 6, 7] rfl) rfl hf
set_option maxRecDepth 100000 in
set_option maxHeartbeats 4000000 in
theorem bL_law_488 {p : Program} {l : Launch} {e : Env} {s : State} {m : MethodId} {below : List Frame} {meth : Method} {c : Code} {D : va_G} {cy : Nat → ClassId} {b L : Nat} {xs : Nat → Int32} (C0 : lw_At p s m meth c b L xs) (hK : KS D cy s) (hZ : ZZ s.heap.size s s.heap) (hfl : l.stackTraces = false) (kL147 : Int32 → Int32 → Int32 → Int32 → Int32 → Int32 → Mm → Option (Int32)) (nL147 : Nat) (hkL147 : ∀ (x2 : Int32) (x3 : Int32) (x4 : Int32) (x5 : Int32) (x6 : Int32) (x7 : Int32) (cells slots : Nat) (M : Mm) (H : Heap) (locs : List Loc) (ls : Array Slot), cells + (0 + nL147 * 2718) ≤ 600086 → slots + (0 + nL147 * 16308) ≤ 7301442 → HP D cy s.heap.size M H → va_S (Aq s.heap.size) s.heap H locs → lv_has ls 15 [(0, .ref b), (1, .ref (s.heap.size + 0)), (2, .int x2), (3, .int x3), (4, .int x4), (5, .int x5), (6, .int x6), (7, .int x7)] → narrow .boolean (.int x6) = .int x6 → kL147 x2 x3 x4 x5 x6 x7 M = some (1 : Int32) → W p l e room_1 s m #[Value.ref b] below meth c H locs cells slots (lw_Z below #[Value.ref b] s) (F0 m 147 ls [])) : ∀ (x2 : Int32) (x3 : Int32) (x4 : Int32) (x5 : Int32) (x7 : Int32) (x9 : Int32) (xs0 : Int32) (xs1 : Int32) (cells slots : Nat) (M : Mm) (H : Heap) (locs : List Loc) (ls : Array Slot), cells + (2713 + nL147 * 2718) ≤ 600086 → slots + (16278 + nL147 * 16308) ≤ 7301442 → HP D cy s.heap.size M H → va_S (Aq s.heap.size) s.heap H locs → lv_has ls 15 [(0, .ref b), (1, .ref (s.heap.size + 0)), (2, .int x2), (3, .int x3), (4, .int x4), (5, .int x5), (7, .int x7), (9, .int x9)] → fL_law_b488 xs L kL147 x2 x3 x4 x5 x7 x9 xs0 xs1 M = some (1 : Int32) → W p l e room_1 s m #[Value.ref b] below meth c H locs cells slots (lw_Z below #[Value.ref b] s) (F0 m 488 ls [.int xs1, .int xs0]) := by
  obtain ⟨hx, hb, hr, hml, hown, hts0, hX, hbl, hlocks, hgv⟩ := id C0
  have hts : ∀ w ∈ wsL_law, w.before #[Value.ref b] s = true := fun w h => hts0 w (wsL_law_in w h)
  have hbA : ¬ Aq s.heap.size b := Nat.not_le.mpr hbl
  intro x2 x3 x4 x5 x7 x9 xs0 xs1 cells slots M H locs ls hc1 hc2 hw hS hl hf
  unfold fL_law_b488 at hf
  refine lv_icmp_ne (tgt := 504) hx hb dL_law_488 (by decide) (fun c1 => ?_) (fun c1 => ?_)
  · have hf := iq c1 hf
    exact bL_law_504 C0 hK hZ hfl kL147 nL147 hkL147 _ _ _ _ _ _ _ _ _ _ _ _ (by omega) (by omega) hw hS (lv_sub hl [0, 1, 2, 3, 4, 5, 6, 7] rfl) hf
  · have hf := ip c1 hf
    refine lv_aload_n hx hb dL_law_491 rfl (lv_at hl 1 rfl) ?_
    refine lv_iconst (v := (4 : Int32)) hx hb dL_law_492 (by decide) ?_
    obtain ⟨o2, ho2, hf⟩ := ob hf
    refine rCallI (vx_runSW (hh := [(0, 5, 6, 15)]) (As := [.ref (s.heap.size + 0), .int (4 : Int32)]) (rest := []) ⟨hx, hb, hml, hown, hts⟩ (ctL_pipe (l := l) (D := D) (cy := cy) (a := s.heap.size) hfl ho2) (vx_cwSW 2 hts gL_law_L_pipe rfl rfl rfl (by decide +kernel) ⟨Nat.le_of_ble_eq_true rfl, Nat.le_of_ble_eq_true rfl⟩) (pS hK hZ hw hS) rfl rfl hl.1 rfl (lv_room (Nat.le_of_ble_eq_true rfl)) dL_law_493 ⟨(by show _ ≤ 600086; omega), (by show _ ≤ 7301442; omega)⟩) hS (fun H locs hw hS => ?_)
    refine lv_iconst (v := (1 : Int32)) hx hb dL_law_496 (by decide) ?_
    refine lv_icmp_ne (tgt := 504) hx hb dL_law_497 (by decide) (fun c3 => ?_) (fun c3 => ?_)
    · have hf := iq c3 hf
      exact bL_law_504 C0 hK hZ hfl kL147 nL147 hkL147 _ _ _ _ _ _ _ _ _ _ _ _ (by omega) (by omega) hw hS (lv_sub hl [0, 1, 2, 3, 4, 5, 6, 7] rfl) hf
    · have hf := ip c3 hf
      refine lv_iconst (v := (1 : Int32)) hx hb dL_law_500 (by decide) ?_
      refine lv_goto (tgt := 505) hx hb dL_law_501 (by decide) ?_
      exact bL_law_505 C0 hK hZ hfl kL147 nL147 hkL147 _ _ _ _ _ _ _ _ _ _ _ _ _ (by omega) (by omega) hw hS (lv_sub hl [0, 1, 2, 3, 4, 5, 6, 7] rfl) rfl hf
set_option maxRecDepth 100000 in
set_option maxHeartbeats 4000000 in
theorem bL_law_465 {p : Program} {l : Launch} {e : Env} {s : State} {m : MethodId} {below : List Frame} {meth : Method} {c : Code} {D : va_G} {cy : Nat → ClassId} {b L : Nat} {xs : Nat → Int32} (C0 : lw_At p s m meth c b L xs) (hK : KS D cy s) (hZ : ZZ s.heap.size s s.heap) (hfl : l.stackTraces = false) (kL147 : Int32 → Int32 → Int32 → Int32 → Int32 → Int32 → Mm → Option (Int32)) (nL147 : Nat) (hkL147 : ∀ (x2 : Int32) (x3 : Int32) (x4 : Int32) (x5 : Int32) (x6 : Int32) (x7 : Int32) (cells slots : Nat) (M : Mm) (H : Heap) (locs : List Loc) (ls : Array Slot), cells + (0 + nL147 * 2718) ≤ 600086 → slots + (0 + nL147 * 16308) ≤ 7301442 → HP D cy s.heap.size M H → va_S (Aq s.heap.size) s.heap H locs → lv_has ls 15 [(0, .ref b), (1, .ref (s.heap.size + 0)), (2, .int x2), (3, .int x3), (4, .int x4), (5, .int x5), (6, .int x6), (7, .int x7)] → narrow .boolean (.int x6) = .int x6 → kL147 x2 x3 x4 x5 x6 x7 M = some (1 : Int32) → W p l e room_1 s m #[Value.ref b] below meth c H locs cells slots (lw_Z below #[Value.ref b] s) (F0 m 147 ls [])) : ∀ (x2 : Int32) (x3 : Int32) (x4 : Int32) (x5 : Int32) (x7 : Int32) (x9 : Int32) (cells slots : Nat) (M : Mm) (H : Heap) (locs : List Loc) (ls : Array Slot), cells + (2715 + nL147 * 2718) ≤ 600086 → slots + (16290 + nL147 * 16308) ≤ 7301442 → HP D cy s.heap.size M H → va_S (Aq s.heap.size) s.heap H locs → lv_has ls 15 [(0, .ref b), (1, .ref (s.heap.size + 0)), (2, .int x2), (3, .int x3), (4, .int x4), (5, .int x5), (7, .int x7), (9, .int x9)] → fL_law_b465 xs L kL147 x2 x3 x4 x5 x7 x9 M = some (1 : Int32) → W p l e room_1 s m #[Value.ref b] below meth c H locs cells slots (lw_Z below #[Value.ref b] s) (F0 m 465 ls []) := by
  obtain ⟨hx, hb, hr, hml, hown, hts0, hX, hbl, hlocks, hgv⟩ := id C0
  have hts : ∀ w ∈ wsL_law, w.before #[Value.ref b] s = true := fun w h => hts0 w (wsL_law_in w h)
  have hbA : ¬ Aq s.heap.size b := Nat.not_le.mpr hbl
  intro x2 x3 x4 x5 x7 x9 cells slots M H locs ls hc1 hc2 hw hS hl hf
  unfold fL_law_b465 at hf
  refine lv_aload_n hx hb dL_law_465 rfl (lv_at hl 1 rfl) ?_
  refine lv_iconst (v := (4 : Int32)) hx hb dL_law_466 (by decide) ?_
  obtain ⟨o1, ho1, hf⟩ := ob hf
  refine rCallI (vx_runSW (hh := [(0, 5, 6, 15)]) (As := [.ref (s.heap.size + 0), .int (4 : Int32)]) (rest := []) ⟨hx, hb, hml, hown, hts⟩ (ctL_pipe (l := l) (D := D) (cy := cy) (a := s.heap.size) hfl ho1) (vx_cwSW 2 hts gL_law_L_pipe rfl rfl rfl (by decide +kernel) ⟨Nat.le_of_ble_eq_true rfl, Nat.le_of_ble_eq_true rfl⟩) (pS hK hZ hw hS) rfl rfl hl.1 rfl (lv_room (Nat.le_of_ble_eq_true rfl)) dL_law_467 ⟨(by show _ ≤ 600086; omega), (by show _ ≤ 7301442; omega)⟩) hS (fun H locs hw hS => ?_)
  refine lv_istore (lv' := [(11, .int o1), (0, .ref b), (1, .ref (s.heap.size + 0)), (2, .int x2), (3, .int x3), (4, .int x4), (5, .int x5), (7, .int x7), (9, .int x9)]) hx hb dL_law_470 hl (Nat.le_of_ble_eq_true rfl) rfl (fun ls hl => ?_)
  refine lv_aload_n hx hb dL_law_472 rfl (lv_at hl 2 rfl) ?_
  obtain ⟨o2, ho2, hf⟩ := ob hf
  refine rCallI (vx_runSW (hh := [(0, 5, 6, 17)]) (As := [.ref (s.heap.size + 0)]) (rest := []) ⟨hx, hb, hml, hown, hts⟩ (ctL_launch (l := l) (D := D) (cy := cy) (a := s.heap.size) hfl ho2) (vx_cwSW 1 hts gL_law_L_launch rfl rfl rfl (by decide +kernel) ⟨Nat.le_of_ble_eq_true rfl, Nat.le_of_ble_eq_true rfl⟩) (pS hK hZ hw hS) rfl rfl hl.1 rfl (lv_room (Nat.le_of_ble_eq_true rfl)) dL_law_473 ⟨(by show _ ≤ 600086; omega), (by show _ ≤ 7301442; omega)⟩) hS (fun H locs hw hS => ?_)
  refine lv_iload hx hb dL_law_476 (lv_at hl 0 rfl) ?_
  refine lv_iconst (v := (1 : Int32)) hx hb dL_law_478 (by decide) ?_
  refine lv_icmp_ne (tgt := 487) hx hb dL_law_479 (by decide) (fun c3 => ?_) (fun c3 => ?_)
  · have hf := iq c3 hf
    refine lv_iconst (v := (0 : Int32)) hx hb dL_law_487 (by decide) ?_
    exact bL_law_488 C0 hK hZ hfl kL147 nL147 hkL147 _ _ _ _ _ _ _ _ _ _ _ _ _ _ (by omega) (by omega) hw hS (lv_sub hl [1, 2, 3, 4, 5, 6, 7, 8] rfl) hf
  · have hf := ip c3 hf
    refine lv_bipush (v := (-103 : Int32)) hx hb dL_law_482 (by decide) ?_
    refine lv_goto (tgt := 488) hx hb dL_law_484 (by decide) ?_
    exact bL_law_488 C0 hK hZ hfl kL147 nL147 hkL147 _ _ _ _ _ _ _ _ _ _ _ _ _ _ (by omega) (by omega) hw hS (lv_sub hl [1, 2, 3, 4, 5, 6, 7, 8] rfl) hf
set_option maxRecDepth 100000 in
set_option maxHeartbeats 4000000 in
theorem bL_law_593 {p : Program} {l : Launch} {e : Env} {s : State} {m : MethodId} {below : List Frame} {meth : Method} {c : Code} {D : va_G} {cy : Nat → ClassId} {b L : Nat} {xs : Nat → Int32} (C0 : lw_At p s m meth c b L xs) (hK : KS D cy s) (hZ : ZZ s.heap.size s s.heap) (hfl : l.stackTraces = false) (kL147 : Int32 → Int32 → Int32 → Int32 → Int32 → Int32 → Mm → Option (Int32)) (nL147 : Nat) (hkL147 : ∀ (x2 : Int32) (x3 : Int32) (x4 : Int32) (x5 : Int32) (x6 : Int32) (x7 : Int32) (cells slots : Nat) (M : Mm) (H : Heap) (locs : List Loc) (ls : Array Slot), cells + (0 + nL147 * 2718) ≤ 600086 → slots + (0 + nL147 * 16308) ≤ 7301442 → HP D cy s.heap.size M H → va_S (Aq s.heap.size) s.heap H locs → lv_has ls 15 [(0, .ref b), (1, .ref (s.heap.size + 0)), (2, .int x2), (3, .int x3), (4, .int x4), (5, .int x5), (6, .int x6), (7, .int x7)] → narrow .boolean (.int x6) = .int x6 → kL147 x2 x3 x4 x5 x6 x7 M = some (1 : Int32) → W p l e room_1 s m #[Value.ref b] below meth c H locs cells slots (lw_Z below #[Value.ref b] s) (F0 m 147 ls [])) : ∀ (x2 : Int32) (x3 : Int32) (x4 : Int32) (x5 : Int32) (x7 : Int32) (x9 : Int32) (xs0 : Int32) (cells slots : Nat) (M : Mm) (H : Heap) (locs : List Loc) (ls : Array Slot), cells + (2712 + nL147 * 2718) ≤ 600086 → slots + (16272 + nL147 * 16308) ≤ 7301442 → HP D cy s.heap.size M H → va_S (Aq s.heap.size) s.heap H locs → lv_has ls 15 [(0, .ref b), (1, .ref (s.heap.size + 0)), (2, .int x2), (3, .int x3), (4, .int x4), (5, .int x5), (7, .int x7), (9, .int x9)] → narrow .boolean (.int xs0) = .int xs0 → fL_law_b593 xs L kL147 x2 x3 x4 x5 x7 x9 xs0 M = some (1 : Int32) → W p l e room_1 s m #[Value.ref b] below meth c H locs cells slots (lw_Z below #[Value.ref b] s) (F0 m 593 ls [.int xs0]) := by
  obtain ⟨hx, hb, hr, hml, hown, hts0, hX, hbl, hlocks, hgv⟩ := id C0
  have hts : ∀ w ∈ wsL_law, w.before #[Value.ref b] s = true := fun w h => hts0 w (wsL_law_in w h)
  have hbA : ¬ Aq s.heap.size b := Nat.not_le.mpr hbl
  intro x2 x3 x4 x5 x7 x9 xs0 cells slots M H locs ls hc1 hc2 hw hS hl hbs0 hf
  unfold fL_law_b593 at hf
  refine lv_istore (lv' := [(6, .int xs0), (0, .ref b), (1, .ref (s.heap.size + 0)), (2, .int x2), (3, .int x3), (4, .int x4), (5, .int x5), (7, .int x7), (9, .int x9)]) hx hb dL_law_593 hl (Nat.le_of_ble_eq_true rfl) rfl (fun ls hl => ?_)
  exact bL_law_595 C0 hK hZ hfl kL147 nL147 hkL147 _ _ _ _ _ _ _ _ _ _ _ _ _ (by omega) (by omega) hw hS (lv_sub hl [1, 2, 3, 4, 5, 6, 0, 7, 8] rfl) hbs0 hf
set_option maxRecDepth 100000 in
set_option maxHeartbeats 4000000 in
theorem bL_law_592 {p : Program} {l : Launch} {e : Env} {s : State} {m : MethodId} {below : List Frame} {meth : Method} {c : Code} {D : va_G} {cy : Nat → ClassId} {b L : Nat} {xs : Nat → Int32} (C0 : lw_At p s m meth c b L xs) (hK : KS D cy s) (hZ : ZZ s.heap.size s s.heap) (hfl : l.stackTraces = false) (kL147 : Int32 → Int32 → Int32 → Int32 → Int32 → Int32 → Mm → Option (Int32)) (nL147 : Nat) (hkL147 : ∀ (x2 : Int32) (x3 : Int32) (x4 : Int32) (x5 : Int32) (x6 : Int32) (x7 : Int32) (cells slots : Nat) (M : Mm) (H : Heap) (locs : List Loc) (ls : Array Slot), cells + (0 + nL147 * 2718) ≤ 600086 → slots + (0 + nL147 * 16308) ≤ 7301442 → HP D cy s.heap.size M H → va_S (Aq s.heap.size) s.heap H locs → lv_has ls 15 [(0, .ref b), (1, .ref (s.heap.size + 0)), (2, .int x2), (3, .int x3), (4, .int x4), (5, .int x5), (6, .int x6), (7, .int x7)] → narrow .boolean (.int x6) = .int x6 → kL147 x2 x3 x4 x5 x6 x7 M = some (1 : Int32) → W p l e room_1 s m #[Value.ref b] below meth c H locs cells slots (lw_Z below #[Value.ref b] s) (F0 m 147 ls [])) : ∀ (x2 : Int32) (x3 : Int32) (x4 : Int32) (x5 : Int32) (x7 : Int32) (x9 : Int32) (cells slots : Nat) (M : Mm) (H : Heap) (locs : List Loc) (ls : Array Slot), cells + (2712 + nL147 * 2718) ≤ 600086 → slots + (16272 + nL147 * 16308) ≤ 7301442 → HP D cy s.heap.size M H → va_S (Aq s.heap.size) s.heap H locs → lv_has ls 15 [(0, .ref b), (1, .ref (s.heap.size + 0)), (2, .int x2), (3, .int x3), (4, .int x4), (5, .int x5), (7, .int x7), (9, .int x9)] → fL_law_b592 xs L kL147 x2 x3 x4 x5 x7 x9 M = some (1 : Int32) → W p l e room_1 s m #[Value.ref b] below meth c H locs cells slots (lw_Z below #[Value.ref b] s) (F0 m 592 ls []) := by
  obtain ⟨hx, hb, hr, hml, hown, hts0, hX, hbl, hlocks, hgv⟩ := id C0
  have hts : ∀ w ∈ wsL_law, w.before #[Value.ref b] s = true := fun w h => hts0 w (wsL_law_in w h)
  have hbA : ¬ Aq s.heap.size b := Nat.not_le.mpr hbl
  intro x2 x3 x4 x5 x7 x9 cells slots M H locs ls hc1 hc2 hw hS hl hf
  unfold fL_law_b592 at hf
  refine lv_iconst (v := (0 : Int32)) hx hb dL_law_592 (by decide) ?_
  exact bL_law_593 C0 hK hZ hfl kL147 nL147 hkL147 _ _ _ _ _ _ _ _ _ _ _ _ _ (by omega) (by omega) hw hS (lv_sub hl [0, 1, 2, 3, 4, 5, 6, 7] rfl) rfl hf
set_option maxRecDepth 100000 in
set_option maxHeartbeats 4000000 in
theorem bL_law_539 {p : Program} {l : Launch} {e : Env} {s : State} {m : MethodId} {below : List Frame} {meth : Method} {c : Code} {D : va_G} {cy : Nat → ClassId} {b L : Nat} {xs : Nat → Int32} (C0 : lw_At p s m meth c b L xs) (hK : KS D cy s) (hZ : ZZ s.heap.size s s.heap) (hfl : l.stackTraces = false) (kL147 : Int32 → Int32 → Int32 → Int32 → Int32 → Int32 → Mm → Option (Int32)) (nL147 : Nat) (hkL147 : ∀ (x2 : Int32) (x3 : Int32) (x4 : Int32) (x5 : Int32) (x6 : Int32) (x7 : Int32) (cells slots : Nat) (M : Mm) (H : Heap) (locs : List Loc) (ls : Array Slot), cells + (0 + nL147 * 2718) ≤ 600086 → slots + (0 + nL147 * 16308) ≤ 7301442 → HP D cy s.heap.size M H → va_S (Aq s.heap.size) s.heap H locs → lv_has ls 15 [(0, .ref b), (1, .ref (s.heap.size + 0)), (2, .int x2), (3, .int x3), (4, .int x4), (5, .int x5), (6, .int x6), (7, .int x7)] → narrow .boolean (.int x6) = .int x6 → kL147 x2 x3 x4 x5 x6 x7 M = some (1 : Int32) → W p l e room_1 s m #[Value.ref b] below meth c H locs cells slots (lw_Z below #[Value.ref b] s) (F0 m 147 ls [])) : ∀ (x2 : Int32) (x3 : Int32) (x4 : Int32) (x5 : Int32) (x7 : Int32) (x9 : Int32) (cells slots : Nat) (M : Mm) (H : Heap) (locs : List Loc) (ls : Array Slot), cells + (2715 + nL147 * 2718) ≤ 600086 → slots + (16290 + nL147 * 16308) ≤ 7301442 → HP D cy s.heap.size M H → va_S (Aq s.heap.size) s.heap H locs → lv_has ls 15 [(0, .ref b), (1, .ref (s.heap.size + 0)), (2, .int x2), (3, .int x3), (4, .int x4), (5, .int x5), (7, .int x7), (9, .int x9)] → fL_law_b539 xs L kL147 x2 x3 x4 x5 x7 x9 M = some (1 : Int32) → W p l e room_1 s m #[Value.ref b] below meth c H locs cells slots (lw_Z below #[Value.ref b] s) (F0 m 539 ls []) := by
  obtain ⟨hx, hb, hr, hml, hown, hts0, hX, hbl, hlocks, hgv⟩ := id C0
  have hts : ∀ w ∈ wsL_law, w.before #[Value.ref b] s = true := fun w h => hts0 w (wsL_law_in w h)
  have hbA : ¬ Aq s.heap.size b := Nat.not_le.mpr hbl
  intro x2 x3 x4 x5 x7 x9 cells slots M H locs ls hc1 hc2 hw hS hl hf
  unfold fL_law_b539 at hf
  refine lv_iconst (v := (1 : Int32)) hx hb dL_law_539 (by decide) ?_
  refine lv_iload hx hb dL_law_540 (lv_at hl 7 rfl) ?_
  refine lv_bipush (v := (6 : Int32)) hx hb dL_law_542 (by decide) ?_
  refine lv_irem hx hb dL_law_544 (by decide) ?_
  refine lv_iadd hx hb dL_law_545 ?_
  refine lv_istore (lv' := [(11, .int ((1 : Int32) + (irem x9 (6 : Int32)))), (0, .ref b), (1, .ref (s.heap.size + 0)), (2, .int x2), (3, .int x3), (4, .int x4), (5, .int x5), (7, .int x7), (9, .int x9)]) hx hb dL_law_546 hl (Nat.le_of_ble_eq_true rfl) rfl (fun ls hl => ?_)
  refine lv_iload hx hb dL_law_548 (lv_at hl 6 rfl) ?_
  refine lv_iload hx hb dL_law_550 (lv_at hl 0 rfl) ?_
  refine lv_iadd hx hb dL_law_552 ?_
  refine lv_istore (lv' := [(5, .int (x5 + ((1 : Int32) + (irem x9 (6 : Int32))))), (11, .int ((1 : Int32) + (irem x9 (6 : Int32)))), (0, .ref b), (1, .ref (s.heap.size + 0)), (2, .int x2), (3, .int x3), (4, .int x4), (7, .int x7), (9, .int x9)]) hx hb dL_law_553 hl (Nat.le_of_ble_eq_true rfl) rfl (fun ls hl => ?_)
  refine lv_aload_n hx hb dL_law_555 rfl (lv_at hl 3 rfl) ?_
  refine lv_iload hx hb dL_law_556 (lv_at hl 1 rfl) ?_
  obtain ⟨o1, ho1, hf⟩ := ob hf
  refine rCallI (vx_runSW (hh := [(0, 5, 6, 15), (0, 5, 10, 17)]) (As := [.ref (s.heap.size + 0), .int ((1 : Int32) + (irem x9 (6 : Int32)))]) (rest := []) ⟨hx, hb, hml, hown, hts⟩ (ctL_pass (l := l) (D := D) (cy := cy) (a := s.heap.size) hfl ho1) (vx_cwSW 2 hts gL_law_L_pass rfl rfl rfl (by decide +kernel) ⟨Nat.le_of_ble_eq_true rfl, Nat.le_of_ble_eq_true rfl⟩) (pS hK hZ hw hS) rfl rfl hl.1 rfl (lv_room (Nat.le_of_ble_eq_true rfl)) dL_law_558 ⟨(by show _ ≤ 600086; omega), (by show _ ≤ 7301442; omega)⟩) hS (fun H locs hw hS => ?_)
  refine lv_istore (lv' := [(12, .int o1.1), (5, .int (x5 + ((1 : Int32) + (irem x9 (6 : Int32))))), (11, .int ((1 : Int32) + (irem x9 (6 : Int32)))), (0, .ref b), (1, .ref (s.heap.size + 0)), (2, .int x2), (3, .int x3), (4, .int x4), (7, .int x7), (9, .int x9)]) hx hb dL_law_561 hl (Nat.le_of_ble_eq_true rfl) rfl (fun ls hl => ?_)
  refine lv_iload hx hb dL_law_563 (lv_at hl 0 rfl) ?_
  refine lv_if_lt (tgt := 592) hx hb dL_law_565 (by decide) (fun c2 => ?_) (fun c2 => ?_)
  · have hf := ip c2 hf
    exact bL_law_592 C0 hK hZ hfl kL147 nL147 hkL147 _ _ _ _ _ _ _ _ _ _ _ _ (by omega) (by omega) hw hS (lv_sub hl [3, 4, 5, 6, 7, 1, 8, 9] rfl) hf
  · have hf := iq c2 hf
    refine lv_iload hx hb dL_law_568 (lv_at hl 0 rfl) ?_
    refine lv_bipush (v := (10 : Int32)) hx hb dL_law_570 (by decide) ?_
    refine lv_iload hx hb dL_law_572 (lv_at hl 2 rfl) ?_
    refine lv_imul hx hb dL_law_574 ?_
    refine lv_icmp_gt (tgt := 592) hx hb dL_law_575 (by decide) (fun c3 => ?_) (fun c3 => ?_)
    · have hf := ip c3 hf
      exact bL_law_592 C0 hK hZ hfl kL147 nL147 hkL147 _ _ _ _ _ _ _ _ _ _ _ _ (by omega) (by omega) hw hS (lv_sub hl [3, 4, 5, 6, 7, 1, 8, 9] rfl) hf
    · have hf := iq c3 hf
      refine lv_aload_n hx hb dL_law_578 rfl (lv_at hl 4 rfl) ?_
      refine lv_iconst (v := (5 : Int32)) hx hb dL_law_579 (by decide) ?_
      obtain ⟨o4, ho4, hf⟩ := ob hf
      refine rCallI (vx_runSW (hh := [(0, 5, 6, 15)]) (As := [.ref (s.heap.size + 0), .int (5 : Int32)]) (rest := []) ⟨hx, hb, hml, hown, hts⟩ (ctL_pipe (l := l) (D := D) (cy := cy) (a := s.heap.size) hfl ho4) (vx_cwSW 2 hts gL_law_L_pipe rfl rfl rfl (by decide +kernel) ⟨Nat.le_of_ble_eq_true rfl, Nat.le_of_ble_eq_true rfl⟩) (pS hK hZ hw hS) rfl rfl hl.1 rfl (lv_room (Nat.le_of_ble_eq_true rfl)) dL_law_580 ⟨(by show _ ≤ 600086; omega), (by show _ ≤ 7301442; omega)⟩) hS (fun H locs hw hS => ?_)
      refine lv_iload hx hb dL_law_583 (lv_at hl 1 rfl) ?_
      refine lv_icmp_ne (tgt := 592) hx hb dL_law_585 (by decide) (fun c5 => ?_) (fun c5 => ?_)
      · have hf := iq c5 hf
        exact bL_law_592 C0 hK hZ hfl kL147 nL147 hkL147 _ _ _ _ _ _ _ _ _ _ _ _ (by omega) (by omega) hw hS (lv_sub hl [3, 4, 5, 6, 7, 1, 8, 9] rfl) hf
      · have hf := ip c5 hf
        refine lv_iconst (v := (1 : Int32)) hx hb dL_law_588 (by decide) ?_
        refine lv_goto (tgt := 593) hx hb dL_law_589 (by decide) ?_
        exact bL_law_593 C0 hK hZ hfl kL147 nL147 hkL147 _ _ _ _ _ _ _ _ _ _ _ _ _ (by omega) (by omega) hw hS (lv_sub hl [3, 4, 5, 6, 7, 1, 8, 9] rfl) rfl hf
set_option maxRecDepth 100000 in
set_option maxHeartbeats 4000000 in
theorem bL_law_534 {p : Program} {l : Launch} {e : Env} {s : State} {m : MethodId} {below : List Frame} {meth : Method} {c : Code} {D : va_G} {cy : Nat → ClassId} {b L : Nat} {xs : Nat → Int32} (C0 : lw_At p s m meth c b L xs) (hK : KS D cy s) (hZ : ZZ s.heap.size s s.heap) (hfl : l.stackTraces = false) (kL147 : Int32 → Int32 → Int32 → Int32 → Int32 → Int32 → Mm → Option (Int32)) (nL147 : Nat) (hkL147 : ∀ (x2 : Int32) (x3 : Int32) (x4 : Int32) (x5 : Int32) (x6 : Int32) (x7 : Int32) (cells slots : Nat) (M : Mm) (H : Heap) (locs : List Loc) (ls : Array Slot), cells + (0 + nL147 * 2718) ≤ 600086 → slots + (0 + nL147 * 16308) ≤ 7301442 → HP D cy s.heap.size M H → va_S (Aq s.heap.size) s.heap H locs → lv_has ls 15 [(0, .ref b), (1, .ref (s.heap.size + 0)), (2, .int x2), (3, .int x3), (4, .int x4), (5, .int x5), (6, .int x6), (7, .int x7)] → narrow .boolean (.int x6) = .int x6 → kL147 x2 x3 x4 x5 x6 x7 M = some (1 : Int32) → W p l e room_1 s m #[Value.ref b] below meth c H locs cells slots (lw_Z below #[Value.ref b] s) (F0 m 147 ls [])) : ∀ (x2 : Int32) (x3 : Int32) (x4 : Int32) (x5 : Int32) (x7 : Int32) (x9 : Int32) (xs0 : Int32) (cells slots : Nat) (M : Mm) (H : Heap) (locs : List Loc) (ls : Array Slot), cells + (2712 + nL147 * 2718) ≤ 600086 → slots + (16272 + nL147 * 16308) ≤ 7301442 → HP D cy s.heap.size M H → va_S (Aq s.heap.size) s.heap H locs → lv_has ls 15 [(0, .ref b), (1, .ref (s.heap.size + 0)), (2, .int x2), (3, .int x3), (4, .int x4), (5, .int x5), (7, .int x7), (9, .int x9)] → narrow .boolean (.int xs0) = .int xs0 → fL_law_b534 xs L kL147 x2 x3 x4 x5 x7 x9 xs0 M = some (1 : Int32) → W p l e room_1 s m #[Value.ref b] below meth c H locs cells slots (lw_Z below #[Value.ref b] s) (F0 m 534 ls [.int xs0]) := by
  obtain ⟨hx, hb, hr, hml, hown, hts0, hX, hbl, hlocks, hgv⟩ := id C0
  have hts : ∀ w ∈ wsL_law, w.before #[Value.ref b] s = true := fun w h => hts0 w (wsL_law_in w h)
  have hbA : ¬ Aq s.heap.size b := Nat.not_le.mpr hbl
  intro x2 x3 x4 x5 x7 x9 xs0 cells slots M H locs ls hc1 hc2 hw hS hl hbs0 hf
  unfold fL_law_b534 at hf
  refine lv_istore (lv' := [(6, .int xs0), (0, .ref b), (1, .ref (s.heap.size + 0)), (2, .int x2), (3, .int x3), (4, .int x4), (5, .int x5), (7, .int x7), (9, .int x9)]) hx hb dL_law_534 hl (Nat.le_of_ble_eq_true rfl) rfl (fun ls hl => ?_)
  refine lv_goto (tgt := 595) hx hb dL_law_536 (by decide) ?_
  exact bL_law_595 C0 hK hZ hfl kL147 nL147 hkL147 _ _ _ _ _ _ _ _ _ _ _ _ _ (by omega) (by omega) hw hS (lv_sub hl [1, 2, 3, 4, 5, 6, 0, 7, 8] rfl) hbs0 hf
set_option maxRecDepth 100000 in
set_option maxHeartbeats 4000000 in
theorem bL_law_517 {p : Program} {l : Launch} {e : Env} {s : State} {m : MethodId} {below : List Frame} {meth : Method} {c : Code} {D : va_G} {cy : Nat → ClassId} {b L : Nat} {xs : Nat → Int32} (C0 : lw_At p s m meth c b L xs) (hK : KS D cy s) (hZ : ZZ s.heap.size s s.heap) (hfl : l.stackTraces = false) (kL147 : Int32 → Int32 → Int32 → Int32 → Int32 → Int32 → Mm → Option (Int32)) (nL147 : Nat) (hkL147 : ∀ (x2 : Int32) (x3 : Int32) (x4 : Int32) (x5 : Int32) (x6 : Int32) (x7 : Int32) (cells slots : Nat) (M : Mm) (H : Heap) (locs : List Loc) (ls : Array Slot), cells + (0 + nL147 * 2718) ≤ 600086 → slots + (0 + nL147 * 16308) ≤ 7301442 → HP D cy s.heap.size M H → va_S (Aq s.heap.size) s.heap H locs → lv_has ls 15 [(0, .ref b), (1, .ref (s.heap.size + 0)), (2, .int x2), (3, .int x3), (4, .int x4), (5, .int x5), (6, .int x6), (7, .int x7)] → narrow .boolean (.int x6) = .int x6 → kL147 x2 x3 x4 x5 x6 x7 M = some (1 : Int32) → W p l e room_1 s m #[Value.ref b] below meth c H locs cells slots (lw_Z below #[Value.ref b] s) (F0 m 147 ls [])) : ∀ (x2 : Int32) (x3 : Int32) (x4 : Int32) (x5 : Int32) (x7 : Int32) (x9 : Int32) (cells slots : Nat) (M : Mm) (H : Heap) (locs : List Loc) (ls : Array Slot), cells + (2713 + nL147 * 2718) ≤ 600086 → slots + (16278 + nL147 * 16308) ≤ 7301442 → HP D cy s.heap.size M H → va_S (Aq s.heap.size) s.heap H locs → lv_has ls 15 [(0, .ref b), (1, .ref (s.heap.size + 0)), (2, .int x2), (3, .int x3), (4, .int x4), (5, .int x5), (7, .int x7), (9, .int x9)] → fL_law_b517 xs L kL147 x2 x3 x4 x5 x7 x9 M = some (1 : Int32) → W p l e room_1 s m #[Value.ref b] below meth c H locs cells slots (lw_Z below #[Value.ref b] s) (F0 m 517 ls []) := by
  obtain ⟨hx, hb, hr, hml, hown, hts0, hX, hbl, hlocks, hgv⟩ := id C0
  have hts : ∀ w ∈ wsL_law, w.before #[Value.ref b] s = true := fun w h => hts0 w (wsL_law_in w h)
  have hbA : ¬ Aq s.heap.size b := Nat.not_le.mpr hbl
  intro x2 x3 x4 x5 x7 x9 cells slots M H locs ls hc1 hc2 hw hS hl hf
  unfold fL_law_b517 at hf
  refine lv_aload_n hx hb dL_law_517 rfl (lv_at hl 1 rfl) ?_
  refine lv_iload hx hb dL_law_518 (lv_at hl 7 rfl) ?_
  refine lv_bipush (v := (11 : Int32)) hx hb dL_law_520 (by decide) ?_
  refine lv_irem hx hb dL_law_522 (by decide) ?_
  obtain ⟨o1, ho1, hf⟩ := ob hf
  refine rCallI (vx_runSW (hh := [(0, 5, 6, 15)]) (As := [.ref (s.heap.size + 0), .int (irem x9 (11 : Int32))]) (rest := []) ⟨hx, hb, hml, hown, hts⟩ (ctL_rate (l := l) (D := D) (cy := cy) (a := s.heap.size) hfl ho1) (vx_cwSW 2 hts gL_law_L_rate rfl rfl rfl (by decide +kernel) ⟨Nat.le_of_ble_eq_true rfl, Nat.le_of_ble_eq_true rfl⟩) (pS hK hZ hw hS) rfl rfl hl.1 rfl (lv_room (Nat.le_of_ble_eq_true rfl)) dL_law_523 ⟨(by show _ ≤ 600086; omega), (by show _ ≤ 7301442; omega)⟩) hS (fun H locs hw hS => ?_)
  refine lv_if_lt (tgt := 533) hx hb dL_law_526 (by decide) (fun c2 => ?_) (fun c2 => ?_)
  · have hf := ip c2 hf
    refine lv_iconst (v := (0 : Int32)) hx hb dL_law_533 (by decide) ?_
    exact bL_law_534 C0 hK hZ hfl kL147 nL147 hkL147 _ _ _ _ _ _ _ _ _ _ _ _ _ (by omega) (by omega) hw hS (lv_sub hl [0, 1, 2, 3, 4, 5, 6, 7] rfl) rfl hf
  · have hf := iq c2 hf
    refine lv_iconst (v := (1 : Int32)) hx hb dL_law_529 (by decide) ?_
    refine lv_goto (tgt := 534) hx hb dL_law_530 (by decide) ?_
    exact bL_law_534 C0 hK hZ hfl kL147 nL147 hkL147 _ _ _ _ _ _ _ _ _ _ _ _ _ (by omega) (by omega) hw hS (lv_sub hl [0, 1, 2, 3, 4, 5, 6, 7] rfl) rfl hf
set_option maxRecDepth 100000 in
set_option maxHeartbeats 4000000 in
theorem bL_law_147 {p : Program} {l : Launch} {e : Env} {s : State} {m : MethodId} {below : List Frame} {meth : Method} {c : Code} {D : va_G} {cy : Nat → ClassId} {b L : Nat} {xs : Nat → Int32} (C0 : lw_At p s m meth c b L xs) (hK : KS D cy s) (hZ : ZZ s.heap.size s s.heap) (hfl : l.stackTraces = false) : ∀ (n : Nat), ∀ (x2 : Int32) (x3 : Int32) (x4 : Int32) (x5 : Int32) (x6 : Int32) (x7 : Int32) (cells slots : Nat) (M : Mm) (H : Heap) (locs : List Loc) (ls : Array Slot), cells + (0 + n * 2718) ≤ 600086 → slots + (0 + n * 16308) ≤ 7301442 → HP D cy s.heap.size M H → va_S (Aq s.heap.size) s.heap H locs → lv_has ls 15 [(0, .ref b), (1, .ref (s.heap.size + 0)), (2, .int x2), (3, .int x3), (4, .int x4), (5, .int x5), (6, .int x6), (7, .int x7)] → narrow .boolean (.int x6) = .int x6 → fL_law_L147 xs L n x2 x3 x4 x5 x6 x7 M = some (1 : Int32) → W p l e room_1 s m #[Value.ref b] below meth c H locs cells slots (lw_Z below #[Value.ref b] s) (F0 m 147 ls []) := by
  obtain ⟨hx, hb, hr, hml, hown, hts0, hX, hbl, hlocks, hgv⟩ := id C0
  have hts : ∀ w ∈ wsL_law, w.before #[Value.ref b] s = true := fun w h => hts0 w (wsL_law_in w h)
  have hbA : ¬ Aq s.heap.size b := Nat.not_le.mpr hbl
  intro n
  induction n with
  | zero =>
    intro x2 x3 x4 x5 x6 x7 cells slots M H locs ls hc1 hc2 hw hS hl hb6 hf
    have hf : (none : Option (Int32)) = some (1 : Int32) := hf
    cases hf
  | succ n ih =>
    intro x2 x3 x4 x5 x6 x7 cells slots M H locs ls hc1 hc2 hw hS hl hb6 hf
    unfold fL_law_L147 at hf
    refine lv_iload hx hb dL_law_147 (lv_at hl 7 rfl) ?_
    refine lv_bipush (v := (38 : Int32)) hx hb dL_law_149 (by decide) ?_
    refine lv_icmp_ge (tgt := 763) hx hb dL_law_151 (by decide) (fun c1 => ?_) (fun c1 => ?_)
    · have hf := ip c1 hf
      refine lv_iload hx hb dL_law_763 (lv_at hl 6 rfl) ?_
      rw [Option.some.inj hf]
      refine va_forget (fun q hq => hS.2.2 q hq) ?_
      refine W.widen (k := 600086) (n := 7301442) (by omega) (by omega) ?_
      exact lw_ret hx hb hr hlocks dL_law_765
    · have hf := iq c1 hf
      refine lv_iload hx hb dL_law_154 (lv_at hl 6 rfl) ?_
      refine lv_if_eq (tgt := 763) hx hb dL_law_156 (by decide) (fun c2 => ?_) (fun c2 => ?_)
      · have hf := ip c2 hf
        refine lv_iload hx hb dL_law_763 (lv_at hl 6 rfl) ?_
        rw [Option.some.inj hf]
        refine va_forget (fun q hq => hS.2.2 q hq) ?_
        refine W.widen (k := 600086) (n := 7301442) (by omega) (by omega) ?_
        exact lw_ret hx hb hr hlocks dL_law_765
      · have hf := iq c2 hf
        refine lv_aload_n hx hb dL_law_159 rfl (lv_at hl 0 rfl) ?_
        refine lv_iload hx hb dL_law_160 (lv_at hl 7 rfl) ?_
        obtain ⟨o3, ho3, hf⟩ := ob hf
        refine rCallI (va_runS (As := [.ref b, .int x7]) (rest := []) ⟨hx, hb, hml, hown, hts⟩ (ctL_drawn (l := l) (D := D) (cy := cy) (a := s.heap.size) (b := b) (L := L) (xs := xs) ho3) (va_cwS 2 hts gL_law_L_drawn rfl rfl rfl (by decide +kernel) ⟨Nat.le_of_ble_eq_true rfl, Nat.le_of_ble_eq_true rfl⟩) (pSX hK hZ hw hS hX hbl hbA) rfl rfl hl.1 rfl (lv_room (Nat.le_of_ble_eq_true rfl)) dL_law_162 ⟨(by show _ ≤ 600086; omega), (by show _ ≤ 7301442; omega)⟩) hS (fun H locs hw hS => ?_)
        refine lv_istore (lv' := [(8, .int o3), (0, .ref b), (1, .ref (s.heap.size + 0)), (2, .int x2), (3, .int x3), (4, .int x4), (5, .int x5), (6, .int x6), (7, .int x7)]) hx hb dL_law_165 hl (Nat.le_of_ble_eq_true rfl) rfl (fun ls hl => ?_)
        refine lv_iload hx hb dL_law_167 (lv_at hl 0 rfl) ?_
        refine lv_bipush (v := (16 : Int32)) hx hb dL_law_169 (by decide) ?_
        refine lv_idiv hx hb dL_law_171 (by decide) ?_
        refine lv_istore (lv' := [(9, .int (o3 / (16 : Int32))), (8, .int o3), (0, .ref b), (1, .ref (s.heap.size + 0)), (2, .int x2), (3, .int x3), (4, .int x4), (5, .int x5), (6, .int x6), (7, .int x7)]) hx hb dL_law_172 hl (Nat.le_of_ble_eq_true rfl) rfl (fun ls hl => ?_)
        refine lv_iload hx hb dL_law_174 (lv_at hl 1 rfl) ?_
        refine lv_bipush (v := (16 : Int32)) hx hb dL_law_176 (by decide) ?_
        refine lv_irem hx hb dL_law_178 (by decide) ?_
        refine lv_istore (lv' := [(10, .int (irem o3 (16 : Int32))), (9, .int (o3 / (16 : Int32))), (8, .int o3), (0, .ref b), (1, .ref (s.heap.size + 0)), (2, .int x2), (3, .int x3), (4, .int x4), (5, .int x5), (6, .int x6), (7, .int x7)]) hx hb dL_law_179 hl (Nat.le_of_ble_eq_true rfl) rfl (fun ls hl => ?_)
        refine lv_iload hx hb dL_law_181 (lv_at hl 0 rfl) ?_
        refine lv_iconst (v := (5 : Int32)) hx hb dL_law_183 (by decide) ?_
        refine lv_icmp_ge (tgt := 233) hx hb dL_law_184 (by decide) (fun c4 => ?_) (fun c4 => ?_)
        · have hf := ip c4 hf
          refine lv_iload hx hb dL_law_233 (lv_at hl 0 rfl) ?_
          refine lv_iconst (v := (5 : Int32)) hx hb dL_law_235 (by decide) ?_
          refine lv_icmp_ne (tgt := 310) hx hb dL_law_236 (by decide) (fun c5 => ?_) (fun c5 => ?_)
          · have hf := iq c5 hf
            refine lv_iload hx hb dL_law_310 (lv_at hl 0 rfl) ?_
            refine lv_bipush (v := (6 : Int32)) hx hb dL_law_312 (by decide) ?_
            refine lv_icmp_ne (tgt := 403) hx hb dL_law_314 (by decide) (fun c6 => ?_) (fun c6 => ?_)
            · have hf := iq c6 hf
              refine lv_iload hx hb dL_law_403 (lv_at hl 0 rfl) ?_
              refine lv_bipush (v := (7 : Int32)) hx hb dL_law_405 (by decide) ?_
              refine lv_icmp_ne (tgt := 458) hx hb dL_law_407 (by decide) (fun c7 => ?_) (fun c7 => ?_)
              · have hf := iq c7 hf
                refine lv_iload hx hb dL_law_458 (lv_at hl 0 rfl) ?_
                refine lv_bipush (v := (8 : Int32)) hx hb dL_law_460 (by decide) ?_
                refine lv_icmp_ne (tgt := 510) hx hb dL_law_462 (by decide) (fun c8 => ?_) (fun c8 => ?_)
                · have hf := iq c8 hf
                  refine lv_iload hx hb dL_law_510 (lv_at hl 0 rfl) ?_
                  refine lv_bipush (v := (11 : Int32)) hx hb dL_law_512 (by decide) ?_
                  refine lv_icmp_ge (tgt := 539) hx hb dL_law_514 (by decide) (fun c9 => ?_) (fun c9 => ?_)
                  · have hf := ip c9 hf
                    exact bL_law_539 C0 hK hZ hfl (fL_law_L147 xs L n) n ih _ _ _ _ _ _ _ _ _ _ _ _ (by omega) (by omega) hw hS (lv_sub hl [3, 4, 5, 6, 7, 8, 10, 1] rfl) hf
                  · have hf := iq c9 hf
                    exact bL_law_517 C0 hK hZ hfl (fL_law_L147 xs L n) n ih _ _ _ _ _ _ _ _ _ _ _ _ (by omega) (by omega) hw hS (lv_sub hl [3, 4, 5, 6, 7, 8, 10, 1] rfl) hf
                · have hf := ip c8 hf
                  exact bL_law_465 C0 hK hZ hfl (fL_law_L147 xs L n) n ih _ _ _ _ _ _ _ _ _ _ _ _ (by omega) (by omega) hw hS (lv_sub hl [3, 4, 5, 6, 7, 8, 10, 1] rfl) hf
              · have hf := ip c7 hf
                exact bL_law_410 C0 hK hZ hfl (fL_law_L147 xs L n) n ih _ _ _ _ _ _ _ _ _ _ _ _ (by omega) (by omega) hw hS (lv_sub hl [3, 4, 5, 6, 7, 8, 10, 1] rfl) hf
            · have hf := ip c6 hf
              exact bL_law_317 C0 hK hZ hfl (fL_law_L147 xs L n) n ih _ _ _ _ _ _ _ _ _ _ _ _ (by omega) (by omega) hw hS (lv_sub hl [3, 4, 5, 6, 7, 8, 10, 1] rfl) hf
          · have hf := ip c5 hf
            exact bL_law_239 C0 hK hZ hfl (fL_law_L147 xs L n) n ih _ _ _ _ _ _ _ _ _ _ _ _ (by omega) (by omega) hw hS (lv_sub hl [3, 4, 5, 6, 7, 8, 10, 1] rfl) hf
        · have hf := iq c4 hf
          exact bL_law_187 C0 hK hZ hfl (fL_law_L147 xs L n) n ih _ _ _ _ _ _ _ _ _ _ _ _ (by omega) (by omega) hw hS (lv_sub hl [3, 4, 5, 6, 7, 8, 10, 1] rfl) hf
set_option maxRecDepth 100000 in
set_option maxHeartbeats 4000000 in
theorem bL_law_114 {p : Program} {l : Launch} {e : Env} {s : State} {m : MethodId} {below : List Frame} {meth : Method} {c : Code} {D : va_G} {cy : Nat → ClassId} {b L : Nat} {xs : Nat → Int32} (C0 : lw_At p s m meth c b L xs) (hK : KS D cy s) (hZ : ZZ s.heap.size s s.heap) (hfl : l.stackTraces = false) : ∀ (x2 : Int32) (x3 : Int32) (x4 : Int32) (x5 : Int32) (x6 : Int32) (cells slots : Nat) (M : Mm) (H : Heap) (locs : List Loc) (ls : Array Slot), cells + (92414) ≤ 600086 → slots + (554484) ≤ 7301442 → HP D cy s.heap.size M H → va_S (Aq s.heap.size) s.heap H locs → lv_has ls 15 [(0, .ref b), (1, .ref (s.heap.size + 0)), (2, .int x2), (3, .int x3), (4, .int x4), (5, .int x5), (6, .int x6)] → narrow .boolean (.int x3) = .int x3 → narrow .boolean (.int x5) = .int x5 → narrow .boolean (.int x6) = .int x6 → fL_law_b114 xs L x2 x3 x4 x5 x6 M = some (1 : Int32) → W p l e room_1 s m #[Value.ref b] below meth c H locs cells slots (lw_Z below #[Value.ref b] s) (F0 m 114 ls []) := by
  obtain ⟨hx, hb, hr, hml, hown, hts0, hX, hbl, hlocks, hgv⟩ := id C0
  have hts : ∀ w ∈ wsL_law, w.before #[Value.ref b] s = true := fun w h => hts0 w (wsL_law_in w h)
  have hbA : ¬ Aq s.heap.size b := Nat.not_le.mpr hbl
  intro x2 x3 x4 x5 x6 cells slots M H locs ls hc1 hc2 hw hS hl hb3 hb5 hb6 hf
  unfold fL_law_b114 at hf
  refine lv_iload hx hb dL_law_114 (lv_at hl 6 rfl) ?_
  refine lv_if_eq (tgt := 140) hx hb dL_law_116 (by decide) (fun c1 => ?_) (fun c1 => ?_)
  · have hf := ip c1 hf
    refine lv_iconst (v := (0 : Int32)) hx hb dL_law_140 (by decide) ?_
    refine lv_istore (lv' := [(6, .int (0 : Int32)), (0, .ref b), (1, .ref (s.heap.size + 0)), (2, .int x2), (3, .int x3), (4, .int x4), (5, .int x5)]) hx hb dL_law_141 hl (Nat.le_of_ble_eq_true rfl) rfl (fun ls hl => ?_)
    refine lv_bipush (v := (7 : Int32)) hx hb dL_law_143 (by decide) ?_
    refine lv_istore (lv' := [(7, .int (7 : Int32)), (6, .int (0 : Int32)), (0, .ref b), (1, .ref (s.heap.size + 0)), (2, .int x2), (3, .int x3), (4, .int x4), (5, .int x5)]) hx hb dL_law_145 hl (Nat.le_of_ble_eq_true rfl) rfl (fun ls hl => ?_)
    exact bL_law_147 C0 hK hZ hfl 34 _ _ _ _ _ _ _ _ _ _ _ _ (by omega) (by omega) hw hS (lv_sub hl [2, 3, 4, 5, 6, 7, 1, 0] rfl) rfl hf
  · have hf := iq c1 hf
    refine lv_aload_n hx hb dL_law_119 rfl (lv_at hl 1 rfl) ?_
    refine lv_aload_n hx hb dL_law_120 rfl (lv_at hl 0 rfl) ?_
    refine lv_bipush (v := (6 : Int32)) hx hb dL_law_121 (by decide) ?_
    obtain ⟨o2, ho2, hf⟩ := ob hf
    refine rCallI (va_runS (As := [.ref b, .int (6 : Int32)]) (rest := [.ref (s.heap.size + 0)]) ⟨hx, hb, hml, hown, hts⟩ (ctL_drawn (l := l) (D := D) (cy := cy) (a := s.heap.size) (b := b) (L := L) (xs := xs) ho2) (va_cwS 2 hts gL_law_L_drawn rfl rfl rfl (by decide +kernel) ⟨Nat.le_of_ble_eq_true rfl, Nat.le_of_ble_eq_true rfl⟩) (pSX hK hZ hw hS hX hbl hbA) rfl rfl hl.1 rfl (lv_room (Nat.le_of_ble_eq_true rfl)) dL_law_123 ⟨(by show _ ≤ 600086; omega), (by show _ ≤ 7301442; omega)⟩) hS (fun H locs hw hS => ?_)
    refine lv_bipush (v := (6 : Int32)) hx hb dL_law_126 (by decide) ?_
    refine lv_irem hx hb dL_law_128 (by decide) ?_
    obtain ⟨o3, ho3, hf⟩ := ob hf
    refine rCallI (vx_runSW (hh := [(0, 5, 6, 23), (0, 5, 10, 17)]) (As := [.ref (s.heap.size + 0), .int (irem o2 (6 : Int32))]) (rest := []) ⟨hx, hb, hml, hown, hts⟩ (ctL_open (l := l) (D := D) (cy := cy) (a := s.heap.size) hfl ho3) (vx_cwSW 2 hts gL_law_L_open rfl rfl rfl (by decide +kernel) ⟨Nat.le_of_ble_eq_true rfl, Nat.le_of_ble_eq_true rfl⟩) (pS hK hZ hw hS) rfl rfl hl.1 rfl (lv_room (Nat.le_of_ble_eq_true rfl)) dL_law_129 ⟨(by show _ ≤ 600086; omega), (by show _ ≤ 7301442; omega)⟩) hS (fun H locs hw hS => ?_)
    refine lv_iload_n hx hb dL_law_132 rfl (lv_at hl 2 rfl) ?_
    refine lv_icmp_ne (tgt := 140) hx hb dL_law_133 (by decide) (fun c4 => ?_) (fun c4 => ?_)
    · have hf := iq c4 hf
      refine lv_iconst (v := (0 : Int32)) hx hb dL_law_140 (by decide) ?_
      refine lv_istore (lv' := [(6, .int (0 : Int32)), (0, .ref b), (1, .ref (s.heap.size + 0)), (2, .int x2), (3, .int x3), (4, .int x4), (5, .int x5)]) hx hb dL_law_141 hl (Nat.le_of_ble_eq_true rfl) rfl (fun ls hl => ?_)
      refine lv_bipush (v := (7 : Int32)) hx hb dL_law_143 (by decide) ?_
      refine lv_istore (lv' := [(7, .int (7 : Int32)), (6, .int (0 : Int32)), (0, .ref b), (1, .ref (s.heap.size + 0)), (2, .int x2), (3, .int x3), (4, .int x4), (5, .int x5)]) hx hb dL_law_145 hl (Nat.le_of_ble_eq_true rfl) rfl (fun ls hl => ?_)
      exact bL_law_147 C0 hK hZ hfl 34 _ _ _ _ _ _ _ _ _ _ _ _ (by omega) (by omega) hw hS (lv_sub hl [2, 3, 4, 5, 6, 7, 1, 0] rfl) rfl hf
    · have hf := ip c4 hf
      refine lv_iconst (v := (1 : Int32)) hx hb dL_law_136 (by decide) ?_
      refine lv_goto (tgt := 141) hx hb dL_law_137 (by decide) ?_
      refine lv_istore (lv' := [(6, .int (1 : Int32)), (0, .ref b), (1, .ref (s.heap.size + 0)), (2, .int x2), (3, .int x3), (4, .int x4), (5, .int x5)]) hx hb dL_law_141 hl (Nat.le_of_ble_eq_true rfl) rfl (fun ls hl => ?_)
      refine lv_bipush (v := (7 : Int32)) hx hb dL_law_143 (by decide) ?_
      refine lv_istore (lv' := [(7, .int (7 : Int32)), (6, .int (1 : Int32)), (0, .ref b), (1, .ref (s.heap.size + 0)), (2, .int x2), (3, .int x3), (4, .int x4), (5, .int x5)]) hx hb dL_law_145 hl (Nat.le_of_ble_eq_true rfl) rfl (fun ls hl => ?_)
      exact bL_law_147 C0 hK hZ hfl 34 _ _ _ _ _ _ _ _ _ _ _ _ (by omega) (by omega) hw hS (lv_sub hl [2, 3, 4, 5, 6, 7, 1, 0] rfl) rfl hf
set_option maxRecDepth 100000 in
set_option maxHeartbeats 4000000 in
theorem bL_law_32 {p : Program} {l : Launch} {e : Env} {s : State} {m : MethodId} {below : List Frame} {meth : Method} {c : Code} {D : va_G} {cy : Nat → ClassId} {b L : Nat} {xs : Nat → Int32} (C0 : lw_At p s m meth c b L xs) (hK : KS D cy s) (hZ : ZZ s.heap.size s s.heap) (hfl : l.stackTraces = false) : ∀ (n : Nat), ∀ (x2 : Int32) (x3 : Int32) (x4 : Int32) (x5 : Int32) (x6 : Int32) (x7 : Int32) (cells slots : Nat) (M : Mm) (H : Heap) (locs : List Loc) (ls : Array Slot), cells + (92414 + n * 4) ≤ 600086 → slots + (554484 + n * 24) ≤ 7301442 → HP D cy s.heap.size M H → va_S (Aq s.heap.size) s.heap H locs → lv_has ls 15 [(0, .ref b), (1, .ref (s.heap.size + 0)), (2, .int x2), (3, .int x3), (4, .int x4), (5, .int x5), (6, .int x6), (7, .int x7)] → narrow .boolean (.int x3) = .int x3 → narrow .boolean (.int x5) = .int x5 → narrow .boolean (.int x6) = .int x6 → fL_law_L32 xs L n x2 x3 x4 x5 x6 x7 M = some (1 : Int32) → W p l e room_1 s m #[Value.ref b] below meth c H locs cells slots (lw_Z below #[Value.ref b] s) (F0 m 32 ls []) := by
  obtain ⟨hx, hb, hr, hml, hown, hts0, hX, hbl, hlocks, hgv⟩ := id C0
  have hts : ∀ w ∈ wsL_law, w.before #[Value.ref b] s = true := fun w h => hts0 w (wsL_law_in w h)
  have hbA : ¬ Aq s.heap.size b := Nat.not_le.mpr hbl
  intro n
  induction n with
  | zero =>
    intro x2 x3 x4 x5 x6 x7 cells slots M H locs ls hc1 hc2 hw hS hl hb3 hb5 hb6 hf
    have hf : (none : Option (Int32)) = some (1 : Int32) := hf
    cases hf
  | succ n ih =>
    intro x2 x3 x4 x5 x6 x7 cells slots M H locs ls hc1 hc2 hw hS hl hb3 hb5 hb6 hf
    unfold fL_law_L32 at hf
    refine lv_iload hx hb dL_law_32 (lv_at hl 7 rfl) ?_
    refine lv_iload hx hb dL_law_34 (lv_at hl 4 rfl) ?_
    refine lv_icmp_ge (tgt := 114) hx hb dL_law_36 (by decide) (fun c1 => ?_) (fun c1 => ?_)
    · have hf := ip c1 hf
      exact bL_law_114 C0 hK hZ hfl _ _ _ _ _ _ _ _ _ _ _ (by omega) (by omega) hw hS (lv_sub hl [0, 1, 2, 3, 4, 5, 6] rfl) hb3 hb5 hb6 hf
    · have hf := iq c1 hf
      refine lv_iload hx hb dL_law_39 (lv_at hl 6 rfl) ?_
      refine lv_if_eq (tgt := 114) hx hb dL_law_41 (by decide) (fun c2 => ?_) (fun c2 => ?_)
      · have hf := ip c2 hf
        exact bL_law_114 C0 hK hZ hfl _ _ _ _ _ _ _ _ _ _ _ (by omega) (by omega) hw hS (lv_sub hl [0, 1, 2, 3, 4, 5, 6] rfl) hb3 hb5 hb6 hf
      · have hf := iq c2 hf
        refine lv_aload_n hx hb dL_law_44 rfl (lv_at hl 0 rfl) ?_
        refine lv_iconst (v := (1 : Int32)) hx hb dL_law_45 (by decide) ?_
        refine lv_iload hx hb dL_law_46 (lv_at hl 7 rfl) ?_
        refine lv_iadd hx hb dL_law_48 ?_
        obtain ⟨o3, ho3, hf⟩ := ob hf
        refine rCallI (va_runS (As := [.ref b, .int ((1 : Int32) + x7)]) (rest := []) ⟨hx, hb, hml, hown, hts⟩ (ctL_drawn (l := l) (D := D) (cy := cy) (a := s.heap.size) (b := b) (L := L) (xs := xs) ho3) (va_cwS 2 hts gL_law_L_drawn rfl rfl rfl (by decide +kernel) ⟨Nat.le_of_ble_eq_true rfl, Nat.le_of_ble_eq_true rfl⟩) (pSX hK hZ hw hS hX hbl hbA) rfl rfl hl.1 rfl (lv_room (Nat.le_of_ble_eq_true rfl)) dL_law_49 ⟨(by show _ ≤ 600086; omega), (by show _ ≤ 7301442; omega)⟩) hS (fun H locs hw hS => ?_)
        refine lv_istore (lv' := [(8, .int o3), (0, .ref b), (1, .ref (s.heap.size + 0)), (2, .int x2), (3, .int x3), (4, .int x4), (5, .int x5), (6, .int x6), (7, .int x7)]) hx hb dL_law_52 hl (Nat.le_of_ble_eq_true rfl) rfl (fun ls hl => ?_)
        refine lv_iload_n hx hb dL_law_54 rfl (lv_at hl 3 rfl) ?_
        refine lv_iconst (v := (5 : Int32)) hx hb dL_law_55 (by decide) ?_
        refine lv_iload hx hb dL_law_56 (lv_at hl 0 rfl) ?_
        refine lv_bipush (v := (20 : Int32)) hx hb dL_law_58 (by decide) ?_
        refine lv_irem hx hb dL_law_60 (by decide) ?_
        refine lv_iadd hx hb dL_law_61 ?_
        refine lv_iadd hx hb dL_law_62 ?_
        refine lv_istore_n (lv' := [(2, .int (x2 + ((5 : Int32) + (irem o3 (20 : Int32))))), (8, .int o3), (0, .ref b), (1, .ref (s.heap.size + 0)), (3, .int x3), (4, .int x4), (5, .int x5), (6, .int x6), (7, .int x7)]) hx hb dL_law_63 rfl hl (Nat.le_of_ble_eq_true rfl) rfl (fun ls hl => ?_)
        refine lv_aload_n hx hb dL_law_64 rfl (lv_at hl 3 rfl) ?_
        refine lv_iconst (v := (5 : Int32)) hx hb dL_law_65 (by decide) ?_
        refine lv_iload hx hb dL_law_66 (lv_at hl 1 rfl) ?_
        refine lv_bipush (v := (20 : Int32)) hx hb dL_law_68 (by decide) ?_
        refine lv_irem hx hb dL_law_70 (by decide) ?_
        refine lv_iadd hx hb dL_law_71 ?_
        refine lv_iload hx hb dL_law_72 (lv_at hl 1 rfl) ?_
        refine lv_bipush (v := (20 : Int32)) hx hb dL_law_74 (by decide) ?_
        refine lv_idiv hx hb dL_law_76 (by decide) ?_
        refine lv_bipush (v := (20 : Int32)) hx hb dL_law_77 (by decide) ?_
        refine lv_irem hx hb dL_law_79 (by decide) ?_
        refine lv_bipush (v := (100 : Int32)) hx hb dL_law_80 (by decide) ?_
        refine lv_iload hx hb dL_law_82 (lv_at hl 1 rfl) ?_
        refine lv_sipush (v := (400 : Int32)) hx hb dL_law_84 (by decide) ?_
        refine lv_idiv hx hb dL_law_87 (by decide) ?_
        refine lv_sipush (v := (300 : Int32)) hx hb dL_law_88 (by decide) ?_
        refine lv_irem hx hb dL_law_91 (by decide) ?_
        refine lv_iadd hx hb dL_law_92 ?_
        obtain ⟨o4, ho4, hf⟩ := ob hf
        refine rCallI (vx_runSW (hh := [(0, 7, 8, 15), (0, 7, 13, 17)]) (As := [.ref (s.heap.size + 0), .int ((5 : Int32) + (irem o3 (20 : Int32))), .int (irem (o3 / (20 : Int32)) (20 : Int32)), .int ((100 : Int32) + (irem (o3 / (400 : Int32)) (300 : Int32)))]) (rest := []) ⟨hx, hb, hml, hown, hts⟩ (ctL_segment (l := l) (D := D) (cy := cy) (a := s.heap.size) hfl ho4) (vx_cwSW 4 hts gL_law_L_segment rfl rfl rfl (by decide +kernel) ⟨Nat.le_of_ble_eq_true rfl, Nat.le_of_ble_eq_true rfl⟩) (pS hK hZ hw hS) rfl rfl hl.1 rfl (lv_room (Nat.le_of_ble_eq_true rfl)) dL_law_93 ⟨(by show _ ≤ 600086; omega), (by show _ ≤ 7301442; omega)⟩) hS (fun H locs hw hS => ?_)
        refine lv_iload hx hb dL_law_96 (lv_at hl 8 rfl) ?_
        refine lv_icmp_ne (tgt := 105) hx hb dL_law_98 (by decide) (fun c5 => ?_) (fun c5 => ?_)
        · have hf := iq c5 hf
          refine lv_iconst (v := (0 : Int32)) hx hb dL_law_105 (by decide) ?_
          refine lv_istore (lv' := [(6, .int (0 : Int32)), (2, .int (x2 + ((5 : Int32) + (irem o3 (20 : Int32))))), (8, .int o3), (0, .ref b), (1, .ref (s.heap.size + 0)), (3, .int x3), (4, .int x4), (5, .int x5), (7, .int x7)]) hx hb dL_law_106 hl (Nat.le_of_ble_eq_true rfl) rfl (fun ls hl => ?_)
          refine lv_iinc (v := x7 + (1 : Int32)) (lv' := [(7, .int (x7 + (1 : Int32))), (6, .int (0 : Int32)), (2, .int (x2 + ((5 : Int32) + (irem o3 (20 : Int32))))), (8, .int o3), (0, .ref b), (1, .ref (s.heap.size + 0)), (3, .int x3), (4, .int x4), (5, .int x5)]) hx hb dL_law_108 hl (k := 8) rfl rfl (Nat.le_of_ble_eq_true rfl) rfl (fun ls hl => ?_)
          refine lv_goto (tgt := 32) hx hb dL_law_111 (by decide) ?_
          exact ih _ _ _ _ _ _ _ _ _ _ _ _ (by omega) (by omega) hw hS (lv_sub hl [4, 5, 2, 6, 7, 8, 1, 0] rfl) hb3 hb5 rfl hf
        · have hf := ip c5 hf
          refine lv_iconst (v := (1 : Int32)) hx hb dL_law_101 (by decide) ?_
          refine lv_goto (tgt := 106) hx hb dL_law_102 (by decide) ?_
          refine lv_istore (lv' := [(6, .int (1 : Int32)), (2, .int (x2 + ((5 : Int32) + (irem o3 (20 : Int32))))), (8, .int o3), (0, .ref b), (1, .ref (s.heap.size + 0)), (3, .int x3), (4, .int x4), (5, .int x5), (7, .int x7)]) hx hb dL_law_106 hl (Nat.le_of_ble_eq_true rfl) rfl (fun ls hl => ?_)
          refine lv_iinc (v := x7 + (1 : Int32)) (lv' := [(7, .int (x7 + (1 : Int32))), (6, .int (1 : Int32)), (2, .int (x2 + ((5 : Int32) + (irem o3 (20 : Int32))))), (8, .int o3), (0, .ref b), (1, .ref (s.heap.size + 0)), (3, .int x3), (4, .int x4), (5, .int x5)]) hx hb dL_law_108 hl (k := 8) rfl rfl (Nat.le_of_ble_eq_true rfl) rfl (fun ls hl => ?_)
          refine lv_goto (tgt := 32) hx hb dL_law_111 (by decide) ?_
          exact ih _ _ _ _ _ _ _ _ _ _ _ _ (by omega) (by omega) hw hS (lv_sub hl [4, 5, 2, 6, 7, 8, 1, 0] rfl) hb3 hb5 rfl hf
set_option maxRecDepth 100000 in
set_option maxHeartbeats 4000000 in
theorem bL_law_8 {p : Program} {l : Launch} {e : Env} {s : State} {m : MethodId} {below : List Frame} {meth : Method} {c : Code} {D : va_G} {cy : Nat → ClassId} {b L : Nat} {xs : Nat → Int32} (C0 : lw_At p s m meth c b L xs) (hK : KS D cy s) (hZ : ZZ s.heap.size s s.heap) (hfl : l.stackTraces = false) : ∀ (cells slots : Nat) (M : Mm) (H : Heap) (locs : List Loc) (ls : Array Slot), cells + (92446) ≤ 600086 → slots + (554676) ≤ 7301442 → HP D cy s.heap.size M H → va_S (Aq s.heap.size) s.heap H locs → lv_has ls 15 [(0, .ref b), (1, .ref (s.heap.size + 0))] → fL_law_b8 xs L  M = some (1 : Int32) → W p l e room_1 s m #[Value.ref b] below meth c H locs cells slots (lw_Z below #[Value.ref b] s) (F0 m 8 ls []) := by
  obtain ⟨hx, hb, hr, hml, hown, hts0, hX, hbl, hlocks, hgv⟩ := id C0
  have hts : ∀ w ∈ wsL_law, w.before #[Value.ref b] s = true := fun w h => hts0 w (wsL_law_in w h)
  have hbA : ¬ Aq s.heap.size b := Nat.not_le.mpr hbl
  intro cells slots M H locs ls hc1 hc2 hw hS hl hf
  unfold fL_law_b8 at hf
  refine lv_iconst (v := (0 : Int32)) hx hb dL_law_8 (by decide) ?_
  refine lv_istore_n (lv' := [(2, .int (0 : Int32)), (0, .ref b), (1, .ref (s.heap.size + 0))]) hx hb dL_law_9 rfl hl (Nat.le_of_ble_eq_true rfl) rfl (fun ls hl => ?_)
  refine lv_iconst (v := (1 : Int32)) hx hb dL_law_10 (by decide) ?_
  refine lv_istore_n (lv' := [(3, .int (1 : Int32)), (2, .int (0 : Int32)), (0, .ref b), (1, .ref (s.heap.size + 0))]) hx hb dL_law_11 rfl hl (Nat.le_of_ble_eq_true rfl) rfl (fun ls hl => ?_)
  refine lv_iconst (v := (1 : Int32)) hx hb dL_law_12 (by decide) ?_
  refine lv_aload_n hx hb dL_law_13 rfl (lv_at hl 2 rfl) ?_
  refine lv_iconst (v := (0 : Int32)) hx hb dL_law_14 (by decide) ?_
  obtain ⟨o1, ho1, hf⟩ := ob hf
  refine rCallI (va_runS (As := [.ref b, .int (0 : Int32)]) (rest := [.int (1 : Int32)]) ⟨hx, hb, hml, hown, hts⟩ (ctL_drawn (l := l) (D := D) (cy := cy) (a := s.heap.size) (b := b) (L := L) (xs := xs) ho1) (va_cwS 2 hts gL_law_L_drawn rfl rfl rfl (by decide +kernel) ⟨Nat.le_of_ble_eq_true rfl, Nat.le_of_ble_eq_true rfl⟩) (pSX hK hZ hw hS hX hbl hbA) rfl rfl hl.1 rfl (lv_room (Nat.le_of_ble_eq_true rfl)) dL_law_15 ⟨(by show _ ≤ 600086; omega), (by show _ ≤ 7301442; omega)⟩) hS (fun H locs hw hS => ?_)
  refine lv_iconst (v := (4 : Int32)) hx hb dL_law_18 (by decide) ?_
  refine lv_irem hx hb dL_law_19 (by decide) ?_
  refine lv_iadd hx hb dL_law_20 ?_
  refine lv_istore (lv' := [(4, .int ((1 : Int32) + (irem o1 (4 : Int32)))), (3, .int (1 : Int32)), (2, .int (0 : Int32)), (0, .ref b), (1, .ref (s.heap.size + 0))]) hx hb dL_law_21 hl (Nat.le_of_ble_eq_true rfl) rfl (fun ls hl => ?_)
  refine lv_iconst (v := (0 : Int32)) hx hb dL_law_23 (by decide) ?_
  refine lv_istore (lv' := [(5, .int (0 : Int32)), (4, .int ((1 : Int32) + (irem o1 (4 : Int32)))), (3, .int (1 : Int32)), (2, .int (0 : Int32)), (0, .ref b), (1, .ref (s.heap.size + 0))]) hx hb dL_law_24 hl (Nat.le_of_ble_eq_true rfl) rfl (fun ls hl => ?_)
  refine lv_iconst (v := (1 : Int32)) hx hb dL_law_26 (by decide) ?_
  refine lv_istore (lv' := [(6, .int (1 : Int32)), (5, .int (0 : Int32)), (4, .int ((1 : Int32) + (irem o1 (4 : Int32)))), (3, .int (1 : Int32)), (2, .int (0 : Int32)), (0, .ref b), (1, .ref (s.heap.size + 0))]) hx hb dL_law_27 hl (Nat.le_of_ble_eq_true rfl) rfl (fun ls hl => ?_)
  refine lv_iconst (v := (0 : Int32)) hx hb dL_law_29 (by decide) ?_
  refine lv_istore (lv' := [(7, .int (0 : Int32)), (6, .int (1 : Int32)), (5, .int (0 : Int32)), (4, .int ((1 : Int32) + (irem o1 (4 : Int32)))), (3, .int (1 : Int32)), (2, .int (0 : Int32)), (0, .ref b), (1, .ref (s.heap.size + 0))]) hx hb dL_law_30 hl (Nat.le_of_ble_eq_true rfl) rfl (fun ls hl => ?_)
  exact bL_law_32 C0 hK hZ hfl 8 _ _ _ _ _ _ _ _ _ _ _ _ (by omega) (by omega) hw hS (lv_sub hl [6, 7, 5, 4, 3, 2, 1, 0] rfl) rfl rfl rfl hf
