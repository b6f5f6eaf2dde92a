/-! THE LAW FROM ITS ENTRY: ALL -/
set_option maxRecDepth 100000 in
set_option maxHeartbeats 4000000 in
theorem zw_a16 {p : Program} {e : Env} {s : State} {m : MethodId} {below : List Frame} {meth : Method} {c : Code} {l : Launch} {b L : Nat} {xs : Nat → Int32} {D : va_G} {cy : Nat → ClassId} {Q : State → Prop} (C0 : lw_At p s m meth c b L xs) (hK : KS D cy s) (hO : AO s) {ls : Array Slot} {H : Heap} {locs : List Loc} {E : Nat → va_E} (hw : GP D s.heap.size 103 E H) (hS : va_S (Aq s.heap.size) s.heap H locs) (hl : lv_has ls 7 [(2, .ref (s.heap.size + 77)), (1, .ref (s.heap.size + 0)), (0, .ref b)]) (K : ∀ (H : Heap) (locs : List Loc) (ls : Array Slot), GP D s.heap.size 104 (va_up E 103 (.inl (cy 1, 1, .inr (.inl (fun _ => 0))))) H → va_S (Aq s.heap.size) s.heap H locs → lv_has ls 7 [(4, .int (nI 0)), (3, .ref (s.heap.size + 103)), (2, .ref (s.heap.size + 77)), (1, .ref (s.heap.size + 0)), (0, .ref b)] → W p l e room_1 s m #[Value.ref b] below meth c H locs (0 + 1 + 76 + 1 + 25 + 1) (0 + 17 + 1077 + 45 + 1225 + 1) Q (F0 m 23 ls [])) : W p l e room_1 s m #[Value.ref b] below meth c H locs (0 + 1 + 76 + 1 + 25) (0 + 17 + 1077 + 45 + 1225) Q (F0 m 16 ls []) := by
  obtain ⟨hx, hb, hr, hml, hown, hts0, hX, hbl, hlocks, hgv⟩ := id C0
  have hts : ∀ w ∈ wsL_law, w.before #[Value.ref b] s = true := fun w h => hts0 w (wsL_law_in w h)
  refine lv_iconst (v := (1 : Int32)) hx hb dL_law_16 (by decide) ?_
  refine gNewa (atype := .long) (ty := .long) (t0 := 1) (N' := 1) (a0 := (1, .inr (.inl (fun _ => 0)))) hx hb (hts0 (.arrayClass .long) (by decide +kernel)) rfl hK rfl (fun _ h => h) hw hS (Nat.le_refl _) rfl (fun _ => rfl) (by decide) rfl (Nat.le_of_ble_eq_true rfl) (Nat.le_of_ble_eq_true rfl) (Nat.le_of_ble_eq_true rfl) dL_law_17 (fun H hw hS => ?_)
  refine lv_astore_n (lv' := [(3, .ref (s.heap.size + 103)), (2, .ref (s.heap.size + 77)), (1, .ref (s.heap.size + 0)), (0, .ref b)]) hx hb dL_law_19 rfl hl (by decide) rfl (fun ls hl => ?_)
  refine lv_iconst (v := (0 : Int32)) hx hb dL_law_20 (by decide) ?_
  refine lv_istore (lv' := [(4, .int (nI 0)), (3, .ref (s.heap.size + 103)), (2, .ref (s.heap.size + 77)), (1, .ref (s.heap.size + 0)), (0, .ref b)]) hx hb dL_law_21 hl (by decide) rfl (fun ls hl => ?_)
  exact K H _ ls hw hS hl
set_option maxRecDepth 100000 in
set_option maxHeartbeats 4000000 in
theorem whole_start {p : Program} {e : Env} {s : State} {m : MethodId} {below : List Frame} {meth : Method} {c : Code} (l : Launch) (hflags : l.flags = flags0) {b L : Nat} {xs : Nat → Int32} (hL : L ≤ 3072) (C0 : lw_At p s m meth c b L xs) : W p l e room_1 s m #[Value.ref b] below meth c s.heap [] 0 0 (lw_Z below #[Value.ref b] s) (entryFrame m ([Value.ref b] : List Value).toArray 7) := by
  obtain ⟨hx, hb, hr, hml, hown, hts0, hX, hbl, hlocks, hgv⟩ := id C0
  have hfl : l.stackTraces = false := by
    unfold Launch.stackTraces
    rw [hflags]
    decide
  obtain ⟨D, cy, hK⟩ := zw_K hts0 hgv
  have hZ := zw_Z hts0 hgv
  have hO := zw_O hts0
  have hl := lv_entry ([.ref b]) (n := 7) (Nat.le_of_ble_eq_true rfl)
  rw [lg_entry_eq]
  generalize (lg_sl ([.ref b]) ++ List.replicate (7 - (lg_sl ([.ref b])).length) Slot.unset).toArray = ls at hl ⊢
  have hl : lv_has ls 7 [(0, .ref b)] := hl
  refine zw_a0 C0 hK hO (fun H locs hw hS => ?_)
  refine zw_a3 C0 hK hO (va_up_self _ _ _) hw hS hl (fun H locs ls hw hS hl => ?_)
  refine zw_a8 C0 hK hO hw hS (fun H locs hw hS => ?_)
  refine zw_a11 C0 hK hO (va_up_self _ _ _) hw hS hl (fun H locs ls hw hS hl => ?_)
  refine zw_a16 C0 hK hO hw hS hl (fun H locs ls hw hS hl => ?_)
  have hH : HP D cy s.heap.size M0 H := HP_00 hw
  refine bL_law_23 hL C0 hK hZ hfl 600 (nI 0) M0 H locs ls _ _ ?_ ?_ hH hS (lv_sub hl [4, 3, 2, 1, 0] rfl) (law_all hL 600 0 M0 (by omega) (by omega) (by omega) INV_00)
  · exact Nat.le_of_ble_eq_true rfl
  · exact Nat.le_of_ble_eq_true rfl
