/-! THE LAW FROM ITS ENTRY, ON THE CLASS ALONE -/
set_option maxRecDepth 100000 in
theorem zw_F : ∀ q ∈ nwF, Cond.fieldLinkNest RX5 q.1 q.2.1 q.2.2.1 q.2.2.2 RX5 ∈ lw_tbl := by decide +kernel
set_option maxRecDepth 100000 in
theorem zw_M : ∀ q ∈ nwM, Cond.methodLinkNest RX5 q.1 q.2 RX5 ∈ lw_tbl := by decide +kernel
set_option maxRecDepth 100000 in
theorem zw_C : ∀ q ∈ nwC, Cond.castable q q ∈ lw_tbl := by decide +kernel
set_option maxRecDepth 100000 in
theorem zw_D : ∀ q ∈ nwD, Cond.declares q ∈ lw_tbl := by decide +kernel
set_option maxRecDepth 100000 in
theorem zw_S : ∀ q ∈ nwS, Cond.stringRef RX5 q.1 q.2 ∈ lw_tbl := by decide +kernel
set_option maxRecDepth 100000 in
theorem zw_X : ∀ q ∈ nwX, Cond.not (.castable q.1 q.2) ∈ flatC (Jvm.Cond.and given_1 narrow_1) := by decide +kernel
theorem zw_int {s : State} {A : Array Value} {t : FieldType} (h : (Cond.arrayClass t).before A s = true) : ∃ c : ClassId, ArrOfT s c t ∧ s.vm.findClass ("[" ++ t.toString) = some c := by
  obtain ⟨c, k, comp, h1, h2, h3⟩ := Cond.arrayClass_spec h
  exact ⟨c, fun n z => ⟨fun k h => (by cases h), k, h2, comp, h3⟩, h1⟩
theorem zw_obj {s : State} {A : Array Value} {C : String} (h : (Cond.arrayOver (.object C)).before A s = true) : ∃ c : ClassId, ArrOfT s c (.object C) ∧ va_RA s c (.object C) := by
  obtain ⟨comp, c, k, h1, h2, h3, h4, h5⟩ := Cond.arrayOver_spec h
  exact ⟨c, fun n z => ⟨fun k h => (by cases h), k, h3, comp, h4⟩, k, comp, h3, h4, h1, h5⟩
set_option maxRecDepth 100000 in
theorem zw_K {s : State} {A : Array Value} (hts0 : ∀ w ∈ lw_tbl, w.before A s = true) (hgv : (Jvm.Cond.and given_1 narrow_1).before A s = true) : ∃ (D : va_G) (cy : Nat → ClassId), KS D cy s := by
  obtain ⟨c0, i0, k0⟩ := u_known (C := RX0) (T := TX0) (N := 13) (n := 13) hts0 lwx_0 (hts0 (.instantiable RX0 13) (by decide +kernel))
  obtain ⟨c1, i1, k1⟩ := u_known (C := RX1) (T := TX1) (N := 5) (n := 5) hts0 lwx_1 (hts0 (.instantiable RX1 5) (by decide +kernel))
  obtain ⟨c2, i2, k2⟩ := u_known (C := RX2) (T := TX2) (N := 7) (n := 7) hts0 lwx_2 (hts0 (.instantiable RX2 7) (by decide +kernel))
  obtain ⟨c3, i3, k3⟩ := u_known (C := RX3) (T := TX3) (N := 4) (n := 4) hts0 lwx_3 (hts0 (.instantiable RX3 4) (by decide +kernel))
  obtain ⟨c4, i4, k4⟩ := u_known (C := RX4) (T := TX4) (N := 4) (n := 4) hts0 lwx_4 (hts0 (.instantiable RX4 4) (by decide +kernel))
  obtain ⟨c5, i5, k5⟩ := u_known (C := RX5) (T := TX5) (N := 17) (n := 17) hts0 lwx_5 (hts0 (.instantiable RX5 17) (by decide +kernel))
  obtain ⟨a0, p0, r0⟩ := zw_int (hts0 (.arrayClass .int) (by decide +kernel))
  obtain ⟨a2, p2, r2⟩ := zw_obj (hts0 (.arrayOver (.object RX2)) (by decide +kernel))
  obtain ⟨a3, p3, r3⟩ := zw_obj (hts0 (.arrayOver (.object RX1)) (by decide +kernel))
  obtain ⟨a4, p4, r4⟩ := zw_obj (hts0 (.arrayOver (.object RX0)) (by decide +kernel))
  obtain ⟨a5, p5, r5⟩ := zw_obj (hts0 (.arrayOver (.object RX3)) (by decide +kernel))
  have hs := flat_of_before _ hgv
  refine ⟨(fun k => match k with | 0 => c0 | 1 => c1 | 2 => c2 | 3 => c3 | 4 => c4 | _ => c5, fun k => match k with | 0 => i0 | 1 => i1 | 2 => i2 | 3 => i3 | 4 => i4 | _ => i5), fun k => (match k with | 0 => a0 | 1 => a0 | 2 => a2 | 3 => a3 | 4 => a4 | _ => a5), ⟨fun k q hq => ?_, fun k q hq => ?_⟩, fun q hq => va_Nw.of rfl (hts0 _ (zw_F q hq)), fun q hq => va_Nw.of rfl (hts0 _ (zw_M q hq)), fun q hq => va_Nw.of rfl (hts0 _ (zw_C q hq)), fun q hq => va_Nw.of rfl (hts0 _ (zw_D q hq)), fun q hq => ?_, fun q hq => va_Nc.of (hs _ (zw_X q hq))⟩
  · have hk : k < 6 := (List.getElem?_eq_some_iff.mp hq).1
    rcases (show k = 0 ∨ k = 1 ∨ k = 2 ∨ k = 3 ∨ k = 4 ∨ k = 5 by omega) with rfl | rfl | rfl | rfl | rfl | rfl
    · cases hq; exact k0
    · cases hq; exact k1
    · cases hq; exact k2
    · cases hq; exact k3
    · cases hq; exact k4
    · cases hq; exact k5
  · have hk : k < 6 := (List.getElem?_eq_some_iff.mp hq).1
    rcases (show k = 0 ∨ k = 1 ∨ k = 2 ∨ k = 3 ∨ k = 4 ∨ k = 5 by omega) with rfl | rfl | rfl | rfl | rfl | rfl
    · cases hq; exact ⟨p0, r0⟩
    · cases hq; exact ⟨p0, r0⟩
    · cases hq; exact ⟨p2, r2⟩
    · cases hq; exact ⟨p3, r3⟩
    · cases hq; exact ⟨p4, r4⟩
    · cases hq; exact ⟨p5, r5⟩
  · have h1 := hts0 _ (zw_S q hq)
    obtain ⟨_, _, _, sa, _, _, _, _, _, he⟩ := Cond.stringRef_spec k5.2.1 h1
    exact ⟨sa, vk_R.of h1 he⟩
set_option maxRecDepth 100000 in
theorem zw_Z {s : State} {A : Array Value} (hts0 : ∀ w ∈ lw_tbl, w.before A s = true) (hgv : (Jvm.Cond.and given_1 narrow_1).before A s = true) : ZZ s.heap.size s s.heap :=
  ⟨vx_Zqof (args := A) (hts0 _ (by decide +kernel)) (hts0 _ (by decide +kernel)) (flat_of_before _ hgv _ (by decide +kernel)) (fun q h => Nat.not_le.mpr h), vx_Zqof (args := A) (hts0 _ (by decide +kernel)) (hts0 _ (by decide +kernel)) (flat_of_before _ hgv _ (by decide +kernel)) (fun q h => Nat.not_le.mpr h)⟩
set_option maxRecDepth 100000 in
theorem zw_O {s : State} {A : Array Value} (hts0 : ∀ w ∈ lw_tbl, w.before A s = true) : AO s := ⟨va_AO.of (hts0 _ (by decide +kernel)), va_AO.of (hts0 _ (by decide +kernel)), va_AO.of (hts0 _ (by decide +kernel)), va_AO.of (hts0 _ (by decide +kernel))⟩

theorem zw_5 : ∀ j, j < 17 → defaultValue (tyX5 j) = vp_V cPn j := fun j hj => by rcases (show j = 0 ∨ j = 1 ∨ j = 2 ∨ j = 3 ∨ j = 4 ∨ j = 5 ∨ j = 6 ∨ j = 7 ∨ j = 8 ∨ j = 9 ∨ j = 10 ∨ j = 11 ∨ j = 12 ∨ j = 13 ∨ j = 14 ∨ j = 15 ∨ j = 16 by omega) with rfl | rfl | rfl | rfl | rfl | rfl | rfl | rfl | rfl | rfl | rfl | rfl | rfl | rfl | rfl | rfl | rfl <;> rfl
set_option maxRecDepth 100000 in
set_option maxHeartbeats 4000000 in
theorem zw_a0 {p : Program} {e : Env} {s : State} {m : MethodId} {below : List Frame} {meth : Method} {c : Code} {l : Launch} {b L : Nat} {xs : Nat → Int32} {D : va_G} {cy : Nat → ClassId} {Q : State → Prop} (C0 : lw_At p s m meth c b L xs) (hK : KS D cy s) (hO : AO s) {ls : Array Slot} (K : ∀ (H : Heap) (locs : List Loc), GP D s.heap.size 1 (va_up (fun _ => .inr (0, [])) 0 (.inr (5, cPn))) H → va_S (Aq s.heap.size) s.heap H locs → W p l e room_1 s m #[Value.ref b] below meth c H locs (0 + 1) (0 + 17) Q (F0 m 3 ls [.ref (s.heap.size + 0)])) : W p l e room_1 s m #[Value.ref b] below meth c s.heap [] (0) (0) Q (F0 m 0 ls []) := by
  obtain ⟨hx, hb, hr, hml, hown, hts0, hX, hbl, hlocks, hgv⟩ := id C0
  have hts : ∀ w ∈ wsL_law, w.before #[Value.ref b] s = true := fun w h => hts0 w (wsL_law_in w h)
  have hS : va_S (Aq s.heap.size) s.heap s.heap [] := va_S.rf
  have hw : GP D s.heap.size 0 (fun _ => .inr (0, [])) s.heap := fun k q h => absurd (GW_in h) (Nat.not_lt_zero k)
  refine gNew (C := RX5) (T := TX5) (N := 17) (ci := 5) (fs := cPn) hx hb hts0 lwx_5 tyX5 tyX5_ok hown (hts0 (.classLink RL 10 RX5) (by decide +kernel)) (hts0 (.instantiable RX5 17) (by decide +kernel)) (hts0 (.initialized RX5) (by decide +kernel)) hK hw hS (Nat.le_refl _) rfl rfl zw_5 (Nat.le_of_ble_eq_true rfl) (Nat.le_of_ble_eq_true rfl) dL_law_0 (fun H hw hS => ?_)
  exact K H _ hw hS
set_option maxRecDepth 100000 in
set_option maxHeartbeats 4000000 in
theorem zw_a3 {p : Program} {e : Env} {s : State} {m : MethodId} {below : List Frame} {meth : Method} {c : Code} {l : Launch} {b L : Nat} {xs : Nat → Int32} {D : va_G} {cy : Nat → ClassId} {Q : State → Prop} (C0 : lw_At p s m meth c b L xs) (hK : KS D cy s) (hO : AO s) {ls : Array Slot} {H : Heap} {locs : List Loc} {E : Nat → va_E} (he : E 0 = .inr (5, cPn)) (hw : GP D s.heap.size 1 E H) (hS : va_S (Aq s.heap.size) s.heap H locs) (hl : lv_has ls 15 [(0, .ref b)]) (K : ∀ (H : Heap) (locs : List Loc) (ls : Array Slot), GP D s.heap.size 77 (EI cy s.heap.size (cP s.heap.size (.ref (s.heap.size + 33))) 6 6 40 4) H → va_S (Aq s.heap.size) s.heap H locs → lv_has ls 15 [(1, .ref (s.heap.size + 0)), (0, .ref b)] → W p l e room_1 s m #[Value.ref b] below meth c H locs (0 + 1 + 76) (0 + 17 + 1077) Q (F0 m 8 ls [])) : W p l e room_1 s m #[Value.ref b] below meth c H locs (0 + 1) (0 + 17) Q (F0 m 3 ls [.ref (s.heap.size + 0)]) := by
  obtain ⟨hx, hb, hr, hml, hown, hts0, hX, hbl, hlocks, hgv⟩ := id C0
  have hts : ∀ w ∈ wsL_law, w.before #[Value.ref b] s = true := fun w h => hts0 w (wsL_law_in w h)
  refine lv_dup hx hb dL_law_3 rfl ?_
  refine gSz hw (by decide) (by omega) (fun hz => ?_)
  refine gCall (va_runI (As := []) (rest := [.ref (s.heap.size + 0)]) ⟨hx, hb, hml, hown, hts⟩ (ctX5_init (l := l) (D := D) (cy := cy) (a := s.heap.size) he) (cwI 0 hts gL_law_X5_init rfl rfl rfl (hts0 (.initialized RX5) (by decide +kernel)) (hts0 (.methodLink RL 94 yX5_init) (by decide +kernel)) (hts0 (.instanceMethod yX5_init) (by decide +kernel)) rfl (by decide +kernel) ⟨Nat.le_of_ble_eq_true rfl, Nat.le_of_ble_eq_true rfl⟩) (g5S hK hO hw hz) rfl rfl hl.1 rfl (lv_room (Nat.le_of_ble_eq_true rfl)) dL_law_4 ⟨Nat.le_of_ble_eq_true rfl, Nat.le_of_ble_eq_true rfl⟩) hS (fun H locs hw hz hS => ?_)
  refine lv_astore_n (lv' := [(1, .ref (s.heap.size + 0)), (0, .ref b)]) hx hb dL_law_7 rfl hl (by decide) rfl (fun ls hl => ?_)
  exact K H locs ls hw hS hl
set_option maxRecDepth 100000 in
set_option maxHeartbeats 4000000 in
theorem whole_start {p : Program} {e : Env} {s : State} {m : MethodId} {below : List Frame} {meth : Method} {c : Code} (l : Launch) (hflags : l.flags = flags0) {b L : Nat} {xs : Nat → Int32} (hL : L ≤ 260) (C0 : lw_At p s m meth c b L xs) : W p l e room_1 s m #[Value.ref b] below meth c s.heap [] 0 0 (lw_Z below #[Value.ref b] s) (entryFrame m ([Value.ref b] : List Value).toArray 15) := by
  obtain ⟨hx, hb, hr, hml, hown, hts0, hX, hbl, hlocks, hgv⟩ := id C0
  have hfl : l.stackTraces = false := by
    unfold Launch.stackTraces
    rw [hflags]
    decide
  obtain ⟨D, cy, hK⟩ := zw_K hts0 hgv
  have hZ := zw_Z hts0 hgv
  have hO := zw_O hts0
  have hl := lv_entry ([.ref b]) (n := 15) (Nat.le_of_ble_eq_true rfl)
  rw [lg_entry_eq]
  generalize (lg_sl ([.ref b]) ++ List.replicate (15 - (lg_sl ([.ref b])).length) Slot.unset).toArray = ls at hl ⊢
  have hl : lv_has ls 15 [(0, .ref b)] := hl
  refine zw_a0 C0 hK hO (fun H locs hw hS => ?_)
  refine zw_a3 C0 hK hO (va_up_self _ _ _) hw hS hl (fun H locs ls hw hS hl => ?_)
  have hH : HP D cy s.heap.size M0 H := HP_00 hw
  refine bL_law_8 C0 hK hZ hfl _ _ M0 H locs ls ?_ ?_ hH hS (lv_sub hl [1, 0] rfl) (law_b8 hL SC_00)
  · exact Nat.le_of_ble_eq_true rfl
  · exact Nat.le_of_ble_eq_true rfl
