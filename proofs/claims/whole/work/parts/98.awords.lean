/-! THE LAW FROM ITS ENTRY -/
set_option maxRecDepth 100000 in
theorem zw_F : ∀ q ∈ nwF, Cond.fieldLinkNest RX5 q.1 q.2.1 q.2.2.1 q.2.2.2 RX5 ∈ lw_tbl := by decide +kernel
set_option maxRecDepth 100000 in
theorem zw_M : ∀ q ∈ nwM, Cond.methodLinkNest RX5 q.1 q.2 RX5 ∈ lw_tbl := by decide +kernel
set_option maxRecDepth 100000 in
theorem zw_C : ∀ q ∈ nwC, Cond.castable q q ∈ lw_tbl := by decide +kernel
set_option maxRecDepth 100000 in
theorem zw_D : ∀ q ∈ nwD, Cond.declares q ∈ lw_tbl := by decide +kernel
set_option maxRecDepth 100000 in
theorem zw_S : ∀ q ∈ nwS, Cond.stringRef RX5 q.1 q.2 ∈ lw_tbl := by decide +kernel
set_option maxRecDepth 100000 in
theorem zw_X : ∀ q ∈ nwX, Cond.not (.castable q.1 q.2) ∈ flatC (Jvm.Cond.and given_1 narrow_1) := by decide +kernel
theorem zw_int {s : State} {A : Array Value} {t : FieldType} (h : (Cond.arrayClass t).before A s = true) : ∃ c : ClassId, ArrOfT s c t ∧ s.vm.findClass ("[" ++ t.toString) = some c := by
  obtain ⟨c, k, comp, h1, h2, h3⟩ := Cond.arrayClass_spec h
  exact ⟨c, fun n z => ⟨fun k h => (by cases h), k, h2, comp, h3⟩, h1⟩
theorem zw_obj {s : State} {A : Array Value} {C : String} (h : (Cond.arrayOver (.object C)).before A s = true) : ∃ c : ClassId, ArrOfT s c (.object C) ∧ va_RA s c (.object C) := by
  obtain ⟨comp, c, k, h1, h2, h3, h4, h5⟩ := Cond.arrayOver_spec h
  exact ⟨c, fun n z => ⟨fun k h => (by cases h), k, h3, comp, h4⟩, k, comp, h3, h4, h1, h5⟩
set_option maxRecDepth 100000 in
theorem zw_K {s : State} {A : Array Value} (hts0 : ∀ w ∈ lw_tbl, w.before A s = true) (hgv : (Jvm.Cond.and given_1 narrow_1).before A s = true) : ∃ (D : va_G) (cy : Nat → ClassId), KS D cy s := by
  obtain ⟨c0, i0, k0⟩ := u_known (C := RX0) (T := TX0) (N := 13) (n := 13) hts0 lwx_0 (hts0 (.instantiable RX0 13) (by decide +kernel))
  obtain ⟨c1, i1, k1⟩ := u_known (C := RX1) (T := TX1) (N := 5) (n := 5) hts0 lwx_1 (hts0 (.instantiable RX1 5) (by decide +kernel))
  obtain ⟨c2, i2, k2⟩ := u_known (C := RX2) (T := TX2) (N := 7) (n := 7) hts0 lwx_2 (hts0 (.instantiable RX2 7) (by decide +kernel))
  obtain ⟨c3, i3, k3⟩ := u_known (C := RX3) (T := TX3) (N := 4) (n := 4) hts0 lwx_3 (hts0 (.instantiable RX3 4) (by decide +kernel))
  obtain ⟨c4, i4, k4⟩ := u_known (C := RX4) (T := TX4) (N := 4) (n := 4) hts0 lwx_4 (hts0 (.instantiable RX4 4) (by decide +kernel))
  obtain ⟨c5, i5, k5⟩ := u_known (C := RX5) (T := TX5) (N := 17) (n := 17) hts0 lwx_5 (hts0 (.instantiable RX5 17) (by decide +kernel))
  obtain ⟨c6, i6, k6⟩ := u_known (C := RX6) (T := TX6) (N := 45) (n := 45) hts0 lwx_6 (hts0 (.instantiable RX6 45) (by decide +kernel))
  obtain ⟨a0, p0, r0⟩ := zw_int (hts0 (.arrayClass .int) (by decide +kernel))
  obtain ⟨a1, p1, r1⟩ := zw_int (hts0 (.arrayClass .long) (by decide +kernel))
  obtain ⟨a2, p2, r2⟩ := zw_obj (hts0 (.arrayOver (.object RX2)) (by decide +kernel))
  obtain ⟨a3, p3, r3⟩ := zw_obj (hts0 (.arrayOver (.object RX1)) (by decide +kernel))
  obtain ⟨a4, p4, r4⟩ := zw_obj (hts0 (.arrayOver (.object RX0)) (by decide +kernel))
  obtain ⟨a5, p5, r5⟩ := zw_obj (hts0 (.arrayOver (.object RX3)) (by decide +kernel))
  have hs := flat_of_before _ hgv
  refine ⟨(fun k => match k with | 0 => c0 | 1 => c1 | 2 => c2 | 3 => c3 | 4 => c4 | 5 => c5 | _ => c6, fun k => match k with | 0 => i0 | 1 => i1 | 2 => i2 | 3 => i3 | 4 => i4 | 5 => i5 | _ => i6), fun k => (match k with | 0 => a0 | 1 => a1 | 2 => a2 | 3 => a3 | 4 => a4 | _ => a5), ⟨fun k q hq => ?_, fun k q hq => ?_⟩, fun q hq => va_Nw.of rfl (hts0 _ (zw_F q hq)), fun q hq => va_Nw.of rfl (hts0 _ (zw_M q hq)), fun q hq => va_Nw.of rfl (hts0 _ (zw_C q hq)), fun q hq => va_Nw.of rfl (hts0 _ (zw_D q hq)), fun q hq => ?_, fun q hq => va_Nc.of (hs _ (zw_X q hq))⟩
  · have hk : k < 7 := (List.getElem?_eq_some_iff.mp hq).1
    rcases (show k = 0 ∨ k = 1 ∨ k = 2 ∨ k = 3 ∨ k = 4 ∨ k = 5 ∨ k = 6 by omega) with rfl | rfl | rfl | rfl | rfl | rfl | rfl
    · cases hq; exact k0
    · cases hq; exact k1
    · cases hq; exact k2
    · cases hq; exact k3
    · cases hq; exact k4
    · cases hq; exact k5
    · cases hq; exact k6
  · have hk : k < 6 := (List.getElem?_eq_some_iff.mp hq).1
    rcases (show k = 0 ∨ k = 1 ∨ k = 2 ∨ k = 3 ∨ k = 4 ∨ k = 5 by omega) with rfl | rfl | rfl | rfl | rfl | rfl
    · cases hq; exact ⟨p0, r0⟩
    · cases hq; exact ⟨p1, r1⟩
    · cases hq; exact ⟨p2, r2⟩
    · cases hq; exact ⟨p3, r3⟩
    · cases hq; exact ⟨p4, r4⟩
    · cases hq; exact ⟨p5, r5⟩
  · have h1 := hts0 _ (zw_S q hq)
    obtain ⟨_, _, _, sa, _, _, _, _, _, he⟩ := Cond.stringRef_spec k5.2.1 h1
    exact ⟨sa, vk_R.of h1 he⟩
set_option maxRecDepth 100000 in
theorem zw_Z {s : State} {A : Array Value} (hts0 : ∀ w ∈ lw_tbl, w.before A s = true) (hgv : (Jvm.Cond.and given_1 narrow_1).before A s = true) : ZZ s.heap.size s s.heap :=
  ⟨vx_Zqof (args := A) (hts0 _ (by decide +kernel)) (hts0 _ (by decide +kernel)) (flat_of_before _ hgv _ (by decide +kernel)) (fun q h => Nat.not_le.mpr h), vx_Zqof (args := A) (hts0 _ (by decide +kernel)) (hts0 _ (by decide +kernel)) (flat_of_before _ hgv _ (by decide +kernel)) (fun q h => Nat.not_le.mpr h)⟩
set_option maxRecDepth 100000 in
theorem zw_O {s : State} {A : Array Value} (hts0 : ∀ w ∈ lw_tbl, w.before A s = true) : AO s := ⟨va_AO.of (hts0 _ (by decide +kernel)), va_AO.of (hts0 _ (by decide +kernel)), va_AO.of (hts0 _ (by decide +kernel)), va_AO.of (hts0 _ (by decide +kernel))⟩
