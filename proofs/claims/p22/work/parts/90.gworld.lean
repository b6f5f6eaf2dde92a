/-! THE WORLD THAT GROWS: the first n cells, from address a on, with any entries -/
def GW (a n : Nat) (E : Nat → va_E) : va_W := (List.range n).map (fun k => (a + k, E k))
section Gw
variable {a n : Nat} {E : Nat → va_E}
theorem GW_at {k : Nat} (h : k < n) : (GW a n E)[k]? = some (a + k, E k) := by
  unfold GW
  rw [List.getElem?_map, List.getElem?_range h]
  rfl
theorem GW_len : (GW a n E).length = n := by
  unfold GW
  rw [List.length_map, List.length_range]
theorem GW_in {k : Nat} {q : Nat × va_E} (h : (GW a n E)[k]? = some q) : k < n := by
  have := (List.getElem?_eq_some_iff.mp h).1
  rw [GW_len] at this
  exact this
theorem GW_D : va_D (Aq a) (GW a n E) := by
  refine ⟨fun i j p q hi hj e => ?_, fun k q hk => ?_⟩
  · have h1 := GW_in hi
    have h2 := GW_in hj
    rw [GW_at h1] at hi
    rw [GW_at h2] at hj
    cases hi
    cases hj
    dsimp only at e
    omega
  · have h1 := GW_in hk
    rw [GW_at h1] at hk
    cases hk
    exact Nat.le_add_right a k
theorem GW_ext {w : va_W} (h1 : w.length = n) (h2 : ∀ k, k < n → w[k]? = some (a + k, E k)) : w = GW a n E := by
  apply List.ext_getElem?
  intro k
  rcases Nat.lt_or_ge k n with h | h
  · rw [h2 k h, GW_at h]
  · rw [List.getElem?_eq_none (by rw [h1]; exact h), List.getElem?_eq_none (by rw [GW_len]; exact h)]
theorem GW_set {k : Nat} {y : va_E} (h : k < n) : (GW a n E).set k (a + k, y) = GW a n (va_up E k y) := by
  refine GW_ext (by rw [List.length_set, GW_len]) (fun i hi => ?_)
  by_cases e : i = k
  · subst e
    rw [List.getElem?_set_self (by rw [GW_len]; exact hi), va_up_self]
  · rw [List.getElem?_set_ne (Ne.symm e), GW_at hi, va_up_ne _ _ e]
theorem GW_push {y : va_E} : GW a n E ++ [(a + n, y)] = GW a (n + 1) (va_up E n y) := by
  refine GW_ext (by rw [List.length_append, GW_len]; rfl) (fun i hi => ?_)
  by_cases e : i = n
  · subst e
    rw [List.getElem?_append_right (by rw [GW_len]; exact Nat.le_refl _), GW_len, Nat.sub_self, va_up_self]
    rfl
  · rw [List.getElem?_append_left (by rw [GW_len]; omega), GW_at (by omega), va_up_ne _ _ e]
theorem GW_c {E' : Nat → va_E} (h : ∀ k, k < n → E k = E' k) : GW a n E = GW a n E' := GW_ext GW_len (fun k hk => by rw [GW_at hk, h k hk])
theorem G_q {q : Nat} {x : va_E} (hD : va_D (Aq a) (GW a n E ++ [(q, x)])) (hlt : q < a + n + 1) : q = a + n := by
  have hn : (GW a n E ++ [(q, x)])[n]? = some (q, x) := by
    rw [List.getElem?_append_right (by rw [GW_len]; exact Nat.le_refl _), GW_len, Nat.sub_self]
    rfl
  have hq : a ≤ q := hD.2 n (q, x) hn
  rcases Nat.lt_or_ge q (a + n) with h | h
  · have hk : (GW a n E ++ [(q, x)])[q - a]? = some (a + (q - a), E (q - a)) := by
      rw [List.getElem?_append_left (by rw [GW_len]; omega), GW_at (by omega)]
    have := hD.1 (q - a) n _ _ hk hn (by dsimp only; omega)
    omega
  · omega
end Gw
abbrev GP (D : va_G) (a n : Nat) (E : Nat → va_E) (H : Heap) : Prop := va_P D vwCl (GW a n E) H
theorem GP_lt {D : va_G} {a n : Nat} {E : Nat → va_E} {H : Heap} (h : GP D a n E H) {k : Nat} (hk : k < n) : a + k < H.size := (h k _ (GW_at hk)).lt
section Gr
variable {p : Program} {l : Launch} {e : Env} {R : Room} {s : State} {m : MethodId} {args : Array Value} {below : List Frame} {meth : Method} {c : Code} {H : Heap} {locs : List Loc} {cells slots : Nat} {Q : State → Prop}
variable {cc : ByteArray} {pc : Nat} {ls : Array Slot} {rest : List Value} {D : va_G} {cy : Nat → ClassId} {a n : Nat} {E : Nat → va_E} {own : String} {Ts : List Cond}
theorem W_sz {g : JFrame} (kk : H.size ≤ s.heap.size + cells → W p l e R s m args below meth c H locs cells slots Q g) : W p l e R s m args below meth c H locs cells slots Q g := fun T hT X => kk (by rw [← hT]; exact X.heapSize) T hT X
theorem gNew (hx : p.tables.exec = Jvm.exec) (hb : c.code = cc) {C : String} {T : u_T} {N ci index : Nat} (hts : ∀ w ∈ Ts, w.before args s = true) (hin : ∀ w ∈ u_ws C T N, w ∈ Ts) (ty : Nat → FieldType) (hty : ∀ k, k < N → parseFieldDescriptor (T k).2.2.1 = some (ty k)) (hown : s.vm.findClass own = some m.cls) (hcl : (Cond.classLink own index C).before args s = true) (hinst : (Cond.instantiable C N).before args s = true) (hini : (Cond.initialized C).before args s = true)
    (hK : KS D cy s) (hw : GP D a n E H) (hS : va_S (Aq a) s.heap H locs) (ha : a ≤ s.heap.size) (hsz : s.heap.size + cells = a + n) (hc : vwCl[ci]? = some (C, T, N)) {fs : List Value} (hfs : ∀ j, j < N → defaultValue (ty j) = vp_V fs j) (hcells : cells + 1 ≤ R.cells) (hslots : slots + N ≤ R.slots) (hdg : decode cc pc = .ok (.new index, 3))
    (kk : ∀ (H1 : Heap), GP D a (n + 1) (va_up E n (.inr (ci, fs))) H1 → va_S (Aq a) s.heap H1 locs → W p l e R s m args below meth c H1 locs (cells + 1) (slots + N) Q (F0 m (pc + 3) ls (.ref (a + n) :: rest))) : W p l e R s m args below meth c H locs cells slots Q (F0 m pc ls rest) :=
  va_new hx hb hts hin ty hty hown hcl hinst hini hK.1 hw GW_D hS (fun q h => Nat.le_trans ha h) hc hfs hcells hslots hdg (fun q H1 hP hD hS1 => W_sz (fun hz => by
    have hlt : q < H1.size := (hP n _ (by rw [List.getElem?_append_right (by rw [GW_len]; exact Nat.le_refl _), GW_len, Nat.sub_self]; rfl)).lt
    have hq : q = a + n := G_q hD (by omega)
    subst hq
    rw [GW_push] at hP
    exact kk H1 hP hS1))
theorem gNewa {ty : FieldType} {t0 N' : Nat} (hx : p.tables.exec = Jvm.exec) (hb : c.code = cc) {atype : ArrayType} (harr : (Cond.arrayClass (newarray.typeOf atype)).before args s = true) (hty : newarray.typeOf atype = ty) (hK : KS D cy s) (ht : (tyL cy)[t0]? = some (cy t0, ty)) (hpr : ∀ cA : ClassId, va_RA s cA ty → s.vm.findClass ("[" ++ ty.toString) = some cA) (hw : GP D a n E H) (hS : va_S (Aq a) s.heap H locs) (ha : a ≤ s.heap.size) (hsz : s.heap.size + cells = a + n)
    {x : Int32} {a0 : vp_A} (ha0 : ∀ cA : ClassId, vp_cell cA a0 = arrV cA N' (fun _ => defaultValue ty)) (hn : ¬ x < 0) (hN : x.toNatClampNeg = N') (hbytes : N' * componentBytes ty ≤ 536870912) (hcells : cells + 1 ≤ R.cells) (hslots : slots + N' ≤ R.slots) (hdg : decode cc pc = .ok (.newarray atype, 2))
    (kk : ∀ (H1 : Heap), GP D a (n + 1) (va_up E n (.inl (cy t0, a0))) H1 → va_S (Aq a) s.heap H1 locs → W p l e R s m args below meth c H1 locs (cells + 1) (slots + N') Q (F0 m (pc + 2) ls (.ref (a + n) :: rest))) : W p l e R s m args below meth c H locs cells slots Q (F0 m pc ls (.int x :: rest)) :=
  va_newa hx hb harr hty hK.1 hw GW_D hS (fun q h => Nat.le_trans ha h) ha0 hn hN hbytes hcells hslots hdg (fun q cA H1 hK1 hP hD hS1 => W_sz (fun hz => by
    have hlt : q < H1.size := (hP n _ (by rw [List.getElem?_append_right (by rw [GW_len]; exact Nat.le_refl _), GW_len, Nat.sub_self]; rfl)).lt
    have hq : q = a + n := G_q hD (by omega)
    have h1 := hpr _ (hK.1.2 t0 _ ht).2
    have h2 := hpr _ (hK1.2 (tyL cy).length (cA, ty) (by rw [List.getElem?_append_right (Nat.le_refl _), Nat.sub_self]; rfl)).2
    have hc : cA = cy t0 := Option.some.inj (h2.symm.trans h1)
    subst hq
    subst hc
    rw [GW_push] at hP
    exact kk H1 hP hS1))
theorem gAnew (hx : p.tables.exec = Jvm.exec) (hb : c.code = cc) {C : String} {index t0 N' : Nat} (hown : s.vm.findClass own = some m.cls) (hclink : (Cond.classLink own index C).before args s = true) (hover : (Cond.arrayOver (.object C)).before args s = true) (hK : KS D cy s) (ht : (tyL cy)[t0]? = some (cy t0, .object C)) (hw : GP D a n E H) (hS : va_S (Aq a) s.heap H locs) (hn0 : 0 < n) (hsz : s.heap.size + cells = a + n) (ha : a ≤ s.heap.size)
    {x : Int32} (hn : ¬ x < 0) (hN : x.toNatClampNeg = N') (hbytes : N' * 4 ≤ 536870912) (hcells : cells + 1 ≤ R.cells) (hslots : slots + N' ≤ R.slots) (hdg : decode cc pc = .ok (.anewarray index, 3))
    (kk : ∀ (H1 : Heap), GP D a (n + 1) (va_up E n (.inl (cy t0, N', .inr (.inr (.inr (.inr (fun _ => none))))))) H1 → va_S (Aq a) s.heap H1 locs → W p l e R s m args below meth c H1 locs (cells + 1) (slots + N') Q (F0 m (pc + 3) ls (.ref (a + n) :: rest))) : W p l e R s m args below meth c H locs cells slots Q (F0 m pc ls (.int x :: rest)) := by
  subst hN
  refine W_sz (fun hz => W.anew hx hb hown hclink hover rfl hdg rfl hn hbytes hcells hslots fun cA kA comp h1 h2 h3 h4 => ?_)
  have hlo := GP_lt hw (show n - 1 < n by omega)
  have hHs : H.size = a + n := by omega
  obtain ⟨kA', comp', k1, k2, k3, k4⟩ := (hK.1.2 t0 _ ht).2
  have hc : cA = cy t0 := Option.some.inj (h1.symm.trans k4)
  subst hc
  have hkk : ∀ (k : Nat) (q : Nat × va_E), (GW a n E)[k]? = some q → (H.push { cls := cy t0, slots := Array.replicate x.toNatClampNeg .null, vm := .none })[q.1]? = H[q.1]? := fun k q hk => by
    have := (hw k q hk).lt
    rw [Array.getElem?_push, if_neg (Nat.ne_of_lt this)]
  rw [hHs]
  refine kk _ ?_ ⟨?_, fun q h5 h6 => ?_, hS.2.2⟩
  · show va_P D vwCl (GW a (n + 1) _) _
    rw [← GW_push]
    refine (hw.kept hkk).app (fun k q hk => ?_)
    have hz1 : k < 1 := (List.getElem?_eq_some_iff.mp hk).1
    rw [show k = 0 by omega] at hk
    cases hk
    show (H.push _)[a + n]? = some (vp_cell _ _)
    rw [vp_cell_q, ← hHs]
    show _ = some (arrV (cy t0) x.toNatClampNeg (fun _ => .null))
    rw [← arrV_new]
    simp
  · rw [Array.size_push]
    exact Nat.le_succ_of_le hS.1
  · have hq : q < H.size := Nat.lt_of_lt_of_le h5 hS.1
    rw [Array.getElem?_push, if_neg (Nat.ne_of_lt hq)]
    exact hS.2.1 q h5 h6
theorem gPut (hx : p.tables.exec = Jvm.exec) (hb : c.code = cc) {ref C : String} {T : u_T} {N ci index : Nat} (hts : ∀ w ∈ Ts, w.before args s = true) (hin : ∀ w ∈ u_ws C T N, w ∈ Ts) (ty0 : Nat → FieldType) (hty : ∀ k, k < N → parseFieldDescriptor (T k).2.2.1 = some (ty0 k)) (hnm : ∀ a, a < N → ∀ b, b < N → a ≠ b → (T a).2.1 ≠ (T b).2.1) (hown : s.vm.findClass own = some m.cls) (hK : KS D cy s) (hw : GP D a n E H) (hS : va_S (Aq a) s.heap H locs) {k : Nat} (hk : k < n) {fs : List Value} (he : E k = .inr (ci, fs)) (hc : vwCl[ci]? = some (C, T, N)) (j : Nat) (hj : j < N) (hlink : (Cond.fieldLink own index ref (T j).2.1 (T j).2.2.1).before args s = true) (href : (T j).1 = ref) (hfin : (T j).2.2.2 = false) {v : Value} (hn : narrow (ty0 j) v = v) (hfit : fits (ty0 j) v = true) (hl : j < fs.length) (hdg : decode cc pc = .ok (.putfield index, 3))
    (kk : ∀ (H1 : Heap) (locs1 : List Loc), GP D a n (va_up E k (.inr (ci, fs.set j v))) H1 → va_S (Aq a) s.heap H1 locs1 → W p l e R s m args below meth c H1 locs1 cells slots Q (F0 m (pc + 3) ls rest)) : W p l e R s m args below meth c H locs cells slots Q (F0 m pc ls (v :: .ref (a + k) :: rest)) :=
  va_put hx hb hts hin ty0 hty hnm hown hK.1 hw GW_D hS k (by rw [GW_at hk, he]) hc j hj hlink (fun x h => by rw [← href]; exact h) hfin (hty j hj) hn hfit hl hdg (fun H1 locs1 hP _ hS1 => kk H1 locs1 (by rw [GW_set hk] at hP; exact hP) hS1)
theorem gPutF (hx : p.tables.exec = Jvm.exec) (hb : c.code = cc) {ref C : String} {T : u_T} {N ci index : Nat} (hts : ∀ w ∈ Ts, w.before args s = true) (hin : ∀ w ∈ u_ws C T N, w ∈ Ts) (ty0 : Nat → FieldType) (hty : ∀ k, k < N → parseFieldDescriptor (T k).2.2.1 = some (ty0 k)) (hnm : ∀ a, a < N → ∀ b, b < N → a ≠ b → (T a).2.1 ≠ (T b).2.1) (hown : s.vm.findClass own = some m.cls) (hmn : meth.name = "<init>") (hK : KS D cy s) (hw : GP D a n E H) (hS : va_S (Aq a) s.heap H locs) {k : Nat} (hk : k < n) {fs : List Value} (he : E k = .inr (ci, fs)) (hc : vwCl[ci]? = some (C, T, N)) (j : Nat) (hj : j < N) (hlink : (Cond.fieldLink own index ref (T j).2.1 (T j).2.2.1).before args s = true) (href : (T j).1 = ref) (hfin : (T j).2.2.2 = true) (hdecl : (T j).1 = own) {v : Value} (hn : narrow (ty0 j) v = v) (hfit : fits (ty0 j) v = true) (hl : j < fs.length) (hdg : decode cc pc = .ok (.putfield index, 3))
    (kk : ∀ (H1 : Heap) (locs1 : List Loc), GP D a n (va_up E k (.inr (ci, fs.set j v))) H1 → va_S (Aq a) s.heap H1 locs1 → W p l e R s m args below meth c H1 locs1 cells slots Q (F0 m (pc + 3) ls rest)) : W p l e R s m args below meth c H locs cells slots Q (F0 m pc ls (v :: .ref (a + k) :: rest)) :=
  va_putF hx hb hts hin ty0 hty hnm hown hK.1 hw GW_D hS k (by rw [GW_at hk, he]) hc j hj hlink (fun x h => by rw [← href]; exact h) hfin hmn hdecl (hty j hj) hn hfit hl hdg (fun H1 locs1 hP _ hS1 => kk H1 locs1 (by rw [GW_set hk] at hP; exact hP) hS1)
theorem gGet (hx : p.tables.exec = Jvm.exec) (hb : c.code = cc) {ref C : String} {T : u_T} {N ci index : Nat} (hts : ∀ w ∈ Ts, w.before args s = true) (hin : ∀ w ∈ u_ws C T N, w ∈ Ts) (hown : s.vm.findClass own = some m.cls) (hK : KS D cy s) (hw : GP D a n E H) {k : Nat} (hk : k < n) {fs : List Value} (he : E k = .inr (ci, fs)) (hc : vwCl[ci]? = some (C, T, N)) (j : Nat) (hj : j < N) (hlink : (Cond.fieldLink own index ref (T j).2.1 (T j).2.2.1).before args s = true) (href : (T j).1 = ref) {v : Value} (hv : fs[j]? = some v) (hdg : decode cc pc = .ok (.getfield index, 3))
    (kk : W p l e R s m args below meth c H locs cells slots Q (F0 m (pc + 3) ls (v :: rest))) : W p l e R s m args below meth c H locs cells slots Q (F0 m pc ls (.ref (a + k) :: rest)) :=
  va_get hx hb hts hin hown hK.1 hw k (by rw [GW_at hk, he]) hc j hj hlink (fun x h => by rw [← href]; exact h) hv hdg kk
theorem gAst (hx : p.tables.exec = Jvm.exec) (hb : c.code = cc) (hK : KS D cy s) (hw : GP D a n E H) (hS : va_S (Aq a) s.heap H locs) {k q t0 ci N : Nat} {r : vw_C} {vs : List Value} {f : Nat → Option Nat} (hk : k < n) (hq : q < n) (he : E k = .inl (cy t0, N, .inr (.inr (.inr (.inr f))))) (ht : (tyL cy)[t0]? = some (cy t0, .object r.1)) (hv : E q = .inr (ci, vs)) (hc : vwCl[ci]? = some r) {i : Nat} (hi : i < N) (hi2 : i < 1000) (hdg : decode cc pc = .ok (.aastore, 1))
    (kk : ∀ (H1 : Heap) (locs1 : List Loc), GP D a n (va_up E k (.inl (cy t0, N, .inr (.inr (.inr (.inr (va_up f i (some (a + q))))))))) H1 → va_S (Aq a) s.heap H1 locs1 → W p l e R s m args below meth c H1 locs1 cells slots Q (F0 m (pc + 1) ls rest)) : W p l e R s m args below meth c H locs cells slots Q (F0 m pc ls (.ref (a + q) :: .int (nI i) :: .ref (a + k) :: rest)) :=
  va_astq hx hb hK.1 hw GW_D hS k t0 q ci (by rw [GW_at hk, he]) ht (by rw [GW_at hq, hv]) hc (show vp_in (nI i) N from by
    show ¬ (nI i < 0 ∨ N ≤ (nI i).toNatClampNeg)
    rw [nI_clamp (by omega), show (0 : Int32) = nI 0 from rfl, (propext (nI_ltI (by omega) (by omega)) : (nI i < nI 0) = (i < 0))]
    omega) hdg (fun H1 locs1 hP _ hS1 => kk H1 locs1 (by rw [GW_set hk, nI_clamp (by omega)] at hP; exact hP) hS1)
theorem gIast (hx : p.tables.exec = Jvm.exec) (hb : c.code = cc) (hK : KS D cy s) (hw : GP D a n E H) (hS : va_S (Aq a) s.heap H locs) {k N : Nat} {f : Nat → Int32} (hk : k < n) (he : E k = .inl (cy 0, N, .inl f)) {i : Nat} {x : Int32} (hi : i < N) (hi2 : i < 1000) (hdg : decode cc pc = .ok (.iastore, 1))
    (kk : ∀ (H1 : Heap) (locs1 : List Loc), GP D a n (va_up E k (.inl (cy 0, N, .inl (upd f i x)))) H1 → va_S (Aq a) s.heap H1 locs1 → W p l e R s m args below meth c H1 locs1 cells slots Q (F0 m (pc + 1) ls rest)) : W p l e R s m args below meth c H locs cells slots Q (F0 m pc ls (.int x :: .int (nI i) :: .ref (a + k) :: rest)) :=
  va_iast hx hb hK.1 hw GW_D hS k 0 (by rw [GW_at hk, he]) rfl (show vp_in (nI i) N from by
    show ¬ (nI i < 0 ∨ N ≤ (nI i).toNatClampNeg)
    rw [nI_clamp (by omega), show (0 : Int32) = nI 0 from rfl, (propext (nI_ltI (by omega) (by omega)) : (nI i < nI 0) = (i < 0))]
    omega) hdg (fun H1 locs1 hP _ hS1 => kk H1 locs1 (by rw [GW_set hk, nI_clamp (by omega)] at hP; exact hP) hS1)
end Gr
