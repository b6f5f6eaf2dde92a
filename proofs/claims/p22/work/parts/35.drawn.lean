def rL_drawn : Room := { frames := 0, cells := 0, slots := 0, locals := 0 }
noncomputable def fL_drawn (xs : Nat → Int32) (L : Nat) (x1 : Int32) (M : Mm) : Option (Int32) := (if (Int32.ofNat L) ≤ x1 then some ((((39119 : Int32) * (irem x1 (7919 : Int32))) + (5077 : Int32)) &&& (2147483647 : Int32)) else (if ¬ (x1 < 0 ∨ L ≤ x1.toNatClampNeg) then some ((xs x1.toNatClampNeg) &&& (2147483647 : Int32)) else none))
set_option maxRecDepth 20000 in
theorem kL_drawn_0 : Cond.constant RL 7 (39119) ∈ wsL_drawn := by decide +kernel
set_option maxRecDepth 20000 in
theorem kL_drawn_1 : Cond.constant RL 8 (2147483647) ∈ wsL_drawn := by decide +kernel
set_option maxRecDepth 100000 in
set_option maxHeartbeats 4000000 in
theorem bL_drawn_0 {p : Program} {l : Launch} {e : Env} {s : State} {m : MethodId} {args : Array Value} {below : List Frame} {meth : Method} {c : Code} {D : va_G} {cy : Nat → ClassId} {a : Nat} {b L : Nat} {xs : Nat → Int32} (hx : p.tables.exec = Jvm.exec) (hb : c.code = cL_drawn) (hr : meth.sig.returnType = (some .int)) (hml : c.maxLocals = 2) (hown : s.vm.findClass RL = some m.cls) (hts : ∀ w ∈ wsL_drawn, w.before args s = true) (hlocks : meth.locks = false) (hK : KS D cy s) (hZ : ZZ a s s.heap) (hX : va_X b L xs s s.heap) (hbl : b < s.heap.size) (hbA : ¬ Aq a b) {out : Int32} : ∀ (x1 : Int32) (M : Mm) (H : Heap) (locs : List Loc) (ls : Array Slot), HP D cy a M H → va_S (Aq a) s.heap H locs → lv_has ls 2 [(0, .ref b), (1, .int x1)] → fL_drawn xs L x1 M = some out → W p l e rL_drawn s m args below meth c H locs 0 0 (MQ below (QI D cy a out M) args s 0 0 (Aq a)) (F0 m 0 ls []) := by
  intro x1 M H locs ls hw hS hl hf
  unfold fL_drawn at hf
  refine lv_iload_n hx hb dL_drawn_0 rfl (lv_at hl 1 rfl) ?_
  refine lv_aload_n hx hb dL_drawn_1 rfl (lv_at hl 0 rfl) ?_
  refine va_slen hx hb hX hbl hbA hS dL_drawn_2 ?_
  refine lv_icmp_ge (tgt := 12) hx hb dL_drawn_3 (by decide) (fun c1 => ?_) (fun c1 => ?_)
  · have hf := ip c1 hf
    refine lv_ldc (v := (39119 : Int32)) hx hb hown (hts _ kL_drawn_0) dL_drawn_12 ?_
    refine lv_iload_n hx hb dL_drawn_14 rfl (lv_at hl 1 rfl) ?_
    refine lv_sipush (v := (7919 : Int32)) hx hb dL_drawn_15 (by decide) ?_
    refine lv_irem hx hb dL_drawn_18 (by decide) ?_
    refine lv_imul hx hb dL_drawn_19 ?_
    refine lv_sipush (v := (5077 : Int32)) hx hb dL_drawn_20 (by decide) ?_
    refine lv_iadd hx hb dL_drawn_23 ?_
    refine lv_ldc (v := (2147483647 : Int32)) hx hb hown (hts _ kL_drawn_1) dL_drawn_24 ?_
    refine lv_iand hx hb dL_drawn_26 ?_
    obtain rfl := Option.some.inj hf
    exact rIret hx hb hr hlocks hw hS dL_drawn_27
  · have hf := iq c1 hf
    refine lv_aload_n hx hb dL_drawn_6 rfl (lv_at hl 0 rfl) ?_
    refine lv_iload_n hx hb dL_drawn_7 rfl (lv_at hl 1 rfl) ?_
    obtain ⟨hg2, hf⟩ := og hf
    refine va_sld hx hb hX hbl hbA hS hg2 dL_drawn_8 ?_
    refine lv_goto (tgt := 24) hx hb dL_drawn_9 (by decide) ?_
    refine lv_ldc (v := (2147483647 : Int32)) hx hb hown (hts _ kL_drawn_1) dL_drawn_24 ?_
    refine lv_iand hx hb dL_drawn_26 ?_
    obtain rfl := Option.some.inj hf
    exact rIret hx hb hr hlocks hw hS dL_drawn_27
section PSX
variable {s : State} {D : va_G} {cy : Nat → ClassId} {a : Nat} {M : Mm} {H : Heap} {locs : List Loc} {b L : Nat} {xs : Nat → Int32}
/-- a start with the script, which lies below the state -/
abbrev PreX (D : va_G) (cy : Nat → ClassId) (a : Nat) (M : Mm) (b L : Nat) (xs : Nat → Int32) (av : List Value) : Array Value → State → Prop := va_Pc av (fun U => WT D cy a M U ∧ va_X b L xs U U.heap ∧ b < U.heap.size ∧ ¬ Aq a b)
theorem pBlindX {av : List Value} : FrameBlind (PreX D cy a M b L xs av) := fun U g mk av h => ⟨h.1, WT.calling h.2.1, va_X.moved (Vm.Alike.refl _) h.2.2.1, h.2.2.2.1, h.2.2.2.2⟩
theorem pSX (hK : KS D cy s) (hZ : ZZ a s s.heap) (hw : HP D cy a M H) (hS : va_S (Aq a) s.heap H locs) (hX : va_X b L xs s s.heap) (hbl : b < s.heap.size) (hbA : ¬ Aq a b) {As : List Value} : PreS s H (PreX D cy a M b L xs As) As :=
  ⟨pBlindX, fun _ hU hW => ⟨rfl, WT.of hw hK hZ hS hU hW, by rw [hU]; exact va_X.moved hW.alike (va_X.kept hX (hS.2.1 b hbl hbA)), by rw [hU]; exact Nat.lt_of_lt_of_le hbl hS.1, hbA⟩⟩
end PSX
set_option maxRecDepth 100000 in
theorem ctL_drawn {l : Launch} {D : va_G} {cy : Nat → ClassId} {a b L : Nat} {xs : Nat → Int32} {x1 : Int32} {M : Mm} {out : Int32} (hf : fL_drawn xs L x1 M = some out) : Met l yL_drawn wsL_drawn rL_drawn (PreX D cy a M b L xs [.ref b, .int x1]) (QI D cy a out M) 0 0 (Aq a) := by
  refine Met.ofW (cc := cL_drawn) (maxL := 2) (ret := (some .int)) (by decide +kernel) rfl ?_
  intro p e s m args below meth c s₁ B hml hv
  obtain ⟨rfl, ⟨hw, hK, hZ⟩, hX, hbl, hbA⟩ := hv
  have hS : va_S (Aq a) s.heap s.heap [] := va_S.rf
  have hl := lv_entry ([.ref b, .int x1]) (n := 2) (Nat.le_of_ble_eq_true rfl)
  rw [lg_entry_eq]
  generalize (lg_sl ([.ref b, .int x1]) ++ List.replicate (2 - (lg_sl ([.ref b, .int x1])).length) Slot.unset).toArray = ls at hl ⊢
  exact bL_drawn_0 B.exec B.bytes B.returns hml (findClass_of_methodNamed B.named) (atoms_spec (ws := wsL_drawn) B.pre) B.notSynchronized hK hZ hX hbl hbA _ _ _ _ _ hw hS hl hf
