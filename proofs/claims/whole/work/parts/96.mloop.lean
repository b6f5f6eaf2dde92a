/-! THE REFERENCE'S CONSTRUCTOR: ITS LOOPS, AND WHOLE -/
theorem rowJ_82 (i i2 : Nat) : rowJ (i + 1) i2 82 = upd (rowJ i i2 82) i 8 := filv (fun _ => 8) i
theorem rowJ_83 (i i2 : Nat) : rowJ (i + 1) i2 83 = upd (rowJ i i2 83) i 3 := filv (fun _ => 3) i
theorem rowJ_84 (i i2 : Nat) : rowJ (i + 1) i2 84 = upd (rowJ i i2 84) i (nI i) := filv nI i
theorem rowJ_93 (i1 i : Nat) : rowJ i1 (i + 1) 93 = upd (rowJ i1 i 93) i (-1) := filv (fun _ => -1) i
theorem rowJ_94 (i1 i : Nat) : rowJ i1 (i + 1) 94 = upd (rowJ i1 i 94) i (-1) := filv (fun _ => -1) i
theorem rowJ_96 (i1 i : Nat) : rowJ i1 (i + 1) 96 = upd (rowJ i1 i 96) i (-1) := filv (fun _ => -1) i
theorem rowJ_a {i j i2 k : Nat} (h1 : ¬ k = 82) (h2 : ¬ k = 83) (h3 : ¬ k = 84) : rowJ i i2 k = rowJ j i2 k := by
  unfold rowJ
  rw [if_neg h1, if_neg h2, if_neg h3, if_neg h1, if_neg h2, if_neg h3]
theorem rowJ_b {i j i1 k : Nat} (h1 : ¬ k = 93) (h2 : ¬ k = 94) (h3 : ¬ k = 96) : rowJ i1 i k = rowJ i1 j k := by
  unfold rowJ
  rw [if_neg (show ¬ (k = 93 ∨ k = 94 ∨ k = 96) by omega), if_neg (show ¬ (k = 93 ∨ k = 94 ∨ k = 96) by omega)]
section Ml
variable {p : Program} {l : Launch} {e : Env} {s : State} {m : MethodId} {args : Array Value} {below : List Frame} {meth : Method} {c : Code} {D : va_G} {cy : Nat → ClassId} {a : Nat} {Q : State → Prop}
set_option maxRecDepth 100000 in
set_option maxHeartbeats 4000000 in
theorem bX6_init_219 (hx : p.tables.exec = Jvm.exec) (hb : c.code = cX6_init) (hown : s.vm.findClass RX6 = some m.cls) (hts : ∀ w ∈ wsX6_init, w.before args s = true) (hK : KS D cy s) {E0 : Nat → va_E}
    (K : ∀ (H : Heap) (locs : List Loc) (ls : Array Slot), GP D a 103 (EJ cy a E0 6 0) H → va_S (Aq a) s.heap H locs → lv_has ls 2 [(1, .int (nI 6)), (0, .ref (a + 77))] → W p l e rI6 s m args below meth c H locs 25 1225 Q (F0 m 253 ls [])) : ∀ (r i : Nat) (H : Heap) (locs : List Loc) (ls : Array Slot), i + r = 6 → GP D a 103 (EJ cy a E0 i 0) H → va_S (Aq a) s.heap H locs → lv_has ls 2 [(1, .int (nI i)), (0, .ref (a + 77))] → W p l e rI6 s m args below meth c H locs 25 1225 Q (F0 m 219 ls []) := by
  intro r
  induction r with
  | zero =>
    intro i H locs ls hi hw hS hl
    have h6 : i = 6 := by omega
    subst h6
    refine lv_iload_n hx hb dX6_init_219 rfl (lv_at hl 0 rfl) ?_
    refine lv_bipush (v := (6 : Int32)) hx hb dX6_init_220 (by decide) ?_
    refine lv_icmp_ge (tgt := 253) hx hb dX6_init_222 (by decide) (fun c1 => ?_) (fun c1 => ?_)
    · exact K H locs ls hw hS hl
    · exact absurd (show (6 : Int32) ≤ nI 6 by decide) c1
  | succ r ih =>
    intro i H locs ls hi hw hS hl
    have h6 : i < 6 := by omega
    refine lv_iload_n hx hb dX6_init_219 rfl (lv_at hl 0 rfl) ?_
    refine lv_bipush (v := (6 : Int32)) hx hb dX6_init_220 (by decide) ?_
    refine lv_icmp_ge (tgt := 253) hx hb dX6_init_222 (by decide) (fun c1 => ?_) (fun c1 => ?_)
    · have c2 : nI 6 ≤ nI i := c1
      rw [cLe (by omega) (by omega)] at c2
      omega
    refine lv_aload_n hx hb dX6_init_225 rfl (lv_at hl 1 rfl) ?_
    refine gGet hx hb hts iX6_init_X6 hown hK hw (k := 77) (by omega) (fs := eModel a rM) (ci := 6) (by exact EJ_m) rfl 8 (by decide) (hts _ (by decide +kernel)) rfl rfl dX6_init_226 ?_
    refine lv_iload_n hx hb dX6_init_229 rfl (lv_at hl 0 rfl) ?_
    refine lv_bipush (v := (8 : Int32)) hx hb dX6_init_230 (by decide) ?_
    refine gIast (k := 82) (N := 6) (f := rowJ i 0 82) hx hb hK hw hS (by omega) (by exact EJ_r (by omega)) h6 (by omega) dX6_init_232 (fun H locs hw hS => ?_)
    refine lv_aload_n hx hb dX6_init_233 rfl (lv_at hl 1 rfl) ?_
    refine gGet hx hb hts iX6_init_X6 hown hK hw (k := 77) (by omega) (fs := eModel a rM) (ci := 6) (by rw [va_up_ne _ _ (by omega)]; exact EJ_m) rfl 9 (by decide) (hts _ (by decide +kernel)) rfl rfl dX6_init_234 ?_
    refine lv_iload_n hx hb dX6_init_237 rfl (lv_at hl 0 rfl) ?_
    refine lv_iconst (v := (3 : Int32)) hx hb dX6_init_238 (by decide) ?_
    refine gIast (k := 83) (N := 6) (f := rowJ i 0 83) hx hb hK hw hS (by omega) (by rw [va_up_ne _ _ (by omega)]; exact EJ_r (by omega)) h6 (by omega) dX6_init_239 (fun H locs hw hS => ?_)
    refine lv_aload_n hx hb dX6_init_240 rfl (lv_at hl 1 rfl) ?_
    refine gGet hx hb hts iX6_init_X6 hown hK hw (k := 77) (by omega) (fs := eModel a rM) (ci := 6) (by rw [va_up_ne _ _ (by omega), va_up_ne _ _ (by omega)]; exact EJ_m) rfl 10 (by decide) (hts _ (by decide +kernel)) rfl rfl dX6_init_241 ?_
    refine lv_iload_n hx hb dX6_init_244 rfl (lv_at hl 0 rfl) ?_
    refine lv_iload_n hx hb dX6_init_245 rfl (lv_at hl 0 rfl) ?_
    refine gIast (k := 84) (N := 6) (f := rowJ i 0 84) hx hb hK hw hS (by omega) (by rw [va_up_ne _ _ (by omega), va_up_ne _ _ (by omega)]; exact EJ_r (by omega)) h6 (by omega) dX6_init_246 (fun H locs hw hS => ?_)
    refine lv_iinc (v := nI i + 1) (lv' := [(1, .int (nI i + 1)), (0, .ref (a + 77))]) hx hb dX6_init_247 hl (k := 0) rfl rfl (Nat.le_of_ble_eq_true rfl) rfl (fun ls hl => ?_)
    refine lv_goto (tgt := 219) hx hb dX6_init_250 (by decide) ?_
    rw [Lt1, cAdd] at hl
    refine ih (i + 1) H locs ls (by omega) ?_ hS hl
    show va_P D vwCl (GW a 103 _) _
    rw [show GW a 103 (EJ cy a E0 (i + 1) 0) = _ from GW_c (fun k hk => ?_)]
    · exact hw
    · by_cases h84 : k = 84
      · subst h84
        rw [va_up_self, EJ_r (by omega)]
        exact congrArg (fun f => (Sum.inl (cy 0, mlen 84, Sum.inl f) : va_E)) (rowJ_84 i 0)
      rw [va_up_ne _ _ h84]
      by_cases h83 : k = 83
      · subst h83
        rw [va_up_self, EJ_r (by omega)]
        exact congrArg (fun f => (Sum.inl (cy 0, mlen 83, Sum.inl f) : va_E)) (rowJ_83 i 0)
      rw [va_up_ne _ _ h83]
      by_cases h82 : k = 82
      · subst h82
        rw [va_up_self, EJ_r (by omega)]
        exact congrArg (fun f => (Sum.inl (cy 0, mlen 82, Sum.inl f) : va_E)) (rowJ_82 i 0)
      rw [va_up_ne _ _ h82]
      by_cases h0 : k < 77
      · rw [EJ_0 h0, EJ_0 h0]
      by_cases h1 : k = 77
      · subst h1
        rfl
      rw [EJ_r (by omega), EJ_r (by omega), rowJ_a h82 h83 h84]

set_option maxRecDepth 100000 in
set_option maxHeartbeats 4000000 in
theorem bX6_init_255 (hx : p.tables.exec = Jvm.exec) (hb : c.code = cX6_init) (hown : s.vm.findClass RX6 = some m.cls) (hts : ∀ w ∈ wsX6_init, w.before args s = true) (hK : KS D cy s) {E0 : Nat → va_E}
    (K : ∀ (H : Heap) (locs : List Loc) (ls : Array Slot), GP D a 103 (EJ cy a E0 6 40) H → va_S (Aq a) s.heap H locs → lv_has ls 2 [(1, .int (nI 40)), (0, .ref (a + 77))] → W p l e rI6 s m args below meth c H locs 25 1225 Q (F0 m 288 ls [])) : ∀ (r i : Nat) (H : Heap) (locs : List Loc) (ls : Array Slot), i + r = 40 → GP D a 103 (EJ cy a E0 6 i) H → va_S (Aq a) s.heap H locs → lv_has ls 2 [(1, .int (nI i)), (0, .ref (a + 77))] → W p l e rI6 s m args below meth c H locs 25 1225 Q (F0 m 255 ls []) := by
  intro r
  induction r with
  | zero =>
    intro i H locs ls hi hw hS hl
    have h6 : i = 40 := by omega
    subst h6
    refine lv_iload_n hx hb dX6_init_255 rfl (lv_at hl 0 rfl) ?_
    refine lv_bipush (v := (40 : Int32)) hx hb dX6_init_256 (by decide) ?_
    refine lv_icmp_ge (tgt := 288) hx hb dX6_init_258 (by decide) (fun c1 => ?_) (fun c1 => ?_)
    · exact K H locs ls hw hS hl
    · exact absurd (show (40 : Int32) ≤ nI 40 by decide) c1
  | succ r ih =>
    intro i H locs ls hi hw hS hl
    have h6 : i < 40 := by omega
    refine lv_iload_n hx hb dX6_init_255 rfl (lv_at hl 0 rfl) ?_
    refine lv_bipush (v := (40 : Int32)) hx hb dX6_init_256 (by decide) ?_
    refine lv_icmp_ge (tgt := 288) hx hb dX6_init_258 (by decide) (fun c1 => ?_) (fun c1 => ?_)
    · have c2 : nI 40 ≤ nI i := c1
      rw [cLe (by omega) (by omega)] at c2
      omega
    refine lv_aload_n hx hb dX6_init_261 rfl (lv_at hl 1 rfl) ?_
    refine gGet hx hb hts iX6_init_X6 hown hK hw (k := 77) (by omega) (fs := eModel a rM) (ci := 6) (by exact EJ_m) rfl 20 (by decide) (hts _ (by decide +kernel)) rfl rfl dX6_init_262 ?_
    refine lv_iload_n hx hb dX6_init_265 rfl (lv_at hl 0 rfl) ?_
    refine lv_iconst (v := (-1 : Int32)) hx hb dX6_init_266 (by decide) ?_
    refine gIast (k := 93) (N := 40) (f := rowJ 6 i 93) hx hb hK hw hS (by omega) (by exact EJ_r (by omega)) h6 (by omega) dX6_init_267 (fun H locs hw hS => ?_)
    refine lv_aload_n hx hb dX6_init_268 rfl (lv_at hl 1 rfl) ?_
    refine gGet hx hb hts iX6_init_X6 hown hK hw (k := 77) (by omega) (fs := eModel a rM) (ci := 6) (by rw [va_up_ne _ _ (by omega)]; exact EJ_m) rfl 21 (by decide) (hts _ (by decide +kernel)) rfl rfl dX6_init_269 ?_
    refine lv_iload_n hx hb dX6_init_272 rfl (lv_at hl 0 rfl) ?_
    refine lv_iconst (v := (-1 : Int32)) hx hb dX6_init_273 (by decide) ?_
    refine gIast (k := 94) (N := 40) (f := rowJ 6 i 94) hx hb hK hw hS (by omega) (by rw [va_up_ne _ _ (by omega)]; exact EJ_r (by omega)) h6 (by omega) dX6_init_274 (fun H locs hw hS => ?_)
    refine lv_aload_n hx hb dX6_init_275 rfl (lv_at hl 1 rfl) ?_
    refine gGet hx hb hts iX6_init_X6 hown hK hw (k := 77) (by omega) (fs := eModel a rM) (ci := 6) (by rw [va_up_ne _ _ (by omega), va_up_ne _ _ (by omega)]; exact EJ_m) rfl 23 (by decide) (hts _ (by decide +kernel)) rfl rfl dX6_init_276 ?_
    refine lv_iload_n hx hb dX6_init_279 rfl (lv_at hl 0 rfl) ?_
    refine lv_iconst (v := (-1 : Int32)) hx hb dX6_init_280 (by decide) ?_
    refine gIast (k := 96) (N := 40) (f := rowJ 6 i 96) hx hb hK hw hS (by omega) (by rw [va_up_ne _ _ (by omega), va_up_ne _ _ (by omega)]; exact EJ_r (by omega)) h6 (by omega) dX6_init_281 (fun H locs hw hS => ?_)
    refine lv_iinc (v := nI i + 1) (lv' := [(1, .int (nI i + 1)), (0, .ref (a + 77))]) hx hb dX6_init_282 hl (k := 0) rfl rfl (Nat.le_of_ble_eq_true rfl) rfl (fun ls hl => ?_)
    refine lv_goto (tgt := 255) hx hb dX6_init_285 (by decide) ?_
    rw [Lt1, cAdd] at hl
    refine ih (i + 1) H locs ls (by omega) ?_ hS hl
    show va_P D vwCl (GW a 103 _) _
    rw [show GW a 103 (EJ cy a E0 6 (i + 1)) = _ from GW_c (fun k hk => ?_)]
    · exact hw
    · by_cases h96 : k = 96
      · subst h96
        rw [va_up_self, EJ_r (by omega)]
        exact congrArg (fun f => (Sum.inl (cy 0, mlen 96, Sum.inl f) : va_E)) (rowJ_96 6 i)
      rw [va_up_ne _ _ h96]
      by_cases h94 : k = 94
      · subst h94
        rw [va_up_self, EJ_r (by omega)]
        exact congrArg (fun f => (Sum.inl (cy 0, mlen 94, Sum.inl f) : va_E)) (rowJ_94 6 i)
      rw [va_up_ne _ _ h94]
      by_cases h93 : k = 93
      · subst h93
        rw [va_up_self, EJ_r (by omega)]
        exact congrArg (fun f => (Sum.inl (cy 0, mlen 93, Sum.inl f) : va_E)) (rowJ_93 6 i)
      rw [va_up_ne _ _ h93]
      by_cases h0 : k < 77
      · rw [EJ_0 h0, EJ_0 h0]
      by_cases h1 : k = 77
      · subst h1
        rfl
      rw [EJ_r (by omega), EJ_r (by omega), rowJ_b h93 h94 h96]

end Ml
set_option maxRecDepth 100000 in
set_option maxHeartbeats 4000000 in
theorem ctX6_init {l : Launch} {D : va_G} {cy : Nat → ClassId} {a : Nat} {E : Nat → va_E} (he : E 77 = .inr (6, cMn)) : Met l yX6_init wsX6_init rI6 (gPre D cy a 78 E [.ref (a + 77)]) (gPost D a 103 (EJ cy a E 6 40)) 25 1225 (Aq a) := by
  refine Met.ofW (cc := cX6_init) (maxL := 2) (ret := none) (by decide +kernel) rfl ?_
  intro p e s m args below meth c s₁ B hml hv
  obtain ⟨rfl, hw, hsz, hK⟩ := hv
  have hS : va_S (Aq a) s.heap s.heap [] := va_S.rf
  have hl := lv_entry ([.ref (a + 77)]) (n := 2) (Nat.le_of_ble_eq_true rfl)
  rw [lg_entry_eq]
  generalize (lg_sl ([.ref (a + 77)]) ++ List.replicate (2 - (lg_sl ([.ref (a + 77)])).length) Slot.unset).toArray = ls at hl ⊢
  have hx := B.exec
  have hb := B.bytes
  have hown := findClass_of_methodNamed B.named
  have hmn := (name_of_methodNamed B.named B.method).1
  have hts : ∀ w ∈ wsX6_init, w.before _ s = true := atoms_spec (ws := wsX6_init) B.pre
  refine bX6_init_0 (l := l) hx hb hml hown hmn hts hK hsz he hw hS hl (fun H locs hw hS => ?_)
  refine lv_iconst (v := (0 : Int32)) hx hb dX6_init_217 (by decide) ?_
  refine lv_istore_n (lv' := [(1, .int (nI 0)), (0, .ref (a + 77))]) hx hb dX6_init_218 rfl hl (Nat.le_of_ble_eq_true rfl) rfl (fun ls hl => ?_)
  refine bX6_init_219 (l := l) hx hb hown hts hK (fun H locs ls hw hS hl => ?_) 6 0 H locs ls rfl hw hS hl
  refine lv_iconst (v := (0 : Int32)) hx hb dX6_init_253 (by decide) ?_
  refine lv_istore_n (lv' := [(1, .int (nI 0)), (0, .ref (a + 77))]) hx hb dX6_init_254 rfl hl (Nat.le_of_ble_eq_true rfl) rfl (fun ls hl => ?_)
  refine bX6_init_255 (l := l) hx hb hown hts hK (fun H locs ls hw hS hl => ?_) 40 0 H locs ls rfl hw hS hl
  exact gVret hx hb B.returns B.notSynchronized hw hS (by omega) (by omega) dX6_init_288
