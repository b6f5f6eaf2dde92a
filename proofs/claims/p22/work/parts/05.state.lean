/-! THE STATE: the class's 77 cells in a row from address a on; M.1 k j is the int in place j of cell k, M.2 k j the reference there (the number of a product or of a batch) -/
abbrev Mm : Type := (Nat → Nat → Int32) × (Nat → Nat → Option Nat)
def gi (M : Mm) (k j : Nat) : Int32 := M.1 k j
def gr (M : Mm) (k j : Nat) : Option Nat := M.2 k j
def si (M : Mm) (k j : Nat) (x : Int32) : Mm := (fun i => if i = k then upd (M.1 k) j x else M.1 i, M.2)
def sr (M : Mm) (k j : Nat) (x : Option Nat) : Mm := (M.1, fun i => if i = k then va_up (M.2 k) j x else M.2 i)
def rfo (a base : Nat) (o : Option Nat) : Value := va_rf (o.map (fun i => a + (base + i)))
def eBatch (a : Nat) (r : Nat → Int32) (g : Nat → Option Nat) : List Value := [.int (r 0), rfo a 27 (g 1), .int (r 2), .int (r 3), .int (r 4), .int (r 5), .int (r 6), .int (r 7), rfo a 33 (g 8), rfo a 33 (g 9), .int (r 10), .int (r 11), .int (r 12)]
def eProd (r : Nat → Int32) : List Value := [.int (r 0), .int (r 1), .int (r 2), .int (r 3), .int (r 4)]
def eSeg (a i : Nat) (r : Nat → Int32) : List Value := [.ref (a + (10 + 3 * i)), .ref (a + (11 + 3 * i)), .int (r 2), .int (r 3), .int (r 4), .int (r 5), .int (r 6)]
def eFour (r : Nat → Int32) : List Value := [.int (r 0), .int (r 1), .int (r 2), .int (r 3)]
def ePipe (a : Nat) (r : Nat → Int32) (g : Nat → Option Nat) : List Value := [.ref (a + 1), .ref (a + 2), .ref (a + 3), .ref (a + 4), .ref (a + 5), .ref (a + (6 + 0)), .ref (a + (6 + 1)), .ref (a + (6 + 2)), .int (r 8), .int (r 9), .int (r 10), rfo a 33 (g 11), .int (r 12), .int (r 13), .int (r 14), .int (r 15), .int (r 16)]
/-- the entry of cell k -/
def ent (cy : Nat → ClassId) (a : Nat) (r : Nat → Int32) (g : Nat → Option Nat) (k : Nat) : va_E :=
  if k < 9 then (match k with
    | 0 => .inr (5, ePipe a r g)
    | 1 => .inl (cy 2, 6, .inr (.inr (.inr (.inr (fun j => some (a + (9 + 3 * j)))))))
    | 2 => .inl (cy 3, 6, .inr (.inr (.inr (.inr (fun j => some (a + (27 + j)))))))
    | 3 => .inl (cy 4, 40, .inr (.inr (.inr (.inr (fun j => some (a + (33 + j)))))))
    | 4 => .inl (cy 5, 4, .inr (.inr (.inr (.inr (fun j => some (a + (73 + j)))))))
    | 5 => .inl (cy 0, 5, .inl r)
    | _ => .inr (4, eFour r))
  else if k < 27 then (if (k - 9) % 3 = 0 then .inr (2, eSeg a ((k - 9) / 3) r) else if (k - 9) % 3 = 1 then .inl (cy 0, 60, .inl r) else .inl (cy 0, 6, .inl r))
  else if k < 33 then .inr (1, eProd r)
  else if k < 73 then .inr (0, eBatch a r g)
  else if k < 77 then .inr (3, eFour r)
  else .inl (cy 0, 5, .inl r)
section Ents
variable {cy : Nat → ClassId} {a : Nat} {r : Nat → Int32} {g : Nat → Option Nat}
theorem en_pipe : ent cy a r g 0 = .inr (5, ePipe a r g) := rfl
theorem en_segs : ent cy a r g 1 = .inl (cy 2, 6, .inr (.inr (.inr (.inr (fun j => some (a + (9 + 3 * j))))))) := rfl
theorem en_prods : ent cy a r g 2 = .inl (cy 3, 6, .inr (.inr (.inr (.inr (fun j => some (a + (27 + j))))))) := rfl
theorem en_bats : ent cy a r g 3 = .inl (cy 4, 40, .inr (.inr (.inr (.inr (fun j => some (a + (33 + j))))))) := rfl
theorem en_tanks : ent cy a r g 4 = .inl (cy 5, 4, .inr (.inr (.inr (.inr (fun j => some (a + (73 + j))))))) := rfl
theorem en_bal : ent cy a r g 5 = .inl (cy 0, 5, .inl r) := rfl
theorem en_tap {t : Nat} (h : t < 3) : ent cy a r g (6 + t) = .inr (4, eFour r) := by
  rcases (show t = 0 ∨ t = 1 ∨ t = 2 by omega) with rfl | rfl | rfl <;> rfl
theorem en_seg {i : Nat} (h : i < 6) : ent cy a r g (9 + 3 * i) = .inr (2, eSeg a i r) := by
  unfold ent
  rw [if_neg (by omega), if_pos (by omega), if_pos (by omega), show (9 + 3 * i - 9) / 3 = i by omega]
theorem en_ring {i : Nat} (h : i < 6) : ent cy a r g (10 + 3 * i) = .inl (cy 0, 60, .inl r) := by
  unfold ent
  rw [if_neg (by omega), if_pos (by omega), if_neg (by omega), if_pos (by omega)]
theorem en_uof {i : Nat} (h : i < 6) : ent cy a r g (11 + 3 * i) = .inl (cy 0, 6, .inl r) := by
  unfold ent
  rw [if_neg (by omega), if_pos (by omega), if_neg (by omega), if_neg (by omega)]
theorem en_prod {i : Nat} (h : i < 6) : ent cy a r g (27 + i) = .inr (1, eProd r) := by
  unfold ent
  rw [if_neg (by omega), if_neg (by omega), if_pos (by omega)]
theorem en_bat {i : Nat} (h : i < 40) : ent cy a r g (33 + i) = .inr (0, eBatch a r g) := by
  unfold ent
  rw [if_neg (by omega), if_neg (by omega), if_neg (by omega), if_pos (by omega)]
theorem en_tank {i : Nat} (h : i < 4) : ent cy a r g (73 + i) = .inr (3, eFour r) := by
  unfold ent
  rw [if_neg (by omega), if_neg (by omega), if_neg (by omega), if_neg (by omega), if_pos (by omega)]
theorem en_a5 : ent cy a r g 5 = .inl (cy 0, 5, .inl r) := rfl
end Ents
def wl (cy : Nat → ClassId) (a : Nat) (M : Mm) : va_W := (List.range 77).map (fun k => (a + k, ent cy a (M.1 k) (M.2 k) k))
section Wl
variable {cy : Nat → ClassId} {a : Nat} {M : Mm}
theorem wl_at {k : Nat} (h : k < 77) : (wl cy a M)[k]? = some (a + k, ent cy a (M.1 k) (M.2 k) k) := by
  unfold wl
  rw [List.getElem?_map, List.getElem?_range h]
  rfl
theorem wl_len : (wl cy a M).length = 77 := by
  unfold wl
  rw [List.length_map, List.length_range]
theorem wl_in {k : Nat} {q : Nat × va_E} (h : (wl cy a M)[k]? = some q) : k < 77 := by
  have := (List.getElem?_eq_some_iff.mp h).1
  rw [wl_len] at this
  exact this
abbrev Aq (a : Nat) : Nat → Prop := fun q => a ≤ q
theorem wl_D : va_D (Aq a) (wl cy a M) := by
  refine ⟨fun i j p q hi hj e => ?_, fun k q hk => ?_⟩
  · have h1 := wl_in hi
    have h2 := wl_in hj
    rw [wl_at h1] at hi
    rw [wl_at h2] at hj
    cases hi
    cases hj
    dsimp only at e
    omega
  · have h1 := wl_in hk
    rw [wl_at h1] at hk
    cases hk
    exact Nat.le_add_right a k
theorem wl_ext {w : va_W} (h1 : w.length = 77) (h2 : ∀ k, k < 77 → w[k]? = some (a + k, ent cy a (M.1 k) (M.2 k) k)) : w = wl cy a M := by
  apply List.ext_getElem?
  intro k
  rcases Nat.lt_or_ge k 77 with h | h
  · rw [h2 k h, wl_at h]
  · rw [List.getElem?_eq_none (by rw [h1]; exact h), List.getElem?_eq_none (by rw [wl_len]; exact h)]
theorem wl_si {k j : Nat} {x : Int32} {y : va_E} (h : k < 77) (he : ent cy a (upd (M.1 k) j x) (M.2 k) k = y) : (wl cy a M).set k (a + k, y) = wl cy a (si M k j x) := by
  refine wl_ext (by rw [List.length_set, wl_len]) (fun i hi => ?_)
  by_cases e : i = k
  · subst e
    rw [List.getElem?_set_self (by rw [wl_len]; exact hi), ← he]
    simp [si]
  · rw [List.getElem?_set_ne (Ne.symm e), wl_at hi]
    simp [si, e]
theorem wl_sr {k j : Nat} {x : Option Nat} {y : va_E} (h : k < 77) (he : ent cy a (M.1 k) (va_up (M.2 k) j x) k = y) : (wl cy a M).set k (a + k, y) = wl cy a (sr M k j x) := by
  refine wl_ext (by rw [List.length_set, wl_len]) (fun i hi => ?_)
  by_cases e : i = k
  · subst e
    rw [List.getElem?_set_self (by rw [wl_len]; exact hi), ← he]
    simp [sr]
  · rw [List.getElem?_set_ne (Ne.symm e), wl_at hi]
    simp [sr, e]
end Wl
/-- the heap holds the state M from address a on -/
abbrev HP (D : va_G) (cy : Nat → ClassId) (a : Nat) (M : Mm) (H : Heap) : Prop := va_P D vwCl (wl cy a M) H
def tyL (cy : Nat → ClassId) : List (ClassId × FieldType) := [(cy 0, .int), (cy 1, .int), (cy 2, .object "BatchPipe$Segment"), (cy 3, .object "BatchPipe$Product"), (cy 4, .object "BatchPipe$Batch"), (cy 5, .object "BatchPipe$Tank")]
def nwF : List (Nat × String × String × String) := [(293, "BatchPipe$Tap", "segment", "I"), (114, "BatchPipe$Tap", "tank", "I"), (246, "BatchPipe$Tap", "taken", "I"), (275, "BatchPipe$Segment", "unitsOf", "[I"), (178, "BatchPipe$Segment", "holds", "I"), (272, "BatchPipe$Segment", "height", "I"), (263, "BatchPipe$Segment", "limit", "I"), (223, "BatchPipe$Segment", "dirt", "I"), (172, "BatchPipe$Product", "number", "I"), (269, "BatchPipe$Product", "weight", "I"), (278, "BatchPipe$Product", "thickness", "I"), (338, "BatchPipe$Product", "grade", "I"), (188, "BatchPipe$Batch", "number", "I"), (168, "BatchPipe$Batch", "oil", "LBatchPipe$Product;"), (346, "BatchPipe$Batch", "shipper", "I"), (111, "BatchPipe$Batch", "entered", "I"), (152, "BatchPipe$Batch", "left", "I"), (155, "BatchPipe$Batch", "dropped", "I"), (158, "BatchPipe$Batch", "leaked", "I"), (323, "BatchPipe$Batch", "ahead", "LBatchPipe$Batch;"), (189, "BatchPipe$Batch", "behind", "LBatchPipe$Batch;"), (329, "BatchPipe$Batch", "enteredBefore", "I"), (317, "BatchPipe$Batch", "firstGone", "Z"), (314, "BatchPipe$Batch", "mix", "I"), (205, "BatchPipe$Tank", "has", "I"), (208, "BatchPipe$Tank", "grade", "I"), (211, "BatchPipe$Tank", "mixed", "I"), (343, "BatchPipe$Tank", "spilled", "I")]
def nwM : List (Nat × MethodName) := [(39, yX4_init), (57, yX2_init), (58, yX1_init), (61, yX0_init), (64, yX3_init), (87, yX2_tell), (99, yX1_tell), (243, yX2_fill), (108, yX0_tell), (117, yX4_tell), (126, yX3_pourOut), (181, yX2_fromEnd), (161, yX0_waiting), (300, yX1_bears), (304, yX4_takesMore), (339, yX3_take), (332, yX2_moveOn), (149, yX0_inPipe)]
def nwC : List String := ["java/lang/IllegalArgumentException", "java/lang/IllegalStateException", "java/lang/IndexOutOfBoundsException"]
def nwD : List MethodName := [⟨"java/lang/RuntimeException", "<init>", "()V"⟩, ⟨"java/lang/RuntimeException", "<init>", "(Ljava/lang/String;)V"⟩, ⟨"java/lang/Exception", "<init>", "()V"⟩, ⟨"java/lang/Exception", "<init>", "(Ljava/lang/String;)V"⟩, ⟨"java/lang/Throwable", "<init>", "()V"⟩, ⟨"java/lang/Throwable", "<init>", "(Ljava/lang/String;)V"⟩]
def nwS : List (Nat × String) := [(239, "out of range"), (82, "the pipe is open, or has all its segments"), (237, "there is no such one"), (96, "a product bars itself"), (102, "the pipe is open, or has no segments"), (118, "there are all batches"), (130, "the pipe is closed, or a pig is in it"), (139, "the pipe is closed, or the minutes are at their end"), (192, "the pipe is closed"), (146, "the batch 0 comes with the opening"), (241, "there is no such unit")]
def nwX : List (String × String) := [("java/lang/IllegalArgumentException", "java/lang/IllegalStateException"), ("java/lang/IllegalArgumentException", "java/lang/IndexOutOfBoundsException"), ("java/lang/IllegalStateException", "java/lang/IllegalArgumentException"), ("java/lang/IllegalStateException", "java/lang/IndexOutOfBoundsException"), ("java/lang/IndexOutOfBoundsException", "java/lang/IllegalArgumentException"), ("java/lang/IndexOutOfBoundsException", "java/lang/IllegalStateException")]
theorem nwF_293 : (293, "BatchPipe$Tap", "segment", "I") ∈ nwF := List.mem_of_getElem? (i := 0) rfl
theorem nwF_114 : (114, "BatchPipe$Tap", "tank", "I") ∈ nwF := List.mem_of_getElem? (i := 1) rfl
theorem nwF_246 : (246, "BatchPipe$Tap", "taken", "I") ∈ nwF := List.mem_of_getElem? (i := 2) rfl
theorem nwF_275 : (275, "BatchPipe$Segment", "unitsOf", "[I") ∈ nwF := List.mem_of_getElem? (i := 3) rfl
theorem nwF_178 : (178, "BatchPipe$Segment", "holds", "I") ∈ nwF := List.mem_of_getElem? (i := 4) rfl
theorem nwF_272 : (272, "BatchPipe$Segment", "height", "I") ∈ nwF := List.mem_of_getElem? (i := 5) rfl
theorem nwF_263 : (263, "BatchPipe$Segment", "limit", "I") ∈ nwF := List.mem_of_getElem? (i := 6) rfl
theorem nwF_223 : (223, "BatchPipe$Segment", "dirt", "I") ∈ nwF := List.mem_of_getElem? (i := 7) rfl
theorem nwF_172 : (172, "BatchPipe$Product", "number", "I") ∈ nwF := List.mem_of_getElem? (i := 8) rfl
theorem nwF_269 : (269, "BatchPipe$Product", "weight", "I") ∈ nwF := List.mem_of_getElem? (i := 9) rfl
theorem nwF_278 : (278, "BatchPipe$Product", "thickness", "I") ∈ nwF := List.mem_of_getElem? (i := 10) rfl
theorem nwF_338 : (338, "BatchPipe$Product", "grade", "I") ∈ nwF := List.mem_of_getElem? (i := 11) rfl
theorem nwF_188 : (188, "BatchPipe$Batch", "number", "I") ∈ nwF := List.mem_of_getElem? (i := 12) rfl
theorem nwF_168 : (168, "BatchPipe$Batch", "oil", "LBatchPipe$Product;") ∈ nwF := List.mem_of_getElem? (i := 13) rfl
theorem nwF_346 : (346, "BatchPipe$Batch", "shipper", "I") ∈ nwF := List.mem_of_getElem? (i := 14) rfl
theorem nwF_111 : (111, "BatchPipe$Batch", "entered", "I") ∈ nwF := List.mem_of_getElem? (i := 15) rfl
theorem nwF_152 : (152, "BatchPipe$Batch", "left", "I") ∈ nwF := List.mem_of_getElem? (i := 16) rfl
theorem nwF_155 : (155, "BatchPipe$Batch", "dropped", "I") ∈ nwF := List.mem_of_getElem? (i := 17) rfl
theorem nwF_158 : (158, "BatchPipe$Batch", "leaked", "I") ∈ nwF := List.mem_of_getElem? (i := 18) rfl
theorem nwF_323 : (323, "BatchPipe$Batch", "ahead", "LBatchPipe$Batch;") ∈ nwF := List.mem_of_getElem? (i := 19) rfl
theorem nwF_189 : (189, "BatchPipe$Batch", "behind", "LBatchPipe$Batch;") ∈ nwF := List.mem_of_getElem? (i := 20) rfl
theorem nwF_329 : (329, "BatchPipe$Batch", "enteredBefore", "I") ∈ nwF := List.mem_of_getElem? (i := 21) rfl
theorem nwF_317 : (317, "BatchPipe$Batch", "firstGone", "Z") ∈ nwF := List.mem_of_getElem? (i := 22) rfl
theorem nwF_314 : (314, "BatchPipe$Batch", "mix", "I") ∈ nwF := List.mem_of_getElem? (i := 23) rfl
theorem nwF_205 : (205, "BatchPipe$Tank", "has", "I") ∈ nwF := List.mem_of_getElem? (i := 24) rfl
theorem nwF_208 : (208, "BatchPipe$Tank", "grade", "I") ∈ nwF := List.mem_of_getElem? (i := 25) rfl
theorem nwF_211 : (211, "BatchPipe$Tank", "mixed", "I") ∈ nwF := List.mem_of_getElem? (i := 26) rfl
theorem nwF_343 : (343, "BatchPipe$Tank", "spilled", "I") ∈ nwF := List.mem_of_getElem? (i := 27) rfl
theorem nwM_39 : (39, yX4_init) ∈ nwM := List.mem_of_getElem? (i := 0) rfl
theorem nwM_57 : (57, yX2_init) ∈ nwM := List.mem_of_getElem? (i := 1) rfl
theorem nwM_58 : (58, yX1_init) ∈ nwM := List.mem_of_getElem? (i := 2) rfl
theorem nwM_61 : (61, yX0_init) ∈ nwM := List.mem_of_getElem? (i := 3) rfl
theorem nwM_64 : (64, yX3_init) ∈ nwM := List.mem_of_getElem? (i := 4) rfl
theorem nwM_87 : (87, yX2_tell) ∈ nwM := List.mem_of_getElem? (i := 5) rfl
theorem nwM_99 : (99, yX1_tell) ∈ nwM := List.mem_of_getElem? (i := 6) rfl
theorem nwM_243 : (243, yX2_fill) ∈ nwM := List.mem_of_getElem? (i := 7) rfl
theorem nwM_108 : (108, yX0_tell) ∈ nwM := List.mem_of_getElem? (i := 8) rfl
theorem nwM_117 : (117, yX4_tell) ∈ nwM := List.mem_of_getElem? (i := 9) rfl
theorem nwM_126 : (126, yX3_pourOut) ∈ nwM := List.mem_of_getElem? (i := 10) rfl
theorem nwM_181 : (181, yX2_fromEnd) ∈ nwM := List.mem_of_getElem? (i := 11) rfl
theorem nwM_161 : (161, yX0_waiting) ∈ nwM := List.mem_of_getElem? (i := 12) rfl
theorem nwM_300 : (300, yX1_bears) ∈ nwM := List.mem_of_getElem? (i := 13) rfl
theorem nwM_304 : (304, yX4_takesMore) ∈ nwM := List.mem_of_getElem? (i := 14) rfl
theorem nwM_339 : (339, yX3_take) ∈ nwM := List.mem_of_getElem? (i := 15) rfl
theorem nwM_332 : (332, yX2_moveOn) ∈ nwM := List.mem_of_getElem? (i := 16) rfl
theorem nwM_149 : (149, yX0_inPipe) ∈ nwM := List.mem_of_getElem? (i := 17) rfl
theorem nwS_239 : (239, "out of range") ∈ nwS := List.mem_of_getElem? (i := 0) rfl
theorem nwS_82 : (82, "the pipe is open, or has all its segments") ∈ nwS := List.mem_of_getElem? (i := 1) rfl
theorem nwS_237 : (237, "there is no such one") ∈ nwS := List.mem_of_getElem? (i := 2) rfl
theorem nwS_96 : (96, "a product bars itself") ∈ nwS := List.mem_of_getElem? (i := 3) rfl
theorem nwS_102 : (102, "the pipe is open, or has no segments") ∈ nwS := List.mem_of_getElem? (i := 4) rfl
theorem nwS_118 : (118, "there are all batches") ∈ nwS := List.mem_of_getElem? (i := 5) rfl
theorem nwS_130 : (130, "the pipe is closed, or a pig is in it") ∈ nwS := List.mem_of_getElem? (i := 6) rfl
theorem nwS_139 : (139, "the pipe is closed, or the minutes are at their end") ∈ nwS := List.mem_of_getElem? (i := 7) rfl
theorem nwS_192 : (192, "the pipe is closed") ∈ nwS := List.mem_of_getElem? (i := 8) rfl
theorem nwS_146 : (146, "the batch 0 comes with the opening") ∈ nwS := List.mem_of_getElem? (i := 9) rfl
theorem nwS_241 : (241, "there is no such unit") ∈ nwS := List.mem_of_getElem? (i := 10) rfl
/-- words that the tables alone don't keep: nest mates, casts of exceptions, their constructors, String constants -/
def NW (U : State) : Prop := (∀ q ∈ nwF, va_Nw (.fieldLinkNest RX5 q.1 q.2.1 q.2.2.1 q.2.2.2 RX5) U) ∧ (∀ q ∈ nwM, va_Nw (.methodLinkNest RX5 q.1 q.2 RX5) U) ∧ (∀ q ∈ nwC, va_Nw (.castable q q) U) ∧ (∀ q ∈ nwD, va_Nw (.declares q) U) ∧ (∀ q ∈ nwS, ∃ sa : Nat, vk_R RX5 q.1 q.2 sa U) ∧ (∀ q ∈ nwX, va_Nc q.1 q.2 U)
theorem NW.warm {s U : State} (hW : s.WarmedH U.vm) (h : NW s) : NW U := ⟨fun q hq => va_Nw.warmF hW (h.1 q hq), fun q hq => va_Nw.warmM hW (h.2.1 q hq), fun q hq => va_Nw.warmC hW (h.2.2.1 q hq), fun q hq => va_Nw.warmD hW (h.2.2.2.1 q hq), fun q hq => by
  obtain ⟨sa, e⟩ := h.2.2.2.2.1 q hq
  exact ⟨sa, vk_R.warm hW e⟩, fun q hq => va_Nc.moved hW.alike (h.2.2.2.2.2 q hq)⟩
theorem NW.same {s U : State} (hv : U.vm = s.vm) (h : NW s) : NW U := ⟨fun q hq => va_Nw.same rfl hv.symm (h.1 q hq), fun q hq => va_Nw.same rfl hv.symm (h.2.1 q hq), fun q hq => va_Nw.same rfl hv.symm (h.2.2.1 q hq), fun q hq => va_Nw.same rfl hv.symm (h.2.2.2.1 q hq), fun q hq => by
  obtain ⟨sa, e⟩ := h.2.2.2.2.1 q hq
  exact ⟨sa, vk_R.same hv e⟩, fun q hq => va_Nc.moved (hv ▸ Vm.Alike.refl s.vm) (h.2.2.2.2.2 q hq)⟩
def ZZ (a : Nat) (U : State) (H : Heap) : Prop := vx_Zq Bundle.tN "UNASSIGNED_STACK" Bundle.steD (Aq a) U H ∧ vx_Zq Bundle.tN "SUPPRESSED_SENTINEL" Bundle.listD (Aq a) U H
/-- what holds of the tables all the time -/
def KS (D : va_G) (cy : Nat → ClassId) (U : State) : Prop := va_K D vwCl (tyL cy) U ∧ NW U
/-- a method's start -/
def WT (D : va_G) (cy : Nat → ClassId) (a : Nat) (M : Mm) (U : State) : Prop := HP D cy a M U.heap ∧ KS D cy U ∧ ZZ a U U.heap
theorem KS.warm {D : va_G} {cy : Nat → ClassId} {s U : State} (hW : s.WarmedH U.vm) (h : KS D cy s) : KS D cy U := ⟨va_K.moved hW.alike h.1, NW.warm hW h.2⟩
theorem WT.calling {D : va_G} {cy : Nat → ClassId} {a : Nat} {M : Mm} {U : State} {g : JFrame} {mk : MethodId} {av : Array Value} (h : WT D cy a M U) : WT D cy a M (U.calling g mk av) := by
  obtain ⟨h1, h2, h3⟩ := h
  exact ⟨h1, ⟨va_K.moved (u := U) (U := U.calling g mk av) (Vm.Alike.refl U.vm) h2.1, NW.same (s := U) rfl h2.2⟩, ⟨vx_Zq.moved (u := U) (U := U.calling g mk av) (Vm.Alike.refl U.vm) h3.1, vx_Zq.moved (u := U) (U := U.calling g mk av) (Vm.Alike.refl U.vm) h3.2⟩⟩
theorem WT.of {D : va_G} {cy : Nat → ClassId} {a : Nat} {M : Mm} {s U : State} {H : Heap} {locs : List Loc} (hw : HP D cy a M H) (hK : KS D cy s) (hZ : ZZ a s s.heap) (hS : va_S (Aq a) s.heap H locs) (hU : U.heap = H) (hW : s.WarmedH U.vm) : WT D cy a M U := by
  refine ⟨by rw [hU]; exact hw, KS.warm hW hK, ?_, ?_⟩
  · rw [hU]
    exact vx_Zq.moved hW.alike (vx_Zq.kept hZ.1 (fun q h1 h2 => hS.2.1 q h1 h2))
  · rw [hU]
    exact vx_Zq.moved hW.alike (vx_Zq.kept hZ.2 (fun q h1 h2 => hS.2.1 q h1 h2))
abbrev Pre (D : va_G) (cy : Nat → ClassId) (a : Nat) (M : Mm) (av : List Value) : Array Value → State → Prop := va_Pc av (fun U => WT D cy a M U)
abbrev QI (D : va_G) (cy : Nat → ClassId) (a : Nat) (r : Int32) (M : Mm) : Array Value → State → Outcome → State → Prop := va_Qi (fun (x : Int32) (_ : Unit) => x = r) (fun _ t => HP D cy a M t.heap) (Aq a)
abbrev QV (D : va_G) (cy : Nat → ClassId) (a : Nat) (M : Mm) : Array Value → State → Outcome → State → Prop := va_Qv (fun (_ : Unit) => True) (fun _ t => HP D cy a M t.heap) (Aq a)
abbrev QR (D : va_G) (cy : Nat → ClassId) (a base : Nat) (r : Option Nat) (M : Mm) : Array Value → State → Outcome → State → Prop := va_Qq (fun (x : Option Nat) (_ : Unit) => x = r.map (fun i => a + (base + i))) (fun _ t => HP D cy a M t.heap) (Aq a)
/-- the classes of what is thrown, by numbers -/
def exN (n : Nat) : String := match n with
  | 1 => "java/lang/IllegalArgumentException"
  | 2 => "java/lang/IllegalStateException"
  | _ => "java/lang/IndexOutOfBoundsException"
abbrev XT (D : va_G) (cy : Nat → ClassId) (a : Nat) (n : Nat) (M : Mm) : String → State → State → Prop := vx_X (fun (_ : Unit) => n ≠ 0) (fun E _ t => E = exN n ∧ HP D cy a M t.heap) (Aq a)
abbrev QIx (D : va_G) (cy : Nat → ClassId) (a : Nat) (n : Nat) (r : Int32) (M : Mm) : Array Value → State → Outcome → State → Prop := va_Qi (fun (x : Int32) (_ : Unit) => n = 0 ∧ x = r) (fun _ t => HP D cy a M t.heap) (Aq a)
abbrev QVx (D : va_G) (cy : Nat → ClassId) (a : Nat) (n : Nat) (M : Mm) : Array Value → State → Outcome → State → Prop := va_Qv (fun (_ : Unit) => n = 0) (fun _ t => HP D cy a M t.heap) (Aq a)
abbrev QB (D : va_G) (cy : Nat → ClassId) (a : Nat) (r : Int32) (M : Mm) : Array Value → State → Outcome → State → Prop := va_Qi (fun (x : Int32) (_ : Unit) => x = r ∧ narrow .boolean (.int x) = .int x) (fun _ t => HP D cy a M t.heap) (Aq a)
/-! what the pure functions' ends say -/
theorem og {c : Prop} [Decidable c] {α : Type} {x : Option α} {o : α} (h : (if c then x else none) = some o) : c ∧ x = some o := by
  by_cases q : c
  · rw [if_pos q] at h; exact ⟨q, h⟩
  · rw [if_neg q] at h; cases h
theorem ob {α β : Type} {x : Option α} {f : α → Option β} {o : β} (h : x.bind f = some o) : ∃ y, x = some y ∧ f y = some o := by
  cases x with
  | none => cases h
  | some y => exact ⟨y, rfl, h⟩
theorem ip {c : Prop} [Decidable c] {α : Type} {x y : Option α} {o : α} (q : c) (h : (if c then x else y) = some o) : x = some o := by rw [if_pos q] at h; exact h
theorem iq {c : Prop} [Decidable c] {α : Type} {x y : Option α} {o : α} (q : ¬ c) (h : (if c then x else y) = some o) : y = some o := by rw [if_neg q] at h; exact h
theorem vi {i : Int32} {n : Nat} (h : ¬ (i < 0 ∨ n ≤ i.toNatClampNeg)) : i.toNatClampNeg < n := Nat.not_le.mp fun q => h (Or.inr q)
theorem kseg {i : Nat} (h : i < 6) : 9 + 3 * i < 77 := by omega
theorem kring {i : Nat} (h : i < 6) : 10 + 3 * i < 77 := by omega
theorem kuof {i : Nat} (h : i < 6) : 11 + 3 * i < 77 := by omega
theorem kprod {i : Nat} (h : i < 6) : 27 + i < 77 := by omega
theorem kbat {i : Nat} (h : i < 40) : 33 + i < 77 := by omega
theorem ktank {i : Nat} (h : i < 4) : 73 + i < 77 := by omega
theorem ktap {i : Nat} (h : i < 3) : 6 + i < 77 := by omega
theorem bfit {x : Int32} (h : narrow .boolean (.int x) = .int x) : fits .boolean (.int x) = true := by
  have h1 : x &&& 1 = x := Value.int.inj h
  obtain ⟨j, hj, e⟩ := pk_andE x (m := 1) 1 (by decide)
  rw [h1] at e
  rcases (show j = 0 ∨ j = 1 by omega) with rfl | rfl
  · rw [e]; decide
  · rw [e]; decide
theorem swout0_2 {x : Int32} (h0 : ¬ x = (0 : Int32)) (h1 : ¬ x = (1 : Int32)) (h2 : ¬ x = (2 : Int32)) : x.toInt < 0 ∨ 2 < x.toInt := by
  have g0 : ¬ x.toInt = 0 := lv_neT h0 (by decide)
  have g1 : ¬ x.toInt = 1 := lv_neT h1 (by decide)
  have g2 : ¬ x.toInt = 2 := lv_neT h2 (by decide)
  omega
theorem swout0_5 {x : Int32} (h0 : ¬ x = (0 : Int32)) (h1 : ¬ x = (1 : Int32)) (h2 : ¬ x = (2 : Int32)) (h3 : ¬ x = (3 : Int32)) (h4 : ¬ x = (4 : Int32)) (h5 : ¬ x = (5 : Int32)) : x.toInt < 0 ∨ 5 < x.toInt := by
  have g0 : ¬ x.toInt = 0 := lv_neT h0 (by decide)
  have g1 : ¬ x.toInt = 1 := lv_neT h1 (by decide)
  have g2 : ¬ x.toInt = 2 := lv_neT h2 (by decide)
  have g3 : ¬ x.toInt = 3 := lv_neT h3 (by decide)
  have g4 : ¬ x.toInt = 4 := lv_neT h4 (by decide)
  have g5 : ¬ x.toInt = 5 := lv_neT h5 (by decide)
  omega
theorem swout0_7 {x : Int32} (h0 : ¬ x = (0 : Int32)) (h1 : ¬ x = (1 : Int32)) (h2 : ¬ x = (2 : Int32)) (h3 : ¬ x = (3 : Int32)) (h4 : ¬ x = (4 : Int32)) (h5 : ¬ x = (5 : Int32)) (h6 : ¬ x = (6 : Int32)) (h7 : ¬ x = (7 : Int32)) : x.toInt < 0 ∨ 7 < x.toInt := by
  have g0 : ¬ x.toInt = 0 := lv_neT h0 (by decide)
  have g1 : ¬ x.toInt = 1 := lv_neT h1 (by decide)
  have g2 : ¬ x.toInt = 2 := lv_neT h2 (by decide)
  have g3 : ¬ x.toInt = 3 := lv_neT h3 (by decide)
  have g4 : ¬ x.toInt = 4 := lv_neT h4 (by decide)
  have g5 : ¬ x.toInt = 5 := lv_neT h5 (by decide)
  have g6 : ¬ x.toInt = 6 := lv_neT h6 (by decide)
  have g7 : ¬ x.toInt = 7 := lv_neT h7 (by decide)
  omega
theorem swout0_18 {x : Int32} (h0 : ¬ x = (0 : Int32)) (h1 : ¬ x = (1 : Int32)) (h2 : ¬ x = (2 : Int32)) (h3 : ¬ x = (3 : Int32)) (h4 : ¬ x = (4 : Int32)) (h5 : ¬ x = (5 : Int32)) (h6 : ¬ x = (6 : Int32)) (h7 : ¬ x = (7 : Int32)) (h8 : ¬ x = (8 : Int32)) (h9 : ¬ x = (9 : Int32)) (h10 : ¬ x = (10 : Int32)) (h11 : ¬ x = (11 : Int32)) (h12 : ¬ x = (12 : Int32)) (h13 : ¬ x = (13 : Int32)) (h14 : ¬ x = (14 : Int32)) (h15 : ¬ x = (15 : Int32)) (h16 : ¬ x = (16 : Int32)) (h17 : ¬ x = (17 : Int32)) (h18 : ¬ x = (18 : Int32)) : x.toInt < 0 ∨ 18 < x.toInt := by
  have g0 : ¬ x.toInt = 0 := lv_neT h0 (by decide)
  have g1 : ¬ x.toInt = 1 := lv_neT h1 (by decide)
  have g2 : ¬ x.toInt = 2 := lv_neT h2 (by decide)
  have g3 : ¬ x.toInt = 3 := lv_neT h3 (by decide)
  have g4 : ¬ x.toInt = 4 := lv_neT h4 (by decide)
  have g5 : ¬ x.toInt = 5 := lv_neT h5 (by decide)
  have g6 : ¬ x.toInt = 6 := lv_neT h6 (by decide)
  have g7 : ¬ x.toInt = 7 := lv_neT h7 (by decide)
  have g8 : ¬ x.toInt = 8 := lv_neT h8 (by decide)
  have g9 : ¬ x.toInt = 9 := lv_neT h9 (by decide)
  have g10 : ¬ x.toInt = 10 := lv_neT h10 (by decide)
  have g11 : ¬ x.toInt = 11 := lv_neT h11 (by decide)
  have g12 : ¬ x.toInt = 12 := lv_neT h12 (by decide)
  have g13 : ¬ x.toInt = 13 := lv_neT h13 (by decide)
  have g14 : ¬ x.toInt = 14 := lv_neT h14 (by decide)
  have g15 : ¬ x.toInt = 15 := lv_neT h15 (by decide)
  have g16 : ¬ x.toInt = 16 := lv_neT h16 (by decide)
  have g17 : ¬ x.toInt = 17 := lv_neT h17 (by decide)
  have g18 : ¬ x.toInt = 18 := lv_neT h18 (by decide)
  omega
theorem swout0_4 {x : Int32} (h0 : ¬ x = (0 : Int32)) (h1 : ¬ x = (1 : Int32)) (h2 : ¬ x = (2 : Int32)) (h3 : ¬ x = (3 : Int32)) (h4 : ¬ x = (4 : Int32)) : x.toInt < 0 ∨ 4 < x.toInt := by
  have g0 : ¬ x.toInt = 0 := lv_neT h0 (by decide)
  have g1 : ¬ x.toInt = 1 := lv_neT h1 (by decide)
  have g2 : ¬ x.toInt = 2 := lv_neT h2 (by decide)
  have g3 : ¬ x.toInt = 3 := lv_neT h3 (by decide)
  have g4 : ¬ x.toInt = 4 := lv_neT h4 (by decide)
  omega
theorem swout0_6 {x : Int32} (h0 : ¬ x = (0 : Int32)) (h1 : ¬ x = (1 : Int32)) (h2 : ¬ x = (2 : Int32)) (h3 : ¬ x = (3 : Int32)) (h4 : ¬ x = (4 : Int32)) (h5 : ¬ x = (5 : Int32)) (h6 : ¬ x = (6 : Int32)) : x.toInt < 0 ∨ 6 < x.toInt := by
  have g0 : ¬ x.toInt = 0 := lv_neT h0 (by decide)
  have g1 : ¬ x.toInt = 1 := lv_neT h1 (by decide)
  have g2 : ¬ x.toInt = 2 := lv_neT h2 (by decide)
  have g3 : ¬ x.toInt = 3 := lv_neT h3 (by decide)
  have g4 : ¬ x.toInt = 4 := lv_neT h4 (by decide)
  have g5 : ¬ x.toInt = 5 := lv_neT h5 (by decide)
  have g6 : ¬ x.toInt = 6 := lv_neT h6 (by decide)
  omega
def imax (x y : Int32) : Int32 := if x < y then y else x
def imin (x y : Int32) : Int32 := if y < x then y else x
def irem (x y : Int32) : Int32 := x - x / y * y
def ishl (x y : Int32) : Int32 := x <<< (y &&& 31)
def ishr (x y : Int32) : Int32 := x >>> (y &&& 31)
theorem rfo_cat (a b : Nat) (o : Option Nat) : (rfo a b o).category = 1 := by cases o <;> rfl
theorem rfo_nar (C : String) (a b : Nat) (o : Option Nat) : narrow (.object C) (rfo a b o) = rfo a b o := by cases o <;> rfl
theorem rfo_fit (C : String) (a b : Nat) (o : Option Nat) : fits (.object C) (rfo a b o) = true := by cases o <;> rfl
theorem rfo_inj {a b : Nat} {x y : Option Nat} (h : x.map (fun i => a + (b + i)) = y.map (fun i => a + (b + i))) : x = y := by
  cases x <;> cases y
  · rfl
  · cases h
  · cases h
  · rename_i x y
    have h2 : a + (b + x) = a + (b + y) := Option.some.inj h
    rw [show x = y by omega]
section HsGe
variable {cy : Nat → ClassId} {a : Nat} {r : Nat → Int32} {g : Nat → Option Nat} {x : Int32} {o : Option Nat} {M : Mm} {k : Nat}
theorem ge0_0 : (eBatch a (M.1 k) (M.2 k))[0]? = some (.int (gi M k 0)) := rfl
theorem ge0_1 : (eBatch a (M.1 k) (M.2 k))[1]? = some (rfo a 27 (gr M k 1)) := rfl
theorem hs0_1 {i : Nat} (h : i < 40) : ent cy a r (va_up g 1 o) (33 + i) = .inr (0, (eBatch a r g).set 1 (rfo a 27 o)) := by rw [en_bat h]; rfl
theorem ge0_2 : (eBatch a (M.1 k) (M.2 k))[2]? = some (.int (gi M k 2)) := rfl
theorem hs0_2 {i : Nat} (h : i < 40) : ent cy a (upd r 2 x) g (33 + i) = .inr (0, (eBatch a r g).set 2 (.int x)) := by rw [en_bat h]; rfl
theorem ge0_3 : (eBatch a (M.1 k) (M.2 k))[3]? = some (.int (gi M k 3)) := rfl
theorem hs0_3 {i : Nat} (h : i < 40) : ent cy a (upd r 3 x) g (33 + i) = .inr (0, (eBatch a r g).set 3 (.int x)) := by rw [en_bat h]; rfl
theorem ge0_4 : (eBatch a (M.1 k) (M.2 k))[4]? = some (.int (gi M k 4)) := rfl
theorem hs0_4 {i : Nat} (h : i < 40) : ent cy a (upd r 4 x) g (33 + i) = .inr (0, (eBatch a r g).set 4 (.int x)) := by rw [en_bat h]; rfl
theorem ge0_5 : (eBatch a (M.1 k) (M.2 k))[5]? = some (.int (gi M k 5)) := rfl
theorem hs0_5 {i : Nat} (h : i < 40) : ent cy a (upd r 5 x) g (33 + i) = .inr (0, (eBatch a r g).set 5 (.int x)) := by rw [en_bat h]; rfl
theorem ge0_6 : (eBatch a (M.1 k) (M.2 k))[6]? = some (.int (gi M k 6)) := rfl
theorem hs0_6 {i : Nat} (h : i < 40) : ent cy a (upd r 6 x) g (33 + i) = .inr (0, (eBatch a r g).set 6 (.int x)) := by rw [en_bat h]; rfl
theorem ge0_7 : (eBatch a (M.1 k) (M.2 k))[7]? = some (.int (gi M k 7)) := rfl
theorem hs0_7 {i : Nat} (h : i < 40) : ent cy a (upd r 7 x) g (33 + i) = .inr (0, (eBatch a r g).set 7 (.int x)) := by rw [en_bat h]; rfl
theorem ge0_8 : (eBatch a (M.1 k) (M.2 k))[8]? = some (rfo a 33 (gr M k 8)) := rfl
theorem hs0_8 {i : Nat} (h : i < 40) : ent cy a r (va_up g 8 o) (33 + i) = .inr (0, (eBatch a r g).set 8 (rfo a 33 o)) := by rw [en_bat h]; rfl
theorem ge0_9 : (eBatch a (M.1 k) (M.2 k))[9]? = some (rfo a 33 (gr M k 9)) := rfl
theorem hs0_9 {i : Nat} (h : i < 40) : ent cy a r (va_up g 9 o) (33 + i) = .inr (0, (eBatch a r g).set 9 (rfo a 33 o)) := by rw [en_bat h]; rfl
theorem ge0_10 : (eBatch a (M.1 k) (M.2 k))[10]? = some (.int (gi M k 10)) := rfl
theorem hs0_10 {i : Nat} (h : i < 40) : ent cy a (upd r 10 x) g (33 + i) = .inr (0, (eBatch a r g).set 10 (.int x)) := by rw [en_bat h]; rfl
theorem ge0_11 : (eBatch a (M.1 k) (M.2 k))[11]? = some (.int (gi M k 11)) := rfl
theorem hs0_11 {i : Nat} (h : i < 40) : ent cy a (upd r 11 x) g (33 + i) = .inr (0, (eBatch a r g).set 11 (.int x)) := by rw [en_bat h]; rfl
theorem ge0_12 : (eBatch a (M.1 k) (M.2 k))[12]? = some (.int (gi M k 12)) := rfl
theorem hs0_12 {i : Nat} (h : i < 40) : ent cy a (upd r 12 x) g (33 + i) = .inr (0, (eBatch a r g).set 12 (.int x)) := by rw [en_bat h]; rfl
theorem ge1_0 : (eProd (M.1 k))[0]? = some (.int (gi M k 0)) := rfl
theorem ge1_1 : (eProd (M.1 k))[1]? = some (.int (gi M k 1)) := rfl
theorem hs1_1 {i : Nat} (h : i < 6) : ent cy a (upd r 1 x) g (27 + i) = .inr (1, (eProd r).set 1 (.int x)) := by rw [en_prod h]; rfl
theorem ge1_2 : (eProd (M.1 k))[2]? = some (.int (gi M k 2)) := rfl
theorem hs1_2 {i : Nat} (h : i < 6) : ent cy a (upd r 2 x) g (27 + i) = .inr (1, (eProd r).set 2 (.int x)) := by rw [en_prod h]; rfl
theorem ge1_3 : (eProd (M.1 k))[3]? = some (.int (gi M k 3)) := rfl
theorem hs1_3 {i : Nat} (h : i < 6) : ent cy a (upd r 3 x) g (27 + i) = .inr (1, (eProd r).set 3 (.int x)) := by rw [en_prod h]; rfl
theorem ge1_4 : (eProd (M.1 k))[4]? = some (.int (gi M k 4)) := rfl
theorem hs1_4 {i : Nat} (h : i < 6) : ent cy a (upd r 4 x) g (27 + i) = .inr (1, (eProd r).set 4 (.int x)) := by rw [en_prod h]; rfl
theorem ge2_2 {i : Nat} : (eSeg a i (M.1 k))[2]? = some (.int (gi M k 2)) := rfl
theorem hs2_2 {i : Nat} (h : i < 6) : ent cy a (upd r 2 x) g (9 + 3 * i) = .inr (2, (eSeg a i r).set 2 (.int x)) := by rw [en_seg h]; rfl
theorem ge2_3 {i : Nat} : (eSeg a i (M.1 k))[3]? = some (.int (gi M k 3)) := rfl
theorem hs2_3 {i : Nat} (h : i < 6) : ent cy a (upd r 3 x) g (9 + 3 * i) = .inr (2, (eSeg a i r).set 3 (.int x)) := by rw [en_seg h]; rfl
theorem ge2_4 {i : Nat} : (eSeg a i (M.1 k))[4]? = some (.int (gi M k 4)) := rfl
theorem hs2_4 {i : Nat} (h : i < 6) : ent cy a (upd r 4 x) g (9 + 3 * i) = .inr (2, (eSeg a i r).set 4 (.int x)) := by rw [en_seg h]; rfl
theorem ge2_5 {i : Nat} : (eSeg a i (M.1 k))[5]? = some (.int (gi M k 5)) := rfl
theorem hs2_5 {i : Nat} (h : i < 6) : ent cy a (upd r 5 x) g (9 + 3 * i) = .inr (2, (eSeg a i r).set 5 (.int x)) := by rw [en_seg h]; rfl
theorem ge2_6 {i : Nat} : (eSeg a i (M.1 k))[6]? = some (.int (gi M k 6)) := rfl
theorem hs2_6 {i : Nat} (h : i < 6) : ent cy a (upd r 6 x) g (9 + 3 * i) = .inr (2, (eSeg a i r).set 6 (.int x)) := by rw [en_seg h]; rfl
theorem ge3_0 : (eFour (M.1 k))[0]? = some (.int (gi M k 0)) := rfl
theorem hs3_0 {i : Nat} (h : i < 4) : ent cy a (upd r 0 x) g (73 + i) = .inr (3, (eFour r).set 0 (.int x)) := by rw [en_tank h]; rfl
theorem ge3_1 : (eFour (M.1 k))[1]? = some (.int (gi M k 1)) := rfl
theorem hs3_1 {i : Nat} (h : i < 4) : ent cy a (upd r 1 x) g (73 + i) = .inr (3, (eFour r).set 1 (.int x)) := by rw [en_tank h]; rfl
theorem ge3_2 : (eFour (M.1 k))[2]? = some (.int (gi M k 2)) := rfl
theorem hs3_2 {i : Nat} (h : i < 4) : ent cy a (upd r 2 x) g (73 + i) = .inr (3, (eFour r).set 2 (.int x)) := by rw [en_tank h]; rfl
theorem ge3_3 : (eFour (M.1 k))[3]? = some (.int (gi M k 3)) := rfl
theorem hs3_3 {i : Nat} (h : i < 4) : ent cy a (upd r 3 x) g (73 + i) = .inr (3, (eFour r).set 3 (.int x)) := by rw [en_tank h]; rfl
theorem ge4_0 : (eFour (M.1 k))[0]? = some (.int (gi M k 0)) := rfl
theorem hs4_0 {i : Nat} (h : i < 3) : ent cy a (upd r 0 x) g (6 + i) = .inr (4, (eFour r).set 0 (.int x)) := by rw [en_tap h]; rfl
theorem ge4_1 : (eFour (M.1 k))[1]? = some (.int (gi M k 1)) := rfl
theorem hs4_1 {i : Nat} (h : i < 3) : ent cy a (upd r 1 x) g (6 + i) = .inr (4, (eFour r).set 1 (.int x)) := by rw [en_tap h]; rfl
theorem ge4_2 : (eFour (M.1 k))[2]? = some (.int (gi M k 2)) := rfl
theorem hs4_2 {i : Nat} (h : i < 3) : ent cy a (upd r 2 x) g (6 + i) = .inr (4, (eFour r).set 2 (.int x)) := by rw [en_tap h]; rfl
theorem ge4_3 : (eFour (M.1 k))[3]? = some (.int (gi M k 3)) := rfl
theorem hs4_3 {i : Nat} (h : i < 3) : ent cy a (upd r 3 x) g (6 + i) = .inr (4, (eFour r).set 3 (.int x)) := by rw [en_tap h]; rfl
theorem ge5_8 : (ePipe a (M.1 k) (M.2 k))[8]? = some (.int (gi M k 8)) := rfl
theorem hs5_8 : ent cy a (upd r 8 x) g (0) = .inr (5, (ePipe a r g).set 8 (.int x)) := rfl
theorem ge5_9 : (ePipe a (M.1 k) (M.2 k))[9]? = some (.int (gi M k 9)) := rfl
theorem hs5_9 : ent cy a (upd r 9 x) g (0) = .inr (5, (ePipe a r g).set 9 (.int x)) := rfl
theorem ge5_10 : (ePipe a (M.1 k) (M.2 k))[10]? = some (.int (gi M k 10)) := rfl
theorem hs5_10 : ent cy a (upd r 10 x) g (0) = .inr (5, (ePipe a r g).set 10 (.int x)) := rfl
theorem ge5_11 : (ePipe a (M.1 k) (M.2 k))[11]? = some (rfo a 33 (gr M k 11)) := rfl
theorem hs5_11 : ent cy a r (va_up g 11 o) (0) = .inr (5, (ePipe a r g).set 11 (rfo a 33 o)) := rfl
theorem ge5_12 : (ePipe a (M.1 k) (M.2 k))[12]? = some (.int (gi M k 12)) := rfl
theorem hs5_12 : ent cy a (upd r 12 x) g (0) = .inr (5, (ePipe a r g).set 12 (.int x)) := rfl
theorem ge5_13 : (ePipe a (M.1 k) (M.2 k))[13]? = some (.int (gi M k 13)) := rfl
theorem hs5_13 : ent cy a (upd r 13 x) g (0) = .inr (5, (ePipe a r g).set 13 (.int x)) := rfl
theorem ge5_14 : (ePipe a (M.1 k) (M.2 k))[14]? = some (.int (gi M k 14)) := rfl
theorem hs5_14 : ent cy a (upd r 14 x) g (0) = .inr (5, (ePipe a r g).set 14 (.int x)) := rfl
theorem ge5_15 : (ePipe a (M.1 k) (M.2 k))[15]? = some (.int (gi M k 15)) := rfl
theorem hs5_15 : ent cy a (upd r 15 x) g (0) = .inr (5, (ePipe a r g).set 15 (.int x)) := rfl
theorem ge5_16 : (ePipe a (M.1 k) (M.2 k))[16]? = some (.int (gi M k 16)) := rfl
theorem hs5_16 : ent cy a (upd r 16 x) g (0) = .inr (5, (ePipe a r g).set 16 (.int x)) := rfl
end HsGe
section Rw
variable {p : Program} {l : Launch} {e : Env} {R : Room} {s : State} {m : MethodId} {args : Array Value} {below : List Frame} {meth : Method} {c : Code} {H : Heap} {locs : List Loc} {cells slots : Nat} {Q : State → Prop}
variable {cc : ByteArray} {pc : Nat} {ls : Array Slot} {rest : List Value} {D : va_G} {cy : Nat → ClassId} {a : Nat} {M : Mm} {own : String} {Ts : List Cond}
theorem rGet (hx : p.tables.exec = Jvm.exec) (hb : c.code = cc) {ref C : String} {T : u_T} {N ci index : Nat} (hts : ∀ w ∈ Ts, w.before args s = true) (hin : ∀ w ∈ u_ws C T N, w ∈ Ts) (hown : s.vm.findClass own = some m.cls) (hK : KS D cy s) (hw : HP D cy a M H) {k : Nat} (hk : k < 77) {fs : List Value} (he : ent cy a (M.1 k) (M.2 k) k = .inr (ci, fs)) (hc : vwCl[ci]? = some (C, T, N)) (j : Nat) (hj : j < N) (hlink : (Cond.fieldLink own index ref (T j).2.1 (T j).2.2.1).before args s = true) (href : (T j).1 = ref) {v : Value} (hv : fs[j]? = some v) (hdg : decode cc pc = .ok (.getfield index, 3))
    (kk : W p l e R s m args below meth c H locs cells slots Q (F0 m (pc + 3) ls (v :: rest))) : W p l e R s m args below meth c H locs cells slots Q (F0 m pc ls (.ref (a + k) :: rest)) :=
  va_get hx hb hts hin hown hK.1 hw k (by rw [wl_at hk, he]) hc j hj hlink (fun x h => by rw [← href]; exact h) hv hdg kk
theorem rGetN (hx : p.tables.exec = Jvm.exec) (hb : c.code = cc) {ref C : String} {T : u_T} {N ci index : Nat} (hts : ∀ w ∈ Ts, w.before args s = true) (hin : ∀ w ∈ u_ws C T N, w ∈ Ts) (hown : s.vm.findClass RX5 = some m.cls) (hK : KS D cy s) (hw : HP D cy a M H) {k : Nat} (hk : k < 77) {fs : List Value} (he : ent cy a (M.1 k) (M.2 k) k = .inr (ci, fs)) (hc : vwCl[ci]? = some (C, T, N)) (j : Nat) (hj : j < N) (hlink : (index, ref, (T j).2.1, (T j).2.2.1) ∈ nwF) (href : (T j).1 = ref) {v : Value} (hv : fs[j]? = some v) (hdg : decode cc pc = .ok (.getfield index, 3))
    (kk : W p l e R s m args below meth c H locs cells slots Q (F0 m (pc + 3) ls (v :: rest))) : W p l e R s m args below meth c H locs cells slots Q (F0 m pc ls (.ref (a + k) :: rest)) :=
  va_getN hx hb hts hin hown hK.1 hw k (by rw [wl_at hk, he]) hc j hj (va_Nw.use (A := args) rfl (hK.2.1 _ hlink)) (fun x h => by rw [← href]; exact h) hv hdg kk
theorem rGetI (hx : p.tables.exec = Jvm.exec) (hb : c.code = cc) {ref C : String} {T : u_T} {N ci index : Nat} (hts : ∀ w ∈ Ts, w.before args s = true) (hin : ∀ w ∈ u_ws C T N, w ∈ Ts) (hown : s.vm.findClass own = some m.cls) (hK : KS D cy s) (hw : HP D cy a M H) {k : Nat} (hk : k < 77) {fs : List Value} (he : ent cy a (M.1 k) (M.2 k) k = .inr (ci, fs)) (hc : vwCl[ci]? = some (C, T, N)) (j : Nat) (hj : j < N) (hlink : (Cond.fieldLink own index ref (T j).2.1 (T j).2.2.1).before args s = true) (href : (T j).1 = ref) (hv : fs[j]? = some (.int (gi M k j))) (hdg : decode cc pc = .ok (.getfield index, 3))
    (kk : W p l e R s m args below meth c H locs cells slots Q (F0 m (pc + 3) ls (.int (gi M k j) :: rest))) : W p l e R s m args below meth c H locs cells slots Q (F0 m pc ls (.ref (a + k) :: rest)) :=
  rGet hx hb hts hin hown hK hw hk he hc j hj hlink href hv hdg kk
theorem rGetR (hx : p.tables.exec = Jvm.exec) (hb : c.code = cc) {ref C : String} {T : u_T} {N ci index : Nat} (hts : ∀ w ∈ Ts, w.before args s = true) (hin : ∀ w ∈ u_ws C T N, w ∈ Ts) (hown : s.vm.findClass own = some m.cls) (hK : KS D cy s) (hw : HP D cy a M H) {k : Nat} (hk : k < 77) {fs : List Value} (he : ent cy a (M.1 k) (M.2 k) k = .inr (ci, fs)) (hc : vwCl[ci]? = some (C, T, N)) (j : Nat) (hj : j < N) (hlink : (Cond.fieldLink own index ref (T j).2.1 (T j).2.2.1).before args s = true) (href : (T j).1 = ref) {base : Nat} (hv : fs[j]? = some (rfo a base (gr M k j))) (hdg : decode cc pc = .ok (.getfield index, 3))
    (kk : W p l e R s m args below meth c H locs cells slots Q (F0 m (pc + 3) ls (rfo a base (gr M k j) :: rest))) : W p l e R s m args below meth c H locs cells slots Q (F0 m pc ls (.ref (a + k) :: rest)) :=
  rGet hx hb hts hin hown hK hw hk he hc j hj hlink href hv hdg kk
theorem rGetNI (hx : p.tables.exec = Jvm.exec) (hb : c.code = cc) {ref C : String} {T : u_T} {N ci index : Nat} (hts : ∀ w ∈ Ts, w.before args s = true) (hin : ∀ w ∈ u_ws C T N, w ∈ Ts) (hown : s.vm.findClass RX5 = some m.cls) (hK : KS D cy s) (hw : HP D cy a M H) {k : Nat} (hk : k < 77) {fs : List Value} (he : ent cy a (M.1 k) (M.2 k) k = .inr (ci, fs)) (hc : vwCl[ci]? = some (C, T, N)) (j : Nat) (hj : j < N) (hlink : (index, ref, (T j).2.1, (T j).2.2.1) ∈ nwF) (href : (T j).1 = ref) (hv : fs[j]? = some (.int (gi M k j))) (hdg : decode cc pc = .ok (.getfield index, 3))
    (kk : W p l e R s m args below meth c H locs cells slots Q (F0 m (pc + 3) ls (.int (gi M k j) :: rest))) : W p l e R s m args below meth c H locs cells slots Q (F0 m pc ls (.ref (a + k) :: rest)) :=
  rGetN hx hb hts hin hown hK hw hk he hc j hj hlink href hv hdg kk
theorem rGetNR (hx : p.tables.exec = Jvm.exec) (hb : c.code = cc) {ref C : String} {T : u_T} {N ci index : Nat} (hts : ∀ w ∈ Ts, w.before args s = true) (hin : ∀ w ∈ u_ws C T N, w ∈ Ts) (hown : s.vm.findClass RX5 = some m.cls) (hK : KS D cy s) (hw : HP D cy a M H) {k : Nat} (hk : k < 77) {fs : List Value} (he : ent cy a (M.1 k) (M.2 k) k = .inr (ci, fs)) (hc : vwCl[ci]? = some (C, T, N)) (j : Nat) (hj : j < N) (hlink : (index, ref, (T j).2.1, (T j).2.2.1) ∈ nwF) (href : (T j).1 = ref) {base : Nat} (hv : fs[j]? = some (rfo a base (gr M k j))) (hdg : decode cc pc = .ok (.getfield index, 3))
    (kk : W p l e R s m args below meth c H locs cells slots Q (F0 m (pc + 3) ls (rfo a base (gr M k j) :: rest))) : W p l e R s m args below meth c H locs cells slots Q (F0 m pc ls (.ref (a + k) :: rest)) :=
  rGetN hx hb hts hin hown hK hw hk he hc j hj hlink href hv hdg kk
theorem rPut (hx : p.tables.exec = Jvm.exec) (hb : c.code = cc) {ref C : String} {T : u_T} {N ci index : Nat} (hts : ∀ w ∈ Ts, w.before args s = true) (hin : ∀ w ∈ u_ws C T N, w ∈ Ts) (ty0 : Nat → FieldType) (hty : ∀ k, k < N → parseFieldDescriptor (T k).2.2.1 = some (ty0 k)) (hnm : ∀ a, a < N → ∀ b, b < N → a ≠ b → (T a).2.1 ≠ (T b).2.1) (hown : s.vm.findClass own = some m.cls) (hK : KS D cy s) (hw : HP D cy a M H) (hS : va_S (Aq a) s.heap H locs) {k : Nat} (hk : k < 77) {fs : List Value} (he : ent cy a (M.1 k) (M.2 k) k = .inr (ci, fs)) (hc : vwCl[ci]? = some (C, T, N)) (j : Nat) (hj : j < N) (hlink : (Cond.fieldLink own index ref (T j).2.1 (T j).2.2.1).before args s = true) (href : (T j).1 = ref) (hfin : (T j).2.2.2 = false) {x : Int32} (hn : narrow (ty0 j) (.int x) = .int x) (hfit : fits (ty0 j) (.int x) = true) (hl : j < fs.length) (hset : ent cy a (upd (M.1 k) j x) (M.2 k) k = .inr (ci, fs.set j (.int x))) (hdg : decode cc pc = .ok (.putfield index, 3))
    (kk : ∀ (H1 : Heap) (locs1 : List Loc), HP D cy a (si M k j x) H1 → va_S (Aq a) s.heap H1 locs1 → W p l e R s m args below meth c H1 locs1 cells slots Q (F0 m (pc + 3) ls rest)) : W p l e R s m args below meth c H locs cells slots Q (F0 m pc ls (.int x :: .ref (a + k) :: rest)) :=
  va_put hx hb hts hin ty0 hty hnm hown hK.1 hw wl_D hS k (by rw [wl_at hk, he]) hc j hj hlink (fun x h => by rw [← href]; exact h) hfin (hty j hj) hn hfit hl hdg (fun H1 locs1 hP _ hS1 => kk H1 locs1 (by rw [wl_si hk hset] at hP; exact hP) hS1)
theorem rPutN (hx : p.tables.exec = Jvm.exec) (hb : c.code = cc) {ref C : String} {T : u_T} {N ci index : Nat} (hts : ∀ w ∈ Ts, w.before args s = true) (hin : ∀ w ∈ u_ws C T N, w ∈ Ts) (ty0 : Nat → FieldType) (hty : ∀ k, k < N → parseFieldDescriptor (T k).2.2.1 = some (ty0 k)) (hnm : ∀ a, a < N → ∀ b, b < N → a ≠ b → (T a).2.1 ≠ (T b).2.1) (hown : s.vm.findClass RX5 = some m.cls) (hK : KS D cy s) (hw : HP D cy a M H) (hS : va_S (Aq a) s.heap H locs) {k : Nat} (hk : k < 77) {fs : List Value} (he : ent cy a (M.1 k) (M.2 k) k = .inr (ci, fs)) (hc : vwCl[ci]? = some (C, T, N)) (j : Nat) (hj : j < N) (hlink : (index, ref, (T j).2.1, (T j).2.2.1) ∈ nwF) (href : (T j).1 = ref) (hfin : (T j).2.2.2 = false) {x : Int32} (hn : narrow (ty0 j) (.int x) = .int x) (hfit : fits (ty0 j) (.int x) = true) (hl : j < fs.length) (hset : ent cy a (upd (M.1 k) j x) (M.2 k) k = .inr (ci, fs.set j (.int x))) (hdg : decode cc pc = .ok (.putfield index, 3))
    (kk : ∀ (H1 : Heap) (locs1 : List Loc), HP D cy a (si M k j x) H1 → va_S (Aq a) s.heap H1 locs1 → W p l e R s m args below meth c H1 locs1 cells slots Q (F0 m (pc + 3) ls rest)) : W p l e R s m args below meth c H locs cells slots Q (F0 m pc ls (.int x :: .ref (a + k) :: rest)) :=
  va_putN hx hb hts hin ty0 hty hnm hown hK.1 hw wl_D hS k (by rw [wl_at hk, he]) hc j hj (va_Nw.use (A := args) rfl (hK.2.1 _ hlink)) (fun x h => by rw [← href]; exact h) hfin (hty j hj) hn hfit hl hdg (fun H1 locs1 hP _ hS1 => kk H1 locs1 (by rw [wl_si hk hset] at hP; exact hP) hS1)
theorem rPutR (hx : p.tables.exec = Jvm.exec) (hb : c.code = cc) {ref C : String} {T : u_T} {N ci index : Nat} (hts : ∀ w ∈ Ts, w.before args s = true) (hin : ∀ w ∈ u_ws C T N, w ∈ Ts) (ty0 : Nat → FieldType) (hty : ∀ k, k < N → parseFieldDescriptor (T k).2.2.1 = some (ty0 k)) (hnm : ∀ a, a < N → ∀ b, b < N → a ≠ b → (T a).2.1 ≠ (T b).2.1) (hown : s.vm.findClass own = some m.cls) (hK : KS D cy s) (hw : HP D cy a M H) (hS : va_S (Aq a) s.heap H locs) {k : Nat} (hk : k < 77) {fs : List Value} (he : ent cy a (M.1 k) (M.2 k) k = .inr (ci, fs)) (hc : vwCl[ci]? = some (C, T, N)) (j : Nat) (hj : j < N) (hlink : (Cond.fieldLink own index ref (T j).2.1 (T j).2.2.1).before args s = true) (href : (T j).1 = ref) (hfin : (T j).2.2.2 = false) {K : String} (hob : ty0 j = .object K) {base : Nat} {o : Option Nat} (hl : j < fs.length) (hset : ent cy a (M.1 k) (va_up (M.2 k) j o) k = .inr (ci, fs.set j (rfo a base o))) (hdg : decode cc pc = .ok (.putfield index, 3))
    (kk : ∀ (H1 : Heap) (locs1 : List Loc), HP D cy a (sr M k j o) H1 → va_S (Aq a) s.heap H1 locs1 → W p l e R s m args below meth c H1 locs1 cells slots Q (F0 m (pc + 3) ls rest)) : W p l e R s m args below meth c H locs cells slots Q (F0 m pc ls (rfo a base o :: .ref (a + k) :: rest)) :=
  va_put hx hb hts hin ty0 hty hnm hown hK.1 hw wl_D hS k (by rw [wl_at hk, he]) hc j hj hlink (fun x h => by rw [← href]; exact h) hfin (hty j hj) (by rw [hob]; exact rfo_nar K a base o) (by rw [hob]; exact rfo_fit K a base o) hl hdg (fun H1 locs1 hP _ hS1 => kk H1 locs1 (by rw [wl_sr hk hset] at hP; exact hP) hS1)
theorem rPutRN (hx : p.tables.exec = Jvm.exec) (hb : c.code = cc) {ref C : String} {T : u_T} {N ci index : Nat} (hts : ∀ w ∈ Ts, w.before args s = true) (hin : ∀ w ∈ u_ws C T N, w ∈ Ts) (ty0 : Nat → FieldType) (hty : ∀ k, k < N → parseFieldDescriptor (T k).2.2.1 = some (ty0 k)) (hnm : ∀ a, a < N → ∀ b, b < N → a ≠ b → (T a).2.1 ≠ (T b).2.1) (hown : s.vm.findClass RX5 = some m.cls) (hK : KS D cy s) (hw : HP D cy a M H) (hS : va_S (Aq a) s.heap H locs) {k : Nat} (hk : k < 77) {fs : List Value} (he : ent cy a (M.1 k) (M.2 k) k = .inr (ci, fs)) (hc : vwCl[ci]? = some (C, T, N)) (j : Nat) (hj : j < N) (hlink : (index, ref, (T j).2.1, (T j).2.2.1) ∈ nwF) (href : (T j).1 = ref) (hfin : (T j).2.2.2 = false) {K : String} (hob : ty0 j = .object K) {base : Nat} {o : Option Nat} (hl : j < fs.length) (hset : ent cy a (M.1 k) (va_up (M.2 k) j o) k = .inr (ci, fs.set j (rfo a base o))) (hdg : decode cc pc = .ok (.putfield index, 3))
    (kk : ∀ (H1 : Heap) (locs1 : List Loc), HP D cy a (sr M k j o) H1 → va_S (Aq a) s.heap H1 locs1 → W p l e R s m args below meth c H1 locs1 cells slots Q (F0 m (pc + 3) ls rest)) : W p l e R s m args below meth c H locs cells slots Q (F0 m pc ls (rfo a base o :: .ref (a + k) :: rest)) :=
  va_putN hx hb hts hin ty0 hty hnm hown hK.1 hw wl_D hS k (by rw [wl_at hk, he]) hc j hj (va_Nw.use (A := args) rfl (hK.2.1 _ hlink)) (fun x h => by rw [← href]; exact h) hfin (hty j hj) (by rw [hob]; exact rfo_nar K a base o) (by rw [hob]; exact rfo_fit K a base o) hl hdg (fun H1 locs1 hP _ hS1 => kk H1 locs1 (by rw [wl_sr hk hset] at hP; exact hP) hS1)
theorem rIald (hx : p.tables.exec = Jvm.exec) (hb : c.code = cc) (hK : KS D cy s) (hw : HP D cy a M H) {k : Nat} (hk : k < 77) {n : Nat} (he : ent cy a (M.1 k) (M.2 k) k = .inl (cy 0, n, .inl (M.1 k))) {i : Int32} (hin : ¬ (i < 0 ∨ n ≤ i.toNatClampNeg)) (hdg : decode cc pc = .ok (.iaload, 1))
    (kk : W p l e R s m args below meth c H locs cells slots Q (F0 m (pc + 1) ls (.int (gi M k i.toNatClampNeg) :: rest))) : W p l e R s m args below meth c H locs cells slots Q (F0 m pc ls (.int i :: .ref (a + k) :: rest)) :=
  va_iald (f := M.1 k) hx hb hK.1 hw k 0 (by rw [wl_at hk, he]) rfl hin hdg kk
theorem rIast (hx : p.tables.exec = Jvm.exec) (hb : c.code = cc) (hK : KS D cy s) (hw : HP D cy a M H) (hS : va_S (Aq a) s.heap H locs) {k : Nat} (hk : k < 77) {n : Nat} (he : ∀ r : Nat → Int32, ent cy a r (M.2 k) k = .inl (cy 0, n, .inl r)) {i x : Int32} (hin : ¬ (i < 0 ∨ n ≤ i.toNatClampNeg)) (hdg : decode cc pc = .ok (.iastore, 1))
    (kk : ∀ (H1 : Heap) (locs1 : List Loc), HP D cy a (si M k i.toNatClampNeg x) H1 → va_S (Aq a) s.heap H1 locs1 → W p l e R s m args below meth c H1 locs1 cells slots Q (F0 m (pc + 1) ls rest)) : W p l e R s m args below meth c H locs cells slots Q (F0 m pc ls (.int x :: .int i :: .ref (a + k) :: rest)) :=
  va_iast hx hb hK.1 hw wl_D hS k 0 (by rw [wl_at hk, he]) rfl hin hdg (fun H1 locs1 hP _ hS1 => kk H1 locs1 (by rw [wl_si hk (he _)] at hP; exact hP) hS1)
theorem rAald (hx : p.tables.exec = Jvm.exec) (hb : c.code = cc) (hK : KS D cy s) (hw : HP D cy a M H) {k : Nat} (hk : k < 77) (t0 : Nat) {C : String} {n : Nat} {f : Nat → Nat} {cA : ClassId} (he : ent cy a (M.1 k) (M.2 k) k = .inl (cA, n, .inr (.inr (.inr (.inr (fun j => some (f j))))))) (ht : (tyL cy)[t0]? = some (cA, .object C)) {i : Int32} (hin : ¬ (i < 0 ∨ n ≤ i.toNatClampNeg)) (hdg : decode cc pc = .ok (.aaload, 1))
    (kk : W p l e R s m args below meth c H locs cells slots Q (F0 m (pc + 1) ls (.ref (f i.toNatClampNeg) :: rest))) : W p l e R s m args below meth c H locs cells slots Q (F0 m pc ls (.int i :: .ref (a + k) :: rest)) :=
  va_aldq (f := fun j => some (f j)) hx hb hK.1 hw k t0 (by rw [wl_at hk, he]) ht hin hdg kk
theorem rDer {base i : Nat} {o : Option Nat} (h : o = some i) (kk : W p l e R s m args below meth c H locs cells slots Q (F0 m pc ls (.ref (a + (base + i)) :: rest))) : W p l e R s m args below meth c H locs cells slots Q (F0 m pc ls (rfo a base o :: rest)) := by
  subst h
  exact kk
theorem rAloadQ_n {base : Nat} {o : Option Nat} (hx : p.tables.exec = Jvm.exec) (hb : c.code = cc) {k : Fin 4} {i : Nat} (hdg : decode cc pc = .ok (.aload_n k, 1)) (hi : (k : Nat) = i) (hl : ls[i]? = some (.val (rfo a base o))) (kk : W p l e R s m args below meth c H locs cells slots Q (F0 m (pc + 1) ls (rfo a base o :: rest))) : W p l e R s m args below meth c H locs cells slots Q (F0 m pc ls rest) := by
  cases o with
  | none => exact lv_aload_nN hx hb hdg hi hl kk
  | some x => exact lv_aload_n hx hb hdg hi hl kk
theorem rAloadQ {base : Nat} {o : Option Nat} (hx : p.tables.exec = Jvm.exec) (hb : c.code = cc) {i : Nat} (hdg : decode cc pc = .ok (.aload i, 2)) (hl : ls[i]? = some (.val (rfo a base o))) (kk : W p l e R s m args below meth c H locs cells slots Q (F0 m (pc + 2) ls (rfo a base o :: rest))) : W p l e R s m args below meth c H locs cells slots Q (F0 m pc ls rest) := by
  cases o with
  | none => exact lv_aloadN hx hb hdg hl kk
  | some x => exact lv_aload hx hb hdg hl kk
theorem rAstoreQ_n {base : Nat} {o : Option Nat} (hx : p.tables.exec = Jvm.exec) (hb : c.code = cc) {k : Fin 4} {i nL : Nat} {lv lv' : List (Nat × Value)} (hdg : decode cc pc = .ok (.astore_n k, 1)) (hi : (k : Nat) = i) (h : lv_has ls nL lv) (hn : i < nL) (hl : (i, rfo a base o) :: lv.filter (fun q => !(q.1 == i) && !(q.1 + 1 == i && q.2.category == 2)) = lv') (kk : ∀ ls' : Array Slot, lv_has ls' nL lv' → W p l e R s m args below meth c H locs cells slots Q (F0 m (pc + 1) ls' rest)) : W p l e R s m args below meth c H locs cells slots Q (F0 m pc ls (rfo a base o :: rest)) := by
  cases o with
  | none => exact lv_astore_nN hx hb hdg hi h hn hl kk
  | some x => exact lv_astore_n hx hb hdg hi h hn hl kk
theorem rAstoreQ {base : Nat} {o : Option Nat} (hx : p.tables.exec = Jvm.exec) (hb : c.code = cc) {i nL : Nat} {lv lv' : List (Nat × Value)} (hdg : decode cc pc = .ok (.astore i, 2)) (h : lv_has ls nL lv) (hn : i < nL) (hl : (i, rfo a base o) :: lv.filter (fun q => !(q.1 == i) && !(q.1 + 1 == i && q.2.category == 2)) = lv') (kk : ∀ ls' : Array Slot, lv_has ls' nL lv' → W p l e R s m args below meth c H locs cells slots Q (F0 m (pc + 2) ls' rest)) : W p l e R s m args below meth c H locs cells slots Q (F0 m pc ls (rfo a base o :: rest)) := by
  cases o with
  | none => exact lv_astoreN hx hb hdg h hn hl kk
  | some x => exact lv_astore hx hb hdg h hn hl kk
theorem rNull {base : Nat} {o : Option Nat} (hx : p.tables.exec = Jvm.exec) (hb : c.code = cc) {off : Int} {tgt : Nat} (hdg : decode cc pc = .ok (.ifnull off, 3)) (ht : (pc : Int) + off = (tgt : Int)) (kt : o = none → W p l e R s m args below meth c H locs cells slots Q (F0 m tgt ls rest)) (kf : ¬ o = none → W p l e R s m args below meth c H locs cells slots Q (F0 m (pc + 3) ls rest)) : W p l e R s m args below meth c H locs cells slots Q (F0 m pc ls (rfo a base o :: rest)) := by
  cases o with
  | none => exact lv_ifnullN hx hb hdg ht (kt rfl)
  | some i => exact lv_ifnull hx hb hdg (kf (fun h => nomatch h))
theorem rNonnull {base : Nat} {o : Option Nat} (hx : p.tables.exec = Jvm.exec) (hb : c.code = cc) {off : Int} {tgt : Nat} (hdg : decode cc pc = .ok (.ifnonnull off, 3)) (ht : (pc : Int) + off = (tgt : Int)) (kt : o = none → W p l e R s m args below meth c H locs cells slots Q (F0 m (pc + 3) ls rest)) (kf : ¬ o = none → W p l e R s m args below meth c H locs cells slots Q (F0 m tgt ls rest)) : W p l e R s m args below meth c H locs cells slots Q (F0 m pc ls (rfo a base o :: rest)) := by
  cases o with
  | none => exact lv_ifnonnullN hx hb hdg (kt rfl)
  | some i => exact lv_ifnonnull hx hb hdg ht (kf (fun h => nomatch h))
theorem rAcmpEq {base : Nat} {x y : Option Nat} (hx : p.tables.exec = Jvm.exec) (hb : c.code = cc) {off : Int} {tgt : Nat} (hdg : decode cc pc = .ok (.if_acmp .eq off, 3)) (ht : (pc : Int) + off = (tgt : Int)) (kt : x = y → W p l e R s m args below meth c H locs cells slots Q (F0 m tgt ls rest)) (kf : ¬ x = y → W p l e R s m args below meth c H locs cells slots Q (F0 m (pc + 3) ls rest)) : W p l e R s m args below meth c H locs cells slots Q (F0 m pc ls (rfo a base y :: rfo a base x :: rest)) :=
  lv_acmp_eq hx hb hdg ht (fun h => kt (rfo_inj h)) (fun h => kf (fun e => h (by rw [e])))
theorem rAcmpNe {base : Nat} {x y : Option Nat} (hx : p.tables.exec = Jvm.exec) (hb : c.code = cc) {off : Int} {tgt : Nat} (hdg : decode cc pc = .ok (.if_acmp .ne off, 3)) (ht : (pc : Int) + off = (tgt : Int)) (kt : x = y → W p l e R s m args below meth c H locs cells slots Q (F0 m (pc + 3) ls rest)) (kf : ¬ x = y → W p l e R s m args below meth c H locs cells slots Q (F0 m tgt ls rest)) : W p l e R s m args below meth c H locs cells slots Q (F0 m pc ls (rfo a base y :: rfo a base x :: rest)) :=
  lv_acmp_ne hx hb hdg ht (fun h => kf (fun e => h (by rw [e]))) (fun h => kt (rfo_inj h))
theorem rRecv (hK : KS D cy s) (hw : HP D cy a M H) {k : Nat} (hk : k < 77) {ci : Nat} {fs : List Value} (he : ent cy a (M.1 k) (M.2 k) k = .inr (ci, fs)) {C : String} {T : u_T} {N : Nat} (hc : vwCl[ci]? = some (C, T, N)) : ∃ cell : Cell, H[a + k]? = some cell ∧ cell.vm.isStatics = false ∧ s.vm.findClass C = some cell.cls :=
  va_recv hK.1 hw hc (q0 := k) (by rw [wl_at hk, he])
theorem pBlind {av : List Value} : FrameBlind (Pre D cy a M av) := fun _ _ _ _ h => ⟨h.1, WT.calling h.2⟩
theorem pV (hK : KS D cy s) (hZ : ZZ a s s.heap) (hw : HP D cy a M H) (hS : va_S (Aq a) s.heap H locs) {b : Addr} {C : String} {As : List Value} (hv : ∃ cell : Cell, H[b]? = some cell ∧ cell.vm.isStatics = false ∧ s.vm.findClass C = some cell.cls) : PreV s H C b (Pre D cy a M (.ref b :: As)) As :=
  ⟨pBlind, hv, fun _ hU hW => ⟨rfl, WT.of hw hK hZ hS hU hW⟩⟩
theorem pS (hK : KS D cy s) (hZ : ZZ a s s.heap) (hw : HP D cy a M H) (hS : va_S (Aq a) s.heap H locs) {As : List Value} : PreS s H (Pre D cy a M As) As :=
  ⟨pBlind, fun _ hU hW => ⟨rfl, WT.of hw hK hZ hS hU hW⟩⟩
variable {mc ms : Nat} {st0 : List Value} {av : Array Value} {M1 : Mm}
theorem rCallI {r : Int32} (hr : va_Run p l e R s m args below meth c H locs cells slots mc ms (F0 m pc ls st0) rest (QI D cy a r M1 av) (Aq a)) (hS : va_S (Aq a) s.heap H locs)
    (kk : ∀ (H1 : Heap) (locs1 : List Loc), HP D cy a M1 H1 → va_S (Aq a) s.heap H1 locs1 → W p l e R s m args below meth c H1 locs1 (cells + mc) (slots + ms) Q (F0 m (pc + 3) ls (.int r :: rest))) : W p l e R s m args below meth c H locs cells slots Q (F0 m pc ls st0) :=
  va_calli hr hS (fun _ _ h => h) (fun _ h => h) (fun x _ t H1 locs1 ht _ hp hB _ _ hS1 => by rw [hp]; exact kk H1 locs1 (by rw [← ht]; exact hB) hS1)
theorem rCallB {r : Int32} (hr : va_Run p l e R s m args below meth c H locs cells slots mc ms (F0 m pc ls st0) rest (QB D cy a r M1 av) (Aq a)) (hS : va_S (Aq a) s.heap H locs)
    (kk : ∀ (H1 : Heap) (locs1 : List Loc), HP D cy a M1 H1 → va_S (Aq a) s.heap H1 locs1 → narrow .boolean (.int r) = .int r → W p l e R s m args below meth c H1 locs1 (cells + mc) (slots + ms) Q (F0 m (pc + 3) ls (.int r :: rest))) : W p l e R s m args below meth c H locs cells slots Q (F0 m pc ls st0) :=
  va_calli hr hS (fun _ _ h => h) (fun _ h => h) (fun x _ t H1 locs1 ht _ hp hB _ _ hS1 => by rw [hp.1]; exact kk H1 locs1 (by rw [← ht]; exact hB) hS1 (by rw [← hp.1]; exact hp.2))
theorem rCallV (hr : va_Run p l e R s m args below meth c H locs cells slots mc ms (F0 m pc ls st0) rest (QV D cy a M1 av) (Aq a)) (hS : va_S (Aq a) s.heap H locs)
    (kk : ∀ (H1 : Heap) (locs1 : List Loc), HP D cy a M1 H1 → va_S (Aq a) s.heap H1 locs1 → W p l e R s m args below meth c H1 locs1 (cells + mc) (slots + ms) Q (F0 m (pc + 3) ls rest)) : W p l e R s m args below meth c H locs cells slots Q (F0 m pc ls st0) :=
  va_callv hr hS (fun _ _ h => h) (fun _ h => h) (fun _ t H1 locs1 ht _ _ hB _ _ hS1 => kk H1 locs1 (by rw [← ht]; exact hB) hS1)
theorem rCallR {base : Nat} {r : Option Nat} (hr : va_Run p l e R s m args below meth c H locs cells slots mc ms (F0 m pc ls st0) rest (QR D cy a base r M1 av) (Aq a)) (hS : va_S (Aq a) s.heap H locs)
    (kk : ∀ (H1 : Heap) (locs1 : List Loc), HP D cy a M1 H1 → va_S (Aq a) s.heap H1 locs1 → W p l e R s m args below meth c H1 locs1 (cells + mc) (slots + ms) Q (F0 m (pc + 3) ls (rfo a base r :: rest))) : W p l e R s m args below meth c H locs cells slots Q (F0 m pc ls st0) :=
  va_callq hr hS (fun _ _ h => h) (fun _ h => h) (fun x _ t H1 locs1 ht _ hp hB _ _ hS1 => by rw [hp]; exact kk H1 locs1 (by rw [← ht]; exact hB) hS1)
/-- what the caller gets of a callee that has thrown -/
abbrev XK (p : Program) (l : Launch) (e : Env) (R : Room) (s : State) (m : MethodId) (args : Array Value) (below : List Frame) (meth : Method) (c : Code) (D : va_G) (cy : Nat → ClassId) (a n : Nat) (M : Mm) (cells slots : Nat) (Q : State → Prop) (g : JFrame) : Prop :=
  ∀ (ce : Cell) (q9 : Addr) (H1 : Heap) (locs1 : List Loc), n ≠ 0 → HP D cy a M H1 → va_S (Aq a) s.heap H1 locs1 → H1[q9]? = some ce → ce.vm = .none → s.vm.findClass (exN n) = some ce.cls → vx_W p l e R s m args below meth c H1 locs1 cells slots Q g q9
theorem rxCallI {n : Nat} {r : Int32} (hr : vx_Run p l e R s m args below meth c H locs cells slots mc ms (F0 m pc ls st0) rest (QIx D cy a n r M1 av) (XT D cy a n M1) (Aq a)) (hS : va_S (Aq a) s.heap H locs)
    (kx : XK p l e R s m args below meth c D cy a n M1 (cells + mc) (slots + ms) Q (F0 m pc ls rest))
    (kk : ∀ (H1 : Heap) (locs1 : List Loc), n = 0 → HP D cy a M1 H1 → va_S (Aq a) s.heap H1 locs1 → W p l e R s m args below meth c H1 locs1 (cells + mc) (slots + ms) Q (F0 m (pc + 3) ls (.int r :: rest))) : W p l e R s m args below meth c H locs cells slots Q (F0 m pc ls st0) :=
  vx_calli hr hS (fun _ _ h => h) (fun _ h => h) (fun _ _ h => h) (fun E ce q9 _ t H1 locs1 ht _ hp hB _ _ hS1 h1 h2 h3 => kx ce q9 H1 locs1 hp (by rw [← ht]; exact hB.2) hS1 h1 h2 (by rw [← hB.1]; exact h3)) (fun x _ t H1 locs1 ht _ hp hB _ _ hS1 => by rw [hp.2]; exact kk H1 locs1 hp.1 (by rw [← ht]; exact hB) hS1)
theorem rxCallV {n : Nat} (hr : vx_Run p l e R s m args below meth c H locs cells slots mc ms (F0 m pc ls st0) rest (QVx D cy a n M1 av) (XT D cy a n M1) (Aq a)) (hS : va_S (Aq a) s.heap H locs)
    (kx : XK p l e R s m args below meth c D cy a n M1 (cells + mc) (slots + ms) Q (F0 m pc ls rest))
    (kk : ∀ (H1 : Heap) (locs1 : List Loc), n = 0 → HP D cy a M1 H1 → va_S (Aq a) s.heap H1 locs1 → W p l e R s m args below meth c H1 locs1 (cells + mc) (slots + ms) Q (F0 m (pc + 3) ls rest)) : W p l e R s m args below meth c H locs cells slots Q (F0 m pc ls st0) :=
  vx_callv hr hS (fun _ _ h => h) (fun _ h => h) (fun _ _ h => h) (fun E ce q9 _ t H1 locs1 ht _ hp hB _ _ hS1 h1 h2 h3 => kx ce q9 H1 locs1 hp (by rw [← ht]; exact hB.2) hS1 h1 h2 (by rw [← hB.1]; exact h3)) (fun _ t H1 locs1 ht _ hp hB _ _ hS1 => kk H1 locs1 hp (by rw [← ht]; exact hB) hS1)
/-- not caught here -/
theorem rOut {Qc : Array Value → State → Outcome → State → Prop} {n : Nat} {ce : Cell} {q : Addr} (htb : ∀ x ∈ c.exceptionTable.toList, False) (hlocks : meth.locks = false) (hn : n ≠ 0) (hw : HP D cy a M H) (hS : va_S (Aq a) s.heap H locs) (hcell : H[q]? = some ce) (hv : ce.vm = .none) (hcl : s.vm.findClass (exN n) = some ce.cls) (hc : cells ≤ mc) (hs : slots ≤ ms) :
    vx_W p l e R s m args below meth c H locs cells slots (vx_MQ below Qc (XT D cy a n M) args s mc ms (Aq a)) (F0 m pc ls rest) q :=
  vx_out (fun x hx => (htb x hx).elim) hlocks hcell hv hcl (fun t ht _ => ⟨(), hn, ⟨rfl, (ht ▸ hw : HP D cy a M t.heap)⟩, hS.F ht⟩) hS.2.2 hc hs
/-- the ends -/
theorem rIret {x : Int32} (hx : p.tables.exec = Jvm.exec) (hb : c.code = cc) (hr : meth.sig.returnType = some .int) (hlocks : meth.locks = false) (hw : HP D cy a M H) (hS : va_S (Aq a) s.heap H locs) (hdg : decode cc pc = .ok (.ireturn, 1)) : W p l e R s m args below meth c H locs cells slots (MQ below (QI D cy a x M) args s cells slots (Aq a)) (F0 m pc ls [.int x]) :=
  W.iret hx hb hr (fun t ht _ => ⟨⟨x, (), rfl, rfl, (ht ▸ hw : HP D cy a M t.heap)⟩, hS.F ht⟩) hS.2.2 hdg hlocks
theorem rBret {x : Int32} (hx : p.tables.exec = Jvm.exec) (hb : c.code = cc) (hr : meth.sig.returnType = some .boolean) (hlocks : meth.locks = false) (hw : HP D cy a M H) (hS : va_S (Aq a) s.heap H locs) (hn : narrow .boolean (.int x) = .int x) (hdg : decode cc pc = .ok (.ireturn, 1)) : W p l e R s m args below meth c H locs cells slots (MQ below (QB D cy a x M) args s cells slots (Aq a)) (F0 m pc ls [.int x]) :=
  W.zret hx hb hr hn (fun t ht _ => ⟨⟨x, (), rfl, ⟨rfl, hn⟩, (ht ▸ hw : HP D cy a M t.heap)⟩, hS.F ht⟩) hS.2.2 hdg hlocks
theorem rVret (hx : p.tables.exec = Jvm.exec) (hb : c.code = cc) (hr : meth.sig.returnType = none) (hlocks : meth.locks = false) (hw : HP D cy a M H) (hS : va_S (Aq a) s.heap H locs) (hdg : decode cc pc = .ok (.return_, 1)) : W p l e R s m args below meth c H locs cells slots (MQ below (QV D cy a M) args s cells slots (Aq a)) (F0 m pc ls []) :=
  W.vret hx hb hr (fun t ht _ => ⟨⟨(), rfl, trivial, (ht ▸ hw : HP D cy a M t.heap)⟩, hS.F ht⟩) hS.2.2 hdg hlocks
theorem rRret {base : Nat} {o : Option Nat} {C : String} (hx : p.tables.exec = Jvm.exec) (hb : c.code = cc) (hr : meth.sig.returnType = some (.object C)) (hlocks : meth.locks = false) (hw : HP D cy a M H) (hS : va_S (Aq a) s.heap H locs) (hdg : decode cc pc = .ok (.areturn, 1)) : W p l e R s m args below meth c H locs cells slots (MQ below (QR D cy a base o M) args s cells slots (Aq a)) (F0 m pc ls [rfo a base o]) :=
  W.aret hx hb hr (Or.inl ⟨C, rfl⟩) (by cases o with
    | none => exact Or.inl rfl
    | some i => exact Or.inr ⟨_, rfl⟩) (fun t ht _ => ⟨⟨_, (), rfl, rfl, (ht ▸ hw : HP D cy a M t.heap)⟩, hS.F ht⟩) hS.2.2 hdg hlocks
theorem rxIret {x : Int32} (hx : p.tables.exec = Jvm.exec) (hb : c.code = cc) (hr : meth.sig.returnType = some .int) (hlocks : meth.locks = false) (hw : HP D cy a M H) (hS : va_S (Aq a) s.heap H locs) {XC : String → State → State → Prop} (hdg : decode cc pc = .ok (.ireturn, 1)) : W p l e R s m args below meth c H locs cells slots (vx_MQ below (QIx D cy a 0 x M) XC args s cells slots (Aq a)) (F0 m pc ls [.int x]) :=
  vx_ret (W.iret hx hb hr (fun t ht _ => ⟨⟨x, (), rfl, ⟨rfl, rfl⟩, (ht ▸ hw : HP D cy a M t.heap)⟩, hS.F ht⟩) hS.2.2 hdg hlocks)
theorem rxVret (hx : p.tables.exec = Jvm.exec) (hb : c.code = cc) (hr : meth.sig.returnType = none) (hlocks : meth.locks = false) (hw : HP D cy a M H) (hS : va_S (Aq a) s.heap H locs) {XC : String → State → State → Prop} (hdg : decode cc pc = .ok (.return_, 1)) : W p l e R s m args below meth c H locs cells slots (vx_MQ below (QVx D cy a 0 M) XC args s cells slots (Aq a)) (F0 m pc ls []) :=
  vx_ret (W.vret hx hb hr (fun t ht _ => ⟨⟨(), rfl, rfl, (ht ▸ hw : HP D cy a M t.heap)⟩, hS.F ht⟩) hS.2.2 hdg hlocks)
theorem rMax (hx : p.tables.exec = Jvm.exec) (hb : c.code = cc) {nL : Nat} {lv : List (Nat × Value)} (hml : c.maxLocals = nL) (hl : lv_has ls nL lv) {index : Nat} (hown : s.vm.findClass own = some m.cls) (hlink : (Cond.methodLink own index Lib.Math.max.name).before args s = true) (hstat : (Cond.static Lib.Math.max.name).before args s = true) (hini : (Cond.initialized "java/lang/Math").before args s = true) (hcode : (Cond.code Lib.Math.max.name Lib.Math.max.code 2 (some .int)).before args s = true)
    (hframes : 1 ≤ R.frames) (hlocals : (rest.map fun v => v.category).sum + 13 ≤ R.locals) (hc : cells ≤ R.cells) (hs : slots ≤ R.slots) {x y : Int32} (hdg : decode cc pc = .ok (.invokestatic index, 3))
    (kk : W p l e R s m args below meth c H locs cells slots Q (F0 m (pc + 3) ls (.int (imax x y) :: rest))) : W p l e R s m args below meth c H locs cells slots Q (F0 m pc ls (.int y :: .int x :: rest)) :=
  va_mmax hx hb (hml.trans hl.1.symm) hown hlink hstat hini hcode hframes hlocals hc hs hdg kk
theorem rMin (hx : p.tables.exec = Jvm.exec) (hb : c.code = cc) {nL : Nat} {lv : List (Nat × Value)} (hml : c.maxLocals = nL) (hl : lv_has ls nL lv) {index : Nat} (hown : s.vm.findClass own = some m.cls) (hlink : (Cond.methodLink own index Lib.Math.min.name).before args s = true) (hstat : (Cond.static Lib.Math.min.name).before args s = true) (hini : (Cond.initialized "java/lang/Math").before args s = true) (hcode : (Cond.code Lib.Math.min.name Lib.Math.min.code 2 (some .int)).before args s = true)
    (hframes : 1 ≤ R.frames) (hlocals : (rest.map fun v => v.category).sum + 13 ≤ R.locals) (hc : cells ≤ R.cells) (hs : slots ≤ R.slots) {x y : Int32} (hdg : decode cc pc = .ok (.invokestatic index, 3))
    (kk : W p l e R s m args below meth c H locs cells slots Q (F0 m (pc + 3) ls (.int (imin x y) :: rest))) : W p l e R s m args below meth c H locs cells slots Q (F0 m pc ls (.int y :: .int x :: rest)) :=
  va_mmin hx hb (hml.trans hl.1.symm) hown hlink hstat hini hcode hframes hlocals hc hs hdg kk
/-- 'throw new E("text")' -/
theorem rThrow {Qc : Array Value → State → Outcome → State → Prop} (hx : p.tables.exec = Jvm.exec) (hb : c.code = cc) (hl : l.stackTraces = false) {text : String} {ik is ic : Nat} (n : Nat) (hn : n ≠ 0) (hfit : Bundle.fit (exN n) = true)
    (hts : ∀ w ∈ Ts, w.before args s = true) (hown : s.vm.findClass RX5 = some m.cls) (hK : KS D cy s) (hZ : ZZ a s s.heap) (hw : HP D cy a M H) (hS : va_S (Aq a) s.heap H locs)
    (hk : Cond.classLink RX5 ik (exN n) ∈ Ts) (hini : Cond.initialized (exN n) ∈ Ts) (hstr : (is, text) ∈ nwS)
    (hg : ∀ w ∈ (vx_atS RX5 ic (exN n) ["java/lang/RuntimeException", "java/lang/Exception"]).filter goodWord, w ∈ Ts)
    (hbad : ∀ w ∈ (vx_atS RX5 ic (exN n) ["java/lang/RuntimeException", "java/lang/Exception"]).filter (fun w => !goodWord w), w ∈ (nwC.map (fun q => Cond.castable q q) ++ nwD.map (fun q => Cond.declares q)))
    (hgood : ∀ w ∈ Cond.classLink RX5 ik (exN n) :: Cond.initialized (exN n) :: vx_atS RX5 ic (exN n) ["java/lang/RuntimeException", "java/lang/Exception"], vx_ot w = true)
    {nL : Nat} {lv : List (Nat × Value)} (hml : c.maxLocals = nL) (hlv : lv_has ls nL lv)
    (d0 : decode cc pc = .ok (.new ik, 3)) (d3 : decode cc (pc + 3) = .ok (.dup, 1)) (d4 : decode cc (pc + 4) = .ok (.ldc is, 2)) (d6 : decode cc (pc + 6) = .ok (.invokespecial ic, 3)) (d9 : decode cc (pc + 9) = .ok (.athrow, 1))
    (htb : ∀ x ∈ c.exceptionTable.toList, False) (hRf : 5 < R.frames) (hRl : (rest.map fun v => v.category).sum + 82 ≤ R.locals) (hRc : cells + 1 ≤ R.cells) (hRs : slots + 6 ≤ R.slots) (hlocks : meth.locks = false) (hc : cells + 1 ≤ mc) (hs : slots + 6 ≤ ms) :
    W p l e R s m args below meth c H locs cells slots (vx_MQ below Qc (XT D cy a n M) args s mc ms (Aq a)) (F0 m pc ls rest) := by
  obtain ⟨sa, hsa⟩ := hK.2.2.2.2.2.1 _ hstr
  refine vx_throwS (names := ["java/lang/RuntimeException", "java/lang/Exception"]) (A := Aq a) hx hb hl hown hfit (by decide +kernel) (hts _ hk) (hts _ hini) hsa (vx_hat (fun w h => hts w (hg w h)) hbad (fun w h => ?_)) hgood hZ.1 hZ.2 hS (hlv.1.trans hml.symm) d0 d3 d4 d6 d9 (fun x hx => (htb x hx).elim) hRf hRl hRc hRs hlocks (fun t _ h1 h2 => ⟨(), hn, ⟨rfl, va_P.kept hw (fun k q hk => h2 q.1 ((hw k q hk).lt))⟩, ?_⟩) hS.2.2 hc hs
  · rcases List.mem_append.mp h with h | h
    · obtain ⟨q, hq, rfl⟩ := List.mem_map.mp h
      exact va_Nw.use rfl (hK.2.2.2.1 q hq)
    · obtain ⟨q, hq, rfl⟩ := List.mem_map.mp h
      exact va_Nw.use rfl (hK.2.2.2.2.1 q hq)
  · exact ⟨Nat.le_trans hS.1 h1, fun q hq hA => (h2 q (Nat.lt_of_lt_of_le hq hS.1)).trans (hS.2.1 q hq hA)⟩
end Rw
theorem mOfWH {l : Launch} {y : MethodName} {ws ws' : List Cond} {rm : Room} {Pc : Array Value → State → Prop} {Qc : Array Value → State → Outcome → State → Prop} {mc ms : Nat} {free : Addr → Prop} {cc : ByteArray} {maxL : Nat} {ret : Option FieldType} {hh : List (Nat × Nat × Nat × Nat)}
    (hy : plainName y.cls = true) (hw : ws = Cond.codeWith y cc maxL ret hh :: ws')
    (body : ∀ p e s m args below meth c s₁, BodyLoose p l y (headSpec ws rm) cc maxL ret e s m args below meth c s₁ → c.maxLocals = maxL → Pc args s →
      W p l e (headSpec ws rm).room s m args below meth c s.heap [] 0 0 (MQ below Qc args s mc ms free) (entryFrame m args maxL)) : Met l y ws rm Pc Qc mc ms free := by
  refine MetFree.of_bodyS (code := cc) (maxLocals := maxL) (ret := ret) hy ?_ ?_
  · intro args s m h hn
    obtain ⟨m9, meth, c, hn9, h1, h2, h3, h4, -, h5, h6, -⟩ := Cond.codeWith_spec (atoms_spec (ws := ws) h _ (by rw [hw]; exact List.mem_cons_self))
    cases hn.symm.trans hn9
    exact ⟨meth, c, h1, h2, h3, h4, h5, h6⟩
  · intro p e s m args below meth c s₁ B hml hP _
    have hh0 : s₁.heap = s.heap := by rw [B.state]; rfl
    obtain ⟨t, a1, o, b1, b2, b3⟩ := body p e s m args below meth c s₁ B hml hP s₁ hh0 (Stand.of_body B)
    exact ⟨t, o, a1, b1, b2, ⟨b3.1, b3.2⟩⟩
