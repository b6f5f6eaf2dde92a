noncomputable def fL_law_b132 (xs : Nat → Int32) (L : Nat) (kL23 : Int32 → Mm → Option Int32) (x4 : Int32) (M : Mm) : Option Int32 := (if ¬ ((x4 + (1 : Int32)) < 0 ∨ L ≤ (x4 + (1 : Int32)).toNatClampNeg) then (if ¬ ((x4 + (2 : Int32)) < 0 ∨ L ≤ (x4 + (2 : Int32)).toNatClampNeg) then (if ¬ ((x4 + (3 : Int32)) < 0 ∨ L ≤ (x4 + (3 : Int32)).toNatClampNeg) then ((fL_segment (xs (x4 + (1 : Int32)).toNatClampNeg) (xs (x4 + (2 : Int32)).toNatClampNeg) (xs (x4 + (3 : Int32)).toNatClampNeg) M).bind fun o4 => (if ¬ ((x4 + (1 : Int32)) < 0 ∨ L ≤ (x4 + (1 : Int32)).toNatClampNeg) then (if ¬ ((x4 + (2 : Int32)) < 0 ∨ L ≤ (x4 + (2 : Int32)).toNatClampNeg) then (if ¬ ((x4 + (3 : Int32)) < 0 ∨ L ≤ (x4 + (3 : Int32)).toNatClampNeg) then ((fX6_segment (xs (x4 + (1 : Int32)).toNatClampNeg) (xs (x4 + (2 : Int32)).toNatClampNeg) (xs (x4 + (3 : Int32)).toNatClampNeg) o4.2).bind fun o8 => ((fX6_thrown o8.2).bind fun o9 => (if o9 = o4.1 then (if o4.1 = 0 then (if ¬ ((0 : Int32) < 0 ∨ 1 ≤ (0 : Int32).toNatClampNeg) then (if (lg_cmp (gi o8.2 103 (0 : Int32).toNatClampNeg).toInt64 o8.1.toInt64) = 0 then kL23 (x4 + (6 : Int32)) o8.2 else some (0 : Int32)) else none) else kL23 (x4 + (6 : Int32)) o8.2) else some (0 : Int32)))) else none) else none) else none)) else none) else none) else none)
set_option maxRecDepth 100000 in
set_option maxHeartbeats 4000000 in
theorem bL_law_132 {p : Program} {l : Launch} {e : Env} {s : State} {m : MethodId} {below : List Frame} {meth : Method} {c : Code} {D : va_G} {cy : Nat → ClassId} {b L : Nat} {xs : Nat → Int32} (hL : L ≤ 3072) (C0 : lw_At p s m meth c b L xs) (hK : KS D cy s) (hZ : ZZ s.heap.size s s.heap) (hfl : l.stackTraces = false) (kL23 : Int32 → Mm → Option Int32) (cells slots : Nat) (hc1 : cells + 16 ≤ 601024) (hc2 : slots + 96 ≤ 7293034) (hkL23 : ∀ (x4 : Int32) (M : Mm) (H : Heap) (locs : List Loc) (ls : Array Slot), HP D cy s.heap.size M H → va_S (Aq s.heap.size) s.heap H locs → lv_has ls 7 [(0, .ref b), (1, .ref (s.heap.size + 0)), (2, .ref (s.heap.size + 77)), (3, .ref (s.heap.size + 103)), (4, .int x4)] → kL23 x4 M = some (1 : Int32) → W p l e room_1 s m #[Value.ref b] below meth c H locs (cells + 16) (slots + 96) (lw_Z below #[Value.ref b] s) (F0 m 23 ls [])) : ∀ (x4 : Int32) (M : Mm) (H : Heap) (locs : List Loc) (ls : Array Slot), HP D cy s.heap.size M H → va_S (Aq s.heap.size) s.heap H locs → lv_has ls 7 [(0, .ref b), (1, .ref (s.heap.size + 0)), (2, .ref (s.heap.size + 77)), (3, .ref (s.heap.size + 103)), (4, .int x4)] → fL_law_b132 xs L kL23 x4 M = some (1 : Int32) → W p l e room_1 s m #[Value.ref b] below meth c H locs cells slots (lw_Z below #[Value.ref b] s) (F0 m 132 ls []) := by
  intro x4 M H locs ls hw hS hl hf
  obtain ⟨hx, hb, hr, hml, hown, hts0, hX, hbl, hlocks, hgv⟩ := C0
  have hts : ∀ w ∈ wsL_law, w.before #[Value.ref b] s = true := fun w h => hts0 w (wsL_law_in w h)
  have hbA : ¬ Aq s.heap.size b := Nat.not_le.mpr hbl
  unfold fL_law_b132 at hf
  refine lv_aload_n hx hb dL_law_132 rfl (lv_at hl 1 rfl) ?_
  refine lv_aload_n hx hb dL_law_133 rfl (lv_at hl 0 rfl) ?_
  refine lv_iload hx hb dL_law_134 (lv_at hl 4 rfl) ?_
  refine lv_iconst (v := (1 : Int32)) hx hb dL_law_136 (by decide) ?_
  refine lv_iadd hx hb dL_law_137 ?_
  obtain ⟨hg1, hf⟩ := og hf
  refine va_sld hx hb hX hbl hbA hS hg1 dL_law_138 ?_
  refine lv_aload_n hx hb dL_law_139 rfl (lv_at hl 0 rfl) ?_
  refine lv_iload hx hb dL_law_140 (lv_at hl 4 rfl) ?_
  refine lv_iconst (v := (2 : Int32)) hx hb dL_law_142 (by decide) ?_
  refine lv_iadd hx hb dL_law_143 ?_
  obtain ⟨hg2, hf⟩ := og hf
  refine va_sld hx hb hX hbl hbA hS hg2 dL_law_144 ?_
  refine lv_aload_n hx hb dL_law_145 rfl (lv_at hl 0 rfl) ?_
  refine lv_iload hx hb dL_law_146 (lv_at hl 4 rfl) ?_
  refine lv_iconst (v := (3 : Int32)) hx hb dL_law_148 (by decide) ?_
  refine lv_iadd hx hb dL_law_149 ?_
  obtain ⟨hg3, hf⟩ := og hf
  refine va_sld hx hb hX hbl hbA hS hg3 dL_law_150 ?_
  refine lv_aload_n hx hb dL_law_151 rfl (lv_at hl 3 rfl) ?_
  obtain ⟨o4, ho4, hf⟩ := ob hf
  refine rCallI (vx_runSW (hh := [(0, 12, 15, 13), (0, 12, 19, 15)]) (As := [.ref (s.heap.size + 0), .int (xs (x4 + (1 : Int32)).toNatClampNeg), .int (xs (x4 + (2 : Int32)).toNatClampNeg), .int (xs (x4 + (3 : Int32)).toNatClampNeg), .ref (s.heap.size + 103)]) (rest := []) ⟨hx, hb, hml, hown, hts⟩ (ctL_segment (l := l) (D := D) (cy := cy) (a := s.heap.size) hfl ho4) (vx_cwSW 5 hts gL_law_L_segment rfl rfl rfl (by decide +kernel) ⟨Nat.le_of_ble_eq_true rfl, Nat.le_of_ble_eq_true rfl⟩) (pS hK hZ hw hS) rfl rfl hl.1 rfl (lv_room (Nat.le_of_ble_eq_true rfl)) dL_law_152 ⟨(by show _ ≤ 601024; omega), (by show _ ≤ 7293034; omega)⟩) hS (fun H locs hw hS => ?_)
  refine lv_istore (lv' := [(5, .int o4.1), (0, .ref b), (1, .ref (s.heap.size + 0)), (2, .ref (s.heap.size + 77)), (3, .ref (s.heap.size + 103)), (4, .int x4)]) hx hb dL_law_155 hl (Nat.le_of_ble_eq_true rfl) rfl (fun ls hl => ?_)
  refine lv_aload_n hx hb dL_law_157 rfl (lv_at hl 3 rfl) ?_
  refine lv_aload_n hx hb dL_law_158 rfl (lv_at hl 1 rfl) ?_
  refine lv_iload hx hb dL_law_159 (lv_at hl 5 rfl) ?_
  refine lv_iconst (v := (1 : Int32)) hx hb dL_law_161 (by decide) ?_
  refine lv_iadd hx hb dL_law_162 ?_
  obtain ⟨hg5, hf⟩ := og hf
  refine va_sld hx hb hX hbl hbA hS hg5 dL_law_163 ?_
  refine lv_aload_n hx hb dL_law_164 rfl (lv_at hl 1 rfl) ?_
  refine lv_iload hx hb dL_law_165 (lv_at hl 5 rfl) ?_
  refine lv_iconst (v := (2 : Int32)) hx hb dL_law_167 (by decide) ?_
  refine lv_iadd hx hb dL_law_168 ?_
  obtain ⟨hg6, hf⟩ := og hf
  refine va_sld hx hb hX hbl hbA hS hg6 dL_law_169 ?_
  refine lv_aload_n hx hb dL_law_170 rfl (lv_at hl 1 rfl) ?_
  refine lv_iload hx hb dL_law_171 (lv_at hl 5 rfl) ?_
  refine lv_iconst (v := (3 : Int32)) hx hb dL_law_173 (by decide) ?_
  refine lv_iadd hx hb dL_law_174 ?_
  obtain ⟨hg7, hf⟩ := og hf
  refine va_sld hx hb hX hbl hbA hS hg7 dL_law_175 ?_
  obtain ⟨o8, ho8, hf⟩ := ob hf
  refine rCallI (va_runV (As := [.int (xs (x4 + (1 : Int32)).toNatClampNeg), .int (xs (x4 + (2 : Int32)).toNatClampNeg), .int (xs (x4 + (3 : Int32)).toNatClampNeg)]) (rest := []) ⟨hx, hb, hml, hown, hts⟩ (ctX6_segment (l := l) (D := D) (cy := cy) (a := s.heap.size) ho8) (cwV 3 hts gL_law_X6_segment rfl rfl rfl (by decide +kernel) ⟨Nat.le_of_ble_eq_true rfl, Nat.le_of_ble_eq_true rfl⟩) (pV hK hZ hw hS (rRecv hK hw (Nat.le_of_ble_eq_true rfl) en_model rfl)) rfl rfl hl.1 rfl (lv_room (Nat.le_of_ble_eq_true rfl)) dL_law_176 ⟨(by show _ ≤ 601024; omega), (by show _ ≤ 7293034; omega)⟩) hS (fun H locs hw hS => ?_)
  refine lv_istore (lv' := [(6, .int o8.1), (5, .int o4.1), (0, .ref b), (1, .ref (s.heap.size + 0)), (2, .ref (s.heap.size + 77)), (3, .ref (s.heap.size + 103)), (4, .int x4)]) hx hb dL_law_179 hl (Nat.le_of_ble_eq_true rfl) rfl (fun ls hl => ?_)
  refine lv_aload_n hx hb dL_law_181 rfl (lv_at hl 4 rfl) ?_
  obtain ⟨o9, ho9, hf⟩ := ob hf
  refine rCallI (va_runV (As := []) (rest := []) ⟨hx, hb, hml, hown, hts⟩ (ctX6_thrown (l := l) (D := D) (cy := cy) (a := s.heap.size) ho9) (cwV 0 hts gL_law_X6_thrown rfl rfl rfl (by decide +kernel) ⟨Nat.le_of_ble_eq_true rfl, Nat.le_of_ble_eq_true rfl⟩) (pV hK hZ hw hS (rRecv hK hw (Nat.le_of_ble_eq_true rfl) en_model rfl)) rfl rfl hl.1 rfl (lv_room (Nat.le_of_ble_eq_true rfl)) dL_law_182 ⟨(by show _ ≤ 601024; omega), (by show _ ≤ 7293034; omega)⟩) hS (fun H locs hw hS => ?_)
  refine lv_iload hx hb dL_law_185 (lv_at hl 1 rfl) ?_
  refine lv_icmp_eq (tgt := 192) hx hb dL_law_187 (by decide) (fun c10 => ?_) (fun c10 => ?_)
  · have hf := ip c10 hf
    refine lv_iload hx hb dL_law_192 (lv_at hl 1 rfl) ?_
    refine lv_if_ne (tgt := 209) hx hb dL_law_194 (by decide) (fun c11 => ?_) (fun c11 => ?_)
    · have hf := iq c11 hf
      refine lv_goto (tgt := 1284) hx hb dL_law_209 (by decide) ?_
      refine lv_iinc (v := x4 + (6 : Int32)) (lv' := [(4, .int (x4 + (6 : Int32))), (6, .int o8.1), (5, .int o4.1), (0, .ref b), (1, .ref (s.heap.size + 0)), (2, .ref (s.heap.size + 77)), (3, .ref (s.heap.size + 103))]) hx hb dL_law_1284 hl (k := 6) rfl rfl (Nat.le_of_ble_eq_true rfl) rfl (fun ls hl => ?_)
      refine lv_goto (tgt := 23) hx hb dL_law_1287 (by decide) ?_
      refine W.widen (k := cells + 16) (n := slots + 96) (by omega) (by omega) ?_
      exact hkL23 _ _ _ _ _ hw hS (lv_sub hl [3, 4, 5, 6, 0] rfl) hf
    · have hf := ip c11 hf
      refine lv_aload_n hx hb dL_law_197 rfl (lv_at hl 5 rfl) ?_
      refine lv_iconst (v := (0 : Int32)) hx hb dL_law_198 (by decide) ?_
      obtain ⟨hg12, hf⟩ := og hf
      refine rLald hx hb hK hw hg12 dL_law_199 ?_
      refine lv_iload hx hb dL_law_200 (lv_at hl 0 rfl) ?_
      refine lv_i2l hx hb dL_law_202 rfl ?_
      refine W.lcmp hx hb dL_law_203 ?_
      refine lv_if_eq (tgt := 209) hx hb dL_law_204 (by decide) (fun c13 => ?_) (fun c13 => ?_)
      · have hf := ip c13 hf
        refine lv_goto (tgt := 1284) hx hb dL_law_209 (by decide) ?_
        refine lv_iinc (v := x4 + (6 : Int32)) (lv' := [(4, .int (x4 + (6 : Int32))), (6, .int o8.1), (5, .int o4.1), (0, .ref b), (1, .ref (s.heap.size + 0)), (2, .ref (s.heap.size + 77)), (3, .ref (s.heap.size + 103))]) hx hb dL_law_1284 hl (k := 6) rfl rfl (Nat.le_of_ble_eq_true rfl) rfl (fun ls hl => ?_)
        refine lv_goto (tgt := 23) hx hb dL_law_1287 (by decide) ?_
        refine W.widen (k := cells + 16) (n := slots + 96) (by omega) (by omega) ?_
        exact hkL23 _ _ _ _ _ hw hS (lv_sub hl [3, 4, 5, 6, 0] rfl) hf
      · have hf := iq c13 hf
        refine lv_iconst (v := (0 : Int32)) hx hb dL_law_207 (by decide) ?_
        exact absurd (Option.some.inj hf) (by decide)
  · have hf := iq c10 hf
    refine lv_iconst (v := (0 : Int32)) hx hb dL_law_190 (by decide) ?_
    exact absurd (Option.some.inj hf) (by decide)
noncomputable def fL_law_b212 (xs : Nat → Int32) (L : Nat) (kL23 : Int32 → Mm → Option Int32) (x4 : Int32) (M : Mm) : Option Int32 := (if ¬ ((x4 + (1 : Int32)) < 0 ∨ L ≤ (x4 + (1 : Int32)).toNatClampNeg) then (if ¬ ((x4 + (2 : Int32)) < 0 ∨ L ≤ (x4 + (2 : Int32)).toNatClampNeg) then (if ¬ ((x4 + (3 : Int32)) < 0 ∨ L ≤ (x4 + (3 : Int32)).toNatClampNeg) then (if ¬ ((x4 + (4 : Int32)) < 0 ∨ L ≤ (x4 + (4 : Int32)).toNatClampNeg) then (if ¬ ((x4 + (5 : Int32)) < 0 ∨ L ≤ (x4 + (5 : Int32)).toNatClampNeg) then ((fL_product (xs (x4 + (1 : Int32)).toNatClampNeg) (xs (x4 + (2 : Int32)).toNatClampNeg) (xs (x4 + (3 : Int32)).toNatClampNeg) (xs (x4 + (4 : Int32)).toNatClampNeg) (xs (x4 + (5 : Int32)).toNatClampNeg) M).bind fun o6 => (if ¬ ((x4 + (1 : Int32)) < 0 ∨ L ≤ (x4 + (1 : Int32)).toNatClampNeg) then (if ¬ ((x4 + (2 : Int32)) < 0 ∨ L ≤ (x4 + (2 : Int32)).toNatClampNeg) then (if ¬ ((x4 + (3 : Int32)) < 0 ∨ L ≤ (x4 + (3 : Int32)).toNatClampNeg) then (if ¬ ((x4 + (4 : Int32)) < 0 ∨ L ≤ (x4 + (4 : Int32)).toNatClampNeg) then (if ¬ ((x4 + (5 : Int32)) < 0 ∨ L ≤ (x4 + (5 : Int32)).toNatClampNeg) then ((fX6_product (xs (x4 + (1 : Int32)).toNatClampNeg) (xs (x4 + (2 : Int32)).toNatClampNeg) (xs (x4 + (3 : Int32)).toNatClampNeg) (xs (x4 + (4 : Int32)).toNatClampNeg) (xs (x4 + (5 : Int32)).toNatClampNeg) o6.2).bind fun o12 => ((fX6_thrown o12).bind fun o13 => (if o13 = o6.1 then kL23 (x4 + (6 : Int32)) o12 else some (0 : Int32)))) else none) else none) else none) else none) else none)) else none) else none) else none) else none) else none)
set_option maxRecDepth 100000 in
set_option maxHeartbeats 4000000 in
theorem bL_law_212 {p : Program} {l : Launch} {e : Env} {s : State} {m : MethodId} {below : List Frame} {meth : Method} {c : Code} {D : va_G} {cy : Nat → ClassId} {b L : Nat} {xs : Nat → Int32} (hL : L ≤ 3072) (C0 : lw_At p s m meth c b L xs) (hK : KS D cy s) (hZ : ZZ s.heap.size s s.heap) (hfl : l.stackTraces = false) (kL23 : Int32 → Mm → Option Int32) (cells slots : Nat) (hc1 : cells + 16 ≤ 601024) (hc2 : slots + 96 ≤ 7293034) (hkL23 : ∀ (x4 : Int32) (M : Mm) (H : Heap) (locs : List Loc) (ls : Array Slot), HP D cy s.heap.size M H → va_S (Aq s.heap.size) s.heap H locs → lv_has ls 7 [(0, .ref b), (1, .ref (s.heap.size + 0)), (2, .ref (s.heap.size + 77)), (3, .ref (s.heap.size + 103)), (4, .int x4)] → kL23 x4 M = some (1 : Int32) → W p l e room_1 s m #[Value.ref b] below meth c H locs (cells + 16) (slots + 96) (lw_Z below #[Value.ref b] s) (F0 m 23 ls [])) : ∀ (x4 : Int32) (M : Mm) (H : Heap) (locs : List Loc) (ls : Array Slot), HP D cy s.heap.size M H → va_S (Aq s.heap.size) s.heap H locs → lv_has ls 7 [(0, .ref b), (1, .ref (s.heap.size + 0)), (2, .ref (s.heap.size + 77)), (3, .ref (s.heap.size + 103)), (4, .int x4)] → fL_law_b212 xs L kL23 x4 M = some (1 : Int32) → W p l e room_1 s m #[Value.ref b] below meth c H locs cells slots (lw_Z below #[Value.ref b] s) (F0 m 212 ls []) := by
  intro x4 M H locs ls hw hS hl hf
  obtain ⟨hx, hb, hr, hml, hown, hts0, hX, hbl, hlocks, hgv⟩ := C0
  have hts : ∀ w ∈ wsL_law, w.before #[Value.ref b] s = true := fun w h => hts0 w (wsL_law_in w h)
  have hbA : ¬ Aq s.heap.size b := Nat.not_le.mpr hbl
  unfold fL_law_b212 at hf
  refine lv_aload_n hx hb dL_law_212 rfl (lv_at hl 1 rfl) ?_
  refine lv_aload_n hx hb dL_law_213 rfl (lv_at hl 0 rfl) ?_
  refine lv_iload hx hb dL_law_214 (lv_at hl 4 rfl) ?_
  refine lv_iconst (v := (1 : Int32)) hx hb dL_law_216 (by decide) ?_
  refine lv_iadd hx hb dL_law_217 ?_
  obtain ⟨hg1, hf⟩ := og hf
  refine va_sld hx hb hX hbl hbA hS hg1 dL_law_218 ?_
  refine lv_aload_n hx hb dL_law_219 rfl (lv_at hl 0 rfl) ?_
  refine lv_iload hx hb dL_law_220 (lv_at hl 4 rfl) ?_
  refine lv_iconst (v := (2 : Int32)) hx hb dL_law_222 (by decide) ?_
  refine lv_iadd hx hb dL_law_223 ?_
  obtain ⟨hg2, hf⟩ := og hf
  refine va_sld hx hb hX hbl hbA hS hg2 dL_law_224 ?_
  refine lv_aload_n hx hb dL_law_225 rfl (lv_at hl 0 rfl) ?_
  refine lv_iload hx hb dL_law_226 (lv_at hl 4 rfl) ?_
  refine lv_iconst (v := (3 : Int32)) hx hb dL_law_228 (by decide) ?_
  refine lv_iadd hx hb dL_law_229 ?_
  obtain ⟨hg3, hf⟩ := og hf
  refine va_sld hx hb hX hbl hbA hS hg3 dL_law_230 ?_
  refine lv_aload_n hx hb dL_law_231 rfl (lv_at hl 0 rfl) ?_
  refine lv_iload hx hb dL_law_232 (lv_at hl 4 rfl) ?_
  refine lv_iconst (v := (4 : Int32)) hx hb dL_law_234 (by decide) ?_
  refine lv_iadd hx hb dL_law_235 ?_
  obtain ⟨hg4, hf⟩ := og hf
  refine va_sld hx hb hX hbl hbA hS hg4 dL_law_236 ?_
  refine lv_aload_n hx hb dL_law_237 rfl (lv_at hl 0 rfl) ?_
  refine lv_iload hx hb dL_law_238 (lv_at hl 4 rfl) ?_
  refine lv_iconst (v := (5 : Int32)) hx hb dL_law_240 (by decide) ?_
  refine lv_iadd hx hb dL_law_241 ?_
  obtain ⟨hg5, hf⟩ := og hf
  refine va_sld hx hb hX hbl hbA hS hg5 dL_law_242 ?_
  obtain ⟨o6, ho6, hf⟩ := ob hf
  refine rCallI (vx_runSW (hh := [(0, 11, 14, 21), (0, 11, 18, 13)]) (As := [.ref (s.heap.size + 0), .int (xs (x4 + (1 : Int32)).toNatClampNeg), .int (xs (x4 + (2 : Int32)).toNatClampNeg), .int (xs (x4 + (3 : Int32)).toNatClampNeg), .int (xs (x4 + (4 : Int32)).toNatClampNeg), .int (xs (x4 + (5 : Int32)).toNatClampNeg)]) (rest := []) ⟨hx, hb, hml, hown, hts⟩ (ctL_product (l := l) (D := D) (cy := cy) (a := s.heap.size) hfl ho6) (vx_cwSW 6 hts gL_law_L_product rfl rfl rfl (by decide +kernel) ⟨Nat.le_of_ble_eq_true rfl, Nat.le_of_ble_eq_true rfl⟩) (pS hK hZ hw hS) rfl rfl hl.1 rfl (lv_room (Nat.le_of_ble_eq_true rfl)) dL_law_243 ⟨(by show _ ≤ 601024; omega), (by show _ ≤ 7293034; omega)⟩) hS (fun H locs hw hS => ?_)
  refine lv_istore (lv' := [(5, .int o6.1), (0, .ref b), (1, .ref (s.heap.size + 0)), (2, .ref (s.heap.size + 77)), (3, .ref (s.heap.size + 103)), (4, .int x4)]) hx hb dL_law_246 hl (Nat.le_of_ble_eq_true rfl) rfl (fun ls hl => ?_)
  refine lv_aload_n hx hb dL_law_248 rfl (lv_at hl 3 rfl) ?_
  refine lv_aload_n hx hb dL_law_249 rfl (lv_at hl 1 rfl) ?_
  refine lv_iload hx hb dL_law_250 (lv_at hl 5 rfl) ?_
  refine lv_iconst (v := (1 : Int32)) hx hb dL_law_252 (by decide) ?_
  refine lv_iadd hx hb dL_law_253 ?_
  obtain ⟨hg7, hf⟩ := og hf
  refine va_sld hx hb hX hbl hbA hS hg7 dL_law_254 ?_
  refine lv_aload_n hx hb dL_law_255 rfl (lv_at hl 1 rfl) ?_
  refine lv_iload hx hb dL_law_256 (lv_at hl 5 rfl) ?_
  refine lv_iconst (v := (2 : Int32)) hx hb dL_law_258 (by decide) ?_
  refine lv_iadd hx hb dL_law_259 ?_
  obtain ⟨hg8, hf⟩ := og hf
  refine va_sld hx hb hX hbl hbA hS hg8 dL_law_260 ?_
  refine lv_aload_n hx hb dL_law_261 rfl (lv_at hl 1 rfl) ?_
  refine lv_iload hx hb dL_law_262 (lv_at hl 5 rfl) ?_
  refine lv_iconst (v := (3 : Int32)) hx hb dL_law_264 (by decide) ?_
  refine lv_iadd hx hb dL_law_265 ?_
  obtain ⟨hg9, hf⟩ := og hf
  refine va_sld hx hb hX hbl hbA hS hg9 dL_law_266 ?_
  refine lv_aload_n hx hb dL_law_267 rfl (lv_at hl 1 rfl) ?_
  refine lv_iload hx hb dL_law_268 (lv_at hl 5 rfl) ?_
  refine lv_iconst (v := (4 : Int32)) hx hb dL_law_270 (by decide) ?_
  refine lv_iadd hx hb dL_law_271 ?_
  obtain ⟨hg10, hf⟩ := og hf
  refine va_sld hx hb hX hbl hbA hS hg10 dL_law_272 ?_
  refine lv_aload_n hx hb dL_law_273 rfl (lv_at hl 1 rfl) ?_
  refine lv_iload hx hb dL_law_274 (lv_at hl 5 rfl) ?_
  refine lv_iconst (v := (5 : Int32)) hx hb dL_law_276 (by decide) ?_
  refine lv_iadd hx hb dL_law_277 ?_
  obtain ⟨hg11, hf⟩ := og hf
  refine va_sld hx hb hX hbl hbA hS hg11 dL_law_278 ?_
  obtain ⟨o12, ho12, hf⟩ := ob hf
  refine rCallV (va_runV (As := [.int (xs (x4 + (1 : Int32)).toNatClampNeg), .int (xs (x4 + (2 : Int32)).toNatClampNeg), .int (xs (x4 + (3 : Int32)).toNatClampNeg), .int (xs (x4 + (4 : Int32)).toNatClampNeg), .int (xs (x4 + (5 : Int32)).toNatClampNeg)]) (rest := []) ⟨hx, hb, hml, hown, hts⟩ (ctX6_product (l := l) (D := D) (cy := cy) (a := s.heap.size) ho12) (cwV 5 hts gL_law_X6_product rfl rfl rfl (by decide +kernel) ⟨Nat.le_of_ble_eq_true rfl, Nat.le_of_ble_eq_true rfl⟩) (pV hK hZ hw hS (rRecv hK hw (Nat.le_of_ble_eq_true rfl) en_model rfl)) rfl rfl hl.1 rfl (lv_room (Nat.le_of_ble_eq_true rfl)) dL_law_279 ⟨(by show _ ≤ 601024; omega), (by show _ ≤ 7293034; omega)⟩) hS (fun H locs hw hS => ?_)
  refine lv_aload_n hx hb dL_law_282 rfl (lv_at hl 3 rfl) ?_
  obtain ⟨o13, ho13, hf⟩ := ob hf
  refine rCallI (va_runV (As := []) (rest := []) ⟨hx, hb, hml, hown, hts⟩ (ctX6_thrown (l := l) (D := D) (cy := cy) (a := s.heap.size) ho13) (cwV 0 hts gL_law_X6_thrown rfl rfl rfl (by decide +kernel) ⟨Nat.le_of_ble_eq_true rfl, Nat.le_of_ble_eq_true rfl⟩) (pV hK hZ hw hS (rRecv hK hw (Nat.le_of_ble_eq_true rfl) en_model rfl)) rfl rfl hl.1 rfl (lv_room (Nat.le_of_ble_eq_true rfl)) dL_law_283 ⟨(by show _ ≤ 601024; omega), (by show _ ≤ 7293034; omega)⟩) hS (fun H locs hw hS => ?_)
  refine lv_iload hx hb dL_law_286 (lv_at hl 0 rfl) ?_
  refine lv_icmp_eq (tgt := 293) hx hb dL_law_288 (by decide) (fun c14 => ?_) (fun c14 => ?_)
  · have hf := ip c14 hf
    refine lv_goto (tgt := 1284) hx hb dL_law_293 (by decide) ?_
    refine lv_iinc (v := x4 + (6 : Int32)) (lv' := [(4, .int (x4 + (6 : Int32))), (5, .int o6.1), (0, .ref b), (1, .ref (s.heap.size + 0)), (2, .ref (s.heap.size + 77)), (3, .ref (s.heap.size + 103))]) hx hb dL_law_1284 hl (k := 5) rfl rfl (Nat.le_of_ble_eq_true rfl) rfl (fun ls hl => ?_)
    refine lv_goto (tgt := 23) hx hb dL_law_1287 (by decide) ?_
    refine W.widen (k := cells + 16) (n := slots + 96) (by omega) (by omega) ?_
    exact hkL23 _ _ _ _ _ hw hS (lv_sub hl [2, 3, 4, 5, 0] rfl) hf
  · have hf := iq c14 hf
    refine lv_iconst (v := (0 : Int32)) hx hb dL_law_291 (by decide) ?_
    exact absurd (Option.some.inj hf) (by decide)
noncomputable def fL_law_b296 (xs : Nat → Int32) (L : Nat) (kL23 : Int32 → Mm → Option Int32) (x4 : Int32) (M : Mm) : Option Int32 := (if ¬ ((x4 + (1 : Int32)) < 0 ∨ L ≤ (x4 + (1 : Int32)).toNatClampNeg) then ((fL_open (xs (x4 + (1 : Int32)).toNatClampNeg) M).bind fun o2 => (if ¬ ((x4 + (1 : Int32)) < 0 ∨ L ≤ (x4 + (1 : Int32)).toNatClampNeg) then ((fX6_open (xs (x4 + (1 : Int32)).toNatClampNeg) o2.2).bind fun o4 => ((fX6_thrown o4.2).bind fun o5 => (if o5 = o2.1 then (if o2.1 = 0 then (if ¬ ((0 : Int32) < 0 ∨ 1 ≤ (0 : Int32).toNatClampNeg) then (if (lg_cmp (gi o4.2 103 (0 : Int32).toNatClampNeg).toInt64 o4.1.toInt64) = 0 then kL23 (x4 + (6 : Int32)) o4.2 else some (0 : Int32)) else none) else kL23 (x4 + (6 : Int32)) o4.2) else some (0 : Int32)))) else none)) else none)
set_option maxRecDepth 100000 in
set_option maxHeartbeats 4000000 in
theorem bL_law_296 {p : Program} {l : Launch} {e : Env} {s : State} {m : MethodId} {below : List Frame} {meth : Method} {c : Code} {D : va_G} {cy : Nat → ClassId} {b L : Nat} {xs : Nat → Int32} (hL : L ≤ 3072) (C0 : lw_At p s m meth c b L xs) (hK : KS D cy s) (hZ : ZZ s.heap.size s s.heap) (hfl : l.stackTraces = false) (kL23 : Int32 → Mm → Option Int32) (cells slots : Nat) (hc1 : cells + 16 ≤ 601024) (hc2 : slots + 96 ≤ 7293034) (hkL23 : ∀ (x4 : Int32) (M : Mm) (H : Heap) (locs : List Loc) (ls : Array Slot), HP D cy s.heap.size M H → va_S (Aq s.heap.size) s.heap H locs → lv_has ls 7 [(0, .ref b), (1, .ref (s.heap.size + 0)), (2, .ref (s.heap.size + 77)), (3, .ref (s.heap.size + 103)), (4, .int x4)] → kL23 x4 M = some (1 : Int32) → W p l e room_1 s m #[Value.ref b] below meth c H locs (cells + 16) (slots + 96) (lw_Z below #[Value.ref b] s) (F0 m 23 ls [])) : ∀ (x4 : Int32) (M : Mm) (H : Heap) (locs : List Loc) (ls : Array Slot), HP D cy s.heap.size M H → va_S (Aq s.heap.size) s.heap H locs → lv_has ls 7 [(0, .ref b), (1, .ref (s.heap.size + 0)), (2, .ref (s.heap.size + 77)), (3, .ref (s.heap.size + 103)), (4, .int x4)] → fL_law_b296 xs L kL23 x4 M = some (1 : Int32) → W p l e room_1 s m #[Value.ref b] below meth c H locs cells slots (lw_Z below #[Value.ref b] s) (F0 m 296 ls []) := by
  intro x4 M H locs ls hw hS hl hf
  obtain ⟨hx, hb, hr, hml, hown, hts0, hX, hbl, hlocks, hgv⟩ := C0
  have hts : ∀ w ∈ wsL_law, w.before #[Value.ref b] s = true := fun w h => hts0 w (wsL_law_in w h)
  have hbA : ¬ Aq s.heap.size b := Nat.not_le.mpr hbl
  unfold fL_law_b296 at hf
  refine lv_aload_n hx hb dL_law_296 rfl (lv_at hl 1 rfl) ?_
  refine lv_aload_n hx hb dL_law_297 rfl (lv_at hl 0 rfl) ?_
  refine lv_iload hx hb dL_law_298 (lv_at hl 4 rfl) ?_
  refine lv_iconst (v := (1 : Int32)) hx hb dL_law_300 (by decide) ?_
  refine lv_iadd hx hb dL_law_301 ?_
  obtain ⟨hg1, hf⟩ := og hf
  refine va_sld hx hb hX hbl hbA hS hg1 dL_law_302 ?_
  refine lv_aload_n hx hb dL_law_303 rfl (lv_at hl 3 rfl) ?_
  obtain ⟨o2, ho2, hf⟩ := ob hf
  refine rCallI (vx_runSW (hh := [(0, 9, 12, 21), (0, 9, 15, 15)]) (As := [.ref (s.heap.size + 0), .int (xs (x4 + (1 : Int32)).toNatClampNeg), .ref (s.heap.size + 103)]) (rest := []) ⟨hx, hb, hml, hown, hts⟩ (ctL_open (l := l) (D := D) (cy := cy) (a := s.heap.size) hfl ho2) (vx_cwSW 3 hts gL_law_L_open rfl rfl rfl (by decide +kernel) ⟨Nat.le_of_ble_eq_true rfl, Nat.le_of_ble_eq_true rfl⟩) (pS hK hZ hw hS) rfl rfl hl.1 rfl (lv_room (Nat.le_of_ble_eq_true rfl)) dL_law_304 ⟨(by show _ ≤ 601024; omega), (by show _ ≤ 7293034; omega)⟩) hS (fun H locs hw hS => ?_)
  refine lv_istore (lv' := [(5, .int o2.1), (0, .ref b), (1, .ref (s.heap.size + 0)), (2, .ref (s.heap.size + 77)), (3, .ref (s.heap.size + 103)), (4, .int x4)]) hx hb dL_law_307 hl (Nat.le_of_ble_eq_true rfl) rfl (fun ls hl => ?_)
  refine lv_aload_n hx hb dL_law_309 rfl (lv_at hl 3 rfl) ?_
  refine lv_aload_n hx hb dL_law_310 rfl (lv_at hl 1 rfl) ?_
  refine lv_iload hx hb dL_law_311 (lv_at hl 5 rfl) ?_
  refine lv_iconst (v := (1 : Int32)) hx hb dL_law_313 (by decide) ?_
  refine lv_iadd hx hb dL_law_314 ?_
  obtain ⟨hg3, hf⟩ := og hf
  refine va_sld hx hb hX hbl hbA hS hg3 dL_law_315 ?_
  obtain ⟨o4, ho4, hf⟩ := ob hf
  refine rCallI (va_runV (As := [.int (xs (x4 + (1 : Int32)).toNatClampNeg)]) (rest := []) ⟨hx, hb, hml, hown, hts⟩ (ctX6_open (l := l) (D := D) (cy := cy) (a := s.heap.size) ho4) (cwV 1 hts gL_law_X6_open rfl rfl rfl (by decide +kernel) ⟨Nat.le_of_ble_eq_true rfl, Nat.le_of_ble_eq_true rfl⟩) (pV hK hZ hw hS (rRecv hK hw (Nat.le_of_ble_eq_true rfl) en_model rfl)) rfl rfl hl.1 rfl (lv_room (Nat.le_of_ble_eq_true rfl)) dL_law_316 ⟨(by show _ ≤ 601024; omega), (by show _ ≤ 7293034; omega)⟩) hS (fun H locs hw hS => ?_)
  refine lv_istore (lv' := [(6, .int o4.1), (5, .int o2.1), (0, .ref b), (1, .ref (s.heap.size + 0)), (2, .ref (s.heap.size + 77)), (3, .ref (s.heap.size + 103)), (4, .int x4)]) hx hb dL_law_319 hl (Nat.le_of_ble_eq_true rfl) rfl (fun ls hl => ?_)
  refine lv_aload_n hx hb dL_law_321 rfl (lv_at hl 4 rfl) ?_
  obtain ⟨o5, ho5, hf⟩ := ob hf
  refine rCallI (va_runV (As := []) (rest := []) ⟨hx, hb, hml, hown, hts⟩ (ctX6_thrown (l := l) (D := D) (cy := cy) (a := s.heap.size) ho5) (cwV 0 hts gL_law_X6_thrown rfl rfl rfl (by decide +kernel) ⟨Nat.le_of_ble_eq_true rfl, Nat.le_of_ble_eq_true rfl⟩) (pV hK hZ hw hS (rRecv hK hw (Nat.le_of_ble_eq_true rfl) en_model rfl)) rfl rfl hl.1 rfl (lv_room (Nat.le_of_ble_eq_true rfl)) dL_law_322 ⟨(by show _ ≤ 601024; omega), (by show _ ≤ 7293034; omega)⟩) hS (fun H locs hw hS => ?_)
  refine lv_iload hx hb dL_law_325 (lv_at hl 1 rfl) ?_
  refine lv_icmp_eq (tgt := 332) hx hb dL_law_327 (by decide) (fun c6 => ?_) (fun c6 => ?_)
  · have hf := ip c6 hf
    refine lv_iload hx hb dL_law_332 (lv_at hl 1 rfl) ?_
    refine lv_if_ne (tgt := 349) hx hb dL_law_334 (by decide) (fun c7 => ?_) (fun c7 => ?_)
    · have hf := iq c7 hf
      refine lv_goto (tgt := 1284) hx hb dL_law_349 (by decide) ?_
      refine lv_iinc (v := x4 + (6 : Int32)) (lv' := [(4, .int (x4 + (6 : Int32))), (6, .int o4.1), (5, .int o2.1), (0, .ref b), (1, .ref (s.heap.size + 0)), (2, .ref (s.heap.size + 77)), (3, .ref (s.heap.size + 103))]) hx hb dL_law_1284 hl (k := 6) rfl rfl (Nat.le_of_ble_eq_true rfl) rfl (fun ls hl => ?_)
      refine lv_goto (tgt := 23) hx hb dL_law_1287 (by decide) ?_
      refine W.widen (k := cells + 16) (n := slots + 96) (by omega) (by omega) ?_
      exact hkL23 _ _ _ _ _ hw hS (lv_sub hl [3, 4, 5, 6, 0] rfl) hf
    · have hf := ip c7 hf
      refine lv_aload_n hx hb dL_law_337 rfl (lv_at hl 5 rfl) ?_
      refine lv_iconst (v := (0 : Int32)) hx hb dL_law_338 (by decide) ?_
      obtain ⟨hg8, hf⟩ := og hf
      refine rLald hx hb hK hw hg8 dL_law_339 ?_
      refine lv_iload hx hb dL_law_340 (lv_at hl 0 rfl) ?_
      refine lv_i2l hx hb dL_law_342 rfl ?_
      refine W.lcmp hx hb dL_law_343 ?_
      refine lv_if_eq (tgt := 349) hx hb dL_law_344 (by decide) (fun c9 => ?_) (fun c9 => ?_)
      · have hf := ip c9 hf
        refine lv_goto (tgt := 1284) hx hb dL_law_349 (by decide) ?_
        refine lv_iinc (v := x4 + (6 : Int32)) (lv' := [(4, .int (x4 + (6 : Int32))), (6, .int o4.1), (5, .int o2.1), (0, .ref b), (1, .ref (s.heap.size + 0)), (2, .ref (s.heap.size + 77)), (3, .ref (s.heap.size + 103))]) hx hb dL_law_1284 hl (k := 6) rfl rfl (Nat.le_of_ble_eq_true rfl) rfl (fun ls hl => ?_)
        refine lv_goto (tgt := 23) hx hb dL_law_1287 (by decide) ?_
        refine W.widen (k := cells + 16) (n := slots + 96) (by omega) (by omega) ?_
        exact hkL23 _ _ _ _ _ hw hS (lv_sub hl [3, 4, 5, 6, 0] rfl) hf
      · have hf := iq c9 hf
        refine lv_iconst (v := (0 : Int32)) hx hb dL_law_347 (by decide) ?_
        exact absurd (Option.some.inj hf) (by decide)
  · have hf := iq c6 hf
    refine lv_iconst (v := (0 : Int32)) hx hb dL_law_330 (by decide) ?_
    exact absurd (Option.some.inj hf) (by decide)
noncomputable def fL_law_b352 (xs : Nat → Int32) (L : Nat) (kL23 : Int32 → Mm → Option Int32) (x4 : Int32) (M : Mm) : Option Int32 := (if ¬ ((x4 + (1 : Int32)) < 0 ∨ L ≤ (x4 + (1 : Int32)).toNatClampNeg) then (if ¬ ((x4 + (2 : Int32)) < 0 ∨ L ≤ (x4 + (2 : Int32)).toNatClampNeg) then (if ¬ ((x4 + (3 : Int32)) < 0 ∨ L ≤ (x4 + (3 : Int32)).toNatClampNeg) then ((fL_order (xs (x4 + (1 : Int32)).toNatClampNeg) (xs (x4 + (2 : Int32)).toNatClampNeg) (xs (x4 + (3 : Int32)).toNatClampNeg) M).bind fun o4 => (if ¬ ((x4 + (1 : Int32)) < 0 ∨ L ≤ (x4 + (1 : Int32)).toNatClampNeg) then (if ¬ ((x4 + (2 : Int32)) < 0 ∨ L ≤ (x4 + (2 : Int32)).toNatClampNeg) then (if ¬ ((x4 + (3 : Int32)) < 0 ∨ L ≤ (x4 + (3 : Int32)).toNatClampNeg) then ((fX6_order (xs (x4 + (1 : Int32)).toNatClampNeg) (xs (x4 + (2 : Int32)).toNatClampNeg) (xs (x4 + (3 : Int32)).toNatClampNeg) o4.2).bind fun o8 => ((fX6_thrown o8.2).bind fun o9 => (if o9 = o4.1 then (if o4.1 = 0 then (if ¬ ((0 : Int32) < 0 ∨ 1 ≤ (0 : Int32).toNatClampNeg) then (if (lg_cmp (gi o8.2 103 (0 : Int32).toNatClampNeg).toInt64 o8.1.toInt64) = 0 then kL23 (x4 + (6 : Int32)) o8.2 else some (0 : Int32)) else none) else kL23 (x4 + (6 : Int32)) o8.2) else some (0 : Int32)))) else none) else none) else none)) else none) else none) else none)
set_option maxRecDepth 100000 in
set_option maxHeartbeats 4000000 in
theorem bL_law_352 {p : Program} {l : Launch} {e : Env} {s : State} {m : MethodId} {below : List Frame} {meth : Method} {c : Code} {D : va_G} {cy : Nat → ClassId} {b L : Nat} {xs : Nat → Int32} (hL : L ≤ 3072) (C0 : lw_At p s m meth c b L xs) (hK : KS D cy s) (hZ : ZZ s.heap.size s s.heap) (hfl : l.stackTraces = false) (kL23 : Int32 → Mm → Option Int32) (cells slots : Nat) (hc1 : cells + 16 ≤ 601024) (hc2 : slots + 96 ≤ 7293034) (hkL23 : ∀ (x4 : Int32) (M : Mm) (H : Heap) (locs : List Loc) (ls : Array Slot), HP D cy s.heap.size M H → va_S (Aq s.heap.size) s.heap H locs → lv_has ls 7 [(0, .ref b), (1, .ref (s.heap.size + 0)), (2, .ref (s.heap.size + 77)), (3, .ref (s.heap.size + 103)), (4, .int x4)] → kL23 x4 M = some (1 : Int32) → W p l e room_1 s m #[Value.ref b] below meth c H locs (cells + 16) (slots + 96) (lw_Z below #[Value.ref b] s) (F0 m 23 ls [])) : ∀ (x4 : Int32) (M : Mm) (H : Heap) (locs : List Loc) (ls : Array Slot), HP D cy s.heap.size M H → va_S (Aq s.heap.size) s.heap H locs → lv_has ls 7 [(0, .ref b), (1, .ref (s.heap.size + 0)), (2, .ref (s.heap.size + 77)), (3, .ref (s.heap.size + 103)), (4, .int x4)] → fL_law_b352 xs L kL23 x4 M = some (1 : Int32) → W p l e room_1 s m #[Value.ref b] below meth c H locs cells slots (lw_Z below #[Value.ref b] s) (F0 m 352 ls []) := by
  intro x4 M H locs ls hw hS hl hf
  obtain ⟨hx, hb, hr, hml, hown, hts0, hX, hbl, hlocks, hgv⟩ := C0
  have hts : ∀ w ∈ wsL_law, w.before #[Value.ref b] s = true := fun w h => hts0 w (wsL_law_in w h)
  have hbA : ¬ Aq s.heap.size b := Nat.not_le.mpr hbl
  unfold fL_law_b352 at hf
  refine lv_aload_n hx hb dL_law_352 rfl (lv_at hl 1 rfl) ?_
  refine lv_aload_n hx hb dL_law_353 rfl (lv_at hl 0 rfl) ?_
  refine lv_iload hx hb dL_law_354 (lv_at hl 4 rfl) ?_
  refine lv_iconst (v := (1 : Int32)) hx hb dL_law_356 (by decide) ?_
  refine lv_iadd hx hb dL_law_357 ?_
  obtain ⟨hg1, hf⟩ := og hf
  refine va_sld hx hb hX hbl hbA hS hg1 dL_law_358 ?_
  refine lv_aload_n hx hb dL_law_359 rfl (lv_at hl 0 rfl) ?_
  refine lv_iload hx hb dL_law_360 (lv_at hl 4 rfl) ?_
  refine lv_iconst (v := (2 : Int32)) hx hb dL_law_362 (by decide) ?_
  refine lv_iadd hx hb dL_law_363 ?_
  obtain ⟨hg2, hf⟩ := og hf
  refine va_sld hx hb hX hbl hbA hS hg2 dL_law_364 ?_
  refine lv_aload_n hx hb dL_law_365 rfl (lv_at hl 0 rfl) ?_
  refine lv_iload hx hb dL_law_366 (lv_at hl 4 rfl) ?_
  refine lv_iconst (v := (3 : Int32)) hx hb dL_law_368 (by decide) ?_
  refine lv_iadd hx hb dL_law_369 ?_
  obtain ⟨hg3, hf⟩ := og hf
  refine va_sld hx hb hX hbl hbA hS hg3 dL_law_370 ?_
  refine lv_aload_n hx hb dL_law_371 rfl (lv_at hl 3 rfl) ?_
  obtain ⟨o4, ho4, hf⟩ := ob hf
  refine rCallI (vx_runSW (hh := [(0, 12, 15, 21), (0, 12, 19, 13), (0, 12, 23, 15)]) (As := [.ref (s.heap.size + 0), .int (xs (x4 + (1 : Int32)).toNatClampNeg), .int (xs (x4 + (2 : Int32)).toNatClampNeg), .int (xs (x4 + (3 : Int32)).toNatClampNeg), .ref (s.heap.size + 103)]) (rest := []) ⟨hx, hb, hml, hown, hts⟩ (ctL_order (l := l) (D := D) (cy := cy) (a := s.heap.size) hfl ho4) (vx_cwSW 5 hts gL_law_L_order rfl rfl rfl (by decide +kernel) ⟨Nat.le_of_ble_eq_true rfl, Nat.le_of_ble_eq_true rfl⟩) (pS hK hZ hw hS) rfl rfl hl.1 rfl (lv_room (Nat.le_of_ble_eq_true rfl)) dL_law_372 ⟨(by show _ ≤ 601024; omega), (by show _ ≤ 7293034; omega)⟩) hS (fun H locs hw hS => ?_)
  refine lv_istore (lv' := [(5, .int o4.1), (0, .ref b), (1, .ref (s.heap.size + 0)), (2, .ref (s.heap.size + 77)), (3, .ref (s.heap.size + 103)), (4, .int x4)]) hx hb dL_law_375 hl (Nat.le_of_ble_eq_true rfl) rfl (fun ls hl => ?_)
  refine lv_aload_n hx hb dL_law_377 rfl (lv_at hl 3 rfl) ?_
  refine lv_aload_n hx hb dL_law_378 rfl (lv_at hl 1 rfl) ?_
  refine lv_iload hx hb dL_law_379 (lv_at hl 5 rfl) ?_
  refine lv_iconst (v := (1 : Int32)) hx hb dL_law_381 (by decide) ?_
  refine lv_iadd hx hb dL_law_382 ?_
  obtain ⟨hg5, hf⟩ := og hf
  refine va_sld hx hb hX hbl hbA hS hg5 dL_law_383 ?_
  refine lv_aload_n hx hb dL_law_384 rfl (lv_at hl 1 rfl) ?_
  refine lv_iload hx hb dL_law_385 (lv_at hl 5 rfl) ?_
  refine lv_iconst (v := (2 : Int32)) hx hb dL_law_387 (by decide) ?_
  refine lv_iadd hx hb dL_law_388 ?_
  obtain ⟨hg6, hf⟩ := og hf
  refine va_sld hx hb hX hbl hbA hS hg6 dL_law_389 ?_
  refine lv_aload_n hx hb dL_law_390 rfl (lv_at hl 1 rfl) ?_
  refine lv_iload hx hb dL_law_391 (lv_at hl 5 rfl) ?_
  refine lv_iconst (v := (3 : Int32)) hx hb dL_law_393 (by decide) ?_
  refine lv_iadd hx hb dL_law_394 ?_
  obtain ⟨hg7, hf⟩ := og hf
  refine va_sld hx hb hX hbl hbA hS hg7 dL_law_395 ?_
  obtain ⟨o8, ho8, hf⟩ := ob hf
  refine rCallI (va_runV (As := [.int (xs (x4 + (1 : Int32)).toNatClampNeg), .int (xs (x4 + (2 : Int32)).toNatClampNeg), .int (xs (x4 + (3 : Int32)).toNatClampNeg)]) (rest := []) ⟨hx, hb, hml, hown, hts⟩ (ctX6_order (l := l) (D := D) (cy := cy) (a := s.heap.size) ho8) (cwV 3 hts gL_law_X6_order rfl rfl rfl (by decide +kernel) ⟨Nat.le_of_ble_eq_true rfl, Nat.le_of_ble_eq_true rfl⟩) (pV hK hZ hw hS (rRecv hK hw (Nat.le_of_ble_eq_true rfl) en_model rfl)) rfl rfl hl.1 rfl (lv_room (Nat.le_of_ble_eq_true rfl)) dL_law_396 ⟨(by show _ ≤ 601024; omega), (by show _ ≤ 7293034; omega)⟩) hS (fun H locs hw hS => ?_)
  refine lv_istore (lv' := [(6, .int o8.1), (5, .int o4.1), (0, .ref b), (1, .ref (s.heap.size + 0)), (2, .ref (s.heap.size + 77)), (3, .ref (s.heap.size + 103)), (4, .int x4)]) hx hb dL_law_399 hl (Nat.le_of_ble_eq_true rfl) rfl (fun ls hl => ?_)
  refine lv_aload_n hx hb dL_law_401 rfl (lv_at hl 4 rfl) ?_
  obtain ⟨o9, ho9, hf⟩ := ob hf
  refine rCallI (va_runV (As := []) (rest := []) ⟨hx, hb, hml, hown, hts⟩ (ctX6_thrown (l := l) (D := D) (cy := cy) (a := s.heap.size) ho9) (cwV 0 hts gL_law_X6_thrown rfl rfl rfl (by decide +kernel) ⟨Nat.le_of_ble_eq_true rfl, Nat.le_of_ble_eq_true rfl⟩) (pV hK hZ hw hS (rRecv hK hw (Nat.le_of_ble_eq_true rfl) en_model rfl)) rfl rfl hl.1 rfl (lv_room (Nat.le_of_ble_eq_true rfl)) dL_law_402 ⟨(by show _ ≤ 601024; omega), (by show _ ≤ 7293034; omega)⟩) hS (fun H locs hw hS => ?_)
  refine lv_iload hx hb dL_law_405 (lv_at hl 1 rfl) ?_
  refine lv_icmp_eq (tgt := 412) hx hb dL_law_407 (by decide) (fun c10 => ?_) (fun c10 => ?_)
  · have hf := ip c10 hf
    refine lv_iload hx hb dL_law_412 (lv_at hl 1 rfl) ?_
    refine lv_if_ne (tgt := 429) hx hb dL_law_414 (by decide) (fun c11 => ?_) (fun c11 => ?_)
    · have hf := iq c11 hf
      refine lv_goto (tgt := 1284) hx hb dL_law_429 (by decide) ?_
      refine lv_iinc (v := x4 + (6 : Int32)) (lv' := [(4, .int (x4 + (6 : Int32))), (6, .int o8.1), (5, .int o4.1), (0, .ref b), (1, .ref (s.heap.size + 0)), (2, .ref (s.heap.size + 77)), (3, .ref (s.heap.size + 103))]) hx hb dL_law_1284 hl (k := 6) rfl rfl (Nat.le_of_ble_eq_true rfl) rfl (fun ls hl => ?_)
      refine lv_goto (tgt := 23) hx hb dL_law_1287 (by decide) ?_
      refine W.widen (k := cells + 16) (n := slots + 96) (by omega) (by omega) ?_
      exact hkL23 _ _ _ _ _ hw hS (lv_sub hl [3, 4, 5, 6, 0] rfl) hf
    · have hf := ip c11 hf
      refine lv_aload_n hx hb dL_law_417 rfl (lv_at hl 5 rfl) ?_
      refine lv_iconst (v := (0 : Int32)) hx hb dL_law_418 (by decide) ?_
      obtain ⟨hg12, hf⟩ := og hf
      refine rLald hx hb hK hw hg12 dL_law_419 ?_
      refine lv_iload hx hb dL_law_420 (lv_at hl 0 rfl) ?_
      refine lv_i2l hx hb dL_law_422 rfl ?_
      refine W.lcmp hx hb dL_law_423 ?_
      refine lv_if_eq (tgt := 429) hx hb dL_law_424 (by decide) (fun c13 => ?_) (fun c13 => ?_)
      · have hf := ip c13 hf
        refine lv_goto (tgt := 1284) hx hb dL_law_429 (by decide) ?_
        refine lv_iinc (v := x4 + (6 : Int32)) (lv' := [(4, .int (x4 + (6 : Int32))), (6, .int o8.1), (5, .int o4.1), (0, .ref b), (1, .ref (s.heap.size + 0)), (2, .ref (s.heap.size + 77)), (3, .ref (s.heap.size + 103))]) hx hb dL_law_1284 hl (k := 6) rfl rfl (Nat.le_of_ble_eq_true rfl) rfl (fun ls hl => ?_)
        refine lv_goto (tgt := 23) hx hb dL_law_1287 (by decide) ?_
        refine W.widen (k := cells + 16) (n := slots + 96) (by omega) (by omega) ?_
        exact hkL23 _ _ _ _ _ hw hS (lv_sub hl [3, 4, 5, 6, 0] rfl) hf
      · have hf := iq c13 hf
        refine lv_iconst (v := (0 : Int32)) hx hb dL_law_427 (by decide) ?_
        exact absurd (Option.some.inj hf) (by decide)
  · have hf := iq c10 hf
    refine lv_iconst (v := (0 : Int32)) hx hb dL_law_410 (by decide) ?_
    exact absurd (Option.some.inj hf) (by decide)
noncomputable def fL_law_b432 (xs : Nat → Int32) (L : Nat) (kL23 : Int32 → Mm → Option Int32) (x4 : Int32) (M : Mm) : Option Int32 := (if ¬ ((x4 + (1 : Int32)) < 0 ∨ L ≤ (x4 + (1 : Int32)).toNatClampNeg) then ((fL_rate (xs (x4 + (1 : Int32)).toNatClampNeg) M).bind fun o2 => (if ¬ ((x4 + (1 : Int32)) < 0 ∨ L ≤ (x4 + (1 : Int32)).toNatClampNeg) then ((fX6_rate (xs (x4 + (1 : Int32)).toNatClampNeg) o2.2).bind fun o4 => ((fX6_thrown o4.2).bind fun o5 => (if o5 = o2.1 then (if o2.1 = 0 then (if ¬ ((0 : Int32) < 0 ∨ 1 ≤ (0 : Int32).toNatClampNeg) then (if (lg_cmp (gi o4.2 103 (0 : Int32).toNatClampNeg).toInt64 o4.1.toInt64) = 0 then kL23 (x4 + (6 : Int32)) o4.2 else some (0 : Int32)) else none) else kL23 (x4 + (6 : Int32)) o4.2) else some (0 : Int32)))) else none)) else none)
set_option maxRecDepth 100000 in
set_option maxHeartbeats 4000000 in
theorem bL_law_432 {p : Program} {l : Launch} {e : Env} {s : State} {m : MethodId} {below : List Frame} {meth : Method} {c : Code} {D : va_G} {cy : Nat → ClassId} {b L : Nat} {xs : Nat → Int32} (hL : L ≤ 3072) (C0 : lw_At p s m meth c b L xs) (hK : KS D cy s) (hZ : ZZ s.heap.size s s.heap) (hfl : l.stackTraces = false) (kL23 : Int32 → Mm → Option Int32) (cells slots : Nat) (hc1 : cells + 16 ≤ 601024) (hc2 : slots + 96 ≤ 7293034) (hkL23 : ∀ (x4 : Int32) (M : Mm) (H : Heap) (locs : List Loc) (ls : Array Slot), HP D cy s.heap.size M H → va_S (Aq s.heap.size) s.heap H locs → lv_has ls 7 [(0, .ref b), (1, .ref (s.heap.size + 0)), (2, .ref (s.heap.size + 77)), (3, .ref (s.heap.size + 103)), (4, .int x4)] → kL23 x4 M = some (1 : Int32) → W p l e room_1 s m #[Value.ref b] below meth c H locs (cells + 16) (slots + 96) (lw_Z below #[Value.ref b] s) (F0 m 23 ls [])) : ∀ (x4 : Int32) (M : Mm) (H : Heap) (locs : List Loc) (ls : Array Slot), HP D cy s.heap.size M H → va_S (Aq s.heap.size) s.heap H locs → lv_has ls 7 [(0, .ref b), (1, .ref (s.heap.size + 0)), (2, .ref (s.heap.size + 77)), (3, .ref (s.heap.size + 103)), (4, .int x4)] → fL_law_b432 xs L kL23 x4 M = some (1 : Int32) → W p l e room_1 s m #[Value.ref b] below meth c H locs cells slots (lw_Z below #[Value.ref b] s) (F0 m 432 ls []) := by
  intro x4 M H locs ls hw hS hl hf
  obtain ⟨hx, hb, hr, hml, hown, hts0, hX, hbl, hlocks, hgv⟩ := C0
  have hts : ∀ w ∈ wsL_law, w.before #[Value.ref b] s = true := fun w h => hts0 w (wsL_law_in w h)
  have hbA : ¬ Aq s.heap.size b := Nat.not_le.mpr hbl
  unfold fL_law_b432 at hf
  refine lv_aload_n hx hb dL_law_432 rfl (lv_at hl 1 rfl) ?_
  refine lv_aload_n hx hb dL_law_433 rfl (lv_at hl 0 rfl) ?_
  refine lv_iload hx hb dL_law_434 (lv_at hl 4 rfl) ?_
  refine lv_iconst (v := (1 : Int32)) hx hb dL_law_436 (by decide) ?_
  refine lv_iadd hx hb dL_law_437 ?_
  obtain ⟨hg1, hf⟩ := og hf
  refine va_sld hx hb hX hbl hbA hS hg1 dL_law_438 ?_
  refine lv_aload_n hx hb dL_law_439 rfl (lv_at hl 3 rfl) ?_
  obtain ⟨o2, ho2, hf⟩ := ob hf
  refine rCallI (vx_runSW (hh := [(0, 9, 12, 13)]) (As := [.ref (s.heap.size + 0), .int (xs (x4 + (1 : Int32)).toNatClampNeg), .ref (s.heap.size + 103)]) (rest := []) ⟨hx, hb, hml, hown, hts⟩ (ctL_rate (l := l) (D := D) (cy := cy) (a := s.heap.size) hfl ho2) (vx_cwSW 3 hts gL_law_L_rate rfl rfl rfl (by decide +kernel) ⟨Nat.le_of_ble_eq_true rfl, Nat.le_of_ble_eq_true rfl⟩) (pS hK hZ hw hS) rfl rfl hl.1 rfl (lv_room (Nat.le_of_ble_eq_true rfl)) dL_law_440 ⟨(by show _ ≤ 601024; omega), (by show _ ≤ 7293034; omega)⟩) hS (fun H locs hw hS => ?_)
  refine lv_istore (lv' := [(5, .int o2.1), (0, .ref b), (1, .ref (s.heap.size + 0)), (2, .ref (s.heap.size + 77)), (3, .ref (s.heap.size + 103)), (4, .int x4)]) hx hb dL_law_443 hl (Nat.le_of_ble_eq_true rfl) rfl (fun ls hl => ?_)
  refine lv_aload_n hx hb dL_law_445 rfl (lv_at hl 3 rfl) ?_
  refine lv_aload_n hx hb dL_law_446 rfl (lv_at hl 1 rfl) ?_
  refine lv_iload hx hb dL_law_447 (lv_at hl 5 rfl) ?_
  refine lv_iconst (v := (1 : Int32)) hx hb dL_law_449 (by decide) ?_
  refine lv_iadd hx hb dL_law_450 ?_
  obtain ⟨hg3, hf⟩ := og hf
  refine va_sld hx hb hX hbl hbA hS hg3 dL_law_451 ?_
  obtain ⟨o4, ho4, hf⟩ := ob hf
  refine rCallI (va_runV (As := [.int (xs (x4 + (1 : Int32)).toNatClampNeg)]) (rest := []) ⟨hx, hb, hml, hown, hts⟩ (ctX6_rate (l := l) (D := D) (cy := cy) (a := s.heap.size) ho4) (cwV 1 hts gL_law_X6_rate rfl rfl rfl (by decide +kernel) ⟨Nat.le_of_ble_eq_true rfl, Nat.le_of_ble_eq_true rfl⟩) (pV hK hZ hw hS (rRecv hK hw (Nat.le_of_ble_eq_true rfl) en_model rfl)) rfl rfl hl.1 rfl (lv_room (Nat.le_of_ble_eq_true rfl)) dL_law_452 ⟨(by show _ ≤ 601024; omega), (by show _ ≤ 7293034; omega)⟩) hS (fun H locs hw hS => ?_)
  refine lv_istore (lv' := [(6, .int o4.1), (5, .int o2.1), (0, .ref b), (1, .ref (s.heap.size + 0)), (2, .ref (s.heap.size + 77)), (3, .ref (s.heap.size + 103)), (4, .int x4)]) hx hb dL_law_455 hl (Nat.le_of_ble_eq_true rfl) rfl (fun ls hl => ?_)
  refine lv_aload_n hx hb dL_law_457 rfl (lv_at hl 4 rfl) ?_
  obtain ⟨o5, ho5, hf⟩ := ob hf
  refine rCallI (va_runV (As := []) (rest := []) ⟨hx, hb, hml, hown, hts⟩ (ctX6_thrown (l := l) (D := D) (cy := cy) (a := s.heap.size) ho5) (cwV 0 hts gL_law_X6_thrown rfl rfl rfl (by decide +kernel) ⟨Nat.le_of_ble_eq_true rfl, Nat.le_of_ble_eq_true rfl⟩) (pV hK hZ hw hS (rRecv hK hw (Nat.le_of_ble_eq_true rfl) en_model rfl)) rfl rfl hl.1 rfl (lv_room (Nat.le_of_ble_eq_true rfl)) dL_law_458 ⟨(by show _ ≤ 601024; omega), (by show _ ≤ 7293034; omega)⟩) hS (fun H locs hw hS => ?_)
  refine lv_iload hx hb dL_law_461 (lv_at hl 1 rfl) ?_
  refine lv_icmp_eq (tgt := 468) hx hb dL_law_463 (by decide) (fun c6 => ?_) (fun c6 => ?_)
  · have hf := ip c6 hf
    refine lv_iload hx hb dL_law_468 (lv_at hl 1 rfl) ?_
    refine lv_if_ne (tgt := 485) hx hb dL_law_470 (by decide) (fun c7 => ?_) (fun c7 => ?_)
    · have hf := iq c7 hf
      refine lv_goto (tgt := 1284) hx hb dL_law_485 (by decide) ?_
      refine lv_iinc (v := x4 + (6 : Int32)) (lv' := [(4, .int (x4 + (6 : Int32))), (6, .int o4.1), (5, .int o2.1), (0, .ref b), (1, .ref (s.heap.size + 0)), (2, .ref (s.heap.size + 77)), (3, .ref (s.heap.size + 103))]) hx hb dL_law_1284 hl (k := 6) rfl rfl (Nat.le_of_ble_eq_true rfl) rfl (fun ls hl => ?_)
      refine lv_goto (tgt := 23) hx hb dL_law_1287 (by decide) ?_
      refine W.widen (k := cells + 16) (n := slots + 96) (by omega) (by omega) ?_
      exact hkL23 _ _ _ _ _ hw hS (lv_sub hl [3, 4, 5, 6, 0] rfl) hf
    · have hf := ip c7 hf
      refine lv_aload_n hx hb dL_law_473 rfl (lv_at hl 5 rfl) ?_
      refine lv_iconst (v := (0 : Int32)) hx hb dL_law_474 (by decide) ?_
      obtain ⟨hg8, hf⟩ := og hf
      refine rLald hx hb hK hw hg8 dL_law_475 ?_
      refine lv_iload hx hb dL_law_476 (lv_at hl 0 rfl) ?_
      refine lv_i2l hx hb dL_law_478 rfl ?_
      refine W.lcmp hx hb dL_law_479 ?_
      refine lv_if_eq (tgt := 485) hx hb dL_law_480 (by decide) (fun c9 => ?_) (fun c9 => ?_)
      · have hf := ip c9 hf
        refine lv_goto (tgt := 1284) hx hb dL_law_485 (by decide) ?_
        refine lv_iinc (v := x4 + (6 : Int32)) (lv' := [(4, .int (x4 + (6 : Int32))), (6, .int o4.1), (5, .int o2.1), (0, .ref b), (1, .ref (s.heap.size + 0)), (2, .ref (s.heap.size + 77)), (3, .ref (s.heap.size + 103))]) hx hb dL_law_1284 hl (k := 6) rfl rfl (Nat.le_of_ble_eq_true rfl) rfl (fun ls hl => ?_)
        refine lv_goto (tgt := 23) hx hb dL_law_1287 (by decide) ?_
        refine W.widen (k := cells + 16) (n := slots + 96) (by omega) (by omega) ?_
        exact hkL23 _ _ _ _ _ hw hS (lv_sub hl [3, 4, 5, 6, 0] rfl) hf
      · have hf := iq c9 hf
        refine lv_iconst (v := (0 : Int32)) hx hb dL_law_483 (by decide) ?_
        exact absurd (Option.some.inj hf) (by decide)
  · have hf := iq c6 hf
    refine lv_iconst (v := (0 : Int32)) hx hb dL_law_466 (by decide) ?_
    exact absurd (Option.some.inj hf) (by decide)
noncomputable def fL_law_b488 (xs : Nat → Int32) (L : Nat) (kL23 : Int32 → Mm → Option Int32) (x4 : Int32) (M : Mm) : Option Int32 := (if ¬ ((x4 + (1 : Int32)) < 0 ∨ L ≤ (x4 + (1 : Int32)).toNatClampNeg) then (if ¬ ((x4 + (2 : Int32)) < 0 ∨ L ≤ (x4 + (2 : Int32)).toNatClampNeg) then (if ¬ ((x4 + (3 : Int32)) < 0 ∨ L ≤ (x4 + (3 : Int32)).toNatClampNeg) then ((fL_drop (xs (x4 + (1 : Int32)).toNatClampNeg) (xs (x4 + (2 : Int32)).toNatClampNeg) (xs (x4 + (3 : Int32)).toNatClampNeg) M).bind fun o4 => (if ¬ ((x4 + (1 : Int32)) < 0 ∨ L ≤ (x4 + (1 : Int32)).toNatClampNeg) then (if ¬ ((x4 + (2 : Int32)) < 0 ∨ L ≤ (x4 + (2 : Int32)).toNatClampNeg) then (if ¬ ((x4 + (3 : Int32)) < 0 ∨ L ≤ (x4 + (3 : Int32)).toNatClampNeg) then ((fX6_drop (xs (x4 + (1 : Int32)).toNatClampNeg) (xs (x4 + (2 : Int32)).toNatClampNeg) (xs (x4 + (3 : Int32)).toNatClampNeg) o4.2).bind fun o8 => ((fX6_thrown o8).bind fun o9 => (if o9 = o4.1 then kL23 (x4 + (6 : Int32)) o8 else some (0 : Int32)))) else none) else none) else none)) else none) else none) else none)
set_option maxRecDepth 100000 in
set_option maxHeartbeats 4000000 in
theorem bL_law_488 {p : Program} {l : Launch} {e : Env} {s : State} {m : MethodId} {below : List Frame} {meth : Method} {c : Code} {D : va_G} {cy : Nat → ClassId} {b L : Nat} {xs : Nat → Int32} (hL : L ≤ 3072) (C0 : lw_At p s m meth c b L xs) (hK : KS D cy s) (hZ : ZZ s.heap.size s s.heap) (hfl : l.stackTraces = false) (kL23 : Int32 → Mm → Option Int32) (cells slots : Nat) (hc1 : cells + 16 ≤ 601024) (hc2 : slots + 96 ≤ 7293034) (hkL23 : ∀ (x4 : Int32) (M : Mm) (H : Heap) (locs : List Loc) (ls : Array Slot), HP D cy s.heap.size M H → va_S (Aq s.heap.size) s.heap H locs → lv_has ls 7 [(0, .ref b), (1, .ref (s.heap.size + 0)), (2, .ref (s.heap.size + 77)), (3, .ref (s.heap.size + 103)), (4, .int x4)] → kL23 x4 M = some (1 : Int32) → W p l e room_1 s m #[Value.ref b] below meth c H locs (cells + 16) (slots + 96) (lw_Z below #[Value.ref b] s) (F0 m 23 ls [])) : ∀ (x4 : Int32) (M : Mm) (H : Heap) (locs : List Loc) (ls : Array Slot), HP D cy s.heap.size M H → va_S (Aq s.heap.size) s.heap H locs → lv_has ls 7 [(0, .ref b), (1, .ref (s.heap.size + 0)), (2, .ref (s.heap.size + 77)), (3, .ref (s.heap.size + 103)), (4, .int x4)] → fL_law_b488 xs L kL23 x4 M = some (1 : Int32) → W p l e room_1 s m #[Value.ref b] below meth c H locs cells slots (lw_Z below #[Value.ref b] s) (F0 m 488 ls []) := by
  intro x4 M H locs ls hw hS hl hf
  obtain ⟨hx, hb, hr, hml, hown, hts0, hX, hbl, hlocks, hgv⟩ := C0
  have hts : ∀ w ∈ wsL_law, w.before #[Value.ref b] s = true := fun w h => hts0 w (wsL_law_in w h)
  have hbA : ¬ Aq s.heap.size b := Nat.not_le.mpr hbl
  unfold fL_law_b488 at hf
  refine lv_aload_n hx hb dL_law_488 rfl (lv_at hl 1 rfl) ?_
  refine lv_aload_n hx hb dL_law_489 rfl (lv_at hl 0 rfl) ?_
  refine lv_iload hx hb dL_law_490 (lv_at hl 4 rfl) ?_
  refine lv_iconst (v := (1 : Int32)) hx hb dL_law_492 (by decide) ?_
  refine lv_iadd hx hb dL_law_493 ?_
  obtain ⟨hg1, hf⟩ := og hf
  refine va_sld hx hb hX hbl hbA hS hg1 dL_law_494 ?_
  refine lv_aload_n hx hb dL_law_495 rfl (lv_at hl 0 rfl) ?_
  refine lv_iload hx hb dL_law_496 (lv_at hl 4 rfl) ?_
  refine lv_iconst (v := (2 : Int32)) hx hb dL_law_498 (by decide) ?_
  refine lv_iadd hx hb dL_law_499 ?_
  obtain ⟨hg2, hf⟩ := og hf
  refine va_sld hx hb hX hbl hbA hS hg2 dL_law_500 ?_
  refine lv_aload_n hx hb dL_law_501 rfl (lv_at hl 0 rfl) ?_
  refine lv_iload hx hb dL_law_502 (lv_at hl 4 rfl) ?_
  refine lv_iconst (v := (3 : Int32)) hx hb dL_law_504 (by decide) ?_
  refine lv_iadd hx hb dL_law_505 ?_
  obtain ⟨hg3, hf⟩ := og hf
  refine va_sld hx hb hX hbl hbA hS hg3 dL_law_506 ?_
  obtain ⟨o4, ho4, hf⟩ := ob hf
  refine rCallI (vx_runSW (hh := [(0, 7, 10, 21), (0, 7, 14, 13)]) (As := [.ref (s.heap.size + 0), .int (xs (x4 + (1 : Int32)).toNatClampNeg), .int (xs (x4 + (2 : Int32)).toNatClampNeg), .int (xs (x4 + (3 : Int32)).toNatClampNeg)]) (rest := []) ⟨hx, hb, hml, hown, hts⟩ (ctL_drop (l := l) (D := D) (cy := cy) (a := s.heap.size) hfl ho4) (vx_cwSW 4 hts gL_law_L_drop rfl rfl rfl (by decide +kernel) ⟨Nat.le_of_ble_eq_true rfl, Nat.le_of_ble_eq_true rfl⟩) (pS hK hZ hw hS) rfl rfl hl.1 rfl (lv_room (Nat.le_of_ble_eq_true rfl)) dL_law_507 ⟨(by show _ ≤ 601024; omega), (by show _ ≤ 7293034; omega)⟩) hS (fun H locs hw hS => ?_)
  refine lv_istore (lv' := [(5, .int o4.1), (0, .ref b), (1, .ref (s.heap.size + 0)), (2, .ref (s.heap.size + 77)), (3, .ref (s.heap.size + 103)), (4, .int x4)]) hx hb dL_law_510 hl (Nat.le_of_ble_eq_true rfl) rfl (fun ls hl => ?_)
  refine lv_aload_n hx hb dL_law_512 rfl (lv_at hl 3 rfl) ?_
  refine lv_aload_n hx hb dL_law_513 rfl (lv_at hl 1 rfl) ?_
  refine lv_iload hx hb dL_law_514 (lv_at hl 5 rfl) ?_
  refine lv_iconst (v := (1 : Int32)) hx hb dL_law_516 (by decide) ?_
  refine lv_iadd hx hb dL_law_517 ?_
  obtain ⟨hg5, hf⟩ := og hf
  refine va_sld hx hb hX hbl hbA hS hg5 dL_law_518 ?_
  refine lv_aload_n hx hb dL_law_519 rfl (lv_at hl 1 rfl) ?_
  refine lv_iload hx hb dL_law_520 (lv_at hl 5 rfl) ?_
  refine lv_iconst (v := (2 : Int32)) hx hb dL_law_522 (by decide) ?_
  refine lv_iadd hx hb dL_law_523 ?_
  obtain ⟨hg6, hf⟩ := og hf
  refine va_sld hx hb hX hbl hbA hS hg6 dL_law_524 ?_
  refine lv_aload_n hx hb dL_law_525 rfl (lv_at hl 1 rfl) ?_
  refine lv_iload hx hb dL_law_526 (lv_at hl 5 rfl) ?_
  refine lv_iconst (v := (3 : Int32)) hx hb dL_law_528 (by decide) ?_
  refine lv_iadd hx hb dL_law_529 ?_
  obtain ⟨hg7, hf⟩ := og hf
  refine va_sld hx hb hX hbl hbA hS hg7 dL_law_530 ?_
  obtain ⟨o8, ho8, hf⟩ := ob hf
  refine rCallV (va_runV (As := [.int (xs (x4 + (1 : Int32)).toNatClampNeg), .int (xs (x4 + (2 : Int32)).toNatClampNeg), .int (xs (x4 + (3 : Int32)).toNatClampNeg)]) (rest := []) ⟨hx, hb, hml, hown, hts⟩ (ctX6_drop (l := l) (D := D) (cy := cy) (a := s.heap.size) ho8) (cwV 3 hts gL_law_X6_drop rfl rfl rfl (by decide +kernel) ⟨Nat.le_of_ble_eq_true rfl, Nat.le_of_ble_eq_true rfl⟩) (pV hK hZ hw hS (rRecv hK hw (Nat.le_of_ble_eq_true rfl) en_model rfl)) rfl rfl hl.1 rfl (lv_room (Nat.le_of_ble_eq_true rfl)) dL_law_531 ⟨(by show _ ≤ 601024; omega), (by show _ ≤ 7293034; omega)⟩) hS (fun H locs hw hS => ?_)
  refine lv_aload_n hx hb dL_law_534 rfl (lv_at hl 3 rfl) ?_
  obtain ⟨o9, ho9, hf⟩ := ob hf
  refine rCallI (va_runV (As := []) (rest := []) ⟨hx, hb, hml, hown, hts⟩ (ctX6_thrown (l := l) (D := D) (cy := cy) (a := s.heap.size) ho9) (cwV 0 hts gL_law_X6_thrown rfl rfl rfl (by decide +kernel) ⟨Nat.le_of_ble_eq_true rfl, Nat.le_of_ble_eq_true rfl⟩) (pV hK hZ hw hS (rRecv hK hw (Nat.le_of_ble_eq_true rfl) en_model rfl)) rfl rfl hl.1 rfl (lv_room (Nat.le_of_ble_eq_true rfl)) dL_law_535 ⟨(by show _ ≤ 601024; omega), (by show _ ≤ 7293034; omega)⟩) hS (fun H locs hw hS => ?_)
  refine lv_iload hx hb dL_law_538 (lv_at hl 0 rfl) ?_
  refine lv_icmp_eq (tgt := 545) hx hb dL_law_540 (by decide) (fun c10 => ?_) (fun c10 => ?_)
  · have hf := ip c10 hf
    refine lv_goto (tgt := 1284) hx hb dL_law_545 (by decide) ?_
    refine lv_iinc (v := x4 + (6 : Int32)) (lv' := [(4, .int (x4 + (6 : Int32))), (5, .int o4.1), (0, .ref b), (1, .ref (s.heap.size + 0)), (2, .ref (s.heap.size + 77)), (3, .ref (s.heap.size + 103))]) hx hb dL_law_1284 hl (k := 5) rfl rfl (Nat.le_of_ble_eq_true rfl) rfl (fun ls hl => ?_)
    refine lv_goto (tgt := 23) hx hb dL_law_1287 (by decide) ?_
    refine W.widen (k := cells + 16) (n := slots + 96) (by omega) (by omega) ?_
    exact hkL23 _ _ _ _ _ hw hS (lv_sub hl [2, 3, 4, 5, 0] rfl) hf
  · have hf := iq c10 hf
    refine lv_iconst (v := (0 : Int32)) hx hb dL_law_543 (by decide) ?_
    exact absurd (Option.some.inj hf) (by decide)
noncomputable def fL_law_b548 (xs : Nat → Int32) (L : Nat) (kL23 : Int32 → Mm → Option Int32) (x4 : Int32) (M : Mm) : Option Int32 := (if ¬ ((x4 + (1 : Int32)) < 0 ∨ L ≤ (x4 + (1 : Int32)).toNatClampNeg) then (if ¬ ((x4 + (2 : Int32)) < 0 ∨ L ≤ (x4 + (2 : Int32)).toNatClampNeg) then ((fL_leak (xs (x4 + (1 : Int32)).toNatClampNeg) (xs (x4 + (2 : Int32)).toNatClampNeg) M).bind fun o3 => (if ¬ ((x4 + (1 : Int32)) < 0 ∨ L ≤ (x4 + (1 : Int32)).toNatClampNeg) then (if ¬ ((x4 + (2 : Int32)) < 0 ∨ L ≤ (x4 + (2 : Int32)).toNatClampNeg) then ((fX6_leak (xs (x4 + (1 : Int32)).toNatClampNeg) (xs (x4 + (2 : Int32)).toNatClampNeg) o3.2).bind fun o6 => ((fX6_thrown o6).bind fun o7 => (if o7 = o3.1 then kL23 (x4 + (6 : Int32)) o6 else some (0 : Int32)))) else none) else none)) else none) else none)
set_option maxRecDepth 100000 in
set_option maxHeartbeats 4000000 in
theorem bL_law_548 {p : Program} {l : Launch} {e : Env} {s : State} {m : MethodId} {below : List Frame} {meth : Method} {c : Code} {D : va_G} {cy : Nat → ClassId} {b L : Nat} {xs : Nat → Int32} (hL : L ≤ 3072) (C0 : lw_At p s m meth c b L xs) (hK : KS D cy s) (hZ : ZZ s.heap.size s s.heap) (hfl : l.stackTraces = false) (kL23 : Int32 → Mm → Option Int32) (cells slots : Nat) (hc1 : cells + 16 ≤ 601024) (hc2 : slots + 96 ≤ 7293034) (hkL23 : ∀ (x4 : Int32) (M : Mm) (H : Heap) (locs : List Loc) (ls : Array Slot), HP D cy s.heap.size M H → va_S (Aq s.heap.size) s.heap H locs → lv_has ls 7 [(0, .ref b), (1, .ref (s.heap.size + 0)), (2, .ref (s.heap.size + 77)), (3, .ref (s.heap.size + 103)), (4, .int x4)] → kL23 x4 M = some (1 : Int32) → W p l e room_1 s m #[Value.ref b] below meth c H locs (cells + 16) (slots + 96) (lw_Z below #[Value.ref b] s) (F0 m 23 ls [])) : ∀ (x4 : Int32) (M : Mm) (H : Heap) (locs : List Loc) (ls : Array Slot), HP D cy s.heap.size M H → va_S (Aq s.heap.size) s.heap H locs → lv_has ls 7 [(0, .ref b), (1, .ref (s.heap.size + 0)), (2, .ref (s.heap.size + 77)), (3, .ref (s.heap.size + 103)), (4, .int x4)] → fL_law_b548 xs L kL23 x4 M = some (1 : Int32) → W p l e room_1 s m #[Value.ref b] below meth c H locs cells slots (lw_Z below #[Value.ref b] s) (F0 m 548 ls []) := by
  intro x4 M H locs ls hw hS hl hf
  obtain ⟨hx, hb, hr, hml, hown, hts0, hX, hbl, hlocks, hgv⟩ := C0
  have hts : ∀ w ∈ wsL_law, w.before #[Value.ref b] s = true := fun w h => hts0 w (wsL_law_in w h)
  have hbA : ¬ Aq s.heap.size b := Nat.not_le.mpr hbl
  unfold fL_law_b548 at hf
  refine lv_aload_n hx hb dL_law_548 rfl (lv_at hl 1 rfl) ?_
  refine lv_aload_n hx hb dL_law_549 rfl (lv_at hl 0 rfl) ?_
  refine lv_iload hx hb dL_law_550 (lv_at hl 4 rfl) ?_
  refine lv_iconst (v := (1 : Int32)) hx hb dL_law_552 (by decide) ?_
  refine lv_iadd hx hb dL_law_553 ?_
  obtain ⟨hg1, hf⟩ := og hf
  refine va_sld hx hb hX hbl hbA hS hg1 dL_law_554 ?_
  refine lv_aload_n hx hb dL_law_555 rfl (lv_at hl 0 rfl) ?_
  refine lv_iload hx hb dL_law_556 (lv_at hl 4 rfl) ?_
  refine lv_iconst (v := (2 : Int32)) hx hb dL_law_558 (by decide) ?_
  refine lv_iadd hx hb dL_law_559 ?_
  obtain ⟨hg2, hf⟩ := og hf
  refine va_sld hx hb hX hbl hbA hS hg2 dL_law_560 ?_
  obtain ⟨o3, ho3, hf⟩ := ob hf
  refine rCallI (vx_runSW (hh := [(0, 6, 9, 21), (0, 6, 12, 13)]) (As := [.ref (s.heap.size + 0), .int (xs (x4 + (1 : Int32)).toNatClampNeg), .int (xs (x4 + (2 : Int32)).toNatClampNeg)]) (rest := []) ⟨hx, hb, hml, hown, hts⟩ (ctL_leak (l := l) (D := D) (cy := cy) (a := s.heap.size) hfl ho3) (vx_cwSW 3 hts gL_law_L_leak rfl rfl rfl (by decide +kernel) ⟨Nat.le_of_ble_eq_true rfl, Nat.le_of_ble_eq_true rfl⟩) (pS hK hZ hw hS) rfl rfl hl.1 rfl (lv_room (Nat.le_of_ble_eq_true rfl)) dL_law_561 ⟨(by show _ ≤ 601024; omega), (by show _ ≤ 7293034; omega)⟩) hS (fun H locs hw hS => ?_)
  refine lv_istore (lv' := [(5, .int o3.1), (0, .ref b), (1, .ref (s.heap.size + 0)), (2, .ref (s.heap.size + 77)), (3, .ref (s.heap.size + 103)), (4, .int x4)]) hx hb dL_law_564 hl (Nat.le_of_ble_eq_true rfl) rfl (fun ls hl => ?_)
  refine lv_aload_n hx hb dL_law_566 rfl (lv_at hl 3 rfl) ?_
  refine lv_aload_n hx hb dL_law_567 rfl (lv_at hl 1 rfl) ?_
  refine lv_iload hx hb dL_law_568 (lv_at hl 5 rfl) ?_
  refine lv_iconst (v := (1 : Int32)) hx hb dL_law_570 (by decide) ?_
  refine lv_iadd hx hb dL_law_571 ?_
  obtain ⟨hg4, hf⟩ := og hf
  refine va_sld hx hb hX hbl hbA hS hg4 dL_law_572 ?_
  refine lv_aload_n hx hb dL_law_573 rfl (lv_at hl 1 rfl) ?_
  refine lv_iload hx hb dL_law_574 (lv_at hl 5 rfl) ?_
  refine lv_iconst (v := (2 : Int32)) hx hb dL_law_576 (by decide) ?_
  refine lv_iadd hx hb dL_law_577 ?_
  obtain ⟨hg5, hf⟩ := og hf
  refine va_sld hx hb hX hbl hbA hS hg5 dL_law_578 ?_
  obtain ⟨o6, ho6, hf⟩ := ob hf
  refine rCallV (va_runV (As := [.int (xs (x4 + (1 : Int32)).toNatClampNeg), .int (xs (x4 + (2 : Int32)).toNatClampNeg)]) (rest := []) ⟨hx, hb, hml, hown, hts⟩ (ctX6_leak (l := l) (D := D) (cy := cy) (a := s.heap.size) ho6) (cwV 2 hts gL_law_X6_leak rfl rfl rfl (by decide +kernel) ⟨Nat.le_of_ble_eq_true rfl, Nat.le_of_ble_eq_true rfl⟩) (pV hK hZ hw hS (rRecv hK hw (Nat.le_of_ble_eq_true rfl) en_model rfl)) rfl rfl hl.1 rfl (lv_room (Nat.le_of_ble_eq_true rfl)) dL_law_579 ⟨(by show _ ≤ 601024; omega), (by show _ ≤ 7293034; omega)⟩) hS (fun H locs hw hS => ?_)
  refine lv_aload_n hx hb dL_law_582 rfl (lv_at hl 3 rfl) ?_
  obtain ⟨o7, ho7, hf⟩ := ob hf
  refine rCallI (va_runV (As := []) (rest := []) ⟨hx, hb, hml, hown, hts⟩ (ctX6_thrown (l := l) (D := D) (cy := cy) (a := s.heap.size) ho7) (cwV 0 hts gL_law_X6_thrown rfl rfl rfl (by decide +kernel) ⟨Nat.le_of_ble_eq_true rfl, Nat.le_of_ble_eq_true rfl⟩) (pV hK hZ hw hS (rRecv hK hw (Nat.le_of_ble_eq_true rfl) en_model rfl)) rfl rfl hl.1 rfl (lv_room (Nat.le_of_ble_eq_true rfl)) dL_law_583 ⟨(by show _ ≤ 601024; omega), (by show _ ≤ 7293034; omega)⟩) hS (fun H locs hw hS => ?_)
  refine lv_iload hx hb dL_law_586 (lv_at hl 0 rfl) ?_
  refine lv_icmp_eq (tgt := 593) hx hb dL_law_588 (by decide) (fun c8 => ?_) (fun c8 => ?_)
  · have hf := ip c8 hf
    refine lv_goto (tgt := 1284) hx hb dL_law_593 (by decide) ?_
    refine lv_iinc (v := x4 + (6 : Int32)) (lv' := [(4, .int (x4 + (6 : Int32))), (5, .int o3.1), (0, .ref b), (1, .ref (s.heap.size + 0)), (2, .ref (s.heap.size + 77)), (3, .ref (s.heap.size + 103))]) hx hb dL_law_1284 hl (k := 5) rfl rfl (Nat.le_of_ble_eq_true rfl) rfl (fun ls hl => ?_)
    refine lv_goto (tgt := 23) hx hb dL_law_1287 (by decide) ?_
    refine W.widen (k := cells + 16) (n := slots + 96) (by omega) (by omega) ?_
    exact hkL23 _ _ _ _ _ hw hS (lv_sub hl [2, 3, 4, 5, 0] rfl) hf
  · have hf := iq c8 hf
    refine lv_iconst (v := (0 : Int32)) hx hb dL_law_591 (by decide) ?_
    exact absurd (Option.some.inj hf) (by decide)
noncomputable def fL_law_b596 (xs : Nat → Int32) (L : Nat) (kL23 : Int32 → Mm → Option Int32) (x4 : Int32) (M : Mm) : Option Int32 := (if ¬ ((x4 + (1 : Int32)) < 0 ∨ L ≤ (x4 + (1 : Int32)).toNatClampNeg) then ((fL_receive (xs (x4 + (1 : Int32)).toNatClampNeg) M).bind fun o2 => (if ¬ ((x4 + (1 : Int32)) < 0 ∨ L ≤ (x4 + (1 : Int32)).toNatClampNeg) then ((fX6_receive (xs (x4 + (1 : Int32)).toNatClampNeg) o2.2).bind fun o4 => ((fX6_thrown o4.2).bind fun o5 => (if o5 = o2.1 then (if o2.1 = 0 then (if ¬ ((0 : Int32) < 0 ∨ 1 ≤ (0 : Int32).toNatClampNeg) then (if (lg_cmp (gi o4.2 103 (0 : Int32).toNatClampNeg).toInt64 o4.1.toInt64) = 0 then kL23 (x4 + (6 : Int32)) o4.2 else some (0 : Int32)) else none) else kL23 (x4 + (6 : Int32)) o4.2) else some (0 : Int32)))) else none)) else none)
set_option maxRecDepth 100000 in
set_option maxHeartbeats 4000000 in
theorem bL_law_596 {p : Program} {l : Launch} {e : Env} {s : State} {m : MethodId} {below : List Frame} {meth : Method} {c : Code} {D : va_G} {cy : Nat → ClassId} {b L : Nat} {xs : Nat → Int32} (hL : L ≤ 3072) (C0 : lw_At p s m meth c b L xs) (hK : KS D cy s) (hZ : ZZ s.heap.size s s.heap) (hfl : l.stackTraces = false) (kL23 : Int32 → Mm → Option Int32) (cells slots : Nat) (hc1 : cells + 16 ≤ 601024) (hc2 : slots + 96 ≤ 7293034) (hkL23 : ∀ (x4 : Int32) (M : Mm) (H : Heap) (locs : List Loc) (ls : Array Slot), HP D cy s.heap.size M H → va_S (Aq s.heap.size) s.heap H locs → lv_has ls 7 [(0, .ref b), (1, .ref (s.heap.size + 0)), (2, .ref (s.heap.size + 77)), (3, .ref (s.heap.size + 103)), (4, .int x4)] → kL23 x4 M = some (1 : Int32) → W p l e room_1 s m #[Value.ref b] below meth c H locs (cells + 16) (slots + 96) (lw_Z below #[Value.ref b] s) (F0 m 23 ls [])) : ∀ (x4 : Int32) (M : Mm) (H : Heap) (locs : List Loc) (ls : Array Slot), HP D cy s.heap.size M H → va_S (Aq s.heap.size) s.heap H locs → lv_has ls 7 [(0, .ref b), (1, .ref (s.heap.size + 0)), (2, .ref (s.heap.size + 77)), (3, .ref (s.heap.size + 103)), (4, .int x4)] → fL_law_b596 xs L kL23 x4 M = some (1 : Int32) → W p l e room_1 s m #[Value.ref b] below meth c H locs cells slots (lw_Z below #[Value.ref b] s) (F0 m 596 ls []) := by
  intro x4 M H locs ls hw hS hl hf
  obtain ⟨hx, hb, hr, hml, hown, hts0, hX, hbl, hlocks, hgv⟩ := C0
  have hts : ∀ w ∈ wsL_law, w.before #[Value.ref b] s = true := fun w h => hts0 w (wsL_law_in w h)
  have hbA : ¬ Aq s.heap.size b := Nat.not_le.mpr hbl
  unfold fL_law_b596 at hf
  refine lv_aload_n hx hb dL_law_596 rfl (lv_at hl 1 rfl) ?_
  refine lv_aload_n hx hb dL_law_597 rfl (lv_at hl 0 rfl) ?_
  refine lv_iload hx hb dL_law_598 (lv_at hl 4 rfl) ?_
  refine lv_iconst (v := (1 : Int32)) hx hb dL_law_600 (by decide) ?_
  refine lv_iadd hx hb dL_law_601 ?_
  obtain ⟨hg1, hf⟩ := og hf
  refine va_sld hx hb hX hbl hbA hS hg1 dL_law_602 ?_
  refine lv_aload_n hx hb dL_law_603 rfl (lv_at hl 3 rfl) ?_
  obtain ⟨o2, ho2, hf⟩ := ob hf
  refine rCallI (vx_runSW (hh := [(0, 9, 12, 21)]) (As := [.ref (s.heap.size + 0), .int (xs (x4 + (1 : Int32)).toNatClampNeg), .ref (s.heap.size + 103)]) (rest := []) ⟨hx, hb, hml, hown, hts⟩ (ctL_receive (l := l) (D := D) (cy := cy) (a := s.heap.size) hfl ho2) (vx_cwSW 3 hts gL_law_L_receive rfl rfl rfl (by decide +kernel) ⟨Nat.le_of_ble_eq_true rfl, Nat.le_of_ble_eq_true rfl⟩) (pS hK hZ hw hS) rfl rfl hl.1 rfl (lv_room (Nat.le_of_ble_eq_true rfl)) dL_law_604 ⟨(by show _ ≤ 601024; omega), (by show _ ≤ 7293034; omega)⟩) hS (fun H locs hw hS => ?_)
  refine lv_istore (lv' := [(5, .int o2.1), (0, .ref b), (1, .ref (s.heap.size + 0)), (2, .ref (s.heap.size + 77)), (3, .ref (s.heap.size + 103)), (4, .int x4)]) hx hb dL_law_607 hl (Nat.le_of_ble_eq_true rfl) rfl (fun ls hl => ?_)
  refine lv_aload_n hx hb dL_law_609 rfl (lv_at hl 3 rfl) ?_
  refine lv_aload_n hx hb dL_law_610 rfl (lv_at hl 1 rfl) ?_
  refine lv_iload hx hb dL_law_611 (lv_at hl 5 rfl) ?_
  refine lv_iconst (v := (1 : Int32)) hx hb dL_law_613 (by decide) ?_
  refine lv_iadd hx hb dL_law_614 ?_
  obtain ⟨hg3, hf⟩ := og hf
  refine va_sld hx hb hX hbl hbA hS hg3 dL_law_615 ?_
  obtain ⟨o4, ho4, hf⟩ := ob hf
  refine rCallI (va_runV (As := [.int (xs (x4 + (1 : Int32)).toNatClampNeg)]) (rest := []) ⟨hx, hb, hml, hown, hts⟩ (ctX6_receive (l := l) (D := D) (cy := cy) (a := s.heap.size) ho4) (cwV 1 hts gL_law_X6_receive rfl rfl rfl (by decide +kernel) ⟨Nat.le_of_ble_eq_true rfl, Nat.le_of_ble_eq_true rfl⟩) (pV hK hZ hw hS (rRecv hK hw (Nat.le_of_ble_eq_true rfl) en_model rfl)) rfl rfl hl.1 rfl (lv_room (Nat.le_of_ble_eq_true rfl)) dL_law_616 ⟨(by show _ ≤ 601024; omega), (by show _ ≤ 7293034; omega)⟩) hS (fun H locs hw hS => ?_)
  refine lv_istore (lv' := [(6, .int o4.1), (5, .int o2.1), (0, .ref b), (1, .ref (s.heap.size + 0)), (2, .ref (s.heap.size + 77)), (3, .ref (s.heap.size + 103)), (4, .int x4)]) hx hb dL_law_619 hl (Nat.le_of_ble_eq_true rfl) rfl (fun ls hl => ?_)
  refine lv_aload_n hx hb dL_law_621 rfl (lv_at hl 4 rfl) ?_
  obtain ⟨o5, ho5, hf⟩ := ob hf
  refine rCallI (va_runV (As := []) (rest := []) ⟨hx, hb, hml, hown, hts⟩ (ctX6_thrown (l := l) (D := D) (cy := cy) (a := s.heap.size) ho5) (cwV 0 hts gL_law_X6_thrown rfl rfl rfl (by decide +kernel) ⟨Nat.le_of_ble_eq_true rfl, Nat.le_of_ble_eq_true rfl⟩) (pV hK hZ hw hS (rRecv hK hw (Nat.le_of_ble_eq_true rfl) en_model rfl)) rfl rfl hl.1 rfl (lv_room (Nat.le_of_ble_eq_true rfl)) dL_law_622 ⟨(by show _ ≤ 601024; omega), (by show _ ≤ 7293034; omega)⟩) hS (fun H locs hw hS => ?_)
  refine lv_iload hx hb dL_law_625 (lv_at hl 1 rfl) ?_
  refine lv_icmp_eq (tgt := 632) hx hb dL_law_627 (by decide) (fun c6 => ?_) (fun c6 => ?_)
  · have hf := ip c6 hf
    refine lv_iload hx hb dL_law_632 (lv_at hl 1 rfl) ?_
    refine lv_if_ne (tgt := 649) hx hb dL_law_634 (by decide) (fun c7 => ?_) (fun c7 => ?_)
    · have hf := iq c7 hf
      refine lv_goto (tgt := 1284) hx hb dL_law_649 (by decide) ?_
      refine lv_iinc (v := x4 + (6 : Int32)) (lv' := [(4, .int (x4 + (6 : Int32))), (6, .int o4.1), (5, .int o2.1), (0, .ref b), (1, .ref (s.heap.size + 0)), (2, .ref (s.heap.size + 77)), (3, .ref (s.heap.size + 103))]) hx hb dL_law_1284 hl (k := 6) rfl rfl (Nat.le_of_ble_eq_true rfl) rfl (fun ls hl => ?_)
      refine lv_goto (tgt := 23) hx hb dL_law_1287 (by decide) ?_
      refine W.widen (k := cells + 16) (n := slots + 96) (by omega) (by omega) ?_
      exact hkL23 _ _ _ _ _ hw hS (lv_sub hl [3, 4, 5, 6, 0] rfl) hf
    · have hf := ip c7 hf
      refine lv_aload_n hx hb dL_law_637 rfl (lv_at hl 5 rfl) ?_
      refine lv_iconst (v := (0 : Int32)) hx hb dL_law_638 (by decide) ?_
      obtain ⟨hg8, hf⟩ := og hf
      refine rLald hx hb hK hw hg8 dL_law_639 ?_
      refine lv_iload hx hb dL_law_640 (lv_at hl 0 rfl) ?_
      refine lv_i2l hx hb dL_law_642 rfl ?_
      refine W.lcmp hx hb dL_law_643 ?_
      refine lv_if_eq (tgt := 649) hx hb dL_law_644 (by decide) (fun c9 => ?_) (fun c9 => ?_)
      · have hf := ip c9 hf
        refine lv_goto (tgt := 1284) hx hb dL_law_649 (by decide) ?_
        refine lv_iinc (v := x4 + (6 : Int32)) (lv' := [(4, .int (x4 + (6 : Int32))), (6, .int o4.1), (5, .int o2.1), (0, .ref b), (1, .ref (s.heap.size + 0)), (2, .ref (s.heap.size + 77)), (3, .ref (s.heap.size + 103))]) hx hb dL_law_1284 hl (k := 6) rfl rfl (Nat.le_of_ble_eq_true rfl) rfl (fun ls hl => ?_)
        refine lv_goto (tgt := 23) hx hb dL_law_1287 (by decide) ?_
        refine W.widen (k := cells + 16) (n := slots + 96) (by omega) (by omega) ?_
        exact hkL23 _ _ _ _ _ hw hS (lv_sub hl [3, 4, 5, 6, 0] rfl) hf
      · have hf := iq c9 hf
        refine lv_iconst (v := (0 : Int32)) hx hb dL_law_647 (by decide) ?_
        exact absurd (Option.some.inj hf) (by decide)
  · have hf := iq c6 hf
    refine lv_iconst (v := (0 : Int32)) hx hb dL_law_630 (by decide) ?_
    exact absurd (Option.some.inj hf) (by decide)
noncomputable def fL_law_b652 (xs : Nat → Int32) (L : Nat) (kL23 : Int32 → Mm → Option Int32) (x4 : Int32) (M : Mm) : Option Int32 := (if ¬ ((x4 + (1 : Int32)) < 0 ∨ L ≤ (x4 + (1 : Int32)).toNatClampNeg) then ((fL_empty (xs (x4 + (1 : Int32)).toNatClampNeg) M).bind fun o2 => (if ¬ ((x4 + (1 : Int32)) < 0 ∨ L ≤ (x4 + (1 : Int32)).toNatClampNeg) then ((fX6_empty (xs (x4 + (1 : Int32)).toNatClampNeg) o2.2).bind fun o4 => ((fX6_thrown o4.2).bind fun o5 => (if o5 = o2.1 then (if o2.1 = 0 then (if ¬ ((0 : Int32) < 0 ∨ 1 ≤ (0 : Int32).toNatClampNeg) then (if (lg_cmp (gi o4.2 103 (0 : Int32).toNatClampNeg).toInt64 o4.1.toInt64) = 0 then kL23 (x4 + (6 : Int32)) o4.2 else some (0 : Int32)) else none) else kL23 (x4 + (6 : Int32)) o4.2) else some (0 : Int32)))) else none)) else none)
set_option maxRecDepth 100000 in
set_option maxHeartbeats 4000000 in
theorem bL_law_652 {p : Program} {l : Launch} {e : Env} {s : State} {m : MethodId} {below : List Frame} {meth : Method} {c : Code} {D : va_G} {cy : Nat → ClassId} {b L : Nat} {xs : Nat → Int32} (hL : L ≤ 3072) (C0 : lw_At p s m meth c b L xs) (hK : KS D cy s) (hZ : ZZ s.heap.size s s.heap) (hfl : l.stackTraces = false) (kL23 : Int32 → Mm → Option Int32) (cells slots : Nat) (hc1 : cells + 16 ≤ 601024) (hc2 : slots + 96 ≤ 7293034) (hkL23 : ∀ (x4 : Int32) (M : Mm) (H : Heap) (locs : List Loc) (ls : Array Slot), HP D cy s.heap.size M H → va_S (Aq s.heap.size) s.heap H locs → lv_has ls 7 [(0, .ref b), (1, .ref (s.heap.size + 0)), (2, .ref (s.heap.size + 77)), (3, .ref (s.heap.size + 103)), (4, .int x4)] → kL23 x4 M = some (1 : Int32) → W p l e room_1 s m #[Value.ref b] below meth c H locs (cells + 16) (slots + 96) (lw_Z below #[Value.ref b] s) (F0 m 23 ls [])) : ∀ (x4 : Int32) (M : Mm) (H : Heap) (locs : List Loc) (ls : Array Slot), HP D cy s.heap.size M H → va_S (Aq s.heap.size) s.heap H locs → lv_has ls 7 [(0, .ref b), (1, .ref (s.heap.size + 0)), (2, .ref (s.heap.size + 77)), (3, .ref (s.heap.size + 103)), (4, .int x4)] → fL_law_b652 xs L kL23 x4 M = some (1 : Int32) → W p l e room_1 s m #[Value.ref b] below meth c H locs cells slots (lw_Z below #[Value.ref b] s) (F0 m 652 ls []) := by
  intro x4 M H locs ls hw hS hl hf
  obtain ⟨hx, hb, hr, hml, hown, hts0, hX, hbl, hlocks, hgv⟩ := C0
  have hts : ∀ w ∈ wsL_law, w.before #[Value.ref b] s = true := fun w h => hts0 w (wsL_law_in w h)
  have hbA : ¬ Aq s.heap.size b := Nat.not_le.mpr hbl
  unfold fL_law_b652 at hf
  refine lv_aload_n hx hb dL_law_652 rfl (lv_at hl 1 rfl) ?_
  refine lv_aload_n hx hb dL_law_653 rfl (lv_at hl 0 rfl) ?_
  refine lv_iload hx hb dL_law_654 (lv_at hl 4 rfl) ?_
  refine lv_iconst (v := (1 : Int32)) hx hb dL_law_656 (by decide) ?_
  refine lv_iadd hx hb dL_law_657 ?_
  obtain ⟨hg1, hf⟩ := og hf
  refine va_sld hx hb hX hbl hbA hS hg1 dL_law_658 ?_
  refine lv_aload_n hx hb dL_law_659 rfl (lv_at hl 3 rfl) ?_
  obtain ⟨o2, ho2, hf⟩ := ob hf
  refine rCallI (vx_runSW (hh := [(0, 9, 12, 21)]) (As := [.ref (s.heap.size + 0), .int (xs (x4 + (1 : Int32)).toNatClampNeg), .ref (s.heap.size + 103)]) (rest := []) ⟨hx, hb, hml, hown, hts⟩ (ctL_empty (l := l) (D := D) (cy := cy) (a := s.heap.size) hfl ho2) (vx_cwSW 3 hts gL_law_L_empty rfl rfl rfl (by decide +kernel) ⟨Nat.le_of_ble_eq_true rfl, Nat.le_of_ble_eq_true rfl⟩) (pS hK hZ hw hS) rfl rfl hl.1 rfl (lv_room (Nat.le_of_ble_eq_true rfl)) dL_law_660 ⟨(by show _ ≤ 601024; omega), (by show _ ≤ 7293034; omega)⟩) hS (fun H locs hw hS => ?_)
  refine lv_istore (lv' := [(5, .int o2.1), (0, .ref b), (1, .ref (s.heap.size + 0)), (2, .ref (s.heap.size + 77)), (3, .ref (s.heap.size + 103)), (4, .int x4)]) hx hb dL_law_663 hl (Nat.le_of_ble_eq_true rfl) rfl (fun ls hl => ?_)
  refine lv_aload_n hx hb dL_law_665 rfl (lv_at hl 3 rfl) ?_
  refine lv_aload_n hx hb dL_law_666 rfl (lv_at hl 1 rfl) ?_
  refine lv_iload hx hb dL_law_667 (lv_at hl 5 rfl) ?_
  refine lv_iconst (v := (1 : Int32)) hx hb dL_law_669 (by decide) ?_
  refine lv_iadd hx hb dL_law_670 ?_
  obtain ⟨hg3, hf⟩ := og hf
  refine va_sld hx hb hX hbl hbA hS hg3 dL_law_671 ?_
  obtain ⟨o4, ho4, hf⟩ := ob hf
  refine rCallI (va_runV (As := [.int (xs (x4 + (1 : Int32)).toNatClampNeg)]) (rest := []) ⟨hx, hb, hml, hown, hts⟩ (ctX6_empty (l := l) (D := D) (cy := cy) (a := s.heap.size) ho4) (cwV 1 hts gL_law_X6_empty rfl rfl rfl (by decide +kernel) ⟨Nat.le_of_ble_eq_true rfl, Nat.le_of_ble_eq_true rfl⟩) (pV hK hZ hw hS (rRecv hK hw (Nat.le_of_ble_eq_true rfl) en_model rfl)) rfl rfl hl.1 rfl (lv_room (Nat.le_of_ble_eq_true rfl)) dL_law_672 ⟨(by show _ ≤ 601024; omega), (by show _ ≤ 7293034; omega)⟩) hS (fun H locs hw hS => ?_)
  refine lv_istore (lv' := [(6, .int o4.1), (5, .int o2.1), (0, .ref b), (1, .ref (s.heap.size + 0)), (2, .ref (s.heap.size + 77)), (3, .ref (s.heap.size + 103)), (4, .int x4)]) hx hb dL_law_675 hl (Nat.le_of_ble_eq_true rfl) rfl (fun ls hl => ?_)
  refine lv_aload_n hx hb dL_law_677 rfl (lv_at hl 4 rfl) ?_
  obtain ⟨o5, ho5, hf⟩ := ob hf
  refine rCallI (va_runV (As := []) (rest := []) ⟨hx, hb, hml, hown, hts⟩ (ctX6_thrown (l := l) (D := D) (cy := cy) (a := s.heap.size) ho5) (cwV 0 hts gL_law_X6_thrown rfl rfl rfl (by decide +kernel) ⟨Nat.le_of_ble_eq_true rfl, Nat.le_of_ble_eq_true rfl⟩) (pV hK hZ hw hS (rRecv hK hw (Nat.le_of_ble_eq_true rfl) en_model rfl)) rfl rfl hl.1 rfl (lv_room (Nat.le_of_ble_eq_true rfl)) dL_law_678 ⟨(by show _ ≤ 601024; omega), (by show _ ≤ 7293034; omega)⟩) hS (fun H locs hw hS => ?_)
  refine lv_iload hx hb dL_law_681 (lv_at hl 1 rfl) ?_
  refine lv_icmp_eq (tgt := 688) hx hb dL_law_683 (by decide) (fun c6 => ?_) (fun c6 => ?_)
  · have hf := ip c6 hf
    refine lv_iload hx hb dL_law_688 (lv_at hl 1 rfl) ?_
    refine lv_if_ne (tgt := 705) hx hb dL_law_690 (by decide) (fun c7 => ?_) (fun c7 => ?_)
    · have hf := iq c7 hf
      refine lv_goto (tgt := 1284) hx hb dL_law_705 (by decide) ?_
      refine lv_iinc (v := x4 + (6 : Int32)) (lv' := [(4, .int (x4 + (6 : Int32))), (6, .int o4.1), (5, .int o2.1), (0, .ref b), (1, .ref (s.heap.size + 0)), (2, .ref (s.heap.size + 77)), (3, .ref (s.heap.size + 103))]) hx hb dL_law_1284 hl (k := 6) rfl rfl (Nat.le_of_ble_eq_true rfl) rfl (fun ls hl => ?_)
      refine lv_goto (tgt := 23) hx hb dL_law_1287 (by decide) ?_
      refine W.widen (k := cells + 16) (n := slots + 96) (by omega) (by omega) ?_
      exact hkL23 _ _ _ _ _ hw hS (lv_sub hl [3, 4, 5, 6, 0] rfl) hf
    · have hf := ip c7 hf
      refine lv_aload_n hx hb dL_law_693 rfl (lv_at hl 5 rfl) ?_
      refine lv_iconst (v := (0 : Int32)) hx hb dL_law_694 (by decide) ?_
      obtain ⟨hg8, hf⟩ := og hf
      refine rLald hx hb hK hw hg8 dL_law_695 ?_
      refine lv_iload hx hb dL_law_696 (lv_at hl 0 rfl) ?_
      refine lv_i2l hx hb dL_law_698 rfl ?_
      refine W.lcmp hx hb dL_law_699 ?_
      refine lv_if_eq (tgt := 705) hx hb dL_law_700 (by decide) (fun c9 => ?_) (fun c9 => ?_)
      · have hf := ip c9 hf
        refine lv_goto (tgt := 1284) hx hb dL_law_705 (by decide) ?_
        refine lv_iinc (v := x4 + (6 : Int32)) (lv' := [(4, .int (x4 + (6 : Int32))), (6, .int o4.1), (5, .int o2.1), (0, .ref b), (1, .ref (s.heap.size + 0)), (2, .ref (s.heap.size + 77)), (3, .ref (s.heap.size + 103))]) hx hb dL_law_1284 hl (k := 6) rfl rfl (Nat.le_of_ble_eq_true rfl) rfl (fun ls hl => ?_)
        refine lv_goto (tgt := 23) hx hb dL_law_1287 (by decide) ?_
        refine W.widen (k := cells + 16) (n := slots + 96) (by omega) (by omega) ?_
        exact hkL23 _ _ _ _ _ hw hS (lv_sub hl [3, 4, 5, 6, 0] rfl) hf
      · have hf := iq c9 hf
        refine lv_iconst (v := (0 : Int32)) hx hb dL_law_703 (by decide) ?_
        exact absurd (Option.some.inj hf) (by decide)
  · have hf := iq c6 hf
    refine lv_iconst (v := (0 : Int32)) hx hb dL_law_686 (by decide) ?_
    exact absurd (Option.some.inj hf) (by decide)
noncomputable def fL_law_b708 (xs : Nat → Int32) (L : Nat) (kL23 : Int32 → Mm → Option Int32) (x4 : Int32) (M : Mm) : Option Int32 := ((fL_launch M).bind fun o1 => ((fX6_launch o1.2).bind fun o2 => ((fX6_thrown o2).bind fun o3 => (if o3 = o1.1 then kL23 (x4 + (6 : Int32)) o2 else some (0 : Int32)))))
set_option maxRecDepth 100000 in
set_option maxHeartbeats 4000000 in
theorem bL_law_708 {p : Program} {l : Launch} {e : Env} {s : State} {m : MethodId} {below : List Frame} {meth : Method} {c : Code} {D : va_G} {cy : Nat → ClassId} {b L : Nat} {xs : Nat → Int32} (hL : L ≤ 3072) (C0 : lw_At p s m meth c b L xs) (hK : KS D cy s) (hZ : ZZ s.heap.size s s.heap) (hfl : l.stackTraces = false) (kL23 : Int32 → Mm → Option Int32) (cells slots : Nat) (hc1 : cells + 16 ≤ 601024) (hc2 : slots + 96 ≤ 7293034) (hkL23 : ∀ (x4 : Int32) (M : Mm) (H : Heap) (locs : List Loc) (ls : Array Slot), HP D cy s.heap.size M H → va_S (Aq s.heap.size) s.heap H locs → lv_has ls 7 [(0, .ref b), (1, .ref (s.heap.size + 0)), (2, .ref (s.heap.size + 77)), (3, .ref (s.heap.size + 103)), (4, .int x4)] → kL23 x4 M = some (1 : Int32) → W p l e room_1 s m #[Value.ref b] below meth c H locs (cells + 16) (slots + 96) (lw_Z below #[Value.ref b] s) (F0 m 23 ls [])) : ∀ (x4 : Int32) (M : Mm) (H : Heap) (locs : List Loc) (ls : Array Slot), HP D cy s.heap.size M H → va_S (Aq s.heap.size) s.heap H locs → lv_has ls 7 [(0, .ref b), (1, .ref (s.heap.size + 0)), (2, .ref (s.heap.size + 77)), (3, .ref (s.heap.size + 103)), (4, .int x4)] → fL_law_b708 xs L kL23 x4 M = some (1 : Int32) → W p l e room_1 s m #[Value.ref b] below meth c H locs cells slots (lw_Z below #[Value.ref b] s) (F0 m 708 ls []) := by
  intro x4 M H locs ls hw hS hl hf
  obtain ⟨hx, hb, hr, hml, hown, hts0, hX, hbl, hlocks, hgv⟩ := C0
  have hts : ∀ w ∈ wsL_law, w.before #[Value.ref b] s = true := fun w h => hts0 w (wsL_law_in w h)
  have hbA : ¬ Aq s.heap.size b := Nat.not_le.mpr hbl
  unfold fL_law_b708 at hf
  refine lv_aload_n hx hb dL_law_708 rfl (lv_at hl 1 rfl) ?_
  obtain ⟨o1, ho1, hf⟩ := ob hf
  refine rCallI (vx_runSW (hh := [(0, 4, 7, 15)]) (As := [.ref (s.heap.size + 0)]) (rest := []) ⟨hx, hb, hml, hown, hts⟩ (ctL_launch (l := l) (D := D) (cy := cy) (a := s.heap.size) hfl ho1) (vx_cwSW 1 hts gL_law_L_launch rfl rfl rfl (by decide +kernel) ⟨Nat.le_of_ble_eq_true rfl, Nat.le_of_ble_eq_true rfl⟩) (pS hK hZ hw hS) rfl rfl hl.1 rfl (lv_room (Nat.le_of_ble_eq_true rfl)) dL_law_709 ⟨(by show _ ≤ 601024; omega), (by show _ ≤ 7293034; omega)⟩) hS (fun H locs hw hS => ?_)
  refine lv_istore (lv' := [(5, .int o1.1), (0, .ref b), (1, .ref (s.heap.size + 0)), (2, .ref (s.heap.size + 77)), (3, .ref (s.heap.size + 103)), (4, .int x4)]) hx hb dL_law_712 hl (Nat.le_of_ble_eq_true rfl) rfl (fun ls hl => ?_)
  refine lv_aload_n hx hb dL_law_714 rfl (lv_at hl 3 rfl) ?_
  obtain ⟨o2, ho2, hf⟩ := ob hf
  refine rCallV (va_runV (As := []) (rest := []) ⟨hx, hb, hml, hown, hts⟩ (ctX6_launch (l := l) (D := D) (cy := cy) (a := s.heap.size) ho2) (cwV 0 hts gL_law_X6_launch rfl rfl rfl (by decide +kernel) ⟨Nat.le_of_ble_eq_true rfl, Nat.le_of_ble_eq_true rfl⟩) (pV hK hZ hw hS (rRecv hK hw (Nat.le_of_ble_eq_true rfl) en_model rfl)) rfl rfl hl.1 rfl (lv_room (Nat.le_of_ble_eq_true rfl)) dL_law_715 ⟨(by show _ ≤ 601024; omega), (by show _ ≤ 7293034; omega)⟩) hS (fun H locs hw hS => ?_)
  refine lv_aload_n hx hb dL_law_718 rfl (lv_at hl 3 rfl) ?_
  obtain ⟨o3, ho3, hf⟩ := ob hf
  refine rCallI (va_runV (As := []) (rest := []) ⟨hx, hb, hml, hown, hts⟩ (ctX6_thrown (l := l) (D := D) (cy := cy) (a := s.heap.size) ho3) (cwV 0 hts gL_law_X6_thrown rfl rfl rfl (by decide +kernel) ⟨Nat.le_of_ble_eq_true rfl, Nat.le_of_ble_eq_true rfl⟩) (pV hK hZ hw hS (rRecv hK hw (Nat.le_of_ble_eq_true rfl) en_model rfl)) rfl rfl hl.1 rfl (lv_room (Nat.le_of_ble_eq_true rfl)) dL_law_719 ⟨(by show _ ≤ 601024; omega), (by show _ ≤ 7293034; omega)⟩) hS (fun H locs hw hS => ?_)
  refine lv_iload hx hb dL_law_722 (lv_at hl 0 rfl) ?_
  refine lv_icmp_eq (tgt := 729) hx hb dL_law_724 (by decide) (fun c4 => ?_) (fun c4 => ?_)
  · have hf := ip c4 hf
    refine lv_goto (tgt := 1284) hx hb dL_law_729 (by decide) ?_
    refine lv_iinc (v := x4 + (6 : Int32)) (lv' := [(4, .int (x4 + (6 : Int32))), (5, .int o1.1), (0, .ref b), (1, .ref (s.heap.size + 0)), (2, .ref (s.heap.size + 77)), (3, .ref (s.heap.size + 103))]) hx hb dL_law_1284 hl (k := 5) rfl rfl (Nat.le_of_ble_eq_true rfl) rfl (fun ls hl => ?_)
    refine lv_goto (tgt := 23) hx hb dL_law_1287 (by decide) ?_
    refine W.widen (k := cells + 16) (n := slots + 96) (by omega) (by omega) ?_
    exact hkL23 _ _ _ _ _ hw hS (lv_sub hl [2, 3, 4, 5, 0] rfl) hf
  · have hf := iq c4 hf
    refine lv_iconst (v := (0 : Int32)) hx hb dL_law_727 (by decide) ?_
    exact absurd (Option.some.inj hf) (by decide)
noncomputable def fL_law_b732 (xs : Nat → Int32) (L : Nat) (kL23 : Int32 → Mm → Option Int32) (x4 : Int32) (M : Mm) : Option Int32 := (if ¬ ((x4 + (1 : Int32)) < 0 ∨ L ≤ (x4 + (1 : Int32)).toNatClampNeg) then ((fL_pass (xs (x4 + (1 : Int32)).toNatClampNeg) M).bind fun o2 => (if ¬ ((x4 + (1 : Int32)) < 0 ∨ L ≤ (x4 + (1 : Int32)).toNatClampNeg) then ((fX6_pass (xs (x4 + (1 : Int32)).toNatClampNeg) o2.2).bind fun o4 => ((fX6_thrown o4.2).bind fun o5 => (if o5 = o2.1 then (if o2.1 = 0 then (if ¬ ((0 : Int32) < 0 ∨ 1 ≤ (0 : Int32).toNatClampNeg) then (if (lg_cmp (gi o4.2 103 (0 : Int32).toNatClampNeg).toInt64 o4.1.toInt64) = 0 then kL23 (x4 + (6 : Int32)) o4.2 else some (0 : Int32)) else none) else kL23 (x4 + (6 : Int32)) o4.2) else some (0 : Int32)))) else none)) else none)
set_option maxRecDepth 100000 in
set_option maxHeartbeats 4000000 in
theorem bL_law_732 {p : Program} {l : Launch} {e : Env} {s : State} {m : MethodId} {below : List Frame} {meth : Method} {c : Code} {D : va_G} {cy : Nat → ClassId} {b L : Nat} {xs : Nat → Int32} (hL : L ≤ 3072) (C0 : lw_At p s m meth c b L xs) (hK : KS D cy s) (hZ : ZZ s.heap.size s s.heap) (hfl : l.stackTraces = false) (kL23 : Int32 → Mm → Option Int32) (cells slots : Nat) (hc1 : cells + 16 ≤ 601024) (hc2 : slots + 96 ≤ 7293034) (hkL23 : ∀ (x4 : Int32) (M : Mm) (H : Heap) (locs : List Loc) (ls : Array Slot), HP D cy s.heap.size M H → va_S (Aq s.heap.size) s.heap H locs → lv_has ls 7 [(0, .ref b), (1, .ref (s.heap.size + 0)), (2, .ref (s.heap.size + 77)), (3, .ref (s.heap.size + 103)), (4, .int x4)] → kL23 x4 M = some (1 : Int32) → W p l e room_1 s m #[Value.ref b] below meth c H locs (cells + 16) (slots + 96) (lw_Z below #[Value.ref b] s) (F0 m 23 ls [])) : ∀ (x4 : Int32) (M : Mm) (H : Heap) (locs : List Loc) (ls : Array Slot), HP D cy s.heap.size M H → va_S (Aq s.heap.size) s.heap H locs → lv_has ls 7 [(0, .ref b), (1, .ref (s.heap.size + 0)), (2, .ref (s.heap.size + 77)), (3, .ref (s.heap.size + 103)), (4, .int x4)] → fL_law_b732 xs L kL23 x4 M = some (1 : Int32) → W p l e room_1 s m #[Value.ref b] below meth c H locs cells slots (lw_Z below #[Value.ref b] s) (F0 m 732 ls []) := by
  intro x4 M H locs ls hw hS hl hf
  obtain ⟨hx, hb, hr, hml, hown, hts0, hX, hbl, hlocks, hgv⟩ := C0
  have hts : ∀ w ∈ wsL_law, w.before #[Value.ref b] s = true := fun w h => hts0 w (wsL_law_in w h)
  have hbA : ¬ Aq s.heap.size b := Nat.not_le.mpr hbl
  unfold fL_law_b732 at hf
  refine lv_aload_n hx hb dL_law_732 rfl (lv_at hl 1 rfl) ?_
  refine lv_aload_n hx hb dL_law_733 rfl (lv_at hl 0 rfl) ?_
  refine lv_iload hx hb dL_law_734 (lv_at hl 4 rfl) ?_
  refine lv_iconst (v := (1 : Int32)) hx hb dL_law_736 (by decide) ?_
  refine lv_iadd hx hb dL_law_737 ?_
  obtain ⟨hg1, hf⟩ := og hf
  refine va_sld hx hb hX hbl hbA hS hg1 dL_law_738 ?_
  refine lv_aload_n hx hb dL_law_739 rfl (lv_at hl 3 rfl) ?_
  obtain ⟨o2, ho2, hf⟩ := ob hf
  refine rCallI (vx_runSW (hh := [(0, 9, 12, 13), (0, 9, 15, 15)]) (As := [.ref (s.heap.size + 0), .int (xs (x4 + (1 : Int32)).toNatClampNeg), .ref (s.heap.size + 103)]) (rest := []) ⟨hx, hb, hml, hown, hts⟩ (ctL_pass (l := l) (D := D) (cy := cy) (a := s.heap.size) hfl ho2) (vx_cwSW 3 hts gL_law_L_pass rfl rfl rfl (by decide +kernel) ⟨Nat.le_of_ble_eq_true rfl, Nat.le_of_ble_eq_true rfl⟩) (pS hK hZ hw hS) rfl rfl hl.1 rfl (lv_room (Nat.le_of_ble_eq_true rfl)) dL_law_740 ⟨(by show _ ≤ 601024; omega), (by show _ ≤ 7293034; omega)⟩) hS (fun H locs hw hS => ?_)
  refine lv_istore (lv' := [(5, .int o2.1), (0, .ref b), (1, .ref (s.heap.size + 0)), (2, .ref (s.heap.size + 77)), (3, .ref (s.heap.size + 103)), (4, .int x4)]) hx hb dL_law_743 hl (Nat.le_of_ble_eq_true rfl) rfl (fun ls hl => ?_)
  refine lv_aload_n hx hb dL_law_745 rfl (lv_at hl 3 rfl) ?_
  refine lv_aload_n hx hb dL_law_746 rfl (lv_at hl 1 rfl) ?_
  refine lv_iload hx hb dL_law_747 (lv_at hl 5 rfl) ?_
  refine lv_iconst (v := (1 : Int32)) hx hb dL_law_749 (by decide) ?_
  refine lv_iadd hx hb dL_law_750 ?_
  obtain ⟨hg3, hf⟩ := og hf
  refine va_sld hx hb hX hbl hbA hS hg3 dL_law_751 ?_
  obtain ⟨o4, ho4, hf⟩ := ob hf
  refine rCallI (va_runV (As := [.int (xs (x4 + (1 : Int32)).toNatClampNeg)]) (rest := []) ⟨hx, hb, hml, hown, hts⟩ (ctX6_pass (l := l) (D := D) (cy := cy) (a := s.heap.size) ho4) (cwV 1 hts gL_law_X6_pass rfl rfl rfl (by decide +kernel) ⟨Nat.le_of_ble_eq_true rfl, Nat.le_of_ble_eq_true rfl⟩) (pV hK hZ hw hS (rRecv hK hw (Nat.le_of_ble_eq_true rfl) en_model rfl)) rfl rfl hl.1 rfl (lv_room (Nat.le_of_ble_eq_true rfl)) dL_law_752 ⟨(by show _ ≤ 601024; omega), (by show _ ≤ 7293034; omega)⟩) hS (fun H locs hw hS => ?_)
  refine lv_istore (lv' := [(6, .int o4.1), (5, .int o2.1), (0, .ref b), (1, .ref (s.heap.size + 0)), (2, .ref (s.heap.size + 77)), (3, .ref (s.heap.size + 103)), (4, .int x4)]) hx hb dL_law_755 hl (Nat.le_of_ble_eq_true rfl) rfl (fun ls hl => ?_)
  refine lv_aload_n hx hb dL_law_757 rfl (lv_at hl 4 rfl) ?_
  obtain ⟨o5, ho5, hf⟩ := ob hf
  refine rCallI (va_runV (As := []) (rest := []) ⟨hx, hb, hml, hown, hts⟩ (ctX6_thrown (l := l) (D := D) (cy := cy) (a := s.heap.size) ho5) (cwV 0 hts gL_law_X6_thrown rfl rfl rfl (by decide +kernel) ⟨Nat.le_of_ble_eq_true rfl, Nat.le_of_ble_eq_true rfl⟩) (pV hK hZ hw hS (rRecv hK hw (Nat.le_of_ble_eq_true rfl) en_model rfl)) rfl rfl hl.1 rfl (lv_room (Nat.le_of_ble_eq_true rfl)) dL_law_758 ⟨(by show _ ≤ 601024; omega), (by show _ ≤ 7293034; omega)⟩) hS (fun H locs hw hS => ?_)
  refine lv_iload hx hb dL_law_761 (lv_at hl 1 rfl) ?_
  refine lv_icmp_eq (tgt := 768) hx hb dL_law_763 (by decide) (fun c6 => ?_) (fun c6 => ?_)
  · have hf := ip c6 hf
    refine lv_iload hx hb dL_law_768 (lv_at hl 1 rfl) ?_
    refine lv_if_ne (tgt := 785) hx hb dL_law_770 (by decide) (fun c7 => ?_) (fun c7 => ?_)
    · have hf := iq c7 hf
      refine lv_goto (tgt := 1284) hx hb dL_law_785 (by decide) ?_
      refine lv_iinc (v := x4 + (6 : Int32)) (lv' := [(4, .int (x4 + (6 : Int32))), (6, .int o4.1), (5, .int o2.1), (0, .ref b), (1, .ref (s.heap.size + 0)), (2, .ref (s.heap.size + 77)), (3, .ref (s.heap.size + 103))]) hx hb dL_law_1284 hl (k := 6) rfl rfl (Nat.le_of_ble_eq_true rfl) rfl (fun ls hl => ?_)
      refine lv_goto (tgt := 23) hx hb dL_law_1287 (by decide) ?_
      refine W.widen (k := cells + 16) (n := slots + 96) (by omega) (by omega) ?_
      exact hkL23 _ _ _ _ _ hw hS (lv_sub hl [3, 4, 5, 6, 0] rfl) hf
    · have hf := ip c7 hf
      refine lv_aload_n hx hb dL_law_773 rfl (lv_at hl 5 rfl) ?_
      refine lv_iconst (v := (0 : Int32)) hx hb dL_law_774 (by decide) ?_
      obtain ⟨hg8, hf⟩ := og hf
      refine rLald hx hb hK hw hg8 dL_law_775 ?_
      refine lv_iload hx hb dL_law_776 (lv_at hl 0 rfl) ?_
      refine lv_i2l hx hb dL_law_778 rfl ?_
      refine W.lcmp hx hb dL_law_779 ?_
      refine lv_if_eq (tgt := 785) hx hb dL_law_780 (by decide) (fun c9 => ?_) (fun c9 => ?_)
      · have hf := ip c9 hf
        refine lv_goto (tgt := 1284) hx hb dL_law_785 (by decide) ?_
        refine lv_iinc (v := x4 + (6 : Int32)) (lv' := [(4, .int (x4 + (6 : Int32))), (6, .int o4.1), (5, .int o2.1), (0, .ref b), (1, .ref (s.heap.size + 0)), (2, .ref (s.heap.size + 77)), (3, .ref (s.heap.size + 103))]) hx hb dL_law_1284 hl (k := 6) rfl rfl (Nat.le_of_ble_eq_true rfl) rfl (fun ls hl => ?_)
        refine lv_goto (tgt := 23) hx hb dL_law_1287 (by decide) ?_
        refine W.widen (k := cells + 16) (n := slots + 96) (by omega) (by omega) ?_
        exact hkL23 _ _ _ _ _ hw hS (lv_sub hl [3, 4, 5, 6, 0] rfl) hf
      · have hf := iq c9 hf
        refine lv_iconst (v := (0 : Int32)) hx hb dL_law_783 (by decide) ?_
        exact absurd (Option.some.inj hf) (by decide)
  · have hf := iq c6 hf
    refine lv_iconst (v := (0 : Int32)) hx hb dL_law_766 (by decide) ?_
    exact absurd (Option.some.inj hf) (by decide)
noncomputable def fL_law_b788 (xs : Nat → Int32) (L : Nat) (kL23 : Int32 → Mm → Option Int32) (x4 : Int32) (M : Mm) : Option Int32 := (if ¬ ((x4 + (1 : Int32)) < 0 ∨ L ≤ (x4 + (1 : Int32)).toNatClampNeg) then (if ¬ ((x4 + (2 : Int32)) < 0 ∨ L ≤ (x4 + (2 : Int32)).toNatClampNeg) then ((fL_batch (xs (x4 + (1 : Int32)).toNatClampNeg) (xs (x4 + (2 : Int32)).toNatClampNeg) M).bind fun o3 => (if ¬ ((x4 + (1 : Int32)) < 0 ∨ L ≤ (x4 + (1 : Int32)).toNatClampNeg) then (if ¬ ((x4 + (2 : Int32)) < 0 ∨ L ≤ (x4 + (2 : Int32)).toNatClampNeg) then ((fX6_batch (xs (x4 + (1 : Int32)).toNatClampNeg) (xs (x4 + (2 : Int32)).toNatClampNeg) o3.2).bind fun o6 => ((fX6_thrown o6.2).bind fun o7 => (if o7 = o3.1 then (if o3.1 = 0 then (if ¬ ((0 : Int32) < 0 ∨ 1 ≤ (0 : Int32).toNatClampNeg) then (if (lg_cmp (gi o6.2 103 (0 : Int32).toNatClampNeg).toInt64 o6.1.toInt64) = 0 then kL23 (x4 + (6 : Int32)) o6.2 else some (0 : Int32)) else none) else kL23 (x4 + (6 : Int32)) o6.2) else some (0 : Int32)))) else none) else none)) else none) else none)
set_option maxRecDepth 100000 in
set_option maxHeartbeats 4000000 in
theorem bL_law_788 {p : Program} {l : Launch} {e : Env} {s : State} {m : MethodId} {below : List Frame} {meth : Method} {c : Code} {D : va_G} {cy : Nat → ClassId} {b L : Nat} {xs : Nat → Int32} (hL : L ≤ 3072) (C0 : lw_At p s m meth c b L xs) (hK : KS D cy s) (hZ : ZZ s.heap.size s s.heap) (hfl : l.stackTraces = false) (kL23 : Int32 → Mm → Option Int32) (cells slots : Nat) (hc1 : cells + 16 ≤ 601024) (hc2 : slots + 96 ≤ 7293034) (hkL23 : ∀ (x4 : Int32) (M : Mm) (H : Heap) (locs : List Loc) (ls : Array Slot), HP D cy s.heap.size M H → va_S (Aq s.heap.size) s.heap H locs → lv_has ls 7 [(0, .ref b), (1, .ref (s.heap.size + 0)), (2, .ref (s.heap.size + 77)), (3, .ref (s.heap.size + 103)), (4, .int x4)] → kL23 x4 M = some (1 : Int32) → W p l e room_1 s m #[Value.ref b] below meth c H locs (cells + 16) (slots + 96) (lw_Z below #[Value.ref b] s) (F0 m 23 ls [])) : ∀ (x4 : Int32) (M : Mm) (H : Heap) (locs : List Loc) (ls : Array Slot), HP D cy s.heap.size M H → va_S (Aq s.heap.size) s.heap H locs → lv_has ls 7 [(0, .ref b), (1, .ref (s.heap.size + 0)), (2, .ref (s.heap.size + 77)), (3, .ref (s.heap.size + 103)), (4, .int x4)] → fL_law_b788 xs L kL23 x4 M = some (1 : Int32) → W p l e room_1 s m #[Value.ref b] below meth c H locs cells slots (lw_Z below #[Value.ref b] s) (F0 m 788 ls []) := by
  intro x4 M H locs ls hw hS hl hf
  obtain ⟨hx, hb, hr, hml, hown, hts0, hX, hbl, hlocks, hgv⟩ := C0
  have hts : ∀ w ∈ wsL_law, w.before #[Value.ref b] s = true := fun w h => hts0 w (wsL_law_in w h)
  have hbA : ¬ Aq s.heap.size b := Nat.not_le.mpr hbl
  unfold fL_law_b788 at hf
  refine lv_aload_n hx hb dL_law_788 rfl (lv_at hl 1 rfl) ?_
  refine lv_aload_n hx hb dL_law_789 rfl (lv_at hl 0 rfl) ?_
  refine lv_iload hx hb dL_law_790 (lv_at hl 4 rfl) ?_
  refine lv_iconst (v := (1 : Int32)) hx hb dL_law_792 (by decide) ?_
  refine lv_iadd hx hb dL_law_793 ?_
  obtain ⟨hg1, hf⟩ := og hf
  refine va_sld hx hb hX hbl hbA hS hg1 dL_law_794 ?_
  refine lv_aload_n hx hb dL_law_795 rfl (lv_at hl 0 rfl) ?_
  refine lv_iload hx hb dL_law_796 (lv_at hl 4 rfl) ?_
  refine lv_iconst (v := (2 : Int32)) hx hb dL_law_798 (by decide) ?_
  refine lv_iadd hx hb dL_law_799 ?_
  obtain ⟨hg2, hf⟩ := og hf
  refine va_sld hx hb hX hbl hbA hS hg2 dL_law_800 ?_
  refine lv_aload_n hx hb dL_law_801 rfl (lv_at hl 3 rfl) ?_
  obtain ⟨o3, ho3, hf⟩ := ob hf
  refine rCallI (vx_runSW (hh := [(0, 10, 13, 21), (0, 10, 17, 13)]) (As := [.ref (s.heap.size + 0), .int (xs (x4 + (1 : Int32)).toNatClampNeg), .int (xs (x4 + (2 : Int32)).toNatClampNeg), .ref (s.heap.size + 103)]) (rest := []) ⟨hx, hb, hml, hown, hts⟩ (ctL_batch (l := l) (D := D) (cy := cy) (a := s.heap.size) hfl ho3) (vx_cwSW 4 hts gL_law_L_batch rfl rfl rfl (by decide +kernel) ⟨Nat.le_of_ble_eq_true rfl, Nat.le_of_ble_eq_true rfl⟩) (pS hK hZ hw hS) rfl rfl hl.1 rfl (lv_room (Nat.le_of_ble_eq_true rfl)) dL_law_802 ⟨(by show _ ≤ 601024; omega), (by show _ ≤ 7293034; omega)⟩) hS (fun H locs hw hS => ?_)
  refine lv_istore (lv' := [(5, .int o3.1), (0, .ref b), (1, .ref (s.heap.size + 0)), (2, .ref (s.heap.size + 77)), (3, .ref (s.heap.size + 103)), (4, .int x4)]) hx hb dL_law_805 hl (Nat.le_of_ble_eq_true rfl) rfl (fun ls hl => ?_)
  refine lv_aload_n hx hb dL_law_807 rfl (lv_at hl 3 rfl) ?_
  refine lv_aload_n hx hb dL_law_808 rfl (lv_at hl 1 rfl) ?_
  refine lv_iload hx hb dL_law_809 (lv_at hl 5 rfl) ?_
  refine lv_iconst (v := (1 : Int32)) hx hb dL_law_811 (by decide) ?_
  refine lv_iadd hx hb dL_law_812 ?_
  obtain ⟨hg4, hf⟩ := og hf
  refine va_sld hx hb hX hbl hbA hS hg4 dL_law_813 ?_
  refine lv_aload_n hx hb dL_law_814 rfl (lv_at hl 1 rfl) ?_
  refine lv_iload hx hb dL_law_815 (lv_at hl 5 rfl) ?_
  refine lv_iconst (v := (2 : Int32)) hx hb dL_law_817 (by decide) ?_
  refine lv_iadd hx hb dL_law_818 ?_
  obtain ⟨hg5, hf⟩ := og hf
  refine va_sld hx hb hX hbl hbA hS hg5 dL_law_819 ?_
  obtain ⟨o6, ho6, hf⟩ := ob hf
  refine rCallI (va_runV (As := [.int (xs (x4 + (1 : Int32)).toNatClampNeg), .int (xs (x4 + (2 : Int32)).toNatClampNeg)]) (rest := []) ⟨hx, hb, hml, hown, hts⟩ (ctX6_batch (l := l) (D := D) (cy := cy) (a := s.heap.size) ho6) (cwV 2 hts gL_law_X6_batch rfl rfl rfl (by decide +kernel) ⟨Nat.le_of_ble_eq_true rfl, Nat.le_of_ble_eq_true rfl⟩) (pV hK hZ hw hS (rRecv hK hw (Nat.le_of_ble_eq_true rfl) en_model rfl)) rfl rfl hl.1 rfl (lv_room (Nat.le_of_ble_eq_true rfl)) dL_law_820 ⟨(by show _ ≤ 601024; omega), (by show _ ≤ 7293034; omega)⟩) hS (fun H locs hw hS => ?_)
  refine lv_istore (lv' := [(6, .int o6.1), (5, .int o3.1), (0, .ref b), (1, .ref (s.heap.size + 0)), (2, .ref (s.heap.size + 77)), (3, .ref (s.heap.size + 103)), (4, .int x4)]) hx hb dL_law_823 hl (Nat.le_of_ble_eq_true rfl) rfl (fun ls hl => ?_)
  refine lv_aload_n hx hb dL_law_825 rfl (lv_at hl 4 rfl) ?_
  obtain ⟨o7, ho7, hf⟩ := ob hf
  refine rCallI (va_runV (As := []) (rest := []) ⟨hx, hb, hml, hown, hts⟩ (ctX6_thrown (l := l) (D := D) (cy := cy) (a := s.heap.size) ho7) (cwV 0 hts gL_law_X6_thrown rfl rfl rfl (by decide +kernel) ⟨Nat.le_of_ble_eq_true rfl, Nat.le_of_ble_eq_true rfl⟩) (pV hK hZ hw hS (rRecv hK hw (Nat.le_of_ble_eq_true rfl) en_model rfl)) rfl rfl hl.1 rfl (lv_room (Nat.le_of_ble_eq_true rfl)) dL_law_826 ⟨(by show _ ≤ 601024; omega), (by show _ ≤ 7293034; omega)⟩) hS (fun H locs hw hS => ?_)
  refine lv_iload hx hb dL_law_829 (lv_at hl 1 rfl) ?_
  refine lv_icmp_eq (tgt := 836) hx hb dL_law_831 (by decide) (fun c8 => ?_) (fun c8 => ?_)
  · have hf := ip c8 hf
    refine lv_iload hx hb dL_law_836 (lv_at hl 1 rfl) ?_
    refine lv_if_ne (tgt := 853) hx hb dL_law_838 (by decide) (fun c9 => ?_) (fun c9 => ?_)
    · have hf := iq c9 hf
      refine lv_goto (tgt := 1284) hx hb dL_law_853 (by decide) ?_
      refine lv_iinc (v := x4 + (6 : Int32)) (lv' := [(4, .int (x4 + (6 : Int32))), (6, .int o6.1), (5, .int o3.1), (0, .ref b), (1, .ref (s.heap.size + 0)), (2, .ref (s.heap.size + 77)), (3, .ref (s.heap.size + 103))]) hx hb dL_law_1284 hl (k := 6) rfl rfl (Nat.le_of_ble_eq_true rfl) rfl (fun ls hl => ?_)
      refine lv_goto (tgt := 23) hx hb dL_law_1287 (by decide) ?_
      refine W.widen (k := cells + 16) (n := slots + 96) (by omega) (by omega) ?_
      exact hkL23 _ _ _ _ _ hw hS (lv_sub hl [3, 4, 5, 6, 0] rfl) hf
    · have hf := ip c9 hf
      refine lv_aload_n hx hb dL_law_841 rfl (lv_at hl 5 rfl) ?_
      refine lv_iconst (v := (0 : Int32)) hx hb dL_law_842 (by decide) ?_
      obtain ⟨hg10, hf⟩ := og hf
      refine rLald hx hb hK hw hg10 dL_law_843 ?_
      refine lv_iload hx hb dL_law_844 (lv_at hl 0 rfl) ?_
      refine lv_i2l hx hb dL_law_846 rfl ?_
      refine W.lcmp hx hb dL_law_847 ?_
      refine lv_if_eq (tgt := 853) hx hb dL_law_848 (by decide) (fun c11 => ?_) (fun c11 => ?_)
      · have hf := ip c11 hf
        refine lv_goto (tgt := 1284) hx hb dL_law_853 (by decide) ?_
        refine lv_iinc (v := x4 + (6 : Int32)) (lv' := [(4, .int (x4 + (6 : Int32))), (6, .int o6.1), (5, .int o3.1), (0, .ref b), (1, .ref (s.heap.size + 0)), (2, .ref (s.heap.size + 77)), (3, .ref (s.heap.size + 103))]) hx hb dL_law_1284 hl (k := 6) rfl rfl (Nat.le_of_ble_eq_true rfl) rfl (fun ls hl => ?_)
        refine lv_goto (tgt := 23) hx hb dL_law_1287 (by decide) ?_
        refine W.widen (k := cells + 16) (n := slots + 96) (by omega) (by omega) ?_
        exact hkL23 _ _ _ _ _ hw hS (lv_sub hl [3, 4, 5, 6, 0] rfl) hf
      · have hf := iq c11 hf
        refine lv_iconst (v := (0 : Int32)) hx hb dL_law_851 (by decide) ?_
        exact absurd (Option.some.inj hf) (by decide)
  · have hf := iq c8 hf
    refine lv_iconst (v := (0 : Int32)) hx hb dL_law_834 (by decide) ?_
    exact absurd (Option.some.inj hf) (by decide)
noncomputable def fL_law_b856 (xs : Nat → Int32) (L : Nat) (kL23 : Int32 → Mm → Option Int32) (x4 : Int32) (M : Mm) : Option Int32 := (if ¬ ((x4 + (1 : Int32)) < 0 ∨ L ≤ (x4 + (1 : Int32)).toNatClampNeg) then ((fL_unit (xs (x4 + (1 : Int32)).toNatClampNeg) M).bind fun o2 => (if ¬ ((x4 + (1 : Int32)) < 0 ∨ L ≤ (x4 + (1 : Int32)).toNatClampNeg) then ((fX6_unit (xs (x4 + (1 : Int32)).toNatClampNeg) o2.2).bind fun o4 => ((fX6_thrown o4.2).bind fun o5 => (if o5 = o2.1 then (if o2.1 = 0 then (if ¬ ((0 : Int32) < 0 ∨ 1 ≤ (0 : Int32).toNatClampNeg) then (if (lg_cmp (gi o4.2 103 (0 : Int32).toNatClampNeg).toInt64 o4.1.toInt64) = 0 then kL23 (x4 + (6 : Int32)) o4.2 else some (0 : Int32)) else none) else kL23 (x4 + (6 : Int32)) o4.2) else some (0 : Int32)))) else none)) else none)
set_option maxRecDepth 100000 in
set_option maxHeartbeats 4000000 in
theorem bL_law_856 {p : Program} {l : Launch} {e : Env} {s : State} {m : MethodId} {below : List Frame} {meth : Method} {c : Code} {D : va_G} {cy : Nat → ClassId} {b L : Nat} {xs : Nat → Int32} (hL : L ≤ 3072) (C0 : lw_At p s m meth c b L xs) (hK : KS D cy s) (hZ : ZZ s.heap.size s s.heap) (hfl : l.stackTraces = false) (kL23 : Int32 → Mm → Option Int32) (cells slots : Nat) (hc1 : cells + 16 ≤ 601024) (hc2 : slots + 96 ≤ 7293034) (hkL23 : ∀ (x4 : Int32) (M : Mm) (H : Heap) (locs : List Loc) (ls : Array Slot), HP D cy s.heap.size M H → va_S (Aq s.heap.size) s.heap H locs → lv_has ls 7 [(0, .ref b), (1, .ref (s.heap.size + 0)), (2, .ref (s.heap.size + 77)), (3, .ref (s.heap.size + 103)), (4, .int x4)] → kL23 x4 M = some (1 : Int32) → W p l e room_1 s m #[Value.ref b] below meth c H locs (cells + 16) (slots + 96) (lw_Z below #[Value.ref b] s) (F0 m 23 ls [])) : ∀ (x4 : Int32) (M : Mm) (H : Heap) (locs : List Loc) (ls : Array Slot), HP D cy s.heap.size M H → va_S (Aq s.heap.size) s.heap H locs → lv_has ls 7 [(0, .ref b), (1, .ref (s.heap.size + 0)), (2, .ref (s.heap.size + 77)), (3, .ref (s.heap.size + 103)), (4, .int x4)] → fL_law_b856 xs L kL23 x4 M = some (1 : Int32) → W p l e room_1 s m #[Value.ref b] below meth c H locs cells slots (lw_Z below #[Value.ref b] s) (F0 m 856 ls []) := by
  intro x4 M H locs ls hw hS hl hf
  obtain ⟨hx, hb, hr, hml, hown, hts0, hX, hbl, hlocks, hgv⟩ := C0
  have hts : ∀ w ∈ wsL_law, w.before #[Value.ref b] s = true := fun w h => hts0 w (wsL_law_in w h)
  have hbA : ¬ Aq s.heap.size b := Nat.not_le.mpr hbl
  unfold fL_law_b856 at hf
  refine lv_aload_n hx hb dL_law_856 rfl (lv_at hl 1 rfl) ?_
  refine lv_aload_n hx hb dL_law_857 rfl (lv_at hl 0 rfl) ?_
  refine lv_iload hx hb dL_law_858 (lv_at hl 4 rfl) ?_
  refine lv_iconst (v := (1 : Int32)) hx hb dL_law_860 (by decide) ?_
  refine lv_iadd hx hb dL_law_861 ?_
  obtain ⟨hg1, hf⟩ := og hf
  refine va_sld hx hb hX hbl hbA hS hg1 dL_law_862 ?_
  refine lv_aload_n hx hb dL_law_863 rfl (lv_at hl 3 rfl) ?_
  obtain ⟨o2, ho2, hf⟩ := ob hf
  refine rCallI (vx_runSW (hh := [(0, 9, 12, 21)]) (As := [.ref (s.heap.size + 0), .int (xs (x4 + (1 : Int32)).toNatClampNeg), .ref (s.heap.size + 103)]) (rest := []) ⟨hx, hb, hml, hown, hts⟩ (ctL_unit (l := l) (D := D) (cy := cy) (a := s.heap.size) hfl ho2) (vx_cwSW 3 hts gL_law_L_unit rfl rfl rfl (by decide +kernel) ⟨Nat.le_of_ble_eq_true rfl, Nat.le_of_ble_eq_true rfl⟩) (pS hK hZ hw hS) rfl rfl hl.1 rfl (lv_room (Nat.le_of_ble_eq_true rfl)) dL_law_864 ⟨(by show _ ≤ 601024; omega), (by show _ ≤ 7293034; omega)⟩) hS (fun H locs hw hS => ?_)
  refine lv_istore (lv' := [(5, .int o2.1), (0, .ref b), (1, .ref (s.heap.size + 0)), (2, .ref (s.heap.size + 77)), (3, .ref (s.heap.size + 103)), (4, .int x4)]) hx hb dL_law_867 hl (Nat.le_of_ble_eq_true rfl) rfl (fun ls hl => ?_)
  refine lv_aload_n hx hb dL_law_869 rfl (lv_at hl 3 rfl) ?_
  refine lv_aload_n hx hb dL_law_870 rfl (lv_at hl 1 rfl) ?_
  refine lv_iload hx hb dL_law_871 (lv_at hl 5 rfl) ?_
  refine lv_iconst (v := (1 : Int32)) hx hb dL_law_873 (by decide) ?_
  refine lv_iadd hx hb dL_law_874 ?_
  obtain ⟨hg3, hf⟩ := og hf
  refine va_sld hx hb hX hbl hbA hS hg3 dL_law_875 ?_
  obtain ⟨o4, ho4, hf⟩ := ob hf
  refine rCallI (va_runV (As := [.int (xs (x4 + (1 : Int32)).toNatClampNeg)]) (rest := []) ⟨hx, hb, hml, hown, hts⟩ (ctX6_unit (l := l) (D := D) (cy := cy) (a := s.heap.size) ho4) (cwV 1 hts gL_law_X6_unit rfl rfl rfl (by decide +kernel) ⟨Nat.le_of_ble_eq_true rfl, Nat.le_of_ble_eq_true rfl⟩) (pV hK hZ hw hS (rRecv hK hw (Nat.le_of_ble_eq_true rfl) en_model rfl)) rfl rfl hl.1 rfl (lv_room (Nat.le_of_ble_eq_true rfl)) dL_law_876 ⟨(by show _ ≤ 601024; omega), (by show _ ≤ 7293034; omega)⟩) hS (fun H locs hw hS => ?_)
  refine lv_istore (lv' := [(6, .int o4.1), (5, .int o2.1), (0, .ref b), (1, .ref (s.heap.size + 0)), (2, .ref (s.heap.size + 77)), (3, .ref (s.heap.size + 103)), (4, .int x4)]) hx hb dL_law_879 hl (Nat.le_of_ble_eq_true rfl) rfl (fun ls hl => ?_)
  refine lv_aload_n hx hb dL_law_881 rfl (lv_at hl 4 rfl) ?_
  obtain ⟨o5, ho5, hf⟩ := ob hf
  refine rCallI (va_runV (As := []) (rest := []) ⟨hx, hb, hml, hown, hts⟩ (ctX6_thrown (l := l) (D := D) (cy := cy) (a := s.heap.size) ho5) (cwV 0 hts gL_law_X6_thrown rfl rfl rfl (by decide +kernel) ⟨Nat.le_of_ble_eq_true rfl, Nat.le_of_ble_eq_true rfl⟩) (pV hK hZ hw hS (rRecv hK hw (Nat.le_of_ble_eq_true rfl) en_model rfl)) rfl rfl hl.1 rfl (lv_room (Nat.le_of_ble_eq_true rfl)) dL_law_882 ⟨(by show _ ≤ 601024; omega), (by show _ ≤ 7293034; omega)⟩) hS (fun H locs hw hS => ?_)
  refine lv_iload hx hb dL_law_885 (lv_at hl 1 rfl) ?_
  refine lv_icmp_eq (tgt := 892) hx hb dL_law_887 (by decide) (fun c6 => ?_) (fun c6 => ?_)
  · have hf := ip c6 hf
    refine lv_iload hx hb dL_law_892 (lv_at hl 1 rfl) ?_
    refine lv_if_ne (tgt := 909) hx hb dL_law_894 (by decide) (fun c7 => ?_) (fun c7 => ?_)
    · have hf := iq c7 hf
      refine lv_goto (tgt := 1284) hx hb dL_law_909 (by decide) ?_
      refine lv_iinc (v := x4 + (6 : Int32)) (lv' := [(4, .int (x4 + (6 : Int32))), (6, .int o4.1), (5, .int o2.1), (0, .ref b), (1, .ref (s.heap.size + 0)), (2, .ref (s.heap.size + 77)), (3, .ref (s.heap.size + 103))]) hx hb dL_law_1284 hl (k := 6) rfl rfl (Nat.le_of_ble_eq_true rfl) rfl (fun ls hl => ?_)
      refine lv_goto (tgt := 23) hx hb dL_law_1287 (by decide) ?_
      refine W.widen (k := cells + 16) (n := slots + 96) (by omega) (by omega) ?_
      exact hkL23 _ _ _ _ _ hw hS (lv_sub hl [3, 4, 5, 6, 0] rfl) hf
    · have hf := ip c7 hf
      refine lv_aload_n hx hb dL_law_897 rfl (lv_at hl 5 rfl) ?_
      refine lv_iconst (v := (0 : Int32)) hx hb dL_law_898 (by decide) ?_
      obtain ⟨hg8, hf⟩ := og hf
      refine rLald hx hb hK hw hg8 dL_law_899 ?_
      refine lv_iload hx hb dL_law_900 (lv_at hl 0 rfl) ?_
      refine lv_i2l hx hb dL_law_902 rfl ?_
      refine W.lcmp hx hb dL_law_903 ?_
      refine lv_if_eq (tgt := 909) hx hb dL_law_904 (by decide) (fun c9 => ?_) (fun c9 => ?_)
      · have hf := ip c9 hf
        refine lv_goto (tgt := 1284) hx hb dL_law_909 (by decide) ?_
        refine lv_iinc (v := x4 + (6 : Int32)) (lv' := [(4, .int (x4 + (6 : Int32))), (6, .int o4.1), (5, .int o2.1), (0, .ref b), (1, .ref (s.heap.size + 0)), (2, .ref (s.heap.size + 77)), (3, .ref (s.heap.size + 103))]) hx hb dL_law_1284 hl (k := 6) rfl rfl (Nat.le_of_ble_eq_true rfl) rfl (fun ls hl => ?_)
        refine lv_goto (tgt := 23) hx hb dL_law_1287 (by decide) ?_
        refine W.widen (k := cells + 16) (n := slots + 96) (by omega) (by omega) ?_
        exact hkL23 _ _ _ _ _ hw hS (lv_sub hl [3, 4, 5, 6, 0] rfl) hf
      · have hf := iq c9 hf
        refine lv_iconst (v := (0 : Int32)) hx hb dL_law_907 (by decide) ?_
        exact absurd (Option.some.inj hf) (by decide)
  · have hf := iq c6 hf
    refine lv_iconst (v := (0 : Int32)) hx hb dL_law_890 (by decide) ?_
    exact absurd (Option.some.inj hf) (by decide)
noncomputable def fL_law_b912 (xs : Nat → Int32) (L : Nat) (kL23 : Int32 → Mm → Option Int32) (x4 : Int32) (M : Mm) : Option Int32 := (if ¬ ((x4 + (1 : Int32)) < 0 ∨ L ≤ (x4 + (1 : Int32)).toNatClampNeg) then ((fL_unitAnew (xs (x4 + (1 : Int32)).toNatClampNeg) M).bind fun o2 => (if ¬ ((x4 + (1 : Int32)) < 0 ∨ L ≤ (x4 + (1 : Int32)).toNatClampNeg) then ((fX6_unitAnew (xs (x4 + (1 : Int32)).toNatClampNeg) o2.2).bind fun o4 => ((fX6_thrown o4.2).bind fun o5 => (if o5 = o2.1 then (if o2.1 = 0 then (if ¬ ((0 : Int32) < 0 ∨ 1 ≤ (0 : Int32).toNatClampNeg) then (if (lg_cmp (gi o4.2 103 (0 : Int32).toNatClampNeg).toInt64 o4.1.toInt64) = 0 then kL23 (x4 + (6 : Int32)) o4.2 else some (0 : Int32)) else none) else kL23 (x4 + (6 : Int32)) o4.2) else some (0 : Int32)))) else none)) else none)
set_option maxRecDepth 100000 in
set_option maxHeartbeats 4000000 in
theorem bL_law_912 {p : Program} {l : Launch} {e : Env} {s : State} {m : MethodId} {below : List Frame} {meth : Method} {c : Code} {D : va_G} {cy : Nat → ClassId} {b L : Nat} {xs : Nat → Int32} (hL : L ≤ 3072) (C0 : lw_At p s m meth c b L xs) (hK : KS D cy s) (hZ : ZZ s.heap.size s s.heap) (hfl : l.stackTraces = false) (kL23 : Int32 → Mm → Option Int32) (cells slots : Nat) (hc1 : cells + 16 ≤ 601024) (hc2 : slots + 96 ≤ 7293034) (hkL23 : ∀ (x4 : Int32) (M : Mm) (H : Heap) (locs : List Loc) (ls : Array Slot), HP D cy s.heap.size M H → va_S (Aq s.heap.size) s.heap H locs → lv_has ls 7 [(0, .ref b), (1, .ref (s.heap.size + 0)), (2, .ref (s.heap.size + 77)), (3, .ref (s.heap.size + 103)), (4, .int x4)] → kL23 x4 M = some (1 : Int32) → W p l e room_1 s m #[Value.ref b] below meth c H locs (cells + 16) (slots + 96) (lw_Z below #[Value.ref b] s) (F0 m 23 ls [])) : ∀ (x4 : Int32) (M : Mm) (H : Heap) (locs : List Loc) (ls : Array Slot), HP D cy s.heap.size M H → va_S (Aq s.heap.size) s.heap H locs → lv_has ls 7 [(0, .ref b), (1, .ref (s.heap.size + 0)), (2, .ref (s.heap.size + 77)), (3, .ref (s.heap.size + 103)), (4, .int x4)] → fL_law_b912 xs L kL23 x4 M = some (1 : Int32) → W p l e room_1 s m #[Value.ref b] below meth c H locs cells slots (lw_Z below #[Value.ref b] s) (F0 m 912 ls []) := by
  intro x4 M H locs ls hw hS hl hf
  obtain ⟨hx, hb, hr, hml, hown, hts0, hX, hbl, hlocks, hgv⟩ := C0
  have hts : ∀ w ∈ wsL_law, w.before #[Value.ref b] s = true := fun w h => hts0 w (wsL_law_in w h)
  have hbA : ¬ Aq s.heap.size b := Nat.not_le.mpr hbl
  unfold fL_law_b912 at hf
  refine lv_aload_n hx hb dL_law_912 rfl (lv_at hl 1 rfl) ?_
  refine lv_aload_n hx hb dL_law_913 rfl (lv_at hl 0 rfl) ?_
  refine lv_iload hx hb dL_law_914 (lv_at hl 4 rfl) ?_
  refine lv_iconst (v := (1 : Int32)) hx hb dL_law_916 (by decide) ?_
  refine lv_iadd hx hb dL_law_917 ?_
  obtain ⟨hg1, hf⟩ := og hf
  refine va_sld hx hb hX hbl hbA hS hg1 dL_law_918 ?_
  refine lv_aload_n hx hb dL_law_919 rfl (lv_at hl 3 rfl) ?_
  obtain ⟨o2, ho2, hf⟩ := ob hf
  refine rCallI (vx_runSW (hh := [(0, 9, 12, 21)]) (As := [.ref (s.heap.size + 0), .int (xs (x4 + (1 : Int32)).toNatClampNeg), .ref (s.heap.size + 103)]) (rest := []) ⟨hx, hb, hml, hown, hts⟩ (ctL_unitAnew (l := l) (D := D) (cy := cy) (a := s.heap.size) hfl ho2) (vx_cwSW 3 hts gL_law_L_unitAnew rfl rfl rfl (by decide +kernel) ⟨Nat.le_of_ble_eq_true rfl, Nat.le_of_ble_eq_true rfl⟩) (pS hK hZ hw hS) rfl rfl hl.1 rfl (lv_room (Nat.le_of_ble_eq_true rfl)) dL_law_920 ⟨(by show _ ≤ 601024; omega), (by show _ ≤ 7293034; omega)⟩) hS (fun H locs hw hS => ?_)
  refine lv_istore (lv' := [(5, .int o2.1), (0, .ref b), (1, .ref (s.heap.size + 0)), (2, .ref (s.heap.size + 77)), (3, .ref (s.heap.size + 103)), (4, .int x4)]) hx hb dL_law_923 hl (Nat.le_of_ble_eq_true rfl) rfl (fun ls hl => ?_)
  refine lv_aload_n hx hb dL_law_925 rfl (lv_at hl 3 rfl) ?_
  refine lv_aload_n hx hb dL_law_926 rfl (lv_at hl 1 rfl) ?_
  refine lv_iload hx hb dL_law_927 (lv_at hl 5 rfl) ?_
  refine lv_iconst (v := (1 : Int32)) hx hb dL_law_929 (by decide) ?_
  refine lv_iadd hx hb dL_law_930 ?_
  obtain ⟨hg3, hf⟩ := og hf
  refine va_sld hx hb hX hbl hbA hS hg3 dL_law_931 ?_
  obtain ⟨o4, ho4, hf⟩ := ob hf
  refine rCallI (va_runV (As := [.int (xs (x4 + (1 : Int32)).toNatClampNeg)]) (rest := []) ⟨hx, hb, hml, hown, hts⟩ (ctX6_unitAnew (l := l) (D := D) (cy := cy) (a := s.heap.size) ho4) (cwV 1 hts gL_law_X6_unitAnew rfl rfl rfl (by decide +kernel) ⟨Nat.le_of_ble_eq_true rfl, Nat.le_of_ble_eq_true rfl⟩) (pV hK hZ hw hS (rRecv hK hw (Nat.le_of_ble_eq_true rfl) en_model rfl)) rfl rfl hl.1 rfl (lv_room (Nat.le_of_ble_eq_true rfl)) dL_law_932 ⟨(by show _ ≤ 601024; omega), (by show _ ≤ 7293034; omega)⟩) hS (fun H locs hw hS => ?_)
  refine lv_istore (lv' := [(6, .int o4.1), (5, .int o2.1), (0, .ref b), (1, .ref (s.heap.size + 0)), (2, .ref (s.heap.size + 77)), (3, .ref (s.heap.size + 103)), (4, .int x4)]) hx hb dL_law_935 hl (Nat.le_of_ble_eq_true rfl) rfl (fun ls hl => ?_)
  refine lv_aload_n hx hb dL_law_937 rfl (lv_at hl 4 rfl) ?_
  obtain ⟨o5, ho5, hf⟩ := ob hf
  refine rCallI (va_runV (As := []) (rest := []) ⟨hx, hb, hml, hown, hts⟩ (ctX6_thrown (l := l) (D := D) (cy := cy) (a := s.heap.size) ho5) (cwV 0 hts gL_law_X6_thrown rfl rfl rfl (by decide +kernel) ⟨Nat.le_of_ble_eq_true rfl, Nat.le_of_ble_eq_true rfl⟩) (pV hK hZ hw hS (rRecv hK hw (Nat.le_of_ble_eq_true rfl) en_model rfl)) rfl rfl hl.1 rfl (lv_room (Nat.le_of_ble_eq_true rfl)) dL_law_938 ⟨(by show _ ≤ 601024; omega), (by show _ ≤ 7293034; omega)⟩) hS (fun H locs hw hS => ?_)
  refine lv_iload hx hb dL_law_941 (lv_at hl 1 rfl) ?_
  refine lv_icmp_eq (tgt := 948) hx hb dL_law_943 (by decide) (fun c6 => ?_) (fun c6 => ?_)
  · have hf := ip c6 hf
    refine lv_iload hx hb dL_law_948 (lv_at hl 1 rfl) ?_
    refine lv_if_ne (tgt := 965) hx hb dL_law_950 (by decide) (fun c7 => ?_) (fun c7 => ?_)
    · have hf := iq c7 hf
      refine lv_goto (tgt := 1284) hx hb dL_law_965 (by decide) ?_
      refine lv_iinc (v := x4 + (6 : Int32)) (lv' := [(4, .int (x4 + (6 : Int32))), (6, .int o4.1), (5, .int o2.1), (0, .ref b), (1, .ref (s.heap.size + 0)), (2, .ref (s.heap.size + 77)), (3, .ref (s.heap.size + 103))]) hx hb dL_law_1284 hl (k := 6) rfl rfl (Nat.le_of_ble_eq_true rfl) rfl (fun ls hl => ?_)
      refine lv_goto (tgt := 23) hx hb dL_law_1287 (by decide) ?_
      refine W.widen (k := cells + 16) (n := slots + 96) (by omega) (by omega) ?_
      exact hkL23 _ _ _ _ _ hw hS (lv_sub hl [3, 4, 5, 6, 0] rfl) hf
    · have hf := ip c7 hf
      refine lv_aload_n hx hb dL_law_953 rfl (lv_at hl 5 rfl) ?_
      refine lv_iconst (v := (0 : Int32)) hx hb dL_law_954 (by decide) ?_
      obtain ⟨hg8, hf⟩ := og hf
      refine rLald hx hb hK hw hg8 dL_law_955 ?_
      refine lv_iload hx hb dL_law_956 (lv_at hl 0 rfl) ?_
      refine lv_i2l hx hb dL_law_958 rfl ?_
      refine W.lcmp hx hb dL_law_959 ?_
      refine lv_if_eq (tgt := 965) hx hb dL_law_960 (by decide) (fun c9 => ?_) (fun c9 => ?_)
      · have hf := ip c9 hf
        refine lv_goto (tgt := 1284) hx hb dL_law_965 (by decide) ?_
        refine lv_iinc (v := x4 + (6 : Int32)) (lv' := [(4, .int (x4 + (6 : Int32))), (6, .int o4.1), (5, .int o2.1), (0, .ref b), (1, .ref (s.heap.size + 0)), (2, .ref (s.heap.size + 77)), (3, .ref (s.heap.size + 103))]) hx hb dL_law_1284 hl (k := 6) rfl rfl (Nat.le_of_ble_eq_true rfl) rfl (fun ls hl => ?_)
        refine lv_goto (tgt := 23) hx hb dL_law_1287 (by decide) ?_
        refine W.widen (k := cells + 16) (n := slots + 96) (by omega) (by omega) ?_
        exact hkL23 _ _ _ _ _ hw hS (lv_sub hl [3, 4, 5, 6, 0] rfl) hf
      · have hf := iq c9 hf
        refine lv_iconst (v := (0 : Int32)) hx hb dL_law_963 (by decide) ?_
        exact absurd (Option.some.inj hf) (by decide)
  · have hf := iq c6 hf
    refine lv_iconst (v := (0 : Int32)) hx hb dL_law_946 (by decide) ?_
    exact absurd (Option.some.inj hf) (by decide)
noncomputable def fL_law_b968 (xs : Nat → Int32) (L : Nat) (kL23 : Int32 → Mm → Option Int32) (x4 : Int32) (M : Mm) : Option Int32 := (if ¬ ((x4 + (1 : Int32)) < 0 ∨ L ≤ (x4 + (1 : Int32)).toNatClampNeg) then (if ¬ ((x4 + (2 : Int32)) < 0 ∨ L ≤ (x4 + (2 : Int32)).toNatClampNeg) then ((fL_pressure (xs (x4 + (1 : Int32)).toNatClampNeg) (xs (x4 + (2 : Int32)).toNatClampNeg) M).bind fun o3 => (if ¬ ((x4 + (1 : Int32)) < 0 ∨ L ≤ (x4 + (1 : Int32)).toNatClampNeg) then (if ¬ ((x4 + (2 : Int32)) < 0 ∨ L ≤ (x4 + (2 : Int32)).toNatClampNeg) then ((fX6_pressure (xs (x4 + (1 : Int32)).toNatClampNeg) (xs (x4 + (2 : Int32)).toNatClampNeg) o3.2).bind fun o6 => ((fX6_thrown o6.2).bind fun o7 => (if o7 = o3.1 then (if o3.1 = 0 then (if ¬ ((0 : Int32) < 0 ∨ 1 ≤ (0 : Int32).toNatClampNeg) then (if (lg_cmp (gi o6.2 103 (0 : Int32).toNatClampNeg).toInt64 o6.1.toInt64) = 0 then kL23 (x4 + (6 : Int32)) o6.2 else some (0 : Int32)) else none) else kL23 (x4 + (6 : Int32)) o6.2) else some (0 : Int32)))) else none) else none)) else none) else none)
set_option maxRecDepth 100000 in
set_option maxHeartbeats 4000000 in
theorem bL_law_968 {p : Program} {l : Launch} {e : Env} {s : State} {m : MethodId} {below : List Frame} {meth : Method} {c : Code} {D : va_G} {cy : Nat → ClassId} {b L : Nat} {xs : Nat → Int32} (hL : L ≤ 3072) (C0 : lw_At p s m meth c b L xs) (hK : KS D cy s) (hZ : ZZ s.heap.size s s.heap) (hfl : l.stackTraces = false) (kL23 : Int32 → Mm → Option Int32) (cells slots : Nat) (hc1 : cells + 16 ≤ 601024) (hc2 : slots + 96 ≤ 7293034) (hkL23 : ∀ (x4 : Int32) (M : Mm) (H : Heap) (locs : List Loc) (ls : Array Slot), HP D cy s.heap.size M H → va_S (Aq s.heap.size) s.heap H locs → lv_has ls 7 [(0, .ref b), (1, .ref (s.heap.size + 0)), (2, .ref (s.heap.size + 77)), (3, .ref (s.heap.size + 103)), (4, .int x4)] → kL23 x4 M = some (1 : Int32) → W p l e room_1 s m #[Value.ref b] below meth c H locs (cells + 16) (slots + 96) (lw_Z below #[Value.ref b] s) (F0 m 23 ls [])) : ∀ (x4 : Int32) (M : Mm) (H : Heap) (locs : List Loc) (ls : Array Slot), HP D cy s.heap.size M H → va_S (Aq s.heap.size) s.heap H locs → lv_has ls 7 [(0, .ref b), (1, .ref (s.heap.size + 0)), (2, .ref (s.heap.size + 77)), (3, .ref (s.heap.size + 103)), (4, .int x4)] → fL_law_b968 xs L kL23 x4 M = some (1 : Int32) → W p l e room_1 s m #[Value.ref b] below meth c H locs cells slots (lw_Z below #[Value.ref b] s) (F0 m 968 ls []) := by
  intro x4 M H locs ls hw hS hl hf
  obtain ⟨hx, hb, hr, hml, hown, hts0, hX, hbl, hlocks, hgv⟩ := C0
  have hts : ∀ w ∈ wsL_law, w.before #[Value.ref b] s = true := fun w h => hts0 w (wsL_law_in w h)
  have hbA : ¬ Aq s.heap.size b := Nat.not_le.mpr hbl
  unfold fL_law_b968 at hf
  refine lv_aload_n hx hb dL_law_968 rfl (lv_at hl 1 rfl) ?_
  refine lv_aload_n hx hb dL_law_969 rfl (lv_at hl 0 rfl) ?_
  refine lv_iload hx hb dL_law_970 (lv_at hl 4 rfl) ?_
  refine lv_iconst (v := (1 : Int32)) hx hb dL_law_972 (by decide) ?_
  refine lv_iadd hx hb dL_law_973 ?_
  obtain ⟨hg1, hf⟩ := og hf
  refine va_sld hx hb hX hbl hbA hS hg1 dL_law_974 ?_
  refine lv_aload_n hx hb dL_law_975 rfl (lv_at hl 0 rfl) ?_
  refine lv_iload hx hb dL_law_976 (lv_at hl 4 rfl) ?_
  refine lv_iconst (v := (2 : Int32)) hx hb dL_law_978 (by decide) ?_
  refine lv_iadd hx hb dL_law_979 ?_
  obtain ⟨hg2, hf⟩ := og hf
  refine va_sld hx hb hX hbl hbA hS hg2 dL_law_980 ?_
  refine lv_aload_n hx hb dL_law_981 rfl (lv_at hl 3 rfl) ?_
  obtain ⟨o3, ho3, hf⟩ := ob hf
  refine rCallI (vx_runSW (hh := [(0, 10, 13, 21), (0, 10, 17, 13), (0, 10, 21, 15)]) (As := [.ref (s.heap.size + 0), .int (xs (x4 + (1 : Int32)).toNatClampNeg), .int (xs (x4 + (2 : Int32)).toNatClampNeg), .ref (s.heap.size + 103)]) (rest := []) ⟨hx, hb, hml, hown, hts⟩ (ctL_pressure (l := l) (D := D) (cy := cy) (a := s.heap.size) hfl ho3) (vx_cwSW 4 hts gL_law_L_pressure rfl rfl rfl (by decide +kernel) ⟨Nat.le_of_ble_eq_true rfl, Nat.le_of_ble_eq_true rfl⟩) (pS hK hZ hw hS) rfl rfl hl.1 rfl (lv_room (Nat.le_of_ble_eq_true rfl)) dL_law_982 ⟨(by show _ ≤ 601024; omega), (by show _ ≤ 7293034; omega)⟩) hS (fun H locs hw hS => ?_)
  refine lv_istore (lv' := [(5, .int o3.1), (0, .ref b), (1, .ref (s.heap.size + 0)), (2, .ref (s.heap.size + 77)), (3, .ref (s.heap.size + 103)), (4, .int x4)]) hx hb dL_law_985 hl (Nat.le_of_ble_eq_true rfl) rfl (fun ls hl => ?_)
  refine lv_aload_n hx hb dL_law_987 rfl (lv_at hl 3 rfl) ?_
  refine lv_aload_n hx hb dL_law_988 rfl (lv_at hl 1 rfl) ?_
  refine lv_iload hx hb dL_law_989 (lv_at hl 5 rfl) ?_
  refine lv_iconst (v := (1 : Int32)) hx hb dL_law_991 (by decide) ?_
  refine lv_iadd hx hb dL_law_992 ?_
  obtain ⟨hg4, hf⟩ := og hf
  refine va_sld hx hb hX hbl hbA hS hg4 dL_law_993 ?_
  refine lv_aload_n hx hb dL_law_994 rfl (lv_at hl 1 rfl) ?_
  refine lv_iload hx hb dL_law_995 (lv_at hl 5 rfl) ?_
  refine lv_iconst (v := (2 : Int32)) hx hb dL_law_997 (by decide) ?_
  refine lv_iadd hx hb dL_law_998 ?_
  obtain ⟨hg5, hf⟩ := og hf
  refine va_sld hx hb hX hbl hbA hS hg5 dL_law_999 ?_
  obtain ⟨o6, ho6, hf⟩ := ob hf
  refine rCallI (va_runV (As := [.int (xs (x4 + (1 : Int32)).toNatClampNeg), .int (xs (x4 + (2 : Int32)).toNatClampNeg)]) (rest := []) ⟨hx, hb, hml, hown, hts⟩ (ctX6_pressure (l := l) (D := D) (cy := cy) (a := s.heap.size) ho6) (cwV 2 hts gL_law_X6_pressure rfl rfl rfl (by decide +kernel) ⟨Nat.le_of_ble_eq_true rfl, Nat.le_of_ble_eq_true rfl⟩) (pV hK hZ hw hS (rRecv hK hw (Nat.le_of_ble_eq_true rfl) en_model rfl)) rfl rfl hl.1 rfl (lv_room (Nat.le_of_ble_eq_true rfl)) dL_law_1000 ⟨(by show _ ≤ 601024; omega), (by show _ ≤ 7293034; omega)⟩) hS (fun H locs hw hS => ?_)
  refine lv_istore (lv' := [(6, .int o6.1), (5, .int o3.1), (0, .ref b), (1, .ref (s.heap.size + 0)), (2, .ref (s.heap.size + 77)), (3, .ref (s.heap.size + 103)), (4, .int x4)]) hx hb dL_law_1003 hl (Nat.le_of_ble_eq_true rfl) rfl (fun ls hl => ?_)
  refine lv_aload_n hx hb dL_law_1005 rfl (lv_at hl 4 rfl) ?_
  obtain ⟨o7, ho7, hf⟩ := ob hf
  refine rCallI (va_runV (As := []) (rest := []) ⟨hx, hb, hml, hown, hts⟩ (ctX6_thrown (l := l) (D := D) (cy := cy) (a := s.heap.size) ho7) (cwV 0 hts gL_law_X6_thrown rfl rfl rfl (by decide +kernel) ⟨Nat.le_of_ble_eq_true rfl, Nat.le_of_ble_eq_true rfl⟩) (pV hK hZ hw hS (rRecv hK hw (Nat.le_of_ble_eq_true rfl) en_model rfl)) rfl rfl hl.1 rfl (lv_room (Nat.le_of_ble_eq_true rfl)) dL_law_1006 ⟨(by show _ ≤ 601024; omega), (by show _ ≤ 7293034; omega)⟩) hS (fun H locs hw hS => ?_)
  refine lv_iload hx hb dL_law_1009 (lv_at hl 1 rfl) ?_
  refine lv_icmp_eq (tgt := 1016) hx hb dL_law_1011 (by decide) (fun c8 => ?_) (fun c8 => ?_)
  · have hf := ip c8 hf
    refine lv_iload hx hb dL_law_1016 (lv_at hl 1 rfl) ?_
    refine lv_if_ne (tgt := 1033) hx hb dL_law_1018 (by decide) (fun c9 => ?_) (fun c9 => ?_)
    · have hf := iq c9 hf
      refine lv_goto (tgt := 1284) hx hb dL_law_1033 (by decide) ?_
      refine lv_iinc (v := x4 + (6 : Int32)) (lv' := [(4, .int (x4 + (6 : Int32))), (6, .int o6.1), (5, .int o3.1), (0, .ref b), (1, .ref (s.heap.size + 0)), (2, .ref (s.heap.size + 77)), (3, .ref (s.heap.size + 103))]) hx hb dL_law_1284 hl (k := 6) rfl rfl (Nat.le_of_ble_eq_true rfl) rfl (fun ls hl => ?_)
      refine lv_goto (tgt := 23) hx hb dL_law_1287 (by decide) ?_
      refine W.widen (k := cells + 16) (n := slots + 96) (by omega) (by omega) ?_
      exact hkL23 _ _ _ _ _ hw hS (lv_sub hl [3, 4, 5, 6, 0] rfl) hf
    · have hf := ip c9 hf
      refine lv_aload_n hx hb dL_law_1021 rfl (lv_at hl 5 rfl) ?_
      refine lv_iconst (v := (0 : Int32)) hx hb dL_law_1022 (by decide) ?_
      obtain ⟨hg10, hf⟩ := og hf
      refine rLald hx hb hK hw hg10 dL_law_1023 ?_
      refine lv_iload hx hb dL_law_1024 (lv_at hl 0 rfl) ?_
      refine lv_i2l hx hb dL_law_1026 rfl ?_
      refine W.lcmp hx hb dL_law_1027 ?_
      refine lv_if_eq (tgt := 1033) hx hb dL_law_1028 (by decide) (fun c11 => ?_) (fun c11 => ?_)
      · have hf := ip c11 hf
        refine lv_goto (tgt := 1284) hx hb dL_law_1033 (by decide) ?_
        refine lv_iinc (v := x4 + (6 : Int32)) (lv' := [(4, .int (x4 + (6 : Int32))), (6, .int o6.1), (5, .int o3.1), (0, .ref b), (1, .ref (s.heap.size + 0)), (2, .ref (s.heap.size + 77)), (3, .ref (s.heap.size + 103))]) hx hb dL_law_1284 hl (k := 6) rfl rfl (Nat.le_of_ble_eq_true rfl) rfl (fun ls hl => ?_)
        refine lv_goto (tgt := 23) hx hb dL_law_1287 (by decide) ?_
        refine W.widen (k := cells + 16) (n := slots + 96) (by omega) (by omega) ?_
        exact hkL23 _ _ _ _ _ hw hS (lv_sub hl [3, 4, 5, 6, 0] rfl) hf
      · have hf := iq c11 hf
        refine lv_iconst (v := (0 : Int32)) hx hb dL_law_1031 (by decide) ?_
        exact absurd (Option.some.inj hf) (by decide)
  · have hf := iq c8 hf
    refine lv_iconst (v := (0 : Int32)) hx hb dL_law_1014 (by decide) ?_
    exact absurd (Option.some.inj hf) (by decide)
noncomputable def fL_law_b1036 (xs : Nat → Int32) (L : Nat) (kL23 : Int32 → Mm → Option Int32) (x4 : Int32) (M : Mm) : Option Int32 := (if ¬ ((x4 + (1 : Int32)) < 0 ∨ L ≤ (x4 + (1 : Int32)).toNatClampNeg) then (if ¬ ((x4 + (2 : Int32)) < 0 ∨ L ≤ (x4 + (2 : Int32)).toNatClampNeg) then ((fL_tank (xs (x4 + (1 : Int32)).toNatClampNeg) (xs (x4 + (2 : Int32)).toNatClampNeg) M).bind fun o3 => (if ¬ ((x4 + (1 : Int32)) < 0 ∨ L ≤ (x4 + (1 : Int32)).toNatClampNeg) then (if ¬ ((x4 + (2 : Int32)) < 0 ∨ L ≤ (x4 + (2 : Int32)).toNatClampNeg) then ((fX6_tank (xs (x4 + (1 : Int32)).toNatClampNeg) (xs (x4 + (2 : Int32)).toNatClampNeg) o3.2).bind fun o6 => ((fX6_thrown o6.2).bind fun o7 => (if o7 = o3.1 then (if o3.1 = 0 then (if ¬ ((0 : Int32) < 0 ∨ 1 ≤ (0 : Int32).toNatClampNeg) then (if (lg_cmp (gi o6.2 103 (0 : Int32).toNatClampNeg).toInt64 o6.1.toInt64) = 0 then kL23 (x4 + (6 : Int32)) o6.2 else some (0 : Int32)) else none) else kL23 (x4 + (6 : Int32)) o6.2) else some (0 : Int32)))) else none) else none)) else none) else none)
set_option maxRecDepth 100000 in
set_option maxHeartbeats 4000000 in
theorem bL_law_1036 {p : Program} {l : Launch} {e : Env} {s : State} {m : MethodId} {below : List Frame} {meth : Method} {c : Code} {D : va_G} {cy : Nat → ClassId} {b L : Nat} {xs : Nat → Int32} (hL : L ≤ 3072) (C0 : lw_At p s m meth c b L xs) (hK : KS D cy s) (hZ : ZZ s.heap.size s s.heap) (hfl : l.stackTraces = false) (kL23 : Int32 → Mm → Option Int32) (cells slots : Nat) (hc1 : cells + 16 ≤ 601024) (hc2 : slots + 96 ≤ 7293034) (hkL23 : ∀ (x4 : Int32) (M : Mm) (H : Heap) (locs : List Loc) (ls : Array Slot), HP D cy s.heap.size M H → va_S (Aq s.heap.size) s.heap H locs → lv_has ls 7 [(0, .ref b), (1, .ref (s.heap.size + 0)), (2, .ref (s.heap.size + 77)), (3, .ref (s.heap.size + 103)), (4, .int x4)] → kL23 x4 M = some (1 : Int32) → W p l e room_1 s m #[Value.ref b] below meth c H locs (cells + 16) (slots + 96) (lw_Z below #[Value.ref b] s) (F0 m 23 ls [])) : ∀ (x4 : Int32) (M : Mm) (H : Heap) (locs : List Loc) (ls : Array Slot), HP D cy s.heap.size M H → va_S (Aq s.heap.size) s.heap H locs → lv_has ls 7 [(0, .ref b), (1, .ref (s.heap.size + 0)), (2, .ref (s.heap.size + 77)), (3, .ref (s.heap.size + 103)), (4, .int x4)] → fL_law_b1036 xs L kL23 x4 M = some (1 : Int32) → W p l e room_1 s m #[Value.ref b] below meth c H locs cells slots (lw_Z below #[Value.ref b] s) (F0 m 1036 ls []) := by
  intro x4 M H locs ls hw hS hl hf
  obtain ⟨hx, hb, hr, hml, hown, hts0, hX, hbl, hlocks, hgv⟩ := C0
  have hts : ∀ w ∈ wsL_law, w.before #[Value.ref b] s = true := fun w h => hts0 w (wsL_law_in w h)
  have hbA : ¬ Aq s.heap.size b := Nat.not_le.mpr hbl
  unfold fL_law_b1036 at hf
  refine lv_aload_n hx hb dL_law_1036 rfl (lv_at hl 1 rfl) ?_
  refine lv_aload_n hx hb dL_law_1037 rfl (lv_at hl 0 rfl) ?_
  refine lv_iload hx hb dL_law_1038 (lv_at hl 4 rfl) ?_
  refine lv_iconst (v := (1 : Int32)) hx hb dL_law_1040 (by decide) ?_
  refine lv_iadd hx hb dL_law_1041 ?_
  obtain ⟨hg1, hf⟩ := og hf
  refine va_sld hx hb hX hbl hbA hS hg1 dL_law_1042 ?_
  refine lv_aload_n hx hb dL_law_1043 rfl (lv_at hl 0 rfl) ?_
  refine lv_iload hx hb dL_law_1044 (lv_at hl 4 rfl) ?_
  refine lv_iconst (v := (2 : Int32)) hx hb dL_law_1046 (by decide) ?_
  refine lv_iadd hx hb dL_law_1047 ?_
  obtain ⟨hg2, hf⟩ := og hf
  refine va_sld hx hb hX hbl hbA hS hg2 dL_law_1048 ?_
  refine lv_aload_n hx hb dL_law_1049 rfl (lv_at hl 3 rfl) ?_
  obtain ⟨o3, ho3, hf⟩ := ob hf
  refine rCallI (vx_runSW (hh := [(0, 10, 13, 21), (0, 10, 17, 13)]) (As := [.ref (s.heap.size + 0), .int (xs (x4 + (1 : Int32)).toNatClampNeg), .int (xs (x4 + (2 : Int32)).toNatClampNeg), .ref (s.heap.size + 103)]) (rest := []) ⟨hx, hb, hml, hown, hts⟩ (ctL_tank (l := l) (D := D) (cy := cy) (a := s.heap.size) hfl ho3) (vx_cwSW 4 hts gL_law_L_tank rfl rfl rfl (by decide +kernel) ⟨Nat.le_of_ble_eq_true rfl, Nat.le_of_ble_eq_true rfl⟩) (pS hK hZ hw hS) rfl rfl hl.1 rfl (lv_room (Nat.le_of_ble_eq_true rfl)) dL_law_1050 ⟨(by show _ ≤ 601024; omega), (by show _ ≤ 7293034; omega)⟩) hS (fun H locs hw hS => ?_)
  refine lv_istore (lv' := [(5, .int o3.1), (0, .ref b), (1, .ref (s.heap.size + 0)), (2, .ref (s.heap.size + 77)), (3, .ref (s.heap.size + 103)), (4, .int x4)]) hx hb dL_law_1053 hl (Nat.le_of_ble_eq_true rfl) rfl (fun ls hl => ?_)
  refine lv_aload_n hx hb dL_law_1055 rfl (lv_at hl 3 rfl) ?_
  refine lv_aload_n hx hb dL_law_1056 rfl (lv_at hl 1 rfl) ?_
  refine lv_iload hx hb dL_law_1057 (lv_at hl 5 rfl) ?_
  refine lv_iconst (v := (1 : Int32)) hx hb dL_law_1059 (by decide) ?_
  refine lv_iadd hx hb dL_law_1060 ?_
  obtain ⟨hg4, hf⟩ := og hf
  refine va_sld hx hb hX hbl hbA hS hg4 dL_law_1061 ?_
  refine lv_aload_n hx hb dL_law_1062 rfl (lv_at hl 1 rfl) ?_
  refine lv_iload hx hb dL_law_1063 (lv_at hl 5 rfl) ?_
  refine lv_iconst (v := (2 : Int32)) hx hb dL_law_1065 (by decide) ?_
  refine lv_iadd hx hb dL_law_1066 ?_
  obtain ⟨hg5, hf⟩ := og hf
  refine va_sld hx hb hX hbl hbA hS hg5 dL_law_1067 ?_
  obtain ⟨o6, ho6, hf⟩ := ob hf
  refine rCallI (va_runV (As := [.int (xs (x4 + (1 : Int32)).toNatClampNeg), .int (xs (x4 + (2 : Int32)).toNatClampNeg)]) (rest := []) ⟨hx, hb, hml, hown, hts⟩ (ctX6_tank (l := l) (D := D) (cy := cy) (a := s.heap.size) ho6) (cwV 2 hts gL_law_X6_tank rfl rfl rfl (by decide +kernel) ⟨Nat.le_of_ble_eq_true rfl, Nat.le_of_ble_eq_true rfl⟩) (pV hK hZ hw hS (rRecv hK hw (Nat.le_of_ble_eq_true rfl) en_model rfl)) rfl rfl hl.1 rfl (lv_room (Nat.le_of_ble_eq_true rfl)) dL_law_1068 ⟨(by show _ ≤ 601024; omega), (by show _ ≤ 7293034; omega)⟩) hS (fun H locs hw hS => ?_)
  refine lv_istore (lv' := [(6, .int o6.1), (5, .int o3.1), (0, .ref b), (1, .ref (s.heap.size + 0)), (2, .ref (s.heap.size + 77)), (3, .ref (s.heap.size + 103)), (4, .int x4)]) hx hb dL_law_1071 hl (Nat.le_of_ble_eq_true rfl) rfl (fun ls hl => ?_)
  refine lv_aload_n hx hb dL_law_1073 rfl (lv_at hl 4 rfl) ?_
  obtain ⟨o7, ho7, hf⟩ := ob hf
  refine rCallI (va_runV (As := []) (rest := []) ⟨hx, hb, hml, hown, hts⟩ (ctX6_thrown (l := l) (D := D) (cy := cy) (a := s.heap.size) ho7) (cwV 0 hts gL_law_X6_thrown rfl rfl rfl (by decide +kernel) ⟨Nat.le_of_ble_eq_true rfl, Nat.le_of_ble_eq_true rfl⟩) (pV hK hZ hw hS (rRecv hK hw (Nat.le_of_ble_eq_true rfl) en_model rfl)) rfl rfl hl.1 rfl (lv_room (Nat.le_of_ble_eq_true rfl)) dL_law_1074 ⟨(by show _ ≤ 601024; omega), (by show _ ≤ 7293034; omega)⟩) hS (fun H locs hw hS => ?_)
  refine lv_iload hx hb dL_law_1077 (lv_at hl 1 rfl) ?_
  refine lv_icmp_eq (tgt := 1084) hx hb dL_law_1079 (by decide) (fun c8 => ?_) (fun c8 => ?_)
  · have hf := ip c8 hf
    refine lv_iload hx hb dL_law_1084 (lv_at hl 1 rfl) ?_
    refine lv_if_ne (tgt := 1101) hx hb dL_law_1086 (by decide) (fun c9 => ?_) (fun c9 => ?_)
    · have hf := iq c9 hf
      refine lv_goto (tgt := 1284) hx hb dL_law_1101 (by decide) ?_
      refine lv_iinc (v := x4 + (6 : Int32)) (lv' := [(4, .int (x4 + (6 : Int32))), (6, .int o6.1), (5, .int o3.1), (0, .ref b), (1, .ref (s.heap.size + 0)), (2, .ref (s.heap.size + 77)), (3, .ref (s.heap.size + 103))]) hx hb dL_law_1284 hl (k := 6) rfl rfl (Nat.le_of_ble_eq_true rfl) rfl (fun ls hl => ?_)
      refine lv_goto (tgt := 23) hx hb dL_law_1287 (by decide) ?_
      refine W.widen (k := cells + 16) (n := slots + 96) (by omega) (by omega) ?_
      exact hkL23 _ _ _ _ _ hw hS (lv_sub hl [3, 4, 5, 6, 0] rfl) hf
    · have hf := ip c9 hf
      refine lv_aload_n hx hb dL_law_1089 rfl (lv_at hl 5 rfl) ?_
      refine lv_iconst (v := (0 : Int32)) hx hb dL_law_1090 (by decide) ?_
      obtain ⟨hg10, hf⟩ := og hf
      refine rLald hx hb hK hw hg10 dL_law_1091 ?_
      refine lv_iload hx hb dL_law_1092 (lv_at hl 0 rfl) ?_
      refine lv_i2l hx hb dL_law_1094 rfl ?_
      refine W.lcmp hx hb dL_law_1095 ?_
      refine lv_if_eq (tgt := 1101) hx hb dL_law_1096 (by decide) (fun c11 => ?_) (fun c11 => ?_)
      · have hf := ip c11 hf
        refine lv_goto (tgt := 1284) hx hb dL_law_1101 (by decide) ?_
        refine lv_iinc (v := x4 + (6 : Int32)) (lv' := [(4, .int (x4 + (6 : Int32))), (6, .int o6.1), (5, .int o3.1), (0, .ref b), (1, .ref (s.heap.size + 0)), (2, .ref (s.heap.size + 77)), (3, .ref (s.heap.size + 103))]) hx hb dL_law_1284 hl (k := 6) rfl rfl (Nat.le_of_ble_eq_true rfl) rfl (fun ls hl => ?_)
        refine lv_goto (tgt := 23) hx hb dL_law_1287 (by decide) ?_
        refine W.widen (k := cells + 16) (n := slots + 96) (by omega) (by omega) ?_
        exact hkL23 _ _ _ _ _ hw hS (lv_sub hl [3, 4, 5, 6, 0] rfl) hf
      · have hf := iq c11 hf
        refine lv_iconst (v := (0 : Int32)) hx hb dL_law_1099 (by decide) ?_
        exact absurd (Option.some.inj hf) (by decide)
  · have hf := iq c8 hf
    refine lv_iconst (v := (0 : Int32)) hx hb dL_law_1082 (by decide) ?_
    exact absurd (Option.some.inj hf) (by decide)
noncomputable def fL_law_b1104 (xs : Nat → Int32) (L : Nat) (kL23 : Int32 → Mm → Option Int32) (x4 : Int32) (M : Mm) : Option Int32 := (if ¬ ((x4 + (1 : Int32)) < 0 ∨ L ≤ (x4 + (1 : Int32)).toNatClampNeg) then ((fL_pipe (xs (x4 + (1 : Int32)).toNatClampNeg) M).bind fun o2 => (if ¬ ((x4 + (1 : Int32)) < 0 ∨ L ≤ (x4 + (1 : Int32)).toNatClampNeg) then ((fX6_pipe (xs (x4 + (1 : Int32)).toNatClampNeg) o2.2).bind fun o4 => ((fX6_thrown o4.2).bind fun o5 => (if o5 = o2.1 then (if o2.1 = 0 then (if ¬ ((0 : Int32) < 0 ∨ 1 ≤ (0 : Int32).toNatClampNeg) then (if (lg_cmp (gi o4.2 103 (0 : Int32).toNatClampNeg).toInt64 o4.1.toInt64) = 0 then kL23 (x4 + (6 : Int32)) o4.2 else some (0 : Int32)) else none) else kL23 (x4 + (6 : Int32)) o4.2) else some (0 : Int32)))) else none)) else none)
set_option maxRecDepth 100000 in
set_option maxHeartbeats 4000000 in
theorem bL_law_1104 {p : Program} {l : Launch} {e : Env} {s : State} {m : MethodId} {below : List Frame} {meth : Method} {c : Code} {D : va_G} {cy : Nat → ClassId} {b L : Nat} {xs : Nat → Int32} (hL : L ≤ 3072) (C0 : lw_At p s m meth c b L xs) (hK : KS D cy s) (hZ : ZZ s.heap.size s s.heap) (hfl : l.stackTraces = false) (kL23 : Int32 → Mm → Option Int32) (cells slots : Nat) (hc1 : cells + 16 ≤ 601024) (hc2 : slots + 96 ≤ 7293034) (hkL23 : ∀ (x4 : Int32) (M : Mm) (H : Heap) (locs : List Loc) (ls : Array Slot), HP D cy s.heap.size M H → va_S (Aq s.heap.size) s.heap H locs → lv_has ls 7 [(0, .ref b), (1, .ref (s.heap.size + 0)), (2, .ref (s.heap.size + 77)), (3, .ref (s.heap.size + 103)), (4, .int x4)] → kL23 x4 M = some (1 : Int32) → W p l e room_1 s m #[Value.ref b] below meth c H locs (cells + 16) (slots + 96) (lw_Z below #[Value.ref b] s) (F0 m 23 ls [])) : ∀ (x4 : Int32) (M : Mm) (H : Heap) (locs : List Loc) (ls : Array Slot), HP D cy s.heap.size M H → va_S (Aq s.heap.size) s.heap H locs → lv_has ls 7 [(0, .ref b), (1, .ref (s.heap.size + 0)), (2, .ref (s.heap.size + 77)), (3, .ref (s.heap.size + 103)), (4, .int x4)] → fL_law_b1104 xs L kL23 x4 M = some (1 : Int32) → W p l e room_1 s m #[Value.ref b] below meth c H locs cells slots (lw_Z below #[Value.ref b] s) (F0 m 1104 ls []) := by
  intro x4 M H locs ls hw hS hl hf
  obtain ⟨hx, hb, hr, hml, hown, hts0, hX, hbl, hlocks, hgv⟩ := C0
  have hts : ∀ w ∈ wsL_law, w.before #[Value.ref b] s = true := fun w h => hts0 w (wsL_law_in w h)
  have hbA : ¬ Aq s.heap.size b := Nat.not_le.mpr hbl
  unfold fL_law_b1104 at hf
  refine lv_aload_n hx hb dL_law_1104 rfl (lv_at hl 1 rfl) ?_
  refine lv_aload_n hx hb dL_law_1105 rfl (lv_at hl 0 rfl) ?_
  refine lv_iload hx hb dL_law_1106 (lv_at hl 4 rfl) ?_
  refine lv_iconst (v := (1 : Int32)) hx hb dL_law_1108 (by decide) ?_
  refine lv_iadd hx hb dL_law_1109 ?_
  obtain ⟨hg1, hf⟩ := og hf
  refine va_sld hx hb hX hbl hbA hS hg1 dL_law_1110 ?_
  refine lv_aload_n hx hb dL_law_1111 rfl (lv_at hl 3 rfl) ?_
  obtain ⟨o2, ho2, hf⟩ := ob hf
  refine rCallI (vx_runSW (hh := [(0, 9, 12, 13)]) (As := [.ref (s.heap.size + 0), .int (xs (x4 + (1 : Int32)).toNatClampNeg), .ref (s.heap.size + 103)]) (rest := []) ⟨hx, hb, hml, hown, hts⟩ (ctL_pipe (l := l) (D := D) (cy := cy) (a := s.heap.size) hfl ho2) (vx_cwSW 3 hts gL_law_L_pipe rfl rfl rfl (by decide +kernel) ⟨Nat.le_of_ble_eq_true rfl, Nat.le_of_ble_eq_true rfl⟩) (pS hK hZ hw hS) rfl rfl hl.1 rfl (lv_room (Nat.le_of_ble_eq_true rfl)) dL_law_1112 ⟨(by show _ ≤ 601024; omega), (by show _ ≤ 7293034; omega)⟩) hS (fun H locs hw hS => ?_)
  refine lv_istore (lv' := [(5, .int o2.1), (0, .ref b), (1, .ref (s.heap.size + 0)), (2, .ref (s.heap.size + 77)), (3, .ref (s.heap.size + 103)), (4, .int x4)]) hx hb dL_law_1115 hl (Nat.le_of_ble_eq_true rfl) rfl (fun ls hl => ?_)
  refine lv_aload_n hx hb dL_law_1117 rfl (lv_at hl 3 rfl) ?_
  refine lv_aload_n hx hb dL_law_1118 rfl (lv_at hl 1 rfl) ?_
  refine lv_iload hx hb dL_law_1119 (lv_at hl 5 rfl) ?_
  refine lv_iconst (v := (1 : Int32)) hx hb dL_law_1121 (by decide) ?_
  refine lv_iadd hx hb dL_law_1122 ?_
  obtain ⟨hg3, hf⟩ := og hf
  refine va_sld hx hb hX hbl hbA hS hg3 dL_law_1123 ?_
  obtain ⟨o4, ho4, hf⟩ := ob hf
  refine rCallI (va_runV (As := [.int (xs (x4 + (1 : Int32)).toNatClampNeg)]) (rest := []) ⟨hx, hb, hml, hown, hts⟩ (ctX6_pipe (l := l) (D := D) (cy := cy) (a := s.heap.size) ho4) (cwV 1 hts gL_law_X6_pipe rfl rfl rfl (by decide +kernel) ⟨Nat.le_of_ble_eq_true rfl, Nat.le_of_ble_eq_true rfl⟩) (pV hK hZ hw hS (rRecv hK hw (Nat.le_of_ble_eq_true rfl) en_model rfl)) rfl rfl hl.1 rfl (lv_room (Nat.le_of_ble_eq_true rfl)) dL_law_1124 ⟨(by show _ ≤ 601024; omega), (by show _ ≤ 7293034; omega)⟩) hS (fun H locs hw hS => ?_)
  refine lv_istore (lv' := [(6, .int o4.1), (5, .int o2.1), (0, .ref b), (1, .ref (s.heap.size + 0)), (2, .ref (s.heap.size + 77)), (3, .ref (s.heap.size + 103)), (4, .int x4)]) hx hb dL_law_1127 hl (Nat.le_of_ble_eq_true rfl) rfl (fun ls hl => ?_)
  refine lv_aload_n hx hb dL_law_1129 rfl (lv_at hl 4 rfl) ?_
  obtain ⟨o5, ho5, hf⟩ := ob hf
  refine rCallI (va_runV (As := []) (rest := []) ⟨hx, hb, hml, hown, hts⟩ (ctX6_thrown (l := l) (D := D) (cy := cy) (a := s.heap.size) ho5) (cwV 0 hts gL_law_X6_thrown rfl rfl rfl (by decide +kernel) ⟨Nat.le_of_ble_eq_true rfl, Nat.le_of_ble_eq_true rfl⟩) (pV hK hZ hw hS (rRecv hK hw (Nat.le_of_ble_eq_true rfl) en_model rfl)) rfl rfl hl.1 rfl (lv_room (Nat.le_of_ble_eq_true rfl)) dL_law_1130 ⟨(by show _ ≤ 601024; omega), (by show _ ≤ 7293034; omega)⟩) hS (fun H locs hw hS => ?_)
  refine lv_iload hx hb dL_law_1133 (lv_at hl 1 rfl) ?_
  refine lv_icmp_eq (tgt := 1140) hx hb dL_law_1135 (by decide) (fun c6 => ?_) (fun c6 => ?_)
  · have hf := ip c6 hf
    refine lv_iload hx hb dL_law_1140 (lv_at hl 1 rfl) ?_
    refine lv_if_ne (tgt := 1157) hx hb dL_law_1142 (by decide) (fun c7 => ?_) (fun c7 => ?_)
    · have hf := iq c7 hf
      refine lv_goto (tgt := 1284) hx hb dL_law_1157 (by decide) ?_
      refine lv_iinc (v := x4 + (6 : Int32)) (lv' := [(4, .int (x4 + (6 : Int32))), (6, .int o4.1), (5, .int o2.1), (0, .ref b), (1, .ref (s.heap.size + 0)), (2, .ref (s.heap.size + 77)), (3, .ref (s.heap.size + 103))]) hx hb dL_law_1284 hl (k := 6) rfl rfl (Nat.le_of_ble_eq_true rfl) rfl (fun ls hl => ?_)
      refine lv_goto (tgt := 23) hx hb dL_law_1287 (by decide) ?_
      refine W.widen (k := cells + 16) (n := slots + 96) (by omega) (by omega) ?_
      exact hkL23 _ _ _ _ _ hw hS (lv_sub hl [3, 4, 5, 6, 0] rfl) hf
    · have hf := ip c7 hf
      refine lv_aload_n hx hb dL_law_1145 rfl (lv_at hl 5 rfl) ?_
      refine lv_iconst (v := (0 : Int32)) hx hb dL_law_1146 (by decide) ?_
      obtain ⟨hg8, hf⟩ := og hf
      refine rLald hx hb hK hw hg8 dL_law_1147 ?_
      refine lv_iload hx hb dL_law_1148 (lv_at hl 0 rfl) ?_
      refine lv_i2l hx hb dL_law_1150 rfl ?_
      refine W.lcmp hx hb dL_law_1151 ?_
      refine lv_if_eq (tgt := 1157) hx hb dL_law_1152 (by decide) (fun c9 => ?_) (fun c9 => ?_)
      · have hf := ip c9 hf
        refine lv_goto (tgt := 1284) hx hb dL_law_1157 (by decide) ?_
        refine lv_iinc (v := x4 + (6 : Int32)) (lv' := [(4, .int (x4 + (6 : Int32))), (6, .int o4.1), (5, .int o2.1), (0, .ref b), (1, .ref (s.heap.size + 0)), (2, .ref (s.heap.size + 77)), (3, .ref (s.heap.size + 103))]) hx hb dL_law_1284 hl (k := 6) rfl rfl (Nat.le_of_ble_eq_true rfl) rfl (fun ls hl => ?_)
        refine lv_goto (tgt := 23) hx hb dL_law_1287 (by decide) ?_
        refine W.widen (k := cells + 16) (n := slots + 96) (by omega) (by omega) ?_
        exact hkL23 _ _ _ _ _ hw hS (lv_sub hl [3, 4, 5, 6, 0] rfl) hf
      · have hf := iq c9 hf
        refine lv_iconst (v := (0 : Int32)) hx hb dL_law_1155 (by decide) ?_
        exact absurd (Option.some.inj hf) (by decide)
  · have hf := iq c6 hf
    refine lv_iconst (v := (0 : Int32)) hx hb dL_law_1138 (by decide) ?_
    exact absurd (Option.some.inj hf) (by decide)
noncomputable def fL_law_b1160 (xs : Nat → Int32) (L : Nat) (kL23 : Int32 → Mm → Option Int32) (x4 : Int32) (M : Mm) : Option Int32 := (if ¬ ((x4 + (1 : Int32)) < 0 ∨ L ≤ (x4 + (1 : Int32)).toNatClampNeg) then ((fL_dirt (xs (x4 + (1 : Int32)).toNatClampNeg) M).bind fun o2 => (if ¬ ((x4 + (1 : Int32)) < 0 ∨ L ≤ (x4 + (1 : Int32)).toNatClampNeg) then ((fX6_dirt (xs (x4 + (1 : Int32)).toNatClampNeg) o2.2).bind fun o4 => ((fX6_thrown o4.2).bind fun o5 => (if o5 = o2.1 then (if o2.1 = 0 then (if ¬ ((0 : Int32) < 0 ∨ 1 ≤ (0 : Int32).toNatClampNeg) then (if (lg_cmp (gi o4.2 103 (0 : Int32).toNatClampNeg).toInt64 o4.1.toInt64) = 0 then kL23 (x4 + (6 : Int32)) o4.2 else some (0 : Int32)) else none) else kL23 (x4 + (6 : Int32)) o4.2) else some (0 : Int32)))) else none)) else none)
set_option maxRecDepth 100000 in
set_option maxHeartbeats 4000000 in
theorem bL_law_1160 {p : Program} {l : Launch} {e : Env} {s : State} {m : MethodId} {below : List Frame} {meth : Method} {c : Code} {D : va_G} {cy : Nat → ClassId} {b L : Nat} {xs : Nat → Int32} (hL : L ≤ 3072) (C0 : lw_At p s m meth c b L xs) (hK : KS D cy s) (hZ : ZZ s.heap.size s s.heap) (hfl : l.stackTraces = false) (kL23 : Int32 → Mm → Option Int32) (cells slots : Nat) (hc1 : cells + 16 ≤ 601024) (hc2 : slots + 96 ≤ 7293034) (hkL23 : ∀ (x4 : Int32) (M : Mm) (H : Heap) (locs : List Loc) (ls : Array Slot), HP D cy s.heap.size M H → va_S (Aq s.heap.size) s.heap H locs → lv_has ls 7 [(0, .ref b), (1, .ref (s.heap.size + 0)), (2, .ref (s.heap.size + 77)), (3, .ref (s.heap.size + 103)), (4, .int x4)] → kL23 x4 M = some (1 : Int32) → W p l e room_1 s m #[Value.ref b] below meth c H locs (cells + 16) (slots + 96) (lw_Z below #[Value.ref b] s) (F0 m 23 ls [])) : ∀ (x4 : Int32) (M : Mm) (H : Heap) (locs : List Loc) (ls : Array Slot), HP D cy s.heap.size M H → va_S (Aq s.heap.size) s.heap H locs → lv_has ls 7 [(0, .ref b), (1, .ref (s.heap.size + 0)), (2, .ref (s.heap.size + 77)), (3, .ref (s.heap.size + 103)), (4, .int x4)] → fL_law_b1160 xs L kL23 x4 M = some (1 : Int32) → W p l e room_1 s m #[Value.ref b] below meth c H locs cells slots (lw_Z below #[Value.ref b] s) (F0 m 1160 ls []) := by
  intro x4 M H locs ls hw hS hl hf
  obtain ⟨hx, hb, hr, hml, hown, hts0, hX, hbl, hlocks, hgv⟩ := C0
  have hts : ∀ w ∈ wsL_law, w.before #[Value.ref b] s = true := fun w h => hts0 w (wsL_law_in w h)
  have hbA : ¬ Aq s.heap.size b := Nat.not_le.mpr hbl
  unfold fL_law_b1160 at hf
  refine lv_aload_n hx hb dL_law_1160 rfl (lv_at hl 1 rfl) ?_
  refine lv_aload_n hx hb dL_law_1161 rfl (lv_at hl 0 rfl) ?_
  refine lv_iload hx hb dL_law_1162 (lv_at hl 4 rfl) ?_
  refine lv_iconst (v := (1 : Int32)) hx hb dL_law_1164 (by decide) ?_
  refine lv_iadd hx hb dL_law_1165 ?_
  obtain ⟨hg1, hf⟩ := og hf
  refine va_sld hx hb hX hbl hbA hS hg1 dL_law_1166 ?_
  refine lv_aload_n hx hb dL_law_1167 rfl (lv_at hl 3 rfl) ?_
  obtain ⟨o2, ho2, hf⟩ := ob hf
  refine rCallI (vx_runSW (hh := [(0, 9, 12, 21)]) (As := [.ref (s.heap.size + 0), .int (xs (x4 + (1 : Int32)).toNatClampNeg), .ref (s.heap.size + 103)]) (rest := []) ⟨hx, hb, hml, hown, hts⟩ (ctL_dirt (l := l) (D := D) (cy := cy) (a := s.heap.size) hfl ho2) (vx_cwSW 3 hts gL_law_L_dirt rfl rfl rfl (by decide +kernel) ⟨Nat.le_of_ble_eq_true rfl, Nat.le_of_ble_eq_true rfl⟩) (pS hK hZ hw hS) rfl rfl hl.1 rfl (lv_room (Nat.le_of_ble_eq_true rfl)) dL_law_1168 ⟨(by show _ ≤ 601024; omega), (by show _ ≤ 7293034; omega)⟩) hS (fun H locs hw hS => ?_)
  refine lv_istore (lv' := [(5, .int o2.1), (0, .ref b), (1, .ref (s.heap.size + 0)), (2, .ref (s.heap.size + 77)), (3, .ref (s.heap.size + 103)), (4, .int x4)]) hx hb dL_law_1171 hl (Nat.le_of_ble_eq_true rfl) rfl (fun ls hl => ?_)
  refine lv_aload_n hx hb dL_law_1173 rfl (lv_at hl 3 rfl) ?_
  refine lv_aload_n hx hb dL_law_1174 rfl (lv_at hl 1 rfl) ?_
  refine lv_iload hx hb dL_law_1175 (lv_at hl 5 rfl) ?_
  refine lv_iconst (v := (1 : Int32)) hx hb dL_law_1177 (by decide) ?_
  refine lv_iadd hx hb dL_law_1178 ?_
  obtain ⟨hg3, hf⟩ := og hf
  refine va_sld hx hb hX hbl hbA hS hg3 dL_law_1179 ?_
  obtain ⟨o4, ho4, hf⟩ := ob hf
  refine rCallI (va_runV (As := [.int (xs (x4 + (1 : Int32)).toNatClampNeg)]) (rest := []) ⟨hx, hb, hml, hown, hts⟩ (ctX6_dirt (l := l) (D := D) (cy := cy) (a := s.heap.size) ho4) (cwV 1 hts gL_law_X6_dirt rfl rfl rfl (by decide +kernel) ⟨Nat.le_of_ble_eq_true rfl, Nat.le_of_ble_eq_true rfl⟩) (pV hK hZ hw hS (rRecv hK hw (Nat.le_of_ble_eq_true rfl) en_model rfl)) rfl rfl hl.1 rfl (lv_room (Nat.le_of_ble_eq_true rfl)) dL_law_1180 ⟨(by show _ ≤ 601024; omega), (by show _ ≤ 7293034; omega)⟩) hS (fun H locs hw hS => ?_)
  refine lv_istore (lv' := [(6, .int o4.1), (5, .int o2.1), (0, .ref b), (1, .ref (s.heap.size + 0)), (2, .ref (s.heap.size + 77)), (3, .ref (s.heap.size + 103)), (4, .int x4)]) hx hb dL_law_1183 hl (Nat.le_of_ble_eq_true rfl) rfl (fun ls hl => ?_)
  refine lv_aload_n hx hb dL_law_1185 rfl (lv_at hl 4 rfl) ?_
  obtain ⟨o5, ho5, hf⟩ := ob hf
  refine rCallI (va_runV (As := []) (rest := []) ⟨hx, hb, hml, hown, hts⟩ (ctX6_thrown (l := l) (D := D) (cy := cy) (a := s.heap.size) ho5) (cwV 0 hts gL_law_X6_thrown rfl rfl rfl (by decide +kernel) ⟨Nat.le_of_ble_eq_true rfl, Nat.le_of_ble_eq_true rfl⟩) (pV hK hZ hw hS (rRecv hK hw (Nat.le_of_ble_eq_true rfl) en_model rfl)) rfl rfl hl.1 rfl (lv_room (Nat.le_of_ble_eq_true rfl)) dL_law_1186 ⟨(by show _ ≤ 601024; omega), (by show _ ≤ 7293034; omega)⟩) hS (fun H locs hw hS => ?_)
  refine lv_iload hx hb dL_law_1189 (lv_at hl 1 rfl) ?_
  refine lv_icmp_eq (tgt := 1196) hx hb dL_law_1191 (by decide) (fun c6 => ?_) (fun c6 => ?_)
  · have hf := ip c6 hf
    refine lv_iload hx hb dL_law_1196 (lv_at hl 1 rfl) ?_
    refine lv_if_ne (tgt := 1213) hx hb dL_law_1198 (by decide) (fun c7 => ?_) (fun c7 => ?_)
    · have hf := iq c7 hf
      refine lv_goto (tgt := 1284) hx hb dL_law_1213 (by decide) ?_
      refine lv_iinc (v := x4 + (6 : Int32)) (lv' := [(4, .int (x4 + (6 : Int32))), (6, .int o4.1), (5, .int o2.1), (0, .ref b), (1, .ref (s.heap.size + 0)), (2, .ref (s.heap.size + 77)), (3, .ref (s.heap.size + 103))]) hx hb dL_law_1284 hl (k := 6) rfl rfl (Nat.le_of_ble_eq_true rfl) rfl (fun ls hl => ?_)
      refine lv_goto (tgt := 23) hx hb dL_law_1287 (by decide) ?_
      refine W.widen (k := cells + 16) (n := slots + 96) (by omega) (by omega) ?_
      exact hkL23 _ _ _ _ _ hw hS (lv_sub hl [3, 4, 5, 6, 0] rfl) hf
    · have hf := ip c7 hf
      refine lv_aload_n hx hb dL_law_1201 rfl (lv_at hl 5 rfl) ?_
      refine lv_iconst (v := (0 : Int32)) hx hb dL_law_1202 (by decide) ?_
      obtain ⟨hg8, hf⟩ := og hf
      refine rLald hx hb hK hw hg8 dL_law_1203 ?_
      refine lv_iload hx hb dL_law_1204 (lv_at hl 0 rfl) ?_
      refine lv_i2l hx hb dL_law_1206 rfl ?_
      refine W.lcmp hx hb dL_law_1207 ?_
      refine lv_if_eq (tgt := 1213) hx hb dL_law_1208 (by decide) (fun c9 => ?_) (fun c9 => ?_)
      · have hf := ip c9 hf
        refine lv_goto (tgt := 1284) hx hb dL_law_1213 (by decide) ?_
        refine lv_iinc (v := x4 + (6 : Int32)) (lv' := [(4, .int (x4 + (6 : Int32))), (6, .int o4.1), (5, .int o2.1), (0, .ref b), (1, .ref (s.heap.size + 0)), (2, .ref (s.heap.size + 77)), (3, .ref (s.heap.size + 103))]) hx hb dL_law_1284 hl (k := 6) rfl rfl (Nat.le_of_ble_eq_true rfl) rfl (fun ls hl => ?_)
        refine lv_goto (tgt := 23) hx hb dL_law_1287 (by decide) ?_
        refine W.widen (k := cells + 16) (n := slots + 96) (by omega) (by omega) ?_
        exact hkL23 _ _ _ _ _ hw hS (lv_sub hl [3, 4, 5, 6, 0] rfl) hf
      · have hf := iq c9 hf
        refine lv_iconst (v := (0 : Int32)) hx hb dL_law_1211 (by decide) ?_
        exact absurd (Option.some.inj hf) (by decide)
  · have hf := iq c6 hf
    refine lv_iconst (v := (0 : Int32)) hx hb dL_law_1194 (by decide) ?_
    exact absurd (Option.some.inj hf) (by decide)
noncomputable def fL_law_b1216 (xs : Nat → Int32) (L : Nat) (kL23 : Int32 → Mm → Option Int32) (x4 : Int32) (M : Mm) : Option Int32 := (if ¬ ((x4 + (1 : Int32)) < 0 ∨ L ≤ (x4 + (1 : Int32)).toNatClampNeg) then (if ¬ ((x4 + (2 : Int32)) < 0 ∨ L ≤ (x4 + (2 : Int32)).toNatClampNeg) then ((fL_share (xs (x4 + (1 : Int32)).toNatClampNeg) (xs (x4 + (2 : Int32)).toNatClampNeg) M).bind fun o3 => (if ¬ ((x4 + (1 : Int32)) < 0 ∨ L ≤ (x4 + (1 : Int32)).toNatClampNeg) then (if ¬ ((x4 + (2 : Int32)) < 0 ∨ L ≤ (x4 + (2 : Int32)).toNatClampNeg) then ((fX6_share (xs (x4 + (1 : Int32)).toNatClampNeg) (xs (x4 + (2 : Int32)).toNatClampNeg) o3.2).bind fun o6 => ((fX6_thrown o6.2).bind fun o7 => (if o7 = o3.1 then (if o3.1 = 0 then (if ¬ ((0 : Int32) < 0 ∨ 1 ≤ (0 : Int32).toNatClampNeg) then (if (lg_cmp (gi o6.2 103 (0 : Int32).toNatClampNeg).toInt64 o6.1.toInt64) = 0 then kL23 (x4 + (6 : Int32)) o6.2 else some (0 : Int32)) else none) else kL23 (x4 + (6 : Int32)) o6.2) else some (0 : Int32)))) else none) else none)) else none) else none)
set_option maxRecDepth 100000 in
set_option maxHeartbeats 4000000 in
theorem bL_law_1216 {p : Program} {l : Launch} {e : Env} {s : State} {m : MethodId} {below : List Frame} {meth : Method} {c : Code} {D : va_G} {cy : Nat → ClassId} {b L : Nat} {xs : Nat → Int32} (hL : L ≤ 3072) (C0 : lw_At p s m meth c b L xs) (hK : KS D cy s) (hZ : ZZ s.heap.size s s.heap) (hfl : l.stackTraces = false) (kL23 : Int32 → Mm → Option Int32) (cells slots : Nat) (hc1 : cells + 16 ≤ 601024) (hc2 : slots + 96 ≤ 7293034) (hkL23 : ∀ (x4 : Int32) (M : Mm) (H : Heap) (locs : List Loc) (ls : Array Slot), HP D cy s.heap.size M H → va_S (Aq s.heap.size) s.heap H locs → lv_has ls 7 [(0, .ref b), (1, .ref (s.heap.size + 0)), (2, .ref (s.heap.size + 77)), (3, .ref (s.heap.size + 103)), (4, .int x4)] → kL23 x4 M = some (1 : Int32) → W p l e room_1 s m #[Value.ref b] below meth c H locs (cells + 16) (slots + 96) (lw_Z below #[Value.ref b] s) (F0 m 23 ls [])) : ∀ (x4 : Int32) (M : Mm) (H : Heap) (locs : List Loc) (ls : Array Slot), HP D cy s.heap.size M H → va_S (Aq s.heap.size) s.heap H locs → lv_has ls 7 [(0, .ref b), (1, .ref (s.heap.size + 0)), (2, .ref (s.heap.size + 77)), (3, .ref (s.heap.size + 103)), (4, .int x4)] → fL_law_b1216 xs L kL23 x4 M = some (1 : Int32) → W p l e room_1 s m #[Value.ref b] below meth c H locs cells slots (lw_Z below #[Value.ref b] s) (F0 m 1216 ls []) := by
  intro x4 M H locs ls hw hS hl hf
  obtain ⟨hx, hb, hr, hml, hown, hts0, hX, hbl, hlocks, hgv⟩ := C0
  have hts : ∀ w ∈ wsL_law, w.before #[Value.ref b] s = true := fun w h => hts0 w (wsL_law_in w h)
  have hbA : ¬ Aq s.heap.size b := Nat.not_le.mpr hbl
  unfold fL_law_b1216 at hf
  refine lv_aload_n hx hb dL_law_1216 rfl (lv_at hl 1 rfl) ?_
  refine lv_aload_n hx hb dL_law_1217 rfl (lv_at hl 0 rfl) ?_
  refine lv_iload hx hb dL_law_1218 (lv_at hl 4 rfl) ?_
  refine lv_iconst (v := (1 : Int32)) hx hb dL_law_1220 (by decide) ?_
  refine lv_iadd hx hb dL_law_1221 ?_
  obtain ⟨hg1, hf⟩ := og hf
  refine va_sld hx hb hX hbl hbA hS hg1 dL_law_1222 ?_
  refine lv_aload_n hx hb dL_law_1223 rfl (lv_at hl 0 rfl) ?_
  refine lv_iload hx hb dL_law_1224 (lv_at hl 4 rfl) ?_
  refine lv_iconst (v := (2 : Int32)) hx hb dL_law_1226 (by decide) ?_
  refine lv_iadd hx hb dL_law_1227 ?_
  obtain ⟨hg2, hf⟩ := og hf
  refine va_sld hx hb hX hbl hbA hS hg2 dL_law_1228 ?_
  refine lv_aload_n hx hb dL_law_1229 rfl (lv_at hl 3 rfl) ?_
  obtain ⟨o3, ho3, hf⟩ := ob hf
  refine rCallI (vx_runSW (hh := [(0, 10, 13, 21), (0, 10, 17, 13)]) (As := [.ref (s.heap.size + 0), .int (xs (x4 + (1 : Int32)).toNatClampNeg), .int (xs (x4 + (2 : Int32)).toNatClampNeg), .ref (s.heap.size + 103)]) (rest := []) ⟨hx, hb, hml, hown, hts⟩ (ctL_share (l := l) (D := D) (cy := cy) (a := s.heap.size) hfl ho3) (vx_cwSW 4 hts gL_law_L_share rfl rfl rfl (by decide +kernel) ⟨Nat.le_of_ble_eq_true rfl, Nat.le_of_ble_eq_true rfl⟩) (pS hK hZ hw hS) rfl rfl hl.1 rfl (lv_room (Nat.le_of_ble_eq_true rfl)) dL_law_1230 ⟨(by show _ ≤ 601024; omega), (by show _ ≤ 7293034; omega)⟩) hS (fun H locs hw hS => ?_)
  refine lv_istore (lv' := [(5, .int o3.1), (0, .ref b), (1, .ref (s.heap.size + 0)), (2, .ref (s.heap.size + 77)), (3, .ref (s.heap.size + 103)), (4, .int x4)]) hx hb dL_law_1233 hl (Nat.le_of_ble_eq_true rfl) rfl (fun ls hl => ?_)
  refine lv_aload_n hx hb dL_law_1235 rfl (lv_at hl 3 rfl) ?_
  refine lv_aload_n hx hb dL_law_1236 rfl (lv_at hl 1 rfl) ?_
  refine lv_iload hx hb dL_law_1237 (lv_at hl 5 rfl) ?_
  refine lv_iconst (v := (1 : Int32)) hx hb dL_law_1239 (by decide) ?_
  refine lv_iadd hx hb dL_law_1240 ?_
  obtain ⟨hg4, hf⟩ := og hf
  refine va_sld hx hb hX hbl hbA hS hg4 dL_law_1241 ?_
  refine lv_aload_n hx hb dL_law_1242 rfl (lv_at hl 1 rfl) ?_
  refine lv_iload hx hb dL_law_1243 (lv_at hl 5 rfl) ?_
  refine lv_iconst (v := (2 : Int32)) hx hb dL_law_1245 (by decide) ?_
  refine lv_iadd hx hb dL_law_1246 ?_
  obtain ⟨hg5, hf⟩ := og hf
  refine va_sld hx hb hX hbl hbA hS hg5 dL_law_1247 ?_
  obtain ⟨o6, ho6, hf⟩ := ob hf
  refine rCallI (va_runV (As := [.int (xs (x4 + (1 : Int32)).toNatClampNeg), .int (xs (x4 + (2 : Int32)).toNatClampNeg)]) (rest := []) ⟨hx, hb, hml, hown, hts⟩ (ctX6_share (l := l) (D := D) (cy := cy) (a := s.heap.size) ho6) (cwV 2 hts gL_law_X6_share rfl rfl rfl (by decide +kernel) ⟨Nat.le_of_ble_eq_true rfl, Nat.le_of_ble_eq_true rfl⟩) (pV hK hZ hw hS (rRecv hK hw (Nat.le_of_ble_eq_true rfl) en_model rfl)) rfl rfl hl.1 rfl (lv_room (Nat.le_of_ble_eq_true rfl)) dL_law_1248 ⟨(by show _ ≤ 601024; omega), (by show _ ≤ 7293034; omega)⟩) hS (fun H locs hw hS => ?_)
  refine lv_istore (lv' := [(6, .int o6.1), (5, .int o3.1), (0, .ref b), (1, .ref (s.heap.size + 0)), (2, .ref (s.heap.size + 77)), (3, .ref (s.heap.size + 103)), (4, .int x4)]) hx hb dL_law_1251 hl (Nat.le_of_ble_eq_true rfl) rfl (fun ls hl => ?_)
  refine lv_aload_n hx hb dL_law_1253 rfl (lv_at hl 4 rfl) ?_
  obtain ⟨o7, ho7, hf⟩ := ob hf
  refine rCallI (va_runV (As := []) (rest := []) ⟨hx, hb, hml, hown, hts⟩ (ctX6_thrown (l := l) (D := D) (cy := cy) (a := s.heap.size) ho7) (cwV 0 hts gL_law_X6_thrown rfl rfl rfl (by decide +kernel) ⟨Nat.le_of_ble_eq_true rfl, Nat.le_of_ble_eq_true rfl⟩) (pV hK hZ hw hS (rRecv hK hw (Nat.le_of_ble_eq_true rfl) en_model rfl)) rfl rfl hl.1 rfl (lv_room (Nat.le_of_ble_eq_true rfl)) dL_law_1254 ⟨(by show _ ≤ 601024; omega), (by show _ ≤ 7293034; omega)⟩) hS (fun H locs hw hS => ?_)
  refine lv_iload hx hb dL_law_1257 (lv_at hl 1 rfl) ?_
  refine lv_icmp_eq (tgt := 1264) hx hb dL_law_1259 (by decide) (fun c8 => ?_) (fun c8 => ?_)
  · have hf := ip c8 hf
    refine lv_iload hx hb dL_law_1264 (lv_at hl 1 rfl) ?_
    refine lv_if_ne (tgt := 1281) hx hb dL_law_1266 (by decide) (fun c9 => ?_) (fun c9 => ?_)
    · have hf := iq c9 hf
      refine lv_goto (tgt := 1284) hx hb dL_law_1281 (by decide) ?_
      refine lv_iinc (v := x4 + (6 : Int32)) (lv' := [(4, .int (x4 + (6 : Int32))), (6, .int o6.1), (5, .int o3.1), (0, .ref b), (1, .ref (s.heap.size + 0)), (2, .ref (s.heap.size + 77)), (3, .ref (s.heap.size + 103))]) hx hb dL_law_1284 hl (k := 6) rfl rfl (Nat.le_of_ble_eq_true rfl) rfl (fun ls hl => ?_)
      refine lv_goto (tgt := 23) hx hb dL_law_1287 (by decide) ?_
      refine W.widen (k := cells + 16) (n := slots + 96) (by omega) (by omega) ?_
      exact hkL23 _ _ _ _ _ hw hS (lv_sub hl [3, 4, 5, 6, 0] rfl) hf
    · have hf := ip c9 hf
      refine lv_aload_n hx hb dL_law_1269 rfl (lv_at hl 5 rfl) ?_
      refine lv_iconst (v := (0 : Int32)) hx hb dL_law_1270 (by decide) ?_
      obtain ⟨hg10, hf⟩ := og hf
      refine rLald hx hb hK hw hg10 dL_law_1271 ?_
      refine lv_iload hx hb dL_law_1272 (lv_at hl 0 rfl) ?_
      refine lv_i2l hx hb dL_law_1274 rfl ?_
      refine W.lcmp hx hb dL_law_1275 ?_
      refine lv_if_eq (tgt := 1281) hx hb dL_law_1276 (by decide) (fun c11 => ?_) (fun c11 => ?_)
      · have hf := ip c11 hf
        refine lv_goto (tgt := 1284) hx hb dL_law_1281 (by decide) ?_
        refine lv_iinc (v := x4 + (6 : Int32)) (lv' := [(4, .int (x4 + (6 : Int32))), (6, .int o6.1), (5, .int o3.1), (0, .ref b), (1, .ref (s.heap.size + 0)), (2, .ref (s.heap.size + 77)), (3, .ref (s.heap.size + 103))]) hx hb dL_law_1284 hl (k := 6) rfl rfl (Nat.le_of_ble_eq_true rfl) rfl (fun ls hl => ?_)
        refine lv_goto (tgt := 23) hx hb dL_law_1287 (by decide) ?_
        refine W.widen (k := cells + 16) (n := slots + 96) (by omega) (by omega) ?_
        exact hkL23 _ _ _ _ _ hw hS (lv_sub hl [3, 4, 5, 6, 0] rfl) hf
      · have hf := iq c11 hf
        refine lv_iconst (v := (0 : Int32)) hx hb dL_law_1279 (by decide) ?_
        exact absurd (Option.some.inj hf) (by decide)
  · have hf := iq c8 hf
    refine lv_iconst (v := (0 : Int32)) hx hb dL_law_1262 (by decide) ?_
    exact absurd (Option.some.inj hf) (by decide)
noncomputable def fL_law_L23 (xs : Nat → Int32) (L : Nat) : Nat → Int32 → Mm → Option Int32
  | 0 => fun _ _ => none
  | n + 1 => fun x4 M => (if ((Int32.ofNat L) - (6 : Int32)) < x4 then some (1 : Int32) else (if ¬ (x4 < 0 ∨ L ≤ x4.toNatClampNeg) then (if ((xs x4.toNatClampNeg) &&& (31 : Int32)) = (0 : Int32) then fL_law_b132 xs L (fL_law_L23 xs L n) x4 M else (if ((xs x4.toNatClampNeg) &&& (31 : Int32)) = (1 : Int32) then fL_law_b212 xs L (fL_law_L23 xs L n) x4 M else (if ((xs x4.toNatClampNeg) &&& (31 : Int32)) = (2 : Int32) then fL_law_b296 xs L (fL_law_L23 xs L n) x4 M else (if ((xs x4.toNatClampNeg) &&& (31 : Int32)) = (3 : Int32) then fL_law_b352 xs L (fL_law_L23 xs L n) x4 M else (if ((xs x4.toNatClampNeg) &&& (31 : Int32)) = (4 : Int32) then fL_law_b432 xs L (fL_law_L23 xs L n) x4 M else (if ((xs x4.toNatClampNeg) &&& (31 : Int32)) = (5 : Int32) then fL_law_b488 xs L (fL_law_L23 xs L n) x4 M else (if ((xs x4.toNatClampNeg) &&& (31 : Int32)) = (6 : Int32) then fL_law_b548 xs L (fL_law_L23 xs L n) x4 M else (if ((xs x4.toNatClampNeg) &&& (31 : Int32)) = (7 : Int32) then fL_law_b596 xs L (fL_law_L23 xs L n) x4 M else (if ((xs x4.toNatClampNeg) &&& (31 : Int32)) = (8 : Int32) then fL_law_b652 xs L (fL_law_L23 xs L n) x4 M else (if ((xs x4.toNatClampNeg) &&& (31 : Int32)) = (9 : Int32) then fL_law_b708 xs L (fL_law_L23 xs L n) x4 M else (if ((xs x4.toNatClampNeg) &&& (31 : Int32)) = (10 : Int32) then fL_law_b732 xs L (fL_law_L23 xs L n) x4 M else (if ((xs x4.toNatClampNeg) &&& (31 : Int32)) = (11 : Int32) then fL_law_b788 xs L (fL_law_L23 xs L n) x4 M else (if ((xs x4.toNatClampNeg) &&& (31 : Int32)) = (12 : Int32) then fL_law_b856 xs L (fL_law_L23 xs L n) x4 M else (if ((xs x4.toNatClampNeg) &&& (31 : Int32)) = (13 : Int32) then fL_law_b912 xs L (fL_law_L23 xs L n) x4 M else (if ((xs x4.toNatClampNeg) &&& (31 : Int32)) = (14 : Int32) then fL_law_b968 xs L (fL_law_L23 xs L n) x4 M else (if ((xs x4.toNatClampNeg) &&& (31 : Int32)) = (15 : Int32) then fL_law_b1036 xs L (fL_law_L23 xs L n) x4 M else (if ((xs x4.toNatClampNeg) &&& (31 : Int32)) = (16 : Int32) then fL_law_b1104 xs L (fL_law_L23 xs L n) x4 M else (if ((xs x4.toNatClampNeg) &&& (31 : Int32)) = (17 : Int32) then fL_law_b1160 xs L (fL_law_L23 xs L n) x4 M else (if ((xs x4.toNatClampNeg) &&& (31 : Int32)) = (18 : Int32) then fL_law_b1216 xs L (fL_law_L23 xs L n) x4 M else (fL_law_L23 xs L n) (x4 + (6 : Int32)) M))))))))))))))))))) else none))
set_option maxRecDepth 100000 in
set_option maxHeartbeats 4000000 in
theorem bL_law_23 {p : Program} {l : Launch} {e : Env} {s : State} {m : MethodId} {below : List Frame} {meth : Method} {c : Code} {D : va_G} {cy : Nat → ClassId} {b L : Nat} {xs : Nat → Int32} (hL : L ≤ 3072) (C0 : lw_At p s m meth c b L xs) (hK : KS D cy s) (hZ : ZZ s.heap.size s s.heap) (hfl : l.stackTraces = false) : ∀ (n : Nat), ∀ (x4 : Int32) (M : Mm) (H : Heap) (locs : List Loc) (ls : Array Slot) (cells slots : Nat), cells + n * 16 ≤ 601024 → slots + n * 96 ≤ 7293034 → HP D cy s.heap.size M H → va_S (Aq s.heap.size) s.heap H locs → lv_has ls 7 [(0, .ref b), (1, .ref (s.heap.size + 0)), (2, .ref (s.heap.size + 77)), (3, .ref (s.heap.size + 103)), (4, .int x4)] → fL_law_L23 xs L n x4 M = some (1 : Int32) → W p l e room_1 s m #[Value.ref b] below meth c H locs cells slots (lw_Z below #[Value.ref b] s) (F0 m 23 ls []) := by
  intro n
  induction n with
  | zero =>
    intro x4 M H locs ls cells slots hc1 hc2 hw hS hl hf
    have hf : (none : Option Int32) = some 1 := hf
    cases hf
  | succ n ih =>
    intro x4 M H locs ls cells slots hc1 hc2 hw hS hl hf
    have C1 := C0
    obtain ⟨hx, hb, hr, hml, hown, hts0, hX, hbl, hlocks, hgv⟩ := C1
    have hts : ∀ w ∈ wsL_law, w.before #[Value.ref b] s = true := fun w h => hts0 w (wsL_law_in w h)
    have hbA : ¬ Aq s.heap.size b := Nat.not_le.mpr hbl
    unfold fL_law_L23 at hf
    refine lv_iload hx hb dL_law_23 (lv_at hl 4 rfl) ?_
    refine lv_aload_n hx hb dL_law_25 rfl (lv_at hl 0 rfl) ?_
    refine va_slen hx hb hX hbl hbA hS dL_law_26 ?_
    refine lv_bipush (v := (6 : Int32)) hx hb dL_law_27 (by decide) ?_
    refine lv_isub hx hb dL_law_29 ?_
    refine lv_icmp_gt (tgt := 1290) hx hb dL_law_30 (by decide) (fun c1 => ?_) (fun c1 => ?_)
    · have hf := ip c1 hf
      refine lv_iconst (v := (1 : Int32)) hx hb dL_law_1290 (by decide) ?_
      refine va_forget (fun q hq => hS.2.2 q hq) ?_
      refine W.widen (k := 601024) (n := 7293034) (by omega) (by omega) ?_
      exact lw_ret hx hb hr hlocks dL_law_1291
    · have hf := iq c1 hf
      refine lv_aload_n hx hb dL_law_33 rfl (lv_at hl 0 rfl) ?_
      refine lv_iload hx hb dL_law_34 (lv_at hl 4 rfl) ?_
      obtain ⟨hg2, hf⟩ := og hf
      refine va_sld hx hb hX hbl hbA hS hg2 dL_law_36 ?_
      refine lv_bipush (v := (31 : Int32)) hx hb dL_law_37 (by decide) ?_
      refine lv_iand hx hb dL_law_39 ?_
      by_cases c3 : ((xs x4.toNatClampNeg) &&& (31 : Int32)) = (0 : Int32)
      · have hf := ip c3 hf
        refine lv_tableIn (off := 92) (tgt := 132) hx hb dL_law_40 (by rw [c3]; decide) (by rw [c3]; decide) (by rw [c3]; rfl) (by decide) ?_
        exact bL_law_132 hL C0 hK hZ hfl (fL_law_L23 xs L n) cells slots (by omega) (by omega) (fun x4 M H locs ls => ih x4 M H locs ls (cells + 16) (slots + 96) (by omega) (by omega)) _ _ _ _ _ hw hS (lv_sub hl [0, 1, 2, 3, 4] rfl) hf
      · have hf := iq c3 hf
        by_cases c4 : ((xs x4.toNatClampNeg) &&& (31 : Int32)) = (1 : Int32)
        · have hf := ip c4 hf
          refine lv_tableIn (off := 172) (tgt := 212) hx hb dL_law_40 (by rw [c4]; decide) (by rw [c4]; decide) (by rw [c4]; rfl) (by decide) ?_
          exact bL_law_212 hL C0 hK hZ hfl (fL_law_L23 xs L n) cells slots (by omega) (by omega) (fun x4 M H locs ls => ih x4 M H locs ls (cells + 16) (slots + 96) (by omega) (by omega)) _ _ _ _ _ hw hS (lv_sub hl [0, 1, 2, 3, 4] rfl) hf
        · have hf := iq c4 hf
          by_cases c5 : ((xs x4.toNatClampNeg) &&& (31 : Int32)) = (2 : Int32)
          · have hf := ip c5 hf
            refine lv_tableIn (off := 256) (tgt := 296) hx hb dL_law_40 (by rw [c5]; decide) (by rw [c5]; decide) (by rw [c5]; rfl) (by decide) ?_
            exact bL_law_296 hL C0 hK hZ hfl (fL_law_L23 xs L n) cells slots (by omega) (by omega) (fun x4 M H locs ls => ih x4 M H locs ls (cells + 16) (slots + 96) (by omega) (by omega)) _ _ _ _ _ hw hS (lv_sub hl [0, 1, 2, 3, 4] rfl) hf
          · have hf := iq c5 hf
            by_cases c6 : ((xs x4.toNatClampNeg) &&& (31 : Int32)) = (3 : Int32)
            · have hf := ip c6 hf
              refine lv_tableIn (off := 312) (tgt := 352) hx hb dL_law_40 (by rw [c6]; decide) (by rw [c6]; decide) (by rw [c6]; rfl) (by decide) ?_
              exact bL_law_352 hL C0 hK hZ hfl (fL_law_L23 xs L n) cells slots (by omega) (by omega) (fun x4 M H locs ls => ih x4 M H locs ls (cells + 16) (slots + 96) (by omega) (by omega)) _ _ _ _ _ hw hS (lv_sub hl [0, 1, 2, 3, 4] rfl) hf
            · have hf := iq c6 hf
              by_cases c7 : ((xs x4.toNatClampNeg) &&& (31 : Int32)) = (4 : Int32)
              · have hf := ip c7 hf
                refine lv_tableIn (off := 392) (tgt := 432) hx hb dL_law_40 (by rw [c7]; decide) (by rw [c7]; decide) (by rw [c7]; rfl) (by decide) ?_
                exact bL_law_432 hL C0 hK hZ hfl (fL_law_L23 xs L n) cells slots (by omega) (by omega) (fun x4 M H locs ls => ih x4 M H locs ls (cells + 16) (slots + 96) (by omega) (by omega)) _ _ _ _ _ hw hS (lv_sub hl [0, 1, 2, 3, 4] rfl) hf
              · have hf := iq c7 hf
                by_cases c8 : ((xs x4.toNatClampNeg) &&& (31 : Int32)) = (5 : Int32)
                · have hf := ip c8 hf
                  refine lv_tableIn (off := 448) (tgt := 488) hx hb dL_law_40 (by rw [c8]; decide) (by rw [c8]; decide) (by rw [c8]; rfl) (by decide) ?_
                  exact bL_law_488 hL C0 hK hZ hfl (fL_law_L23 xs L n) cells slots (by omega) (by omega) (fun x4 M H locs ls => ih x4 M H locs ls (cells + 16) (slots + 96) (by omega) (by omega)) _ _ _ _ _ hw hS (lv_sub hl [0, 1, 2, 3, 4] rfl) hf
                · have hf := iq c8 hf
                  by_cases c9 : ((xs x4.toNatClampNeg) &&& (31 : Int32)) = (6 : Int32)
                  · have hf := ip c9 hf
                    refine lv_tableIn (off := 508) (tgt := 548) hx hb dL_law_40 (by rw [c9]; decide) (by rw [c9]; decide) (by rw [c9]; rfl) (by decide) ?_
                    exact bL_law_548 hL C0 hK hZ hfl (fL_law_L23 xs L n) cells slots (by omega) (by omega) (fun x4 M H locs ls => ih x4 M H locs ls (cells + 16) (slots + 96) (by omega) (by omega)) _ _ _ _ _ hw hS (lv_sub hl [0, 1, 2, 3, 4] rfl) hf
                  · have hf := iq c9 hf
                    by_cases c10 : ((xs x4.toNatClampNeg) &&& (31 : Int32)) = (7 : Int32)
                    · have hf := ip c10 hf
                      refine lv_tableIn (off := 556) (tgt := 596) hx hb dL_law_40 (by rw [c10]; decide) (by rw [c10]; decide) (by rw [c10]; rfl) (by decide) ?_
                      exact bL_law_596 hL C0 hK hZ hfl (fL_law_L23 xs L n) cells slots (by omega) (by omega) (fun x4 M H locs ls => ih x4 M H locs ls (cells + 16) (slots + 96) (by omega) (by omega)) _ _ _ _ _ hw hS (lv_sub hl [0, 1, 2, 3, 4] rfl) hf
                    · have hf := iq c10 hf
                      by_cases c11 : ((xs x4.toNatClampNeg) &&& (31 : Int32)) = (8 : Int32)
                      · have hf := ip c11 hf
                        refine lv_tableIn (off := 612) (tgt := 652) hx hb dL_law_40 (by rw [c11]; decide) (by rw [c11]; decide) (by rw [c11]; rfl) (by decide) ?_
                        exact bL_law_652 hL C0 hK hZ hfl (fL_law_L23 xs L n) cells slots (by omega) (by omega) (fun x4 M H locs ls => ih x4 M H locs ls (cells + 16) (slots + 96) (by omega) (by omega)) _ _ _ _ _ hw hS (lv_sub hl [0, 1, 2, 3, 4] rfl) hf
                      · have hf := iq c11 hf
                        by_cases c12 : ((xs x4.toNatClampNeg) &&& (31 : Int32)) = (9 : Int32)
                        · have hf := ip c12 hf
                          refine lv_tableIn (off := 668) (tgt := 708) hx hb dL_law_40 (by rw [c12]; decide) (by rw [c12]; decide) (by rw [c12]; rfl) (by decide) ?_
                          exact bL_law_708 hL C0 hK hZ hfl (fL_law_L23 xs L n) cells slots (by omega) (by omega) (fun x4 M H locs ls => ih x4 M H locs ls (cells + 16) (slots + 96) (by omega) (by omega)) _ _ _ _ _ hw hS (lv_sub hl [0, 1, 2, 3, 4] rfl) hf
                        · have hf := iq c12 hf
                          by_cases c13 : ((xs x4.toNatClampNeg) &&& (31 : Int32)) = (10 : Int32)
                          · have hf := ip c13 hf
                            refine lv_tableIn (off := 692) (tgt := 732) hx hb dL_law_40 (by rw [c13]; decide) (by rw [c13]; decide) (by rw [c13]; rfl) (by decide) ?_
                            exact bL_law_732 hL C0 hK hZ hfl (fL_law_L23 xs L n) cells slots (by omega) (by omega) (fun x4 M H locs ls => ih x4 M H locs ls (cells + 16) (slots + 96) (by omega) (by omega)) _ _ _ _ _ hw hS (lv_sub hl [0, 1, 2, 3, 4] rfl) hf
                          · have hf := iq c13 hf
                            by_cases c14 : ((xs x4.toNatClampNeg) &&& (31 : Int32)) = (11 : Int32)
                            · have hf := ip c14 hf
                              refine lv_tableIn (off := 748) (tgt := 788) hx hb dL_law_40 (by rw [c14]; decide) (by rw [c14]; decide) (by rw [c14]; rfl) (by decide) ?_
                              exact bL_law_788 hL C0 hK hZ hfl (fL_law_L23 xs L n) cells slots (by omega) (by omega) (fun x4 M H locs ls => ih x4 M H locs ls (cells + 16) (slots + 96) (by omega) (by omega)) _ _ _ _ _ hw hS (lv_sub hl [0, 1, 2, 3, 4] rfl) hf
                            · have hf := iq c14 hf
                              by_cases c15 : ((xs x4.toNatClampNeg) &&& (31 : Int32)) = (12 : Int32)
                              · have hf := ip c15 hf
                                refine lv_tableIn (off := 816) (tgt := 856) hx hb dL_law_40 (by rw [c15]; decide) (by rw [c15]; decide) (by rw [c15]; rfl) (by decide) ?_
                                exact bL_law_856 hL C0 hK hZ hfl (fL_law_L23 xs L n) cells slots (by omega) (by omega) (fun x4 M H locs ls => ih x4 M H locs ls (cells + 16) (slots + 96) (by omega) (by omega)) _ _ _ _ _ hw hS (lv_sub hl [0, 1, 2, 3, 4] rfl) hf
                              · have hf := iq c15 hf
                                by_cases c16 : ((xs x4.toNatClampNeg) &&& (31 : Int32)) = (13 : Int32)
                                · have hf := ip c16 hf
                                  refine lv_tableIn (off := 872) (tgt := 912) hx hb dL_law_40 (by rw [c16]; decide) (by rw [c16]; decide) (by rw [c16]; rfl) (by decide) ?_
                                  exact bL_law_912 hL C0 hK hZ hfl (fL_law_L23 xs L n) cells slots (by omega) (by omega) (fun x4 M H locs ls => ih x4 M H locs ls (cells + 16) (slots + 96) (by omega) (by omega)) _ _ _ _ _ hw hS (lv_sub hl [0, 1, 2, 3, 4] rfl) hf
                                · have hf := iq c16 hf
                                  by_cases c17 : ((xs x4.toNatClampNeg) &&& (31 : Int32)) = (14 : Int32)
                                  · have hf := ip c17 hf
                                    refine lv_tableIn (off := 928) (tgt := 968) hx hb dL_law_40 (by rw [c17]; decide) (by rw [c17]; decide) (by rw [c17]; rfl) (by decide) ?_
                                    exact bL_law_968 hL C0 hK hZ hfl (fL_law_L23 xs L n) cells slots (by omega) (by omega) (fun x4 M H locs ls => ih x4 M H locs ls (cells + 16) (slots + 96) (by omega) (by omega)) _ _ _ _ _ hw hS (lv_sub hl [0, 1, 2, 3, 4] rfl) hf
                                  · have hf := iq c17 hf
                                    by_cases c18 : ((xs x4.toNatClampNeg) &&& (31 : Int32)) = (15 : Int32)
                                    · have hf := ip c18 hf
                                      refine lv_tableIn (off := 996) (tgt := 1036) hx hb dL_law_40 (by rw [c18]; decide) (by rw [c18]; decide) (by rw [c18]; rfl) (by decide) ?_
                                      exact bL_law_1036 hL C0 hK hZ hfl (fL_law_L23 xs L n) cells slots (by omega) (by omega) (fun x4 M H locs ls => ih x4 M H locs ls (cells + 16) (slots + 96) (by omega) (by omega)) _ _ _ _ _ hw hS (lv_sub hl [0, 1, 2, 3, 4] rfl) hf
                                    · have hf := iq c18 hf
                                      by_cases c19 : ((xs x4.toNatClampNeg) &&& (31 : Int32)) = (16 : Int32)
                                      · have hf := ip c19 hf
                                        refine lv_tableIn (off := 1064) (tgt := 1104) hx hb dL_law_40 (by rw [c19]; decide) (by rw [c19]; decide) (by rw [c19]; rfl) (by decide) ?_
                                        exact bL_law_1104 hL C0 hK hZ hfl (fL_law_L23 xs L n) cells slots (by omega) (by omega) (fun x4 M H locs ls => ih x4 M H locs ls (cells + 16) (slots + 96) (by omega) (by omega)) _ _ _ _ _ hw hS (lv_sub hl [0, 1, 2, 3, 4] rfl) hf
                                      · have hf := iq c19 hf
                                        by_cases c20 : ((xs x4.toNatClampNeg) &&& (31 : Int32)) = (17 : Int32)
                                        · have hf := ip c20 hf
                                          refine lv_tableIn (off := 1120) (tgt := 1160) hx hb dL_law_40 (by rw [c20]; decide) (by rw [c20]; decide) (by rw [c20]; rfl) (by decide) ?_
                                          exact bL_law_1160 hL C0 hK hZ hfl (fL_law_L23 xs L n) cells slots (by omega) (by omega) (fun x4 M H locs ls => ih x4 M H locs ls (cells + 16) (slots + 96) (by omega) (by omega)) _ _ _ _ _ hw hS (lv_sub hl [0, 1, 2, 3, 4] rfl) hf
                                        · have hf := iq c20 hf
                                          by_cases c21 : ((xs x4.toNatClampNeg) &&& (31 : Int32)) = (18 : Int32)
                                          · have hf := ip c21 hf
                                            refine lv_tableIn (off := 1176) (tgt := 1216) hx hb dL_law_40 (by rw [c21]; decide) (by rw [c21]; decide) (by rw [c21]; rfl) (by decide) ?_
                                            exact bL_law_1216 hL C0 hK hZ hfl (fL_law_L23 xs L n) cells slots (by omega) (by omega) (fun x4 M H locs ls => ih x4 M H locs ls (cells + 16) (slots + 96) (by omega) (by omega)) _ _ _ _ _ hw hS (lv_sub hl [0, 1, 2, 3, 4] rfl) hf
                                          · have hf := iq c21 hf
                                            refine lv_tableOut (tgt := 1284) hx hb dL_law_40 (swout0_18 c3 c4 c5 c6 c7 c8 c9 c10 c11 c12 c13 c14 c15 c16 c17 c18 c19 c20 c21) (by decide) ?_
                                            refine lv_iinc (v := x4 + (6 : Int32)) (lv' := [(4, .int (x4 + (6 : Int32))), (0, .ref b), (1, .ref (s.heap.size + 0)), (2, .ref (s.heap.size + 77)), (3, .ref (s.heap.size + 103))]) hx hb dL_law_1284 hl (k := 4) rfl rfl (Nat.le_of_ble_eq_true rfl) rfl (fun ls hl => ?_)
                                            refine lv_goto (tgt := 23) hx hb dL_law_1287 (by decide) ?_
                                            refine W.widen (k := cells + 16) (n := slots + 96) (by omega) (by omega) ?_
                                            exact ih _ _ _ _ _ (cells + 16) (slots + 96) (by omega) (by omega) hw hS (lv_sub hl [1, 2, 3, 4, 0] rfl) hf
