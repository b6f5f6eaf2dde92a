def rX6_batch : Room := { frames := 2, cells := 0, slots := 0, locals := 43 }
noncomputable def fX6_batch (x1 : Int32) (x2 : Int32) (M : Mm) : Option (Int32 × Mm) := ((fX6_isBatch x1 M).bind fun o1 => ((fX6_isBetween x2 (0 : Int32) (7 : Int32) M).bind fun o2 => ((fX6_goes o1 o2 (1 : Int32) M).bind fun o3 => (if o3.1 = 0 then some ((0 : Int32), o3.2) else (if x2 = (0 : Int32) then (if ¬ (x1 < 0 ∨ 40 ≤ x1.toNatClampNeg) then (if ¬ (x1 < 0 ∨ 40 ≤ x1.toNatClampNeg) then (if ¬ (x1 < 0 ∨ 40 ≤ x1.toNatClampNeg) then (if ¬ (x1 < 0 ∨ 40 ≤ x1.toNatClampNeg) then some ((((gi o3.2 89 x1.toNatClampNeg) - (gi o3.2 90 x1.toNatClampNeg)) - (gi o3.2 91 x1.toNatClampNeg)) - (gi o3.2 92 x1.toNatClampNeg), o3.2) else none) else none) else none) else none) else (if x2 = (1 : Int32) then (if ¬ (x1 < 0 ∨ 40 ≤ x1.toNatClampNeg) then some (gi o3.2 89 x1.toNatClampNeg, o3.2) else none) else (if x2 = (2 : Int32) then (if ¬ (x1 < 0 ∨ 40 ≤ x1.toNatClampNeg) then some (gi o3.2 90 x1.toNatClampNeg, o3.2) else none) else (if x2 = (3 : Int32) then (if ¬ (x1 < 0 ∨ 40 ≤ x1.toNatClampNeg) then some (gi o3.2 91 x1.toNatClampNeg, o3.2) else none) else (if x2 = (4 : Int32) then (if ¬ (x1 < 0 ∨ 40 ≤ x1.toNatClampNeg) then some (gi o3.2 92 x1.toNatClampNeg, o3.2) else none) else (if x2 = (5 : Int32) then (if ¬ (x1 < 0 ∨ 40 ≤ x1.toNatClampNeg) then (if ¬ (x1 < 0 ∨ 40 ≤ x1.toNatClampNeg) then some ((gi o3.2 88 x1.toNatClampNeg) - (gi o3.2 89 x1.toNatClampNeg), o3.2) else none) else none) else (if x2 = (6 : Int32) then ((fX6_mixOf x1 o3.2).bind fun o22 => some (o22, o3.2)) else (if ¬ (x1 < 0 ∨ 40 ≤ x1.toNatClampNeg) then some (gi o3.2 87 x1.toNatClampNeg, o3.2) else none))))))))))))
set_option maxRecDepth 20000 in
theorem iX6_batch_X6 : ∀ w ∈ wsX60, w ∈ wsX6_batch := by decide +kernel
set_option maxRecDepth 20000 in
theorem kX6_batch_0 : Cond.fieldLink RX6 47 "BatchPipeModel" "entered" "[I" ∈ wsX6_batch := by decide +kernel
set_option maxRecDepth 20000 in
theorem kX6_batch_1 : Cond.fieldLink RX6 50 "BatchPipeModel" "left" "[I" ∈ wsX6_batch := by decide +kernel
set_option maxRecDepth 20000 in
theorem kX6_batch_2 : Cond.fieldLink RX6 53 "BatchPipeModel" "dropped" "[I" ∈ wsX6_batch := by decide +kernel
set_option maxRecDepth 20000 in
theorem kX6_batch_3 : Cond.fieldLink RX6 56 "BatchPipeModel" "leaked" "[I" ∈ wsX6_batch := by decide +kernel
set_option maxRecDepth 20000 in
theorem kX6_batch_4 : Cond.fieldLink RX6 44 "BatchPipeModel" "ordered" "[I" ∈ wsX6_batch := by decide +kernel
set_option maxRecDepth 20000 in
theorem kX6_batch_5 : Cond.fieldLink RX6 41 "BatchPipeModel" "product" "[I" ∈ wsX6_batch := by decide +kernel
set_option maxRecDepth 100000 in
set_option maxHeartbeats 4000000 in
theorem bX6_batch_0 {p : Program} {l : Launch} {e : Env} {s : State} {m : MethodId} {args : Array Value} {below : List Frame} {meth : Method} {c : Code} {D : va_G} {cy : Nat → ClassId} {a : Nat} (hx : p.tables.exec = Jvm.exec) (hb : c.code = cX6_batch) (hr : meth.sig.returnType = (some .int)) (hml : c.maxLocals = 3) (hown : s.vm.findClass RX6 = some m.cls) (hts : ∀ w ∈ wsX6_batch, w.before args s = true) (hlocks : meth.locks = false) (hK : KS D cy s) (hZ : ZZ a s s.heap) {out : Int32 × Mm} : ∀ (x1 : Int32) (x2 : Int32) (M : Mm) (H : Heap) (locs : List Loc) (ls : Array Slot), HP D cy a M H → va_S (Aq a) s.heap H locs → lv_has ls 3 [(0, .ref (a + 77)), (1, .int x1), (2, .int x2)] → fX6_batch x1 x2 M = some out → W p l e rX6_batch s m args below meth c H locs 0 0 (MQ below (QI D cy a out.1 out.2) args s 0 0 (Aq a)) (F0 m 0 ls []) := by
  intro x1 x2 M H locs ls hw hS hl hf
  unfold fX6_batch at hf
  refine lv_aload_n hx hb dX6_batch_0 rfl (lv_at hl 0 rfl) ?_
  refine lv_aload_n hx hb dX6_batch_1 rfl (lv_at hl 0 rfl) ?_
  refine lv_iload_n hx hb dX6_batch_2 rfl (lv_at hl 1 rfl) ?_
  obtain ⟨o1, ho1, hf⟩ := ob hf
  refine rCallB (va_runV (As := [.int x1]) (rest := [.ref (a + 77)]) ⟨hx, hb, hml, hown, hts⟩ (ctX6_isBatch (l := l) (D := D) (cy := cy) (a := a) ho1) (cwV 1 hts gX6_batch_X6_isBatch rfl rfl rfl (by decide +kernel) ⟨Nat.le_of_ble_eq_true rfl, Nat.le_of_ble_eq_true rfl⟩) (pV hK hZ hw hS (rRecv hK hw (Nat.le_of_ble_eq_true rfl) en_model rfl)) rfl rfl hl.1 rfl (lv_room (Nat.le_of_ble_eq_true rfl)) dX6_batch_3 ⟨Nat.le_of_ble_eq_true rfl, Nat.le_of_ble_eq_true rfl⟩) hS (fun H locs hw hS ho1b => ?_)
  refine lv_iload_n hx hb dX6_batch_6 rfl (lv_at hl 2 rfl) ?_
  refine lv_iconst (v := (0 : Int32)) hx hb dX6_batch_7 (by decide) ?_
  refine lv_bipush (v := (7 : Int32)) hx hb dX6_batch_8 (by decide) ?_
  obtain ⟨o2, ho2, hf⟩ := ob hf
  refine rCallB (va_runS (As := [.int x2, .int (0 : Int32), .int (7 : Int32)]) (rest := [.int o1, .ref (a + 77)]) ⟨hx, hb, hml, hown, hts⟩ (ctX6_isBetween (l := l) (D := D) (cy := cy) (a := a) ho2) (va_cwS 3 hts gX6_batch_X6_isBetween rfl rfl rfl (by decide +kernel) ⟨Nat.le_of_ble_eq_true rfl, Nat.le_of_ble_eq_true rfl⟩) (pS hK hZ hw hS) rfl rfl hl.1 rfl (lv_room (Nat.le_of_ble_eq_true rfl)) dX6_batch_10 ⟨Nat.le_of_ble_eq_true rfl, Nat.le_of_ble_eq_true rfl⟩) hS (fun H locs hw hS ho2b => ?_)
  refine lv_iconst (v := (1 : Int32)) hx hb dX6_batch_13 (by decide) ?_
  obtain ⟨o3, ho3, hf⟩ := ob hf
  refine rCallB (va_runV (As := [.int o1, .int o2, .int (1 : Int32)]) (rest := []) ⟨hx, hb, hml, hown, hts⟩ (ctX6_goes (l := l) (D := D) (cy := cy) (a := a) ho3) (cwV 3 hts gX6_batch_X6_goes rfl rfl rfl (by decide +kernel) ⟨Nat.le_of_ble_eq_true rfl, Nat.le_of_ble_eq_true rfl⟩) (pV hK hZ hw hS (rRecv hK hw (Nat.le_of_ble_eq_true rfl) en_model rfl)) rfl rfl hl.1 rfl (lv_room (Nat.le_of_ble_eq_true rfl)) dX6_batch_14 ⟨Nat.le_of_ble_eq_true rfl, Nat.le_of_ble_eq_true rfl⟩) hS (fun H locs hw hS ho3b => ?_)
  refine lv_if_ne (tgt := 22) hx hb dX6_batch_17 (by decide) (fun c4 => ?_) (fun c4 => ?_)
  · have hf := iq c4 hf
    refine lv_iload_n hx hb dX6_batch_22 rfl (lv_at hl 2 rfl) ?_
    by_cases c5 : x2 = (0 : Int32)
    · have hf := ip c5 hf
      refine lv_tableIn (off := 41) (tgt := 64) hx hb dX6_batch_23 (by rw [c5]; decide) (by rw [c5]; decide) (by rw [c5]; rfl) (by decide) ?_
      refine lv_aload_n hx hb dX6_batch_64 rfl (lv_at hl 0 rfl) ?_
      refine rGet hx hb hts iX6_batch_X6 hown hK hw (Nat.le_of_ble_eq_true rfl) en_model rfl 16 (by decide) (hts _ kX6_batch_0) rfl rfl dX6_batch_65 ?_
      refine lv_iload_n hx hb dX6_batch_68 rfl (lv_at hl 1 rfl) ?_
      obtain ⟨hg6, hf⟩ := og hf
      refine rIald hx hb hK hw (Nat.le_of_ble_eq_true rfl) en_a89 hg6 dX6_batch_69 ?_
      refine lv_aload_n hx hb dX6_batch_70 rfl (lv_at hl 0 rfl) ?_
      refine rGet hx hb hts iX6_batch_X6 hown hK hw (Nat.le_of_ble_eq_true rfl) en_model rfl 17 (by decide) (hts _ kX6_batch_1) rfl rfl dX6_batch_71 ?_
      refine lv_iload_n hx hb dX6_batch_74 rfl (lv_at hl 1 rfl) ?_
      obtain ⟨hg7, hf⟩ := og hf
      refine rIald hx hb hK hw (Nat.le_of_ble_eq_true rfl) en_a90 hg7 dX6_batch_75 ?_
      refine lv_isub hx hb dX6_batch_76 ?_
      refine lv_aload_n hx hb dX6_batch_77 rfl (lv_at hl 0 rfl) ?_
      refine rGet hx hb hts iX6_batch_X6 hown hK hw (Nat.le_of_ble_eq_true rfl) en_model rfl 18 (by decide) (hts _ kX6_batch_2) rfl rfl dX6_batch_78 ?_
      refine lv_iload_n hx hb dX6_batch_81 rfl (lv_at hl 1 rfl) ?_
      obtain ⟨hg8, hf⟩ := og hf
      refine rIald hx hb hK hw (Nat.le_of_ble_eq_true rfl) en_a91 hg8 dX6_batch_82 ?_
      refine lv_isub hx hb dX6_batch_83 ?_
      refine lv_aload_n hx hb dX6_batch_84 rfl (lv_at hl 0 rfl) ?_
      refine rGet hx hb hts iX6_batch_X6 hown hK hw (Nat.le_of_ble_eq_true rfl) en_model rfl 19 (by decide) (hts _ kX6_batch_3) rfl rfl dX6_batch_85 ?_
      refine lv_iload_n hx hb dX6_batch_88 rfl (lv_at hl 1 rfl) ?_
      obtain ⟨hg9, hf⟩ := og hf
      refine rIald hx hb hK hw (Nat.le_of_ble_eq_true rfl) en_a92 hg9 dX6_batch_89 ?_
      refine lv_isub hx hb dX6_batch_90 ?_
      obtain rfl := Option.some.inj hf
      exact rIret hx hb hr hlocks hw hS dX6_batch_91
    · have hf := iq c5 hf
      by_cases c10 : x2 = (1 : Int32)
      · have hf := ip c10 hf
        refine lv_tableIn (off := 69) (tgt := 92) hx hb dX6_batch_23 (by rw [c10]; decide) (by rw [c10]; decide) (by rw [c10]; rfl) (by decide) ?_
        refine lv_aload_n hx hb dX6_batch_92 rfl (lv_at hl 0 rfl) ?_
        refine rGet hx hb hts iX6_batch_X6 hown hK hw (Nat.le_of_ble_eq_true rfl) en_model rfl 16 (by decide) (hts _ kX6_batch_0) rfl rfl dX6_batch_93 ?_
        refine lv_iload_n hx hb dX6_batch_96 rfl (lv_at hl 1 rfl) ?_
        obtain ⟨hg11, hf⟩ := og hf
        refine rIald hx hb hK hw (Nat.le_of_ble_eq_true rfl) en_a89 hg11 dX6_batch_97 ?_
        obtain rfl := Option.some.inj hf
        exact rIret hx hb hr hlocks hw hS dX6_batch_98
      · have hf := iq c10 hf
        by_cases c12 : x2 = (2 : Int32)
        · have hf := ip c12 hf
          refine lv_tableIn (off := 76) (tgt := 99) hx hb dX6_batch_23 (by rw [c12]; decide) (by rw [c12]; decide) (by rw [c12]; rfl) (by decide) ?_
          refine lv_aload_n hx hb dX6_batch_99 rfl (lv_at hl 0 rfl) ?_
          refine rGet hx hb hts iX6_batch_X6 hown hK hw (Nat.le_of_ble_eq_true rfl) en_model rfl 17 (by decide) (hts _ kX6_batch_1) rfl rfl dX6_batch_100 ?_
          refine lv_iload_n hx hb dX6_batch_103 rfl (lv_at hl 1 rfl) ?_
          obtain ⟨hg13, hf⟩ := og hf
          refine rIald hx hb hK hw (Nat.le_of_ble_eq_true rfl) en_a90 hg13 dX6_batch_104 ?_
          obtain rfl := Option.some.inj hf
          exact rIret hx hb hr hlocks hw hS dX6_batch_105
        · have hf := iq c12 hf
          by_cases c14 : x2 = (3 : Int32)
          · have hf := ip c14 hf
            refine lv_tableIn (off := 83) (tgt := 106) hx hb dX6_batch_23 (by rw [c14]; decide) (by rw [c14]; decide) (by rw [c14]; rfl) (by decide) ?_
            refine lv_aload_n hx hb dX6_batch_106 rfl (lv_at hl 0 rfl) ?_
            refine rGet hx hb hts iX6_batch_X6 hown hK hw (Nat.le_of_ble_eq_true rfl) en_model rfl 18 (by decide) (hts _ kX6_batch_2) rfl rfl dX6_batch_107 ?_
            refine lv_iload_n hx hb dX6_batch_110 rfl (lv_at hl 1 rfl) ?_
            obtain ⟨hg15, hf⟩ := og hf
            refine rIald hx hb hK hw (Nat.le_of_ble_eq_true rfl) en_a91 hg15 dX6_batch_111 ?_
            obtain rfl := Option.some.inj hf
            exact rIret hx hb hr hlocks hw hS dX6_batch_112
          · have hf := iq c14 hf
            by_cases c16 : x2 = (4 : Int32)
            · have hf := ip c16 hf
              refine lv_tableIn (off := 90) (tgt := 113) hx hb dX6_batch_23 (by rw [c16]; decide) (by rw [c16]; decide) (by rw [c16]; rfl) (by decide) ?_
              refine lv_aload_n hx hb dX6_batch_113 rfl (lv_at hl 0 rfl) ?_
              refine rGet hx hb hts iX6_batch_X6 hown hK hw (Nat.le_of_ble_eq_true rfl) en_model rfl 19 (by decide) (hts _ kX6_batch_3) rfl rfl dX6_batch_114 ?_
              refine lv_iload_n hx hb dX6_batch_117 rfl (lv_at hl 1 rfl) ?_
              obtain ⟨hg17, hf⟩ := og hf
              refine rIald hx hb hK hw (Nat.le_of_ble_eq_true rfl) en_a92 hg17 dX6_batch_118 ?_
              obtain rfl := Option.some.inj hf
              exact rIret hx hb hr hlocks hw hS dX6_batch_119
            · have hf := iq c16 hf
              by_cases c18 : x2 = (5 : Int32)
              · have hf := ip c18 hf
                refine lv_tableIn (off := 97) (tgt := 120) hx hb dX6_batch_23 (by rw [c18]; decide) (by rw [c18]; decide) (by rw [c18]; rfl) (by decide) ?_
                refine lv_aload_n hx hb dX6_batch_120 rfl (lv_at hl 0 rfl) ?_
                refine rGet hx hb hts iX6_batch_X6 hown hK hw (Nat.le_of_ble_eq_true rfl) en_model rfl 15 (by decide) (hts _ kX6_batch_4) rfl rfl dX6_batch_121 ?_
                refine lv_iload_n hx hb dX6_batch_124 rfl (lv_at hl 1 rfl) ?_
                obtain ⟨hg19, hf⟩ := og hf
                refine rIald hx hb hK hw (Nat.le_of_ble_eq_true rfl) en_a88 hg19 dX6_batch_125 ?_
                refine lv_aload_n hx hb dX6_batch_126 rfl (lv_at hl 0 rfl) ?_
                refine rGet hx hb hts iX6_batch_X6 hown hK hw (Nat.le_of_ble_eq_true rfl) en_model rfl 16 (by decide) (hts _ kX6_batch_0) rfl rfl dX6_batch_127 ?_
                refine lv_iload_n hx hb dX6_batch_130 rfl (lv_at hl 1 rfl) ?_
                obtain ⟨hg20, hf⟩ := og hf
                refine rIald hx hb hK hw (Nat.le_of_ble_eq_true rfl) en_a89 hg20 dX6_batch_131 ?_
                refine lv_isub hx hb dX6_batch_132 ?_
                obtain rfl := Option.some.inj hf
                exact rIret hx hb hr hlocks hw hS dX6_batch_133
              · have hf := iq c18 hf
                by_cases c21 : x2 = (6 : Int32)
                · have hf := ip c21 hf
                  refine lv_tableIn (off := 111) (tgt := 134) hx hb dX6_batch_23 (by rw [c21]; decide) (by rw [c21]; decide) (by rw [c21]; rfl) (by decide) ?_
                  refine lv_aload_n hx hb dX6_batch_134 rfl (lv_at hl 0 rfl) ?_
                  refine lv_iload_n hx hb dX6_batch_135 rfl (lv_at hl 1 rfl) ?_
                  obtain ⟨o22, ho22, hf⟩ := ob hf
                  refine rCallI (va_runV (As := [.int x1]) (rest := []) ⟨hx, hb, hml, hown, hts⟩ (ctX6_mixOf (l := l) (D := D) (cy := cy) (a := a) ho22) (cwV 1 hts gX6_batch_X6_mixOf rfl rfl rfl (by decide +kernel) ⟨Nat.le_of_ble_eq_true rfl, Nat.le_of_ble_eq_true rfl⟩) (pV hK hZ hw hS (rRecv hK hw (Nat.le_of_ble_eq_true rfl) en_model rfl)) rfl rfl hl.1 rfl (lv_room (Nat.le_of_ble_eq_true rfl)) dX6_batch_136 ⟨Nat.le_of_ble_eq_true rfl, Nat.le_of_ble_eq_true rfl⟩) hS (fun H locs hw hS => ?_)
                  obtain rfl := Option.some.inj hf
                  exact rIret hx hb hr hlocks hw hS dX6_batch_139
                · have hf := iq c21 hf
                  refine lv_tableOut (tgt := 140) hx hb dX6_batch_23 (swout0_6 c5 c10 c12 c14 c16 c18 c21) (by decide) ?_
                  refine lv_aload_n hx hb dX6_batch_140 rfl (lv_at hl 0 rfl) ?_
                  refine rGet hx hb hts iX6_batch_X6 hown hK hw (Nat.le_of_ble_eq_true rfl) en_model rfl 14 (by decide) (hts _ kX6_batch_5) rfl rfl dX6_batch_141 ?_
                  refine lv_iload_n hx hb dX6_batch_144 rfl (lv_at hl 1 rfl) ?_
                  obtain ⟨hg23, hf⟩ := og hf
                  refine rIald hx hb hK hw (Nat.le_of_ble_eq_true rfl) en_a87 hg23 dX6_batch_145 ?_
                  obtain rfl := Option.some.inj hf
                  exact rIret hx hb hr hlocks hw hS dX6_batch_146
  · have hf := ip c4 hf
    refine lv_iconst (v := (0 : Int32)) hx hb dX6_batch_20 (by decide) ?_
    obtain rfl := Option.some.inj hf
    exact rIret hx hb hr hlocks hw hS dX6_batch_21
set_option maxRecDepth 100000 in
set_option maxHeartbeats 4000000 in
theorem ctX6_batch {l : Launch} {D : va_G} {cy : Nat → ClassId} {a : Nat} {x1 : Int32} {x2 : Int32} {M : Mm} {out : Int32 × Mm} (hf : fX6_batch x1 x2 M = some out) : Met l yX6_batch wsX6_batch rX6_batch (Pre D cy a M [.ref (a + 77), .int x1, .int x2]) (QI D cy a out.1 out.2) 0 0 (Aq a) := by
  refine Met.ofW (cc := cX6_batch) (maxL := 3) (ret := (some .int)) (by decide +kernel) rfl ?_
  intro p e s m args below meth c s₁ B hml hv
  obtain ⟨rfl, hw, hK, hZ⟩ := hv
  have hS : va_S (Aq a) s.heap s.heap [] := va_S.rf
  have hl := lv_entry ([.ref (a + 77), .int x1, .int x2]) (n := 3) (Nat.le_of_ble_eq_true rfl)
  rw [lg_entry_eq]
  generalize (lg_sl ([.ref (a + 77), .int x1, .int x2]) ++ List.replicate (3 - (lg_sl ([.ref (a + 77), .int x1, .int x2])).length) Slot.unset).toArray = ls at hl ⊢
  exact bX6_batch_0 B.exec B.bytes B.returns hml (findClass_of_methodNamed B.named) (atoms_spec (ws := wsX6_batch) B.pre) B.notSynchronized hK hZ _ _ _ _ _ _ hw hS hl hf
def rX6_unit : Room := { frames := 1, cells := 0, slots := 0, locals := 23 }
noncomputable def fX6_unit_b10 (x1 : Int32) (xs1 : Int32) (M : Mm) : Option (Int32 × Mm) := ((fX6_goes xs1 (1 : Int32) (1 : Int32) M).bind fun o1 => (if o1.1 = 0 then some ((0 : Int32), o1.2) else (if (gi o1.2 77 6) = 0 then some ((-1 : Int32), o1.2) else (if (gi o1.2 77 7) ≤ x1 then some ((-1 : Int32), o1.2) else (if ¬ (x1 < 0 ∨ 360 ≤ x1.toNatClampNeg) then some (gi o1.2 97 x1.toNatClampNeg, o1.2) else none)))))
noncomputable def fX6_unit (x1 : Int32) (M : Mm) : Option (Int32 × Mm) := (if x1 < 0 then fX6_unit_b10 x1 (0 : Int32) M else fX6_unit_b10 x1 (1 : Int32) M)
set_option maxRecDepth 20000 in
theorem iX6_unit_X6 : ∀ w ∈ wsX60, w ∈ wsX6_unit := by decide +kernel
set_option maxRecDepth 20000 in
theorem kX6_unit_0 : Cond.fieldLink RX6 105 "BatchPipeModel" "isOpen" "Z" ∈ wsX6_unit := by decide +kernel
set_option maxRecDepth 20000 in
theorem kX6_unit_1 : Cond.fieldLink RX6 117 "BatchPipeModel" "length" "I" ∈ wsX6_unit := by decide +kernel
set_option maxRecDepth 20000 in
theorem kX6_unit_2 : Cond.fieldLink RX6 71 "BatchPipeModel" "unitBatch" "[I" ∈ wsX6_unit := by decide +kernel
set_option maxRecDepth 100000 in
set_option maxHeartbeats 4000000 in
theorem bX6_unit_10 {p : Program} {l : Launch} {e : Env} {s : State} {m : MethodId} {args : Array Value} {below : List Frame} {meth : Method} {c : Code} {D : va_G} {cy : Nat → ClassId} {a : Nat} (hx : p.tables.exec = Jvm.exec) (hb : c.code = cX6_unit) (hr : meth.sig.returnType = (some .int)) (hml : c.maxLocals = 2) (hown : s.vm.findClass RX6 = some m.cls) (hts : ∀ w ∈ wsX6_unit, w.before args s = true) (hlocks : meth.locks = false) (hK : KS D cy s) (hZ : ZZ a s s.heap) {out : Int32 × Mm} : ∀ (x1 : Int32) (xs1 : Int32) (M : Mm) (H : Heap) (locs : List Loc) (ls : Array Slot), HP D cy a M H → va_S (Aq a) s.heap H locs → lv_has ls 2 [(0, .ref (a + 77)), (1, .int x1)] → narrow .boolean (.int xs1) = .int xs1 → fX6_unit_b10 x1 xs1 M = some out → W p l e rX6_unit s m args below meth c H locs 0 0 (MQ below (QI D cy a out.1 out.2) args s 0 0 (Aq a)) (F0 m 10 ls [.int xs1, .ref (a + 77)]) := by
  intro x1 xs1 M H locs ls hw hS hl hbs1 hf
  unfold fX6_unit_b10 at hf
  refine lv_iconst (v := (1 : Int32)) hx hb dX6_unit_10 (by decide) ?_
  refine lv_iconst (v := (1 : Int32)) hx hb dX6_unit_11 (by decide) ?_
  obtain ⟨o1, ho1, hf⟩ := ob hf
  refine rCallB (va_runV (As := [.int xs1, .int (1 : Int32), .int (1 : Int32)]) (rest := []) ⟨hx, hb, hml, hown, hts⟩ (ctX6_goes (l := l) (D := D) (cy := cy) (a := a) ho1) (cwV 3 hts gX6_unit_X6_goes rfl rfl rfl (by decide +kernel) ⟨Nat.le_of_ble_eq_true rfl, Nat.le_of_ble_eq_true rfl⟩) (pV hK hZ hw hS (rRecv hK hw (Nat.le_of_ble_eq_true rfl) en_model rfl)) rfl rfl hl.1 rfl (lv_room (Nat.le_of_ble_eq_true rfl)) dX6_unit_12 ⟨Nat.le_of_ble_eq_true rfl, Nat.le_of_ble_eq_true rfl⟩) hS (fun H locs hw hS ho1b => ?_)
  refine lv_if_ne (tgt := 20) hx hb dX6_unit_15 (by decide) (fun c2 => ?_) (fun c2 => ?_)
  · have hf := iq c2 hf
    refine lv_aload_n hx hb dX6_unit_20 rfl (lv_at hl 0 rfl) ?_
    refine rGetI hx hb hts iX6_unit_X6 hown hK hw (Nat.le_of_ble_eq_true rfl) en_model rfl 6 (by decide) (hts _ kX6_unit_0) rfl ge6_6 dX6_unit_21 ?_
    refine lv_if_eq (tgt := 44) hx hb dX6_unit_24 (by decide) (fun c3 => ?_) (fun c3 => ?_)
    · have hf := ip c3 hf
      refine lv_iconst (v := (-1 : Int32)) hx hb dX6_unit_44 (by decide) ?_
      obtain rfl := Option.some.inj hf
      exact rIret hx hb hr hlocks hw hS dX6_unit_45
    · have hf := iq c3 hf
      refine lv_iload_n hx hb dX6_unit_27 rfl (lv_at hl 1 rfl) ?_
      refine lv_aload_n hx hb dX6_unit_28 rfl (lv_at hl 0 rfl) ?_
      refine rGetI hx hb hts iX6_unit_X6 hown hK hw (Nat.le_of_ble_eq_true rfl) en_model rfl 7 (by decide) (hts _ kX6_unit_1) rfl ge6_7 dX6_unit_29 ?_
      refine lv_icmp_ge (tgt := 44) hx hb dX6_unit_32 (by decide) (fun c4 => ?_) (fun c4 => ?_)
      · have hf := ip c4 hf
        refine lv_iconst (v := (-1 : Int32)) hx hb dX6_unit_44 (by decide) ?_
        obtain rfl := Option.some.inj hf
        exact rIret hx hb hr hlocks hw hS dX6_unit_45
      · have hf := iq c4 hf
        refine lv_aload_n hx hb dX6_unit_35 rfl (lv_at hl 0 rfl) ?_
        refine rGet hx hb hts iX6_unit_X6 hown hK hw (Nat.le_of_ble_eq_true rfl) en_model rfl 25 (by decide) (hts _ kX6_unit_2) rfl rfl dX6_unit_36 ?_
        refine lv_iload_n hx hb dX6_unit_39 rfl (lv_at hl 1 rfl) ?_
        obtain ⟨hg5, hf⟩ := og hf
        refine rIald hx hb hK hw (Nat.le_of_ble_eq_true rfl) en_a97 hg5 dX6_unit_40 ?_
        refine lv_goto (tgt := 45) hx hb dX6_unit_41 (by decide) ?_
        obtain rfl := Option.some.inj hf
        exact rIret hx hb hr hlocks hw hS dX6_unit_45
  · have hf := ip c2 hf
    refine lv_iconst (v := (0 : Int32)) hx hb dX6_unit_18 (by decide) ?_
    obtain rfl := Option.some.inj hf
    exact rIret hx hb hr hlocks hw hS dX6_unit_19
set_option maxRecDepth 100000 in
set_option maxHeartbeats 4000000 in
theorem bX6_unit_0 {p : Program} {l : Launch} {e : Env} {s : State} {m : MethodId} {args : Array Value} {below : List Frame} {meth : Method} {c : Code} {D : va_G} {cy : Nat → ClassId} {a : Nat} (hx : p.tables.exec = Jvm.exec) (hb : c.code = cX6_unit) (hr : meth.sig.returnType = (some .int)) (hml : c.maxLocals = 2) (hown : s.vm.findClass RX6 = some m.cls) (hts : ∀ w ∈ wsX6_unit, w.before args s = true) (hlocks : meth.locks = false) (hK : KS D cy s) (hZ : ZZ a s s.heap) {out : Int32 × Mm} : ∀ (x1 : Int32) (M : Mm) (H : Heap) (locs : List Loc) (ls : Array Slot), HP D cy a M H → va_S (Aq a) s.heap H locs → lv_has ls 2 [(0, .ref (a + 77)), (1, .int x1)] → fX6_unit x1 M = some out → W p l e rX6_unit s m args below meth c H locs 0 0 (MQ below (QI D cy a out.1 out.2) args s 0 0 (Aq a)) (F0 m 0 ls []) := by
  intro x1 M H locs ls hw hS hl hf
  unfold fX6_unit at hf
  refine lv_aload_n hx hb dX6_unit_0 rfl (lv_at hl 0 rfl) ?_
  refine lv_iload_n hx hb dX6_unit_1 rfl (lv_at hl 1 rfl) ?_
  refine lv_if_lt (tgt := 9) hx hb dX6_unit_2 (by decide) (fun c1 => ?_) (fun c1 => ?_)
  · have hf := ip c1 hf
    refine lv_iconst (v := (0 : Int32)) hx hb dX6_unit_9 (by decide) ?_
    exact bX6_unit_10 hx hb hr hml hown hts hlocks hK hZ _ _ _ _ _ _ hw hS (lv_sub hl [0, 1] rfl) rfl hf
  · have hf := iq c1 hf
    refine lv_iconst (v := (1 : Int32)) hx hb dX6_unit_5 (by decide) ?_
    refine lv_goto (tgt := 10) hx hb dX6_unit_6 (by decide) ?_
    exact bX6_unit_10 hx hb hr hml hown hts hlocks hK hZ _ _ _ _ _ _ hw hS (lv_sub hl [0, 1] rfl) rfl hf
set_option maxRecDepth 100000 in
set_option maxHeartbeats 4000000 in
theorem ctX6_unit {l : Launch} {D : va_G} {cy : Nat → ClassId} {a : Nat} {x1 : Int32} {M : Mm} {out : Int32 × Mm} (hf : fX6_unit x1 M = some out) : Met l yX6_unit wsX6_unit rX6_unit (Pre D cy a M [.ref (a + 77), .int x1]) (QI D cy a out.1 out.2) 0 0 (Aq a) := by
  refine Met.ofW (cc := cX6_unit) (maxL := 2) (ret := (some .int)) (by decide +kernel) rfl ?_
  intro p e s m args below meth c s₁ B hml hv
  obtain ⟨rfl, hw, hK, hZ⟩ := hv
  have hS : va_S (Aq a) s.heap s.heap [] := va_S.rf
  have hl := lv_entry ([.ref (a + 77), .int x1]) (n := 2) (Nat.le_of_ble_eq_true rfl)
  rw [lg_entry_eq]
  generalize (lg_sl ([.ref (a + 77), .int x1]) ++ List.replicate (2 - (lg_sl ([.ref (a + 77), .int x1])).length) Slot.unset).toArray = ls at hl ⊢
  exact bX6_unit_0 B.exec B.bytes B.returns hml (findClass_of_methodNamed B.named) (atoms_spec (ws := wsX6_unit) B.pre) B.notSynchronized hK hZ _ _ _ _ _ hw hS hl hf
def rX6_unitAnew : Room := { frames := 2, cells := 0, slots := 0, locals := 44 }
noncomputable def fX6_unitAnew (x1 : Int32) (M : Mm) : Option (Int32 × Mm) := ((fX6_unit x1 M).bind fun o1 => some (o1.1, o1.2))
set_option maxRecDepth 100000 in
set_option maxHeartbeats 4000000 in
theorem bX6_unitAnew_0 {p : Program} {l : Launch} {e : Env} {s : State} {m : MethodId} {args : Array Value} {below : List Frame} {meth : Method} {c : Code} {D : va_G} {cy : Nat → ClassId} {a : Nat} (hx : p.tables.exec = Jvm.exec) (hb : c.code = cX6_unitAnew) (hr : meth.sig.returnType = (some .int)) (hml : c.maxLocals = 2) (hown : s.vm.findClass RX6 = some m.cls) (hts : ∀ w ∈ wsX6_unitAnew, w.before args s = true) (hlocks : meth.locks = false) (hK : KS D cy s) (hZ : ZZ a s s.heap) {out : Int32 × Mm} : ∀ (x1 : Int32) (M : Mm) (H : Heap) (locs : List Loc) (ls : Array Slot), HP D cy a M H → va_S (Aq a) s.heap H locs → lv_has ls 2 [(0, .ref (a + 77)), (1, .int x1)] → fX6_unitAnew x1 M = some out → W p l e rX6_unitAnew s m args below meth c H locs 0 0 (MQ below (QI D cy a out.1 out.2) args s 0 0 (Aq a)) (F0 m 0 ls []) := by
  intro x1 M H locs ls hw hS hl hf
  unfold fX6_unitAnew at hf
  refine lv_aload_n hx hb dX6_unitAnew_0 rfl (lv_at hl 0 rfl) ?_
  refine lv_iload_n hx hb dX6_unitAnew_1 rfl (lv_at hl 1 rfl) ?_
  obtain ⟨o1, ho1, hf⟩ := ob hf
  refine rCallI (va_runV (As := [.int x1]) (rest := []) ⟨hx, hb, hml, hown, hts⟩ (ctX6_unit (l := l) (D := D) (cy := cy) (a := a) ho1) (cwV 1 hts gX6_unitAnew_X6_unit rfl rfl rfl (by decide +kernel) ⟨Nat.le_of_ble_eq_true rfl, Nat.le_of_ble_eq_true rfl⟩) (pV hK hZ hw hS (rRecv hK hw (Nat.le_of_ble_eq_true rfl) en_model rfl)) rfl rfl hl.1 rfl (lv_room (Nat.le_of_ble_eq_true rfl)) dX6_unitAnew_2 ⟨Nat.le_of_ble_eq_true rfl, Nat.le_of_ble_eq_true rfl⟩) hS (fun H locs hw hS => ?_)
  obtain rfl := Option.some.inj hf
  exact rIret hx hb hr hlocks hw hS dX6_unitAnew_5
set_option maxRecDepth 100000 in
set_option maxHeartbeats 4000000 in
theorem ctX6_unitAnew {l : Launch} {D : va_G} {cy : Nat → ClassId} {a : Nat} {x1 : Int32} {M : Mm} {out : Int32 × Mm} (hf : fX6_unitAnew x1 M = some out) : Met l yX6_unitAnew wsX6_unitAnew rX6_unitAnew (Pre D cy a M [.ref (a + 77), .int x1]) (QI D cy a out.1 out.2) 0 0 (Aq a) := by
  refine Met.ofW (cc := cX6_unitAnew) (maxL := 2) (ret := (some .int)) (by decide +kernel) rfl ?_
  intro p e s m args below meth c s₁ B hml hv
  obtain ⟨rfl, hw, hK, hZ⟩ := hv
  have hS : va_S (Aq a) s.heap s.heap [] := va_S.rf
  have hl := lv_entry ([.ref (a + 77), .int x1]) (n := 2) (Nat.le_of_ble_eq_true rfl)
  rw [lg_entry_eq]
  generalize (lg_sl ([.ref (a + 77), .int x1]) ++ List.replicate (2 - (lg_sl ([.ref (a + 77), .int x1])).length) Slot.unset).toArray = ls at hl ⊢
  exact bX6_unitAnew_0 B.exec B.bytes B.returns hml (findClass_of_methodNamed B.named) (atoms_spec (ws := wsX6_unitAnew) B.pre) B.notSynchronized hK hZ _ _ _ _ _ hw hS hl hf
def rX6_pressure : Room := { frames := 2, cells := 0, slots := 0, locals := 50 }
noncomputable def fX6_pressure (x1 : Int32) (x2 : Int32) (M : Mm) : Option (Int32 × Mm) := ((fX6_isSegment x1 M).bind fun o1 => ((fX6_isBetween x2 (0 : Int32) (10 : Int32) M).bind fun o2 => ((fX6_goes o1 o2 (gi M 77 6) M).bind fun o3 => (if o3.1 = 0 then some ((0 : Int32), o3.2) else ((fX6_pressureOf x1 x2 o3.2).bind fun o5 => some (o5, o3.2))))))
set_option maxRecDepth 20000 in
theorem iX6_pressure_X6 : ∀ w ∈ wsX60, w ∈ wsX6_pressure := by decide +kernel
set_option maxRecDepth 20000 in
theorem kX6_pressure_0 : Cond.fieldLink RX6 105 "BatchPipeModel" "isOpen" "Z" ∈ wsX6_pressure := by decide +kernel
set_option maxRecDepth 100000 in
set_option maxHeartbeats 4000000 in
theorem bX6_pressure_0 {p : Program} {l : Launch} {e : Env} {s : State} {m : MethodId} {args : Array Value} {below : List Frame} {meth : Method} {c : Code} {D : va_G} {cy : Nat → ClassId} {a : Nat} (hx : p.tables.exec = Jvm.exec) (hb : c.code = cX6_pressure) (hr : meth.sig.returnType = (some .int)) (hml : c.maxLocals = 3) (hown : s.vm.findClass RX6 = some m.cls) (hts : ∀ w ∈ wsX6_pressure, w.before args s = true) (hlocks : meth.locks = false) (hK : KS D cy s) (hZ : ZZ a s s.heap) {out : Int32 × Mm} : ∀ (x1 : Int32) (x2 : Int32) (M : Mm) (H : Heap) (locs : List Loc) (ls : Array Slot), HP D cy a M H → va_S (Aq a) s.heap H locs → lv_has ls 3 [(0, .ref (a + 77)), (1, .int x1), (2, .int x2)] → fX6_pressure x1 x2 M = some out → W p l e rX6_pressure s m args below meth c H locs 0 0 (MQ below (QI D cy a out.1 out.2) args s 0 0 (Aq a)) (F0 m 0 ls []) := by
  intro x1 x2 M H locs ls hw hS hl hf
  unfold fX6_pressure at hf
  refine lv_aload_n hx hb dX6_pressure_0 rfl (lv_at hl 0 rfl) ?_
  refine lv_aload_n hx hb dX6_pressure_1 rfl (lv_at hl 0 rfl) ?_
  refine lv_iload_n hx hb dX6_pressure_2 rfl (lv_at hl 1 rfl) ?_
  obtain ⟨o1, ho1, hf⟩ := ob hf
  refine rCallB (va_runV (As := [.int x1]) (rest := [.ref (a + 77)]) ⟨hx, hb, hml, hown, hts⟩ (ctX6_isSegment (l := l) (D := D) (cy := cy) (a := a) ho1) (cwV 1 hts gX6_pressure_X6_isSegment rfl rfl rfl (by decide +kernel) ⟨Nat.le_of_ble_eq_true rfl, Nat.le_of_ble_eq_true rfl⟩) (pV hK hZ hw hS (rRecv hK hw (Nat.le_of_ble_eq_true rfl) en_model rfl)) rfl rfl hl.1 rfl (lv_room (Nat.le_of_ble_eq_true rfl)) dX6_pressure_3 ⟨Nat.le_of_ble_eq_true rfl, Nat.le_of_ble_eq_true rfl⟩) hS (fun H locs hw hS ho1b => ?_)
  refine lv_iload_n hx hb dX6_pressure_6 rfl (lv_at hl 2 rfl) ?_
  refine lv_iconst (v := (0 : Int32)) hx hb dX6_pressure_7 (by decide) ?_
  refine lv_bipush (v := (10 : Int32)) hx hb dX6_pressure_8 (by decide) ?_
  obtain ⟨o2, ho2, hf⟩ := ob hf
  refine rCallB (va_runS (As := [.int x2, .int (0 : Int32), .int (10 : Int32)]) (rest := [.int o1, .ref (a + 77)]) ⟨hx, hb, hml, hown, hts⟩ (ctX6_isBetween (l := l) (D := D) (cy := cy) (a := a) ho2) (va_cwS 3 hts gX6_pressure_X6_isBetween rfl rfl rfl (by decide +kernel) ⟨Nat.le_of_ble_eq_true rfl, Nat.le_of_ble_eq_true rfl⟩) (pS hK hZ hw hS) rfl rfl hl.1 rfl (lv_room (Nat.le_of_ble_eq_true rfl)) dX6_pressure_10 ⟨Nat.le_of_ble_eq_true rfl, Nat.le_of_ble_eq_true rfl⟩) hS (fun H locs hw hS ho2b => ?_)
  refine lv_aload_n hx hb dX6_pressure_13 rfl (lv_at hl 0 rfl) ?_
  refine rGetI hx hb hts iX6_pressure_X6 hown hK hw (Nat.le_of_ble_eq_true rfl) en_model rfl 6 (by decide) (hts _ kX6_pressure_0) rfl ge6_6 dX6_pressure_14 ?_
  obtain ⟨o3, ho3, hf⟩ := ob hf
  refine rCallB (va_runV (As := [.int o1, .int o2, .int (gi M 77 6)]) (rest := []) ⟨hx, hb, hml, hown, hts⟩ (ctX6_goes (l := l) (D := D) (cy := cy) (a := a) ho3) (cwV 3 hts gX6_pressure_X6_goes rfl rfl rfl (by decide +kernel) ⟨Nat.le_of_ble_eq_true rfl, Nat.le_of_ble_eq_true rfl⟩) (pV hK hZ hw hS (rRecv hK hw (Nat.le_of_ble_eq_true rfl) en_model rfl)) rfl rfl hl.1 rfl (lv_room (Nat.le_of_ble_eq_true rfl)) dX6_pressure_17 ⟨Nat.le_of_ble_eq_true rfl, Nat.le_of_ble_eq_true rfl⟩) hS (fun H locs hw hS ho3b => ?_)
  refine lv_if_ne (tgt := 25) hx hb dX6_pressure_20 (by decide) (fun c4 => ?_) (fun c4 => ?_)
  · have hf := iq c4 hf
    refine lv_aload_n hx hb dX6_pressure_25 rfl (lv_at hl 0 rfl) ?_
    refine lv_iload_n hx hb dX6_pressure_26 rfl (lv_at hl 1 rfl) ?_
    refine lv_iload_n hx hb dX6_pressure_27 rfl (lv_at hl 2 rfl) ?_
    obtain ⟨o5, ho5, hf⟩ := ob hf
    refine rCallI (va_runV (As := [.int x1, .int x2]) (rest := []) ⟨hx, hb, hml, hown, hts⟩ (ctX6_pressureOf (l := l) (D := D) (cy := cy) (a := a) ho5) (cwV 2 hts gX6_pressure_X6_pressureOf rfl rfl rfl (by decide +kernel) ⟨Nat.le_of_ble_eq_true rfl, Nat.le_of_ble_eq_true rfl⟩) (pV hK hZ hw hS (rRecv hK hw (Nat.le_of_ble_eq_true rfl) en_model rfl)) rfl rfl hl.1 rfl (lv_room (Nat.le_of_ble_eq_true rfl)) dX6_pressure_28 ⟨Nat.le_of_ble_eq_true rfl, Nat.le_of_ble_eq_true rfl⟩) hS (fun H locs hw hS => ?_)
    obtain rfl := Option.some.inj hf
    exact rIret hx hb hr hlocks hw hS dX6_pressure_31
  · have hf := ip c4 hf
    refine lv_iconst (v := (0 : Int32)) hx hb dX6_pressure_23 (by decide) ?_
    obtain rfl := Option.some.inj hf
    exact rIret hx hb hr hlocks hw hS dX6_pressure_24
set_option maxRecDepth 100000 in
set_option maxHeartbeats 4000000 in
theorem ctX6_pressure {l : Launch} {D : va_G} {cy : Nat → ClassId} {a : Nat} {x1 : Int32} {x2 : Int32} {M : Mm} {out : Int32 × Mm} (hf : fX6_pressure x1 x2 M = some out) : Met l yX6_pressure wsX6_pressure rX6_pressure (Pre D cy a M [.ref (a + 77), .int x1, .int x2]) (QI D cy a out.1 out.2) 0 0 (Aq a) := by
  refine Met.ofW (cc := cX6_pressure) (maxL := 3) (ret := (some .int)) (by decide +kernel) rfl ?_
  intro p e s m args below meth c s₁ B hml hv
  obtain ⟨rfl, hw, hK, hZ⟩ := hv
  have hS : va_S (Aq a) s.heap s.heap [] := va_S.rf
  have hl := lv_entry ([.ref (a + 77), .int x1, .int x2]) (n := 3) (Nat.le_of_ble_eq_true rfl)
  rw [lg_entry_eq]
  generalize (lg_sl ([.ref (a + 77), .int x1, .int x2]) ++ List.replicate (3 - (lg_sl ([.ref (a + 77), .int x1, .int x2])).length) Slot.unset).toArray = ls at hl ⊢
  exact bX6_pressure_0 B.exec B.bytes B.returns hml (findClass_of_methodNamed B.named) (atoms_spec (ws := wsX6_pressure) B.pre) B.notSynchronized hK hZ _ _ _ _ _ _ hw hS hl hf
def rX6_tank : Room := { frames := 2, cells := 0, slots := 0, locals := 42 }
noncomputable def fX6_tank (x1 : Int32) (x2 : Int32) (M : Mm) : Option (Int32 × Mm) := ((fX6_isTank x1 M).bind fun o1 => ((fX6_isBetween x2 (0 : Int32) (2 : Int32) M).bind fun o2 => ((fX6_goes o1 o2 (1 : Int32) M).bind fun o3 => (if o3.1 = 0 then some ((0 : Int32), o3.2) else (if x2 = 0 then (if ¬ (x1 < 0 ∨ 4 ≤ x1.toNatClampNeg) then some (gi o3.2 99 x1.toNatClampNeg, o3.2) else none) else (if x2 = (2 : Int32) then (if ¬ (x1 < 0 ∨ 4 ≤ x1.toNatClampNeg) then some (gi o3.2 101 x1.toNatClampNeg, o3.2) else none) else (if ¬ (x1 < 0 ∨ 4 ≤ x1.toNatClampNeg) then (if (gi o3.2 99 x1.toNatClampNeg) = 0 then some ((-1 : Int32), o3.2) else (if ¬ (x1 < 0 ∨ 4 ≤ x1.toNatClampNeg) then some (gi o3.2 100 x1.toNatClampNeg, o3.2) else none)) else none)))))))
set_option maxRecDepth 20000 in
theorem iX6_tank_X6 : ∀ w ∈ wsX60, w ∈ wsX6_tank := by decide +kernel
set_option maxRecDepth 20000 in
theorem kX6_tank_0 : Cond.fieldLink RX6 83 "BatchPipeModel" "has" "[I" ∈ wsX6_tank := by decide +kernel
set_option maxRecDepth 20000 in
theorem kX6_tank_1 : Cond.fieldLink RX6 86 "BatchPipeModel" "worst" "[I" ∈ wsX6_tank := by decide +kernel
set_option maxRecDepth 20000 in
theorem kX6_tank_2 : Cond.fieldLink RX6 89 "BatchPipeModel" "mixed" "[I" ∈ wsX6_tank := by decide +kernel
set_option maxRecDepth 100000 in
set_option maxHeartbeats 4000000 in
theorem bX6_tank_0 {p : Program} {l : Launch} {e : Env} {s : State} {m : MethodId} {args : Array Value} {below : List Frame} {meth : Method} {c : Code} {D : va_G} {cy : Nat → ClassId} {a : Nat} (hx : p.tables.exec = Jvm.exec) (hb : c.code = cX6_tank) (hr : meth.sig.returnType = (some .int)) (hml : c.maxLocals = 3) (hown : s.vm.findClass RX6 = some m.cls) (hts : ∀ w ∈ wsX6_tank, w.before args s = true) (hlocks : meth.locks = false) (hK : KS D cy s) (hZ : ZZ a s s.heap) {out : Int32 × Mm} : ∀ (x1 : Int32) (x2 : Int32) (M : Mm) (H : Heap) (locs : List Loc) (ls : Array Slot), HP D cy a M H → va_S (Aq a) s.heap H locs → lv_has ls 3 [(0, .ref (a + 77)), (1, .int x1), (2, .int x2)] → fX6_tank x1 x2 M = some out → W p l e rX6_tank s m args below meth c H locs 0 0 (MQ below (QI D cy a out.1 out.2) args s 0 0 (Aq a)) (F0 m 0 ls []) := by
  intro x1 x2 M H locs ls hw hS hl hf
  unfold fX6_tank at hf
  refine lv_aload_n hx hb dX6_tank_0 rfl (lv_at hl 0 rfl) ?_
  refine lv_iload_n hx hb dX6_tank_1 rfl (lv_at hl 1 rfl) ?_
  obtain ⟨o1, ho1, hf⟩ := ob hf
  refine rCallB (va_runS (As := [.int x1]) (rest := [.ref (a + 77)]) ⟨hx, hb, hml, hown, hts⟩ (ctX6_isTank (l := l) (D := D) (cy := cy) (a := a) ho1) (va_cwS 1 hts gX6_tank_X6_isTank rfl rfl rfl (by decide +kernel) ⟨Nat.le_of_ble_eq_true rfl, Nat.le_of_ble_eq_true rfl⟩) (pS hK hZ hw hS) rfl rfl hl.1 rfl (lv_room (Nat.le_of_ble_eq_true rfl)) dX6_tank_2 ⟨Nat.le_of_ble_eq_true rfl, Nat.le_of_ble_eq_true rfl⟩) hS (fun H locs hw hS ho1b => ?_)
  refine lv_iload_n hx hb dX6_tank_5 rfl (lv_at hl 2 rfl) ?_
  refine lv_iconst (v := (0 : Int32)) hx hb dX6_tank_6 (by decide) ?_
  refine lv_iconst (v := (2 : Int32)) hx hb dX6_tank_7 (by decide) ?_
  obtain ⟨o2, ho2, hf⟩ := ob hf
  refine rCallB (va_runS (As := [.int x2, .int (0 : Int32), .int (2 : Int32)]) (rest := [.int o1, .ref (a + 77)]) ⟨hx, hb, hml, hown, hts⟩ (ctX6_isBetween (l := l) (D := D) (cy := cy) (a := a) ho2) (va_cwS 3 hts gX6_tank_X6_isBetween rfl rfl rfl (by decide +kernel) ⟨Nat.le_of_ble_eq_true rfl, Nat.le_of_ble_eq_true rfl⟩) (pS hK hZ hw hS) rfl rfl hl.1 rfl (lv_room (Nat.le_of_ble_eq_true rfl)) dX6_tank_8 ⟨Nat.le_of_ble_eq_true rfl, Nat.le_of_ble_eq_true rfl⟩) hS (fun H locs hw hS ho2b => ?_)
  refine lv_iconst (v := (1 : Int32)) hx hb dX6_tank_11 (by decide) ?_
  obtain ⟨o3, ho3, hf⟩ := ob hf
  refine rCallB (va_runV (As := [.int o1, .int o2, .int (1 : Int32)]) (rest := []) ⟨hx, hb, hml, hown, hts⟩ (ctX6_goes (l := l) (D := D) (cy := cy) (a := a) ho3) (cwV 3 hts gX6_tank_X6_goes rfl rfl rfl (by decide +kernel) ⟨Nat.le_of_ble_eq_true rfl, Nat.le_of_ble_eq_true rfl⟩) (pV hK hZ hw hS (rRecv hK hw (Nat.le_of_ble_eq_true rfl) en_model rfl)) rfl rfl hl.1 rfl (lv_room (Nat.le_of_ble_eq_true rfl)) dX6_tank_12 ⟨Nat.le_of_ble_eq_true rfl, Nat.le_of_ble_eq_true rfl⟩) hS (fun H locs hw hS ho3b => ?_)
  refine lv_if_ne (tgt := 20) hx hb dX6_tank_15 (by decide) (fun c4 => ?_) (fun c4 => ?_)
  · have hf := iq c4 hf
    refine lv_iload_n hx hb dX6_tank_20 rfl (lv_at hl 2 rfl) ?_
    refine lv_if_ne (tgt := 33) hx hb dX6_tank_21 (by decide) (fun c5 => ?_) (fun c5 => ?_)
    · have hf := iq c5 hf
      refine lv_iload_n hx hb dX6_tank_33 rfl (lv_at hl 2 rfl) ?_
      refine lv_iconst (v := (2 : Int32)) hx hb dX6_tank_34 (by decide) ?_
      refine lv_icmp_ne (tgt := 47) hx hb dX6_tank_35 (by decide) (fun c6 => ?_) (fun c6 => ?_)
      · have hf := iq c6 hf
        refine lv_aload_n hx hb dX6_tank_47 rfl (lv_at hl 0 rfl) ?_
        refine rGet hx hb hts iX6_tank_X6 hown hK hw (Nat.le_of_ble_eq_true rfl) en_model rfl 35 (by decide) (hts _ kX6_tank_0) rfl rfl dX6_tank_48 ?_
        refine lv_iload_n hx hb dX6_tank_51 rfl (lv_at hl 1 rfl) ?_
        obtain ⟨hg7, hf⟩ := og hf
        refine rIald hx hb hK hw (Nat.le_of_ble_eq_true rfl) en_a99 hg7 dX6_tank_52 ?_
        refine lv_if_ne (tgt := 60) hx hb dX6_tank_53 (by decide) (fun c8 => ?_) (fun c8 => ?_)
        · have hf := iq c8 hf
          refine lv_aload_n hx hb dX6_tank_60 rfl (lv_at hl 0 rfl) ?_
          refine rGet hx hb hts iX6_tank_X6 hown hK hw (Nat.le_of_ble_eq_true rfl) en_model rfl 36 (by decide) (hts _ kX6_tank_1) rfl rfl dX6_tank_61 ?_
          refine lv_iload_n hx hb dX6_tank_64 rfl (lv_at hl 1 rfl) ?_
          obtain ⟨hg9, hf⟩ := og hf
          refine rIald hx hb hK hw (Nat.le_of_ble_eq_true rfl) en_a100 hg9 dX6_tank_65 ?_
          obtain rfl := Option.some.inj hf
          exact rIret hx hb hr hlocks hw hS dX6_tank_66
        · have hf := ip c8 hf
          refine lv_iconst (v := (-1 : Int32)) hx hb dX6_tank_56 (by decide) ?_
          refine lv_goto (tgt := 66) hx hb dX6_tank_57 (by decide) ?_
          obtain rfl := Option.some.inj hf
          exact rIret hx hb hr hlocks hw hS dX6_tank_66
      · have hf := ip c6 hf
        refine lv_aload_n hx hb dX6_tank_38 rfl (lv_at hl 0 rfl) ?_
        refine rGet hx hb hts iX6_tank_X6 hown hK hw (Nat.le_of_ble_eq_true rfl) en_model rfl 37 (by decide) (hts _ kX6_tank_2) rfl rfl dX6_tank_39 ?_
        refine lv_iload_n hx hb dX6_tank_42 rfl (lv_at hl 1 rfl) ?_
        obtain ⟨hg10, hf⟩ := og hf
        refine rIald hx hb hK hw (Nat.le_of_ble_eq_true rfl) en_a101 hg10 dX6_tank_43 ?_
        refine lv_goto (tgt := 66) hx hb dX6_tank_44 (by decide) ?_
        obtain rfl := Option.some.inj hf
        exact rIret hx hb hr hlocks hw hS dX6_tank_66
    · have hf := ip c5 hf
      refine lv_aload_n hx hb dX6_tank_24 rfl (lv_at hl 0 rfl) ?_
      refine rGet hx hb hts iX6_tank_X6 hown hK hw (Nat.le_of_ble_eq_true rfl) en_model rfl 35 (by decide) (hts _ kX6_tank_0) rfl rfl dX6_tank_25 ?_
      refine lv_iload_n hx hb dX6_tank_28 rfl (lv_at hl 1 rfl) ?_
      obtain ⟨hg11, hf⟩ := og hf
      refine rIald hx hb hK hw (Nat.le_of_ble_eq_true rfl) en_a99 hg11 dX6_tank_29 ?_
      refine lv_goto (tgt := 66) hx hb dX6_tank_30 (by decide) ?_
      obtain rfl := Option.some.inj hf
      exact rIret hx hb hr hlocks hw hS dX6_tank_66
  · have hf := ip c4 hf
    refine lv_iconst (v := (0 : Int32)) hx hb dX6_tank_18 (by decide) ?_
    obtain rfl := Option.some.inj hf
    exact rIret hx hb hr hlocks hw hS dX6_tank_19
set_option maxRecDepth 100000 in
set_option maxHeartbeats 4000000 in
theorem ctX6_tank {l : Launch} {D : va_G} {cy : Nat → ClassId} {a : Nat} {x1 : Int32} {x2 : Int32} {M : Mm} {out : Int32 × Mm} (hf : fX6_tank x1 x2 M = some out) : Met l yX6_tank wsX6_tank rX6_tank (Pre D cy a M [.ref (a + 77), .int x1, .int x2]) (QI D cy a out.1 out.2) 0 0 (Aq a) := by
  refine Met.ofW (cc := cX6_tank) (maxL := 3) (ret := (some .int)) (by decide +kernel) rfl ?_
  intro p e s m args below meth c s₁ B hml hv
  obtain ⟨rfl, hw, hK, hZ⟩ := hv
  have hS : va_S (Aq a) s.heap s.heap [] := va_S.rf
  have hl := lv_entry ([.ref (a + 77), .int x1, .int x2]) (n := 3) (Nat.le_of_ble_eq_true rfl)
  rw [lg_entry_eq]
  generalize (lg_sl ([.ref (a + 77), .int x1, .int x2]) ++ List.replicate (3 - (lg_sl ([.ref (a + 77), .int x1, .int x2])).length) Slot.unset).toArray = ls at hl ⊢
  exact bX6_tank_0 B.exec B.bytes B.returns hml (findClass_of_methodNamed B.named) (atoms_spec (ws := wsX6_tank) B.pre) B.notSynchronized hK hZ _ _ _ _ _ _ hw hS hl hf
def rX6_balance : Room := { frames := 0, cells := 0, slots := 0, locals := 0 }
noncomputable def fX6_balance_L4 : Nat → Int32 → Int32 → Mm → Option (Int32)
  | 0 => fun _ _ _ => none
  | n + 1 => fun x1 x2 M => (if (5 : Int32) ≤ x2 then some (x1) else (if ¬ (x2 < 0 ∨ 5 ≤ x2.toNatClampNeg) then (fX6_balance_L4 n) (x1 + (gi M 102 x2.toNatClampNeg)) (x2 + (1 : Int32)) M else none))
noncomputable def fX6_balance (M : Mm) : Option (Int32) := fX6_balance_L4 400 (0 : Int32) (0 : Int32) M
set_option maxRecDepth 20000 in
theorem iX6_balance_X6 : ∀ w ∈ wsX60, w ∈ wsX6_balance := by decide +kernel
set_option maxRecDepth 20000 in
theorem kX6_balance_0 : Cond.fieldLink RX6 92 "BatchPipeModel" "balances" "[I" ∈ wsX6_balance := by decide +kernel
set_option maxRecDepth 100000 in
set_option maxHeartbeats 4000000 in
theorem bX6_balance_4 {p : Program} {l : Launch} {e : Env} {s : State} {m : MethodId} {args : Array Value} {below : List Frame} {meth : Method} {c : Code} {D : va_G} {cy : Nat → ClassId} {a : Nat} (hx : p.tables.exec = Jvm.exec) (hb : c.code = cX6_balance) (hr : meth.sig.returnType = (some .int)) (hml : c.maxLocals = 3) (hown : s.vm.findClass RX6 = some m.cls) (hts : ∀ w ∈ wsX6_balance, w.before args s = true) (hlocks : meth.locks = false) (hK : KS D cy s) (hZ : ZZ a s s.heap) {out : Int32} : ∀ (n : Nat), ∀ (x1 : Int32) (x2 : Int32) (M : Mm) (H : Heap) (locs : List Loc) (ls : Array Slot), HP D cy a M H → va_S (Aq a) s.heap H locs → lv_has ls 3 [(0, .ref (a + 77)), (1, .int x1), (2, .int x2)] → fX6_balance_L4 n x1 x2 M = some out → W p l e rX6_balance s m args below meth c H locs 0 0 (MQ below (QI D cy a out M) args s 0 0 (Aq a)) (F0 m 4 ls []) := by
  intro n
  induction n with
  | zero =>
    intro x1 x2 M H locs ls hw hS hl hf
    have hf : (none : Option (Int32)) = some out := hf
    cases hf
  | succ n ih =>
    intro x1 x2 M H locs ls hw hS hl hf
    unfold fX6_balance_L4 at hf
    refine lv_iload_n hx hb dX6_balance_4 rfl (lv_at hl 2 rfl) ?_
    refine lv_iconst (v := (5 : Int32)) hx hb dX6_balance_5 (by decide) ?_
    refine lv_icmp_ge (tgt := 24) hx hb dX6_balance_6 (by decide) (fun c1 => ?_) (fun c1 => ?_)
    · have hf := ip c1 hf
      refine lv_iload_n hx hb dX6_balance_24 rfl (lv_at hl 1 rfl) ?_
      obtain rfl := Option.some.inj hf
      exact rIret hx hb hr hlocks hw hS dX6_balance_25
    · have hf := iq c1 hf
      refine lv_iload_n hx hb dX6_balance_9 rfl (lv_at hl 1 rfl) ?_
      refine lv_aload_n hx hb dX6_balance_10 rfl (lv_at hl 0 rfl) ?_
      refine rGet hx hb hts iX6_balance_X6 hown hK hw (Nat.le_of_ble_eq_true rfl) en_model rfl 42 (by decide) (hts _ kX6_balance_0) rfl rfl dX6_balance_11 ?_
      refine lv_iload_n hx hb dX6_balance_14 rfl (lv_at hl 2 rfl) ?_
      obtain ⟨hg2, hf⟩ := og hf
      refine rIald hx hb hK hw (Nat.le_of_ble_eq_true rfl) en_a102 hg2 dX6_balance_15 ?_
      refine lv_iadd hx hb dX6_balance_16 ?_
      refine lv_istore_n (lv' := [(1, .int (x1 + (gi M 102 x2.toNatClampNeg))), (0, .ref (a + 77)), (2, .int x2)]) hx hb dX6_balance_17 rfl hl (Nat.le_of_ble_eq_true rfl) rfl (fun ls hl => ?_)
      refine lv_iinc (v := x2 + (1 : Int32)) (lv' := [(2, .int (x2 + (1 : Int32))), (1, .int (x1 + (gi M 102 x2.toNatClampNeg))), (0, .ref (a + 77))]) hx hb dX6_balance_18 hl (k := 2) rfl rfl (Nat.le_of_ble_eq_true rfl) rfl (fun ls hl => ?_)
      refine lv_goto (tgt := 4) hx hb dX6_balance_21 (by decide) ?_
      exact ih _ _ _ _ _ _ hw hS (lv_sub hl [2, 1, 0] rfl) hf
set_option maxRecDepth 100000 in
set_option maxHeartbeats 4000000 in
theorem bX6_balance_0 {p : Program} {l : Launch} {e : Env} {s : State} {m : MethodId} {args : Array Value} {below : List Frame} {meth : Method} {c : Code} {D : va_G} {cy : Nat → ClassId} {a : Nat} (hx : p.tables.exec = Jvm.exec) (hb : c.code = cX6_balance) (hr : meth.sig.returnType = (some .int)) (hml : c.maxLocals = 3) (hown : s.vm.findClass RX6 = some m.cls) (hts : ∀ w ∈ wsX6_balance, w.before args s = true) (hlocks : meth.locks = false) (hK : KS D cy s) (hZ : ZZ a s s.heap) {out : Int32} : ∀ (M : Mm) (H : Heap) (locs : List Loc) (ls : Array Slot), HP D cy a M H → va_S (Aq a) s.heap H locs → lv_has ls 3 [(0, .ref (a + 77))] → fX6_balance  M = some out → W p l e rX6_balance s m args below meth c H locs 0 0 (MQ below (QI D cy a out M) args s 0 0 (Aq a)) (F0 m 0 ls []) := by
  intro M H locs ls hw hS hl hf
  unfold fX6_balance at hf
  refine lv_iconst (v := (0 : Int32)) hx hb dX6_balance_0 (by decide) ?_
  refine lv_istore_n (lv' := [(1, .int (0 : Int32)), (0, .ref (a + 77))]) hx hb dX6_balance_1 rfl hl (Nat.le_of_ble_eq_true rfl) rfl (fun ls hl => ?_)
  refine lv_iconst (v := (0 : Int32)) hx hb dX6_balance_2 (by decide) ?_
  refine lv_istore_n (lv' := [(2, .int (0 : Int32)), (1, .int (0 : Int32)), (0, .ref (a + 77))]) hx hb dX6_balance_3 rfl hl (Nat.le_of_ble_eq_true rfl) rfl (fun ls hl => ?_)
  exact bX6_balance_4 hx hb hr hml hown hts hlocks hK hZ 400 _ _ _ _ _ _ hw hS (lv_sub hl [2, 1, 0] rfl) hf
set_option maxRecDepth 100000 in
set_option maxHeartbeats 4000000 in
theorem ctX6_balance {l : Launch} {D : va_G} {cy : Nat → ClassId} {a : Nat} {M : Mm} {out : Int32} (hf : fX6_balance  M = some out) : Met l yX6_balance wsX6_balance rX6_balance (Pre D cy a M [.ref (a + 77)]) (QI D cy a out M) 0 0 (Aq a) := by
  refine Met.ofW (cc := cX6_balance) (maxL := 3) (ret := (some .int)) (by decide +kernel) rfl ?_
  intro p e s m args below meth c s₁ B hml hv
  obtain ⟨rfl, hw, hK, hZ⟩ := hv
  have hS : va_S (Aq a) s.heap s.heap [] := va_S.rf
  have hl := lv_entry ([.ref (a + 77)]) (n := 3) (Nat.le_of_ble_eq_true rfl)
  rw [lg_entry_eq]
  generalize (lg_sl ([.ref (a + 77)]) ++ List.replicate (3 - (lg_sl ([.ref (a + 77)])).length) Slot.unset).toArray = ls at hl ⊢
  exact bX6_balance_0 B.exec B.bytes B.returns hml (findClass_of_methodNamed B.named) (atoms_spec (ws := wsX6_balance) B.pre) B.notSynchronized hK hZ _ _ _ _ hw hS hl hf
def rX6_pipe : Room := { frames := 1, cells := 0, slots := 0, locals := 23 }
noncomputable def fX6_pipe (x1 : Int32) (M : Mm) : Option (Int32 × Mm) := ((fX6_isBetween x1 (0 : Int32) (5 : Int32) M).bind fun o1 => ((fX6_goes o1 (1 : Int32) (1 : Int32) M).bind fun o2 => (if o2.1 = 0 then some ((0 : Int32), o2.2) else (if x1 = 0 then some (gi o2.2 77 28, o2.2) else (if x1 = (1 : Int32) then ((fX6_balance o2.2).bind fun o12 => some (o12, o2.2)) else (if x1 = (2 : Int32) then ((fX6_balance o2.2).bind fun o10 => (if o10 < (3 : Int32) then some ((0 : Int32), o2.2) else some ((1 : Int32), o2.2))) else (if x1 = (3 : Int32) then some (gi o2.2 77 38, o2.2) else (if x1 = (4 : Int32) then (if (gi o2.2 77 39) = 0 then some ((0 : Int32), o2.2) else some ((1 : Int32), o2.2)) else some (gi o2.2 77 0, o2.2)))))))))
set_option maxRecDepth 20000 in
theorem iX6_pipe_X6 : ∀ w ∈ wsX60, w ∈ wsX6_pipe := by decide +kernel
set_option maxRecDepth 20000 in
theorem kX6_pipe_0 : Cond.fieldLink RX6 197 "BatchPipeModel" "minute" "I" ∈ wsX6_pipe := by decide +kernel
set_option maxRecDepth 20000 in
theorem kX6_pipe_1 : Cond.fieldLink RX6 147 "BatchPipeModel" "isPig" "Z" ∈ wsX6_pipe := by decide +kernel
set_option maxRecDepth 20000 in
theorem kX6_pipe_2 : Cond.fieldLink RX6 170 "BatchPipeModel" "spilled" "I" ∈ wsX6_pipe := by decide +kernel
set_option maxRecDepth 20000 in
theorem kX6_pipe_3 : Cond.fieldLink RX6 204 "BatchPipeModel" "rateNow" "I" ∈ wsX6_pipe := by decide +kernel
set_option maxRecDepth 100000 in
set_option maxHeartbeats 4000000 in
theorem bX6_pipe_0 {p : Program} {l : Launch} {e : Env} {s : State} {m : MethodId} {args : Array Value} {below : List Frame} {meth : Method} {c : Code} {D : va_G} {cy : Nat → ClassId} {a : Nat} (hx : p.tables.exec = Jvm.exec) (hb : c.code = cX6_pipe) (hr : meth.sig.returnType = (some .int)) (hml : c.maxLocals = 2) (hown : s.vm.findClass RX6 = some m.cls) (hts : ∀ w ∈ wsX6_pipe, w.before args s = true) (hlocks : meth.locks = false) (hK : KS D cy s) (hZ : ZZ a s s.heap) {out : Int32 × Mm} : ∀ (x1 : Int32) (M : Mm) (H : Heap) (locs : List Loc) (ls : Array Slot), HP D cy a M H → va_S (Aq a) s.heap H locs → lv_has ls 2 [(0, .ref (a + 77)), (1, .int x1)] → fX6_pipe x1 M = some out → W p l e rX6_pipe s m args below meth c H locs 0 0 (MQ below (QI D cy a out.1 out.2) args s 0 0 (Aq a)) (F0 m 0 ls []) := by
  intro x1 M H locs ls hw hS hl hf
  unfold fX6_pipe at hf
  refine lv_aload_n hx hb dX6_pipe_0 rfl (lv_at hl 0 rfl) ?_
  refine lv_iload_n hx hb dX6_pipe_1 rfl (lv_at hl 1 rfl) ?_
  refine lv_iconst (v := (0 : Int32)) hx hb dX6_pipe_2 (by decide) ?_
  refine lv_iconst (v := (5 : Int32)) hx hb dX6_pipe_3 (by decide) ?_
  obtain ⟨o1, ho1, hf⟩ := ob hf
  refine rCallB (va_runS (As := [.int x1, .int (0 : Int32), .int (5 : Int32)]) (rest := [.ref (a + 77)]) ⟨hx, hb, hml, hown, hts⟩ (ctX6_isBetween (l := l) (D := D) (cy := cy) (a := a) ho1) (va_cwS 3 hts gX6_pipe_X6_isBetween rfl rfl rfl (by decide +kernel) ⟨Nat.le_of_ble_eq_true rfl, Nat.le_of_ble_eq_true rfl⟩) (pS hK hZ hw hS) rfl rfl hl.1 rfl (lv_room (Nat.le_of_ble_eq_true rfl)) dX6_pipe_4 ⟨Nat.le_of_ble_eq_true rfl, Nat.le_of_ble_eq_true rfl⟩) hS (fun H locs hw hS ho1b => ?_)
  refine lv_iconst (v := (1 : Int32)) hx hb dX6_pipe_7 (by decide) ?_
  refine lv_iconst (v := (1 : Int32)) hx hb dX6_pipe_8 (by decide) ?_
  obtain ⟨o2, ho2, hf⟩ := ob hf
  refine rCallB (va_runV (As := [.int o1, .int (1 : Int32), .int (1 : Int32)]) (rest := []) ⟨hx, hb, hml, hown, hts⟩ (ctX6_goes (l := l) (D := D) (cy := cy) (a := a) ho2) (cwV 3 hts gX6_pipe_X6_goes rfl rfl rfl (by decide +kernel) ⟨Nat.le_of_ble_eq_true rfl, Nat.le_of_ble_eq_true rfl⟩) (pV hK hZ hw hS (rRecv hK hw (Nat.le_of_ble_eq_true rfl) en_model rfl)) rfl rfl hl.1 rfl (lv_room (Nat.le_of_ble_eq_true rfl)) dX6_pipe_9 ⟨Nat.le_of_ble_eq_true rfl, Nat.le_of_ble_eq_true rfl⟩) hS (fun H locs hw hS ho2b => ?_)
  refine lv_if_ne (tgt := 17) hx hb dX6_pipe_12 (by decide) (fun c3 => ?_) (fun c3 => ?_)
  · have hf := iq c3 hf
    refine lv_iload_n hx hb dX6_pipe_17 rfl (lv_at hl 1 rfl) ?_
    refine lv_if_ne (tgt := 28) hx hb dX6_pipe_18 (by decide) (fun c4 => ?_) (fun c4 => ?_)
    · have hf := iq c4 hf
      refine lv_iload_n hx hb dX6_pipe_28 rfl (lv_at hl 1 rfl) ?_
      refine lv_iconst (v := (1 : Int32)) hx hb dX6_pipe_29 (by decide) ?_
      refine lv_icmp_ne (tgt := 40) hx hb dX6_pipe_30 (by decide) (fun c5 => ?_) (fun c5 => ?_)
      · have hf := iq c5 hf
        refine lv_iload_n hx hb dX6_pipe_40 rfl (lv_at hl 1 rfl) ?_
        refine lv_iconst (v := (2 : Int32)) hx hb dX6_pipe_41 (by decide) ?_
        refine lv_icmp_ne (tgt := 61) hx hb dX6_pipe_42 (by decide) (fun c6 => ?_) (fun c6 => ?_)
        · have hf := iq c6 hf
          refine lv_iload_n hx hb dX6_pipe_61 rfl (lv_at hl 1 rfl) ?_
          refine lv_iconst (v := (3 : Int32)) hx hb dX6_pipe_62 (by decide) ?_
          refine lv_icmp_ne (tgt := 73) hx hb dX6_pipe_63 (by decide) (fun c7 => ?_) (fun c7 => ?_)
          · have hf := iq c7 hf
            refine lv_iload_n hx hb dX6_pipe_73 rfl (lv_at hl 1 rfl) ?_
            refine lv_iconst (v := (4 : Int32)) hx hb dX6_pipe_74 (by decide) ?_
            refine lv_icmp_ne (tgt := 93) hx hb dX6_pipe_75 (by decide) (fun c8 => ?_) (fun c8 => ?_)
            · have hf := iq c8 hf
              refine lv_aload_n hx hb dX6_pipe_93 rfl (lv_at hl 0 rfl) ?_
              refine rGetI hx hb hts iX6_pipe_X6 hown hK hw (Nat.le_of_ble_eq_true rfl) en_model rfl 0 (by decide) (hts _ kX6_pipe_0) rfl ge6_0 dX6_pipe_94 ?_
              obtain rfl := Option.some.inj hf
              exact rIret hx hb hr hlocks hw hS dX6_pipe_97
            · have hf := ip c8 hf
              refine lv_aload_n hx hb dX6_pipe_78 rfl (lv_at hl 0 rfl) ?_
              refine rGetI hx hb hts iX6_pipe_X6 hown hK hw (Nat.le_of_ble_eq_true rfl) en_model rfl 39 (by decide) (hts _ kX6_pipe_1) rfl ge6_39 dX6_pipe_79 ?_
              refine lv_if_eq (tgt := 89) hx hb dX6_pipe_82 (by decide) (fun c9 => ?_) (fun c9 => ?_)
              · have hf := ip c9 hf
                refine lv_iconst (v := (0 : Int32)) hx hb dX6_pipe_89 (by decide) ?_
                refine lv_goto (tgt := 97) hx hb dX6_pipe_90 (by decide) ?_
                obtain rfl := Option.some.inj hf
                exact rIret hx hb hr hlocks hw hS dX6_pipe_97
              · have hf := iq c9 hf
                refine lv_iconst (v := (1 : Int32)) hx hb dX6_pipe_85 (by decide) ?_
                refine lv_goto (tgt := 97) hx hb dX6_pipe_86 (by decide) ?_
                obtain rfl := Option.some.inj hf
                exact rIret hx hb hr hlocks hw hS dX6_pipe_97
          · have hf := ip c7 hf
            refine lv_aload_n hx hb dX6_pipe_66 rfl (lv_at hl 0 rfl) ?_
            refine rGetI hx hb hts iX6_pipe_X6 hown hK hw (Nat.le_of_ble_eq_true rfl) en_model rfl 38 (by decide) (hts _ kX6_pipe_2) rfl ge6_38 dX6_pipe_67 ?_
            refine lv_goto (tgt := 97) hx hb dX6_pipe_70 (by decide) ?_
            obtain rfl := Option.some.inj hf
            exact rIret hx hb hr hlocks hw hS dX6_pipe_97
        · have hf := ip c6 hf
          refine lv_aload_n hx hb dX6_pipe_45 rfl (lv_at hl 0 rfl) ?_
          obtain ⟨o10, ho10, hf⟩ := ob hf
          refine rCallI (va_runV (As := []) (rest := []) ⟨hx, hb, hml, hown, hts⟩ (ctX6_balance (l := l) (D := D) (cy := cy) (a := a) ho10) (cwV 0 hts gX6_pipe_X6_balance rfl rfl rfl (by decide +kernel) ⟨Nat.le_of_ble_eq_true rfl, Nat.le_of_ble_eq_true rfl⟩) (pV hK hZ hw hS (rRecv hK hw (Nat.le_of_ble_eq_true rfl) en_model rfl)) rfl rfl hl.1 rfl (lv_room (Nat.le_of_ble_eq_true rfl)) dX6_pipe_46 ⟨Nat.le_of_ble_eq_true rfl, Nat.le_of_ble_eq_true rfl⟩) hS (fun H locs hw hS => ?_)
          refine lv_iconst (v := (3 : Int32)) hx hb dX6_pipe_49 (by decide) ?_
          refine lv_icmp_lt (tgt := 57) hx hb dX6_pipe_50 (by decide) (fun c11 => ?_) (fun c11 => ?_)
          · have hf := ip c11 hf
            refine lv_iconst (v := (0 : Int32)) hx hb dX6_pipe_57 (by decide) ?_
            refine lv_goto (tgt := 97) hx hb dX6_pipe_58 (by decide) ?_
            obtain rfl := Option.some.inj hf
            exact rIret hx hb hr hlocks hw hS dX6_pipe_97
          · have hf := iq c11 hf
            refine lv_iconst (v := (1 : Int32)) hx hb dX6_pipe_53 (by decide) ?_
            refine lv_goto (tgt := 97) hx hb dX6_pipe_54 (by decide) ?_
            obtain rfl := Option.some.inj hf
            exact rIret hx hb hr hlocks hw hS dX6_pipe_97
      · have hf := ip c5 hf
        refine lv_aload_n hx hb dX6_pipe_33 rfl (lv_at hl 0 rfl) ?_
        obtain ⟨o12, ho12, hf⟩ := ob hf
        refine rCallI (va_runV (As := []) (rest := []) ⟨hx, hb, hml, hown, hts⟩ (ctX6_balance (l := l) (D := D) (cy := cy) (a := a) ho12) (cwV 0 hts gX6_pipe_X6_balance rfl rfl rfl (by decide +kernel) ⟨Nat.le_of_ble_eq_true rfl, Nat.le_of_ble_eq_true rfl⟩) (pV hK hZ hw hS (rRecv hK hw (Nat.le_of_ble_eq_true rfl) en_model rfl)) rfl rfl hl.1 rfl (lv_room (Nat.le_of_ble_eq_true rfl)) dX6_pipe_34 ⟨Nat.le_of_ble_eq_true rfl, Nat.le_of_ble_eq_true rfl⟩) hS (fun H locs hw hS => ?_)
        refine lv_goto (tgt := 97) hx hb dX6_pipe_37 (by decide) ?_
        obtain rfl := Option.some.inj hf
        exact rIret hx hb hr hlocks hw hS dX6_pipe_97
    · have hf := ip c4 hf
      refine lv_aload_n hx hb dX6_pipe_21 rfl (lv_at hl 0 rfl) ?_
      refine rGetI hx hb hts iX6_pipe_X6 hown hK hw (Nat.le_of_ble_eq_true rfl) en_model rfl 28 (by decide) (hts _ kX6_pipe_3) rfl ge6_28 dX6_pipe_22 ?_
      refine lv_goto (tgt := 97) hx hb dX6_pipe_25 (by decide) ?_
      obtain rfl := Option.some.inj hf
      exact rIret hx hb hr hlocks hw hS dX6_pipe_97
  · have hf := ip c3 hf
    refine lv_iconst (v := (0 : Int32)) hx hb dX6_pipe_15 (by decide) ?_
    obtain rfl := Option.some.inj hf
    exact rIret hx hb hr hlocks hw hS dX6_pipe_16
set_option maxRecDepth 100000 in
set_option maxHeartbeats 4000000 in
theorem ctX6_pipe {l : Launch} {D : va_G} {cy : Nat → ClassId} {a : Nat} {x1 : Int32} {M : Mm} {out : Int32 × Mm} (hf : fX6_pipe x1 M = some out) : Met l yX6_pipe wsX6_pipe rX6_pipe (Pre D cy a M [.ref (a + 77), .int x1]) (QI D cy a out.1 out.2) 0 0 (Aq a) := by
  refine Met.ofW (cc := cX6_pipe) (maxL := 2) (ret := (some .int)) (by decide +kernel) rfl ?_
  intro p e s m args below meth c s₁ B hml hv
  obtain ⟨rfl, hw, hK, hZ⟩ := hv
  have hS : va_S (Aq a) s.heap s.heap [] := va_S.rf
  have hl := lv_entry ([.ref (a + 77), .int x1]) (n := 2) (Nat.le_of_ble_eq_true rfl)
  rw [lg_entry_eq]
  generalize (lg_sl ([.ref (a + 77), .int x1]) ++ List.replicate (2 - (lg_sl ([.ref (a + 77), .int x1])).length) Slot.unset).toArray = ls at hl ⊢
  exact bX6_pipe_0 B.exec B.bytes B.returns hml (findClass_of_methodNamed B.named) (atoms_spec (ws := wsX6_pipe) B.pre) B.notSynchronized hK hZ _ _ _ _ _ hw hS hl hf
def rX6_dirt : Room := { frames := 2, cells := 0, slots := 0, locals := 43 }
noncomputable def fX6_dirt (x1 : Int32) (M : Mm) : Option (Int32 × Mm) := ((fX6_isSegment x1 M).bind fun o1 => ((fX6_goes o1 (1 : Int32) (1 : Int32) M).bind fun o2 => (if o2.1 = 0 then some ((0 : Int32), o2.2) else (if ¬ (x1 < 0 ∨ 6 ≤ x1.toNatClampNeg) then some (gi o2.2 81 x1.toNatClampNeg, o2.2) else none))))
set_option maxRecDepth 20000 in
theorem iX6_dirt_X6 : ∀ w ∈ wsX60, w ∈ wsX6_dirt := by decide +kernel
set_option maxRecDepth 20000 in
theorem kX6_dirt_0 : Cond.fieldLink RX6 19 "BatchPipeModel" "dirty" "[I" ∈ wsX6_dirt := by decide +kernel
set_option maxRecDepth 100000 in
set_option maxHeartbeats 4000000 in
theorem bX6_dirt_0 {p : Program} {l : Launch} {e : Env} {s : State} {m : MethodId} {args : Array Value} {below : List Frame} {meth : Method} {c : Code} {D : va_G} {cy : Nat → ClassId} {a : Nat} (hx : p.tables.exec = Jvm.exec) (hb : c.code = cX6_dirt) (hr : meth.sig.returnType = (some .int)) (hml : c.maxLocals = 2) (hown : s.vm.findClass RX6 = some m.cls) (hts : ∀ w ∈ wsX6_dirt, w.before args s = true) (hlocks : meth.locks = false) (hK : KS D cy s) (hZ : ZZ a s s.heap) {out : Int32 × Mm} : ∀ (x1 : Int32) (M : Mm) (H : Heap) (locs : List Loc) (ls : Array Slot), HP D cy a M H → va_S (Aq a) s.heap H locs → lv_has ls 2 [(0, .ref (a + 77)), (1, .int x1)] → fX6_dirt x1 M = some out → W p l e rX6_dirt s m args below meth c H locs 0 0 (MQ below (QI D cy a out.1 out.2) args s 0 0 (Aq a)) (F0 m 0 ls []) := by
  intro x1 M H locs ls hw hS hl hf
  unfold fX6_dirt at hf
  refine lv_aload_n hx hb dX6_dirt_0 rfl (lv_at hl 0 rfl) ?_
  refine lv_aload_n hx hb dX6_dirt_1 rfl (lv_at hl 0 rfl) ?_
  refine lv_iload_n hx hb dX6_dirt_2 rfl (lv_at hl 1 rfl) ?_
  obtain ⟨o1, ho1, hf⟩ := ob hf
  refine rCallB (va_runV (As := [.int x1]) (rest := [.ref (a + 77)]) ⟨hx, hb, hml, hown, hts⟩ (ctX6_isSegment (l := l) (D := D) (cy := cy) (a := a) ho1) (cwV 1 hts gX6_dirt_X6_isSegment rfl rfl rfl (by decide +kernel) ⟨Nat.le_of_ble_eq_true rfl, Nat.le_of_ble_eq_true rfl⟩) (pV hK hZ hw hS (rRecv hK hw (Nat.le_of_ble_eq_true rfl) en_model rfl)) rfl rfl hl.1 rfl (lv_room (Nat.le_of_ble_eq_true rfl)) dX6_dirt_3 ⟨Nat.le_of_ble_eq_true rfl, Nat.le_of_ble_eq_true rfl⟩) hS (fun H locs hw hS ho1b => ?_)
  refine lv_iconst (v := (1 : Int32)) hx hb dX6_dirt_6 (by decide) ?_
  refine lv_iconst (v := (1 : Int32)) hx hb dX6_dirt_7 (by decide) ?_
  obtain ⟨o2, ho2, hf⟩ := ob hf
  refine rCallB (va_runV (As := [.int o1, .int (1 : Int32), .int (1 : Int32)]) (rest := []) ⟨hx, hb, hml, hown, hts⟩ (ctX6_goes (l := l) (D := D) (cy := cy) (a := a) ho2) (cwV 3 hts gX6_dirt_X6_goes rfl rfl rfl (by decide +kernel) ⟨Nat.le_of_ble_eq_true rfl, Nat.le_of_ble_eq_true rfl⟩) (pV hK hZ hw hS (rRecv hK hw (Nat.le_of_ble_eq_true rfl) en_model rfl)) rfl rfl hl.1 rfl (lv_room (Nat.le_of_ble_eq_true rfl)) dX6_dirt_8 ⟨Nat.le_of_ble_eq_true rfl, Nat.le_of_ble_eq_true rfl⟩) hS (fun H locs hw hS ho2b => ?_)
  refine lv_if_ne (tgt := 16) hx hb dX6_dirt_11 (by decide) (fun c3 => ?_) (fun c3 => ?_)
  · have hf := iq c3 hf
    refine lv_aload_n hx hb dX6_dirt_16 rfl (lv_at hl 0 rfl) ?_
    refine rGet hx hb hts iX6_dirt_X6 hown hK hw (Nat.le_of_ble_eq_true rfl) en_model rfl 5 (by decide) (hts _ kX6_dirt_0) rfl rfl dX6_dirt_17 ?_
    refine lv_iload_n hx hb dX6_dirt_20 rfl (lv_at hl 1 rfl) ?_
    obtain ⟨hg4, hf⟩ := og hf
    refine rIald hx hb hK hw (Nat.le_of_ble_eq_true rfl) en_a81 hg4 dX6_dirt_21 ?_
    obtain rfl := Option.some.inj hf
    exact rIret hx hb hr hlocks hw hS dX6_dirt_22
  · have hf := ip c3 hf
    refine lv_iconst (v := (0 : Int32)) hx hb dX6_dirt_14 (by decide) ?_
    obtain rfl := Option.some.inj hf
    exact rIret hx hb hr hlocks hw hS dX6_dirt_15
set_option maxRecDepth 100000 in
set_option maxHeartbeats 4000000 in
theorem ctX6_dirt {l : Launch} {D : va_G} {cy : Nat → ClassId} {a : Nat} {x1 : Int32} {M : Mm} {out : Int32 × Mm} (hf : fX6_dirt x1 M = some out) : Met l yX6_dirt wsX6_dirt rX6_dirt (Pre D cy a M [.ref (a + 77), .int x1]) (QI D cy a out.1 out.2) 0 0 (Aq a) := by
  refine Met.ofW (cc := cX6_dirt) (maxL := 2) (ret := (some .int)) (by decide +kernel) rfl ?_
  intro p e s m args below meth c s₁ B hml hv
  obtain ⟨rfl, hw, hK, hZ⟩ := hv
  have hS : va_S (Aq a) s.heap s.heap [] := va_S.rf
  have hl := lv_entry ([.ref (a + 77), .int x1]) (n := 2) (Nat.le_of_ble_eq_true rfl)
  rw [lg_entry_eq]
  generalize (lg_sl ([.ref (a + 77), .int x1]) ++ List.replicate (2 - (lg_sl ([.ref (a + 77), .int x1])).length) Slot.unset).toArray = ls at hl ⊢
  exact bX6_dirt_0 B.exec B.bytes B.returns hml (findClass_of_methodNamed B.named) (atoms_spec (ws := wsX6_dirt) B.pre) B.notSynchronized hK hZ _ _ _ _ _ hw hS hl hf
def rX6_waits : Room := { frames := 0, cells := 0, slots := 0, locals := 0 }
noncomputable def fX6_waits_L4 : Nat → Int32 → Int32 → Int32 → Mm → Option (Int32)
  | 0 => fun _ _ _ _ => none
  | n + 1 => fun x1 x2 x3 M => (if (gi M 77 12) ≤ x3 then some (x2) else (if ¬ (x3 < 0 ∨ 40 ≤ x3.toNatClampNeg) then (if (gi M 86 x3.toNatClampNeg) = x1 then (if ¬ (x3 < 0 ∨ 40 ≤ x3.toNatClampNeg) then (if ¬ (x3 < 0 ∨ 40 ≤ x3.toNatClampNeg) then (fX6_waits_L4 n) x1 (x2 + ((gi M 88 x3.toNatClampNeg) - (gi M 89 x3.toNatClampNeg))) (x3 + (1 : Int32)) M else none) else none) else (fX6_waits_L4 n) x1 (x2 + (0 : Int32)) (x3 + (1 : Int32)) M) else none))
noncomputable def fX6_waits (x1 : Int32) (M : Mm) : Option (Int32) := fX6_waits_L4 400 x1 (0 : Int32) (1 : Int32) M
set_option maxRecDepth 20000 in
theorem iX6_waits_X6 : ∀ w ∈ wsX60, w ∈ wsX6_waits := by decide +kernel
set_option maxRecDepth 20000 in
theorem kX6_waits_0 : Cond.fieldLink RX6 34 "BatchPipeModel" "batches" "I" ∈ wsX6_waits := by decide +kernel
set_option maxRecDepth 20000 in
theorem kX6_waits_1 : Cond.fieldLink RX6 38 "BatchPipeModel" "shipper" "[I" ∈ wsX6_waits := by decide +kernel
set_option maxRecDepth 20000 in
theorem kX6_waits_2 : Cond.fieldLink RX6 44 "BatchPipeModel" "ordered" "[I" ∈ wsX6_waits := by decide +kernel
set_option maxRecDepth 20000 in
theorem kX6_waits_3 : Cond.fieldLink RX6 47 "BatchPipeModel" "entered" "[I" ∈ wsX6_waits := by decide +kernel
set_option maxRecDepth 100000 in
set_option maxHeartbeats 4000000 in
theorem bX6_waits_4 {p : Program} {l : Launch} {e : Env} {s : State} {m : MethodId} {args : Array Value} {below : List Frame} {meth : Method} {c : Code} {D : va_G} {cy : Nat → ClassId} {a : Nat} (hx : p.tables.exec = Jvm.exec) (hb : c.code = cX6_waits) (hr : meth.sig.returnType = (some .int)) (hml : c.maxLocals = 4) (hown : s.vm.findClass RX6 = some m.cls) (hts : ∀ w ∈ wsX6_waits, w.before args s = true) (hlocks : meth.locks = false) (hK : KS D cy s) (hZ : ZZ a s s.heap) {out : Int32} : ∀ (n : Nat), ∀ (x1 : Int32) (x2 : Int32) (x3 : Int32) (M : Mm) (H : Heap) (locs : List Loc) (ls : Array Slot), HP D cy a M H → va_S (Aq a) s.heap H locs → lv_has ls 4 [(0, .ref (a + 77)), (1, .int x1), (2, .int x2), (3, .int x3)] → fX6_waits_L4 n x1 x2 x3 M = some out → W p l e rX6_waits s m args below meth c H locs 0 0 (MQ below (QI D cy a out M) args s 0 0 (Aq a)) (F0 m 4 ls []) := by
  intro n
  induction n with
  | zero =>
    intro x1 x2 x3 M H locs ls hw hS hl hf
    have hf : (none : Option (Int32)) = some out := hf
    cases hf
  | succ n ih =>
    intro x1 x2 x3 M H locs ls hw hS hl hf
    unfold fX6_waits_L4 at hf
    refine lv_iload_n hx hb dX6_waits_4 rfl (lv_at hl 3 rfl) ?_
    refine lv_aload_n hx hb dX6_waits_5 rfl (lv_at hl 0 rfl) ?_
    refine rGetI hx hb hts iX6_waits_X6 hown hK hw (Nat.le_of_ble_eq_true rfl) en_model rfl 12 (by decide) (hts _ kX6_waits_0) rfl ge6_12 dX6_waits_6 ?_
    refine lv_icmp_ge (tgt := 48) hx hb dX6_waits_9 (by decide) (fun c1 => ?_) (fun c1 => ?_)
    · have hf := ip c1 hf
      refine lv_iload_n hx hb dX6_waits_48 rfl (lv_at hl 2 rfl) ?_
      obtain rfl := Option.some.inj hf
      exact rIret hx hb hr hlocks hw hS dX6_waits_49
    · have hf := iq c1 hf
      refine lv_iload_n hx hb dX6_waits_12 rfl (lv_at hl 2 rfl) ?_
      refine lv_aload_n hx hb dX6_waits_13 rfl (lv_at hl 0 rfl) ?_
      refine rGet hx hb hts iX6_waits_X6 hown hK hw (Nat.le_of_ble_eq_true rfl) en_model rfl 13 (by decide) (hts _ kX6_waits_1) rfl rfl dX6_waits_14 ?_
      refine lv_iload_n hx hb dX6_waits_17 rfl (lv_at hl 3 rfl) ?_
      obtain ⟨hg2, hf⟩ := og hf
      refine rIald hx hb hK hw (Nat.le_of_ble_eq_true rfl) en_a86 hg2 dX6_waits_18 ?_
      refine lv_iload_n hx hb dX6_waits_19 rfl (lv_at hl 1 rfl) ?_
      refine lv_icmp_ne (tgt := 39) hx hb dX6_waits_20 (by decide) (fun c3 => ?_) (fun c3 => ?_)
      · have hf := iq c3 hf
        refine lv_iconst (v := (0 : Int32)) hx hb dX6_waits_39 (by decide) ?_
        refine lv_iadd hx hb dX6_waits_40 ?_
        refine lv_istore_n (lv' := [(2, .int (x2 + (0 : Int32))), (0, .ref (a + 77)), (1, .int x1), (3, .int x3)]) hx hb dX6_waits_41 rfl hl (Nat.le_of_ble_eq_true rfl) rfl (fun ls hl => ?_)
        refine lv_iinc (v := x3 + (1 : Int32)) (lv' := [(3, .int (x3 + (1 : Int32))), (2, .int (x2 + (0 : Int32))), (0, .ref (a + 77)), (1, .int x1)]) hx hb dX6_waits_42 hl (k := 3) rfl rfl (Nat.le_of_ble_eq_true rfl) rfl (fun ls hl => ?_)
        refine lv_goto (tgt := 4) hx hb dX6_waits_45 (by decide) ?_
        exact ih _ _ _ _ _ _ _ hw hS (lv_sub hl [2, 3, 1, 0] rfl) hf
      · have hf := ip c3 hf
        refine lv_aload_n hx hb dX6_waits_23 rfl (lv_at hl 0 rfl) ?_
        refine rGet hx hb hts iX6_waits_X6 hown hK hw (Nat.le_of_ble_eq_true rfl) en_model rfl 15 (by decide) (hts _ kX6_waits_2) rfl rfl dX6_waits_24 ?_
        refine lv_iload_n hx hb dX6_waits_27 rfl (lv_at hl 3 rfl) ?_
        obtain ⟨hg4, hf⟩ := og hf
        refine rIald hx hb hK hw (Nat.le_of_ble_eq_true rfl) en_a88 hg4 dX6_waits_28 ?_
        refine lv_aload_n hx hb dX6_waits_29 rfl (lv_at hl 0 rfl) ?_
        refine rGet hx hb hts iX6_waits_X6 hown hK hw (Nat.le_of_ble_eq_true rfl) en_model rfl 16 (by decide) (hts _ kX6_waits_3) rfl rfl dX6_waits_30 ?_
        refine lv_iload_n hx hb dX6_waits_33 rfl (lv_at hl 3 rfl) ?_
        obtain ⟨hg5, hf⟩ := og hf
        refine rIald hx hb hK hw (Nat.le_of_ble_eq_true rfl) en_a89 hg5 dX6_waits_34 ?_
        refine lv_isub hx hb dX6_waits_35 ?_
        refine lv_goto (tgt := 40) hx hb dX6_waits_36 (by decide) ?_
        refine lv_iadd hx hb dX6_waits_40 ?_
        refine lv_istore_n (lv' := [(2, .int (x2 + ((gi M 88 x3.toNatClampNeg) - (gi M 89 x3.toNatClampNeg)))), (0, .ref (a + 77)), (1, .int x1), (3, .int x3)]) hx hb dX6_waits_41 rfl hl (Nat.le_of_ble_eq_true rfl) rfl (fun ls hl => ?_)
        refine lv_iinc (v := x3 + (1 : Int32)) (lv' := [(3, .int (x3 + (1 : Int32))), (2, .int (x2 + ((gi M 88 x3.toNatClampNeg) - (gi M 89 x3.toNatClampNeg)))), (0, .ref (a + 77)), (1, .int x1)]) hx hb dX6_waits_42 hl (k := 3) rfl rfl (Nat.le_of_ble_eq_true rfl) rfl (fun ls hl => ?_)
        refine lv_goto (tgt := 4) hx hb dX6_waits_45 (by decide) ?_
        exact ih _ _ _ _ _ _ _ hw hS (lv_sub hl [2, 3, 1, 0] rfl) hf
set_option maxRecDepth 100000 in
set_option maxHeartbeats 4000000 in
theorem bX6_waits_0 {p : Program} {l : Launch} {e : Env} {s : State} {m : MethodId} {args : Array Value} {below : List Frame} {meth : Method} {c : Code} {D : va_G} {cy : Nat → ClassId} {a : Nat} (hx : p.tables.exec = Jvm.exec) (hb : c.code = cX6_waits) (hr : meth.sig.returnType = (some .int)) (hml : c.maxLocals = 4) (hown : s.vm.findClass RX6 = some m.cls) (hts : ∀ w ∈ wsX6_waits, w.before args s = true) (hlocks : meth.locks = false) (hK : KS D cy s) (hZ : ZZ a s s.heap) {out : Int32} : ∀ (x1 : Int32) (M : Mm) (H : Heap) (locs : List Loc) (ls : Array Slot), HP D cy a M H → va_S (Aq a) s.heap H locs → lv_has ls 4 [(0, .ref (a + 77)), (1, .int x1)] → fX6_waits x1 M = some out → W p l e rX6_waits s m args below meth c H locs 0 0 (MQ below (QI D cy a out M) args s 0 0 (Aq a)) (F0 m 0 ls []) := by
  intro x1 M H locs ls hw hS hl hf
  unfold fX6_waits at hf
  refine lv_iconst (v := (0 : Int32)) hx hb dX6_waits_0 (by decide) ?_
  refine lv_istore_n (lv' := [(2, .int (0 : Int32)), (0, .ref (a + 77)), (1, .int x1)]) hx hb dX6_waits_1 rfl hl (Nat.le_of_ble_eq_true rfl) rfl (fun ls hl => ?_)
  refine lv_iconst (v := (1 : Int32)) hx hb dX6_waits_2 (by decide) ?_
  refine lv_istore_n (lv' := [(3, .int (1 : Int32)), (2, .int (0 : Int32)), (0, .ref (a + 77)), (1, .int x1)]) hx hb dX6_waits_3 rfl hl (Nat.le_of_ble_eq_true rfl) rfl (fun ls hl => ?_)
  exact bX6_waits_4 hx hb hr hml hown hts hlocks hK hZ 400 _ _ _ _ _ _ _ hw hS (lv_sub hl [2, 3, 1, 0] rfl) hf
set_option maxRecDepth 100000 in
set_option maxHeartbeats 4000000 in
theorem ctX6_waits {l : Launch} {D : va_G} {cy : Nat → ClassId} {a : Nat} {x1 : Int32} {M : Mm} {out : Int32} (hf : fX6_waits x1 M = some out) : Met l yX6_waits wsX6_waits rX6_waits (Pre D cy a M [.ref (a + 77), .int x1]) (QI D cy a out M) 0 0 (Aq a) := by
  refine Met.ofW (cc := cX6_waits) (maxL := 4) (ret := (some .int)) (by decide +kernel) rfl ?_
  intro p e s m args below meth c s₁ B hml hv
  obtain ⟨rfl, hw, hK, hZ⟩ := hv
  have hS : va_S (Aq a) s.heap s.heap [] := va_S.rf
  have hl := lv_entry ([.ref (a + 77), .int x1]) (n := 4) (Nat.le_of_ble_eq_true rfl)
  rw [lg_entry_eq]
  generalize (lg_sl ([.ref (a + 77), .int x1]) ++ List.replicate (4 - (lg_sl ([.ref (a + 77), .int x1])).length) Slot.unset).toArray = ls at hl ⊢
  exact bX6_waits_0 B.exec B.bytes B.returns hml (findClass_of_methodNamed B.named) (atoms_spec (ws := wsX6_waits) B.pre) B.notSynchronized hK hZ _ _ _ _ _ hw hS hl hf
def rX6_enteredOf : Room := { frames := 0, cells := 0, slots := 0, locals := 0 }
noncomputable def fX6_enteredOf_L4 : Nat → Int32 → Int32 → Int32 → Mm → Option (Int32)
  | 0 => fun _ _ _ _ => none
  | n + 1 => fun x1 x2 x3 M => (if (gi M 77 12) ≤ x3 then some (x2) else (if ¬ (x3 < 0 ∨ 40 ≤ x3.toNatClampNeg) then (if (gi M 86 x3.toNatClampNeg) = x1 then (if ¬ (x3 < 0 ∨ 40 ≤ x3.toNatClampNeg) then (fX6_enteredOf_L4 n) x1 (x2 + (gi M 89 x3.toNatClampNeg)) (x3 + (1 : Int32)) M else none) else (fX6_enteredOf_L4 n) x1 (x2 + (0 : Int32)) (x3 + (1 : Int32)) M) else none))
noncomputable def fX6_enteredOf (x1 : Int32) (M : Mm) : Option (Int32) := fX6_enteredOf_L4 400 x1 (0 : Int32) (1 : Int32) M
set_option maxRecDepth 20000 in
theorem iX6_enteredOf_X6 : ∀ w ∈ wsX60, w ∈ wsX6_enteredOf := by decide +kernel
set_option maxRecDepth 20000 in
theorem kX6_enteredOf_0 : Cond.fieldLink RX6 34 "BatchPipeModel" "batches" "I" ∈ wsX6_enteredOf := by decide +kernel
set_option maxRecDepth 20000 in
theorem kX6_enteredOf_1 : Cond.fieldLink RX6 38 "BatchPipeModel" "shipper" "[I" ∈ wsX6_enteredOf := by decide +kernel
set_option maxRecDepth 20000 in
theorem kX6_enteredOf_2 : Cond.fieldLink RX6 47 "BatchPipeModel" "entered" "[I" ∈ wsX6_enteredOf := by decide +kernel
set_option maxRecDepth 100000 in
set_option maxHeartbeats 4000000 in
theorem bX6_enteredOf_4 {p : Program} {l : Launch} {e : Env} {s : State} {m : MethodId} {args : Array Value} {below : List Frame} {meth : Method} {c : Code} {D : va_G} {cy : Nat → ClassId} {a : Nat} (hx : p.tables.exec = Jvm.exec) (hb : c.code = cX6_enteredOf) (hr : meth.sig.returnType = (some .int)) (hml : c.maxLocals = 4) (hown : s.vm.findClass RX6 = some m.cls) (hts : ∀ w ∈ wsX6_enteredOf, w.before args s = true) (hlocks : meth.locks = false) (hK : KS D cy s) (hZ : ZZ a s s.heap) {out : Int32} : ∀ (n : Nat), ∀ (x1 : Int32) (x2 : Int32) (x3 : Int32) (M : Mm) (H : Heap) (locs : List Loc) (ls : Array Slot), HP D cy a M H → va_S (Aq a) s.heap H locs → lv_has ls 4 [(0, .ref (a + 77)), (1, .int x1), (2, .int x2), (3, .int x3)] → fX6_enteredOf_L4 n x1 x2 x3 M = some out → W p l e rX6_enteredOf s m args below meth c H locs 0 0 (MQ below (QI D cy a out M) args s 0 0 (Aq a)) (F0 m 4 ls []) := by
  intro n
  induction n with
  | zero =>
    intro x1 x2 x3 M H locs ls hw hS hl hf
    have hf : (none : Option (Int32)) = some out := hf
    cases hf
  | succ n ih =>
    intro x1 x2 x3 M H locs ls hw hS hl hf
    unfold fX6_enteredOf_L4 at hf
    refine lv_iload_n hx hb dX6_enteredOf_4 rfl (lv_at hl 3 rfl) ?_
    refine lv_aload_n hx hb dX6_enteredOf_5 rfl (lv_at hl 0 rfl) ?_
    refine rGetI hx hb hts iX6_enteredOf_X6 hown hK hw (Nat.le_of_ble_eq_true rfl) en_model rfl 12 (by decide) (hts _ kX6_enteredOf_0) rfl ge6_12 dX6_enteredOf_6 ?_
    refine lv_icmp_ge (tgt := 41) hx hb dX6_enteredOf_9 (by decide) (fun c1 => ?_) (fun c1 => ?_)
    · have hf := ip c1 hf
      refine lv_iload_n hx hb dX6_enteredOf_41 rfl (lv_at hl 2 rfl) ?_
      obtain rfl := Option.some.inj hf
      exact rIret hx hb hr hlocks hw hS dX6_enteredOf_42
    · have hf := iq c1 hf
      refine lv_iload_n hx hb dX6_enteredOf_12 rfl (lv_at hl 2 rfl) ?_
      refine lv_aload_n hx hb dX6_enteredOf_13 rfl (lv_at hl 0 rfl) ?_
      refine rGet hx hb hts iX6_enteredOf_X6 hown hK hw (Nat.le_of_ble_eq_true rfl) en_model rfl 13 (by decide) (hts _ kX6_enteredOf_1) rfl rfl dX6_enteredOf_14 ?_
      refine lv_iload_n hx hb dX6_enteredOf_17 rfl (lv_at hl 3 rfl) ?_
      obtain ⟨hg2, hf⟩ := og hf
      refine rIald hx hb hK hw (Nat.le_of_ble_eq_true rfl) en_a86 hg2 dX6_enteredOf_18 ?_
      refine lv_iload_n hx hb dX6_enteredOf_19 rfl (lv_at hl 1 rfl) ?_
      refine lv_icmp_ne (tgt := 32) hx hb dX6_enteredOf_20 (by decide) (fun c3 => ?_) (fun c3 => ?_)
      · have hf := iq c3 hf
        refine lv_iconst (v := (0 : Int32)) hx hb dX6_enteredOf_32 (by decide) ?_
        refine lv_iadd hx hb dX6_enteredOf_33 ?_
        refine lv_istore_n (lv' := [(2, .int (x2 + (0 : Int32))), (0, .ref (a + 77)), (1, .int x1), (3, .int x3)]) hx hb dX6_enteredOf_34 rfl hl (Nat.le_of_ble_eq_true rfl) rfl (fun ls hl => ?_)
        refine lv_iinc (v := x3 + (1 : Int32)) (lv' := [(3, .int (x3 + (1 : Int32))), (2, .int (x2 + (0 : Int32))), (0, .ref (a + 77)), (1, .int x1)]) hx hb dX6_enteredOf_35 hl (k := 3) rfl rfl (Nat.le_of_ble_eq_true rfl) rfl (fun ls hl => ?_)
        refine lv_goto (tgt := 4) hx hb dX6_enteredOf_38 (by decide) ?_
        exact ih _ _ _ _ _ _ _ hw hS (lv_sub hl [2, 3, 1, 0] rfl) hf
      · have hf := ip c3 hf
        refine lv_aload_n hx hb dX6_enteredOf_23 rfl (lv_at hl 0 rfl) ?_
        refine rGet hx hb hts iX6_enteredOf_X6 hown hK hw (Nat.le_of_ble_eq_true rfl) en_model rfl 16 (by decide) (hts _ kX6_enteredOf_2) rfl rfl dX6_enteredOf_24 ?_
        refine lv_iload_n hx hb dX6_enteredOf_27 rfl (lv_at hl 3 rfl) ?_
        obtain ⟨hg4, hf⟩ := og hf
        refine rIald hx hb hK hw (Nat.le_of_ble_eq_true rfl) en_a89 hg4 dX6_enteredOf_28 ?_
        refine lv_goto (tgt := 33) hx hb dX6_enteredOf_29 (by decide) ?_
        refine lv_iadd hx hb dX6_enteredOf_33 ?_
        refine lv_istore_n (lv' := [(2, .int (x2 + (gi M 89 x3.toNatClampNeg))), (0, .ref (a + 77)), (1, .int x1), (3, .int x3)]) hx hb dX6_enteredOf_34 rfl hl (Nat.le_of_ble_eq_true rfl) rfl (fun ls hl => ?_)
        refine lv_iinc (v := x3 + (1 : Int32)) (lv' := [(3, .int (x3 + (1 : Int32))), (2, .int (x2 + (gi M 89 x3.toNatClampNeg))), (0, .ref (a + 77)), (1, .int x1)]) hx hb dX6_enteredOf_35 hl (k := 3) rfl rfl (Nat.le_of_ble_eq_true rfl) rfl (fun ls hl => ?_)
        refine lv_goto (tgt := 4) hx hb dX6_enteredOf_38 (by decide) ?_
        exact ih _ _ _ _ _ _ _ hw hS (lv_sub hl [2, 3, 1, 0] rfl) hf
set_option maxRecDepth 100000 in
set_option maxHeartbeats 4000000 in
theorem bX6_enteredOf_0 {p : Program} {l : Launch} {e : Env} {s : State} {m : MethodId} {args : Array Value} {below : List Frame} {meth : Method} {c : Code} {D : va_G} {cy : Nat → ClassId} {a : Nat} (hx : p.tables.exec = Jvm.exec) (hb : c.code = cX6_enteredOf) (hr : meth.sig.returnType = (some .int)) (hml : c.maxLocals = 4) (hown : s.vm.findClass RX6 = some m.cls) (hts : ∀ w ∈ wsX6_enteredOf, w.before args s = true) (hlocks : meth.locks = false) (hK : KS D cy s) (hZ : ZZ a s s.heap) {out : Int32} : ∀ (x1 : Int32) (M : Mm) (H : Heap) (locs : List Loc) (ls : Array Slot), HP D cy a M H → va_S (Aq a) s.heap H locs → lv_has ls 4 [(0, .ref (a + 77)), (1, .int x1)] → fX6_enteredOf x1 M = some out → W p l e rX6_enteredOf s m args below meth c H locs 0 0 (MQ below (QI D cy a out M) args s 0 0 (Aq a)) (F0 m 0 ls []) := by
  intro x1 M H locs ls hw hS hl hf
  unfold fX6_enteredOf at hf
  refine lv_iconst (v := (0 : Int32)) hx hb dX6_enteredOf_0 (by decide) ?_
  refine lv_istore_n (lv' := [(2, .int (0 : Int32)), (0, .ref (a + 77)), (1, .int x1)]) hx hb dX6_enteredOf_1 rfl hl (Nat.le_of_ble_eq_true rfl) rfl (fun ls hl => ?_)
  refine lv_iconst (v := (1 : Int32)) hx hb dX6_enteredOf_2 (by decide) ?_
  refine lv_istore_n (lv' := [(3, .int (1 : Int32)), (2, .int (0 : Int32)), (0, .ref (a + 77)), (1, .int x1)]) hx hb dX6_enteredOf_3 rfl hl (Nat.le_of_ble_eq_true rfl) rfl (fun ls hl => ?_)
  exact bX6_enteredOf_4 hx hb hr hml hown hts hlocks hK hZ 400 _ _ _ _ _ _ _ hw hS (lv_sub hl [2, 3, 1, 0] rfl) hf
set_option maxRecDepth 100000 in
set_option maxHeartbeats 4000000 in
theorem ctX6_enteredOf {l : Launch} {D : va_G} {cy : Nat → ClassId} {a : Nat} {x1 : Int32} {M : Mm} {out : Int32} (hf : fX6_enteredOf x1 M = some out) : Met l yX6_enteredOf wsX6_enteredOf rX6_enteredOf (Pre D cy a M [.ref (a + 77), .int x1]) (QI D cy a out M) 0 0 (Aq a) := by
  refine Met.ofW (cc := cX6_enteredOf) (maxL := 4) (ret := (some .int)) (by decide +kernel) rfl ?_
  intro p e s m args below meth c s₁ B hml hv
  obtain ⟨rfl, hw, hK, hZ⟩ := hv
  have hS : va_S (Aq a) s.heap s.heap [] := va_S.rf
  have hl := lv_entry ([.ref (a + 77), .int x1]) (n := 4) (Nat.le_of_ble_eq_true rfl)
  rw [lg_entry_eq]
  generalize (lg_sl ([.ref (a + 77), .int x1]) ++ List.replicate (4 - (lg_sl ([.ref (a + 77), .int x1])).length) Slot.unset).toArray = ls at hl ⊢
  exact bX6_enteredOf_0 B.exec B.bytes B.returns hml (findClass_of_methodNamed B.named) (atoms_spec (ws := wsX6_enteredOf) B.pre) B.notSynchronized hK hZ _ _ _ _ _ hw hS hl hf
