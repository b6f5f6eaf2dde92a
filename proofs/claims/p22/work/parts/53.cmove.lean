/-! THE CLASS'S FUNCTIONS THAT MOVE A UNIT -/
theorem si_1 {M : Mm} {k j k' : Nat} {x : Int32} (h : k' ≠ k) : (si M k j x).1 k' = M.1 k' := by
  unfold si; dsimp only; rw [if_neg h]
theorem si_2 {M : Mm} {k j : Nat} {x : Int32} : (si M k j x).2 = M.2 := rfl
theorem sr_1 {M : Mm} {k j : Nat} {x : Option Nat} : (sr M k j x).1 = M.1 := rfl
theorem sr_2 {M : Mm} {k j k' : Nat} {x : Option Nat} (h : k' ≠ k) : (sr M k j x).2 k' = M.2 k' := by
  unfold sr; dsimp only; rw [if_neg h]
theorem gi_1 {M M' : Mm} {k : Nat} (h : M'.1 k = M.1 k) (j : Nat) : gi M' k j = gi M k j := by unfold gi; rw [h]
theorem gr_2 {M M' : Mm} {k : Nat} (h : M'.2 k = M.2 k) (j : Nat) : gr M' k j = gr M k j := by unfold gr; rw [h]
/-- all but the rows of S stay -/
def Fr (S : Nat → Prop) (M M' : Mm) : Prop := ∀ k, ¬ S k → M'.1 k = M.1 k ∧ M'.2 k = M.2 k
theorem Fr.rf {S : Nat → Prop} {M : Mm} : Fr S M M := fun _ _ => ⟨rfl, rfl⟩
theorem Fr.tr {S : Nat → Prop} {M M' M'' : Mm} (h : Fr S M M') (h' : Fr S M' M'') : Fr S M M'' := fun k hk => ⟨(h' k hk).1.trans (h k hk).1, (h' k hk).2.trans (h k hk).2⟩
theorem Fr.mono {S S' : Nat → Prop} {M M' : Mm} (h : Fr S M M') (hs : ∀ k, S k → S' k) : Fr S' M M' := fun k hk => h k (fun z => hk (hs k z))
theorem Fr.si {S : Nat → Prop} {M M' : Mm} (h : Fr S M M') {k j : Nat} {x : Int32} (hk : S k) : Fr S M (si M' k j x) := fun i hi => ⟨(si_1 (fun e => hi (by rw [e]; exact hk))).trans (h i hi).1, (h i hi).2⟩
theorem Fr.sr {S : Nat → Prop} {M M' : Mm} (h : Fr S M M') {k j : Nat} {x : Option Nat} (hk : S k) : Fr S M (sr M' k j x) := fun i hi => ⟨(h i hi).1, (sr_2 (fun e => hi (by rw [e]; exact hk))).trans (h i hi).2⟩
theorem Fr.gi {S : Nat → Prop} {M M' : Mm} (h : Fr S M M') {k : Nat} (hk : ¬ S k) (j : Nat) : gi M' k j = gi M k j := gi_1 (h k hk).1 j
theorem Fr.gr {S : Nat → Prop} {M M' : Mm} (h : Fr S M M') {k : Nat} (hk : ¬ S k) (j : Nat) : gr M' k j = gr M k j := gr_2 (h k hk).2 j
theorem us_f {σ : Sp} {f i v f' : Nat} (h : f' ≠ f) : us σ f i v f' = σ f' := by
  funext i'
  exact us_ne (fun z => h z.1)
theorem C_root_L {n : Nat} {M : Mm} (hn : n < 65025) : ∀ (k fu r : Nat), k < fu → r * r ≤ n → n < (r + 2 * 2 ^ k) * (r + 2 * 2 ^ k) → r + 2 * 2 ^ k ≤ 256 → fX5_wholeRoot_L6 (fu + 1) (nI n) (nI r) (nI (2 ^ k)) M = some (nI (isq n))
  | k, 0, r, h0, h1, h2, h3 => by omega
  | k, fu + 1, r, h0, h1, h2, h3 => by
    have hp : 0 < 2 ^ k := Nat.two_pow_pos k
    have hq : (r + 2 ^ k) * (r + 2 ^ k) ≤ 256 * 256 := Nat.mul_le_mul (by omega) (by omega)
    rw [fX5_wholeRoot_L6]
    simp (disch := omega) only [cLt, cLe, cEq, cCl, cAdd, cMul, cMl, cMe, cMle, cMm, Lt0, Lt1, Lt2, Lt3, Lt4, Lt5, Lt6, Lt7, Lt8, Lt9, Lt10, Lt31, Lt40, Lt50, Lt60, Lt63, Lt99, Lt100, Lt128, Lt200, Lt360, Lt500, Lt512, Lt9999, Lm, cDiv, if_neg]
    have fin : ∀ r', r' * r' ≤ n → n < (r' + 2 ^ k) * (r' + 2 ^ k) → r' + 2 ^ k ≤ 256 → fX5_wholeRoot_L6 (fu + 1) (nI n) (nI r') (nI (2 ^ k / 2)) M = some (nI (isq n)) := by
      intro r' g1 g2 g3
      cases k with
      | zero =>
        rw [fX5_wholeRoot_L6, show (2 ^ 0 / 2 : Nat) = 0 from rfl]
        dsimp only
        rw [if_pos (show nI 0 ≤ 0 by decide), isq_un hn g1 g2]
      | succ k =>
        have e : 2 ^ (k + 1) / 2 = 2 ^ k := by rw [Nat.pow_succ]; omega
        have e2 : 2 ^ (k + 1) = 2 * 2 ^ k := by rw [Nat.pow_succ]; omega
        rw [e2] at g2 g3
        rw [e]
        exact C_root_L hn k fu r' (by omega) g1 g2 g3
    by_cases c : n < (r + 2 ^ k) * (r + 2 ^ k)
    · rw [if_pos c]
      exact fin r h1 c (by omega)
    · rw [if_neg c]
      refine fin (r + 2 ^ k) (by omega) ?_ (by omega)
      rw [show r + 2 ^ k + 2 ^ k = r + 2 * 2 ^ k by omega]
      exact h2
theorem C_root {n : Nat} {M : Mm} (hn : n < 65025) : fX5_wholeRoot (nI n) M = some (nI (isq n)) := by
  unfold fX5_wholeRoot
  exact C_root_L hn 7 399 0 (by omega) (by omega) (by omega) (by omega)
/-- what the mixes need -/
def WM (σ : Sp) : Prop := NB σ ≤ 40 ∧ ALL σ ≤ 7800 ∧ (∀ b, b < 40 → (AHD σ b ≠ 0 → AHD σ b - 1 < NB σ) ∧ (BHD σ b ≠ 0 → BHD σ b - 1 < NB σ) ∧ EBF σ b ≤ ALL σ ∧ KEP σ b ≤ 255 ∧ FG σ b ≤ 1 ∧ ENT σ b ≤ 360) ∧ ∀ b, b < NB σ → PRD σ b < 6
theorem WF_WM {σ : Sp} (hW : WF σ) : WM σ := by
  obtain ⟨hA, -, -, -, hB, -, hC, -, hL, -⟩ := hW
  refine ⟨hA.2.2.1, hA.2.2.2.2.2.2.2.2.2.1, fun b hb => ?_, fun b hb => (hB.1 b hb).1⟩
  obtain ⟨w1, w2, w3, w4, w5, w6⟩ := hB.2 b hb
  refine ⟨fun h => ?_, fun h => ?_, w3, w4, w5, w2⟩
  · rcases (show OPN σ = 0 ∨ OPN σ = 1 by have := hA.2.2.2.1; omega) with z | z
    · exact absurd ((hC z).2.2.2.2.1 b hb).2.1 h
    · exact ((hL z).2.2.2.1 b (AHD σ b - 1) hb (by omega)).1
  · rcases (show OPN σ = 0 ∨ OPN σ = 1 by have := hA.2.2.2.1; omega) with z | z
    · exact absurd ((hC z).2.2.2.2.1 b hb).2.2.1 h
    · exact ((hL z).2.2.2.2.1 b (BHD σ b - 1) hb (by omega)).1
theorem op1_0 : op1 0 = none := rfl
theorem op1_p {n : Nat} (h : n ≠ 0) : op1 n = some (n - 1) := by unfold op1; rw [if_neg h]
theorem mix_le {σ : Sp} (hM : WM σ) {b : Nat} (hb : b < 40) : mix σ b ≤ 255 := by
  unfold mix
  split
  · omega
  · split
    · omega
    · split
      · exact isq_le _
      · exact (hM.2.2.1 b hb).2.2.2.1
theorem C_mixOf {σ : Sp} {M : Mm} (hP : EP σ M) (h1 : EB1 σ M) (h2 : EB2 σ M) (h3 : EB3 σ M) (hM : WM σ) {b : Nat} (hb : b < NB σ) : fX5_mixOf b M = some (nI (mix σ b)) := by
  obtain ⟨m1, m2, m3, m4⟩ := id hM
  obtain ⟨w1, w2, w3, w4, w5, w6⟩ := m3 b (by omega)
  obtain ⟨e8, e9, e10, e12⟩ := h2 b (by omega)
  obtain ⟨-, -, -, -, -, e11⟩ := h1 b (by omega)
  obtain ⟨-, f1, -⟩ := h3 b hb
  unfold fX5_mixOf
  rw [if_pos (by omega), e8]
  by_cases c : AHD σ b = 0
  · rw [c, op1_0, if_pos rfl]
    unfold mix
    rw [if_pos c]
    rfl
  · have hc := w1 c
    obtain ⟨-, f2, -⟩ := h3 _ hc
    have hm := mix_le hM (show b < 40 by omega)
    rw [op1_p c, if_neg (by simp), Option.bind_some, if_pos (by omega), f2, f1]
    unfold mix at hm ⊢
    rw [if_neg c] at hm ⊢
    by_cases c2 : PRD σ (AHD σ b - 1) = PRD σ b
    · rw [if_pos (by rw [c2]), if_pos c2]
      rfl
    · rw [if_neg (by simpa using c2), if_neg c2, e11]
      by_cases c3 : FG σ b = 0
      · rw [c3, if_pos (show nI 0 = 0 from rfl), if_pos rfl, hP.2.2.2.1, e10 c, cSub w3, C_root (by omega), Option.bind_some]
      · rw [if_neg c3, if_neg (show ¬ nI (FG σ b) = 0 by rw [Lt0, cEq (by omega) (by omega)]; exact c3), e12 (by omega)]
        unfold mix
        rw [if_neg c, if_neg c2, if_neg c3]
/-! what the cells hold stays, where neither its rows nor its numbers change -/
section Cong
variable {σ σ' : Sp} {M M' : Mm}
theorem off_c (h0 : NS σ' = NS σ) (h1 : σ' 1 = σ 1) (s : Nat) : off σ' s = off σ s := by
  unfold off
  rw [h0]
  show sm (σ' 1) _ _ = sm (σ 1) _ _
  rw [h1]
theorem rix_c (h1 : σ' 1 = σ 1) (h28 : σ' 28 = σ 28) (i j : Nat) : rix σ' i j = rix σ i j := by
  unfold rix LA HOL
  rw [h1, h28]
theorem cnt_c (h0 : NS σ' = NS σ) (h1 : σ' 1 = σ 1) (h10 : σ' 10 = σ 10) (h21 : σ' 21 = σ 21) (s p : Nat) : cnt σ' s p = cnt σ s p := by
  unfold cnt
  rw [off_c h0 h1]
  unfold PRD UB HOL
  rw [h1, h10, h21]
theorem mix_c (h4 : ALL σ' = ALL σ) (h10 : σ' 10 = σ 10) (h16 : σ' 16 = σ 16) (h18 : σ' 18 = σ 18) (b : Nat) (h19 : FG σ' b = FG σ b) (h20 : KEP σ' b = KEP σ b) : mix σ' b = mix σ b := by
  unfold mix
  rw [h4, h19, h20]
  unfold AHD PRD EBF
  rw [h10, h16, h18]
theorem EP_c (hM : M'.1 0 = M.1 0) (hG : M'.2 0 = M.2 0) (h : ∀ i, i < 9 → σ' 0 i = σ 0 i) (hE : EP σ M) : EP σ' M' := by
  unfold EP at hE ⊢
  simp only [gi_1 hM, gr_2 hG, NS, NB, OPN, INL, ALL, RT, RF, MIN, PIG, h 0 (by omega), h 1 (by omega), h 2 (by omega), h 3 (by omega), h 4 (by omega), h 5 (by omega), h 6 (by omega), h 7 (by omega), h 8 (by omega)]
  exact hE
theorem ET_c {l d o : Nat} (hM : ∀ t, t < 3 → M'.1 (6 + t) = M.1 (6 + t)) (h : ∀ i, i ≠ 8 → i ≠ 3 → i ≠ 4 → i ≠ 6 → i ≠ 7 → i ≠ 1 → i ≠ 5 → σ' 0 i = σ 0 i) (hE : ET σ l d o M) : ET σ' l d o M' := by
  unfold ET at hE ⊢
  simp only [gi_1 (hM 0 (by omega)), gi_1 (hM 1 (by omega)), gi_1 (hM 2 (by omega)), NS, OPN, LK, LKU, DR, DRU, DRT, RCV, h 0 (by omega) (by omega) (by omega) (by omega) (by omega) (by omega) (by omega), h 2 (by omega) (by omega) (by omega) (by omega) (by omega) (by omega) (by omega), h 9 (by omega) (by omega) (by omega) (by omega) (by omega) (by omega) (by omega), h 10 (by omega) (by omega) (by omega) (by omega) (by omega) (by omega) (by omega), h 11 (by omega) (by omega) (by omega) (by omega) (by omega) (by omega) (by omega), h 12 (by omega) (by omega) (by omega) (by omega) (by omega) (by omega) (by omega), h 13 (by omega) (by omega) (by omega) (by omega) (by omega) (by omega) (by omega), h 14 (by omega) (by omega) (by omega) (by omega) (by omega) (by omega) (by omega)]
  exact hE
theorem ES_c (hM : ∀ i, i < 6 → M'.1 (9 + 3 * i) = M.1 (9 + 3 * i)) (h0 : NS σ' = NS σ) (h1 : σ' 1 = σ 1) (h2 : σ' 2 = σ 2) (h3 : σ' 3 = σ 3) (h4 : σ' 4 = σ 4) (h28 : σ' 28 = σ 28) (hE : ES σ M) : ES σ' M' := by
  intro i hi
  have := hE i hi
  rw [h0]
  unfold HOL HEI LIM DIR LA at this ⊢
  simp only [gi_1 (hM i hi), h1, h2, h3, h4, h28]
  exact this
theorem ER_c (hM : ∀ i, i < 6 → M'.1 (10 + 3 * i) = M.1 (10 + 3 * i)) (h6 : NS σ ≤ 6) (h0 : NS σ' = NS σ) (ho : OPN σ' = OPN σ) (h1 : σ' 1 = σ 1) (h21 : σ' 21 = σ 21) (h22 : σ' 22 = σ 22) (h28 : σ' 28 = σ 28) (hE : ER σ M) : ER σ' M' := by
  intro hop i hi j hj
  rw [h0] at hi
  rw [ho] at hop
  have := hE hop i hi j (by unfold HOL at hj ⊢; rw [h1] at hj; exact hj)
  rw [gi_1 (hM i (by omega)), rix_c h1 h28, off_c h0 h1]
  unfold UB UP at this ⊢
  rw [h21, h22]
  exact this
theorem EU_c (hM : ∀ i, i < 6 → M'.1 (11 + 3 * i) = M.1 (11 + 3 * i)) (h0 : NS σ' = NS σ) (ho : OPN σ' = OPN σ) (h1 : σ' 1 = σ 1) (h10 : σ' 10 = σ 10) (h21 : σ' 21 = σ 21) (hE : EU σ M) : EU σ' M' := by
  intro i hi p hp
  have := hE i hi p hp
  rw [gi_1 (hM i hi), h0, ho, cnt_c h0 h1 h10 h21]
  exact this
theorem EG_c (hM : ∀ p, p < 6 → M'.1 (27 + p) = M.1 (27 + p)) (h5 : σ' 5 = σ 5) (h6 : σ' 6 = σ 6) (h7 : σ' 7 = σ 7) (h8 : σ' 8 = σ 8) (hE : EG σ M) : EG σ' M' := by
  intro p hp
  have := hE p hp
  unfold WEI THK GRD BAR at this ⊢
  simp only [gi_1 (hM p hp), h5, h6, h7, h8]
  exact this
theorem EB1_c (hM : ∀ b, b < 40 → M'.1 (33 + b) = M.1 (33 + b)) (h12 : σ' 12 = σ 12) (h13 : σ' 13 = σ 13) (h14 : σ' 14 = σ 14) (h15 : σ' 15 = σ 15) (h19 : σ' 19 = σ 19) (hE : EB1 σ M) : EB1 σ' M' := by
  intro b hb
  have := hE b hb
  unfold ENT LEF DRO LEA FG at this ⊢
  simp only [gi_1 (hM b hb), h12, h13, h14, h15, h19]
  exact this
theorem EB2_c (hM : ∀ b, b < 40 → M'.1 (33 + b) = M.1 (33 + b) ∧ M'.2 (33 + b) = M.2 (33 + b)) (h4 : ALL σ' = ALL σ) (h10 : σ' 10 = σ 10) (h16 : σ' 16 = σ 16) (h17 : σ' 17 = σ 17) (h18 : σ' 18 = σ 18) (h19 : σ' 19 = σ 19) (h20 : σ' 20 = σ 20) (hE : EB2 σ M) : EB2 σ' M' := by
  intro b hb
  have := hE b hb
  rw [mix_c h4 h10 h16 h18 b (by unfold FG; rw [h19]) (by unfold KEP; rw [h20])]
  unfold AHD BHD EBF FG at this ⊢
  simp only [gi_1 (hM b hb).1, gr_2 (hM b hb).2, h16, h17, h18, h19]
  exact this
theorem EB3_c (hM : ∀ b, b < 40 → M'.1 (33 + b) = M.1 (33 + b) ∧ M'.2 (33 + b) = M.2 (33 + b)) (hN : NB σ ≤ 40) (h1 : NB σ' = NB σ) (h9 : σ' 9 = σ 9) (h10 : σ' 10 = σ 10) (h11 : σ' 11 = σ 11) (hE : EB3 σ M) : EB3 σ' M' := by
  intro b hb
  rw [h1] at hb
  have := hE b hb
  unfold ORD PRD SHP at this ⊢
  simp only [gi_1 (hM b (by omega)).1, gr_2 (hM b (by omega)).2, h9, h10, h11]
  exact this
theorem EK_c (hM : ∀ t, t < 4 → M'.1 (73 + t) = M.1 (73 + t)) (h23 : σ' 23 = σ 23) (h24 : σ' 24 = σ 24) (h25 : σ' 25 = σ 25) (h26 : σ' 26 = σ 26) (hE : EK σ M) : EK σ' M' := by
  intro t ht
  have := hE t ht
  unfold HAS TG MXD SPL at this ⊢
  simp only [gi_1 (hM t ht), h23, h24, h25, h26]
  exact this
theorem EL_c (hM : M'.1 5 = M.1 5) (h27 : σ' 27 = σ 27) (hE : EL σ M) : EL σ' M' := by
  intro j hj
  have := hE j hj
  unfold BAL at this ⊢
  rw [gi_1 hM, h27]
  exact this
end Cong
/-- the class's tank takes a unit of grade g -/
def tk (σ : Sp) (t g e : Nat) : Sp := if 100 ≤ HAS σ t then us σ 26 t (SPL σ t + 1) else us (us (us σ 23 t (HAS σ t + 1)) 24 t (max (TG σ t) (g + 1))) 25 t (MXD σ t + e)
theorem mxO {n g : Nat} (hn : n < 1000) (hg : g < 1000) : imax (nO n) (nI g) = nO (max n (g + 1)) := by
  rcases Nat.eq_zero_or_pos n with h | h
  · subst h
    rw [nO_0, show max 0 (g + 1) = g + 1 by omega, nO_s]
    unfold imax
    rw [if_pos (nM_lt (by omega))]
  · rw [nO_p h, cMax (by omega) (by omega), nO_p (by omega)]
    congr 1
    omega
theorem C_take {σ : Sp} {M : Mm} (hE : EK σ M) (hW : WK σ) {t g e : Nat} (ht : t < 4) (hg : g ≤ 9) (he : e ≤ 1) : ∃ M', fX3_take t (nI g) (nI e) M = some M' ∧ EK (tk σ t g e) M' ∧ Fr (fun k => k = 73 + t) M M' := by
  obtain ⟨e0, e1, e2, e3⟩ := hE t ht
  obtain ⟨w1, w2, w3⟩ := hW t ht
  by_cases c : HAS σ t < 100
  · refine ⟨si (si (si M (73 + t) 0 (nI (HAS σ t + 1))) (73 + t) 1 (nO (max (TG σ t) (g + 1)))) (73 + t) 2 (nI (MXD σ t + e)), ?_, ?_, (((Fr.rf (S := fun k => k = 73 + t)).si rfl).si rfl).si rfl⟩
    · unfold fX3_take
      rcases (show e = 0 ∨ e = 1 by omega) with rfl | rfl
      · simp (disch := omega) only [e0, e1, e2, cLt, cLe, cEq, cCl, cAdd, cMul, cMl, cMe, cMle, cMm, Lt0, Lt1, Lt2, Lt3, Lt4, Lt5, Lt6, Lt7, Lt8, Lt9, Lt10, Lt31, Lt40, Lt50, Lt60, Lt63, Lt99, Lt100, Lt128, Lt200, Lt360, Lt500, Lt512, Lt9999, Lm, gi_eq, gi_ne, gi_sr, gr_si, gr_eq, gr_ne, if_true, if_false, if_pos, if_neg, Option.bind_some, mxO]
      · simp (disch := omega) only [e0, e1, e2, cLt, cLe, cEq, cCl, cAdd, cMul, cMl, cMe, cMle, cMm, Lt0, Lt1, Lt2, Lt3, Lt4, Lt5, Lt6, Lt7, Lt8, Lt9, Lt10, Lt31, Lt40, Lt50, Lt60, Lt63, Lt99, Lt100, Lt128, Lt200, Lt360, Lt500, Lt512, Lt9999, Lm, gi_eq, gi_ne, gi_sr, gr_si, gr_eq, gr_ne, if_true, if_false, if_pos, if_neg, Option.bind_some, mxO]
    · unfold tk
      rw [if_neg (by omega)]
      intro t' ht'
      by_cases q : t' = t
      · subst q
        unfold HAS TG MXD SPL at *
        simp (disch := omega) only [gi_eq, gi_ne, gi_sr, gr_si, gr_eq, gr_ne, us_eq, us_ne, e3, and_self]
      · obtain ⟨f0, f1, f2, f3⟩ := hE t' ht'
        unfold HAS TG MXD SPL at *
        simp (disch := omega) only [gi_eq, gi_ne, gi_sr, gr_si, gr_eq, gr_ne, us_eq, us_ne, f0, f1, f2, f3, and_self]
  · refine ⟨si M (73 + t) 3 (nI (SPL σ t + 1)), ?_, ?_, (Fr.rf (S := fun k => k = 73 + t)).si rfl⟩
    · unfold fX3_take
      simp (disch := omega) only [e0, e3, cLt, cLe, cEq, cCl, cAdd, cMul, cMl, cMe, cMle, cMm, Lt0, Lt1, Lt2, Lt3, Lt4, Lt5, Lt6, Lt7, Lt8, Lt9, Lt10, Lt31, Lt40, Lt50, Lt60, Lt63, Lt99, Lt100, Lt128, Lt200, Lt360, Lt500, Lt512, Lt9999, Lm, gi_eq, gi_ne, gi_sr, gr_si, gr_eq, gr_ne, if_true, if_false, if_pos, if_neg, Option.bind_some]
    · unfold tk
      rw [if_pos (by omega)]
      intro t' ht'
      by_cases q : t' = t
      · subst q
        unfold HAS TG MXD SPL at *
        simp (disch := omega) only [gi_eq, gi_ne, gi_sr, gr_si, gr_eq, gr_ne, us_eq, us_ne, e0, e1, e2, and_self]
      · obtain ⟨f0, f1, f2, f3⟩ := hE t' ht'
        unfold HAS TG MXD SPL at *
        simp (disch := omega) only [gi_eq, gi_ne, gi_sr, gr_si, gr_eq, gr_ne, us_eq, us_ne, f0, f1, f2, f3, and_self]
theorem C_pour2 {σ : Sp} {M : Mm} (hP : EP σ M) (hG : EG σ M) (h1 : EB1 σ M) (h2 : EB2 σ M) (h3 : EB3 σ M) (hE : EK σ M) (hM : WM σ) (hWG : WG σ) (hW : WK σ) {b p t g e : Nat} (hb : b < NB σ) (hp : p < ENT σ b) (ht : t < 4) (hg : g ≤ 9) (he : e ≤ 1) :
    ∃ M', fX5_pour_b50 b (nI p) t (nI g) (nI e) M = some M' ∧ EK (tk σ t (max g (if m2 σ b p = true then GRD σ (PRD σ (BHD σ b - 1)) else 0)) (if m2 σ b p = true then 1 else e)) M' ∧ Fr (fun k => k = 73 + t) M M' := by
  obtain ⟨q1, q2, q3, q4⟩ := id hM
  obtain ⟨w1, w2, w3, w4, w5, w6⟩ := q3 b (by omega)
  obtain ⟨e8, e9, e10, e12⟩ := h2 b (by omega)
  obtain ⟨-, f4, -⟩ := h1 b (by omega)
  unfold fX5_pour_b50
  rw [if_pos (by omega), e9]
  unfold m2
  by_cases c : BHD σ b = 0
  · rw [c, op1_0, if_pos rfl, if_pos ht]
    simp only [ne_eq, not_true_eq_false, decide_false, Bool.false_and, Bool.false_eq_true, if_false, Nat.max_zero]
    obtain ⟨M', t1, t2, t3⟩ := C_take hE hW ht hg he
    exact ⟨M', by rw [t1]; rfl, t2, t3⟩
  · have hc := w2 c
    have hx := mix_le hM (show BHD σ b - 1 < 40 by omega)
    rw [op1_p c, if_neg (by simp), Option.bind_some, C_mixOf hP h1 h2 h3 hM hc, Option.bind_some, f4]
    simp (disch := omega) only [cSub, cLt, cLe, cEq, cCl, cAdd, cMul, cMl, cMe, cMle, cMm, Lt0, Lt1, Lt2, Lt3, Lt4, Lt5, Lt6, Lt7, Lt8, Lt9, Lt10, Lt31, Lt40, Lt50, Lt60, Lt63, Lt99, Lt100, Lt128, Lt200, Lt360, Lt500, Lt512, Lt9999, Lm]
    by_cases c2 : (ENT σ b - 1 - p) * 2 < mix σ (BHD σ b - 1)
    · obtain ⟨-, g1, -⟩ := h3 _ hc
      have hp6 := q4 _ hc
      obtain ⟨-, -, -, g3, -⟩ := hG _ hp6
      obtain ⟨-, -, -, -, v1, -⟩ := hWG _ hp6
      rw [if_neg (by omega), if_pos (by omega), g1, Option.bind_some, if_pos hp6, if_pos ht, g3, cMax (by omega) (by omega)]
      obtain ⟨M', t1, t2, t3⟩ := C_take (e := 1) hE hW ht (show max g (GRD σ (PRD σ (BHD σ b - 1))) ≤ 9 by omega) (by omega)
      refine ⟨M', by rw [t1]; rfl, ?_, t3⟩
      simp only [ne_eq, c, not_false_eq_true, decide_true, c2, Bool.and_self, if_true]
      exact t2
    · rw [if_pos (by omega), if_pos ht]
      obtain ⟨M', t1, t2, t3⟩ := C_take hE hW ht hg he
      refine ⟨M', by rw [t1]; rfl, ?_, t3⟩
      simp only [c2, decide_false, Bool.and_false, Bool.false_eq_true, if_false, Nat.max_zero]
      exact t2
theorem C_pour {σ : Sp} {M : Mm} (hP : EP σ M) (hG : EG σ M) (h1 : EB1 σ M) (h2 : EB2 σ M) (h3 : EB3 σ M) (hE : EK σ M) (hM : WM σ) (hWG : WG σ) (hW : WK σ) {b p t : Nat} (hb : b < NB σ) (hp : p < ENT σ b) (ht : t < 4) :
    ∃ M', fX5_pour b (nI p) t M = some M' ∧ EK (pur σ t b p) M' ∧ Fr (fun k => k = 73 + t) M M' := by
  obtain ⟨q1, q2, q3, q4⟩ := id hM
  obtain ⟨w1, w2, w3, w4, w5, w6⟩ := q3 b (by omega)
  obtain ⟨e8, e9, e10, e12⟩ := h2 b (by omega)
  obtain ⟨-, g0, -⟩ := h3 _ hb
  have hp0 := q4 _ hb
  obtain ⟨-, -, -, y3, -⟩ := hG _ hp0
  obtain ⟨-, -, -, -, v0, -⟩ := hWG _ hp0
  have key : ∀ g e, g ≤ 9 → e ≤ 1 → g = max (GRD σ (PRD σ b)) (if m1 σ b p = true then GRD σ (PRD σ (AHD σ b - 1)) else 0) → e = (if m1 σ b p = true then 1 else 0) → ∃ M', fX5_pour_b50 b (nI p) t (nI g) (nI e) M = some M' ∧ EK (pur σ t b p) M' ∧ Fr (fun k => k = 73 + t) M M' := by
    intro g e hg he eg ee
    obtain ⟨M', t1, t2, t3⟩ := C_pour2 hP hG h1 h2 h3 hE hM hWG hW hb hp ht hg he
    refine ⟨M', t1, ?_, t3⟩
    have : pur σ t b p = tk σ t (max g (if m2 σ b p = true then GRD σ (PRD σ (BHD σ b - 1)) else 0)) (if m2 σ b p = true then 1 else e) := by
      unfold pur tk grd
      rw [eg, ee]
      cases m1 σ b p <;> cases m2 σ b p <;> rfl
    rw [this]
    exact t2
  unfold fX5_pour
  rw [if_pos (by omega), g0, Option.bind_some, if_pos hp0, e8, y3]
  by_cases c : AHD σ b = 0
  · rw [c, op1_0, if_pos rfl]
    refine key (GRD σ (PRD σ b)) 0 v0 (by omega) ?_ ?_ <;> simp [m1, c]
  · have hc := w1 c
    have hx := mix_le hM (show b < 40 by omega)
    rw [op1_p c, if_neg (by simp), Option.bind_some, C_mixOf hP h1 h2 h3 hM hb, Option.bind_some]
    simp (disch := omega) only [cLt, cLe, cEq, cCl, cAdd, cMul, cMl, cMe, cMle, cMm, Lt0, Lt1, Lt2, Lt3, Lt4, Lt5, Lt6, Lt7, Lt8, Lt9, Lt10, Lt31, Lt40, Lt50, Lt60, Lt63, Lt99, Lt100, Lt128, Lt200, Lt360, Lt500, Lt512, Lt9999, Lm]
    by_cases c2 : p * 2 < mix σ b
    · obtain ⟨-, g1, -⟩ := h3 _ hc
      have hp6 := q4 _ hc
      obtain ⟨-, -, -, g3, -⟩ := hG _ hp6
      obtain ⟨-, -, -, -, v1, -⟩ := hWG _ hp6
      rw [if_neg (by omega), if_pos (by omega), g1, Option.bind_some, if_pos hp6, g3, cMax (by omega) (by omega)]
      refine key _ 1 (by omega) (by omega) ?_ ?_ <;> simp [m1, c, c2]
    · rw [if_pos (by omega)]
      refine key (GRD σ (PRD σ b)) 0 v0 (by omega) ?_ ?_ <;> simp [m1, c2]
