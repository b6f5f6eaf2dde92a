/-! numbers as names: nI n for what isn't negative, nM for -1, nO for a number and one more, 0 for none -/
def nM : Int32 := -1
def nO (n : Nat) : Int32 := if n = 0 then nM else nI (n - 1)
theorem nO_0 : nO 0 = nM := rfl
theorem nO_s (n : Nat) : nO (n + 1) = nI n := rfl
theorem nO_p {n : Nat} (h : 0 < n) : nO n = nI (n - 1) := by unfold nO; rw [if_neg (by omega)]
theorem Lt0 : (0 : Int32) = nI 0 := rfl
theorem Lt1 : (1 : Int32) = nI 1 := rfl
theorem Lt2 : (2 : Int32) = nI 2 := rfl
theorem Lt3 : (3 : Int32) = nI 3 := rfl
theorem Lt4 : (4 : Int32) = nI 4 := rfl
theorem Lt5 : (5 : Int32) = nI 5 := rfl
theorem Lt6 : (6 : Int32) = nI 6 := rfl
theorem Lt7 : (7 : Int32) = nI 7 := rfl
theorem Lt8 : (8 : Int32) = nI 8 := rfl
theorem Lt9 : (9 : Int32) = nI 9 := rfl
theorem Lt10 : (10 : Int32) = nI 10 := rfl
theorem Lt31 : (31 : Int32) = nI 31 := rfl
theorem Lt40 : (40 : Int32) = nI 40 := rfl
theorem Lt50 : (50 : Int32) = nI 50 := rfl
theorem Lt60 : (60 : Int32) = nI 60 := rfl
theorem Lt63 : (63 : Int32) = nI 63 := rfl
theorem Lt99 : (99 : Int32) = nI 99 := rfl
theorem Lt100 : (100 : Int32) = nI 100 := rfl
theorem Lt128 : (128 : Int32) = nI 128 := rfl
theorem Lt200 : (200 : Int32) = nI 200 := rfl
theorem Lt360 : (360 : Int32) = nI 360 := rfl
theorem Lt500 : (500 : Int32) = nI 500 := rfl
theorem Lt512 : (512 : Int32) = nI 512 := rfl
theorem Lt9999 : (9999 : Int32) = nI 9999 := rfl
theorem Lm : -(nI 1) = nM := rfl
theorem cLt {a b : Nat} (ha : a < 2147483648) (hb : b < 2147483648) : (nI a < nI b) = (a < b) := propext (nI_ltI ha hb)
theorem cLe {a b : Nat} (ha : a < 2147483648) (hb : b < 2147483648) : (nI a ≤ nI b) = (a ≤ b) := propext (nI_leI ha hb)
theorem cEq {a b : Nat} (ha : a < 2147483648) (hb : b < 2147483648) : (nI a = nI b) = (a = b) := propext (nI_eq ha hb)
theorem cCl {a : Nat} (ha : a < 2147483648) : (nI a).toNatClampNeg = a := nI_clamp ha
theorem cAdd (a b : Nat) : nI a + nI b = nI (a + b) := nI_add a b
theorem cSub {a b : Nat} (h : b ≤ a) : nI a - nI b = nI (a - b) := pk_sub h
theorem cMul (a b : Nat) : nI a * nI b = nI (a * b) := pk_mul a b
theorem cDiv {a d : Nat} (ha : a < 2147483648) (h0 : 0 < d) (hd : d < 2147483648) : nI a / nI d = nI (a / d) := pk_div ha h0 hd
theorem cRem {a d : Nat} (ha : a < 2147483648) (h0 : 0 < d) (hd : d < 2147483648) : irem (nI a) (nI d) = nI (a % d) := pk_rem ha h0 hd
theorem cPr (n : Nat) : nI (n + 1) + nM = nI n := pk_m1 n
theorem cPp {n : Nat} (h : 0 < n) : nI n + nM = nI (n - 1) := by
  obtain ⟨k, rfl⟩ : ∃ k, n = k + 1 := ⟨n - 1, by omega⟩
  exact pk_m1 k
theorem cP0 : nI 0 + nM = nM := rfl
theorem c01 : nI 0 - nI 1 = nM := rfl
theorem cM1 : nM + nI 1 = nI 0 := rfl
theorem nI_ge0 {a : Nat} (ha : a < 2147483648) : nI 0 ≤ nI a := by rw [cLe (by omega) ha]; omega
theorem nM_lt {a : Nat} (ha : a < 2147483648) : nM < nI a := by
  rw [Int32.lt_iff_toInt_lt, nI_toInt ha]
  have : nM.toInt = -1 := by decide
  omega
theorem cMl {a : Nat} (ha : a < 2147483648) : (nM < nI a) = True := eq_true (nM_lt ha)
theorem cMe {a : Nat} (ha : a < 2147483648) : (nI a = nM) = False := eq_false (fun e => by
  have h := nM_lt ha
  rw [e] at h
  exact absurd h (by decide))
theorem cMle {a : Nat} (ha : a < 2147483648) : (nI a ≤ nM) = False := eq_false (fun h => by
  have h2 := nM_lt ha
  rw [Int32.le_iff_toInt_le] at h
  rw [Int32.lt_iff_toInt_lt] at h2
  omega)
theorem cMm : (nM = nM) = True := eq_true rfl
theorem cOM {n : Nat} (h : n < 2147483648) : (nO n = nM) = (n = 0) := by
  unfold nO
  split
  · rename_i e; rw [e]; exact propext ⟨fun _ => rfl, fun _ => rfl⟩
  · rename_i e; rw [cMe (by omega)]; exact propext ⟨fun z => z.elim, fun z => absurd z e⟩
theorem cMax {a b : Nat} (ha : a < 2147483648) (hb : b < 2147483648) : imax (nI a) (nI b) = nI (max a b) := by
  unfold imax
  by_cases h : a < b
  · rw [if_pos ((nI_ltI ha hb).mpr h), show max a b = b by omega]
  · rw [if_neg (fun z => h ((nI_ltI ha hb).mp z)), show max a b = a by omega]
theorem cMin {a b : Nat} (ha : a < 2147483648) (hb : b < 2147483648) : imin (nI a) (nI b) = nI (min a b) := by
  unfold imin
  by_cases h : b < a
  · rw [if_pos ((nI_ltI hb ha).mpr h), show min a b = b by omega]
  · rw [if_neg (fun z => h ((nI_ltI hb ha).mp z)), show min a b = a by omega]
theorem nI_inj {a b : Nat} (ha : a < 2147483648) (hb : b < 2147483648) (h : nI a = nI b) : a = b := (nI_eq ha hb).mp h
/-! reading what was written -/
theorem gi_eq {M : Mm} {k j k' j' : Nat} {x : Int32} (h1 : k' = k) (h2 : j' = j) : gi (si M k j x) k' j' = x := by
  subst h1; subst h2
  simp [gi, si, upd]
theorem gi_ne {M : Mm} {k j k' j' : Nat} {x : Int32} (h : ¬ (k' = k ∧ j' = j)) : gi (si M k j x) k' j' = gi M k' j' := by
  unfold gi si
  dsimp only
  by_cases e : k' = k
  · subst e
    rw [if_pos rfl]
    unfold upd
    rw [if_neg (fun q => h ⟨rfl, q⟩)]
  · rw [if_neg e]
theorem gi_if {M : Mm} {k j k' j' : Nat} {x : Int32} : gi (si M k j x) k' j' = if k' = k ∧ j' = j then x else gi M k' j' := by
  by_cases h : k' = k ∧ j' = j
  · rw [if_pos h, gi_eq h.1 h.2]
  · rw [if_neg h, gi_ne h]
theorem gi_sr {M : Mm} {k j k' j' : Nat} {o : Option Nat} : gi (sr M k j o) k' j' = gi M k' j' := rfl
theorem gr_si {M : Mm} {k j k' j' : Nat} {x : Int32} : gr (si M k j x) k' j' = gr M k' j' := rfl
theorem gr_eq {M : Mm} {k j k' j' : Nat} {o : Option Nat} (h1 : k' = k) (h2 : j' = j) : gr (sr M k j o) k' j' = o := by
  subst h1; subst h2
  simp [gr, sr, va_up]
theorem gr_ne {M : Mm} {k j k' j' : Nat} {o : Option Nat} (h : ¬ (k' = k ∧ j' = j)) : gr (sr M k j o) k' j' = gr M k' j' := by
  unfold gr sr
  dsimp only
  by_cases e : k' = k
  · subst e
    rw [if_pos rfl]
    unfold va_up
    rw [if_neg (fun q => h ⟨rfl, q⟩)]
  · rw [if_neg e]
/-! the pure state: numbers by field and place -/
abbrev Sp : Type := Nat → Nat → Nat
def us (σ : Sp) (f i v : Nat) : Sp := fun f' i' => if f' = f ∧ i' = i then v else σ f' i'
theorem us_eq {σ : Sp} {f i v f' i' : Nat} (h1 : f' = f) (h2 : i' = i) : us σ f i v f' i' = v := by
  unfold us; rw [if_pos ⟨h1, h2⟩]
theorem us_ne {σ : Sp} {f i v f' i' : Nat} (h : ¬ (f' = f ∧ i' = i)) : us σ f i v f' i' = σ f' i' := by
  unfold us; rw [if_neg h]
abbrev NS (σ : Sp) : Nat := σ 0 0
abbrev NB (σ : Sp) : Nat := σ 0 1
abbrev OPN (σ : Sp) : Nat := σ 0 2
abbrev INL (σ : Sp) : Nat := σ 0 3
abbrev ALL (σ : Sp) : Nat := σ 0 4
abbrev RT (σ : Sp) : Nat := σ 0 5
abbrev RF (σ : Sp) : Nat := σ 0 6
abbrev MIN (σ : Sp) : Nat := σ 0 7
abbrev PIG (σ : Sp) : Nat := σ 0 8
abbrev LK (σ : Sp) : Nat := σ 0 9
abbrev LKU (σ : Sp) : Nat := σ 0 10
abbrev DR (σ : Sp) : Nat := σ 0 11
abbrev DRU (σ : Sp) : Nat := σ 0 12
abbrev DRT (σ : Sp) : Nat := σ 0 13
abbrev RCV (σ : Sp) : Nat := σ 0 14
abbrev LEN (σ : Sp) : Nat := σ 0 15
abbrev HOL (σ : Sp) (i : Nat) : Nat := σ 1 i
abbrev HEI (σ : Sp) (i : Nat) : Nat := σ 2 i
abbrev LIM (σ : Sp) (i : Nat) : Nat := σ 3 i
abbrev DIR (σ : Sp) (i : Nat) : Nat := σ 4 i
abbrev WEI (σ : Sp) (i : Nat) : Nat := σ 5 i
abbrev THK (σ : Sp) (i : Nat) : Nat := σ 6 i
abbrev GRD (σ : Sp) (i : Nat) : Nat := σ 7 i
abbrev BAR (σ : Sp) (i : Nat) : Nat := σ 8 i
abbrev SHP (σ : Sp) (i : Nat) : Nat := σ 9 i
abbrev PRD (σ : Sp) (i : Nat) : Nat := σ 10 i
abbrev ORD (σ : Sp) (i : Nat) : Nat := σ 11 i
abbrev ENT (σ : Sp) (i : Nat) : Nat := σ 12 i
abbrev LEF (σ : Sp) (i : Nat) : Nat := σ 13 i
abbrev DRO (σ : Sp) (i : Nat) : Nat := σ 14 i
abbrev LEA (σ : Sp) (i : Nat) : Nat := σ 15 i
abbrev AHD (σ : Sp) (i : Nat) : Nat := σ 16 i
abbrev BHD (σ : Sp) (i : Nat) : Nat := σ 17 i
abbrev EBF (σ : Sp) (i : Nat) : Nat := σ 18 i
abbrev FG (σ : Sp) (i : Nat) : Nat := σ 19 i
abbrev KEP (σ : Sp) (i : Nat) : Nat := σ 20 i
abbrev UB (σ : Sp) (i : Nat) : Nat := σ 21 i
abbrev UP (σ : Sp) (i : Nat) : Nat := σ 22 i
abbrev HAS (σ : Sp) (i : Nat) : Nat := σ 23 i
abbrev TG (σ : Sp) (i : Nat) : Nat := σ 24 i
abbrev MXD (σ : Sp) (i : Nat) : Nat := σ 25 i
abbrev SPL (σ : Sp) (i : Nat) : Nat := σ 26 i
abbrev BAL (σ : Sp) (i : Nat) : Nat := σ 27 i
abbrev LA (σ : Sp) (i : Nat) : Nat := σ 28 i
/-- the sum of f from a on, n of them -/
def sm (f : Nat → Nat) : Nat → Nat → Nat
  | _, 0 => 0
  | a, n + 1 => f a + sm f (a + 1) n
theorem sm_0 (f : Nat → Nat) (a : Nat) : sm f a 0 = 0 := rfl
theorem sm_s (f : Nat → Nat) (a n : Nat) : sm f a (n + 1) = f a + sm f (a + 1) n := rfl
theorem sm_last (f : Nat → Nat) : ∀ (n a : Nat), sm f a (n + 1) = sm f a n + f (a + n)
  | 0, a => by rw [sm_s, sm_0, sm_0, Nat.add_zero, Nat.zero_add, Nat.add_zero]
  | n + 1, a => by rw [sm_s, sm_last f n (a + 1), sm_s f a n, show a + 1 + n = a + (n + 1) by omega]; omega
theorem sm_cong {f g : Nat → Nat} : ∀ {n a : Nat}, (∀ k, a ≤ k → k < a + n → f k = g k) → sm f a n = sm g a n
  | 0, _, _ => rfl
  | n + 1, a, h => by rw [sm_s, sm_s, h a (Nat.le_refl a) (by omega), sm_cong (fun k h1 h2 => h k (by omega) (by omega))]
theorem sm_app (f : Nat → Nat) : ∀ (n m a : Nat), sm f a (n + m) = sm f a n + sm f (a + n) m
  | 0, m, a => by rw [Nat.zero_add, sm_0, Nat.zero_add, Nat.add_zero]
  | n + 1, m, a => by rw [show n + 1 + m = (n + m) + 1 by omega, sm_s, sm_app f n m (a + 1), sm_s, show a + 1 + n = a + (n + 1) by omega]; omega
theorem sm_le {f g : Nat → Nat} : ∀ {n a : Nat}, (∀ k, a ≤ k → k < a + n → f k ≤ g k) → sm f a n ≤ sm g a n
  | 0, _, _ => Nat.le_refl _
  | n + 1, a, h => by
    rw [sm_s, sm_s]
    have h1 := h a (Nat.le_refl a) (by omega)
    have h2 := sm_le (n := n) (a := a + 1) (f := f) (g := g) (fun k h1 h2 => h k (by omega) (by omega))
    omega
theorem sm_const (c : Nat) : ∀ (n a : Nat), sm (fun _ => c) a n = n * c
  | 0, _ => by rw [sm_0, Nat.zero_mul]
  | n + 1, a => by rw [sm_s, sm_const c n, Nat.succ_mul]; omega
theorem sm_bound {f : Nat → Nat} {c n a : Nat} (h : ∀ k, a ≤ k → k < a + n → f k ≤ c) : sm f a n ≤ n * c := by
  have := sm_le (g := fun _ => c) h
  rw [sm_const] at this
  exact this
theorem sm_add (f g : Nat → Nat) : ∀ (n a : Nat), sm (fun k => f k + g k) a n = sm f a n + sm g a n
  | 0, _ => rfl
  | n + 1, a => by rw [sm_s, sm_s, sm_s, sm_add f g n]; omega
theorem sm_shift (f : Nat → Nat) : ∀ (n a d : Nat), sm (fun k => f (k + d)) a n = sm f (a + d) n
  | 0, _, _ => rfl
  | n + 1, a, d => by rw [sm_s, sm_s, sm_shift f n (a + 1) d, show a + 1 + d = a + d + 1 by omega]
theorem sm_part {f : Nat → Nat} {k a n : Nat} (h1 : a ≤ k) (h2 : k < a + n) : f k ≤ sm f a n := by
  obtain ⟨u, rfl⟩ : ∃ u, k = a + u := ⟨k - a, by omega⟩
  obtain ⟨v, hv⟩ : ∃ v, n = u + (v + 1) := ⟨n - u - 1, by omega⟩
  rw [hv, sm_app, sm_s]
  omega
/-- one number changed -/
theorem sm_upd {f g : Nat → Nat} {k a n : Nat} (h1 : a ≤ k) (h2 : k < a + n) (h : ∀ j, a ≤ j → j < a + n → j ≠ k → g j = f j) : sm g a n + f k = sm f a n + g k := by
  obtain ⟨u, rfl⟩ : ∃ u, k = a + u := ⟨k - a, by omega⟩
  obtain ⟨v, hv⟩ : ∃ v, n = u + (v + 1) := ⟨n - u - 1, by omega⟩
  subst hv
  have e1 := sm_app g u (v + 1) a
  have e2 := sm_app f u (v + 1) a
  rw [sm_s] at e1 e2
  have c1 := sm_cong (f := g) (g := f) (n := u) (a := a) (fun j _ _ => h j (by omega) (by omega) (by omega))
  have c2 := sm_cong (f := g) (g := f) (n := v) (a := a + u + 1) (fun j _ _ => h j (by omega) (by omega) (by omega))
  omega
