/-! THE PURE PIPE: what a state is in numbers -/
/-- the greatest r with r * r at most n, up to a bound -/
def rt (n : Nat) : Nat → Nat
  | 0 => 0
  | k + 1 => if (k + 1) * (k + 1) ≤ n then k + 1 else rt n k
def isq (n : Nat) : Nat := rt n 255
theorem rt_le (n : Nat) : ∀ k, rt n k * rt n k ≤ n
  | 0 => Nat.zero_le n
  | k + 1 => by
    unfold rt
    split
    · assumption
    · exact rt_le n k
theorem rt_lek (n : Nat) : ∀ k, rt n k ≤ k
  | 0 => Nat.le_refl 0
  | k + 1 => by
    unfold rt
    split
    · exact Nat.le_refl _
    · exact Nat.le_succ_of_le (rt_lek n k)
theorem rt_gt (n : Nat) : ∀ k r, rt n k < r → r ≤ k → n < r * r
  | 0, r, h1, h2 => by omega
  | k + 1, r, h1, h2 => by
    unfold rt at h1
    split at h1
    · omega
    · rename_i h
      rcases Nat.lt_or_ge k r with q | q
      · rw [show r = k + 1 by omega]; omega
      · exact rt_gt n k r h1 q
theorem sq_lt {a b : Nat} (h : a < b) : a * a < b * b := Nat.mul_lt_mul_of_lt_of_lt h h
theorem sq_le {a b : Nat} (h : a ≤ b) : a * a ≤ b * b := Nat.mul_le_mul h h
theorem isq_un {n r : Nat} (hn : n < 65025) (h1 : r * r ≤ n) (h2 : n < (r + 1) * (r + 1)) : isq n = r := by
  have a1 := rt_le n 255
  have a2 := rt_lek n 255
  have hr : r < 255 := by
    rcases Nat.lt_or_ge r 255 with q | q
    · exact q
    · have := sq_le q
      omega
  rcases Nat.lt_trichotomy (rt n 255) r with q | q | q
  · have := rt_gt n 255 r q (by omega)
    omega
  · exact q
  · have := sq_le (show r + 1 ≤ rt n 255 from q)
    omega
theorem isq_le (n : Nat) : isq n ≤ 255 := rt_lek n 255
/-- the first place from a on, n of them, where p holds -/
def fnd (p : Nat → Bool) : Nat → Nat → Option Nat
  | _, 0 => none
  | a, n + 1 => if p a = true then some a else fnd p (a + 1) n
theorem fnd_some {p : Nat → Bool} : ∀ {n a k : Nat}, fnd p a n = some k → a ≤ k ∧ k < a + n ∧ p k = true ∧ ∀ j, a ≤ j → j < k → p j = false
  | 0, _, _, h => by cases h
  | n + 1, a, k, h => by
    unfold fnd at h
    split at h
    · rename_i e
      cases h
      exact ⟨Nat.le_refl _, by omega, e, fun j h1 h2 => by omega⟩
    · rename_i e
      obtain ⟨h1, h2, h3, h4⟩ := fnd_some h
      refine ⟨by omega, by omega, h3, fun j g1 g2 => ?_⟩
      rcases Nat.lt_or_ge a j with q | q
      · exact h4 j q g2
      · rw [show j = a by omega]
        simpa using e
/-- how many units are nearer to the outlet than the segment s -/
def off (σ : Sp) (s : Nat) : Nat := sm (HOL σ) (s + 1) (NS σ - 1 - s)
def cod (b p : Nat) : Nat := b * 512 + p
/-- how many units of the product p are in the segment s -/
def cnt (σ : Sp) (s p : Nat) : Nat := sm (fun j => if PRD σ (UB σ (off σ s + j)) = p then 1 else 0) 0 (HOL σ s)
def mix (σ : Sp) (b : Nat) : Nat := if AHD σ b = 0 then 0 else if PRD σ (AHD σ b - 1) = PRD σ b then 0 else if FG σ b = 0 then isq (ALL σ - EBF σ b) else KEP σ b
def brs (σ : Sp) (k b : Nat) : Bool := !(BAR σ (PRD σ k)).testBit (PRD σ b) && !(BAR σ (PRD σ b)).testBit (PRD σ k)
/-- the batch of which the next unit enters -/
def nxt (σ : Sp) : Option Nat := if ENT σ (INL σ) < ORD σ (INL σ) then some (INL σ) else fnd (fun k => decide (ENT σ k = 0) && brs σ k (INL σ)) 1 (NB σ - 1)
/-- what takes the next unit: 0 the leak, 1 the drop, 2 the outlet -/
def tap (σ : Sp) (lt dt : Nat) : Nat := if LK σ ≠ 0 ∧ lt < LKU σ then 0 else if DR σ ≠ 0 ∧ dt < DRU σ then 1 else 2
def tsg (σ : Sp) (τ : Nat) : Nat := if τ = 0 then LK σ - 1 else if τ = 1 then DR σ - 1 else NS σ - 1
def ttk (σ : Sp) (τ : Nat) : Nat := if τ = 1 then DRT σ else RCV σ
def m1 (σ : Sp) (b p : Nat) : Bool := decide (AHD σ b ≠ 0) && decide (p * 2 < mix σ b)
def m2 (σ : Sp) (b p : Nat) : Bool := decide (BHD σ b ≠ 0) && decide ((ENT σ b - 1 - p) * 2 < mix σ (BHD σ b - 1))
/-- the grade of a unit that goes -/
def grd (σ : Sp) (b p : Nat) : Nat := max (max (GRD σ (PRD σ b)) (if m1 σ b p = true then GRD σ (PRD σ (AHD σ b - 1)) else 0)) (if m2 σ b p = true then GRD σ (PRD σ (BHD σ b - 1)) else 0)
/-- the unit p of the batch b comes into the tank t -/
def pur (σ : Sp) (t b p : Nat) : Sp := if 100 ≤ HAS σ t then us σ 26 t (SPL σ t + 1) else us (us (us σ 23 t (HAS σ t + 1)) 24 t (max (TG σ t) (grd σ b p + 1))) 25 t (MXD σ t + if (m1 σ b p || m2 σ b p) = true then 1 else 0)
/-- a unit goes: where, its first unit, the pig -/
def go1 (σ : Sp) (τ b p : Nat) : Sp := if τ = 0 then us σ 15 b (LEA σ b + 1) else if τ = 1 then pur (us σ 14 b (DRO σ b + 1)) (DRT σ) b p else pur (us σ 13 b (LEF σ b + 1)) (RCV σ) b p
def go2 (σ : Sp) (b p : Nat) : Sp := if p = 0 then us (us σ 20 b (isq (ALL σ - EBF σ b))) 19 b 1 else σ
def go3 (σ : Sp) (s b p : Nat) : Sp := if PIG σ = cod b p + 1 then (fun f i => if f = 0 ∧ i = 8 then 0 else if f = 4 ∧ i ≤ s then 0 else σ f i) else σ
/-- the unit at the end of the tap τ goes -/
def snd (σ : Sp) (τ : Nat) : Sp := go3 (go2 (go1 σ τ (UB σ (off σ (tsg σ τ))) (UP σ (off σ (tsg σ τ)))) (UB σ (off σ (tsg σ τ))) (UP σ (off σ (tsg σ τ)))) (tsg σ τ) (UB σ (off σ (tsg σ τ))) (UP σ (off σ (tsg σ τ)))
/-- a batch that enters for the first time is tied to that at the inlet -/
def lnk (σ : Sp) (e : Nat) : Sp := if e = INL σ then σ else us (us (us (us σ 16 e (INL σ + 1)) 17 (INL σ) (e + 1)) 18 e (ALL σ)) 0 3 e
/-- a unit of the batch e enters, all up to the end of the segment s move on -/
def mov (σ : Sp) (e s : Nat) : Sp := fun f i =>
  if f = 12 ∧ i = e then ENT σ e + 1
  else if f = 0 ∧ i = 4 then ALL σ + 1
  else if f = 21 then (if i + 1 = LEN σ then e else if off σ s ≤ i ∧ i + 1 < LEN σ then UB σ (i + 1) else UB σ i)
  else if f = 22 then (if i + 1 = LEN σ then ENT σ e else if off σ s ≤ i ∧ i + 1 < LEN σ then UP σ (i + 1) else UP σ i)
  else if f = 28 ∧ i ≤ s then (if LA σ i + 1 < HOL σ i then LA σ i + 1 else 0)
  else σ f i
def brg (σ : Sp) (e s : Nat) : Sp := mov (lnk σ e) e s
/-- one unit enters, one goes -/
def one (σ : Sp) (e τ : Nat) : Sp := brg (snd σ τ) e (tsg σ τ)
/-! the pressures -/
def hed (σ : Sp) (s : Nat) : Nat := WEI σ (PRD σ (UB σ (off σ s))) * HEI σ s
def frc (σ : Sp) (s u : Nat) : Nat := (u * (DIR σ s + sm (fun j => THK σ (PRD σ (UB σ (off σ s + j)))) 0 (HOL σ s)) + 99) / 100
/-- what is needed from the beginning of the segment s on -/
def ned (σ : Sp) (s u : Nat) : Nat := hed σ (NS σ - 1) + sm (fun k => frc σ k u) s (NS σ - s)
def prs (σ : Sp) (s u : Nat) : Nat := ned σ s u - (if s = 0 then 0 else hed σ (s - 1))
def fit (σ : Sp) (u : Nat) : Bool := decide (∀ s, s < NS σ → prs σ s u ≤ LIM σ s)
/-- the greatest rate up to u that fits -/
def frt (σ : Sp) : Nat → Nat
  | 0 => 0
  | u + 1 => if fit σ (u + 1) = true then u + 1 else frt σ u
/-- n units at most enter; k have, l and d of them went by leak and drop -/
def mvs : Nat → Sp → Nat → Nat → Nat → Sp × Nat × Nat × Nat
  | 0, σ, k, l, d => (σ, k, l, d)
  | n + 1, σ, k, l, d => match nxt σ with
    | none => (σ, k, l, d)
    | some e => mvs n (one σ e (tap σ l d)) (k + 1) (if tap σ l d = 0 then l + 1 else l) (if tap σ l d = 1 then d + 1 else d)
def sol (σ : Sp) : Sp := fun f i => if f = 4 ∧ i < NS σ then min 200 (DIR σ i + 1) else σ f i
/-- a minute: the state behind it, and how many entered -/
def mnt (σ : Sp) : Sp × Nat :=
  let σ1 := us σ 0 6 (frt σ (RT σ))
  let q := mvs (frt σ (RT σ)) σ1 0 0 0
  let σ2 := if 0 < q.2.1 then sol q.1 else q.1
  (us (us σ2 27 (MIN σ2 % 5) q.2.2.1) 0 7 (MIN σ2 + 1), q.2.1)
def mns : Nat → Sp → Nat → Sp × Nat
  | 0, σ, k => (σ, k)
  | n + 1, σ, k => mns n (mnt σ).1 (k + (mnt σ).2)
/-! how the class's cells hold it -/
def EP (σ : Sp) (M : Mm) : Prop := gi M 0 8 = nI (NS σ) ∧ gi M 0 9 = nI (NB σ) ∧ gi M 0 10 = nI (OPN σ) ∧ gi M 0 12 = nI (ALL σ) ∧ gi M 0 13 = nI (RT σ) ∧ gi M 0 14 = nI (RF σ) ∧ gi M 0 15 = nI (MIN σ) ∧ gi M 0 16 = nO (PIG σ) ∧ gr M 0 11 = some (INL σ)
def ET (σ : Sp) (l d o : Nat) (M : Mm) : Prop := gi M (6 + 0) 0 = nO (LK σ) ∧ gi M (6 + 0) 1 = nI (LKU σ) ∧ gi M (6 + 0) 3 = nI l ∧ gi M (6 + 1) 0 = nO (DR σ) ∧ gi M (6 + 1) 1 = nI (DRU σ) ∧ gi M (6 + 1) 2 = nI (DRT σ) ∧ gi M (6 + 1) 3 = nI d ∧ (OPN σ = 1 → gi M (6 + 2) 0 = nI (NS σ - 1)) ∧ gi M (6 + 2) 2 = nI (RCV σ) ∧ gi M (6 + 2) 3 = nI o
def ES (σ : Sp) (M : Mm) : Prop := ∀ i, i < 6 → (i < NS σ → gi M (9 + 3 * i) 3 = nI (HOL σ i) ∧ gi M (9 + 3 * i) 4 = nI (HEI σ i) ∧ gi M (9 + 3 * i) 5 = nI (LIM σ i)) ∧ gi M (9 + 3 * i) 6 = nI (DIR σ i) ∧ gi M (9 + 3 * i) 2 = nI (LA σ i)
/-- the place in the ring of a segment of the unit ahead of which are j -/
def rix (σ : Sp) (i j : Nat) : Nat := if LA σ i + j < HOL σ i then LA σ i + j else LA σ i + j - HOL σ i
def ER (σ : Sp) (M : Mm) : Prop := OPN σ = 1 → ∀ i, i < NS σ → (∀ j, j < HOL σ i → gi M (10 + 3 * i) (rix σ i j) = nI (cod (UB σ (off σ i + j)) (UP σ (off σ i + j))))
def EU (σ : Sp) (M : Mm) : Prop := ∀ i, i < 6 → ∀ p, p < 6 → gi M (11 + 3 * i) p = nI (if OPN σ = 1 ∧ i < NS σ then cnt σ i p else 0)
def EG (σ : Sp) (M : Mm) : Prop := ∀ p, p < 6 → gi M (27 + p) 0 = nI p ∧ gi M (27 + p) 1 = nI (WEI σ p) ∧ gi M (27 + p) 2 = nI (THK σ p) ∧ gi M (27 + p) 3 = nI (GRD σ p) ∧ gi M (27 + p) 4 = nI (BAR σ p)
def EB1 (σ : Sp) (M : Mm) : Prop := ∀ b, b < 40 → gi M (33 + b) 0 = nI b ∧ gi M (33 + b) 4 = nI (ENT σ b) ∧ gi M (33 + b) 5 = nI (LEF σ b) ∧ gi M (33 + b) 6 = nI (DRO σ b) ∧ gi M (33 + b) 7 = nI (LEA σ b) ∧ gi M (33 + b) 11 = nI (FG σ b)
def op1 (n : Nat) : Option Nat := if n = 0 then none else some (n - 1)
def EB2 (σ : Sp) (M : Mm) : Prop := ∀ b, b < 40 → gr M (33 + b) 8 = op1 (AHD σ b) ∧ gr M (33 + b) 9 = op1 (BHD σ b) ∧ (AHD σ b ≠ 0 → gi M (33 + b) 10 = nI (EBF σ b)) ∧ (FG σ b = 1 → gi M (33 + b) 12 = nI (mix σ b))
def EB3 (σ : Sp) (M : Mm) : Prop := ∀ b, b < NB σ → gi M (33 + b) 3 = nI (ORD σ b) ∧ gr M (33 + b) 1 = some (PRD σ b) ∧ (1 ≤ b → gi M (33 + b) 2 = nI (SHP σ b))
def EK (σ : Sp) (M : Mm) : Prop := ∀ t, t < 4 → gi M (73 + t) 0 = nI (HAS σ t) ∧ gi M (73 + t) 1 = nO (TG σ t) ∧ gi M (73 + t) 2 = nI (MXD σ t) ∧ gi M (73 + t) 3 = nI (SPL σ t)
def EL (σ : Sp) (M : Mm) : Prop := ∀ j, j < 5 → gi M 5 j = nI (BAL σ j)
def EC (σ : Sp) (l d o : Nat) (M : Mm) : Prop := EP σ M ∧ ET σ l d o M ∧ ES σ M ∧ ER σ M ∧ EU σ M ∧ EG σ M ∧ EB1 σ M ∧ EB2 σ M ∧ EB3 σ M ∧ EK σ M ∧ EL σ M
/-! how the reference's cells hold it -/
def MP (σ : Sp) (M : Mm) : Prop := gi M 77 1 = nI (NS σ) ∧ gi M 77 6 = nI (OPN σ) ∧ gi M 77 7 = nI (LEN σ) ∧ gi M 77 12 = nI (NB σ) ∧ gi M 77 24 = nI (LEN σ + ALL σ) ∧ gi M 77 27 = nI (RT σ) ∧ gi M 77 28 = nI (RF σ)
def MT (σ : Sp) (M : Mm) : Prop := gi M 77 29 = nO (DR σ) ∧ gi M 77 30 = nI (DRU σ) ∧ gi M 77 31 = nI (DRT σ) ∧ gi M 77 32 = nO (LK σ) ∧ gi M 77 33 = nI (LKU σ) ∧ gi M 77 34 = nI (RCV σ)
def MQp (σ : Sp) (M : Mm) : Prop := gi M 77 39 = nI (if PIG σ = 0 then 0 else 1) ∧ (PIG σ ≠ 0 → gi M 77 40 = nI ((PIG σ - 1) / 512) ∧ gi M 77 41 = nI ((PIG σ - 1) % 512))
def MS (σ : Sp) (M : Mm) : Prop := ∀ i, i < 6 → (i < NS σ → gi M 78 i = nI (HOL σ i) ∧ gi M 79 i = nI (HEI σ i) ∧ gi M 80 i = nI (LIM σ i)) ∧ gi M 81 i = nI (DIR σ i)
def MG (σ : Sp) (M : Mm) : Prop := ∀ p, p < 6 → gi M 82 p = nI (WEI σ p) ∧ gi M 83 p = nI (THK σ p) ∧ gi M 84 p = nI (GRD σ p) ∧ gi M 85 p = nI (BAR σ p)
def MB1 (σ : Sp) (M : Mm) : Prop := ∀ b, b < 40 → gi M 89 b = nI (ENT σ b) ∧ gi M 90 b = nI (LEF σ b) ∧ gi M 91 b = nI (DRO σ b) ∧ gi M 92 b = nI (LEA σ b)
def MB2 (σ : Sp) (M : Mm) : Prop := ∀ b, b < 40 → gi M 93 b = nO (AHD σ b) ∧ gi M 94 b = nO (BHD σ b) ∧ (AHD σ b ≠ 0 → gi M 95 b = nI (LEN σ + EBF σ b)) ∧ (1 ≤ b → gi M 96 b = if FG σ b = 0 then nM else nI (KEP σ b))
def MB3 (σ : Sp) (M : Mm) : Prop := ∀ b, b < NB σ → gi M 88 b = nI (ORD σ b) ∧ gi M 87 b = nI (PRD σ b) ∧ (1 ≤ b → gi M 86 b = nI (SHP σ b))
def MU (σ : Sp) (M : Mm) : Prop := OPN σ = 1 → ∀ j, j < LEN σ → gi M 97 j = nI (UB σ j) ∧ gi M 98 j = nI (UP σ j)
def MK (σ : Sp) (M : Mm) : Prop := (∀ t, t < 4 → gi M 99 t = nI (HAS σ t) ∧ (HAS σ t ≠ 0 → gi M 100 t = nI (TG σ t - 1)) ∧ gi M 101 t = nI (MXD σ t)) ∧ gi M 77 38 = nI (sm (SPL σ) 0 4)
def ML (σ : Sp) (M : Mm) : Prop := ∀ j, j < 5 → gi M 102 ((j + 1) % 5) = nI (BAL σ j)
def EM' (σ : Sp) (M : Mm) : Prop := MP σ M ∧ MT σ M ∧ MQp σ M ∧ MS σ M ∧ MG σ M ∧ MB1 σ M ∧ MB2 σ M ∧ MB3 σ M ∧ MU σ M ∧ MK σ M ∧ ML σ M
def EM (σ : Sp) (M : Mm) : Prop := EM' σ M ∧ gi M 77 0 = nI (MIN σ)
/-! what holds of every state that can be reached -/
def WA (σ : Sp) : Prop := NS σ ≤ 6 ∧ 1 ≤ NB σ ∧ NB σ ≤ 40 ∧ OPN σ ≤ 1 ∧ RT σ ≤ 10 ∧ RF σ ≤ 10 ∧ MIN σ ≤ 9999 ∧ (OPN σ = 1 → 1 ≤ NS σ) ∧ INL σ < NB σ ∧ ALL σ ≤ 7800 ∧ LEN σ ≤ 360 ∧ PIG σ ≤ 20480
def WS (σ : Sp) : Prop := (∀ i, i < NS σ → 5 ≤ HOL σ i ∧ HOL σ i ≤ 60 ∧ HEI σ i ≤ 50 ∧ 10 ≤ LIM σ i ∧ LIM σ i ≤ 500 ∧ LA σ i < HOL σ i) ∧ ∀ i, i < 6 → DIR σ i ≤ 200
def WG (σ : Sp) : Prop := ∀ p, p < 6 → 1 ≤ WEI σ p ∧ WEI σ p ≤ 10 ∧ 1 ≤ THK σ p ∧ THK σ p ≤ 10 ∧ GRD σ p ≤ 9 ∧ BAR σ p ≤ 63
def WT' (σ : Sp) : Prop := (LK σ ≠ 0 → LK σ < NS σ) ∧ LKU σ ≤ 10 ∧ (DR σ ≠ 0 → DR σ < NS σ) ∧ DRU σ ≤ 10 ∧ DRT σ < 4 ∧ RCV σ < 4
def WB (σ : Sp) : Prop := (∀ b, b < NB σ → PRD σ b < 6 ∧ ENT σ b ≤ ORD σ b ∧ ORD σ b ≤ 360 ∧ (1 ≤ b → SHP σ b < 4 ∧ 1 ≤ ORD σ b ∧ ORD σ b ≤ 200)) ∧ (∀ b, b < 40 → LEF σ b + DRO σ b + LEA σ b ≤ ENT σ b ∧ ENT σ b ≤ 360 ∧ EBF σ b ≤ ALL σ ∧ KEP σ b ≤ 255 ∧ FG σ b ≤ 1 ∧ (NB σ ≤ b → ENT σ b = 0) ∧ (FG σ b = 1 → 1 ≤ ENT σ b))
def WK (σ : Sp) : Prop := ∀ t, t < 4 → HAS σ t ≤ 100 ∧ TG σ t ≤ 10 ∧ (HAS σ t = 0 ↔ TG σ t = 0)
/-- closed: nothing has entered -/
def WC (σ : Sp) : Prop := OPN σ = 0 → ALL σ = 0 ∧ PIG σ = 0 ∧ INL σ = 0 ∧ LEN σ = 0 ∧ (∀ b, b < 40 → ENT σ b = 0 ∧ AHD σ b = 0 ∧ BHD σ b = 0 ∧ FG σ b = 0) ∧ (∀ i, i < 6 → LA σ i = 0 ∧ DIR σ i = 0) ∧ ORD σ 0 = 0
def str (σ : Sp) (b : Nat) : Nat := if b = 0 then 0 else LEN σ + EBF σ b
def ub1 (σ : Sp) (b j : Nat) : Nat := if UB σ j = b then 1 else 0
/-- open: the batches in a chain, the units in the order in which they entered -/
def WO (σ : Sp) : Prop := OPN σ = 1 → LEN σ = sm (HOL σ) 0 (NS σ) ∧ ENT σ 0 = LEN σ ∧ ORD σ 0 = LEN σ ∧ ALL σ = sm (ENT σ) 1 (NB σ - 1) ∧ 1 ≤ ENT σ (INL σ) ∧ (∀ b, b < NB σ → 1 ≤ ENT σ b → b ≠ INL σ → ENT σ b = ORD σ b)
def WL (σ : Sp) : Prop := OPN σ = 1 → AHD σ 0 = 0 ∧ (∀ b, b < 40 → b ≠ 0 → (AHD σ b = 0 ↔ ENT σ b = 0)) ∧ (∀ b, b < 40 → (BHD σ b = 0 ↔ (ENT σ b = 0 ∨ b = INL σ))) ∧ (∀ b c, b < 40 → AHD σ b = c + 1 → c < NB σ ∧ BHD σ c = b + 1 ∧ str σ b = str σ c + ENT σ c ∧ 1 ≤ ENT σ c) ∧ (∀ b c, b < 40 → BHD σ b = c + 1 → c < NB σ ∧ AHD σ c = b + 1 ∧ 1 ≤ ENT σ c) ∧ str σ (INL σ) + ENT σ (INL σ) = LEN σ + ALL σ
def WU (σ : Sp) : Prop := OPN σ = 1 → (∀ j, j < LEN σ → UB σ j < NB σ ∧ UP σ j < ENT σ (UB σ j)) ∧ (∀ j, j + 1 < LEN σ → str σ (UB σ j) + UP σ j < str σ (UB σ (j + 1)) + UP σ (j + 1)) ∧ UB σ (LEN σ - 1) = INL σ ∧ UP σ (LEN σ - 1) + 1 = ENT σ (INL σ) ∧ (∀ j, j < LEN σ → UP σ j = 0 → FG σ (UB σ j) = 0) ∧ (∀ b, b < NB σ → sm (ub1 σ b) 0 (LEN σ) + LEF σ b + DRO σ b + LEA σ b = ENT σ b)
def WF (σ : Sp) : Prop := WA σ ∧ WS σ ∧ WG σ ∧ WT' σ ∧ WB σ ∧ WK σ ∧ WC σ ∧ WO σ ∧ WL σ ∧ WU σ
/-- before the law's next call -/
def INV (M : Mm) : Prop := ∃ (σ : Sp) (l d o : Nat), WF σ ∧ EC σ l d o M ∧ EM σ M
