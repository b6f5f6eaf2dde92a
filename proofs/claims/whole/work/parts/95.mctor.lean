/-! THE REFERENCE'S CONSTRUCTOR -/
def rM : Nat → Int32 := fun j => if j = 12 then 1 else if j = 29 then -1 else if j = 32 then -1 else 0
def cMn : List Value := [.int 0, .int 0, .null, .null, .null, .null, .int 0, .int 0, .null, .null, .null, .null, .int 0, .null, .null, .null, .null, .null, .null, .null, .null, .null, .null, .null, .int 0, .null, .null, .int 0, .int 0, .int 0, .int 0, .int 0, .int 0, .int 0, .int 0, .null, .null, .null, .int 0, .int 0, .int 0, .int 0, .null, .int 0, .int 0]
def rowJ (i1 i2 k : Nat) : Nat → Int32 := if k = 82 then (fun j => if j < i1 then 8 else 0) else if k = 83 then (fun j => if j < i1 then 3 else 0) else if k = 84 then (fun j => if j < i1 then nI j else 0) else if k = 93 ∨ k = 94 ∨ k = 96 then (fun j => if j < i2 then -1 else 0) else (fun _ => 0)
def EJ (cy : Nat → ClassId) (a : Nat) (E0 : Nat → va_E) (i1 i2 : Nat) : Nat → va_E := fun k => if k < 77 then E0 k else if k = 77 then .inr (6, eModel a rM) else .inl (cy 0, mlen k, .inl (rowJ i1 i2 k))
theorem EJ_0 {cy : Nat → ClassId} {a : Nat} {E0 : Nat → va_E} {i1 i2 k : Nat} (h : k < 77) : EJ cy a E0 i1 i2 k = E0 k := by
  unfold EJ
  rw [if_pos h]
theorem EJ_m {cy : Nat → ClassId} {a : Nat} {E0 : Nat → va_E} {i1 i2 : Nat} : EJ cy a E0 i1 i2 77 = .inr (6, eModel a rM) := rfl
theorem EJ_r {cy : Nat → ClassId} {a : Nat} {E0 : Nat → va_E} {i1 i2 k : Nat} (h : 78 ≤ k) : EJ cy a E0 i1 i2 k = .inl (cy 0, mlen k, .inl (rowJ i1 i2 k)) := by
  unfold EJ
  rw [if_neg (by omega), if_neg (by omega)]
theorem filv (g : Nat → Int32) (i : Nat) : (fun j => if j < i + 1 then g j else 0) = upd (fun j => if j < i then g j else 0) i (g i) := by
  funext j
  unfold upd
  by_cases h : j = i
  · rw [if_pos (by omega), if_pos h, h]
  · rw [if_neg h]
    dsimp only
    by_cases h2 : j < i
    · rw [if_pos (by omega), if_pos h2]
    · rw [if_neg (by omega), if_neg h2]
set_option maxRecDepth 20000 in
theorem iX6_init_X6 : ∀ w ∈ wsX60, w ∈ wsX6_init := by decide +kernel
def rI6 : Room := { frames := 1, cells := 25, slots := 1225, locals := 12 }
theorem rowJ_0 (k : Nat) : rowJ 0 0 k = fun _ => 0 := by
  funext j
  unfold rowJ
  by_cases h1 : k = 82
  · rw [if_pos h1]
    exact if_neg (Nat.not_lt_zero j)
  rw [if_neg h1]
  by_cases h2 : k = 83
  · rw [if_pos h2]
    exact if_neg (Nat.not_lt_zero j)
  rw [if_neg h2]
  by_cases h3 : k = 84
  · rw [if_pos h3]
    exact if_neg (Nat.not_lt_zero j)
  rw [if_neg h3]
  by_cases h4 : k = 93 ∨ k = 94 ∨ k = 96
  · rw [if_pos h4]
    exact if_neg (Nat.not_lt_zero j)
  rw [if_neg h4]
/-- while the reference's rows are made: fs its fields so far -/
def EA (cy : Nat → ClassId) (E0 : Nat → va_E) (fs : List Value) : Nat → va_E := fun k => if k < 77 then E0 k else if k = 77 then .inr (6, fs) else .inl (cy 0, mlen k, .inl (fun _ => 0))
theorem EA_0 {cy : Nat → ClassId} {E0 : Nat → va_E} {fs : List Value} {k : Nat} (h : k < 77) : EA cy E0 fs k = E0 k := by
  unfold EA
  rw [if_pos h]
theorem EA_m {cy : Nat → ClassId} {E0 : Nat → va_E} {fs : List Value} : EA cy E0 fs 77 = .inr (6, fs) := rfl
theorem EA_r {cy : Nat → ClassId} {E0 : Nat → va_E} {fs : List Value} {k : Nat} (h : 78 ≤ k) : EA cy E0 fs k = .inl (cy 0, mlen k, .inl (fun _ => 0)) := by
  unfold EA
  rw [if_neg (show ¬ k < 77 by omega), if_neg (show ¬ k = 77 by omega)]
theorem EA_n {cy : Nat → ClassId} {E0 : Nat → va_E} {fs gs : List Value} {k : Nat} (h : ¬ k = 77) : EA cy E0 fs k = EA cy E0 gs k := by
  unfold EA
  by_cases z : k < 77
  · rw [if_pos z, if_pos z]
  · rw [if_neg z, if_neg z, if_neg h, if_neg h]
def cM_0 (a : Nat) : List Value := [.int 0, .int 0, .null, .null, .null, .null, .int 0, .int 0, .null, .null, .null, .null, .int 0, .null, .null, .null, .null, .null, .null, .null, .null, .null, .null, .null, .int 0, .null, .null, .int 0, .int 0, .int 0, .int 0, .int 0, .int 0, .int 0, .int 0, .null, .null, .null, .int 0, .int 0, .int 0, .int 0, .null, .int 0, .int 0]
def cM_1 (a : Nat) : List Value := [.int 0, .int 0, .ref (a + 78), .null, .null, .null, .int 0, .int 0, .null, .null, .null, .null, .int 0, .null, .null, .null, .null, .null, .null, .null, .null, .null, .null, .null, .int 0, .null, .null, .int 0, .int 0, .int 0, .int 0, .int 0, .int 0, .int 0, .int 0, .null, .null, .null, .int 0, .int 0, .int 0, .int 0, .null, .int 0, .int 0]
theorem cMs_1 (a : Nat) : (cM_0 a).set 2 (.ref (a + 78)) = cM_1 a := rfl
def cM_2 (a : Nat) : List Value := [.int 0, .int 0, .ref (a + 78), .ref (a + 79), .null, .null, .int 0, .int 0, .null, .null, .null, .null, .int 0, .null, .null, .null, .null, .null, .null, .null, .null, .null, .null, .null, .int 0, .null, .null, .int 0, .int 0, .int 0, .int 0, .int 0, .int 0, .int 0, .int 0, .null, .null, .null, .int 0, .int 0, .int 0, .int 0, .null, .int 0, .int 0]
theorem cMs_2 (a : Nat) : (cM_1 a).set 3 (.ref (a + 79)) = cM_2 a := rfl
def cM_3 (a : Nat) : List Value := [.int 0, .int 0, .ref (a + 78), .ref (a + 79), .ref (a + 80), .null, .int 0, .int 0, .null, .null, .null, .null, .int 0, .null, .null, .null, .null, .null, .null, .null, .null, .null, .null, .null, .int 0, .null, .null, .int 0, .int 0, .int 0, .int 0, .int 0, .int 0, .int 0, .int 0, .null, .null, .null, .int 0, .int 0, .int 0, .int 0, .null, .int 0, .int 0]
theorem cMs_3 (a : Nat) : (cM_2 a).set 4 (.ref (a + 80)) = cM_3 a := rfl
def cM_4 (a : Nat) : List Value := [.int 0, .int 0, .ref (a + 78), .ref (a + 79), .ref (a + 80), .ref (a + 81), .int 0, .int 0, .null, .null, .null, .null, .int 0, .null, .null, .null, .null, .null, .null, .null, .null, .null, .null, .null, .int 0, .null, .null, .int 0, .int 0, .int 0, .int 0, .int 0, .int 0, .int 0, .int 0, .null, .null, .null, .int 0, .int 0, .int 0, .int 0, .null, .int 0, .int 0]
theorem cMs_4 (a : Nat) : (cM_3 a).set 5 (.ref (a + 81)) = cM_4 a := rfl
def cM_5 (a : Nat) : List Value := [.int 0, .int 0, .ref (a + 78), .ref (a + 79), .ref (a + 80), .ref (a + 81), .int 0, .int 0, .ref (a + 82), .null, .null, .null, .int 0, .null, .null, .null, .null, .null, .null, .null, .null, .null, .null, .null, .int 0, .null, .null, .int 0, .int 0, .int 0, .int 0, .int 0, .int 0, .int 0, .int 0, .null, .null, .null, .int 0, .int 0, .int 0, .int 0, .null, .int 0, .int 0]
theorem cMs_5 (a : Nat) : (cM_4 a).set 8 (.ref (a + 82)) = cM_5 a := rfl
def cM_6 (a : Nat) : List Value := [.int 0, .int 0, .ref (a + 78), .ref (a + 79), .ref (a + 80), .ref (a + 81), .int 0, .int 0, .ref (a + 82), .ref (a + 83), .null, .null, .int 0, .null, .null, .null, .null, .null, .null, .null, .null, .null, .null, .null, .int 0, .null, .null, .int 0, .int 0, .int 0, .int 0, .int 0, .int 0, .int 0, .int 0, .null, .null, .null, .int 0, .int 0, .int 0, .int 0, .null, .int 0, .int 0]
theorem cMs_6 (a : Nat) : (cM_5 a).set 9 (.ref (a + 83)) = cM_6 a := rfl
def cM_7 (a : Nat) : List Value := [.int 0, .int 0, .ref (a + 78), .ref (a + 79), .ref (a + 80), .ref (a + 81), .int 0, .int 0, .ref (a + 82), .ref (a + 83), .ref (a + 84), .null, .int 0, .null, .null, .null, .null, .null, .null, .null, .null, .null, .null, .null, .int 0, .null, .null, .int 0, .int 0, .int 0, .int 0, .int 0, .int 0, .int 0, .int 0, .null, .null, .null, .int 0, .int 0, .int 0, .int 0, .null, .int 0, .int 0]
theorem cMs_7 (a : Nat) : (cM_6 a).set 10 (.ref (a + 84)) = cM_7 a := rfl
def cM_8 (a : Nat) : List Value := [.int 0, .int 0, .ref (a + 78), .ref (a + 79), .ref (a + 80), .ref (a + 81), .int 0, .int 0, .ref (a + 82), .ref (a + 83), .ref (a + 84), .ref (a + 85), .int 0, .null, .null, .null, .null, .null, .null, .null, .null, .null, .null, .null, .int 0, .null, .null, .int 0, .int 0, .int 0, .int 0, .int 0, .int 0, .int 0, .int 0, .null, .null, .null, .int 0, .int 0, .int 0, .int 0, .null, .int 0, .int 0]
theorem cMs_8 (a : Nat) : (cM_7 a).set 11 (.ref (a + 85)) = cM_8 a := rfl
def cM_9 (a : Nat) : List Value := [.int 0, .int 0, .ref (a + 78), .ref (a + 79), .ref (a + 80), .ref (a + 81), .int 0, .int 0, .ref (a + 82), .ref (a + 83), .ref (a + 84), .ref (a + 85), .int 1, .null, .null, .null, .null, .null, .null, .null, .null, .null, .null, .null, .int 0, .null, .null, .int 0, .int 0, .int 0, .int 0, .int 0, .int 0, .int 0, .int 0, .null, .null, .null, .int 0, .int 0, .int 0, .int 0, .null, .int 0, .int 0]
theorem cMs_9 (a : Nat) : (cM_8 a).set 12 (.int 1) = cM_9 a := rfl
def cM_10 (a : Nat) : List Value := [.int 0, .int 0, .ref (a + 78), .ref (a + 79), .ref (a + 80), .ref (a + 81), .int 0, .int 0, .ref (a + 82), .ref (a + 83), .ref (a + 84), .ref (a + 85), .int 1, .ref (a + 86), .null, .null, .null, .null, .null, .null, .null, .null, .null, .null, .int 0, .null, .null, .int 0, .int 0, .int 0, .int 0, .int 0, .int 0, .int 0, .int 0, .null, .null, .null, .int 0, .int 0, .int 0, .int 0, .null, .int 0, .int 0]
theorem cMs_10 (a : Nat) : (cM_9 a).set 13 (.ref (a + 86)) = cM_10 a := rfl
def cM_11 (a : Nat) : List Value := [.int 0, .int 0, .ref (a + 78), .ref (a + 79), .ref (a + 80), .ref (a + 81), .int 0, .int 0, .ref (a + 82), .ref (a + 83), .ref (a + 84), .ref (a + 85), .int 1, .ref (a + 86), .ref (a + 87), .null, .null, .null, .null, .null, .null, .null, .null, .null, .int 0, .null, .null, .int 0, .int 0, .int 0, .int 0, .int 0, .int 0, .int 0, .int 0, .null, .null, .null, .int 0, .int 0, .int 0, .int 0, .null, .int 0, .int 0]
theorem cMs_11 (a : Nat) : (cM_10 a).set 14 (.ref (a + 87)) = cM_11 a := rfl
def cM_12 (a : Nat) : List Value := [.int 0, .int 0, .ref (a + 78), .ref (a + 79), .ref (a + 80), .ref (a + 81), .int 0, .int 0, .ref (a + 82), .ref (a + 83), .ref (a + 84), .ref (a + 85), .int 1, .ref (a + 86), .ref (a + 87), .ref (a + 88), .null, .null, .null, .null, .null, .null, .null, .null, .int 0, .null, .null, .int 0, .int 0, .int 0, .int 0, .int 0, .int 0, .int 0, .int 0, .null, .null, .null, .int 0, .int 0, .int 0, .int 0, .null, .int 0, .int 0]
theorem cMs_12 (a : Nat) : (cM_11 a).set 15 (.ref (a + 88)) = cM_12 a := rfl
def cM_13 (a : Nat) : List Value := [.int 0, .int 0, .ref (a + 78), .ref (a + 79), .ref (a + 80), .ref (a + 81), .int 0, .int 0, .ref (a + 82), .ref (a + 83), .ref (a + 84), .ref (a + 85), .int 1, .ref (a + 86), .ref (a + 87), .ref (a + 88), .ref (a + 89), .null, .null, .null, .null, .null, .null, .null, .int 0, .null, .null, .int 0, .int 0, .int 0, .int 0, .int 0, .int 0, .int 0, .int 0, .null, .null, .null, .int 0, .int 0, .int 0, .int 0, .null, .int 0, .int 0]
theorem cMs_13 (a : Nat) : (cM_12 a).set 16 (.ref (a + 89)) = cM_13 a := rfl
def cM_14 (a : Nat) : List Value := [.int 0, .int 0, .ref (a + 78), .ref (a + 79), .ref (a + 80), .ref (a + 81), .int 0, .int 0, .ref (a + 82), .ref (a + 83), .ref (a + 84), .ref (a + 85), .int 1, .ref (a + 86), .ref (a + 87), .ref (a + 88), .ref (a + 89), .ref (a + 90), .null, .null, .null, .null, .null, .null, .int 0, .null, .null, .int 0, .int 0, .int 0, .int 0, .int 0, .int 0, .int 0, .int 0, .null, .null, .null, .int 0, .int 0, .int 0, .int 0, .null, .int 0, .int 0]
theorem cMs_14 (a : Nat) : (cM_13 a).set 17 (.ref (a + 90)) = cM_14 a := rfl
def cM_15 (a : Nat) : List Value := [.int 0, .int 0, .ref (a + 78), .ref (a + 79), .ref (a + 80), .ref (a + 81), .int 0, .int 0, .ref (a + 82), .ref (a + 83), .ref (a + 84), .ref (a + 85), .int 1, .ref (a + 86), .ref (a + 87), .ref (a + 88), .ref (a + 89), .ref (a + 90), .ref (a + 91), .null, .null, .null, .null, .null, .int 0, .null, .null, .int 0, .int 0, .int 0, .int 0, .int 0, .int 0, .int 0, .int 0, .null, .null, .null, .int 0, .int 0, .int 0, .int 0, .null, .int 0, .int 0]
theorem cMs_15 (a : Nat) : (cM_14 a).set 18 (.ref (a + 91)) = cM_15 a := rfl
def cM_16 (a : Nat) : List Value := [.int 0, .int 0, .ref (a + 78), .ref (a + 79), .ref (a + 80), .ref (a + 81), .int 0, .int 0, .ref (a + 82), .ref (a + 83), .ref (a + 84), .ref (a + 85), .int 1, .ref (a + 86), .ref (a + 87), .ref (a + 88), .ref (a + 89), .ref (a + 90), .ref (a + 91), .ref (a + 92), .null, .null, .null, .null, .int 0, .null, .null, .int 0, .int 0, .int 0, .int 0, .int 0, .int 0, .int 0, .int 0, .null, .null, .null, .int 0, .int 0, .int 0, .int 0, .null, .int 0, .int 0]
theorem cMs_16 (a : Nat) : (cM_15 a).set 19 (.ref (a + 92)) = cM_16 a := rfl
def cM_17 (a : Nat) : List Value := [.int 0, .int 0, .ref (a + 78), .ref (a + 79), .ref (a + 80), .ref (a + 81), .int 0, .int 0, .ref (a + 82), .ref (a + 83), .ref (a + 84), .ref (a + 85), .int 1, .ref (a + 86), .ref (a + 87), .ref (a + 88), .ref (a + 89), .ref (a + 90), .ref (a + 91), .ref (a + 92), .ref (a + 93), .null, .null, .null, .int 0, .null, .null, .int 0, .int 0, .int 0, .int 0, .int 0, .int 0, .int 0, .int 0, .null, .null, .null, .int 0, .int 0, .int 0, .int 0, .null, .int 0, .int 0]
theorem cMs_17 (a : Nat) : (cM_16 a).set 20 (.ref (a + 93)) = cM_17 a := rfl
def cM_18 (a : Nat) : List Value := [.int 0, .int 0, .ref (a + 78), .ref (a + 79), .ref (a + 80), .ref (a + 81), .int 0, .int 0, .ref (a + 82), .ref (a + 83), .ref (a + 84), .ref (a + 85), .int 1, .ref (a + 86), .ref (a + 87), .ref (a + 88), .ref (a + 89), .ref (a + 90), .ref (a + 91), .ref (a + 92), .ref (a + 93), .ref (a + 94), .null, .null, .int 0, .null, .null, .int 0, .int 0, .int 0, .int 0, .int 0, .int 0, .int 0, .int 0, .null, .null, .null, .int 0, .int 0, .int 0, .int 0, .null, .int 0, .int 0]
theorem cMs_18 (a : Nat) : (cM_17 a).set 21 (.ref (a + 94)) = cM_18 a := rfl
def cM_19 (a : Nat) : List Value := [.int 0, .int 0, .ref (a + 78), .ref (a + 79), .ref (a + 80), .ref (a + 81), .int 0, .int 0, .ref (a + 82), .ref (a + 83), .ref (a + 84), .ref (a + 85), .int 1, .ref (a + 86), .ref (a + 87), .ref (a + 88), .ref (a + 89), .ref (a + 90), .ref (a + 91), .ref (a + 92), .ref (a + 93), .ref (a + 94), .ref (a + 95), .null, .int 0, .null, .null, .int 0, .int 0, .int 0, .int 0, .int 0, .int 0, .int 0, .int 0, .null, .null, .null, .int 0, .int 0, .int 0, .int 0, .null, .int 0, .int 0]
theorem cMs_19 (a : Nat) : (cM_18 a).set 22 (.ref (a + 95)) = cM_19 a := rfl
def cM_20 (a : Nat) : List Value := [.int 0, .int 0, .ref (a + 78), .ref (a + 79), .ref (a + 80), .ref (a + 81), .int 0, .int 0, .ref (a + 82), .ref (a + 83), .ref (a + 84), .ref (a + 85), .int 1, .ref (a + 86), .ref (a + 87), .ref (a + 88), .ref (a + 89), .ref (a + 90), .ref (a + 91), .ref (a + 92), .ref (a + 93), .ref (a + 94), .ref (a + 95), .ref (a + 96), .int 0, .null, .null, .int 0, .int 0, .int 0, .int 0, .int 0, .int 0, .int 0, .int 0, .null, .null, .null, .int 0, .int 0, .int 0, .int 0, .null, .int 0, .int 0]
theorem cMs_20 (a : Nat) : (cM_19 a).set 23 (.ref (a + 96)) = cM_20 a := rfl
def cM_21 (a : Nat) : List Value := [.int 0, .int 0, .ref (a + 78), .ref (a + 79), .ref (a + 80), .ref (a + 81), .int 0, .int 0, .ref (a + 82), .ref (a + 83), .ref (a + 84), .ref (a + 85), .int 1, .ref (a + 86), .ref (a + 87), .ref (a + 88), .ref (a + 89), .ref (a + 90), .ref (a + 91), .ref (a + 92), .ref (a + 93), .ref (a + 94), .ref (a + 95), .ref (a + 96), .int 0, .ref (a + 97), .null, .int 0, .int 0, .int 0, .int 0, .int 0, .int 0, .int 0, .int 0, .null, .null, .null, .int 0, .int 0, .int 0, .int 0, .null, .int 0, .int 0]
theorem cMs_21 (a : Nat) : (cM_20 a).set 25 (.ref (a + 97)) = cM_21 a := rfl
def cM_22 (a : Nat) : List Value := [.int 0, .int 0, .ref (a + 78), .ref (a + 79), .ref (a + 80), .ref (a + 81), .int 0, .int 0, .ref (a + 82), .ref (a + 83), .ref (a + 84), .ref (a + 85), .int 1, .ref (a + 86), .ref (a + 87), .ref (a + 88), .ref (a + 89), .ref (a + 90), .ref (a + 91), .ref (a + 92), .ref (a + 93), .ref (a + 94), .ref (a + 95), .ref (a + 96), .int 0, .ref (a + 97), .ref (a + 98), .int 0, .int 0, .int 0, .int 0, .int 0, .int 0, .int 0, .int 0, .null, .null, .null, .int 0, .int 0, .int 0, .int 0, .null, .int 0, .int 0]
theorem cMs_22 (a : Nat) : (cM_21 a).set 26 (.ref (a + 98)) = cM_22 a := rfl
def cM_23 (a : Nat) : List Value := [.int 0, .int 0, .ref (a + 78), .ref (a + 79), .ref (a + 80), .ref (a + 81), .int 0, .int 0, .ref (a + 82), .ref (a + 83), .ref (a + 84), .ref (a + 85), .int 1, .ref (a + 86), .ref (a + 87), .ref (a + 88), .ref (a + 89), .ref (a + 90), .ref (a + 91), .ref (a + 92), .ref (a + 93), .ref (a + 94), .ref (a + 95), .ref (a + 96), .int 0, .ref (a + 97), .ref (a + 98), .int 0, .int 0, .int (-1), .int 0, .int 0, .int 0, .int 0, .int 0, .null, .null, .null, .int 0, .int 0, .int 0, .int 0, .null, .int 0, .int 0]
theorem cMs_23 (a : Nat) : (cM_22 a).set 29 (.int (-1)) = cM_23 a := rfl
def cM_24 (a : Nat) : List Value := [.int 0, .int 0, .ref (a + 78), .ref (a + 79), .ref (a + 80), .ref (a + 81), .int 0, .int 0, .ref (a + 82), .ref (a + 83), .ref (a + 84), .ref (a + 85), .int 1, .ref (a + 86), .ref (a + 87), .ref (a + 88), .ref (a + 89), .ref (a + 90), .ref (a + 91), .ref (a + 92), .ref (a + 93), .ref (a + 94), .ref (a + 95), .ref (a + 96), .int 0, .ref (a + 97), .ref (a + 98), .int 0, .int 0, .int (-1), .int 0, .int 0, .int (-1), .int 0, .int 0, .null, .null, .null, .int 0, .int 0, .int 0, .int 0, .null, .int 0, .int 0]
theorem cMs_24 (a : Nat) : (cM_23 a).set 32 (.int (-1)) = cM_24 a := rfl
def cM_25 (a : Nat) : List Value := [.int 0, .int 0, .ref (a + 78), .ref (a + 79), .ref (a + 80), .ref (a + 81), .int 0, .int 0, .ref (a + 82), .ref (a + 83), .ref (a + 84), .ref (a + 85), .int 1, .ref (a + 86), .ref (a + 87), .ref (a + 88), .ref (a + 89), .ref (a + 90), .ref (a + 91), .ref (a + 92), .ref (a + 93), .ref (a + 94), .ref (a + 95), .ref (a + 96), .int 0, .ref (a + 97), .ref (a + 98), .int 0, .int 0, .int (-1), .int 0, .int 0, .int (-1), .int 0, .int 0, .ref (a + 99), .null, .null, .int 0, .int 0, .int 0, .int 0, .null, .int 0, .int 0]
theorem cMs_25 (a : Nat) : (cM_24 a).set 35 (.ref (a + 99)) = cM_25 a := rfl
def cM_26 (a : Nat) : List Value := [.int 0, .int 0, .ref (a + 78), .ref (a + 79), .ref (a + 80), .ref (a + 81), .int 0, .int 0, .ref (a + 82), .ref (a + 83), .ref (a + 84), .ref (a + 85), .int 1, .ref (a + 86), .ref (a + 87), .ref (a + 88), .ref (a + 89), .ref (a + 90), .ref (a + 91), .ref (a + 92), .ref (a + 93), .ref (a + 94), .ref (a + 95), .ref (a + 96), .int 0, .ref (a + 97), .ref (a + 98), .int 0, .int 0, .int (-1), .int 0, .int 0, .int (-1), .int 0, .int 0, .ref (a + 99), .ref (a + 100), .null, .int 0, .int 0, .int 0, .int 0, .null, .int 0, .int 0]
theorem cMs_26 (a : Nat) : (cM_25 a).set 36 (.ref (a + 100)) = cM_26 a := rfl
def cM_27 (a : Nat) : List Value := [.int 0, .int 0, .ref (a + 78), .ref (a + 79), .ref (a + 80), .ref (a + 81), .int 0, .int 0, .ref (a + 82), .ref (a + 83), .ref (a + 84), .ref (a + 85), .int 1, .ref (a + 86), .ref (a + 87), .ref (a + 88), .ref (a + 89), .ref (a + 90), .ref (a + 91), .ref (a + 92), .ref (a + 93), .ref (a + 94), .ref (a + 95), .ref (a + 96), .int 0, .ref (a + 97), .ref (a + 98), .int 0, .int 0, .int (-1), .int 0, .int 0, .int (-1), .int 0, .int 0, .ref (a + 99), .ref (a + 100), .ref (a + 101), .int 0, .int 0, .int 0, .int 0, .null, .int 0, .int 0]
theorem cMs_27 (a : Nat) : (cM_26 a).set 37 (.ref (a + 101)) = cM_27 a := rfl
def cM_28 (a : Nat) : List Value := [.int 0, .int 0, .ref (a + 78), .ref (a + 79), .ref (a + 80), .ref (a + 81), .int 0, .int 0, .ref (a + 82), .ref (a + 83), .ref (a + 84), .ref (a + 85), .int 1, .ref (a + 86), .ref (a + 87), .ref (a + 88), .ref (a + 89), .ref (a + 90), .ref (a + 91), .ref (a + 92), .ref (a + 93), .ref (a + 94), .ref (a + 95), .ref (a + 96), .int 0, .ref (a + 97), .ref (a + 98), .int 0, .int 0, .int (-1), .int 0, .int 0, .int (-1), .int 0, .int 0, .ref (a + 99), .ref (a + 100), .ref (a + 101), .int 0, .int 0, .int 0, .int 0, .ref (a + 102), .int 0, .int 0]
theorem cMs_28 (a : Nat) : (cM_27 a).set 42 (.ref (a + 102)) = cM_28 a := rfl
theorem cMs_e (a : Nat) : cM_28 a = eModel a rM := by
  unfold eModel cM_28
  rw [show rM 0 = 0 from by decide +kernel, show rM 1 = 0 from by decide +kernel, show rM 6 = 0 from by decide +kernel, show rM 7 = 0 from by decide +kernel, show rM 12 = 1 from by decide +kernel, show rM 24 = 0 from by decide +kernel, show rM 27 = 0 from by decide +kernel, show rM 28 = 0 from by decide +kernel, show rM 29 = -1 from by decide +kernel, show rM 30 = 0 from by decide +kernel, show rM 31 = 0 from by decide +kernel, show rM 32 = -1 from by decide +kernel, show rM 33 = 0 from by decide +kernel, show rM 34 = 0 from by decide +kernel, show rM 38 = 0 from by decide +kernel, show rM 39 = 0 from by decide +kernel, show rM 40 = 0 from by decide +kernel, show rM 41 = 0 from by decide +kernel, show rM 43 = 0 from by decide +kernel, show rM 44 = 0 from by decide +kernel]
section Mi6
variable {p : Program} {l : Launch} {e : Env} {s : State} {m : MethodId} {args : Array Value} {below : List Frame} {meth : Method} {c : Code} {D : va_G} {cy : Nat → ClassId} {a : Nat} {Q : State → Prop}
set_option maxHeartbeats 1000000 in
theorem gRowM (hx : p.tables.exec = Jvm.exec) (hb : c.code = cX6_init) (hown : s.vm.findClass RX6 = some m.cls) (hmn : meth.name = "<init>") (hts : ∀ w ∈ wsX6_init, w.before args s = true) (hK : KS D cy s) {cells slots n N j pc index : Nat} {x : Int32} {fs rest : List Value} {E : Nat → va_E} {H : Heap} {locs : List Loc} {ls : Array Slot} (ha : a ≤ s.heap.size) (hsz : s.heap.size + cells = a + n) (hn : 78 ≤ n) (hN : mlen n = N) (hx0 : ¬ x < 0) (hxN : x.toNatClampNeg = N) (hbytes : N * componentBytes .int ≤ 536870912) (hj : j < 45) (hlink : (Cond.fieldLink RX6 index "BatchPipeModel" (TX6 j).2.1 (TX6 j).2.2.1).before args s = true) (href : (TX6 j).1 = "BatchPipeModel") (hfin : (TX6 j).2.2.2 = true) (hdecl : (TX6 j).1 = RX6) (hnar : ∀ q : Nat, narrow (tyX6 j) (.ref q) = .ref q) (hfit : ∀ q : Nat, fits (tyX6 j) (.ref q) = true) (hlen : fs.length = 45) (hc : cells + 1 ≤ 25) (hs : slots + N ≤ 1225) (hd1 : decode cX6_init pc = .ok (.newarray .int, 2)) (hd2 : decode cX6_init (pc + 2) = .ok (.putfield index, 3)) (hw : GP D a n (EA cy E fs) H) (hS : va_S (Aq a) s.heap H locs)
    (kk : ∀ (H : Heap) (locs : List Loc) (gs : List Value), gs = fs.set j (.ref (a + n)) → gs.length = 45 → GP D a (n + 1) (EA cy E gs) H → va_S (Aq a) s.heap H locs → W p l e rI6 s m args below meth c H locs (cells + 1) (slots + N) Q (F0 m (pc + 2 + 3) ls rest)) : W p l e rI6 s m args below meth c H locs cells slots Q (F0 m pc ls (.int x :: .ref (a + 77) :: rest)) := by
  refine gNewa (ty := .int) (t0 := 0) (N' := N) (a0 := (N, .inl (fun _ => 0))) hx hb (hts _ (by decide +kernel)) rfl hK rfl (fun _ h => h) hw hS ha hsz (fun _ => rfl) hx0 hxN hbytes hc hs hd1 (fun H hw hS => ?_)
  refine gPutF hx hb hts iX6_init_X6 tyX6 tyX6_ok nmX6 hown hmn hK hw hS (k := 77) (by omega) (fs := fs) (by rw [va_up_ne _ _ (by omega)]; exact EA_m) rfl j hj hlink href hfin hdecl (hnar _) (hfit _) (by omega) hd2 (fun H locs hw hS => ?_)
  refine kk H locs (fs.set j (.ref (a + n))) rfl (by rw [List.length_set]; exact hlen) ?_ hS
  show va_P D vwCl (GW a (n + 1) _) _
  rw [show GW a (n + 1) (EA cy E (fs.set j (.ref (a + n)))) = _ from GW_c (fun k hk => ?_)]
  · exact hw
  · by_cases h1 : k = 77
    · subst h1
      rw [va_up_self]
      exact EA_m
    rw [va_up_ne _ _ h1]
    by_cases h2 : k = n
    · rw [h2, va_up_self, EA_r hn, hN]
    rw [va_up_ne _ _ h2]
    exact EA_n h1
theorem gPutM (hx : p.tables.exec = Jvm.exec) (hb : c.code = cX6_init) (hown : s.vm.findClass RX6 = some m.cls) (hts : ∀ w ∈ wsX6_init, w.before args s = true) (hK : KS D cy s) {cells slots n j pc index : Nat} {x : Int32} {fs rest : List Value} {E : Nat → va_E} {H : Heap} {locs : List Loc} {ls : Array Slot} (hn : 78 ≤ n) (hj : j < 45) (hlink : (Cond.fieldLink RX6 index "BatchPipeModel" (TX6 j).2.1 (TX6 j).2.2.1).before args s = true) (href : (TX6 j).1 = "BatchPipeModel") (hfin : (TX6 j).2.2.2 = false) (hnar : ∀ q : Int32, narrow (tyX6 j) (.int q) = .int q) (hfit : ∀ q : Int32, fits (tyX6 j) (.int q) = true) (hlen : fs.length = 45) (hd2 : decode cX6_init pc = .ok (.putfield index, 3)) (hw : GP D a n (EA cy E fs) H) (hS : va_S (Aq a) s.heap H locs)
    (kk : ∀ (H : Heap) (locs : List Loc) (gs : List Value), gs = fs.set j (.int x) → gs.length = 45 → GP D a n (EA cy E gs) H → va_S (Aq a) s.heap H locs → W p l e rI6 s m args below meth c H locs cells slots Q (F0 m (pc + 3) ls rest)) : W p l e rI6 s m args below meth c H locs cells slots Q (F0 m pc ls (.int x :: .ref (a + 77) :: rest)) := by
  refine gPut hx hb hts iX6_init_X6 tyX6 tyX6_ok nmX6 hown hK hw hS (k := 77) (by omega) (fs := fs) EA_m rfl j hj hlink href hfin (hnar _) (hfit _) (by omega) hd2 (fun H locs hw hS => ?_)
  refine kk H locs (fs.set j (.int x)) rfl (by rw [List.length_set]; exact hlen) ?_ hS
  show va_P D vwCl (GW a n _) _
  rw [show GW a n (EA cy E (fs.set j (.int x))) = _ from GW_c (fun k hk => ?_)]
  · exact hw
  · by_cases h1 : k = 77
    · subst h1
      rw [va_up_self]
      exact EA_m
    rw [va_up_ne _ _ h1]
    exact EA_n h1
set_option maxRecDepth 100000 in
set_option maxHeartbeats 16000000 in
theorem bX6_init_0 (hx : p.tables.exec = Jvm.exec) (hb : c.code = cX6_init) (hml : c.maxLocals = 2) (hown : s.vm.findClass RX6 = some m.cls) (hmn : meth.name = "<init>") (hts : ∀ w ∈ wsX6_init, w.before args s = true) (hK : KS D cy s) (hsz : s.heap.size = a + 78) {E : Nat → va_E} (he : E 77 = .inr (6, cMn)) {H : Heap} {locs : List Loc} {ls : Array Slot} (hw : GP D a 78 E H) (hS : va_S (Aq a) s.heap H locs) (hl : lv_has ls 2 [(0, .ref (a + 77))])
    (K : ∀ (H : Heap) (locs : List Loc), GP D a 103 (EJ cy a E 0 0) H → va_S (Aq a) s.heap H locs → W p l e rI6 s m args below meth c H locs 25 1225 Q (F0 m 217 ls [])) : W p l e rI6 s m args below meth c H locs 0 0 Q (F0 m 0 ls []) := by
  obtain ⟨f0, h0, e0⟩ : ∃ f0 : List Value, f0.length = 45 ∧ f0 = cM_0 a := ⟨cM_0 a, rfl, rfl⟩
  have hw : GP D a 78 (EA cy E f0) H := by
    show va_P D vwCl (GW a 78 _) _
    rw [show GW a 78 (EA cy E f0) = GW a 78 E from GW_c (fun k hk => ?_)]
    · exact hw
    · by_cases z : k = 77
      · rw [z, he, e0]
        rfl
      · exact EA_0 (by omega)
  refine lv_aload_n hx hb dX6_init_0 rfl (lv_at hl 0 rfl) ?_
  refine W.objInit hx hb hown (hts _ (by decide +kernel)) (hts _ (by decide +kernel)) (hts _ (by decide +kernel)) rfl (by rw [hml]; exact hl.1) rfl dX6_init_1 (Nat.le_of_ble_eq_true rfl) (Nat.le_of_ble_eq_true rfl) ?_
  refine lv_aload_n hx hb dX6_init_4 rfl (lv_at hl 0 rfl) ?_
  refine lv_bipush (v := (6 : Int32)) hx hb dX6_init_5 (by decide) ?_
  refine gRowM (n := 78) (N := 6) (j := 2) hx hb hown hmn hts hK (by omega) (by omega) (Nat.le_of_ble_eq_true rfl) rfl (by decide) rfl (Nat.le_of_ble_eq_true rfl) (Nat.le_of_ble_eq_true rfl) (hts _ (by decide +kernel)) rfl rfl rfl (fun _ => rfl) (fun _ => rfl) h0 (Nat.le_of_ble_eq_true rfl) (Nat.le_of_ble_eq_true rfl) dX6_init_7 dX6_init_9 hw hS (fun H locs f1 e1 h1 hw hS => ?_)
  rw [e0, cMs_1] at e1
  refine lv_aload_n hx hb dX6_init_12 rfl (lv_at hl 0 rfl) ?_
  refine lv_bipush (v := (6 : Int32)) hx hb dX6_init_13 (by decide) ?_
  refine gRowM (n := 79) (N := 6) (j := 3) hx hb hown hmn hts hK (by omega) (by omega) (Nat.le_of_ble_eq_true rfl) rfl (by decide) rfl (Nat.le_of_ble_eq_true rfl) (Nat.le_of_ble_eq_true rfl) (hts _ (by decide +kernel)) rfl rfl rfl (fun _ => rfl) (fun _ => rfl) h1 (Nat.le_of_ble_eq_true rfl) (Nat.le_of_ble_eq_true rfl) dX6_init_15 dX6_init_17 hw hS (fun H locs f2 e2 h2 hw hS => ?_)
  rw [e1, cMs_2] at e2
  refine lv_aload_n hx hb dX6_init_20 rfl (lv_at hl 0 rfl) ?_
  refine lv_bipush (v := (6 : Int32)) hx hb dX6_init_21 (by decide) ?_
  refine gRowM (n := 80) (N := 6) (j := 4) hx hb hown hmn hts hK (by omega) (by omega) (Nat.le_of_ble_eq_true rfl) rfl (by decide) rfl (Nat.le_of_ble_eq_true rfl) (Nat.le_of_ble_eq_true rfl) (hts _ (by decide +kernel)) rfl rfl rfl (fun _ => rfl) (fun _ => rfl) h2 (Nat.le_of_ble_eq_true rfl) (Nat.le_of_ble_eq_true rfl) dX6_init_23 dX6_init_25 hw hS (fun H locs f3 e3 h3 hw hS => ?_)
  rw [e2, cMs_3] at e3
  refine lv_aload_n hx hb dX6_init_28 rfl (lv_at hl 0 rfl) ?_
  refine lv_bipush (v := (6 : Int32)) hx hb dX6_init_29 (by decide) ?_
  refine gRowM (n := 81) (N := 6) (j := 5) hx hb hown hmn hts hK (by omega) (by omega) (Nat.le_of_ble_eq_true rfl) rfl (by decide) rfl (Nat.le_of_ble_eq_true rfl) (Nat.le_of_ble_eq_true rfl) (hts _ (by decide +kernel)) rfl rfl rfl (fun _ => rfl) (fun _ => rfl) h3 (Nat.le_of_ble_eq_true rfl) (Nat.le_of_ble_eq_true rfl) dX6_init_31 dX6_init_33 hw hS (fun H locs f4 e4 h4 hw hS => ?_)
  rw [e3, cMs_4] at e4
  refine lv_aload_n hx hb dX6_init_36 rfl (lv_at hl 0 rfl) ?_
  refine lv_bipush (v := (6 : Int32)) hx hb dX6_init_37 (by decide) ?_
  refine gRowM (n := 82) (N := 6) (j := 8) hx hb hown hmn hts hK (by omega) (by omega) (Nat.le_of_ble_eq_true rfl) rfl (by decide) rfl (Nat.le_of_ble_eq_true rfl) (Nat.le_of_ble_eq_true rfl) (hts _ (by decide +kernel)) rfl rfl rfl (fun _ => rfl) (fun _ => rfl) h4 (Nat.le_of_ble_eq_true rfl) (Nat.le_of_ble_eq_true rfl) dX6_init_39 dX6_init_41 hw hS (fun H locs f5 e5 h5 hw hS => ?_)
  rw [e4, cMs_5] at e5
  refine lv_aload_n hx hb dX6_init_44 rfl (lv_at hl 0 rfl) ?_
  refine lv_bipush (v := (6 : Int32)) hx hb dX6_init_45 (by decide) ?_
  refine gRowM (n := 83) (N := 6) (j := 9) hx hb hown hmn hts hK (by omega) (by omega) (Nat.le_of_ble_eq_true rfl) rfl (by decide) rfl (Nat.le_of_ble_eq_true rfl) (Nat.le_of_ble_eq_true rfl) (hts _ (by decide +kernel)) rfl rfl rfl (fun _ => rfl) (fun _ => rfl) h5 (Nat.le_of_ble_eq_true rfl) (Nat.le_of_ble_eq_true rfl) dX6_init_47 dX6_init_49 hw hS (fun H locs f6 e6 h6 hw hS => ?_)
  rw [e5, cMs_6] at e6
  refine lv_aload_n hx hb dX6_init_52 rfl (lv_at hl 0 rfl) ?_
  refine lv_bipush (v := (6 : Int32)) hx hb dX6_init_53 (by decide) ?_
  refine gRowM (n := 84) (N := 6) (j := 10) hx hb hown hmn hts hK (by omega) (by omega) (Nat.le_of_ble_eq_true rfl) rfl (by decide) rfl (Nat.le_of_ble_eq_true rfl) (Nat.le_of_ble_eq_true rfl) (hts _ (by decide +kernel)) rfl rfl rfl (fun _ => rfl) (fun _ => rfl) h6 (Nat.le_of_ble_eq_true rfl) (Nat.le_of_ble_eq_true rfl) dX6_init_55 dX6_init_57 hw hS (fun H locs f7 e7 h7 hw hS => ?_)
  rw [e6, cMs_7] at e7
  refine lv_aload_n hx hb dX6_init_60 rfl (lv_at hl 0 rfl) ?_
  refine lv_bipush (v := (6 : Int32)) hx hb dX6_init_61 (by decide) ?_
  refine gRowM (n := 85) (N := 6) (j := 11) hx hb hown hmn hts hK (by omega) (by omega) (Nat.le_of_ble_eq_true rfl) rfl (by decide) rfl (Nat.le_of_ble_eq_true rfl) (Nat.le_of_ble_eq_true rfl) (hts _ (by decide +kernel)) rfl rfl rfl (fun _ => rfl) (fun _ => rfl) h7 (Nat.le_of_ble_eq_true rfl) (Nat.le_of_ble_eq_true rfl) dX6_init_63 dX6_init_65 hw hS (fun H locs f8 e8 h8 hw hS => ?_)
  rw [e7, cMs_8] at e8
  refine lv_aload_n hx hb dX6_init_68 rfl (lv_at hl 0 rfl) ?_
  refine lv_iconst (v := (1 : Int32)) hx hb dX6_init_69 (by decide) ?_
  refine gPutM (n := 86) (j := 12) hx hb hown hts hK (Nat.le_of_ble_eq_true rfl) (Nat.le_of_ble_eq_true rfl) (hts _ (by decide +kernel)) rfl rfl (fun _ => rfl) (fun _ => rfl) h8 dX6_init_70 hw hS (fun H locs f9 e9 h9 hw hS => ?_)
  rw [e8, cMs_9] at e9
  refine lv_aload_n hx hb dX6_init_73 rfl (lv_at hl 0 rfl) ?_
  refine lv_bipush (v := (40 : Int32)) hx hb dX6_init_74 (by decide) ?_
  refine gRowM (n := 86) (N := 40) (j := 13) hx hb hown hmn hts hK (by omega) (by omega) (Nat.le_of_ble_eq_true rfl) rfl (by decide) rfl (Nat.le_of_ble_eq_true rfl) (Nat.le_of_ble_eq_true rfl) (hts _ (by decide +kernel)) rfl rfl rfl (fun _ => rfl) (fun _ => rfl) h9 (Nat.le_of_ble_eq_true rfl) (Nat.le_of_ble_eq_true rfl) dX6_init_76 dX6_init_78 hw hS (fun H locs f10 e10 h10 hw hS => ?_)
  rw [e9, cMs_10] at e10
  refine lv_aload_n hx hb dX6_init_81 rfl (lv_at hl 0 rfl) ?_
  refine lv_bipush (v := (40 : Int32)) hx hb dX6_init_82 (by decide) ?_
  refine gRowM (n := 87) (N := 40) (j := 14) hx hb hown hmn hts hK (by omega) (by omega) (Nat.le_of_ble_eq_true rfl) rfl (by decide) rfl (Nat.le_of_ble_eq_true rfl) (Nat.le_of_ble_eq_true rfl) (hts _ (by decide +kernel)) rfl rfl rfl (fun _ => rfl) (fun _ => rfl) h10 (Nat.le_of_ble_eq_true rfl) (Nat.le_of_ble_eq_true rfl) dX6_init_84 dX6_init_86 hw hS (fun H locs f11 e11 h11 hw hS => ?_)
  rw [e10, cMs_11] at e11
  refine lv_aload_n hx hb dX6_init_89 rfl (lv_at hl 0 rfl) ?_
  refine lv_bipush (v := (40 : Int32)) hx hb dX6_init_90 (by decide) ?_
  refine gRowM (n := 88) (N := 40) (j := 15) hx hb hown hmn hts hK (by omega) (by omega) (Nat.le_of_ble_eq_true rfl) rfl (by decide) rfl (Nat.le_of_ble_eq_true rfl) (Nat.le_of_ble_eq_true rfl) (hts _ (by decide +kernel)) rfl rfl rfl (fun _ => rfl) (fun _ => rfl) h11 (Nat.le_of_ble_eq_true rfl) (Nat.le_of_ble_eq_true rfl) dX6_init_92 dX6_init_94 hw hS (fun H locs f12 e12 h12 hw hS => ?_)
  rw [e11, cMs_12] at e12
  refine lv_aload_n hx hb dX6_init_97 rfl (lv_at hl 0 rfl) ?_
  refine lv_bipush (v := (40 : Int32)) hx hb dX6_init_98 (by decide) ?_
  refine gRowM (n := 89) (N := 40) (j := 16) hx hb hown hmn hts hK (by omega) (by omega) (Nat.le_of_ble_eq_true rfl) rfl (by decide) rfl (Nat.le_of_ble_eq_true rfl) (Nat.le_of_ble_eq_true rfl) (hts _ (by decide +kernel)) rfl rfl rfl (fun _ => rfl) (fun _ => rfl) h12 (Nat.le_of_ble_eq_true rfl) (Nat.le_of_ble_eq_true rfl) dX6_init_100 dX6_init_102 hw hS (fun H locs f13 e13 h13 hw hS => ?_)
  rw [e12, cMs_13] at e13
  refine lv_aload_n hx hb dX6_init_105 rfl (lv_at hl 0 rfl) ?_
  refine lv_bipush (v := (40 : Int32)) hx hb dX6_init_106 (by decide) ?_
  refine gRowM (n := 90) (N := 40) (j := 17) hx hb hown hmn hts hK (by omega) (by omega) (Nat.le_of_ble_eq_true rfl) rfl (by decide) rfl (Nat.le_of_ble_eq_true rfl) (Nat.le_of_ble_eq_true rfl) (hts _ (by decide +kernel)) rfl rfl rfl (fun _ => rfl) (fun _ => rfl) h13 (Nat.le_of_ble_eq_true rfl) (Nat.le_of_ble_eq_true rfl) dX6_init_108 dX6_init_110 hw hS (fun H locs f14 e14 h14 hw hS => ?_)
  rw [e13, cMs_14] at e14
  refine lv_aload_n hx hb dX6_init_113 rfl (lv_at hl 0 rfl) ?_
  refine lv_bipush (v := (40 : Int32)) hx hb dX6_init_114 (by decide) ?_
  refine gRowM (n := 91) (N := 40) (j := 18) hx hb hown hmn hts hK (by omega) (by omega) (Nat.le_of_ble_eq_true rfl) rfl (by decide) rfl (Nat.le_of_ble_eq_true rfl) (Nat.le_of_ble_eq_true rfl) (hts _ (by decide +kernel)) rfl rfl rfl (fun _ => rfl) (fun _ => rfl) h14 (Nat.le_of_ble_eq_true rfl) (Nat.le_of_ble_eq_true rfl) dX6_init_116 dX6_init_118 hw hS (fun H locs f15 e15 h15 hw hS => ?_)
  rw [e14, cMs_15] at e15
  refine lv_aload_n hx hb dX6_init_121 rfl (lv_at hl 0 rfl) ?_
  refine lv_bipush (v := (40 : Int32)) hx hb dX6_init_122 (by decide) ?_
  refine gRowM (n := 92) (N := 40) (j := 19) hx hb hown hmn hts hK (by omega) (by omega) (Nat.le_of_ble_eq_true rfl) rfl (by decide) rfl (Nat.le_of_ble_eq_true rfl) (Nat.le_of_ble_eq_true rfl) (hts _ (by decide +kernel)) rfl rfl rfl (fun _ => rfl) (fun _ => rfl) h15 (Nat.le_of_ble_eq_true rfl) (Nat.le_of_ble_eq_true rfl) dX6_init_124 dX6_init_126 hw hS (fun H locs f16 e16 h16 hw hS => ?_)
  rw [e15, cMs_16] at e16
  refine lv_aload_n hx hb dX6_init_129 rfl (lv_at hl 0 rfl) ?_
  refine lv_bipush (v := (40 : Int32)) hx hb dX6_init_130 (by decide) ?_
  refine gRowM (n := 93) (N := 40) (j := 20) hx hb hown hmn hts hK (by omega) (by omega) (Nat.le_of_ble_eq_true rfl) rfl (by decide) rfl (Nat.le_of_ble_eq_true rfl) (Nat.le_of_ble_eq_true rfl) (hts _ (by decide +kernel)) rfl rfl rfl (fun _ => rfl) (fun _ => rfl) h16 (Nat.le_of_ble_eq_true rfl) (Nat.le_of_ble_eq_true rfl) dX6_init_132 dX6_init_134 hw hS (fun H locs f17 e17 h17 hw hS => ?_)
  rw [e16, cMs_17] at e17
  refine lv_aload_n hx hb dX6_init_137 rfl (lv_at hl 0 rfl) ?_
  refine lv_bipush (v := (40 : Int32)) hx hb dX6_init_138 (by decide) ?_
  refine gRowM (n := 94) (N := 40) (j := 21) hx hb hown hmn hts hK (by omega) (by omega) (Nat.le_of_ble_eq_true rfl) rfl (by decide) rfl (Nat.le_of_ble_eq_true rfl) (Nat.le_of_ble_eq_true rfl) (hts _ (by decide +kernel)) rfl rfl rfl (fun _ => rfl) (fun _ => rfl) h17 (Nat.le_of_ble_eq_true rfl) (Nat.le_of_ble_eq_true rfl) dX6_init_140 dX6_init_142 hw hS (fun H locs f18 e18 h18 hw hS => ?_)
  rw [e17, cMs_18] at e18
  refine lv_aload_n hx hb dX6_init_145 rfl (lv_at hl 0 rfl) ?_
  refine lv_bipush (v := (40 : Int32)) hx hb dX6_init_146 (by decide) ?_
  refine gRowM (n := 95) (N := 40) (j := 22) hx hb hown hmn hts hK (by omega) (by omega) (Nat.le_of_ble_eq_true rfl) rfl (by decide) rfl (Nat.le_of_ble_eq_true rfl) (Nat.le_of_ble_eq_true rfl) (hts _ (by decide +kernel)) rfl rfl rfl (fun _ => rfl) (fun _ => rfl) h18 (Nat.le_of_ble_eq_true rfl) (Nat.le_of_ble_eq_true rfl) dX6_init_148 dX6_init_150 hw hS (fun H locs f19 e19 h19 hw hS => ?_)
  rw [e18, cMs_19] at e19
  refine lv_aload_n hx hb dX6_init_153 rfl (lv_at hl 0 rfl) ?_
  refine lv_bipush (v := (40 : Int32)) hx hb dX6_init_154 (by decide) ?_
  refine gRowM (n := 96) (N := 40) (j := 23) hx hb hown hmn hts hK (by omega) (by omega) (Nat.le_of_ble_eq_true rfl) rfl (by decide) rfl (Nat.le_of_ble_eq_true rfl) (Nat.le_of_ble_eq_true rfl) (hts _ (by decide +kernel)) rfl rfl rfl (fun _ => rfl) (fun _ => rfl) h19 (Nat.le_of_ble_eq_true rfl) (Nat.le_of_ble_eq_true rfl) dX6_init_156 dX6_init_158 hw hS (fun H locs f20 e20 h20 hw hS => ?_)
  rw [e19, cMs_20] at e20
  refine lv_aload_n hx hb dX6_init_161 rfl (lv_at hl 0 rfl) ?_
  refine lv_sipush (v := (360 : Int32)) hx hb dX6_init_162 (by decide) ?_
  refine gRowM (n := 97) (N := 360) (j := 25) hx hb hown hmn hts hK (by omega) (by omega) (Nat.le_of_ble_eq_true rfl) rfl (by decide) rfl (Nat.le_of_ble_eq_true rfl) (Nat.le_of_ble_eq_true rfl) (hts _ (by decide +kernel)) rfl rfl rfl (fun _ => rfl) (fun _ => rfl) h20 (Nat.le_of_ble_eq_true rfl) (Nat.le_of_ble_eq_true rfl) dX6_init_165 dX6_init_167 hw hS (fun H locs f21 e21 h21 hw hS => ?_)
  rw [e20, cMs_21] at e21
  refine lv_aload_n hx hb dX6_init_170 rfl (lv_at hl 0 rfl) ?_
  refine lv_sipush (v := (360 : Int32)) hx hb dX6_init_171 (by decide) ?_
  refine gRowM (n := 98) (N := 360) (j := 26) hx hb hown hmn hts hK (by omega) (by omega) (Nat.le_of_ble_eq_true rfl) rfl (by decide) rfl (Nat.le_of_ble_eq_true rfl) (Nat.le_of_ble_eq_true rfl) (hts _ (by decide +kernel)) rfl rfl rfl (fun _ => rfl) (fun _ => rfl) h21 (Nat.le_of_ble_eq_true rfl) (Nat.le_of_ble_eq_true rfl) dX6_init_174 dX6_init_176 hw hS (fun H locs f22 e22 h22 hw hS => ?_)
  rw [e21, cMs_22] at e22
  refine lv_aload_n hx hb dX6_init_179 rfl (lv_at hl 0 rfl) ?_
  refine lv_iconst (v := (-1 : Int32)) hx hb dX6_init_180 (by decide) ?_
  refine gPutM (n := 99) (j := 29) hx hb hown hts hK (Nat.le_of_ble_eq_true rfl) (Nat.le_of_ble_eq_true rfl) (hts _ (by decide +kernel)) rfl rfl (fun _ => rfl) (fun _ => rfl) h22 dX6_init_181 hw hS (fun H locs f23 e23 h23 hw hS => ?_)
  rw [e22, cMs_23] at e23
  refine lv_aload_n hx hb dX6_init_184 rfl (lv_at hl 0 rfl) ?_
  refine lv_iconst (v := (-1 : Int32)) hx hb dX6_init_185 (by decide) ?_
  refine gPutM (n := 99) (j := 32) hx hb hown hts hK (Nat.le_of_ble_eq_true rfl) (Nat.le_of_ble_eq_true rfl) (hts _ (by decide +kernel)) rfl rfl (fun _ => rfl) (fun _ => rfl) h23 dX6_init_186 hw hS (fun H locs f24 e24 h24 hw hS => ?_)
  rw [e23, cMs_24] at e24
  refine lv_aload_n hx hb dX6_init_189 rfl (lv_at hl 0 rfl) ?_
  refine lv_iconst (v := (4 : Int32)) hx hb dX6_init_190 (by decide) ?_
  refine gRowM (n := 99) (N := 4) (j := 35) hx hb hown hmn hts hK (by omega) (by omega) (Nat.le_of_ble_eq_true rfl) rfl (by decide) rfl (Nat.le_of_ble_eq_true rfl) (Nat.le_of_ble_eq_true rfl) (hts _ (by decide +kernel)) rfl rfl rfl (fun _ => rfl) (fun _ => rfl) h24 (Nat.le_of_ble_eq_true rfl) (Nat.le_of_ble_eq_true rfl) dX6_init_191 dX6_init_193 hw hS (fun H locs f25 e25 h25 hw hS => ?_)
  rw [e24, cMs_25] at e25
  refine lv_aload_n hx hb dX6_init_196 rfl (lv_at hl 0 rfl) ?_
  refine lv_iconst (v := (4 : Int32)) hx hb dX6_init_197 (by decide) ?_
  refine gRowM (n := 100) (N := 4) (j := 36) hx hb hown hmn hts hK (by omega) (by omega) (Nat.le_of_ble_eq_true rfl) rfl (by decide) rfl (Nat.le_of_ble_eq_true rfl) (Nat.le_of_ble_eq_true rfl) (hts _ (by decide +kernel)) rfl rfl rfl (fun _ => rfl) (fun _ => rfl) h25 (Nat.le_of_ble_eq_true rfl) (Nat.le_of_ble_eq_true rfl) dX6_init_198 dX6_init_200 hw hS (fun H locs f26 e26 h26 hw hS => ?_)
  rw [e25, cMs_26] at e26
  refine lv_aload_n hx hb dX6_init_203 rfl (lv_at hl 0 rfl) ?_
  refine lv_iconst (v := (4 : Int32)) hx hb dX6_init_204 (by decide) ?_
  refine gRowM (n := 101) (N := 4) (j := 37) hx hb hown hmn hts hK (by omega) (by omega) (Nat.le_of_ble_eq_true rfl) rfl (by decide) rfl (Nat.le_of_ble_eq_true rfl) (Nat.le_of_ble_eq_true rfl) (hts _ (by decide +kernel)) rfl rfl rfl (fun _ => rfl) (fun _ => rfl) h26 (Nat.le_of_ble_eq_true rfl) (Nat.le_of_ble_eq_true rfl) dX6_init_205 dX6_init_207 hw hS (fun H locs f27 e27 h27 hw hS => ?_)
  rw [e26, cMs_27] at e27
  refine lv_aload_n hx hb dX6_init_210 rfl (lv_at hl 0 rfl) ?_
  refine lv_iconst (v := (5 : Int32)) hx hb dX6_init_211 (by decide) ?_
  refine gRowM (n := 102) (N := 5) (j := 42) hx hb hown hmn hts hK (by omega) (by omega) (Nat.le_of_ble_eq_true rfl) rfl (by decide) rfl (Nat.le_of_ble_eq_true rfl) (Nat.le_of_ble_eq_true rfl) (hts _ (by decide +kernel)) rfl rfl rfl (fun _ => rfl) (fun _ => rfl) h27 (Nat.le_of_ble_eq_true rfl) (Nat.le_of_ble_eq_true rfl) dX6_init_212 dX6_init_214 hw hS (fun H locs f28 e28 h28 hw hS => ?_)
  rw [e27, cMs_28] at e28
  have ef : f28 = eModel a rM := e28.trans (cMs_e a)
  refine K H locs ?_ hS
  show va_P D vwCl (GW a 103 _) _
  rw [show GW a 103 (EJ cy a E 0 0) = GW a 103 (EA cy E f28) from GW_c (fun k hk => ?_)]
  · exact hw
  · by_cases z : k < 77
    · rw [EJ_0 z, EA_0 z]
    by_cases z2 : k = 77
    · rw [z2, EA_m, ef]
      exact EJ_m
    rw [EJ_r (by omega), EA_r (by omega), rowJ_0]
end Mi6
