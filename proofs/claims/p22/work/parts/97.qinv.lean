/-! THE STATE AT THE START, ON THE CLASS ALONE -/
def M0r : Nat → Nat → Int32 := fun k => if k = 0 then (fun j => if j = 9 then 1 else if j = 16 then -1 else 0) else if k < 6 then (fun _ => 0) else if k < 9 then upd (fun _ => 0) 0 (-1) else if k < 27 then (if (k - 9) % 3 = 0 then (fun j => if j = 3 then 5 else 0) else (fun _ => 0)) else if k < 33 then (fun j => if j = 0 then nI (k - 27) else if j = 1 then 8 else if j = 2 then 3 else if j = 3 then nI (k - 27) else 0) else if k < 73 then (fun j => if j = 0 then nI (k - 33) else if j = 2 then -1 else 0) else upd (fun _ => 0) 1 (-1)
def M0g : Nat → Nat → Option Nat := fun k j => if k = 0 ∧ j = 11 then some 0 else if 33 ≤ k ∧ k < 73 ∧ j = 1 then some 0 else none
def M0 : Mm := (M0r, M0g)
theorem M0r_bat {b : Nat} (h : b < 40) : M0r (33 + b) = fun j => if j = 0 then nI b else if j = 2 then -1 else 0 := by
  unfold M0r
  rw [if_neg (show ¬ 33 + b = 0 by omega), if_neg (show ¬ 33 + b < 6 by omega), if_neg (show ¬ 33 + b < 9 by omega), if_neg (show ¬ 33 + b < 27 by omega), if_neg (show ¬ 33 + b < 33 by omega), if_pos (show 33 + b < 73 by omega), show 33 + b - 33 = b by omega]
theorem M0g_bat {b : Nat} (h : b < 40) : M0g (33 + b) = fun j => if j = 1 then some 0 else none := by
  funext j
  unfold M0g
  rw [if_neg (show ¬ (33 + b = 0 ∧ j = 11) by omega)]
  by_cases z : j = 1
  · rw [if_pos (show 33 ≤ 33 + b ∧ 33 + b < 73 ∧ j = 1 from ⟨by omega, by omega, z⟩), if_pos z]
  · rw [if_neg (show ¬ (33 ≤ 33 + b ∧ 33 + b < 73 ∧ j = 1) from fun q => z q.2.2), if_neg z]
def s0 : Sp := fun f i => match f with
  | 0 => (if i = 1 then 1 else 0)
  | 5 => 8
  | 6 => 3
  | 7 => i
  | _ => 0
theorem s0_opn {P : Prop} (h : OPN s0 = 1) : P := absurd (show (0 : Nat) = 1 from h) (by decide)
theorem s0_ns {P : Prop} {i : Nat} (h : i < NS s0) : P := absurd (show i < 0 from h) (Nat.not_lt_zero i)
theorem s0_nb {b : Nat} (h : b < NB s0) : b = 0 := by
  have : b < 1 := h
  omega
theorem WF_00 : WF s0 := by
  refine ⟨?_, ⟨fun i h => s0_ns h, fun i _ => ?_⟩, fun p h => ?_, ?_, ⟨fun b h => ?_, fun b _ => ?_⟩, fun t _ => ?_, fun _ => ?_, fun h => s0_opn h, fun h => s0_opn h, fun h => s0_opn h⟩
  · refine ⟨Nat.zero_le _, ?_, ?_, Nat.zero_le _, Nat.zero_le _, Nat.zero_le _, Nat.zero_le _, fun h => s0_opn h, ?_, Nat.zero_le _, Nat.zero_le _, Nat.zero_le _⟩
    · show 1 ≤ 1
      omega
    · show 1 ≤ 40
      omega
    · show 0 < 1
      omega
  · exact Nat.zero_le _
  · refine ⟨?_, ?_, ?_, ?_, ?_, Nat.zero_le _⟩
    · show 1 ≤ 8
      omega
    · show 8 ≤ 10
      omega
    · show 1 ≤ 3
      omega
    · show 3 ≤ 10
      omega
    · show p ≤ 9
      omega
  · refine ⟨fun h => absurd rfl h, Nat.zero_le _, fun h => absurd rfl h, Nat.zero_le _, ?_, ?_⟩
    · show 0 < 4
      omega
    · show 0 < 4
      omega
  · have := s0_nb h
    refine ⟨?_, Nat.le_refl 0, Nat.zero_le _, fun h1 => ?_⟩
    · show 0 < 6
      omega
    · omega
  · refine ⟨?_, Nat.zero_le _, Nat.zero_le _, Nat.zero_le _, Nat.zero_le _, fun _ => rfl, fun h => absurd (show (0 : Nat) = 1 from h) (by decide)⟩
    show 0 + 0 + 0 ≤ 0
    omega
  · exact ⟨Nat.zero_le _, Nat.zero_le _, fun _ => rfl, fun _ => rfl⟩
  · exact ⟨rfl, rfl, rfl, rfl, fun _ _ => ⟨rfl, rfl, rfl, rfl⟩, fun _ _ => ⟨rfl, rfl⟩, rfl⟩
theorem EC_00 : EC s0 0 0 0 M0 := by
  refine ⟨⟨rfl, rfl, rfl, rfl, rfl, rfl, rfl, rfl, rfl⟩, ⟨rfl, rfl, rfl, rfl, rfl, rfl, rfl, fun h => s0_opn h, rfl, rfl⟩, fun i h => ?_, fun h => s0_opn h, fun i h p hp => ?_, fun p h => ?_, fun b h => ?_, fun b h => ?_, fun b h => ?_, fun t h => ?_, fun j _ => rfl⟩
  · rcases (show i = 0 ∨ i = 1 ∨ i = 2 ∨ i = 3 ∨ i = 4 ∨ i = 5 by omega) with rfl | rfl | rfl | rfl | rfl | rfl <;> exact ⟨fun h => s0_ns h, rfl, rfl⟩
  · rcases (show i = 0 ∨ i = 1 ∨ i = 2 ∨ i = 3 ∨ i = 4 ∨ i = 5 by omega) with rfl | rfl | rfl | rfl | rfl | rfl <;> rfl
  · rcases (show p = 0 ∨ p = 1 ∨ p = 2 ∨ p = 3 ∨ p = 4 ∨ p = 5 by omega) with rfl | rfl | rfl | rfl | rfl | rfl <;> exact ⟨rfl, rfl, rfl, rfl, rfl⟩
  · have e := M0r_bat h
    exact ⟨congrFun e 0, congrFun e 4, congrFun e 5, congrFun e 6, congrFun e 7, congrFun e 11⟩
  · have e := M0g_bat h
    exact ⟨congrFun e 8, congrFun e 9, fun q => absurd rfl q, fun q => absurd (show (0 : Nat) = 1 from q) (by decide)⟩
  · obtain rfl := s0_nb h
    exact ⟨rfl, rfl, fun q => absurd q (by decide)⟩
  · rcases (show t = 0 ∨ t = 1 ∨ t = 2 ∨ t = 3 by omega) with rfl | rfl | rfl | rfl <;> exact ⟨rfl, rfl, rfl, rfl⟩
theorem KP_00 : KP s0 := ⟨Nat.zero_le _, fun _ _ => Nat.le_refl 0⟩
theorem SC_00 : SC s0 0 0 M0 := ⟨0, 0, 0, WF_00, EC_00, KP_00, rfl, rfl, rfl, rfl, rfl⟩
/-! the cells at the start -/
theorem at_arr {D : va_G} {q N : Nat} {cA : ClassId} {f g : Nat → Option Nat} {H : Heap} (h : ∀ j, j < N → f j = g j) (h1 : va_at D vwCl (q, .inl (cA, N, .inr (.inr (.inr (.inr f))))) H) : va_at D vwCl (q, .inl (cA, N, .inr (.inr (.inr (.inr g))))) H := by
  have e : (fun j : Fin N => va_rf (f j.val)) = fun j : Fin N => va_rf (g j.val) := funext fun j => by rw [h j.val j.isLt]
  have e2 : vp_cell cA (N, .inr (.inr (.inr (.inr f)))) = vp_cell cA (N, .inr (.inr (.inr (.inr g)))) := congrArg (fun z => ({ cls := cA, slots := Array.ofFn (n := N) z, vm := .none } : Cell)) e
  show H[q]? = some (vp_cell cA (N, .inr (.inr (.inr (.inr g)))))
  rw [← e2]
  exact h1
theorem GP_map {D : va_G} {a n : Nat} {E E' : Nat → va_E} {H : Heap} (hw : GP D a n E H) (h : ∀ k, k < n → va_at D vwCl (a + k, E k) H → va_at D vwCl (a + k, E' k) H) : GP D a n E' H := fun k q hk => by
  have hn := GW_in hk
  rw [GW_at hn] at hk
  cases hk
  exact h k hn (hw k _ (GW_at hn))
set_option maxRecDepth 20000 in
set_option maxHeartbeats 4000000 in
theorem HP_00 {D : va_G} {cy : Nat → ClassId} {a : Nat} {H : Heap} (hw : GP D a 77 (EI cy a (cP a (.ref (a + 33))) 6 6 40 4) H) : HP D cy a M0 H := by
  refine GP_map (E' := fun k => ent cy a (M0.1 k) (M0.2 k) k) hw (fun k hk h1 => ?_)
  rcases Nat.lt_or_ge k 33 with q | q
  · rcases (show k = 1 ∨ k = 2 ∨ k = 3 ∨ k = 4 ∨ k = 0 ∨ (5 ≤ k ∧ k < 33) by omega) with rfl | rfl | rfl | rfl | rfl | z
    · exact at_arr (fun j hj => if_pos hj) h1
    · exact at_arr (fun j hj => if_pos hj) h1
    · exact at_arr (fun j hj => if_pos hj) h1
    · exact at_arr (fun j hj => if_pos hj) h1
    · exact h1
    · obtain ⟨i, rfl⟩ : ∃ i, k = 5 + i := ⟨k - 5, by omega⟩
      rcases (show i = 0 ∨ i = 1 ∨ i = 2 ∨ i = 3 ∨ i = 4 ∨ i = 5 ∨ i = 6 ∨ i = 7 ∨ i = 8 ∨ i = 9 ∨ i = 10 ∨ i = 11 ∨ i = 12 ∨ i = 13 ∨ i = 14 ∨ i = 15 ∨ i = 16 ∨ i = 17 ∨ i = 18 ∨ i = 19 ∨ i = 20 ∨ i = 21 ∨ i = 22 ∨ i = 23 ∨ i = 24 ∨ i = 25 ∨ i = 26 ∨ i = 27 by omega) with rfl | rfl | rfl | rfl | rfl | rfl | rfl | rfl | rfl | rfl | rfl | rfl | rfl | rfl | rfl | rfl | rfl | rfl | rfl | rfl | rfl | rfl | rfl | rfl | rfl | rfl | rfl | rfl <;> exact h1
  rcases Nat.lt_or_ge k 73 with q2 | q2
  · obtain ⟨i, rfl⟩ : ∃ i, k = 33 + i := ⟨k - 33, by omega⟩
    have hi : i < 40 := by omega
    rw [EI_bat hi] at h1
    show va_at D vwCl (a + (33 + i), ent cy a (M0r (33 + i)) (M0g (33 + i)) (33 + i)) H
    rw [en_bat hi, M0r_bat hi, M0g_bat hi]
    exact h1
  · rcases (show k = 73 ∨ k = 74 ∨ k = 75 ∨ k = 76 by omega) with rfl | rfl | rfl | rfl <;> exact h1
