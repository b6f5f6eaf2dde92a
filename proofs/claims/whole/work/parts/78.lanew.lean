/-! THE UNIT, FOUND ANEW -/
section L78
variable {σ σ' : Sp} {M M' : Mm} {l d o l' d' o' : Nat}
theorem sm_lt {f g : Nat → Nat} {a n i : Nat} (h : ∀ k, a ≤ k → k < a + n → f k ≤ g k) (h1 : a ≤ i) (h2 : i < a + n) (h3 : f i < g i) : sm f a n < sm g a n := by
  obtain ⟨u, rfl⟩ : ∃ u, i = a + u := ⟨i - a, by omega⟩
  obtain ⟨v, rfl⟩ : ∃ v, n = u + (v + 1) := ⟨n - u - 1, by omega⟩
  rw [sm_app f, sm_app g, sm_s f, sm_s g]
  have a1 := sm_le (f := f) (g := g) (n := u) (a := a) (fun k q1 q2 => h k (by omega) (by omega))
  have a2 := sm_le (f := f) (g := g) (n := v) (a := a + u + 1) (fun k q1 q2 => h k (by omega) (by omega))
  omega
/-- how many batches have entered from b on -/
def mu (σ : Sp) (b : Nat) : Nat := sm (fun c => if 1 ≤ ENT σ c ∧ str σ b ≤ str σ c then 1 else 0) 0 40
theorem mu_le (b : Nat) : mu σ b ≤ 40 := by
  have := sm_bound (f := fun c => if 1 ≤ ENT σ c ∧ str σ b ≤ str σ c then 1 else 0) (c := 1) (a := 0) (n := 40) (fun k _ _ => by split <;> omega)
  unfold mu
  omega
theorem mu_lt {b c : Nat} (hb : b < 40) (eb : 1 ≤ ENT σ b) (h : str σ b < str σ c) : mu σ c < mu σ b := by
  unfold mu
  refine sm_lt (i := b) (fun k _ _ => ?_) (by omega) (by omega) ?_
  · by_cases z : 1 ≤ ENT σ k ∧ str σ c ≤ str σ k
    · rw [if_pos z, if_pos ⟨z.1, by omega⟩]
      exact Nat.le_refl 1
    · rw [if_neg z]
      exact Nat.zero_le _
  · rw [if_neg (fun z => by omega), if_pos ⟨eb, Nat.le_refl _⟩]
    exact Nat.lt_succ_self 0
theorem mu_pos {b : Nat} (hb : b < 40) (eb : 1 ≤ ENT σ b) : 0 < mu σ b := by
  unfold mu
  have s := sm_part (f := fun c => if 1 ≤ ENT σ c ∧ str σ b ≤ str σ c then 1 else 0) (k := b) (a := 0) (n := 40) (by omega) (by omega)
  rw [if_pos ⟨eb, Nat.le_refl _⟩] at s
  exact s
set_option maxHeartbeats 4000000 in
theorem C_anew_L (hC : EC σ l d o M) (hW : WF σ) (ho : OPN σ = 1) : ∀ (n x b q : Nat), mu σ b < n → x < 2147483648 → b < NB σ → 1 ≤ ENT σ b → q ≤ LEN σ → (∀ j, j < q → str σ (UB σ j) + UP σ j < str σ b) → (∀ j, q ≤ j → j < LEN σ → str σ b ≤ str σ (UB σ j) + UP σ j) →
    fX5_unitAnew_L25 n (nI x) (some b) M = some (0, if q + x < LEN σ then nI (UB σ (q + x)) else nM) := by
  intro n
  induction n with
  | zero =>
    intro x b q h1
    omega
  | succ n ih =>
    intro x b q h1 hx hb eb hq hl hr
    obtain ⟨hA, hWS, hWG, hWT, hWB, hWK, -, hWO, hWL, hWU⟩ := id hW
    have h40 := hA.2.2.1
    have h360 := hA.2.2.2.2.2.2.2.2.2.2.1
    obtain ⟨l1, l2, l3, l4, l5, l6⟩ := hWL ho
    obtain ⟨u1, u2, u3, u4, u5, u6⟩ := hWU ho
    have hcount := u6 b hb
    have w2 := hWB.2 b (by omega)
    have cin := C_inPipe hC.2.2.2.2.2.2.1 hWB (show b < 40 by omega)
    obtain ⟨e0, -⟩ := hC.2.2.2.2.2.2.1 b (by omega)
    obtain ⟨-, e9, -⟩ := hC.2.2.2.2.2.2.2.1 b (by omega)
    -- who isn't of b is behind it
    have beh : ∀ j, q ≤ j → j < LEN σ → UB σ j ≠ b → str σ b + ENT σ b ≤ str σ (UB σ j) := fun j j1 j2 j3 => by
      obtain ⟨g1, g2⟩ := u1 j j2
      rcases dsj hW ho (str σ b + str σ (UB σ j) + 1) b (UB σ j) (by omega) hb g1 eb (by omega) (fun z => j3 z.symm) with r | r
      · exact r
      · have := hr j j1 j2
        omega
    have mono : ∀ j j', j < j' → j' < LEN σ → str σ (UB σ j) + UP σ j < str σ (UB σ j') + UP σ j' := fun j j' g1 g2 => by
      have := val_lt u2 (j' - j - 1) j (by omega)
      rw [show j + (j' - j - 1) + 1 = j' by omega] at this
      exact this
    -- the units of b
    have hin : sm (ub1 σ b) 0 (LEN σ) = sm (ub1 σ b) q (LEN σ - q) := by
      have := sm_app (ub1 σ b) q (LEN σ - q) 0
      rw [show q + (LEN σ - q) = LEN σ by omega, Nat.zero_add] at this
      have z : sm (ub1 σ b) 0 q = 0 := by
        have := sm_bound (f := ub1 σ b) (c := 0) (a := 0) (n := q) (fun j _ hj => by
          have g := hl j (by omega)
          unfold ub1
          rw [if_neg (fun y => by rw [y] at g; omega)]
          exact Nat.le_refl 0)
        omega
      omega
    have hub : ∀ j, q ≤ j → j < LEN σ → (UB σ j = b ↔ j < q + sm (ub1 σ b) 0 (LEN σ)) := fun j j1 j2 => by
      have := anti (f := ub1 σ b) (LEN σ - q) q (fun k _ _ => by unfold ub1; split; exact Or.inr rfl; exact Or.inl rfl) (fun k k1 k2 k3 => by
        have kn : UB σ k ≠ b := fun y => by unfold ub1 at k3; rw [if_pos y] at k3; omega
        have g := beh k k1 (by omega) kn
        have g2 := mono k (k + 1) (by omega) (by omega)
        have g3 := (u1 (k + 1) (by omega)).2
        unfold ub1
        rw [if_neg (fun y => by rw [y] at g2 g3; omega)]) j j1 (by omega)
      rw [← hin] at this
      rw [← this]
      unfold ub1
      by_cases y : UB σ j = b
      · rw [if_pos y]
        exact ⟨fun _ => rfl, fun _ => y⟩
      · rw [if_neg y]
        exact ⟨fun z => absurd z y, fun z => by omega⟩
    have hne : ENT σ b - LEF σ b - DRO σ b - LEA σ b = sm (ub1 σ b) 0 (LEN σ) := by omega
    have hbnd : q + sm (ub1 σ b) 0 (LEN σ) ≤ LEN σ := by
      have := sm_bound (f := ub1 σ b) (c := 1) (a := q) (n := LEN σ - q) (fun j _ _ => by unfold ub1; split <;> omega)
      omega
    rw [hne] at cin
    generalize sm (ub1 σ b) 0 (LEN σ) = nb at *
    rw [fX5_unitAnew_L25]
    dsimp only
    rw [if_neg (by simp), Option.bind_some, if_pos (show b < 40 by omega), cin, Option.bind_some]
    by_cases z : nb ≤ x
    · rw [if_pos (show nI nb ≤ nI x by rw [cLe (by omega) (by omega)]; exact z), Option.bind_some, e9, cSub z]
      by_cases y : BHD σ b = 0
      · have hbI : b = INL σ := by
          rcases (l3 b (by omega)).mp y with w | w
          · omega
          · exact w
        have hend : LEN σ ≤ q + nb := by
          rcases Nat.lt_or_ge (q + nb) (LEN σ) with w | w
          · have g := beh (q + nb) (by omega) w (fun v => by have := (hub (q + nb) (by omega) w).mp v; omega)
            have g2 : str σ (UB σ (q + nb)) + UP σ (q + nb) ≤ str σ (UB σ (LEN σ - 1)) + UP σ (LEN σ - 1) := by
              rcases Nat.lt_or_ge (q + nb) (LEN σ - 1) with v | v
              · exact Nat.le_of_lt (mono _ _ v (by omega))
              · rw [show q + nb = LEN σ - 1 by omega]
                exact Nat.le_refl _
            rw [u3] at g2
            rw [hbI] at g
            omega
          · exact w
        rw [y, op1_0, if_neg (show ¬ q + x < LEN σ by omega)]
        cases n with
        | zero =>
          have := mu_pos (σ := σ) (show b < 40 by omega) eb
          omega
        | succ n =>
          rw [fX5_unitAnew_L25]
          rfl
      · obtain ⟨k1, k2, k3⟩ := l5 b (BHD σ b - 1) (by omega) (by omega)
        obtain ⟨m1', m2', m3', m4'⟩ := l4 (BHD σ b - 1) b (by omega) k2
        rw [op1_p y, ih (x - nb) (BHD σ b - 1) (q + nb) (by have := mu_lt (σ := σ) (b := b) (c := BHD σ b - 1) (by omega) eb (by omega); omega) (by omega) k1 k3 hbnd (fun j hj => ?_) (fun j j1 j2 => ?_), show q + nb + (x - nb) = q + x by omega]
        · rcases Nat.lt_or_ge j q with w | w
          · have := hl j w
            omega
          · have v := (hub j w (by omega)).mpr hj
            have g := (u1 j (by omega)).2
            rw [v] at g ⊢
            omega
        · have := beh j (by omega) j2 (fun v => by have := (hub j (by omega) j2).mp v; omega)
          omega
    · have hlt : q + x < LEN σ := by omega
      rw [if_neg (show ¬ nI nb ≤ nI x by rw [cLe (by omega) (by omega)]; exact z), e0, if_pos hlt, (hub (q + x) (by omega) hlt).mpr (by omega)]
theorem W_unitAnew (h : IV σ l d o M) (x : Int32) : OK1 (fL_unitAnew x) (fX6_unitAnew x) M := by
  obtain ⟨hW, hC, hE⟩ := id h
  by_cases hx : x < 0
  · refine E1 h (c := 1) (v := 0) (by omega) (by omega) ?_ ?_
    · unfold fL_unitAnew fX5_unitAnew fX5_checkUnit
      obtain q : ¬ (0 : Int32) ≤ x := not_lt_le hx
      rw [if_neg q, Option.bind_some]
      rfl
    · unfold fX6_unitAnew
      rw [M_unit_no hx, Option.bind_some]
  · obtain ⟨j, hj, rfl⟩ := ge0 hx
    refine R1 (v := if OPN σ = 1 ∧ j < LEN σ then nI (UB σ j) else nM) h ?_ ?_
    · unfold fL_unitAnew fX5_unitAnew fX5_checkUnit
      rw [if_pos (show (0 : Int32) ≤ nI j from nI_ge0 hj), Option.bind_some, if_pos rfl, hC.1.2.2.1]
      rcases (show OPN σ = 0 ∨ OPN σ = 1 by have := hW.1.2.2.2.1; omega) with z | z
      · rw [if_pos (show nI (OPN σ) = 0 by rw [z]; rfl), if_neg (show ¬ (OPN σ = 1 ∧ j < LEN σ) by omega), fX5_unitAnew_L25]
        rfl
      · have hO := hW.2.2.2.2.2.2.2.1 z
        have hlen := (len_b hW (hW.1.2.2.2.2.2.2.2.1 z)).1
        rw [← hO.1] at hlen
        have hz : (0 : Int32).toNatClampNeg = 0 := rfl
        have z0 : str σ 0 = 0 := by unfold str; rw [if_pos rfl]
        have hmu := mu_le (σ := σ) 0
        rw [if_neg (show ¬ nI (OPN σ) = 0 by rw [z]; decide), hz, if_pos (show ¬ ((0 : Int32) < 0 ∨ 40 ≤ 0) by decide), C_anew_L hC hW z 400 j 0 0 (by omega) hj (by have := hW.1.2.1; omega) (by omega) (by omega) (fun i hi => by omega) (fun i _ _ => by rw [z0]; omega), Nat.zero_add, Option.bind_some]
        by_cases y : j < LEN σ
        · rw [if_pos y, if_pos (show OPN σ = 1 ∧ j < LEN σ from ⟨z, y⟩)]
          rfl
        · rw [if_neg y, if_neg (show ¬ (OPN σ = 1 ∧ j < LEN σ) from fun w => y w.2)]
          rfl
    · unfold fX6_unitAnew
      rw [M_unit_ok (EM_103 hE) hW hj, Option.bind_some]
end L78
