/-! THE LAW'S fits, ON THE CLASS ALONE -/
section Q75
variable {σ σ' : Sp} {M M' : Mm} {l d o s b m len : Nat}
/-- what of a batch is in the pipe; what of it went to the tanks -/
def ins (σ : Sp) (b : Nat) : Nat := ENT σ b - LEF σ b - DRO σ b - LEA σ b
def lod (σ : Sp) (b : Nat) : Nat := LEF σ b + DRO σ b
theorem sm_swap (f : Nat → Nat → Nat) (a m c : Nat) : ∀ n, sm (fun b => sm (f b) c n) a m = sm (fun j => sm (fun b => f b j) a m) c n
  | 0 => by
    show sm (fun _ => 0) a m = 0
    rw [sm_const, Nat.mul_zero]
  | n + 1 => by
    have e1 : sm (fun j => sm (fun b => f b j) a m) c (n + 1) = sm (fun j => sm (fun b => f b j) a m) c n + sm (fun b => f b (c + n)) a m := sm_last _ n c
    rw [e1, ← sm_swap f a m c n]
    have e2 : sm (fun b => sm (f b) c n + f b (c + n)) a m = sm (fun b => sm (f b) c n) a m + sm (fun b => f b (c + n)) a m := sm_add _ _ m a
    rw [← e2]
    exact sm_cong (fun b _ _ => sm_last (f b) n c)
theorem sm_hot {u : Nat} : ∀ {n a : Nat}, a ≤ u → u < a + n → sm (fun b => if u = b then 1 else 0) a n = 1
  | 0, a, h1, h2 => by omega
  | n + 1, a, h1, h2 => by
    show (if u = a then 1 else 0) + sm (fun b => if u = b then 1 else 0) (a + 1) n = 1
    by_cases z : u = a
    · have e : sm (fun b => if u = b then 1 else 0) (a + 1) n = sm (fun _ => 0) (a + 1) n := sm_cong (fun k h _ => if_neg (by omega))
      rw [e, sm_const, if_pos z, Nat.mul_zero]
    · rw [if_neg z, Nat.zero_add]
      exact sm_hot (by omega) (by omega)
theorem ins_all (hW : WF σ) (ho : OPN σ = 1) : sm (ins σ) 0 (NB σ) = LEN σ := by
  obtain ⟨hU1, -, -, -, -, hU6⟩ := hW.2.2.2.2.2.2.2.2.2 ho
  have e1 : sm (ins σ) 0 (NB σ) = sm (fun b => sm (ub1 σ b) 0 (LEN σ)) 0 (NB σ) := sm_cong (fun b _ hb => by
    have := hU6 b (by omega)
    unfold ins
    omega)
  have e2 : sm (fun j => sm (fun b => ub1 σ b j) 0 (NB σ)) 0 (LEN σ) = sm (fun _ => 1) 0 (LEN σ) := sm_cong (fun j _ hj => by
    show sm (fun b => if UB σ j = b then 1 else 0) 0 (NB σ) = 1
    exact sm_hot (Nat.zero_le _) (by have := (hU1 j (by omega)).1; omega))
  rw [e1, sm_swap (ub1 σ) 0 (NB σ) 0 (LEN σ), e2, sm_const, Nat.mul_one]
theorem lod_all (hW : WF σ) : sm (lod σ) 0 40 = sm (lod σ) 0 (NB σ) := by
  obtain ⟨r, hr⟩ : ∃ r, 40 = NB σ + r := ⟨40 - NB σ, by have := hW.1.2.2.1; omega⟩
  have e : sm (lod σ) (0 + NB σ) r = sm (fun _ => 0) (0 + NB σ) r := sm_cong (fun b h1 h2 => by
    obtain ⟨w1, -, -, -, -, w6, -⟩ := hW.2.2.2.2.1.2 b (by omega)
    have := w6 (by omega)
    unfold lod
    omega)
  rw [hr, sm_app, e, sm_const, Nat.mul_zero, Nat.add_zero]
theorem mix_b (hW : WF σ) {b : Nat} (hb : b < 40) : mix σ b ≤ 255 := by
  have h := (hW.2.2.2.2.1.2 b hb).2.2.2.1
  unfold mix
  split
  · omega
  · split
    · omega
    · split
      · exact isq_le _
      · exact h
theorem F_21 (hW : WF σ) (hC : EC σ l d o M) (ho : OPN σ = 1) (x2 x6 : Int32) : ∀ (m k n : Nat), k + m = NB σ → m < n → fL_fits_L21 n (nI (NB σ)) x2 (nI (sm (ins σ) 0 k)) (nI (sm (ENT σ) 0 k)) (nI (sm (lod σ) 0 k)) x6 (1 : Int32) (nI k) M = fL_fits_L166 400 (nI (NB σ)) x2 (nI (sm (ins σ) 0 (NB σ))) (nI (sm (ENT σ) 0 (NB σ))) (nI (sm (lod σ) 0 (NB σ))) x6 (1 : Int32) (0 : Int32) M
  | m, k, 0, h1, h2 => by omega
  | 0, k, n + 1, h1, h2 => by
    have h40 := hW.1.2.2.1
    have hk : k = NB σ := by omega
    rw [fL_fits_L21]
    dsimp only
    rw [if_pos (show nI (NB σ) ≤ nI k by rw [cLe (by omega) (by omega)]; omega), hk]
  | m + 1, k, n + 1, h1, h2 => by
    have h40 := hW.1.2.2.1
    have hb : k < NB σ := by omega
    obtain ⟨w1, w2, -⟩ := hW.2.2.2.2.1.2 k (by omega)
    obtain ⟨v1, v2, v3, -⟩ := hW.2.2.2.2.1.1 k hb
    have hm := mix_b hW (show k < 40 by omega)
    have e : nI (ENT σ k) - ((nI (LEF σ k) + nI (DRO σ k)) + nI (LEA σ k)) = nI (ENT σ k - LEF σ k - DRO σ k - LEA σ k) := by
      rw [cAdd, cAdd, cSub w1, show ENT σ k - (LEF σ k + DRO σ k + LEA σ k) = ENT σ k - LEF σ k - DRO σ k - LEA σ k by omega]
    have a1 : nI (sm (ins σ) 0 k) + nI (ENT σ k - LEF σ k - DRO σ k - LEA σ k) = nI (sm (ins σ) 0 (k + 1)) := by
      rw [cAdd, sm_last, Nat.zero_add, show ins σ k = ENT σ k - LEF σ k - DRO σ k - LEA σ k from rfl]
    have a2 : nI (sm (ENT σ) 0 k) + nI (ENT σ k) = nI (sm (ENT σ) 0 (k + 1)) := by
      rw [cAdd, sm_last, Nat.zero_add]
    have a3 : nI (sm (lod σ) 0 k) + (nI (LEF σ k) + nI (DRO σ k)) = nI (sm (lod σ) 0 (k + 1)) := by
      rw [cAdd, cAdd, sm_last, Nat.zero_add, show lod σ k = LEF σ k + DRO σ k from rfl]
    have a4 : nI k + 1 = nI (k + 1) := nI_1 k
    rw [fL_fits_L21]
    dsimp only
    rw [if_neg (show ¬ nI (NB σ) ≤ nI k by rw [cLe (by omega) (by omega)]; omega), if_neg (show ¬ (1 : Int32) = 0 by decide), Q_b2 hW hC ho hb, Q_b3 hW hC ho hb, Q_b4 hW hC ho hb, Q_b1 hW hC ho hb, Q_b0 hW hC ho hb, Q_b5 hW hC ho hb, Q_b6 hW hC ho hb]
    dsimp only [Option.bind_some]
    rw [e, if_pos rfl, if_neg (show ¬ nI (ENT σ k - LEF σ k - DRO σ k - LEA σ k) < 0 from nI_pos (by omega)), if_neg (show ¬ nI (ORD σ k - ENT σ k) < 0 from nI_pos (by omega)), if_neg (show ¬ nI (mix σ k) < 0 from nI_pos (by omega)), a1, a2, a3, a4]
    exact F_21 hW hC ho x2 x6 m (k + 1) n (by omega) (by omega)
theorem F_166 (hW : WF σ) (hC : EC σ l d o M) (ho : OPN σ = 1) (x3 x4 x5 x6 : Int32) : ∀ (m k n : Nat), k + m = LEN σ → m < n → fL_fits_L166 n (nI (NB σ)) (nI (LEN σ)) x3 x4 x5 x6 (1 : Int32) (nI k) M = fL_fits_L227 6 (nI (LEN σ)) x3 x4 x5 x6 (1 : Int32) (0 : Int32) M
  | m, k, 0, h1, h2 => by omega
  | 0, k, n + 1, h1, h2 => by
    obtain ⟨-, -, -, -, -, -, -, -, -, -, h360, -⟩ := hW.1
    rw [fL_fits_L166]
    dsimp only
    rw [if_pos (show nI (LEN σ) ≤ nI k by rw [cLe (by omega) (by omega)]; omega)]
  | m + 1, k, n + 1, h1, h2 => by
    obtain ⟨-, -, -, -, -, -, -, -, -, -, h360, -⟩ := hW.1
    have hk : k < LEN σ := by omega
    obtain ⟨u1, -, -, u4, -⟩ := WF_unit hW ho hk
    have h40 := hW.1.2.2.1
    have q1 : fL_unit (nI k) M = some (nI (UB σ k)) := by rw [Q_unit hW hC ho (by omega), if_pos hk]
    have q2 : fL_unitAnew (nI k) M = some (nI (UB σ k)) := by rw [Q_unitAnew hW hC ho (by omega), if_pos hk]
    rw [fL_fits_L166]
    dsimp only
    rw [if_neg (show ¬ nI (LEN σ) ≤ nI k by rw [cLe (by omega) (by omega)]; omega), if_neg (show ¬ (1 : Int32) = 0 by decide), q1, q2]
    dsimp only [Option.bind_some]
    rw [if_pos rfl, if_neg (show ¬ nI (UB σ k) < 0 from nI_pos (by omega)), if_neg (show ¬ nI (NB σ) ≤ nI (UB σ k) by rw [cLe (by omega) (by omega)]; omega), show nI k + 1 = nI (k + 1) from nI_1 k]
    exact F_166 hW hC ho x3 x4 x5 x6 m (k + 1) n (by omega) (by omega)
theorem F_227 (hW : WF σ) (hC : EC σ l d o M) (hM : ∀ t, t < 4 → MXD σ t ≤ HAS σ t) (x2 x3 x4 x5 : Int32) : ∀ (m k n y : Nat), k + m = 4 → m < n → fL_fits_L227 n x2 x3 x4 x5 (nI y) (1 : Int32) (nI k) M = fL_fits_b320 x2 x3 x4 x5 (nI (y + sm (HAS σ) k m)) (1 : Int32) M
  | m, k, 0, y, h1, h2 => by omega
  | 0, k, n + 1, y, h1, h2 => by
    rw [fL_fits_L227]
    dsimp only
    rw [if_pos (show (4 : Int32) ≤ nI k by rw [show (4 : Int32) = nI 4 from rfl, cLe (by omega) (by omega)]; omega), sm_0, Nat.add_zero]
  | m + 1, k, n + 1, y, h1, h2 => by
    have k4 : k < 4 := by omega
    obtain ⟨w1, w2, w3⟩ := hW.2.2.2.2.2.1 k k4
    have w4 := hM k k4
    have a : nI k + 1 = nI (k + 1) := nI_1 k
    have fin : fL_fits_L227 n x2 x3 x4 x5 (nI (y + HAS σ k)) (1 : Int32) (nI (k + 1)) M = fL_fits_b320 x2 x3 x4 x5 (nI (y + sm (HAS σ) k (m + 1))) (1 : Int32) M := by
      rw [F_227 hW hC hM x2 x3 x4 x5 m (k + 1) n (y + HAS σ k) (by omega) (by omega), sm_s, Nat.add_assoc]
    have fin2 : ∀ x : Int32, fL_fits_b292 (fL_fits_L227 n) x2 x3 x4 x5 (nI (y + HAS σ k)) (nI k) (nI (HAS σ k)) x x M = fL_fits_b320 x2 x3 x4 x5 (nI (y + sm (HAS σ) k (m + 1))) (1 : Int32) M := fun x => by
      unfold fL_fits_b292
      rw [if_pos rfl, Q_t2 hW hC k4, Option.bind_some, if_neg (show ¬ nI (HAS σ k) < nI (MXD σ k) by rw [cLt (by omega) (by omega)]; omega), a]
      exact fin
    rw [fL_fits_L227]
    dsimp only
    rw [if_neg (show ¬ (4 : Int32) ≤ nI k by rw [show (4 : Int32) = nI 4 from rfl, cLe (by omega) (by omega)]; omega), if_neg (show ¬ (1 : Int32) = 0 by decide), Q_t0 hW hC k4, Option.bind_some, if_neg (show ¬ nI (HAS σ k) < 0 from nI_pos (by omega)), if_neg (show ¬ (100 : Int32) < nI (HAS σ k) by rw [show (100 : Int32) = nI 100 from rfl, cLt (by omega) (by omega)]; omega), Q_t1 hW hC k4, Option.bind_some, cAdd]
    by_cases z : HAS σ k = 0
    · rw [if_pos (show nO (TG σ k) = -1 by rw [w3.mp z]; rfl)]
      unfold fL_fits_b282
      rw [if_pos (show nI (HAS σ k) = 0 by rw [z]; rfl)]
      exact fin2 1
    · have z2 : ¬ TG σ k = 0 := fun q => z (w3.mpr q)
      rw [if_neg (show ¬ nO (TG σ k) = -1 by rw [show (-1 : Int32) = nM from rfl, cOM (by omega)]; exact z2)]
      unfold fL_fits_b282
      rw [if_neg (show ¬ nI (HAS σ k) = 0 by rw [Lt0, cEq (by omega) (by omega)]; exact z)]
      exact fin2 0
theorem F_320 (hW : WF σ) (hC : EC σ l d o M) (ho : OPN σ = 1) {e g x : Nat} (he : LEN σ ≤ e) (he2 : e < 2147483648) (hx : x ≤ g) (hg : g < 2147483648) : fL_fits_b320 (nI (LEN σ)) (nI (LEN σ)) (nI e) (nI g) (nI x) (1 : Int32) M = some 1 := by
  obtain ⟨-, -, -, -, -, -, -, -, -, -, h360, -⟩ := hW.1
  unfold fL_fits_b320
  rw [if_neg (show ¬ (1 : Int32) = 0 by decide), if_pos rfl, if_neg (show ¬ nI g < nI x by rw [cLt (by omega) (by omega)]; omega), if_neg (show ¬ nI e < nI (LEN σ) by rw [cLt (by omega) (by omega)]; omega), Q_unit hW hC ho (by omega), if_neg (show ¬ LEN σ < LEN σ by omega), Option.bind_some, if_pos (show nM = -1 from rfl), Q_p2 hW hC, Q_p1 hW hC, Option.bind_some, Option.bind_some]
  by_cases z : nI (sm (BAL σ) 0 5) < 3
  · rw [if_pos z, if_pos z, if_pos rfl]
  · rw [if_neg z, if_neg z, if_pos rfl]
theorem A_fits (h : ST σ s b m len M) : fL_fits (nI b) (nI len) M = some 1 := by
  obtain ⟨l, d, o, hW, hC, hK, ho, hs, hb, hm, hl⟩ := h
  subst hb
  subst hl
  obtain ⟨-, n1, n40, -, -, -, -, -, -, -, h360, -⟩ := hW.1
  have hent : sm (ENT σ) 0 (NB σ) ≤ NB σ * 360 := sm_bound (fun k _ hk => (hW.2.2.2.2.1.2 k (by omega)).2.1)
  have hlod : sm (lod σ) 0 (NB σ) ≤ NB σ * 360 := sm_bound (fun k _ hk => by
    obtain ⟨w1, w2, -⟩ := hW.2.2.2.2.1.2 k (by omega)
    unfold lod
    omega)
  have hlen : LEN σ ≤ sm (ENT σ) 0 (NB σ) := by
    have := sm_part (f := ENT σ) (k := 0) (a := 0) (n := NB σ) (Nat.le_refl 0) (by omega)
    have e0 := (hW.2.2.2.2.2.2.2.1 ho).2.1
    omega
  have hkp : sm (SPL σ) 0 4 + sm (HAS σ) 0 4 ≤ sm (lod σ) 0 (NB σ) := by
    have h1 : sm (HAS σ) 0 4 + sm (SPL σ) 0 4 ≤ sm (lod σ) 0 40 := hK.1
    rw [lod_all hW] at h1
    omega
  unfold fL_fits
  rw [Q_p3 hW hC, Option.bind_some]
  refine (F_21 hW hC ho (nI (LEN σ)) (nI (sm (SPL σ) 0 4)) (NB σ) 0 41 (by omega) (by omega)).trans ?_
  refine (F_166 hW hC ho _ _ _ _ (LEN σ) 0 400 (by omega) (by omega)).trans ?_
  refine (F_227 hW hC hK.2 _ _ _ _ 4 0 6 (sm (SPL σ) 0 4) (by omega) (by omega)).trans ?_
  rw [ins_all hW ho]
  exact F_320 hW hC ho hlen (by omega) hkp (by omega)
end Q75
