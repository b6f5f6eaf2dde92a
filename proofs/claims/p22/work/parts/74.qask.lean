/-! ASKING, ON THE CLASS ALONE -/
section Q74
variable {σ σ' : Sp} {M M' M1 : Mm} {l d o l' d' o' : Nat}
theorem Q_batch (hW : WF σ) (hC : EC σ l d o M) (ho : OPN σ = 1) {b j : Nat} (hb : b < NB σ) (hj : j ≤ 7) : fL_batch (nI b) (nI j) M = some (if nI j = 0 then nI (ENT σ b - LEF σ b - DRO σ b - LEA σ b) else if nI j = 1 then nI (ENT σ b) else if nI j = 2 then nI (LEF σ b) else if nI j = 3 then nI (DRO σ b) else if nI j = 4 then nI (LEA σ b) else if nI j = 5 then nI (ORD σ b - ENT σ b) else if nI j = 6 then nI (mix σ b) else nI (PRD σ b)) := by
  obtain ⟨hA, hWS, hWG, hWT, hWB, hWK, hWC, -⟩ := id hW
  have h40 := hA.2.2.1
  have hb1 := hA.2.1
  have cOPN := hC.1.2.2.1
  have cidx : fX5_checkIndex (nI b) (gi M 0 9) M = some 0 := by rw [hC.1.2.1]; exact C_idx0 (by omega) hb
  have cpre : fX5_batch (nI b) (nI j) M = fX5_batch_b30 (nI b) (nI j) M := by
    unfold fX5_batch
    rw [cidx, Option.bind_some, if_pos rfl]
    by_cases z : b = 0
    · rw [z, if_pos (show nI 0 = 0 from rfl), cOPN, ho, if_neg (show ¬ nI 1 = 0 by decide)]
    · rw [if_neg (show ¬ nI b = 0 by rw [Lt0, cEq (by omega) (by omega)]; exact z)]
  have g := g6 (show b < 40 by omega) (by omega)
  have hcb : (nI b).toNatClampNeg = b := cCl (by omega)
  obtain ⟨e0, e4, e5, e6, e7, -⟩ := hC.2.2.2.2.2.2.1 b (by omega)
  obtain ⟨f3, f1, f2⟩ := hC.2.2.2.2.2.2.2.2.1 b hb
  obtain ⟨w1, w2, -⟩ := hWB.2 b (by omega)
  obtain ⟨v1, v2, v3, -⟩ := hWB.1 b hb
  have cp := (hC.2.2.2.2.2.1 _ v1).1
  have cin := C_inPipe hC.2.2.2.2.2.2.1 hWB (show b < 40 by omega)
  have cwa := C_waiting hC.2.2.2.2.2.2.1 hC.2.2.2.2.2.2.2.2.1 hWB hb h40
  have cmi := C_mixOf hC.1 hC.2.2.2.2.2.2.1 hC.2.2.2.2.2.2.2.1 hC.2.2.2.2.2.2.2.2.1 (WF_WM hW) hb
  unfold fL_batch
  rw [cpre]
  unfold fX5_batch_b30
  rw [show fX5_checkRange (nI j) 0 7 M = some 0 from C_rng0 (a := 0) (b := 7) (by omega) (by omega) (by omega), Option.bind_some, if_pos rfl, hcb, if_pos g, cin, cwa, cmi, Option.bind_some, Option.bind_some, Option.bind_some, e4, e5, e6, e7, f1, Option.bind_some, if_pos v1, cp]
  rcases (show j = 0 ∨ j = 1 ∨ j = 2 ∨ j = 3 ∨ j = 4 ∨ j = 5 ∨ j = 6 ∨ j = 7 by omega) with rfl | rfl | rfl | rfl | rfl | rfl | rfl | rfl <;> rfl
theorem Q_b0 (hW : WF σ) (hC : EC σ l d o M) (ho : OPN σ = 1) {b : Nat} (hb : b < NB σ) : fL_batch (nI b) (0 : Int32) M = some (nI (ENT σ b - LEF σ b - DRO σ b - LEA σ b)) := Q_batch hW hC ho hb (j := 0) (by omega)
theorem Q_b1 (hW : WF σ) (hC : EC σ l d o M) (ho : OPN σ = 1) {b : Nat} (hb : b < NB σ) : fL_batch (nI b) (1 : Int32) M = some (nI (ENT σ b)) := Q_batch hW hC ho hb (j := 1) (by omega)
theorem Q_b2 (hW : WF σ) (hC : EC σ l d o M) (ho : OPN σ = 1) {b : Nat} (hb : b < NB σ) : fL_batch (nI b) (2 : Int32) M = some (nI (LEF σ b)) := Q_batch hW hC ho hb (j := 2) (by omega)
theorem Q_b3 (hW : WF σ) (hC : EC σ l d o M) (ho : OPN σ = 1) {b : Nat} (hb : b < NB σ) : fL_batch (nI b) (3 : Int32) M = some (nI (DRO σ b)) := Q_batch hW hC ho hb (j := 3) (by omega)
theorem Q_b4 (hW : WF σ) (hC : EC σ l d o M) (ho : OPN σ = 1) {b : Nat} (hb : b < NB σ) : fL_batch (nI b) (4 : Int32) M = some (nI (LEA σ b)) := Q_batch hW hC ho hb (j := 4) (by omega)
theorem Q_b5 (hW : WF σ) (hC : EC σ l d o M) (ho : OPN σ = 1) {b : Nat} (hb : b < NB σ) : fL_batch (nI b) (5 : Int32) M = some (nI (ORD σ b - ENT σ b)) := Q_batch hW hC ho hb (j := 5) (by omega)
theorem Q_b6 (hW : WF σ) (hC : EC σ l d o M) (ho : OPN σ = 1) {b : Nat} (hb : b < NB σ) : fL_batch (nI b) (6 : Int32) M = some (nI (mix σ b)) := Q_batch hW hC ho hb (j := 6) (by omega)
theorem Q_unit (hW : WF σ) (hC : EC σ l d o M) (z : OPN σ = 1) {j : Nat} (hj : j < 2147483648) : fL_unit (nI j) M = some (if j < LEN σ then nI (UB σ j) else nM) := by
  have h6 := hW.1.1
  unfold fL_unit fX5_unit fX5_checkUnit
  rw [if_pos (show (0 : Int32) ≤ nI j from nI_ge0 hj), Option.bind_some, if_pos rfl, hC.1.2.2.1]
  have hn := hW.1.2.2.2.2.2.2.2.1 z
  have hs1 : gi M 0 8 - 1 = nO (NS σ) := by rw [hC.1.1, Lt1, cSub hn, nO_p (by omega)]
  rw [if_neg (show ¬ nI (OPN σ) = 0 by rw [z]; decide), hs1, C_unit_L hC hW z (NS σ) 400 j (Nat.le_refl _) (by omega) hj, off_last, Nat.zero_add, Option.bind_some, ← (hW.2.2.2.2.2.2.2.1 z).1]
  rfl
theorem Q_unitAnew (hW : WF σ) (hC : EC σ l d o M) (z : OPN σ = 1) {j : Nat} (hj : j < 2147483648) : fL_unitAnew (nI j) M = some (if j < LEN σ then nI (UB σ j) else nM) := by
  unfold fL_unitAnew fX5_unitAnew fX5_checkUnit
  rw [if_pos (show (0 : Int32) ≤ nI j from nI_ge0 hj), Option.bind_some, if_pos rfl, hC.1.2.2.1]
  have hO := hW.2.2.2.2.2.2.2.1 z
  have hlen := (len_b hW (hW.1.2.2.2.2.2.2.2.1 z)).1
  rw [← hO.1] at hlen
  have hz : (0 : Int32).toNatClampNeg = 0 := rfl
  have z0 : str σ 0 = 0 := by unfold str; rw [if_pos rfl]
  have hmu := mu_le (σ := σ) 0
  rw [if_neg (show ¬ nI (OPN σ) = 0 by rw [z]; decide), hz, if_pos (show ¬ ((0 : Int32) < 0 ∨ 40 ≤ 0) by decide), C_anew_L hC hW z 400 j 0 0 (by omega) hj (by have := hW.1.2.1; omega) (by omega) (by omega) (fun i hi => by omega) (fun i _ _ => by rw [z0]; omega), Nat.zero_add, Option.bind_some]
  rfl
theorem Q_tank (hW : WF σ) (hC : EC σ l d o M) {t j : Nat} (ht : t < 4) (h2 : j ≤ 2) : fL_tank (nI t) (nI j) M = some (if nI j = 0 then nI (HAS σ t) else if nI j = 1 then nO (TG σ t) else nI (MXD σ t)) := by
  have g := g6 ht (by omega)
  have hc := hC.2.2.2.2.2.2.2.2.2.1 t ht
  have hct : (nI t).toNatClampNeg = t := cCl (by omega)
  unfold fL_tank fX5_tank
  rw [show fX5_checkIndex (nI t) 4 M = some 0 from C_idx0 (n := 4) (by omega) ht, Option.bind_some, if_pos rfl, show fX5_checkRange (nI j) 0 2 M = some 0 from C_rng0 (a := 0) (b := 2) (by omega) (by omega) (by omega), Option.bind_some, if_pos rfl]
  simp only [hct, if_pos g, hc.1, hc.2.1, hc.2.2.1]
  rcases (show j = 0 ∨ j = 1 ∨ j = 2 by omega) with rfl | rfl | rfl <;> rfl
theorem Q_t0 (hW : WF σ) (hC : EC σ l d o M) {t : Nat} (ht : t < 4) : fL_tank (nI t) (0 : Int32) M = some (nI (HAS σ t)) := Q_tank hW hC ht (j := 0) (by omega)
theorem Q_t1 (hW : WF σ) (hC : EC σ l d o M) {t : Nat} (ht : t < 4) : fL_tank (nI t) (1 : Int32) M = some (nO (TG σ t)) := Q_tank hW hC ht (j := 1) (by omega)
theorem Q_t2 (hW : WF σ) (hC : EC σ l d o M) {t : Nat} (ht : t < 4) : fL_tank (nI t) (2 : Int32) M = some (nI (MXD σ t)) := Q_tank hW hC ht (j := 2) (by omega)
theorem Q_pipe (hW : WF σ) (hC : EC σ l d o M) {j : Nat} (h2 : j ≤ 5) : fX5_pipe (nI j) M = (if nI j = 0 then some (0, nI (RF σ)) else if nI j = 1 then some (0, nI (sm (BAL σ) 0 5)) else if nI j = 2 then (if nI (sm (BAL σ) 0 5) < 3 then some (0, 0) else some (0, 1)) else if nI j = 3 then some (0, nI (sm (SPL σ) 0 4)) else if nI j = 4 then (if nO (PIG σ) = -1 then some (0, 0) else some (0, 1)) else some (0, nI (MIN σ))) := by
  unfold fX5_pipe
  rw [show fX5_checkRange (nI j) 0 5 M = some 0 from C_rng0 (a := 0) (b := 5) (by omega) (by omega) h2, Option.bind_some, if_pos rfl, C_bal hC.2.2.2.2.2.2.2.2.2.2, Option.bind_some, Option.bind_some, C_spl hC.2.2.2.2.2.2.2.2.2.1, Option.bind_some, hC.1.2.2.2.2.2.1, hC.1.2.2.2.2.2.2.1, hC.1.2.2.2.2.2.2.2.1]
theorem Q_p1 (hW : WF σ) (hC : EC σ l d o M) : fL_pipe (1 : Int32) M = some (nI (sm (BAL σ) 0 5)) := by
  unfold fL_pipe
  rw [show fX5_pipe (1 : Int32) M = some (0, nI (sm (BAL σ) 0 5)) from Q_pipe hW hC (j := 1) (by omega), Option.bind_some]
  rfl
theorem Q_p2 (hW : WF σ) (hC : EC σ l d o M) : fL_pipe (2 : Int32) M = some (if nI (sm (BAL σ) 0 5) < 3 then 0 else 1) := by
  unfold fL_pipe
  have e : fX5_pipe (2 : Int32) M = (if nI (sm (BAL σ) 0 5) < 3 then some (0, 0) else some (0, 1)) := Q_pipe hW hC (j := 2) (by omega)
  rw [e]
  by_cases z : nI (sm (BAL σ) 0 5) < 3
  · rw [if_pos z, if_pos z]
    rfl
  · rw [if_neg z, if_neg z]
    rfl
theorem Q_p3 (hW : WF σ) (hC : EC σ l d o M) : fL_pipe (3 : Int32) M = some (nI (sm (SPL σ) 0 4)) := by
  unfold fL_pipe
  rw [show fX5_pipe (3 : Int32) M = some (0, nI (sm (SPL σ) 0 4)) from Q_pipe hW hC (j := 3) (by omega), Option.bind_some]
  rfl
theorem Q_p4 (hW : WF σ) (hC : EC σ l d o M) : fL_pipe (4 : Int32) M = some (if PIG σ = 0 then 0 else 1) := by
  have hp := hW.1.2.2.2.2.2.2.2.2.2.2.2
  unfold fL_pipe
  have e : fX5_pipe (4 : Int32) M = (if nO (PIG σ) = -1 then some (0, 0) else some (0, 1)) := Q_pipe hW hC (j := 4) (by omega)
  rw [e]
  by_cases z : PIG σ = 0
  · rw [if_pos (show nO (PIG σ) = -1 by rw [z]; rfl), if_pos z]
    rfl
  · rw [if_neg (show ¬ nO (PIG σ) = -1 by rw [show (-1 : Int32) = nM from rfl, cOM (by omega)]; exact z), if_neg z]
    rfl
theorem Q_p5 (hW : WF σ) (hC : EC σ l d o M) : fL_pipe (5 : Int32) M = some (nI (MIN σ)) := by
  unfold fL_pipe
  rw [show fX5_pipe (5 : Int32) M = some (0, nI (MIN σ)) from Q_pipe hW hC (j := 5) (by omega), Option.bind_some]
  rfl
theorem Q_dirt (hW : WF σ) (hC : EC σ l d o M) {j : Nat} (h1 : j < NS σ) : fL_dirt (nI j) M = some (nI (DIR σ j)) := by
  have h6 := hW.1.1
  have g := g6 (show j < 6 by omega) (by omega)
  unfold fL_dirt fX5_dirt
  rw [hC.1.1, C_idx0 (by omega) h1, Option.bind_some, cCl (show j < 2147483648 by omega), if_pos rfl, if_pos g, (hC.2.2.1 j (by omega)).2.1]
  rfl
theorem Q_pressure (hW : WF σ) (hC : EC σ l d o M) (z : OPN σ = 1) {s u : Nat} (hs : s < NS σ) (h2 : u ≤ 10) : fL_pressure (nI s) (nI u) M = some (nI (prs σ s u)) := by
  have h6 := hW.1.1
  unfold fL_pressure fX5_pressure
  rw [hC.1.1, show fX5_checkIndex (nI s) (nI (NS σ)) M = some 0 from C_idx0 (by omega) hs, Option.bind_some, if_pos rfl, show fX5_checkRange (nI u) 0 10 M = some 0 from C_rng0 (a := 0) (b := 10) (by omega) (by omega) h2, Option.bind_some, if_pos rfl, hC.1.2.2.1, z, if_neg (show ¬ nI 1 = 0 by decide), Lt1, cSub (show 1 ≤ NS σ by omega), C_headAt hC hW z (show NS σ - 1 < NS σ by omega), Option.bind_some, C_press_L hC hW z hs h2 (NS σ - s) s 400 _ (by omega) (by omega) (by rw [Nat.sub_self, sm_0, Nat.add_zero]) (Nat.le_refl s), Option.bind_some]
  rfl
theorem Q_share (hW : WF σ) (hC : EC σ l d o M) {s x : Nat} (hs : s < 4) (h2 : x ≤ 9999) : fL_share (nI s) (nI x) M = some (nI (shr σ s x)) := by
  unfold fL_share fX5_share
  rw [show fX5_checkIndex (nI s) 4 M = some 0 from C_idx0 (n := 4) (by omega) hs, Option.bind_some, if_pos rfl, show fX5_checkRange (nI x) 0 9999 M = some 0 from C_rng0 (a := 0) (b := 9999) (by omega) (by omega) h2, Option.bind_some, if_pos rfl, Lt0, C_sh_L hC hW hs h2 4 0 400 0 0 (by omega) (by omega) rfl rfl, Option.bind_some]
  rfl
/-! pressures grow with the rate; shares are at most what is shared -/
theorem prs_34 (s : Nat) : prs σ s 3 ≤ prs σ s 4 := by
  have h : sm (fun k => frc σ k 3) s (NS σ - s) ≤ sm (fun k => frc σ k 4) s (NS σ - s) := sm_le (fun k _ _ => by
    unfold frc
    omega)
  unfold prs ned
  omega
theorem prs_b (hW : WF σ) (ho : OPN σ = 1) {s u : Nat} (hu : u ≤ 10) : prs σ s u ≤ 1100 := by
  have := ned_le hW ho (s := s) hu
  unfold prs
  omega
theorem sm4 (f : Nat → Nat) : sm f 0 4 = f 0 + f 1 + f 2 + f 3 := by
  show f 0 + (f 1 + (f 2 + (f 3 + 0))) = _
  omega
theorem shr_wt (s x : Nat) : shr σ s x ≤ wt σ s := by
  unfold shr
  split
  · exact Nat.le_refl _
  · exact Nat.min_le_left _ _
theorem div4 (x a b c d n : Nat) (hn : n = a + b + c + d) (h0 : 0 < n) : x * a / n + x * b / n + x * c / n + x * d / n ≤ x := by
  have h1 := Nat.div_mul_le_self (x * a) n
  have h2 := Nat.div_mul_le_self (x * b) n
  have h3 := Nat.div_mul_le_self (x * c) n
  have h4 := Nat.div_mul_le_self (x * d) n
  have e : x * n = x * a + x * b + x * c + x * d := by rw [hn, Nat.mul_add, Nat.mul_add, Nat.mul_add]
  have e2 : (x * a / n + x * b / n + x * c / n + x * d / n) * n = x * a / n * n + x * b / n * n + x * c / n * n + x * d / n * n := by rw [Nat.add_mul, Nat.add_mul, Nat.add_mul]
  exact Nat.le_of_mul_le_mul_right (by omega) h0
theorem shr_x (x : Nat) : sm (fun s => shr σ s x) 0 4 ≤ x := by
  by_cases z : sm (wt σ) 0 4 ≤ x
  · have : sm (fun s => shr σ s x) 0 4 ≤ sm (wt σ) 0 4 := sm_le (fun k _ _ => shr_wt k x)
    omega
  · have e := div4 x (1 + cl σ 0) (1 + cl σ 1) (1 + cl σ 2) (1 + cl σ 3) (sm (fun t => 1 + cl σ t) 0 4) (sm4 _) (by rw [sm4]; omega)
    have k : ∀ s, shr σ s x ≤ x * (1 + cl σ s) / sm (fun t => 1 + cl σ t) 0 4 := fun s => by
      unfold shr
      rw [if_neg z]
      exact Nat.min_le_right _ _
    have k0 := k 0
    have k1 := k 1
    have k2 := k 2
    have k3 := k 3
    rw [sm4]
    omega
theorem shr_all (hW : WF σ) (s : Nat) : shr σ s 9999 ≤ 14040 := Nat.le_trans (shr_wt s 9999) (wt_le hW s)
end Q74
