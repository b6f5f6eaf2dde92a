/-! A UNIT ENTERS -/
/-- a unit of e has entered: the segments before k have moved on, so all from t on has -/
def mvt (σ : Sp) (e t k : Nat) : Sp := fun f i =>
  if f = 12 ∧ i = e then ENT σ e + 1
  else if f = 0 ∧ i = 4 then ALL σ + 1
  else if f = 21 then (if t ≤ i ∧ i < LEN σ then (if i + 1 = LEN σ then e else UB σ (i + 1)) else UB σ i)
  else if f = 22 then (if t ≤ i ∧ i < LEN σ then (if i + 1 = LEN σ then ENT σ e else UP σ (i + 1)) else UP σ i)
  else if f = 28 ∧ i < k then (if LA σ i + 1 < HOL σ i then LA σ i + 1 else 0)
  else σ f i
section Br
variable {σ σ' : Sp} {M M' : Mm} {l d o e t k : Nat}
theorem mvt_f {f : Nat} (h12 : f ≠ 12) (h0 : f ≠ 0) (h21 : f ≠ 21) (h22 : f ≠ 22) (h28 : f ≠ 28) : mvt σ e t k f = σ f := by
  funext i
  unfold mvt
  rw [if_neg (fun z => h12 z.1), if_neg (fun z => h0 z.1), if_neg h21, if_neg h22, if_neg (fun z => h28 z.1)]
theorem mvt_0 {i : Nat} (h : i ≠ 4) : mvt σ e t k 0 i = σ 0 i := by
  unfold mvt
  rw [if_neg (by omega), if_neg (fun z => h z.2), if_neg (by omega), if_neg (by omega), if_neg (by omega)]
theorem mvt_4 : mvt σ e t k 0 4 = ALL σ + 1 := by
  unfold mvt
  rw [if_neg (by omega), if_pos ⟨rfl, rfl⟩]
theorem mvt_12 {i : Nat} : mvt σ e t k 12 i = if i = e then ENT σ e + 1 else σ 12 i := by
  unfold mvt
  by_cases h : i = e
  · rw [if_pos ⟨rfl, h⟩, if_pos h]
  · rw [if_neg (fun z => h z.2), if_neg (by omega), if_neg (by omega), if_neg (by omega), if_neg (by omega), if_neg h]
theorem mvt_21 {i : Nat} : mvt σ e t k 21 i = if t ≤ i ∧ i < LEN σ then (if i + 1 = LEN σ then e else UB σ (i + 1)) else UB σ i := by
  unfold mvt
  rw [if_neg (by omega), if_neg (by omega), if_pos rfl]
theorem mvt_22 {i : Nat} : mvt σ e t k 22 i = if t ≤ i ∧ i < LEN σ then (if i + 1 = LEN σ then ENT σ e else UP σ (i + 1)) else UP σ i := by
  unfold mvt
  rw [if_neg (by omega), if_neg (by omega), if_neg (by omega), if_pos rfl]
theorem mvt_21l {i : Nat} (h : i < t) : mvt σ e t k 21 i = UB σ i := by rw [mvt_21, if_neg (show ¬ (t ≤ i ∧ i < LEN σ) by omega)]
theorem mvt_22l {i : Nat} (h : i < t) : mvt σ e t k 22 i = UP σ i := by rw [mvt_22, if_neg (show ¬ (t ≤ i ∧ i < LEN σ) by omega)]
theorem mvt_21g {i : Nat} (h : t ≤ i) (h2 : i < LEN σ) : mvt σ e t k 21 i = if i + 1 = LEN σ then e else UB σ (i + 1) := by rw [mvt_21, if_pos (show t ≤ i ∧ i < LEN σ from ⟨h, h2⟩)]
theorem mvt_22g {i : Nat} (h : t ≤ i) (h2 : i < LEN σ) : mvt σ e t k 22 i = if i + 1 = LEN σ then ENT σ e else UP σ (i + 1) := by rw [mvt_22, if_pos (show t ≤ i ∧ i < LEN σ from ⟨h, h2⟩)]
theorem mvt_28 {i : Nat} : mvt σ e t k 28 i = if i < k then (if LA σ i + 1 < HOL σ i then LA σ i + 1 else 0) else σ 28 i := by
  unfold mvt
  rw [if_neg (by omega), if_neg (by omega), if_neg (by omega), if_neg (by omega)]
  by_cases h : i < k
  · rw [if_pos ⟨rfl, h⟩, if_pos h]
  · rw [if_neg (fun z => h z.2), if_neg h]
theorem mov_mvt {s : Nat} (h : off σ s < LEN σ) : mov σ e s = mvt σ e (off σ s) (s + 1) := by
  funext f i
  unfold mov mvt
  by_cases c1 : f = 12 ∧ i = e
  · rw [if_pos c1, if_pos c1]
  · rw [if_neg c1, if_neg c1]
    by_cases c2 : f = 0 ∧ i = 4
    · rw [if_pos c2, if_pos c2]
    · rw [if_neg c2, if_neg c2]
      have key : ∀ x y z : Nat, (if i + 1 = LEN σ then x else if off σ s ≤ i ∧ i + 1 < LEN σ then y else z) = (if off σ s ≤ i ∧ i < LEN σ then (if i + 1 = LEN σ then x else y) else z) := by
        intro x y z
        by_cases g1 : i + 1 = LEN σ
        · rw [if_pos g1, if_pos (by omega), if_pos g1]
        · rw [if_neg g1]
          by_cases g2 : off σ s ≤ i ∧ i + 1 < LEN σ
          · rw [if_pos g2, if_pos (by omega), if_neg g1]
          · rw [if_neg g2, if_neg (by omega)]
      rw [key, key]
      by_cases c3 : f = 28 ∧ i ≤ s
      · rw [if_pos c3, if_pos (show f = 28 ∧ i < s + 1 by omega)]
      · rw [if_neg c3, if_neg (show ¬ (f = 28 ∧ i < s + 1) by omega)]
/-- what a unit that enters needs -/
def WN (σ : Sp) : Prop := NS σ ≤ 6 ∧ NB σ ≤ 40 ∧ OPN σ = 1 ∧ WS σ ∧ LEN σ = sm (HOL σ) 0 (NS σ) ∧ (∀ j, j < LEN σ → UB σ j < NB σ ∧ UP σ j < 512) ∧ (∀ b, b < NB σ → PRD σ b < 6) ∧ INL σ < NB σ
theorem C_batchOf9 {N b p : Nat} (h9 : gi M 0 9 = nI N) (hb : b < N) (hN : N ≤ 40) (hp : p < 512) : fX5_batchOf (nI (cod b p)) M = some (some b) := by
  have e1 : cod b p < 2147483648 := by unfold cod; omega
  unfold fX5_batchOf
  simp (disch := omega) only [h9, cDiv, cod_div hp, cLt, cLe, cEq, cCl, cAdd, cMul, cMl, cMe, cMle, cMm, Lt0, Lt1, Lt2, Lt3, Lt4, Lt5, Lt6, Lt7, Lt8, Lt9, Lt10, Lt31, Lt40, Lt50, Lt60, Lt63, Lt99, Lt100, Lt128, Lt200, Lt360, Lt500, Lt512, Lt9999, Lm, if_true, if_false, if_pos, if_neg, Option.bind_some]
theorem off_mono {i : Nat} (h : i < k) (hk : k < NS σ) : off σ k + HOL σ k ≤ off σ i := by
  have h1 := off_s hk
  rw [h1]
  unfold off
  rw [show NS σ - 1 - i = (k - i - 1) + (NS σ - k) by omega, sm_app, show i + 1 + (k - i - 1) = k by omega]
  omega
/-- one segment's units, one on -/
theorem sh_ne {f x i j : Nat} (hk : k < NS σ) (hi : i < NS σ) (hne : i ≠ k) (hj : j < HOL σ i) : (if off σ k ≤ off σ i + j ∧ off σ i + j < LEN σ then (if off σ i + j + 1 = LEN σ then x else σ f (off σ i + j + 1)) else σ f (off σ i + j)) = (if off σ k + HOL σ k ≤ off σ i + j ∧ off σ i + j < LEN σ then (if off σ i + j + 1 = LEN σ then x else σ f (off σ i + j + 1)) else σ f (off σ i + j)) := by
  have : (off σ k ≤ off σ i + j ∧ off σ i + j < LEN σ) = (off σ k + HOL σ k ≤ off σ i + j ∧ off σ i + j < LEN σ) := by
    apply propext
    rcases Nat.lt_or_ge i k with q | q
    · have := off_mono q hk
      omega
    · have := off_mono (σ := σ) (show k < i by omega) hi
      omega
  simp only [this]
theorem cnt_ne {i p : Nat} (hk : k < NS σ) (hi : i < NS σ) (hne : i ≠ k) : cnt (mvt σ e (off σ k) (k + 1)) i p = cnt (mvt σ e (off σ k + HOL σ k) k) i p := by
  unfold cnt
  rw [off_c (mvt_0 (by omega)) (mvt_f (by omega) (by omega) (by omega) (by omega) (by omega)), off_c (mvt_0 (by omega)) (mvt_f (by omega) (by omega) (by omega) (by omega) (by omega))]
  show sm _ 0 (mvt σ e (off σ k) (k + 1) 1 i) = sm _ 0 (mvt σ e (off σ k + HOL σ k) k 1 i)
  rw [mvt_f (by omega) (by omega) (by omega) (by omega) (by omega), mvt_f (by omega) (by omega) (by omega) (by omega) (by omega)]
  apply sm_cong
  intro j _ hj
  have hj : j < HOL σ i := by rw [Nat.zero_add] at hj; exact hj
  show (if mvt σ e (off σ k) (k + 1) 10 (mvt σ e (off σ k) (k + 1) 21 _) = p then 1 else 0) = (if mvt σ e (off σ k + HOL σ k) k 10 (mvt σ e (off σ k + HOL σ k) k 21 _) = p then 1 else 0)
  rw [mvt_21, mvt_21, sh_ne hk hi hne hj, mvt_f (by omega) (by omega) (by omega) (by omega) (by omega), mvt_f (by omega) (by omega) (by omega) (by omega) (by omega)]
theorem cnt_eq {p : Nat} (hk : k < NS σ) (hL : LEN σ = sm (HOL σ) 0 (NS σ)) (hH : 1 ≤ HOL σ k) : cnt (mvt σ e (off σ k) (k + 1)) k p + (if PRD σ (UB σ (off σ k)) = p then 1 else 0) = cnt (mvt σ e (off σ k + HOL σ k) k) k p + (if PRD σ (if off σ k + HOL σ k = LEN σ then e else UB σ (off σ k + HOL σ k)) = p then 1 else 0) := by
  have hin := off_in hL hk
  have e1 : cnt (mvt σ e (off σ k + HOL σ k) k) k p = sm (fun j => if PRD σ (if off σ k + j = LEN σ then e else UB σ (off σ k + j)) = p then 1 else 0) 0 (HOL σ k) := by
    unfold cnt
    rw [off_c (mvt_0 (by omega)) (mvt_f (by omega) (by omega) (by omega) (by omega) (by omega))]
    show sm _ 0 (mvt σ e (off σ k + HOL σ k) k 1 k) = _
    rw [mvt_f (by omega) (by omega) (by omega) (by omega) (by omega)]
    apply sm_cong
    intro j _ hj
    have hj : j < HOL σ k := by rw [Nat.zero_add] at hj; exact hj
    show (if mvt σ e (off σ k + HOL σ k) k 10 (mvt σ e (off σ k + HOL σ k) k 21 _) = p then 1 else 0) = _
    rw [mvt_21l (by omega), mvt_f (by omega) (by omega) (by omega) (by omega) (by omega), if_neg (show ¬ off σ k + j = LEN σ by omega)]
  have e2 : cnt (mvt σ e (off σ k) (k + 1)) k p = sm (fun j => if PRD σ (if off σ k + j = LEN σ then e else UB σ (off σ k + j)) = p then 1 else 0) 1 (HOL σ k) := by
    unfold cnt
    rw [off_c (mvt_0 (by omega)) (mvt_f (by omega) (by omega) (by omega) (by omega) (by omega))]
    show sm _ 0 (mvt σ e (off σ k) (k + 1) 1 k) = _
    rw [mvt_f (by omega) (by omega) (by omega) (by omega) (by omega), show (1 : Nat) = 0 + 1 from rfl, ← sm_shift _ _ 0 1]
    apply sm_cong
    intro j _ hj
    have hj : j < HOL σ k := by rw [Nat.zero_add] at hj; exact hj
    show (if mvt σ e (off σ k) (k + 0 + 1) 10 (mvt σ e (off σ k) (k + 0 + 1) 21 _) = p then 1 else 0) = _
    rw [mvt_21g (by omega) (by omega), mvt_f (by omega) (by omega) (by omega) (by omega) (by omega)]
    rfl
  have e3 := sm_s (fun j => if PRD σ (if off σ k + j = LEN σ then e else UB σ (off σ k + j)) = p then 1 else 0) 0 (HOL σ k)
  rw [sm_last, Nat.zero_add, Nat.zero_add, ← e1, ← e2] at e3
  rw [Nat.add_zero, if_neg (show ¬ off σ k = LEN σ by omega)] at e3
  omega
theorem WS_mvt (hW : WS σ) : WS (mvt σ e t k) := by
  obtain ⟨w1, w2⟩ := hW
  refine ⟨fun i hi => ?_, fun i hi => ?_⟩
  · have hi' : i < NS σ := by
      have : mvt σ e t k 0 0 = σ 0 0 := mvt_0 (by omega)
      unfold NS at *; omega
    obtain ⟨a1, a2, a3, a4, a5, a6⟩ := w1 i hi'
    unfold HOL HEI LIM LA at *
    rw [mvt_f (f := 1) (by omega) (by omega) (by omega) (by omega) (by omega), mvt_f (f := 2) (by omega) (by omega) (by omega) (by omega) (by omega), mvt_f (f := 3) (by omega) (by omega) (by omega) (by omega) (by omega), mvt_28]
    refine ⟨a1, a2, a3, a4, a5, ?_⟩
    unfold LA HOL
    split
    · split <;> omega
    · exact a6
  · unfold DIR at *
    rw [mvt_f (f := 4) (by omega) (by omega) (by omega) (by omega) (by omega)]
    exact w2 i hi
theorem C_bring_step (hN : WN σ) {b p s n : Nat} (hC : EC (mvt σ e (off σ k + HOL σ k) k) l d o M) (hk : k < NS σ) (hs : k ≤ s) (hs6 : s < 6) (he : e < NB σ) (hE : ENT σ e < 512)
    (hb : b = if off σ k + HOL σ k = LEN σ then e else UB σ (off σ k + HOL σ k)) (hp : p = if off σ k + HOL σ k = LEN σ then ENT σ e else UP σ (off σ k + HOL σ k)) :
    ∃ M', fX5_bringIn_L70 (n + 1) (nI s) (nI (cod b p)) (nI k) M = fX5_bringIn_L70 n (nI s) (nI (cod (UB σ (off σ k)) (UP σ (off σ k)))) (nI (k + 1)) M' ∧ EC (mvt σ e (off σ k) (k + 1)) l d o M' ∧ Fr (fun k => k < 77) M M' := by
  obtain ⟨n6, n40, nO1, nW, nL, nU, nP, nI1⟩ := id hN
  obtain ⟨a1, a2, a3, a4, a5, a6⟩ := nW.1 k hk
  have hin := off_in nL hk
  obtain ⟨c1, c2, c3, c4, c5, c6, c7, c8, c9, c10, c11⟩ := id hC
  have hbN : b < NB σ ∧ p < 512 := by
    by_cases z : off σ k + HOL σ k = LEN σ
    · rw [if_pos z] at hb hp
      subst hb; subst hp
      exact ⟨he, hE⟩
    · rw [if_neg z] at hb hp
      have := nU (off σ k + HOL σ k) (by omega)
      subst hb; subst hp
      exact this
  obtain ⟨u1, u2⟩ := nU (off σ k) (by omega)
  have hpb := nP b hbN.1
  have hpo := nP _ u1
  have h9 : gi M 0 9 = nI (NB σ) := by
    rw [c1.2.1]
    unfold NB
    rw [mvt_0 (by omega)]
  have g1 : ∀ q, q < NB σ → gr M (33 + q) 1 = some (PRD σ q) := by
    intro q hq
    have h := (c9 q (by unfold NB at *; rw [mvt_0 (by omega)]; exact hq)).2.1
    unfold PRD at h ⊢
    rw [mvt_f (by omega) (by omega) (by omega) (by omega) (by omega)] at h
    exact h
  have g2 : ∀ q, q < 6 → gi M (27 + q) 0 = nI q := fun q hq => (c6 q hq).1
  have hoff : off (mvt σ e (off σ k + HOL σ k) k) k = off σ k := off_c (mvt_0 (by omega)) (mvt_f (by omega) (by omega) (by omega) (by omega) (by omega)) k
  have hfe : fX2_fromEnd k (nI 0) M = some (nI (cod (UB σ (off σ k)) (UP σ (off σ k)))) := by
    have h := C_fromEnd c3 c4 (WS_mvt nW) (show mvt σ e (off σ k + HOL σ k) k 0 2 = 1 by rw [mvt_0 (by omega)]; exact nO1) (show mvt σ e (off σ k + HOL σ k) k 0 0 ≤ 6 by rw [mvt_0 (by omega)]; exact n6) (i := k) (j := 0) (show k < mvt σ e (off σ k + HOL σ k) k 0 0 by rw [mvt_0 (by omega)]; exact hk) (show 0 < mvt σ e (off σ k + HOL σ k) k 1 k by rw [mvt_f (by omega) (by omega) (by omega) (by omega) (by omega)]; show 0 < HOL σ k; omega)
    rw [h, hoff, Nat.add_zero]
    unfold UB UP
    rw [mvt_21l (by omega), mvt_22l (by omega)]
  have hcnt : ∀ q, q < 6 → gi M (11 + 3 * k) q = nI (cnt (mvt σ e (off σ k + HOL σ k) k) k q) := by
    intro q hq
    rw [c5 k (by omega) q hq, if_pos]
    refine ⟨?_, ?_⟩
    · unfold OPN at *; rw [mvt_0 (by omega)]; exact nO1
    · unfold NS at *; rw [mvt_0 (by omega)]; exact hk
  have ces := c3 k (by omega)
  have hla : gi M (9 + 3 * k) 2 = nI (LA σ k) := by
    rw [ces.2.2]
    unfold LA
    rw [mvt_28, if_neg (by omega)]
  have hho : gi M (9 + 3 * k) 3 = nI (HOL σ k) := by
    rw [(ces.1 (by unfold NS at *; rw [mvt_0 (by omega)]; exact hk)).1]
    unfold HOL
    rw [mvt_f (by omega) (by omega) (by omega) (by omega) (by omega)]
  generalize hpi : PRD σ b = pi at *
  generalize hpo' : PRD σ (UB σ (off σ k)) = po at *
  have heq := fun q => cnt_eq (σ := σ) (e := e) (p := q) hk nL (by omega)
  rw [← hb, hpi, hpo'] at heq
  generalize hci : cnt (mvt σ e (off σ k + HOL σ k) k) k = ci at *
  have hle : ∀ q, ci q ≤ 60 := by
    intro q
    rw [← hci]
    unfold cnt
    have := sm_bound (f := fun j => if PRD (mvt σ e (off σ k + HOL σ k) k) (UB (mvt σ e (off σ k + HOL σ k) k) (off (mvt σ e (off σ k + HOL σ k) k) k + j)) = q then 1 else 0) (c := 1) (a := 0) (n := HOL (mvt σ e (off σ k + HOL σ k) k) k) (fun j _ _ => by split <;> omega)
    have h60 : HOL (mvt σ e (off σ k + HOL σ k) k) k ≤ 60 := by
      unfold HOL at *; rw [mvt_f (by omega) (by omega) (by omega) (by omega) (by omega)]; exact a2
    omega
  have h2 : gi (si M (11 + 3 * k) pi (nI (ci pi + 1))) (11 + 3 * k) po = nI (if po = pi then ci pi + 1 else ci po) := by
    rw [gi_if]
    by_cases z : po = pi
    · rw [if_pos ⟨rfl, z⟩, if_pos z]
    · rw [if_neg (fun y => z y.2), if_neg z, hcnt _ hpo]
  have hpos : 1 ≤ (if po = pi then ci pi + 1 else ci po) := by
    by_cases z : po = pi
    · rw [if_pos z]; omega
    · rw [if_neg z]
      have := heq po
      rw [if_pos rfl, if_neg (fun y => z y.symm)] at this
      omega
  refine ⟨si (si (si (si M (11 + 3 * k) pi (nI (ci pi + 1))) (11 + 3 * k) po (nI ((if po = pi then ci pi + 1 else ci po) - 1))) (10 + 3 * k) (LA σ k) (nI (cod b p))) (9 + 3 * k) 2 (nI (if LA σ k + 1 < HOL σ k then LA σ k + 1 else 0)), ?_, ?_, (((Fr.rf.si (by omega)).si (by omega)).si (by omega)).si (by omega)⟩
  · have hmo : fX2_moveOn k (nI (cod b p)) (si (si M (11 + 3 * k) pi (nI (ci pi + 1))) (11 + 3 * k) po (nI ((if po = pi then ci pi + 1 else ci po) - 1))) = some (si (si (si (si M (11 + 3 * k) pi (nI (ci pi + 1))) (11 + 3 * k) po (nI ((if po = pi then ci pi + 1 else ci po) - 1))) (10 + 3 * k) (LA σ k) (nI (cod b p))) (9 + 3 * k) 2 (nI (if LA σ k + 1 < HOL σ k then LA σ k + 1 else 0))) := by
      unfold fX2_moveOn
      have q1 : gi (si (si M (11 + 3 * k) pi (nI (ci pi + 1))) (11 + 3 * k) po (nI ((if po = pi then ci pi + 1 else ci po) - 1))) (9 + 3 * k) 2 = nI (LA σ k) := by rw [gi_ne (by omega), gi_ne (by omega), hla]
      rw [if_pos (by omega), q1, if_pos (gd (by omega) (by omega)), cCl (by omega), gi_ne (by omega), gi_ne (by omega), gi_ne (by omega), hho, gi_ne (by omega), q1, Lt1, cAdd]
      by_cases z : LA σ k + 1 < HOL σ k
      · rw [if_pos z, if_neg (show ¬ nI (HOL σ k) ≤ nI (LA σ k + 1) by rw [cLe (by omega) (by omega)]; omega)]
      · rw [if_neg z, if_pos (show nI (HOL σ k) ≤ nI (LA σ k + 1) by rw [cLe (by omega) (by omega)]; omega)]
        rfl
    rw [fX5_bringIn_L70]
    dsimp only
    rw [if_neg (show ¬ nI s < nI k by rw [cLt (by omega) (by omega)]; omega), if_pos (gd (by omega) (by omega)), cCl (by omega)]
    rw [show (0 : Int32) = nI 0 from rfl, hfe, Option.bind_some, if_pos (show ¬ (nI k < nI 0 ∨ 6 ≤ k) by rw [cLt (by omega) (by omega)]; omega)]
    rw [C_batchOf9 h9 hbN.1 n40 hbN.2, Option.bind_some, Option.bind_some, if_pos (by omega), g1 b hbN.1, Option.bind_some, hpi, if_pos hpb, g2 pi hpb]
    have gk : ¬ (nI k < 0 ∨ 6 ≤ k) := by rw [Lt0, cLt (by omega) (by omega)]; omega
    have gpi := gd (i := pi) (n := 6) hpb (by omega)
    have gpo := gd (i := po) (n := 6) hpo (by omega)
    rw [show (nI 0 : Int32) = 0 from rfl, if_pos gpi, if_pos gpi, if_pos gk, cCl (by omega), hcnt pi hpb, Lt1, cAdd]
    rw [C_batchOf9 (N := NB σ) (by rw [gi_ne (by omega)]; exact h9) u1 n40 u2, Option.bind_some, Option.bind_some, if_pos (by omega), gr_si, g1 _ u1, Option.bind_some, hpo', if_pos hpo, gi_ne (by omega), g2 po hpo, if_pos gpo, if_pos gpo, if_pos gk, cCl (by omega), h2, cSub hpos, hmo, Option.bind_some, cAdd]
  · generalize hMM : si (si (si (si M (11 + 3 * k) pi (nI (ci pi + 1))) (11 + 3 * k) po (nI ((if po = pi then ci pi + 1 else ci po) - 1))) (10 + 3 * k) (LA σ k) (nI (cod b p))) (9 + 3 * k) 2 (nI (if LA σ k + 1 < HOL σ k then LA σ k + 1 else 0)) = M'
    have r1 : ∀ i, ¬ (9 ≤ i ∧ i < 27) → M'.1 i = M.1 i := by
      intro i hi
      rw [← hMM, si_1 (by omega), si_1 (by omega), si_1 (by omega), si_1 (by omega)]
    have r1' : ∀ i, i ≠ 9 + 3 * k → i ≠ 10 + 3 * k → i ≠ 11 + 3 * k → M'.1 i = M.1 i := by
      intro i h1 h2 h3
      rw [← hMM, si_1 (by omega), si_1 (by omega), si_1 (by omega), si_1 (by omega)]
    have r2 : M'.2 = M.2 := by rw [← hMM]; rfl
    have hf : ∀ f, f ≠ 21 → f ≠ 22 → f ≠ 28 → mvt σ e (off σ k) (k + 1) f = mvt σ e (off σ k + HOL σ k) k f := by
      intro f h21 h22 h28
      funext i
      unfold mvt
      rw [if_neg h21, if_neg h22, if_neg (show ¬ (f = 28 ∧ i < k + 1) from fun z => h28 z.1), if_neg h21, if_neg h22, if_neg (show ¬ (f = 28 ∧ i < k) from fun z => h28 z.1)]
    have hN0 : NS (mvt σ e (off σ k) (k + 1)) = NS σ := mvt_0 (by omega)
    have hN0' : NS (mvt σ e (off σ k + HOL σ k) k) = NS σ := mvt_0 (by omega)
    have h00 : ∀ i, mvt σ e (off σ k) (k + 1) 0 i = mvt σ e (off σ k + HOL σ k) k 0 i := fun i => by rw [hf 0 (by omega) (by omega) (by omega)]
    have hH : ∀ i, HOL (mvt σ e (off σ k) (k + 1)) i = HOL σ i := fun i => by unfold HOL; rw [mvt_f (by omega) (by omega) (by omega) (by omega) (by omega)]
    have hH' : ∀ i, HOL (mvt σ e (off σ k + HOL σ k) k) i = HOL σ i := fun i => by unfold HOL; rw [mvt_f (by omega) (by omega) (by omega) (by omega) (by omega)]
    have hL0 : ∀ i, LA (mvt σ e (off σ k) (k + 1)) i = if i < k + 1 then (if LA σ i + 1 < HOL σ i then LA σ i + 1 else 0) else LA σ i := fun i => mvt_28
    have hL0' : ∀ i, LA (mvt σ e (off σ k + HOL σ k) k) i = if i < k then (if LA σ i + 1 < HOL σ i then LA σ i + 1 else 0) else LA σ i := fun i => mvt_28
    have hof : ∀ i, off (mvt σ e (off σ k) (k + 1)) i = off σ i := off_c (mvt_0 (by omega)) (mvt_f (by omega) (by omega) (by omega) (by omega) (by omega))
    have hof' : ∀ i, off (mvt σ e (off σ k + HOL σ k) k) i = off σ i := off_c (mvt_0 (by omega)) (mvt_f (by omega) (by omega) (by omega) (by omega) (by omega))
    refine ⟨EP_c (r1 0 (by omega)) (by rw [r2]) (fun i _ => h00 i) c1, ET_c (fun t ht => r1 _ (by omega)) (fun i _ _ _ _ _ _ _ => h00 i) c2, ?_, ?_, ?_, EG_c (fun i hi => r1 _ (by omega)) (hf 5 (by omega) (by omega) (by omega)) (hf 6 (by omega) (by omega) (by omega)) (hf 7 (by omega) (by omega) (by omega)) (hf 8 (by omega) (by omega) (by omega)) c6, EB1_c (fun i hi => r1 _ (by omega)) (hf 12 (by omega) (by omega) (by omega)) (hf 13 (by omega) (by omega) (by omega)) (hf 14 (by omega) (by omega) (by omega)) (hf 15 (by omega) (by omega) (by omega)) (hf 19 (by omega) (by omega) (by omega)) c7, EB2_c (fun i hi => ⟨r1 _ (by omega), by rw [r2]⟩) (h00 4) (hf 10 (by omega) (by omega) (by omega)) (hf 16 (by omega) (by omega) (by omega)) (hf 17 (by omega) (by omega) (by omega)) (hf 18 (by omega) (by omega) (by omega)) (hf 19 (by omega) (by omega) (by omega)) (hf 20 (by omega) (by omega) (by omega)) c8, EB3_c (fun i hi => ⟨r1 _ (by omega), by rw [r2]⟩) (show mvt σ e (off σ k + HOL σ k) k 0 1 ≤ 40 by rw [mvt_0 (by omega)]; exact n40) (h00 1) (hf 9 (by omega) (by omega) (by omega)) (hf 10 (by omega) (by omega) (by omega)) (hf 11 (by omega) (by omega) (by omega)) c9, EK_c (fun t ht => r1 _ (by omega)) (hf 23 (by omega) (by omega) (by omega)) (hf 24 (by omega) (by omega) (by omega)) (hf 25 (by omega) (by omega) (by omega)) (hf 26 (by omega) (by omega) (by omega)) c10, EL_c (r1 5 (by omega)) (hf 27 (by omega) (by omega) (by omega)) c11⟩
    · intro i hi
      obtain ⟨b1, b2, b3⟩ := c3 i hi
      rw [hN0'] at b1
      rw [hN0]
      have q : ∀ j, j ≠ 2 → gi M' (9 + 3 * i) j = gi M (9 + 3 * i) j := by
        intro j hj
        rw [← hMM, gi_ne (by omega), gi_ne (by omega), gi_ne (by omega), gi_ne (by omega)]
      refine ⟨fun h => ?_, ?_, ?_⟩
      · obtain ⟨x1, x2, x3⟩ := b1 h
        rw [q 3 (by omega), q 4 (by omega), q 5 (by omega), x1, x2, x3]
        unfold HOL HEI LIM
        rw [hf 1 (by omega) (by omega) (by omega), hf 2 (by omega) (by omega) (by omega), hf 3 (by omega) (by omega) (by omega)]
        exact ⟨rfl, rfl, rfl⟩
      · rw [q 6 (by omega), b2]
        unfold DIR
        rw [hf 4 (by omega) (by omega) (by omega)]
      · rw [hL0]
        rw [hL0'] at b3
        by_cases z : i = k
        · subst z
          rw [← hMM, gi_eq rfl rfl, if_pos (show i < i + 1 by omega)]
        · have : M'.1 (9 + 3 * i) = M.1 (9 + 3 * i) := r1' _ (by omega) (by omega) (by omega)
          rw [gi_1 this, b3]
          by_cases y : i < k
          · rw [if_pos y, if_pos (show i < k + 1 by omega)]
          · rw [if_neg y, if_neg (show ¬ i < k + 1 by omega)]
    · intro _ i hi j hj
      rw [hN0] at hi
      rw [hH] at hj
      by_cases z : i = k
      · subst z
        rw [hof]
        have hrow : ∀ j', gi M' (10 + 3 * i) j' = if j' = LA σ i then nI (cod b p) else gi M (10 + 3 * i) j' := by
          intro j'
          rw [← hMM, gi_ne (by omega), gi_if]
          by_cases y : j' = LA σ i
          · rw [if_pos ⟨rfl, y⟩, if_pos y]
          · rw [if_neg (fun x => y x.2), if_neg y, gi_ne (by omega), gi_ne (by omega)]
        have hold : ∀ j', j' < HOL σ i → gi M (10 + 3 * i) (if LA σ i + j' < HOL σ i then LA σ i + j' else LA σ i + j' - HOL σ i) = nI (cod (UB σ (off σ i + j')) (UP σ (off σ i + j'))) := by
          intro j' hj'
          have h := c4 (show mvt σ e (off σ i + HOL σ i) i 0 2 = 1 by rw [mvt_0 (by omega)]; exact nO1) i (by rw [hN0']; exact hi) j' (by rw [hH']; exact hj')
          rw [hof'] at h
          unfold rix at h
          rw [hL0', hH', if_neg (show ¬ i < i by omega)] at h
          unfold UB UP at h ⊢
          rw [mvt_21l (by omega), mvt_22l (by omega)] at h
          exact h
        have hx : rix (mvt σ e (off σ i) (i + 1)) i j = if j + 1 = HOL σ i then LA σ i else (if LA σ i + (j + 1) < HOL σ i then LA σ i + (j + 1) else LA σ i + (j + 1) - HOL σ i) := by
          unfold rix
          rw [hL0, hH, if_pos (show i < i + 1 by omega)]
          (repeat' split) <;> omega
        rw [hx, hrow]
        unfold UB UP
        rw [mvt_21g (by omega) (by omega), mvt_22g (by omega) (by omega)]
        by_cases y : j + 1 = HOL σ i
        · rw [if_pos y, if_pos rfl, hb, hp, Nat.add_assoc, y]
        · have hne : (if LA σ i + (j + 1) < HOL σ i then LA σ i + (j + 1) else LA σ i + (j + 1) - HOL σ i) ≠ LA σ i := by split <;> omega
          rw [if_neg y, if_neg hne, hold (j + 1) (by omega), if_neg (show ¬ off σ i + j + 1 = LEN σ by omega), if_neg (show ¬ off σ i + j + 1 = LEN σ by omega)]
          rfl
      · have : M'.1 (10 + 3 * i) = M.1 (10 + 3 * i) := r1' _ (by omega) (by omega) (by omega)
        have h := c4 (show mvt σ e (off σ k + HOL σ k) k 0 2 = 1 by rw [mvt_0 (by omega)]; exact nO1) i (by rw [hN0']; exact hi) j (by rw [hH']; exact hj)
        have hx : rix (mvt σ e (off σ k) (k + 1)) i j = rix (mvt σ e (off σ k + HOL σ k) k) i j := by
          unfold rix
          rw [hL0, hL0', hH, hH']
          by_cases y : i < k
          · rw [if_pos y, if_pos (show i < k + 1 by omega)]
          · rw [if_neg y, if_neg (show ¬ i < k + 1 by omega)]
        rw [gi_1 this, hx, h, hof, hof']
        unfold UB UP
        rw [mvt_21, mvt_21, mvt_22, mvt_22]
        unfold UB UP
        rw [sh_ne hk hi z hj, sh_ne hk hi z hj]
    · intro i hi q hq
      have hO : OPN (mvt σ e (off σ k) (k + 1)) = 1 := (mvt_0 (by omega)).trans nO1
      have hO' : OPN (mvt σ e (off σ k + HOL σ k) k) = 1 := (mvt_0 (by omega)).trans nO1
      have h := c5 i hi q hq
      rw [hO', hN0'] at h
      rw [hO, hN0]
      by_cases z : i = k
      · subst z
        rw [if_pos ⟨rfl, hk⟩]
        rw [← hMM, gi_ne (by omega), gi_ne (by omega), gi_if]
        have hq1 := heq q
        by_cases y : q = po
        · subst y
          rw [if_pos ⟨rfl, rfl⟩]
          congr 1
          rw [if_pos rfl] at hq1
          by_cases x : q = pi
          · subst x
            rw [if_pos rfl] at hq1 ⊢
            omega
          · rw [if_neg x] at hpos ⊢
            rw [if_neg (fun w => x w.symm)] at hq1
            omega
        · rw [if_neg (fun w => y w.2), gi_if]
          rw [if_neg (fun w => y w.symm)] at hq1
          by_cases x : q = pi
          · subst x
            rw [if_pos ⟨rfl, rfl⟩]
            rw [if_pos rfl] at hq1
            congr 1
            omega
          · rw [if_neg (fun w => x w.2), hcnt q hq]
            rw [if_neg (fun w => x w.symm)] at hq1
            congr 1
            omega
      · have : M'.1 (11 + 3 * i) = M.1 (11 + 3 * i) := r1' _ (by omega) (by omega) (by omega)
        rw [gi_1 this, h]
        by_cases y : i < NS σ
        · rw [if_pos ⟨rfl, y⟩, if_pos ⟨rfl, y⟩, cnt_ne hk y z]
        · rw [if_neg (fun w => y w.2), if_neg (fun w => y w.2)]
theorem C_bring_L (hN : WN σ) (he : e < NB σ) (hE : ENT σ e < 512) {s : Nat} (hs : s < NS σ) : ∀ (m k n t b p : Nat) (M : Mm), k + m = s + 1 → m < n → EC (mvt σ e t k) l d o M → (k ≤ s → t = off σ k + HOL σ k ∧ b = (if off σ k + HOL σ k = LEN σ then e else UB σ (off σ k + HOL σ k)) ∧ p = if off σ k + HOL σ k = LEN σ then ENT σ e else UP σ (off σ k + HOL σ k)) → (k = s + 1 → t = off σ s) →
    ∃ M', fX5_bringIn_L70 n (nI s) (nI (cod b p)) (nI k) M = some M' ∧ EC (mvt σ e (off σ s) (s + 1)) l d o M' ∧ Fr (fun k => k < 77) M M'
  | _, k, 0, t, b, p, M, h1, h2, hC, h3, h4 => by omega
  | 0, k, n + 1, t, b, p, M, h1, h2, hC, h3, h4 => by
    have n6 := hN.1
    have hk : k = s + 1 := by omega
    rw [h4 hk, hk] at hC
    refine ⟨M, ?_, hC, Fr.rf⟩
    rw [fX5_bringIn_L70]
    dsimp only
    rw [if_pos (show nI s < nI k by rw [cLt (by omega) (by omega)]; omega)]
  | m + 1, k, n + 1, t, b, p, M, h1, h2, hC, h3, h4 => by
    have n6 := hN.1
    obtain ⟨a1, a2, a3⟩ := h3 (by omega)
    rw [a1] at hC
    obtain ⟨M1, q1, q2, q3⟩ := C_bring_step (n := n) hN hC (show k < NS σ by omega) (show k ≤ s by omega) (by omega) he hE a2 a3
    obtain ⟨w1, -⟩ := hN.2.2.2.1.1 k (by omega)
    obtain ⟨M2, r1, r2, r3⟩ := C_bring_L hN he hE hs m (k + 1) n (off σ k) (UB σ (off σ k)) (UP σ (off σ k)) M1 (by omega) (by omega) q2 (fun h => by
        have e1 := off_p (σ := σ) (s := k) (by omega)
        have := off_in hN.2.2.2.2.1 (show k < NS σ by omega)
        rw [← e1, if_neg (by omega), if_neg (by omega)]
        exact ⟨rfl, rfl, rfl⟩) (fun h => by rw [show k = s by omega])
    exact ⟨M2, by rw [q1, r1], r2, q3.tr r3⟩
end Br
