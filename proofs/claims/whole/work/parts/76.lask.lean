/-! ASKING: BOTH SIDES -/
section L76
variable {σ σ' : Sp} {M M' : Mm} {l d o l' d' o' : Nat}
theorem W_batch (h : IV σ l d o M) (x y : Int32) : OK1 (fL_batch x y) (fX6_batch x y) M := by
  obtain ⟨hW, hC, hE⟩ := id h
  obtain ⟨hA, hWS, hWG, hWT, hWB, hWK, hWC, -⟩ := id hW
  have h40 := hA.2.2.1
  have hb1 := hA.2.1
  have cOPN := hC.1.2.2.1
  have badI : fX5_batch x y M = some (3, 0) → fX6_isBatch x M = some 0 → OK1 (fL_batch x y) (fX6_batch x y) M := fun q1 q2 => by
    refine E1 h (c := 1) (v := 0) (by omega) (by omega) ?_ ?_
    · unfold fL_batch
      rw [q1, Option.bind_some]
      rfl
    · unfold fX6_batch
      rw [q2, Option.bind_some]
      rcases isB y 0 7 M with q | q
      · rw [q, Option.bind_some, G_1, Option.bind_some]; rfl
      · rw [q, Option.bind_some, G_1, Option.bind_some]; rfl
  rcases idx x (n := NB σ) (by omega) with z | ⟨b, hb, rfl⟩
  · refine badI ?_ ?_
    · unfold fX5_batch
      rw [hC.1.2.1, C_idx3 z, Option.bind_some]
      rfl
    · unfold fX6_isBatch
      rw [hE.1.1.2.1, hE.1.1.2.2.2.1, Lt1]
      have q := idx_no (n := NB σ) (by omega) z
      have e1 : fX6_isBetween x 0 (nI (NB σ) - nI 1) M = some 0 := B_no q
      have e2 : fX6_isBetween x (nI 1) (nI (NB σ) - nI 1) M = some 0 := B_no (by
        rcases q with w | w
        · left
          rw [Int32.lt_iff_toInt_lt, nI_toInt (by omega)] at w ⊢
          omega
        · exact Or.inr w)
      rw [e1, e2]
      split
      · rfl
      · rfl
  · have cidx : fX5_checkIndex (nI b) (gi M 0 9) M = some 0 := by rw [hC.1.2.1]; exact C_idx0 (by omega) hb
    by_cases hbz : b = 0 ∧ OPN σ = 0
    · refine badI ?_ ?_
      · unfold fX5_batch
        rw [cidx, Option.bind_some, if_pos rfl, hbz.1, if_pos (show nI 0 = 0 from rfl), cOPN, hbz.2, if_pos (show nI 0 = 0 from rfl)]
      · unfold fX6_isBatch
        rw [hE.1.1.2.1, hbz.2, if_pos (show nI 0 = 0 from rfl), hbz.1, B_no (Or.inl (show nI 0 < 1 by decide))]
        rfl
    · have mB : ∀ N, gi N 77 6 = nI (OPN σ) → gi N 77 12 = nI (NB σ) → fX6_isBatch (nI b) N = some 1 := fun N e1 e2 => by
        unfold fX6_isBatch
        rw [e1, e2, Lt1, cSub hb1]
        rcases (show OPN σ = 0 ∨ OPN σ = 1 by have := hA.2.2.2.1; omega) with z | z
        · rw [z, if_pos (show nI 0 = 0 from rfl), B_ok (by omega) (by omega) (by omega), Option.bind_some]
          rfl
        · rw [z, if_neg (show ¬ nI 1 = 0 by decide), show fX6_isBetween (nI b) 0 (nI (NB σ - 1)) N = some 1 from B_ok (a := 0) (by omega) (by omega) (by omega), Option.bind_some]
          rfl
      have cpre : fX5_batch (nI b) y M = fX5_batch_b30 (nI b) y M := by
        unfold fX5_batch
        rw [cidx, Option.bind_some, if_pos rfl]
        by_cases z : b = 0
        · rw [z, if_pos (show nI 0 = 0 from rfl), cOPN, if_neg (show ¬ nI (OPN σ) = 0 by
            have := hA.2.2.2.1
            rw [Lt0, cEq (by omega) (by omega)]
            exact fun w => hbz ⟨z, w⟩)]
        · rw [if_neg (show ¬ nI b = 0 by rw [Lt0, cEq (by omega) (by omega)]; exact z)]
      have g := g6 (show b < 40 by omega) (by omega)
      have hcb : (nI b).toNatClampNeg = b := cCl (by omega)
      have bad : (y < nI 0 ∨ nI 7 < y) → OK1 (fL_batch (nI b) y) (fX6_batch (nI b) y) M := fun z => by
        refine E1 h (c := 2) (v := 0) (by omega) (by omega) ?_ ?_
        · unfold fL_batch
          rw [cpre]
          unfold fX5_batch_b30
          rw [show fX5_checkRange y 0 7 M = some 1 from C_rng1 (a := 0) (b := 7) (by omega) (by omega) (by omega) z, Option.bind_some]
          rfl
        · unfold fX6_batch
          rw [mB M hE.1.1.2.1 hE.1.1.2.2.2.1, Option.bind_some, B_no (show y < 0 ∨ 7 < y from z), Option.bind_some, G_2, Option.bind_some]
          rfl
      rcases rng y (a := 0) (b := 7) (by omega) (by omega) with z | z | ⟨j, h1, h2, rfl⟩
      · exact bad (Or.inl z)
      · exact bad (Or.inr z)
      · obtain ⟨e0, e4, e5, e6, e7, -⟩ := hC.2.2.2.2.2.2.1 b (by omega)
        obtain ⟨f3, f1, f2⟩ := hC.2.2.2.2.2.2.2.2.1 b hb
        obtain ⟨w1, w2, -⟩ := hWB.2 b (by omega)
        obtain ⟨v1, v2, v3, -⟩ := hWB.1 b hb
        have cp := (hC.2.2.2.2.2.1 _ v1).1
        have cin := C_inPipe hC.2.2.2.2.2.2.1 hWB (show b < 40 by omega)
        have cwa := C_waiting hC.2.2.2.2.2.2.1 hC.2.2.2.2.2.2.2.2.1 hWB hb h40
        have cmi := C_mixOf hC.1 hC.2.2.2.2.2.2.1 hC.2.2.2.2.2.2.2.1 hC.2.2.2.2.2.2.2.2.1 (WF_WM hW) hb
        have mpre : ∀ v N, EM σ N → (fX6_batch (nI b) (nI j) N = some (v, si N 77 43 (nI 0)) ↔ (if nI j = 0 then some (nI (ENT σ b - LEF σ b - DRO σ b - LEA σ b), si N 77 43 0) else if nI j = 1 then some (nI (ENT σ b), si N 77 43 0) else if nI j = 2 then some (nI (LEF σ b), si N 77 43 0) else if nI j = 3 then some (nI (DRO σ b), si N 77 43 0) else if nI j = 4 then some (nI (LEA σ b), si N 77 43 0) else if nI j = 5 then some (nI (ORD σ b - ENT σ b), si N 77 43 0) else if nI j = 6 then some (nI (mix σ b), si N 77 43 0) else some (nI (PRD σ b), si N 77 43 0)) = some (v, si N 77 43 (nI 0))) := fun v N hN => by
          have hN2 := EM_43 hN (x := 0) (j := 43) (by omega)
          obtain ⟨m1', m2', m3', m4'⟩ := hN2.1.2.2.2.2.2.1 b (by omega)
          obtain ⟨n1, n2, n3⟩ := hN2.1.2.2.2.2.2.2.2.1 b hb
          have hmx := M_mixOf (EM_MX hN2.1) hW (show b < 40 by omega)
          unfold fX6_batch
          rw [mB N hN.1.1.2.1 hN.1.1.2.2.2.1, Option.bind_some, show fX6_isBetween (nI j) 0 7 N = some 1 from B_ok (a := 0) (b := 7) (by omega) (by omega) (by omega), Option.bind_some, G_ok, Option.bind_some]
          dsimp only
          simp only [hcb, if_pos g]
          rw [if_neg (by decide), m1', m2', m3', m4', n1, n2, hmx, Option.bind_some, cSub (show LEF σ b ≤ ENT σ b by omega), cSub (show DRO σ b ≤ ENT σ b - LEF σ b by omega), cSub (show LEA σ b ≤ ENT σ b - LEF σ b - DRO σ b by omega), cSub v2]
        have cpre2 : fX5_batch (nI b) (nI j) M = (if nI j = 0 then some (0, nI (ENT σ b - LEF σ b - DRO σ b - LEA σ b)) else if nI j = 1 then some (0, nI (ENT σ b)) else if nI j = 2 then some (0, nI (LEF σ b)) else if nI j = 3 then some (0, nI (DRO σ b)) else if nI j = 4 then some (0, nI (LEA σ b)) else if nI j = 5 then some (0, nI (ORD σ b - ENT σ b)) else if nI j = 6 then some (0, nI (mix σ b)) else some (0, nI (PRD σ b))) := by
          rw [cpre]
          unfold fX5_batch_b30
          rw [show fX5_checkRange (nI j) 0 7 M = some 0 from C_rng0 (a := 0) (b := 7) (by omega) (by omega) (by omega), Option.bind_some, if_pos rfl, hcb, if_pos g, cin, cwa, cmi, Option.bind_some, Option.bind_some, Option.bind_some, e4, e5, e6, e7, f1, Option.bind_some, if_pos v1, cp]
        have fin : ∀ v, fX5_batch (nI b) (nI j) M = some (0, v) → (∀ N, EM σ N → fX6_batch (nI b) (nI j) N = some (v, si N 77 43 (nI 0))) → OK1 (fL_batch (nI b) (nI j)) (fX6_batch (nI b) (nI j)) M := fun v q1 q2 => by
          refine R1 (v := v) h ?_ (q2 _ (EM_103 hE))
          unfold fL_batch
          rw [q1, Option.bind_some]
          rfl
        rcases (show j = 0 ∨ j = 1 ∨ j = 2 ∨ j = 3 ∨ j = 4 ∨ j = 5 ∨ j = 6 ∨ j = 7 by omega) with rfl | rfl | rfl | rfl | rfl | rfl | rfl | rfl
        · exact fin _ cpre2 (fun N hN => (mpre _ N hN).mpr rfl)
        · exact fin _ cpre2 (fun N hN => (mpre _ N hN).mpr rfl)
        · exact fin _ cpre2 (fun N hN => (mpre _ N hN).mpr rfl)
        · exact fin _ cpre2 (fun N hN => (mpre _ N hN).mpr rfl)
        · exact fin _ cpre2 (fun N hN => (mpre _ N hN).mpr rfl)
        · exact fin _ cpre2 (fun N hN => (mpre _ N hN).mpr rfl)
        · exact fin _ cpre2 (fun N hN => (mpre _ N hN).mpr rfl)
        · exact fin _ cpre2 (fun N hN => (mpre _ N hN).mpr rfl)
theorem C_press_L (hC : EC σ l d o M) (hW : WF σ) (ho : OPN σ = 1) {s u : Nat} (hs : s < NS σ) (hu : u ≤ 10) : ∀ (m k n y : Nat), k + m = NS σ → m < n → y = hed σ (NS σ - 1) + sm (fun i => frc σ i u) s (k - s) → s ≤ k → fX5_pressure_L48 n (nI s) (nI u) (nI y) (nI k) M = some (0, nI (prs σ s u))
  | m, k, 0, y, h1, h2, h3, h4 => by omega
  | 0, k, n + 1, y, h1, h2, h3, h4 => by
    have h6 := hW.1.1
    have hk : k = NS σ := by omega
    have hn := ned_le hW ho (s := s) hu
    have hy : y = ned σ s u := by unfold ned; rw [h3, hk]
    rw [fX5_pressure_L48]
    dsimp only
    rw [hC.1.1, if_pos (show nI (NS σ) ≤ nI k by rw [cLe (by omega) (by omega)]; omega), hy, C_atBeg hC hW ho hs hn, Option.bind_some]
    rfl
  | m + 1, k, n + 1, y, h1, h2, h3, h4 => by
    have h6 := hW.1.1
    rw [fX5_pressure_L48]
    dsimp only
    rw [hC.1.1, if_neg (show ¬ nI (NS σ) ≤ nI k by rw [cLe (by omega) (by omega)]; omega), cCl (show k < 2147483648 by omega), if_pos (g6 (show k < 6 by omega) (by omega)), C_friction hC hW ho (show k < NS σ by omega) hu, Option.bind_some, cAdd, Lt1, cAdd]
    exact C_press_L hC hW ho hs hu m (k + 1) n _ (by omega) (by omega) (by
      rw [show k + 1 - s = (k - s) + 1 by omega, sm_last, h3, show s + (k - s) = k by omega, Nat.add_assoc]) (by omega)
theorem W_pressure (h : IV σ l d o M) (x y : Int32) : OK1 (fL_pressure x y) (fX6_pressure x y) M := by
  obtain ⟨hW, hC, hE⟩ := id h
  have h6 := hW.1.1
  rcases idx x (n := NS σ) (by omega) with z | ⟨s, hs, rfl⟩
  · refine E1 h (c := 1) (v := 0) (by omega) (by omega) ?_ ?_
    · unfold fL_pressure fX5_pressure
      rw [hC.1.1, C_idx3 z, Option.bind_some]
      rfl
    · unfold fX6_pressure
      rw [S_no hE.1.1.1 (by omega) z, Option.bind_some]
      rcases isB y 0 10 M with q | q
      · rw [q, Option.bind_some, G_1, Option.bind_some]; rfl
      · rw [q, Option.bind_some, G_1, Option.bind_some]; rfl
  · have ci : fX5_checkIndex (nI s) (nI (NS σ)) M = some 0 := C_idx0 (by omega) hs
    have bad : (y < nI 0 ∨ nI 10 < y) → OK1 (fL_pressure (nI s) y) (fX6_pressure (nI s) y) M := fun z => by
      refine E1 h (c := 2) (v := 0) (by omega) (by omega) ?_ ?_
      · unfold fL_pressure fX5_pressure
        rw [hC.1.1, ci, Option.bind_some, if_pos rfl, show fX5_checkRange y 0 10 M = some 1 from C_rng1 (a := 0) (b := 10) (by omega) (by omega) (by omega) z, Option.bind_some]
        rfl
      · unfold fX6_pressure
        rw [S_ok hE.1.1.1 (by omega) hs, Option.bind_some, B_no (show y < 0 ∨ 10 < y from z), Option.bind_some, G_2, Option.bind_some]
        rfl
    rcases rng y (a := 0) (b := 10) (by omega) (by omega) with z | z | ⟨u, h1, h2, rfl⟩
    · exact bad (Or.inl z)
    · exact bad (Or.inr z)
    · have cr : fX5_checkRange (nI u) 0 10 M = some 0 := C_rng0 (a := 0) (b := 10) (by omega) h1 h2
      have mr : ∀ N, fX6_isBetween (nI u) 0 10 N = some 1 := fun N => B_ok (a := 0) (b := 10) (by omega) h1 h2
      rcases (show OPN σ = 0 ∨ OPN σ = 1 by have := hW.1.2.2.2.1; omega) with z | z
      · refine E1 h (c := 3) (v := 0) (by omega) (by omega) ?_ ?_
        · unfold fL_pressure fX5_pressure
          rw [hC.1.1, ci, Option.bind_some, if_pos rfl, cr, Option.bind_some, if_pos rfl, hC.1.2.2.1, z, if_pos (show nI 0 = 0 from rfl), Option.bind_some]
          rfl
        · unfold fX6_pressure
          rw [S_ok hE.1.1.1 (by omega) hs, Option.bind_some, mr, Option.bind_some, hE.1.1.2.1, z]
          show (fX6_goes 1 1 0 M).bind _ = _
          rw [G_3, Option.bind_some]
          rfl
      · refine R1 (v := nI (prs σ s u)) h ?_ ?_
        · unfold fL_pressure fX5_pressure
          rw [hC.1.1, ci, Option.bind_some, if_pos rfl, cr, Option.bind_some, if_pos rfl, hC.1.2.2.1, z, if_neg (show ¬ nI 1 = 0 by decide), Lt1, cSub (show 1 ≤ NS σ by omega), C_headAt hC hW z (show NS σ - 1 < NS σ by omega), Option.bind_some, C_press_L hC hW z hs h2 (NS σ - s) s 400 _ (by omega) (by omega) (by rw [Nat.sub_self, sm_0, Nat.add_zero]) (Nat.le_refl s), Option.bind_some]
          rfl
        · have e := EM_103 hE (x := nI (prs σ s u)) (j := 0)
          have e2 := EM_43 e (x := 0) (j := 43) (by omega)
          unfold fX6_pressure
          rw [S_ok e.1.1.1 (by omega) hs, Option.bind_some, mr, Option.bind_some, e.1.1.2.1, z]
          show (fX6_goes 1 1 1 _).bind _ = _
          rw [G_ok, Option.bind_some]
          dsimp only
          rw [if_neg (by decide), M_pressureOf (EM_MY e2.1) hW z hs h2, Option.bind_some]
          rfl
theorem C_unit_L (hC : EC σ l d o M) (hW : WF σ) (ho : OPN σ = 1) : ∀ (k n x : Nat), k ≤ NS σ → k < n → x < 2147483648 → fX5_unit_L25 n (nI x) (nO k) M = some (0, if x < sm (HOL σ) 0 k then nI (UB σ (off σ (k - 1) + x)) else nM)
  | k, 0, x, h1, h2, h3 => by omega
  | 0, n + 1, x, h1, h2, h3 => by
    rw [fX5_unit_L25]
    dsimp only
    rw [nO_0, if_pos (show nM < 0 from nM_lt (a := 0) (by omega)), sm_0, if_neg (by omega)]
    rfl
  | k + 1, n + 1, x, h1, h2, h3 => by
    have h6 := hW.1.1
    have h40 := hW.1.2.2.1
    have hk : k < NS σ := by omega
    obtain ⟨w1, w2, -⟩ := hW.2.1.1 k hk
    have e3 := ((hC.2.2.1 k (by omega)).1 hk).1
    have g := g6 (show k < 6 by omega) (by omega)
    rw [fX5_unit_L25]
    dsimp only
    rw [nO_s, if_neg (show ¬ nI k < 0 by rw [Lt0, cLt (by omega) (by omega)]; omega), cCl (show k < 2147483648 by omega), if_pos g, if_pos g, if_pos g, e3, sm_last, Nat.zero_add, show k + 1 - 1 = k by omega]
    by_cases z : HOL σ k ≤ x
    · rw [if_pos (show nI (HOL σ k) ≤ nI x by rw [cLe (by omega) (by omega)]; exact z), cSub z, show nI k + -1 = nO k from ?_, C_unit_L hC hW ho k n (x - HOL σ k) (by omega) (by omega) (by omega)]
      · by_cases y : x - HOL σ k < sm (HOL σ) 0 k
        · rw [if_pos y, if_pos (show x < sm (HOL σ) 0 k + HOL σ k by omega)]
          have hk0 : 0 < k := by
            rcases Nat.eq_zero_or_pos k with q | q
            · rw [q, sm_0] at y; omega
            · exact q
          have := off_p (σ := σ) (s := k - 1) (by omega)
          rw [show k - 1 + 1 = k by omega] at this
          rw [show off σ (k - 1) + (x - HOL σ k) = off σ k + x by omega]
        · rw [if_neg y, if_neg (show ¬ x < sm (HOL σ) 0 k + HOL σ k by omega)]
      · show nI k + nM = nO k
        cases k with
        | zero => rfl
        | succ k => rw [cPr, nO_s]
    · have hx : x < HOL σ k := by omega
      have hL := WF_off hW ho hk hx
      obtain ⟨u1, u2, u3, u4, u5⟩ := WF_unit hW ho hL
      rw [if_neg (show ¬ nI (HOL σ k) ≤ nI x by rw [cLe (by omega) (by omega)]; exact z), C_fromEnd hC.2.2.1 hC.2.2.2.1 hW.2.1 ho h6 hk hx, Option.bind_some, C_batchOf hC.1 u1 h40 u2, Option.bind_some, Option.bind_some, if_pos u4, (hC.2.2.2.2.2.2.1 _ u4).1, if_pos (show x < sm (HOL σ) 0 k + HOL σ k by omega)]
theorem M_unit_ok (hE : EM σ M) (hW : WF σ) {x : Nat} (hx : x < 2147483648) : fX6_unit (nI x) M = some (if OPN σ = 1 ∧ x < LEN σ then nI (UB σ x) else nM, si M 77 43 (nI 0)) := by
  have h360 := hW.1.2.2.2.2.2.2.2.2.2.2.1
  have e := EM_43 hE (x := 0) (j := 43) (by omega)
  unfold fX6_unit fX6_unit_b10
  rw [if_neg (show ¬ nI x < 0 by rw [Lt0, cLt (by omega) (by omega)]; omega)]
  show (fX6_goes 1 1 1 M).bind _ = _
  rw [G_ok, Option.bind_some]
  dsimp only
  rw [if_neg (by decide), e.1.1.2.1, e.1.1.2.2.1]
  rcases (show OPN σ = 0 ∨ OPN σ = 1 by have := hW.1.2.2.2.1; omega) with z | z
  · rw [z, if_pos (show nI 0 = 0 from rfl), if_neg (by omega)]
    rfl
  · rw [if_neg (show ¬ nI (OPN σ) = 0 by rw [z]; decide)]
    by_cases y : x < LEN σ
    · rw [if_neg (show ¬ nI (LEN σ) ≤ nI x by rw [cLe (by omega) (by omega)]; omega), cCl hx, if_pos (g6 (show x < 360 by omega) (by omega)), (e.1.2.2.2.2.2.2.2.2.1 z x y).1, if_pos ⟨z, y⟩]
      rfl
    · rw [if_pos (show nI (LEN σ) ≤ nI x by rw [cLe (by omega) (by omega)]; omega), if_neg (fun w => y w.2)]
      rfl
theorem M_unit_no {x : Int32} (hx : x < 0) : fX6_unit x M = some (0, si M 77 43 (nI 1)) := by
  unfold fX6_unit fX6_unit_b10
  rw [if_pos hx, G_1, Option.bind_some]
  rfl
theorem W_unit (h : IV σ l d o M) (x : Int32) : OK1 (fL_unit x) (fX6_unit x) M := by
  obtain ⟨hW, hC, hE⟩ := id h
  have h6 := hW.1.1
  by_cases hx : x < 0
  · refine E1 h (c := 1) (v := 0) (by omega) (by omega) ?_ (M_unit_no hx)
    unfold fL_unit fX5_unit fX5_checkUnit
    obtain q : ¬ (0 : Int32) ≤ x := not_lt_le hx
    rw [if_neg q, Option.bind_some]
    rfl
  · obtain ⟨j, hj, rfl⟩ := ge0 hx
    refine R1 (v := if OPN σ = 1 ∧ j < LEN σ then nI (UB σ j) else nM) h ?_ (M_unit_ok (EM_103 hE) hW hj)
    unfold fL_unit fX5_unit fX5_checkUnit
    rw [if_pos (show (0 : Int32) ≤ nI j from nI_ge0 hj), Option.bind_some, if_pos rfl, hC.1.2.2.1]
    rcases (show OPN σ = 0 ∨ OPN σ = 1 by have := hW.1.2.2.2.1; omega) with z | z
    · rw [if_pos (show nI (OPN σ) = 0 by rw [z]; rfl), if_neg (show ¬ (OPN σ = 1 ∧ j < LEN σ) by omega), fX5_unit_L25]
      rfl
    · have hn := hW.1.2.2.2.2.2.2.2.1 z
      have hs1 : gi M 0 8 - 1 = nO (NS σ) := by rw [hC.1.1, Lt1, cSub hn, nO_p (by omega)]
      rw [if_neg (show ¬ nI (OPN σ) = 0 by rw [z]; decide), hs1, C_unit_L hC hW z (NS σ) 400 j (Nat.le_refl _) (by omega) hj, off_last, Nat.zero_add, Option.bind_some, ← (hW.2.2.2.2.2.2.2.1 z).1]
      by_cases y : j < LEN σ
      · rw [if_pos y, if_pos (show OPN σ = 1 ∧ j < LEN σ from ⟨z, y⟩)]
        rfl
      · rw [if_neg y, if_neg (show ¬ (OPN σ = 1 ∧ j < LEN σ) from fun w => y w.2)]
        rfl
/-! balances and spills -/
theorem sm5 (f : Nat → Nat) : sm f 0 5 = f 0 + f 1 + f 2 + f 3 + f 4 := by
  show f 0 + (f 1 + (f 2 + (f 3 + (f 4 + 0)))) = _
  omega
theorem C_bal (hE : EL σ M) : fX5_latestBalance M = some (nI (sm (BAL σ) 0 5)) := by
  have h0 := hE 0 (by omega)
  have h1 := hE 1 (by omega)
  have h2 := hE 2 (by omega)
  have h3 := hE 3 (by omega)
  have h4 := hE 4 (by omega)
  have key : ∀ (m k n x : Nat), k + m = 5 → m < n → fX5_latestBalance_L4 n (nI x) (nI k) M = some (nI (x + sm (BAL σ) k m)) := by
    intro m
    induction m with
    | zero =>
      intro k n x q1 q2
      obtain ⟨n', rfl⟩ : ∃ n', n = n' + 1 := ⟨n - 1, by omega⟩
      rw [fX5_latestBalance_L4]
      dsimp only
      rw [if_pos (show (5 : Int32) ≤ nI k by rw [show (5 : Int32) = nI 5 from rfl, cLe (by omega) (by omega)]; omega), sm_0, Nat.add_zero]
    | succ m ih =>
      intro k n x q1 q2
      obtain ⟨n', rfl⟩ : ∃ n', n = n' + 1 := ⟨n - 1, by omega⟩
      rw [fX5_latestBalance_L4]
      dsimp only
      rw [if_neg (show ¬ (5 : Int32) ≤ nI k by rw [show (5 : Int32) = nI 5 from rfl, cLe (by omega) (by omega)]; omega), cCl (show k < 2147483648 by omega), if_pos (g6 (show k < 5 by omega) (by omega)), hE k (by omega), cAdd, Lt1, cAdd, ih (k + 1) n' _ (by omega) (by omega), sm_s, Nat.add_assoc]
  unfold fX5_latestBalance
  rw [Lt0, key 5 0 400 0 (by omega) (by omega), Nat.zero_add]
theorem M_bal (hE : ML σ M) : fX6_balance M = some (nI (sm (BAL σ) 0 5)) := by
  have key : ∀ (m k n x : Nat), k + m = 5 → m < n → fX6_balance_L4 n (nI x) (nI k) M = some (nI (x + sm (fun j => BAL σ ((j + 4) % 5)) k m)) := by
    intro m
    induction m with
    | zero =>
      intro k n x q1 q2
      obtain ⟨n', rfl⟩ : ∃ n', n = n' + 1 := ⟨n - 1, by omega⟩
      rw [fX6_balance_L4]
      dsimp only
      rw [if_pos (show (5 : Int32) ≤ nI k by rw [show (5 : Int32) = nI 5 from rfl, cLe (by omega) (by omega)]; omega), sm_0, Nat.add_zero]
    | succ m ih =>
      intro k n x q1 q2
      obtain ⟨n', rfl⟩ : ∃ n', n = n' + 1 := ⟨n - 1, by omega⟩
      have hk := hE ((k + 4) % 5) (by omega)
      rw [show ((k + 4) % 5 + 1) % 5 = k by omega] at hk
      rw [fX6_balance_L4]
      dsimp only
      rw [if_neg (show ¬ (5 : Int32) ≤ nI k by rw [show (5 : Int32) = nI 5 from rfl, cLe (by omega) (by omega)]; omega), cCl (show k < 2147483648 by omega), if_pos (g6 (show k < 5 by omega) (by omega)), hk, cAdd, Lt1, cAdd, ih (k + 1) n' _ (by omega) (by omega), sm_s, Nat.add_assoc]
  unfold fX6_balance
  rw [Lt0, key 5 0 400 0 (by omega) (by omega), Nat.zero_add, sm5, sm5]
  congr 2
  show BAL σ 4 + BAL σ 0 + BAL σ 1 + BAL σ 2 + BAL σ 3 = _
  omega
theorem C_spl (hE : EK σ M) : fX5_spilledInAll M = some (nI (sm (SPL σ) 0 4)) := by
  have key : ∀ (m k n x : Nat), k + m = 4 → m < n → fX5_spilledInAll_L4 n (nI x) (nI k) M = some (nI (x + sm (SPL σ) k m)) := by
    intro m
    induction m with
    | zero =>
      intro k n x q1 q2
      obtain ⟨n', rfl⟩ : ∃ n', n = n' + 1 := ⟨n - 1, by omega⟩
      rw [fX5_spilledInAll_L4]
      dsimp only
      rw [if_pos (show (4 : Int32) ≤ nI k by rw [show (4 : Int32) = nI 4 from rfl, cLe (by omega) (by omega)]; omega), sm_0, Nat.add_zero]
    | succ m ih =>
      intro k n x q1 q2
      obtain ⟨n', rfl⟩ : ∃ n', n = n' + 1 := ⟨n - 1, by omega⟩
      rw [fX5_spilledInAll_L4]
      dsimp only
      rw [if_neg (show ¬ (4 : Int32) ≤ nI k by rw [show (4 : Int32) = nI 4 from rfl, cLe (by omega) (by omega)]; omega), cCl (show k < 2147483648 by omega), if_pos (g6 (show k < 4 by omega) (by omega)), (hE k (by omega)).2.2.2, cAdd, Lt1, cAdd, ih (k + 1) n' _ (by omega) (by omega), sm_s, Nat.add_assoc]
  unfold fX5_spilledInAll
  rw [Lt0, key 4 0 400 0 (by omega) (by omega), Nat.zero_add]
theorem W_pipe (h : IV σ l d o M) (x : Int32) : OK1 (fL_pipe x) (fX6_pipe x) M := by
  obtain ⟨hW, hC, hE⟩ := id h
  have bad : (x < nI 0 ∨ nI 5 < x) → OK1 (fL_pipe x) (fX6_pipe x) M := fun z => by
    refine E1 h (c := 1) (v := 0) (by omega) (by omega) ?_ ?_
    · unfold fL_pipe fX5_pipe
      rw [show fX5_checkRange x 0 5 M = some 1 from C_rng1 (a := 0) (b := 5) (by omega) (by omega) (by omega) z, Option.bind_some]
      rfl
    · unfold fX6_pipe
      rw [B_no (show x < 0 ∨ 5 < x from z), Option.bind_some, G_1, Option.bind_some]
      rfl
  rcases rng x (a := 0) (b := 5) (by omega) (by omega) with z | z | ⟨j, h1, h2, rfl⟩
  · exact bad (Or.inl z)
  · exact bad (Or.inr z)
  · have hp := hW.1.2.2.2.2.2.2.2.2.2.2.2
    have cpre : fX5_pipe (nI j) M = (if nI j = 0 then some (0, nI (RF σ)) else if nI j = 1 then some (0, nI (sm (BAL σ) 0 5)) else if nI j = 2 then (if nI (sm (BAL σ) 0 5) < 3 then some (0, 0) else some (0, 1)) else if nI j = 3 then some (0, nI (sm (SPL σ) 0 4)) else if nI j = 4 then (if nO (PIG σ) = -1 then some (0, 0) else some (0, 1)) else some (0, nI (MIN σ))) := by
      unfold fX5_pipe
      rw [show fX5_checkRange (nI j) 0 5 M = some 0 from C_rng0 (a := 0) (b := 5) (by omega) (by omega) h2, Option.bind_some, if_pos rfl, C_bal hC.2.2.2.2.2.2.2.2.2.2, Option.bind_some, Option.bind_some, C_spl hC.2.2.2.2.2.2.2.2.2.1, Option.bind_some, hC.1.2.2.2.2.2.1, hC.1.2.2.2.2.2.2.1, hC.1.2.2.2.2.2.2.2.1]
    have mpre : ∀ N, EM σ N → fX6_pipe (nI j) N = (if nI j = 0 then some (nI (RF σ), si N 77 43 0) else if nI j = 1 then some (nI (sm (BAL σ) 0 5), si N 77 43 0) else if nI j = 2 then (if nI (sm (BAL σ) 0 5) < 3 then some (0, si N 77 43 0) else some (1, si N 77 43 0)) else if nI j = 3 then some (nI (sm (SPL σ) 0 4), si N 77 43 0) else if nI j = 4 then (if nI (if PIG σ = 0 then 0 else 1) = 0 then some (0, si N 77 43 0) else some (1, si N 77 43 0)) else some (nI (MIN σ), si N 77 43 0)) := fun N hN => by
      have e := EM_43 hN (x := 0) (j := 43) (by omega)
      unfold fX6_pipe
      rw [show fX6_isBetween (nI j) 0 5 N = some 1 from B_ok (a := 0) (b := 5) (by omega) (by omega) h2, Option.bind_some, G_ok, Option.bind_some]
      dsimp only
      rw [if_neg (by decide), M_bal e.1.2.2.2.2.2.2.2.2.2.2, Option.bind_some, Option.bind_some, e.1.1.2.2.2.2.2.2, e.1.2.2.2.2.2.2.2.2.2.1.2, e.1.2.2.1.1, e.2]
    have fin : ∀ v, fX5_pipe (nI j) M = some (0, v) → (∀ N, EM σ N → fX6_pipe (nI j) N = some (v, si N 77 43 (nI 0))) → OK1 (fL_pipe (nI j)) (fX6_pipe (nI j)) M := fun v q1 q2 => by
      refine R1 (v := v) h ?_ (q2 _ (EM_103 hE))
      unfold fL_pipe
      rw [q1, Option.bind_some]
      rfl
    rcases (show j = 0 ∨ j = 1 ∨ j = 2 ∨ j = 3 ∨ j = 4 ∨ j = 5 by omega) with rfl | rfl | rfl | rfl | rfl | rfl
    · exact fin _ cpre (fun N hN => mpre N hN)
    · exact fin _ cpre (fun N hN => mpre N hN)
    · by_cases z : nI (sm (BAL σ) 0 5) < 3
      · exact fin 0 (by rw [cpre, if_neg (by decide), if_neg (by decide), if_pos (show nI 2 = 2 from rfl), if_pos z]) (fun N hN => by rw [mpre N hN, if_neg (by decide), if_neg (by decide), if_pos (show nI 2 = 2 from rfl), if_pos z]; rfl)
      · exact fin 1 (by rw [cpre, if_neg (by decide), if_neg (by decide), if_pos (show nI 2 = 2 from rfl), if_neg z]) (fun N hN => by rw [mpre N hN, if_neg (by decide), if_neg (by decide), if_pos (show nI 2 = 2 from rfl), if_neg z]; rfl)
    · exact fin _ cpre (fun N hN => mpre N hN)
    · by_cases z : PIG σ = 0
      · exact fin 0 (by rw [cpre, if_neg (by decide), if_neg (by decide), if_neg (by decide), if_neg (by decide), if_pos (show nI 4 = 4 from rfl), if_pos (show nO (PIG σ) = -1 by rw [z]; rfl)]) (fun N hN => by rw [mpre N hN, if_neg (by decide), if_neg (by decide), if_neg (by decide), if_neg (by decide), if_pos (show nI 4 = 4 from rfl), if_pos (show nI (if PIG σ = 0 then 0 else 1) = 0 by rw [if_pos z]; rfl)]; rfl)
      · exact fin 1 (by rw [cpre, if_neg (by decide), if_neg (by decide), if_neg (by decide), if_neg (by decide), if_pos (show nI 4 = 4 from rfl), if_neg (show ¬ nO (PIG σ) = -1 by rw [show (-1 : Int32) = nM from rfl, cOM (by omega)]; exact z)]) (fun N hN => by rw [mpre N hN, if_neg (by decide), if_neg (by decide), if_neg (by decide), if_neg (by decide), if_pos (show nI 4 = 4 from rfl), if_neg (show ¬ nI (if PIG σ = 0 then 0 else 1) = 0 by rw [if_neg z]; decide)]; rfl)
    · exact fin _ cpre (fun N hN => mpre N hN)
end L76
