/-! ===== the reference: product and division ===== -/
theorem mV_upd {h : Nat → Nat} {p y : Nat} : ∀ {n : Nat}, p < n → mV (uN9 h p y) n + h p * 65536 ^ p = mV h n + y * 65536 ^ p
  | 0, hp => absurd hp (Nat.not_lt_zero p)
  | n + 1, hp => by
    by_cases e : p = n
    · subst e
      rw [mV_s, mV_s, mV_up, uN9_eq]
      omega
    · have ih := mV_upd (h := h) (p := p) (y := y) (n := n) (by omega)
      rw [mV_s, mV_s, uN9_ne (show n ≠ p by omega)]
      omega
theorem mV_le {g : Nat → Nat} {i : Nat} : ∀ {n : Nat}, i ≤ n → mV g i ≤ mV g n
  | 0, h => by have : i = 0 := by omega
               subst this; exact Nat.le_refl _
  | n + 1, h => by
    by_cases e : i = n + 1
    · subst e; exact Nat.le_refl _
    · have := mV_le (g := g) (i := i) (n := n) (by omega)
      rw [mV_s]; omega
theorem mV_mod {g : Nat → Nat} {n : Nat} (hg : ∀ k, k < n → g k < 65536) : ∀ {m : Nat}, n ≤ m → mV g m % 65536 ^ n = mV g n
  | 0, h => by
    have : n = 0 := by omega
    subst this; exact Nat.mod_one _
  | m + 1, h => by
    by_cases e : n = m + 1
    · subst e; exact Nat.mod_eq_of_lt (mV_lt hg)
    · have ih := mV_mod hg (m := m) (by omega)
      obtain ⟨d, hd⟩ : ∃ d, m = n + d := ⟨m - n, by omega⟩
      rw [mV_s, hd, Nat.pow_add, show g (n + d) * (65536 ^ n * 65536 ^ d) = (g (n + d) * 65536 ^ d) * 65536 ^ n by grind, Nat.add_mul_mod_self_right, ← hd]
      exact ih
section MD
variable {l : Launch} {G : aG} {base tA : Nat} {Y ρ : Nat → Nat} {τ : Nat → Int32} {ex : Bool} {N : aN} {O0 O : aO} {A0 A : aA} {x y to : Nat}
/-- one limb written -/
theorem limbS {g : Nat → Nat} {x k c v : Nat} (hg : ∀ k, k < 80 → rg g x k < 65536) (hk : k < 80) (hc : c < 65536) (hv : mV (rg g x) 80 + c * 65536 ^ k = v + rg g x k * 65536 ^ k) : rgS g (uN9 g (80 * x + k) c) x v := by
  refine ⟨fun j hj => ?_, ?_, fun j hj => uN9_ne (by omega)⟩
  · rw [rg_up]
    by_cases e : j = k
    · rw [e, uN9_eq]; exact hc
    · rw [uN9_ne e]; exact hg j hj
  · rw [rg_up]
    have := mV_upd (h := rg g x) (p := k) (y := c) (n := 80) hk
    omega
theorem mprod_in {T X M cy a b z q r P Q : Nat} (hd : 65536 * q + r = a * b + z + cy) (s3 : T + cy * (P * Q) = X + a * M * P) : T + r * (P * Q) + q * (P * Q * 65536) = X + a * (M + b * Q) * P + z * (P * Q) := by
  have e9 : (65536 * q + r) * (P * Q) = (a * b + z + cy) * (P * Q) := by rw [hd]
  grind
set_option maxHeartbeats 8000000 in
theorem m_product (h : mW Y ρ τ ex N O0 A0 O A) (hx : x < 10) (hy : y < 10) (ht : to < 10) (hmax : ρ x * ρ y < 65536 ^ 80) : aMet l G base tA yX9_product cX9_product 10 none rmM1 [.ref (Y 0), .int (nI x), .int (nI y), .int (nI to)] O A (fun r O' A' => r = none ∧ ∃ w, mW Y (rU (rU ρ 10 w) to (ρ x * ρ y)) τ ex N O0 A0 O' A') := by
  refine aMet_of (ini := false) (B := aLook bkX9_product) (by decide) (fun h => by first | rfl | cases h) (Nat.le_of_ble_eq_true rfl) boX9_product ?_
  intro E J hb
  refine hb.run (aCuts [6, 9, 40, 145] J) 60 0 _ _ _ _ _ _ (aCuts_ok _) ?_
  simp only [↓wpi_isub, ↓wpi_lsub, ↓wpi_ineg, ↓wpi_lneg, ↓wpi_irem, ↓wpi_lrem, ↓wpi_iinc, wp1, wp, wpl, wpi, lget, lput1, lput2, ltail, lkill, aV, aVl, aNth, aPut, aFz, aC0, aC2, aSw, aCat1, aCuts, aSet_eq, List.take, List.drop, List.reverse_cons, List.reverse_nil, List.nil_append, List.cons_append, List.length_cons, List.length_nil, Option.toList, true_and, and_true, Nat.reduceAdd, Nat.reduceEqDiff, Nat.reduceLT, Nat.reduceLeDiff, Nat.zero_add, Nat.add_zero, if_true, if_false, ite_true, ite_false, reduceIte, reduceCtorEq, true_or, or_true, not_true_eq_false, not_false_eq_true, false_and, and_false, true_implies, false_implies, not_false_eq_true, bqX9_product_0, blX9_product_0, bqX9_product_6, blX9_product_6, bqX9_product_9, blX9_product_9, bqX9_product_16, blX9_product_16, bqX9_product_31, blX9_product_31, bqX9_product_34, blX9_product_34, bqX9_product_40, blX9_product_40, bqX9_product_50, blX9_product_50, bqX9_product_132, blX9_product_132, bqX9_product_138, blX9_product_138, bqX9_product_145, blX9_product_145, aArgs, List.replicate]
  refine ⟨_, _, _, _, hb.callV lvX9_36 (m_clear h (x := 10) (by decide)) rfl h.obj (by decide) (by decide) (by decide), ?_, fun _ _ _ h => h.elim⟩
  rintro _ O1 A1 ⟨rfl, h1⟩
  obtain ⟨g, hg, hr⟩ := h1.row
  have gx := (hr x (by omega)).1
  have gy := (hr y (by omega)).1
  have vx : mV (rg g x) 80 = ρ x := (hr x (by omega)).2.trans (rU_ne (by omega))
  have vy : mV (rg g y) 80 = ρ y := (hr y (by omega)).2.trans (rU_ne (by omega))
  have hO1 := h1.obj
  -- what is known of a row H: all but register 10 is as in g
  have other : ∀ {H : Nat → Nat}, (∀ j, j < 800 ∨ 880 ≤ j → H j = g j) → ∀ z k, z < 10 → k < 80 → H (80 * z + k) = rg g z k := fun hH z k hz hk => hH _ (by omega)
  have inner : ∀ (n i j c T : Nat) (H : Nat → Nat) (x8 x9 : Option Value), 80 - j < n → i < 80 → i + j ≤ 80 → c < 65536 → (∀ k, k < 80 → rg H 10 k < 65536) → (∀ j, j < 800 ∨ 880 ≤ j → H j = g j) → mV (rg H 10) 80 = T →
      (∀ M, M = mV (rg g y) j → T + c * (65536 ^ i * 65536 ^ j) = mV (rg g x) i * ρ y + rg g x i * M * 65536 ^ i) →
      (∀ (c' T' j' : Nat) (H' : Nat → Nat) (x8 x9 : Option Value), i + j' = 80 → c' < 65536 → (∀ k, k < 80 → rg H' 10 k < 65536) → (∀ j, j < 800 ∨ 880 ≤ j → H' j = g j) → mV (rg H' 10) 80 = T' → T' + c' * (65536 ^ i * 65536 ^ j') = mV (rg g x) i * ρ y + rg g x i * mV (rg g y) j' * 65536 ^ i → J 132 [some (.ref (Y 0)), some (.int (nI x)), some (.int (nI y)), some (.int (nI to)), some (.int (nI i)), some (.long (lN c')), none, some (.int (nI j')), x8, x9] [] O1 (aSet A1 (Y 7) (0, 880, .inl (nF H'))) 0 0) →
      J 40 [some (.ref (Y 0)), some (.int (nI x)), some (.int (nI y)), some (.int (nI to)), some (.int (nI i)), some (.long (lN c)), none, some (.int (nI j)), x8, x9] [] O1 (aSet A1 (Y 7) (0, 880, .inl (nF H))) 0 0 := by
    intro n
    induction n with
    | zero => intro i j c T H x8 x9 hn; omega
    | succ n ih =>
      intro i j c T H x8 x9 hn hi hij hc p1 p2 p3 p4 kk
      refine hb.run (aCuts [50, 132] J) 60 40 _ _ _ _ _ _ (aCuts_ok _) ?_
      by_cases hlt : i + j < 80
      · have e1 : (nI 80 ≤ nI (i + j)) = False := by rw [nI_leP (by decide) (by omega)]; simp; omega
        simp only [↓wpi_isub, ↓wpi_lsub, ↓wpi_ineg, ↓wpi_lneg, ↓wpi_irem, ↓wpi_lrem, ↓wpi_iinc, wp1, wp, wpl, wpi, lget, lput1, lput2, ltail, lkill, aV, aVl, aNth, aPut, aFz, aC0, aC2, aSw, aCat1, aCuts, aSet_eq, List.take, List.drop, List.reverse_cons, List.reverse_nil, List.nil_append, List.cons_append, List.length_cons, List.length_nil, Option.toList, true_and, and_true, Nat.reduceAdd, Nat.reduceEqDiff, Nat.reduceLT, Nat.reduceLeDiff, Nat.zero_add, Nat.add_zero, if_true, if_false, ite_true, ite_false, reduceIte, reduceCtorEq, true_or, or_true, not_true_eq_false, not_false_eq_true, false_and, and_false, true_implies, false_implies, not_false_eq_true, bqX9_product_0, blX9_product_0, bqX9_product_6, blX9_product_6, bqX9_product_9, blX9_product_9, bqX9_product_16, blX9_product_16, bqX9_product_31, blX9_product_31, bqX9_product_34, blX9_product_34, bqX9_product_40, blX9_product_40, bqX9_product_50, blX9_product_50, bqX9_product_132, blX9_product_132, bqX9_product_138, blX9_product_138, bqX9_product_145, blX9_product_145, nI_add, e1]
        have a1 := gx i hi
        have a2 := gy j (by omega)
        have a3 := p1 (i + j) hlt
        have e2 : vp_in (nI (80 * x + i)) 880 := vp_in_nI (by omega) (by decide)
        have e3 : vp_in (nI (80 * y + j)) 880 := vp_in_nI (by omega) (by decide)
        have e4 : vp_in (nI (800 + i + j)) 880 := vp_in_nI (by omega) (by decide)
        have q1 : H (80 * x + i) = rg g x i := other p2 x i hx hi
        have q2 : H (80 * y + j) = rg g y j := other p2 y j hy (by omega)
        have q3 : H (800 + i + j) = rg H 10 (i + j) := by unfold rg; congr 1; omega
        have hp : rg g x i * rg g y j ≤ 65535 * 65535 := Nat.mul_le_mul (by omega) (by omega)
        obtain ⟨w, hw⟩ : ∃ w, w = rg g x i * rg g y j + rg H 10 (i + j) + c := ⟨_, rfl⟩
        have hw3 : w < 2 ^ 63 := by omega
        have hw4 : w / 65536 < 65536 := by omega
        have hsum : lN (rg g x i * rg g y j + rg H 10 (i + j) + c) = lN w := by rw [hw]
        refine hb.run (aCuts [40] J) 60 50 _ _ _ _ _ _ (aCuts_ok _) ?_
        simp only [wp1, bqX9_product_50, blX9_product_50]
        simp only [wpl, wpi, lget, hO1, aNth, aSet_eq, aV, pk_mul, nI_add, e2, e3, e4, nI_clamp (show 80 * x + i < 2 ^ 31 by omega), nI_clamp (show 80 * y + j < 2 ^ 31 by omega), nI_clamp (show 800 + i + j < 2 ^ 31 by omega), nF_at, q1, q2, q3, nI_l (show rg g x i < 2 ^ 31 by omega), nI_l (show rg g y j < 2 ^ 31 by omega), nI_l (show rg H 10 (i + j) < 2 ^ 31 by omega), lN_mul, lN_add, hsum]
        simp only [↓wpi_isub, ↓wpi_lsub, ↓wpi_ineg, ↓wpi_lneg, ↓wpi_irem, ↓wpi_lrem, ↓wpi_iinc, wp1, wp, wpl, wpi, lget, lput1, lput2, ltail, lkill, aV, aVl, aNth, aPut, aFz, aC0, aC2, aSw, aCat1, aCuts, aSet_eq, List.take, List.drop, List.reverse_cons, List.reverse_nil, List.nil_append, List.cons_append, List.length_cons, List.length_nil, Option.toList, true_and, and_true, Nat.reduceAdd, Nat.reduceEqDiff, Nat.reduceLT, Nat.reduceLeDiff, Nat.zero_add, Nat.add_zero, if_true, if_false, ite_true, ite_false, reduceIte, reduceCtorEq, true_or, or_true, not_true_eq_false, not_false_eq_true, false_and, and_false, true_implies, false_implies, not_false_eq_true, bqX9_product_0, blX9_product_0, bqX9_product_6, blX9_product_6, bqX9_product_9, blX9_product_9, bqX9_product_16, blX9_product_16, bqX9_product_31, blX9_product_31, bqX9_product_34, blX9_product_34, bqX9_product_40, blX9_product_40, bqX9_product_50, blX9_product_50, bqX9_product_132, blX9_product_132, bqX9_product_138, blX9_product_138, bqX9_product_145, blX9_product_145, nI_inc, hO1, nI_add, e4, nI_clamp (show 800 + i + j < 2 ^ 31 by omega), m65 hw3, lN_i, nF_upd, aSet_aSet, lN_sar3 hw3 (show 16 < 64 by decide), iInc_p]
        have hidx : 800 + i + j = 80 * 10 + (i + j) := by omega
        have hup := mV_upd (h := rg H 10) (p := i + j) (y := w % 65536) (n := 80) hlt
        rw [show 2 ^ 16 = 65536 from rfl, hidx]
        refine ih i (j + 1) _ (mV (rg (uN9 H (80 * 10 + (i + j)) (w % 65536)) 10) 80) _ _ _ (by omega) hi (by omega) hw4 (fun k hk => ?_) (fun k hk => ?_) rfl ?_ kk
        · rw [rg_up]
          by_cases e : k = i + j
          · rw [e, uN9_eq]; exact Nat.mod_lt _ (by decide)
          · rw [uN9_ne e]; exact p1 k hk
        · rw [uN9_ne (by omega)]; exact p2 k hk
        · intro M hM
          have h4 := p4 _ rfl
          rw [rg_up]
          rw [p3, Nat.pow_add] at hup
          have hd := Nat.div_add_mod w 65536
          have hs := mprod_in (hd.trans hw) h4
          rw [hM, mV_s (rg g y) j, show (65536 : Nat) ^ (j + 1) = 65536 ^ j * 65536 from Nat.pow_succ 65536 j]
          have ea : 65536 ^ i * (65536 ^ j * 65536) = 65536 ^ i * 65536 ^ j * 65536 := (Nat.mul_assoc _ _ _).symm
          rw [ea]
          omega
      · have e1 : (nI 80 ≤ nI (i + j)) = True := by rw [nI_leP (by decide) (by omega)]; simp; omega
        simp only [↓wpi_isub, ↓wpi_lsub, ↓wpi_ineg, ↓wpi_lneg, ↓wpi_irem, ↓wpi_lrem, ↓wpi_iinc, wp1, wp, wpl, wpi, lget, lput1, lput2, ltail, lkill, aV, aVl, aNth, aPut, aFz, aC0, aC2, aSw, aCat1, aCuts, aSet_eq, List.take, List.drop, List.reverse_cons, List.reverse_nil, List.nil_append, List.cons_append, List.length_cons, List.length_nil, Option.toList, true_and, and_true, Nat.reduceAdd, Nat.reduceEqDiff, Nat.reduceLT, Nat.reduceLeDiff, Nat.zero_add, Nat.add_zero, if_true, if_false, ite_true, ite_false, reduceIte, reduceCtorEq, true_or, or_true, not_true_eq_false, not_false_eq_true, false_and, and_false, true_implies, false_implies, not_false_eq_true, bqX9_product_0, blX9_product_0, bqX9_product_6, blX9_product_6, bqX9_product_9, blX9_product_9, bqX9_product_16, blX9_product_16, bqX9_product_31, blX9_product_31, bqX9_product_34, blX9_product_34, bqX9_product_40, blX9_product_40, bqX9_product_50, blX9_product_50, bqX9_product_132, blX9_product_132, bqX9_product_138, blX9_product_138, bqX9_product_145, blX9_product_145, nI_add, e1]
        exact kk _ _ _ _ _ _ (by omega) hc p1 p2 p3 (p4 _ rfl)
  have outer : ∀ (n i : Nat) (H : Nat → Nat) (x5 x6 x7 x8 x9 : Option Value), 80 - i < n → i ≤ 80 → (∀ k, k < 80 → rg H 10 k < 65536) → (∀ j, j < 800 ∨ 880 ≤ j → H j = g j) → mV (rg H 10) 80 = mV (rg g x) i * ρ y → J 9 [some (.ref (Y 0)), some (.int (nI x)), some (.int (nI y)), some (.int (nI to)), some (.int (nI i)), x5, x6, x7, x8, x9] [] O1 (aSet A1 (Y 7) (0, 880, .inl (nF H))) 0 0 := by
    intro n
    induction n with
    | zero => intro i H x5 x6 x7 x8 x9 hn; omega
    | succ n ih =>
      intro i H x5 x6 x7 x8 x9 hn hi p1 p2 p3
      refine hb.run (aCuts [16, 138] J) 60 9 _ _ _ _ _ _ (aCuts_ok _) ?_
      by_cases hlt : i < 80
      · have e1 : (nI 80 ≤ nI i) = False := by rw [nI_leP (by decide) (by omega)]; simp; omega
        simp only [↓wpi_isub, ↓wpi_lsub, ↓wpi_ineg, ↓wpi_lneg, ↓wpi_irem, ↓wpi_lrem, ↓wpi_iinc, wp1, wp, wpl, wpi, lget, lput1, lput2, ltail, lkill, aV, aVl, aNth, aPut, aFz, aC0, aC2, aSw, aCat1, aCuts, aSet_eq, List.take, List.drop, List.reverse_cons, List.reverse_nil, List.nil_append, List.cons_append, List.length_cons, List.length_nil, Option.toList, true_and, and_true, Nat.reduceAdd, Nat.reduceEqDiff, Nat.reduceLT, Nat.reduceLeDiff, Nat.zero_add, Nat.add_zero, if_true, if_false, ite_true, ite_false, reduceIte, reduceCtorEq, true_or, or_true, not_true_eq_false, not_false_eq_true, false_and, and_false, true_implies, false_implies, not_false_eq_true, bqX9_product_0, blX9_product_0, bqX9_product_6, blX9_product_6, bqX9_product_9, blX9_product_9, bqX9_product_16, blX9_product_16, bqX9_product_31, blX9_product_31, bqX9_product_34, blX9_product_34, bqX9_product_40, blX9_product_40, bqX9_product_50, blX9_product_50, bqX9_product_132, blX9_product_132, bqX9_product_138, blX9_product_138, bqX9_product_145, blX9_product_145, e1]
        have a1 := gx i hlt
        have e2 : vp_in (nI (80 * x + i)) 880 := vp_in_nI (by omega) (by decide)
        have q1 : H (80 * x + i) = rg g x i := other p2 x i hx hlt
        refine hb.run (aCuts [40, 132] J) 60 16 _ _ _ _ _ _ (aCuts_ok _) ?_
        by_cases hz : rg g x i = 0
        · have e3 : (nI (rg g x i) = 0) = True := by rw [hz, nI_0]; simp
          simp only [↓wpi_isub, ↓wpi_lsub, ↓wpi_ineg, ↓wpi_lneg, ↓wpi_irem, ↓wpi_lrem, ↓wpi_iinc, wp1, wp, wpl, wpi, lget, lput1, lput2, ltail, lkill, aV, aVl, aNth, aPut, aFz, aC0, aC2, aSw, aCat1, aCuts, aSet_eq, List.take, List.drop, List.reverse_cons, List.reverse_nil, List.nil_append, List.cons_append, List.length_cons, List.length_nil, Option.toList, true_and, and_true, Nat.reduceAdd, Nat.reduceEqDiff, Nat.reduceLT, Nat.reduceLeDiff, Nat.zero_add, Nat.add_zero, if_true, if_false, ite_true, ite_false, reduceIte, reduceCtorEq, true_or, or_true, not_true_eq_false, not_false_eq_true, false_and, and_false, true_implies, false_implies, not_false_eq_true, bqX9_product_0, blX9_product_0, bqX9_product_6, blX9_product_6, bqX9_product_9, blX9_product_9, bqX9_product_16, blX9_product_16, bqX9_product_31, blX9_product_31, bqX9_product_34, blX9_product_34, bqX9_product_40, blX9_product_40, bqX9_product_50, blX9_product_50, bqX9_product_132, blX9_product_132, bqX9_product_138, blX9_product_138, bqX9_product_145, blX9_product_145, hO1, pk_mul, nI_add, e2, nI_clamp (show 80 * x + i < 2 ^ 31 by omega), nF_at, q1, e3]
          refine hb.run (aCuts [9] J) 60 132 _ _ _ _ _ _ (aCuts_ok _) ?_
          simp only [↓wpi_isub, ↓wpi_lsub, ↓wpi_ineg, ↓wpi_lneg, ↓wpi_irem, ↓wpi_lrem, ↓wpi_iinc, wp1, wp, wpl, wpi, lget, lput1, lput2, ltail, lkill, aV, aVl, aNth, aPut, aFz, aC0, aC2, aSw, aCat1, aCuts, aSet_eq, List.take, List.drop, List.reverse_cons, List.reverse_nil, List.nil_append, List.cons_append, List.length_cons, List.length_nil, Option.toList, true_and, and_true, Nat.reduceAdd, Nat.reduceEqDiff, Nat.reduceLT, Nat.reduceLeDiff, Nat.zero_add, Nat.add_zero, if_true, if_false, ite_true, ite_false, reduceIte, reduceCtorEq, true_or, or_true, not_true_eq_false, not_false_eq_true, false_and, and_false, true_implies, false_implies, not_false_eq_true, bqX9_product_0, blX9_product_0, bqX9_product_6, blX9_product_6, bqX9_product_9, blX9_product_9, bqX9_product_16, blX9_product_16, bqX9_product_31, blX9_product_31, bqX9_product_34, blX9_product_34, bqX9_product_40, blX9_product_40, bqX9_product_50, blX9_product_50, bqX9_product_132, blX9_product_132, bqX9_product_138, blX9_product_138, bqX9_product_145, blX9_product_145, iInc_p]
          refine ih (i + 1) _ _ _ _ _ _ (by omega) (by omega) p1 p2 ?_
          rw [p3, mV_s, hz, Nat.zero_mul, Nat.add_zero]
        · have e3 : (nI (rg g x i) = 0) = False := by rw [nI_c0 (by omega)]; simp [hz]
          simp only [↓wpi_isub, ↓wpi_lsub, ↓wpi_ineg, ↓wpi_lneg, ↓wpi_irem, ↓wpi_lrem, ↓wpi_iinc, wp1, wp, wpl, wpi, lget, lput1, lput2, ltail, lkill, aV, aVl, aNth, aPut, aFz, aC0, aC2, aSw, aCat1, aCuts, aSet_eq, List.take, List.drop, List.reverse_cons, List.reverse_nil, List.nil_append, List.cons_append, List.length_cons, List.length_nil, Option.toList, true_and, and_true, Nat.reduceAdd, Nat.reduceEqDiff, Nat.reduceLT, Nat.reduceLeDiff, Nat.zero_add, Nat.add_zero, if_true, if_false, ite_true, ite_false, reduceIte, reduceCtorEq, true_or, or_true, not_true_eq_false, not_false_eq_true, false_and, and_false, true_implies, false_implies, not_false_eq_true, bqX9_product_0, blX9_product_0, bqX9_product_6, blX9_product_6, bqX9_product_9, blX9_product_9, bqX9_product_16, blX9_product_16, bqX9_product_31, blX9_product_31, bqX9_product_34, blX9_product_34, bqX9_product_40, blX9_product_40, bqX9_product_50, blX9_product_50, bqX9_product_132, blX9_product_132, bqX9_product_138, blX9_product_138, bqX9_product_145, blX9_product_145, hO1, pk_mul, nI_add, e2, nI_clamp (show 80 * x + i < 2 ^ 31 by omega), nF_at, q1, e3]
          refine inner 81 i 0 0 _ H _ _ (by omega) hlt (by omega) (by decide) p1 p2 rfl (fun M hM => ?_) ?_
          · rw [hM, p3]; simp [mV]
          · intro c' T' j' H' x8 x9 hj hc' r1 r2 r3 r4
            refine hb.run (aCuts [9] J) 60 132 _ _ _ _ _ _ (aCuts_ok _) ?_
            simp only [↓wpi_isub, ↓wpi_lsub, ↓wpi_ineg, ↓wpi_lneg, ↓wpi_irem, ↓wpi_lrem, ↓wpi_iinc, wp1, wp, wpl, wpi, lget, lput1, lput2, ltail, lkill, aV, aVl, aNth, aPut, aFz, aC0, aC2, aSw, aCat1, aCuts, aSet_eq, List.take, List.drop, List.reverse_cons, List.reverse_nil, List.nil_append, List.cons_append, List.length_cons, List.length_nil, Option.toList, true_and, and_true, Nat.reduceAdd, Nat.reduceEqDiff, Nat.reduceLT, Nat.reduceLeDiff, Nat.zero_add, Nat.add_zero, if_true, if_false, ite_true, ite_false, reduceIte, reduceCtorEq, true_or, or_true, not_true_eq_false, not_false_eq_true, false_and, and_false, true_implies, false_implies, not_false_eq_true, bqX9_product_0, blX9_product_0, bqX9_product_6, blX9_product_6, bqX9_product_9, blX9_product_9, bqX9_product_16, blX9_product_16, bqX9_product_31, blX9_product_31, bqX9_product_34, blX9_product_34, bqX9_product_40, blX9_product_40, bqX9_product_50, blX9_product_50, bqX9_product_132, blX9_product_132, bqX9_product_138, blX9_product_138, bqX9_product_145, blX9_product_145, iInc_p]
            refine ih (i + 1) _ _ _ _ _ _ (by omega) (by omega) r1 r2 ?_
            -- y fits into the limbs that are left
            have hP : 0 < 65536 ^ i := Nat.pow_pos (by decide)
            have h80 : 65536 ^ 80 = 65536 ^ i * 65536 ^ j' := by rw [← Nat.pow_add, hj]
            have hx1 : 65536 ^ i ≤ ρ x := by
              have : mV (rg g x) (i + 1) ≤ mV (rg g x) 80 := mV_le (by omega)
              rw [vx, mV_s] at this
              have : 1 * 65536 ^ i ≤ rg g x i * 65536 ^ i := Nat.mul_le_mul_right _ (by omega)
              omega
            have hyl : ρ y < 65536 ^ j' := by
              rcases Nat.lt_or_ge (ρ y) (65536 ^ j') with q | q
              · exact q
              · exfalso
                have := Nat.mul_le_mul hx1 q
                omega
            have hym : mV (rg g y) j' = ρ y := by
              have := mV_mod (g := rg g y) (n := j') (fun k hk => gy k (by omega)) (m := 80) (by omega)
              rw [vy, Nat.mod_eq_of_lt hyl] at this
              exact this.symm
            rw [hym, ← h80] at r4
            have hs : mV (rg g x) i * ρ y + rg g x i * ρ y * 65536 ^ i = mV (rg g x) (i + 1) * ρ y := by rw [mV_s]; grind
            rw [hs] at r4
            have hle : mV (rg g x) (i + 1) * ρ y ≤ ρ x * ρ y := by
              rw [← vx]; exact Nat.mul_le_mul_right _ (mV_le (by omega))
            have hc0 : c' = 0 := by
              rcases Nat.eq_zero_or_pos c' with q | q
              · exact q
              · exfalso
                have : 1 * 65536 ^ 80 ≤ c' * 65536 ^ 80 := Nat.mul_le_mul_right _ q
                omega
            rw [hc0, Nat.zero_mul, Nat.add_zero] at r4
            rw [r3, r4]
      · have e1 : (nI 80 ≤ nI i) = True := by rw [nI_leP (by decide) (by omega)]; simp; omega
        obtain rfl : i = 80 := by omega
        rw [vx] at p3
        have h2 := h1.set (x := 10) (by decide) hr (H := H) ⟨p1, p3, fun j hj => p2 j (by omega)⟩
        · rw [rU_rU] at h2
          simp only [↓wpi_isub, ↓wpi_lsub, ↓wpi_ineg, ↓wpi_lneg, ↓wpi_irem, ↓wpi_lrem, ↓wpi_iinc, wp1, wp, wpl, wpi, lget, lput1, lput2, ltail, lkill, aV, aVl, aNth, aPut, aFz, aC0, aC2, aSw, aCat1, aCuts, aSet_eq, List.take, List.drop, List.reverse_cons, List.reverse_nil, List.nil_append, List.cons_append, List.length_cons, List.length_nil, Option.toList, true_and, and_true, Nat.reduceAdd, Nat.reduceEqDiff, Nat.reduceLT, Nat.reduceLeDiff, Nat.zero_add, Nat.add_zero, if_true, if_false, ite_true, ite_false, reduceIte, reduceCtorEq, true_or, or_true, not_true_eq_false, not_false_eq_true, false_and, and_false, true_implies, false_implies, not_false_eq_true, bqX9_product_0, blX9_product_0, bqX9_product_6, blX9_product_6, bqX9_product_9, blX9_product_9, bqX9_product_16, blX9_product_16, bqX9_product_31, blX9_product_31, bqX9_product_34, blX9_product_34, bqX9_product_40, blX9_product_40, bqX9_product_50, blX9_product_50, bqX9_product_132, blX9_product_132, bqX9_product_138, blX9_product_138, bqX9_product_145, blX9_product_145, e1]
          refine hb.run (aCuts [6, 9, 40, 145] J) 60 138 _ _ _ _ _ _ (aCuts_ok _) ?_
          simp only [↓wpi_isub, ↓wpi_lsub, ↓wpi_ineg, ↓wpi_lneg, ↓wpi_irem, ↓wpi_lrem, ↓wpi_iinc, wp1, wp, wpl, wpi, lget, lput1, lput2, ltail, lkill, aV, aVl, aNth, aPut, aFz, aC0, aC2, aSw, aCat1, aCuts, aSet_eq, List.take, List.drop, List.reverse_cons, List.reverse_nil, List.nil_append, List.cons_append, List.length_cons, List.length_nil, Option.toList, true_and, and_true, Nat.reduceAdd, Nat.reduceEqDiff, Nat.reduceLT, Nat.reduceLeDiff, Nat.zero_add, Nat.add_zero, if_true, if_false, ite_true, ite_false, reduceIte, reduceCtorEq, true_or, or_true, not_true_eq_false, not_false_eq_true, false_and, and_false, true_implies, false_implies, not_false_eq_true, bqX9_product_0, blX9_product_0, bqX9_product_6, blX9_product_6, bqX9_product_9, blX9_product_9, bqX9_product_16, blX9_product_16, bqX9_product_31, blX9_product_31, bqX9_product_34, blX9_product_34, bqX9_product_40, blX9_product_40, bqX9_product_50, blX9_product_50, bqX9_product_132, blX9_product_132, bqX9_product_138, blX9_product_138, bqX9_product_145, blX9_product_145]
          refine ⟨_, _, _, _, hb.callV lvX9_47 (m_copy h2 (x := 10) (y := to) (by decide) (by omega) (by omega)) rfl h2.obj (by decide) (by decide) (by decide), ?_, fun _ _ _ h => h.elim⟩
          rintro _ O3 A3 ⟨rfl, h3⟩
          rw [rU_eq] at h3
          refine hb.run (aCuts [6, 9, 40, 145] J) 60 145 _ _ _ _ _ _ (aCuts_ok _) ?_
          simp only [↓wpi_isub, ↓wpi_lsub, ↓wpi_ineg, ↓wpi_lneg, ↓wpi_irem, ↓wpi_lrem, ↓wpi_iinc, wp1, wp, wpl, wpi, lget, lput1, lput2, ltail, lkill, aV, aVl, aNth, aPut, aFz, aC0, aC2, aSw, aCat1, aCuts, aSet_eq, List.take, List.drop, List.reverse_cons, List.reverse_nil, List.nil_append, List.cons_append, List.length_cons, List.length_nil, Option.toList, true_and, and_true, Nat.reduceAdd, Nat.reduceEqDiff, Nat.reduceLT, Nat.reduceLeDiff, Nat.zero_add, Nat.add_zero, if_true, if_false, ite_true, ite_false, reduceIte, reduceCtorEq, true_or, or_true, not_true_eq_false, not_false_eq_true, false_and, and_false, true_implies, false_implies, not_false_eq_true, bqX9_product_0, blX9_product_0, bqX9_product_6, blX9_product_6, bqX9_product_9, blX9_product_9, bqX9_product_16, blX9_product_16, bqX9_product_31, blX9_product_31, bqX9_product_34, blX9_product_34, bqX9_product_40, blX9_product_40, bqX9_product_50, blX9_product_50, bqX9_product_132, blX9_product_132, bqX9_product_138, blX9_product_138, bqX9_product_145, blX9_product_145]
          exact hb.vret ⟨rfl, _, h3⟩ (by decide) (by decide)
  refine hb.run (aCuts [6, 9, 40, 145] J) 60 6 _ _ _ _ _ _ (aCuts_ok _) ?_
  simp only [↓wpi_isub, ↓wpi_lsub, ↓wpi_ineg, ↓wpi_lneg, ↓wpi_irem, ↓wpi_lrem, ↓wpi_iinc, wp1, wp, wpl, wpi, lget, lput1, lput2, ltail, lkill, aV, aVl, aNth, aPut, aFz, aC0, aC2, aSw, aCat1, aCuts, aSet_eq, List.take, List.drop, List.reverse_cons, List.reverse_nil, List.nil_append, List.cons_append, List.length_cons, List.length_nil, Option.toList, true_and, and_true, Nat.reduceAdd, Nat.reduceEqDiff, Nat.reduceLT, Nat.reduceLeDiff, Nat.zero_add, Nat.add_zero, if_true, if_false, ite_true, ite_false, reduceIte, reduceCtorEq, true_or, or_true, not_true_eq_false, not_false_eq_true, false_and, and_false, true_implies, false_implies, not_false_eq_true, bqX9_product_0, blX9_product_0, bqX9_product_6, blX9_product_6, bqX9_product_9, blX9_product_9, bqX9_product_16, blX9_product_16, bqX9_product_31, blX9_product_31, bqX9_product_34, blX9_product_34, bqX9_product_40, blX9_product_40, bqX9_product_50, blX9_product_50, bqX9_product_132, blX9_product_132, bqX9_product_138, blX9_product_138, bqX9_product_145, blX9_product_145]
  have hz := (hr 10 (by decide)).2.trans rU_eq
  have h0 := outer 81 0 g none none none none none (by omega) (by omega) (hr 10 (by decide)).1 (fun _ _ => rfl) (by rw [hz]; simp [mV])
  rw [aSet_id hg] at h0
  exact h0
end MD
