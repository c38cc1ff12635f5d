/-! ===== the reference: division, bit by bit ===== -/
theorem or_bit0 {a b : Nat} (ha : a % 2 = 0) (ha2 : a < 65536) (hb : b < 2) : nI a ||| nI b = nI (a + b) := by
  obtain ⟨c, rfl⟩ : ∃ c, a = 2 * c := ⟨a / 2, by omega⟩
  have h1 : nI (2 * c) ||| nI b = nI (2 * c ||| b) := by
    apply Int32.toBitVec_inj.mp
    apply BitVec.eq_of_toNat_eq
    rw [Int32.toBitVec_or, BitVec.toNat_or, pk_tn (by omega), pk_tn (by omega)]
    have : (2 * c ||| b) < 2 ^ 32 := Nat.or_lt_two_pow (by omega) (by omega)
    rw [pk_tn this]
  rw [h1]
  congr 1
  have := Nat.two_pow_add_eq_or_of_lt (i := 1) (b := b) (by omega) c
  rw [Nat.pow_one] at this
  exact this.symm
theorem or_bitj {a j : Nat} (ha : a % 2 ^ (j + 1) = 0) (ha2 : a < 65536) (hj : j < 16) : nI a ||| nI (2 ^ j) = nI (a + 2 ^ j) := by
  obtain ⟨c, hc⟩ : ∃ c, a = 2 ^ (j + 1) * c := ⟨a / 2 ^ (j + 1), by have := Nat.div_add_mod a (2 ^ (j + 1)); omega⟩
  have hp : 2 ^ j < 2 ^ 16 := Nat.pow_lt_pow_right (by decide) hj
  have h1 : nI a ||| nI (2 ^ j) = nI (a ||| 2 ^ j) := by
    apply Int32.toBitVec_inj.mp
    apply BitVec.eq_of_toNat_eq
    rw [Int32.toBitVec_or, BitVec.toNat_or, pk_tn (by omega), pk_tn (by omega)]
    have : (a ||| 2 ^ j) < 2 ^ 32 := Nat.or_lt_two_pow (by omega) (by omega)
    rw [pk_tn this]
  rw [h1]
  congr 1
  have := Nat.two_pow_add_eq_or_of_lt (i := j + 1) (b := 2 ^ j) (Nat.pow_lt_pow_right (by decide) (by omega)) c
  rw [hc]; exact this.symm
theorem shl1V {j : Nat} (hj : j < 16) : nI 1 <<< (nI j &&& 31) = nI (2 ^ j) := by
  have := pk_shlN (n := 1) (nI j &&& 31) j (s_l j (by omega)) (by have := Nat.pow_lt_pow_right (show 1 < 2 by decide) (show j < 32 by omega); omega)
  rw [Nat.one_mul] at this; exact this
/-- the state of the division at bit k: Q is a multiple of 2 to the k -/
theorem dv_bit {X D Qk R k : Nat} (h : X / 2 ^ (k + 1) = Qk * D + R) : X / 2 ^ k = 2 * (Qk * D + R) + X / 2 ^ k % 2 := by
  have : X / 2 ^ (k + 1) = X / 2 ^ k / 2 := by rw [Nat.pow_succ, Nat.div_div_eq_div_mul]
  rw [this] at h
  omega
section MD2
variable {l : Launch} {G : aG} {base tA : Nat} {Y ρ : Nat → Nat} {τ : Nat → Int32} {ex : Bool} {N : aN} {O0 O : aO} {A0 A : aA} {x y : Nat}
abbrev rmM2 : Room := { frames := 3, cells := 0, slots := 0, locals := 70 }
set_option maxHeartbeats 8000000 in
theorem m_divide (h : mW Y ρ τ ex N O0 A0 O A) (hx : x < 11) (hy : y < 11) (hx6 : x ≠ 6) (hx7 : x ≠ 7) (hy6 : y ≠ 6) (hy7 : y ≠ 7) (h0 : 0 < ρ y) (hmax : ρ y < 65536 ^ 79) : aMet l G base tA yX9_divide cX9_divide 4 none rmM2 [.ref (Y 0), .int (nI x), .int (nI y)] O A (fun r O' A' => r = none ∧ mW Y (rU (rU ρ 6 (ρ x / ρ y)) 7 (ρ x % ρ y)) τ ex N O0 A0 O' A') := by
  refine aMet_of (ini := false) (B := aLook bkX9_divide) (by decide) (fun h => by first | rfl | cases h) (Nat.le_of_ble_eq_true rfl) boX9_divide ?_
  intro E J hb
  obtain ⟨X, hX⟩ : ∃ X, X = ρ x := ⟨_, rfl⟩
  obtain ⟨D, hD⟩ : ∃ D, D = ρ y := ⟨_, rfl⟩
  rw [← hX, ← hD] at hb
  rw [← hD] at h0 hmax
  have hXl : X < 65536 ^ 80 := by rw [hX]; exact h.lt hx
  have hX12 : X < 2 ^ 1280 := Nat.lt_of_lt_of_le hXl (by rw [show (65536 : Nat) = 2 ^ 16 from rfl, ← Nat.pow_mul]; exact Nat.le_refl _)
  have h80 : (65536 : Nat) ^ 80 = 65536 ^ 79 * 65536 := Nat.pow_succ 65536 79
  have loop : ∀ (k : Nat) (Qk R : Nat) (O1 : aO) (A1 : aA), k ≤ 1280 → X / 2 ^ k = Qk * D + R → R < D → mW Y (rU (rU ρ 6 (Qk * 2 ^ k)) 7 R) τ ex N O0 A0 O1 A1 → J 20 [some (.ref (Y 0)), some (.int (nI x)), some (.int (nI y)), some (.int (iSub (nI k) (nI 1)))] [] O1 A1 0 0 := by
    intro k
    induction k with
    | zero =>
      intro Qk R O1 A1 hk hq hR h1
      refine hb.run (aCuts [24] J) 60 20 _ _ _ _ _ _ (aCuts_ok _) ?_
      simp only [↓wpi_isub, ↓wpi_lsub, ↓wpi_ineg, ↓wpi_lneg, ↓wpi_irem, ↓wpi_lrem, ↓wpi_iinc, wp1, wp, wpl, wpi, lget, lput1, lput2, ltail, lkill, aV, aVl, aNth, aPut, aFz, aC0, aC2, aSw, aCat1, aCuts, aSet_eq, List.take, List.drop, List.reverse_cons, List.reverse_nil, List.nil_append, List.cons_append, List.length_cons, List.length_nil, Option.toList, true_and, and_true, Nat.reduceAdd, Nat.reduceEqDiff, Nat.reduceLT, Nat.reduceLeDiff, Nat.zero_add, Nat.add_zero, if_true, if_false, ite_true, ite_false, reduceIte, reduceCtorEq, true_or, or_true, not_true_eq_false, not_false_eq_true, false_and, and_false, true_implies, false_implies, not_false_eq_true, bqX9_divide_0, blX9_divide_0, bqX9_divide_6, blX9_divide_6, bqX9_divide_12, blX9_divide_12, bqX9_divide_17, blX9_divide_17, bqX9_divide_20, blX9_divide_20, bqX9_divide_24, blX9_divide_24, bqX9_divide_31, blX9_divide_31, bqX9_divide_46, blX9_divide_46, bqX9_divide_55, blX9_divide_55, bqX9_divide_58, blX9_divide_58, bqX9_divide_61, blX9_divide_61, bqX9_divide_68, blX9_divide_68, bqX9_divide_90, blX9_divide_90, bqX9_divide_96, blX9_divide_96, iSub_n1]
      rw [Nat.pow_zero, Nat.div_one] at hq
      have e1 : X / D = Qk := by
        rw [hq, Nat.mul_comm, Nat.mul_add_div h0, Nat.div_eq_of_lt hR, Nat.add_zero]
      have e2 : X % D = R := by
        rw [hq, Nat.mul_comm, Nat.mul_add_mod, Nat.mod_eq_of_lt hR]
      rw [Nat.pow_zero, Nat.mul_one] at h1
      exact hb.vret ⟨rfl, by rw [e1, e2]; exact h1⟩ (by decide) (by decide)
    | succ k ih =>
      intro Qk R O1 A1 hk hq hR h1
      rw [iSub_nn (show 1 ≤ k + 1 by omega), Nat.add_sub_cancel]
      have hx' : rU (rU ρ 6 (Qk * 2 ^ (k + 1))) 7 R x = X := by rw [rU_ne hx7, rU_ne hx6, hX]
      obtain ⟨b, hbb⟩ : ∃ b, b = X / 2 ^ k % 2 := ⟨_, rfl⟩
      have hb2 : b < 2 := by rw [hbb]; exact Nat.mod_lt _ (by decide)
      have hstep := dv_bit hq
      rw [← hbb] at hstep
      refine hb.run (aCuts [24] J) 60 20 _ _ _ _ _ _ (aCuts_ok _) ?_
      simp only [↓wpi_isub, ↓wpi_lsub, ↓wpi_ineg, ↓wpi_lneg, ↓wpi_irem, ↓wpi_lrem, ↓wpi_iinc, wp1, wp, wpl, wpi, lget, lput1, lput2, ltail, lkill, aV, aVl, aNth, aPut, aFz, aC0, aC2, aSw, aCat1, aCuts, aSet_eq, List.take, List.drop, List.reverse_cons, List.reverse_nil, List.nil_append, List.cons_append, List.length_cons, List.length_nil, Option.toList, true_and, and_true, Nat.reduceAdd, Nat.reduceEqDiff, Nat.reduceLT, Nat.reduceLeDiff, Nat.zero_add, Nat.add_zero, if_true, if_false, ite_true, ite_false, reduceIte, reduceCtorEq, true_or, or_true, not_true_eq_false, not_false_eq_true, false_and, and_false, true_implies, false_implies, not_false_eq_true, bqX9_divide_0, blX9_divide_0, bqX9_divide_6, blX9_divide_6, bqX9_divide_12, blX9_divide_12, bqX9_divide_17, blX9_divide_17, bqX9_divide_20, blX9_divide_20, bqX9_divide_24, blX9_divide_24, bqX9_divide_31, blX9_divide_31, bqX9_divide_46, blX9_divide_46, bqX9_divide_55, blX9_divide_55, bqX9_divide_58, blX9_divide_58, bqX9_divide_61, blX9_divide_61, bqX9_divide_68, blX9_divide_68, bqX9_divide_90, blX9_divide_90, bqX9_divide_96, blX9_divide_96, nI_lt0 (show k < 2 ^ 31 by omega)]
      refine hb.run (aCuts [6, 12, 17, 20, 31, 46, 55, 68] J) 60 24 _ _ _ _ _ _ (aCuts_ok _) ?_
      simp only [↓wpi_isub, ↓wpi_lsub, ↓wpi_ineg, ↓wpi_lneg, ↓wpi_irem, ↓wpi_lrem, ↓wpi_iinc, wp1, wp, wpl, wpi, lget, lput1, lput2, ltail, lkill, aV, aVl, aNth, aPut, aFz, aC0, aC2, aSw, aCat1, aCuts, aSet_eq, List.take, List.drop, List.reverse_cons, List.reverse_nil, List.nil_append, List.cons_append, List.length_cons, List.length_nil, Option.toList, true_and, and_true, Nat.reduceAdd, Nat.reduceEqDiff, Nat.reduceLT, Nat.reduceLeDiff, Nat.zero_add, Nat.add_zero, if_true, if_false, ite_true, ite_false, reduceIte, reduceCtorEq, true_or, or_true, not_true_eq_false, not_false_eq_true, false_and, and_false, true_implies, false_implies, not_false_eq_true, bqX9_divide_0, blX9_divide_0, bqX9_divide_6, blX9_divide_6, bqX9_divide_12, blX9_divide_12, bqX9_divide_17, blX9_divide_17, bqX9_divide_20, blX9_divide_20, bqX9_divide_24, blX9_divide_24, bqX9_divide_31, blX9_divide_31, bqX9_divide_46, blX9_divide_46, bqX9_divide_55, blX9_divide_55, bqX9_divide_58, blX9_divide_58, bqX9_divide_61, blX9_divide_61, bqX9_divide_68, blX9_divide_68, bqX9_divide_90, blX9_divide_90, bqX9_divide_96, blX9_divide_96]
      refine ⟨_, _, _, _, hb.callV lvX9_43 (m_times h1 (x := 7) (f := 2) (by decide) (by decide) (by rw [rU_eq]; omega)) rfl h1.obj (by decide) (by decide) (by decide), ?_, fun _ _ _ h => h.elim⟩
      rintro _ O2 A2 ⟨rfl, h2⟩
      rw [rU_rU, rU_eq] at h2
      obtain ⟨g, hg, hr⟩ := h2.row
      have r7 : mV (rg g 7) 80 = R * 2 := (hr 7 (by decide)).2.trans rU_eq
      have l7 := (hr 7 (by decide)).1 0 (by decide)
      have l7e : rg g 7 0 % 2 = 0 := by
        have := mV_limb (g := rg g 7) (i := 0) (n := 80) (by decide) (hr 7 (by decide)).1
        rw [r7, Nat.pow_zero, Nat.div_one] at this
        omega
      have q7 : g 560 = rg g 7 0 := rfl
      have v7 : vp_in (nI 560) 880 := vp_in_nI (by decide) (by decide)
      refine hb.run (aCuts [6, 12, 17, 20, 31, 46, 55, 68] J) 60 31 _ _ _ _ _ _ (aCuts_ok _) ?_
      simp only [↓wpi_isub, ↓wpi_lsub, ↓wpi_ineg, ↓wpi_lneg, ↓wpi_irem, ↓wpi_lrem, ↓wpi_iinc, wp1, wp, wpl, wpi, lget, lput1, lput2, ltail, lkill, aV, aVl, aNth, aPut, aFz, aC0, aC2, aSw, aCat1, aCuts, aSet_eq, List.take, List.drop, List.reverse_cons, List.reverse_nil, List.nil_append, List.cons_append, List.length_cons, List.length_nil, Option.toList, true_and, and_true, Nat.reduceAdd, Nat.reduceEqDiff, Nat.reduceLT, Nat.reduceLeDiff, Nat.zero_add, Nat.add_zero, if_true, if_false, ite_true, ite_false, reduceIte, reduceCtorEq, true_or, or_true, not_true_eq_false, not_false_eq_true, false_and, and_false, true_implies, false_implies, not_false_eq_true, bqX9_divide_0, blX9_divide_0, bqX9_divide_6, blX9_divide_6, bqX9_divide_12, blX9_divide_12, bqX9_divide_17, blX9_divide_17, bqX9_divide_20, blX9_divide_20, bqX9_divide_24, blX9_divide_24, bqX9_divide_31, blX9_divide_31, bqX9_divide_46, blX9_divide_46, bqX9_divide_55, blX9_divide_55, bqX9_divide_58, blX9_divide_58, bqX9_divide_61, blX9_divide_61, bqX9_divide_68, blX9_divide_68, bqX9_divide_90, blX9_divide_90, bqX9_divide_96, blX9_divide_96, h2.obj, hg, v7, nI_clamp (show 560 < 2 ^ 31 by decide), nF_at, q7]
      refine ⟨_, _, _, _, hb.callV lvX9_50 (m_bit h2 (x := x) (k := k) hx (by omega)) rfl h2.obj (by decide) (by decide) (by decide), ?_, fun _ _ _ h => h.elim⟩
      rintro _ O2 A2 ⟨rfl, rfl, rfl⟩
      rw [rU_ne hx7, rU_ne hx6, ← hX, ← hbb]
      have hS7 : rgS g (uN9 g (80 * 7 + 0) (rg g 7 0 + b)) 7 (R * 2 + b) := limbS (hr 7 (by decide)).1 (by decide) (by omega) (by rw [r7, Nat.pow_zero]; omega)
      have h3 := h2.set (x := 7) (by decide) hr hS7
      rw [rU_rU] at h3
      refine hb.run (aCuts [6, 12, 17, 20, 31, 46, 55, 68] J) 60 46 _ _ _ _ _ _ (aCuts_ok _) ?_
      simp only [↓wpi_isub, ↓wpi_lsub, ↓wpi_ineg, ↓wpi_lneg, ↓wpi_irem, ↓wpi_lrem, ↓wpi_iinc, wp1, wp, wpl, wpi, lget, lput1, lput2, ltail, lkill, aV, aVl, aNth, aPut, aFz, aC0, aC2, aSw, aCat1, aCuts, aSet_eq, List.take, List.drop, List.reverse_cons, List.reverse_nil, List.nil_append, List.cons_append, List.length_cons, List.length_nil, Option.toList, true_and, and_true, Nat.reduceAdd, Nat.reduceEqDiff, Nat.reduceLT, Nat.reduceLeDiff, Nat.zero_add, Nat.add_zero, if_true, if_false, ite_true, ite_false, reduceIte, reduceCtorEq, true_or, or_true, not_true_eq_false, not_false_eq_true, false_and, and_false, true_implies, false_implies, not_false_eq_true, bqX9_divide_0, blX9_divide_0, bqX9_divide_6, blX9_divide_6, bqX9_divide_12, blX9_divide_12, bqX9_divide_17, blX9_divide_17, bqX9_divide_20, blX9_divide_20, bqX9_divide_24, blX9_divide_24, bqX9_divide_31, blX9_divide_31, bqX9_divide_46, blX9_divide_46, bqX9_divide_55, blX9_divide_55, bqX9_divide_58, blX9_divide_58, bqX9_divide_61, blX9_divide_61, bqX9_divide_68, blX9_divide_68, bqX9_divide_90, blX9_divide_90, bqX9_divide_96, blX9_divide_96, or_bit0 l7e l7 hb2, hg, v7, nI_clamp (show 560 < 2 ^ 31 by decide), nF_upd]
      refine ⟨_, _, _, _, hb.callV lvX9_58 (m_order h3 (x := 7) (y := y) (by decide) hy) rfl h3.obj (by decide) (by decide) (by decide), ?_, fun _ _ _ h => h.elim⟩
      rintro _ O3 A3 ⟨rfl, e3, e4⟩
      have h3 : mW Y (rU (rU ρ 6 (Qk * 2 ^ (k + 1))) 7 (R * 2 + b)) τ ex N O0 A0 O3 A3 := by rw [e3, e4]; exact h3
      rw [rU_eq, rU_ne hy7, rU_ne hy6, ← hD]
      refine hb.run (aCuts [61, 90] J) 60 55 _ _ _ _ _ _ (aCuts_ok _) ?_
      by_cases hc : D ≤ R * 2 + b
      · have e5 : (0 ≤ cmpI (R * 2 + b) D) = True := by rw [cmpI_ge]; simp [hc]
        simp only [↓wpi_isub, ↓wpi_lsub, ↓wpi_ineg, ↓wpi_lneg, ↓wpi_irem, ↓wpi_lrem, ↓wpi_iinc, wp1, wp, wpl, wpi, lget, lput1, lput2, ltail, lkill, aV, aVl, aNth, aPut, aFz, aC0, aC2, aSw, aCat1, aCuts, aSet_eq, List.take, List.drop, List.reverse_cons, List.reverse_nil, List.nil_append, List.cons_append, List.length_cons, List.length_nil, Option.toList, true_and, and_true, Nat.reduceAdd, Nat.reduceEqDiff, Nat.reduceLT, Nat.reduceLeDiff, Nat.zero_add, Nat.add_zero, if_true, if_false, ite_true, ite_false, reduceIte, reduceCtorEq, true_or, or_true, not_true_eq_false, not_false_eq_true, false_and, and_false, true_implies, false_implies, not_false_eq_true, bqX9_divide_0, blX9_divide_0, bqX9_divide_6, blX9_divide_6, bqX9_divide_12, blX9_divide_12, bqX9_divide_17, blX9_divide_17, bqX9_divide_20, blX9_divide_20, bqX9_divide_24, blX9_divide_24, bqX9_divide_31, blX9_divide_31, bqX9_divide_46, blX9_divide_46, bqX9_divide_55, blX9_divide_55, bqX9_divide_58, blX9_divide_58, bqX9_divide_61, blX9_divide_61, bqX9_divide_68, blX9_divide_68, bqX9_divide_90, blX9_divide_90, bqX9_divide_96, blX9_divide_96, e5]
        refine hb.run (aCuts [6, 12, 17, 20, 31, 46, 55, 68] J) 60 61 _ _ _ _ _ _ (aCuts_ok _) ?_
        simp only [↓wpi_isub, ↓wpi_lsub, ↓wpi_ineg, ↓wpi_lneg, ↓wpi_irem, ↓wpi_lrem, ↓wpi_iinc, wp1, wp, wpl, wpi, lget, lput1, lput2, ltail, lkill, aV, aVl, aNth, aPut, aFz, aC0, aC2, aSw, aCat1, aCuts, aSet_eq, List.take, List.drop, List.reverse_cons, List.reverse_nil, List.nil_append, List.cons_append, List.length_cons, List.length_nil, Option.toList, true_and, and_true, Nat.reduceAdd, Nat.reduceEqDiff, Nat.reduceLT, Nat.reduceLeDiff, Nat.zero_add, Nat.add_zero, if_true, if_false, ite_true, ite_false, reduceIte, reduceCtorEq, true_or, or_true, not_true_eq_false, not_false_eq_true, false_and, and_false, true_implies, false_implies, not_false_eq_true, bqX9_divide_0, blX9_divide_0, bqX9_divide_6, blX9_divide_6, bqX9_divide_12, blX9_divide_12, bqX9_divide_17, blX9_divide_17, bqX9_divide_20, blX9_divide_20, bqX9_divide_24, blX9_divide_24, bqX9_divide_31, blX9_divide_31, bqX9_divide_46, blX9_divide_46, bqX9_divide_55, blX9_divide_55, bqX9_divide_58, blX9_divide_58, bqX9_divide_61, blX9_divide_61, bqX9_divide_68, blX9_divide_68, bqX9_divide_90, blX9_divide_90, bqX9_divide_96, blX9_divide_96]
        refine ⟨_, _, _, _, hb.callV lvX9_61 (m_less h3 (x := 7) (y := y) (by decide) hy (by omega) (by rw [rU_eq, rU_ne hy7, rU_ne hy6, ← hD]; exact hc)) rfl h3.obj (by decide) (by decide) (by decide), ?_, fun _ _ _ h => h.elim⟩
        rintro _ O4 A4 ⟨rfl, h4⟩
        rw [rU_rU, rU_eq, rU_ne hy7, rU_ne hy6, ← hD] at h4
        obtain ⟨g4, hg4, hr4⟩ := h4.row
        have r6 : mV (rg g4 6) 80 = Qk * 2 ^ (k + 1) := (hr4 6 (by decide)).2.trans (by rw [rU_ne (by decide), rU_eq])
        have l6 := (hr4 6 (by decide)).1 (k / 16) (by omega)
        have hlim := mV_limb (g := rg g4 6) (i := k / 16) (n := 80) (by omega) (hr4 6 (by decide)).1
        have hpw : 65536 ^ (k / 16) * 2 ^ (k % 16) = 2 ^ k := by
          rw [show (65536 : Nat) = 2 ^ 16 from rfl, ← Nat.pow_mul, ← Nat.pow_add, show 16 * (k / 16) + k % 16 = k by omega]
        have l6e : rg g4 6 (k / 16) % 2 ^ (k % 16 + 1) = 0 := by
          rw [← hlim, r6, show (65536 : Nat) = 2 ^ (k % 16 + 1) * 2 ^ (15 - k % 16) by rw [← Nat.pow_add, show k % 16 + 1 + (15 - k % 16) = 16 by omega], Nat.mod_mul_right_mod]
          rw [show 2 ^ (k % 16 + 1) * 2 ^ (15 - k % 16) = 65536 by rw [← Nat.pow_add, show k % 16 + 1 + (15 - k % 16) = 16 by omega]]
          have : Qk * 2 ^ (k + 1) = 65536 ^ (k / 16) * (Qk * 2 ^ (k % 16 + 1)) := by
            rw [Nat.pow_succ, ← hpw, Nat.pow_succ]; grind
          rw [this, Nat.mul_div_cancel_left _ (Nat.pow_pos (by decide)), Nat.mul_mod_left]
        have l6b : rg g4 6 (k / 16) + 2 ^ (k % 16) < 65536 := by
          have h1 : 2 ^ (k % 16 + 1) * 2 ^ (15 - k % 16) = 65536 := by rw [← Nat.pow_add, show k % 16 + 1 + (15 - k % 16) = 16 by omega]
          obtain ⟨c, hc⟩ : ∃ c, rg g4 6 (k / 16) = 2 ^ (k % 16 + 1) * c := ⟨rg g4 6 (k / 16) / 2 ^ (k % 16 + 1), by have := Nat.div_add_mod (rg g4 6 (k / 16)) (2 ^ (k % 16 + 1)); omega⟩
          rw [hc] at l6 ⊢
          have hcl : c < 2 ^ (15 - k % 16) := by
            rw [← h1] at l6
            exact Nat.lt_of_mul_lt_mul_left l6
          have := Nat.mul_le_mul_left (2 ^ (k % 16 + 1)) (show c + 1 ≤ 2 ^ (15 - k % 16) by omega)
          rw [Nat.mul_add, Nat.mul_one, h1, Nat.pow_succ] at this
          have := Nat.two_pow_pos (k % 16)
          rw [Nat.pow_succ]
          omega
        have hS6 : rgS g4 (uN9 g4 (80 * 6 + k / 16) (rg g4 6 (k / 16) + 2 ^ (k % 16))) 6 (Qk * 2 ^ (k + 1) + 2 ^ k) := by
          refine limbS (hr4 6 (by decide)).1 (by omega) l6b ?_
          rw [r6, Nat.add_mul, Nat.mul_comm (2 ^ (k % 16)), hpw]
          omega
        have h5 := h4.set (x := 6) (by decide) hr4 hS6
        have ec : rU (rU (rU ρ 6 (Qk * 2 ^ (k + 1))) 7 (R * 2 + b - D)) 6 (Qk * 2 ^ (k + 1) + 2 ^ k) = rU (rU ρ 6 ((2 * Qk + 1) * 2 ^ k)) 7 (R * 2 + b - D) := by
          rw [rU_comm (show (7 : Nat) ≠ 6 by decide), rU_rU]
          congr 2
          rw [Nat.pow_succ]; grind
        rw [ec] at h5
        have e6 : nI k / nI 16 = nI (k / 16) := pk_div (by omega) (by decide) (by decide)
        have e7 : vp_in (nI (480 + k / 16)) 880 := vp_in_nI (by omega) (by decide)
        have e8 : (nI 16 = 0) = False := by simp only [eq_iff_iff, iff_false]; decide +kernel
        have q6 : g4 (480 + k / 16) = rg g4 6 (k / 16) := rfl
        refine hb.run (aCuts [90] J) 60 68 _ _ _ _ _ _ (aCuts_ok _) ?_
        simp only [wp1, bqX9_divide_68, blX9_divide_68]
        simp only [wpl, wpi, lget, h4.obj, aNth, aV, hg4, e8, e6, nI_add, e7, nI_clamp (show 480 + k / 16 < 2 ^ 31 by omega), nF_at, q6]
        have e9 : nI k - nI (k / 16) * nI 16 = nI (k % 16) := by rw [← e6]; exact pk_rem (by omega) (by decide) (by decide)
        simp only [↓wpi_isub, ↓wpi_lsub, ↓wpi_ineg, ↓wpi_lneg, ↓wpi_irem, ↓wpi_lrem, ↓wpi_iinc, wp1, wp, wpl, wpi, lget, lput1, lput2, ltail, lkill, aV, aVl, aNth, aPut, aFz, aC0, aC2, aSw, aCat1, aCuts, aSet_eq, List.take, List.drop, List.reverse_cons, List.reverse_nil, List.nil_append, List.cons_append, List.length_cons, List.length_nil, Option.toList, true_and, and_true, Nat.reduceAdd, Nat.reduceEqDiff, Nat.reduceLT, Nat.reduceLeDiff, Nat.zero_add, Nat.add_zero, if_true, if_false, ite_true, ite_false, reduceIte, reduceCtorEq, true_or, or_true, not_true_eq_false, not_false_eq_true, false_and, and_false, true_implies, false_implies, not_false_eq_true, bqX9_divide_0, blX9_divide_0, bqX9_divide_6, blX9_divide_6, bqX9_divide_12, blX9_divide_12, bqX9_divide_17, blX9_divide_17, bqX9_divide_20, blX9_divide_20, bqX9_divide_24, blX9_divide_24, bqX9_divide_31, blX9_divide_31, bqX9_divide_46, blX9_divide_46, bqX9_divide_55, blX9_divide_55, bqX9_divide_58, blX9_divide_58, bqX9_divide_61, blX9_divide_61, bqX9_divide_68, blX9_divide_68, bqX9_divide_90, blX9_divide_90, bqX9_divide_96, blX9_divide_96, e8, e9, iRem_n (show k < 2 ^ 31 by omega) (show 0 < 16 by decide) (show 16 < 2 ^ 31 by decide), shl1V (show k % 16 < 16 by omega), or_bitj l6e l6 (show k % 16 < 16 by omega), hg4, e7, nI_clamp (show 480 + k / 16 < 2 ^ 31 by omega), nF_upd]
        refine hb.run (aCuts [20] J) 60 90 _ _ _ _ _ _ (aCuts_ok _) ?_
        simp only [↓wpi_isub, ↓wpi_lsub, ↓wpi_ineg, ↓wpi_lneg, ↓wpi_irem, ↓wpi_lrem, ↓wpi_iinc, wp1, wp, wpl, wpi, lget, lput1, lput2, ltail, lkill, aV, aVl, aNth, aPut, aFz, aC0, aC2, aSw, aCat1, aCuts, aSet_eq, List.take, List.drop, List.reverse_cons, List.reverse_nil, List.nil_append, List.cons_append, List.length_cons, List.length_nil, Option.toList, true_and, and_true, Nat.reduceAdd, Nat.reduceEqDiff, Nat.reduceLT, Nat.reduceLeDiff, Nat.zero_add, Nat.add_zero, if_true, if_false, ite_true, ite_false, reduceIte, reduceCtorEq, true_or, or_true, not_true_eq_false, not_false_eq_true, false_and, and_false, true_implies, false_implies, not_false_eq_true, bqX9_divide_0, blX9_divide_0, bqX9_divide_6, blX9_divide_6, bqX9_divide_12, blX9_divide_12, bqX9_divide_17, blX9_divide_17, bqX9_divide_20, blX9_divide_20, bqX9_divide_24, blX9_divide_24, bqX9_divide_31, blX9_divide_31, bqX9_divide_46, blX9_divide_46, bqX9_divide_55, blX9_divide_55, bqX9_divide_58, blX9_divide_58, bqX9_divide_61, blX9_divide_61, bqX9_divide_68, blX9_divide_68, bqX9_divide_90, blX9_divide_90, bqX9_divide_96, blX9_divide_96, iInc_m1]
        refine ih (2 * Qk + 1) (R * 2 + b - D) _ _ (by omega) ?_ (by omega) h5
        rw [hstep, Nat.add_mul, Nat.mul_assoc]; omega
      · have e5 : (0 ≤ cmpI (R * 2 + b) D) = False := by rw [cmpI_ge]; simp; omega
        simp only [↓wpi_isub, ↓wpi_lsub, ↓wpi_ineg, ↓wpi_lneg, ↓wpi_irem, ↓wpi_lrem, ↓wpi_iinc, wp1, wp, wpl, wpi, lget, lput1, lput2, ltail, lkill, aV, aVl, aNth, aPut, aFz, aC0, aC2, aSw, aCat1, aCuts, aSet_eq, List.take, List.drop, List.reverse_cons, List.reverse_nil, List.nil_append, List.cons_append, List.length_cons, List.length_nil, Option.toList, true_and, and_true, Nat.reduceAdd, Nat.reduceEqDiff, Nat.reduceLT, Nat.reduceLeDiff, Nat.zero_add, Nat.add_zero, if_true, if_false, ite_true, ite_false, reduceIte, reduceCtorEq, true_or, or_true, not_true_eq_false, not_false_eq_true, false_and, and_false, true_implies, false_implies, not_false_eq_true, bqX9_divide_0, blX9_divide_0, bqX9_divide_6, blX9_divide_6, bqX9_divide_12, blX9_divide_12, bqX9_divide_17, blX9_divide_17, bqX9_divide_20, blX9_divide_20, bqX9_divide_24, blX9_divide_24, bqX9_divide_31, blX9_divide_31, bqX9_divide_46, blX9_divide_46, bqX9_divide_55, blX9_divide_55, bqX9_divide_58, blX9_divide_58, bqX9_divide_61, blX9_divide_61, bqX9_divide_68, blX9_divide_68, bqX9_divide_90, blX9_divide_90, bqX9_divide_96, blX9_divide_96, e5]
        refine hb.run (aCuts [20] J) 60 90 _ _ _ _ _ _ (aCuts_ok _) ?_
        simp only [↓wpi_isub, ↓wpi_lsub, ↓wpi_ineg, ↓wpi_lneg, ↓wpi_irem, ↓wpi_lrem, ↓wpi_iinc, wp1, wp, wpl, wpi, lget, lput1, lput2, ltail, lkill, aV, aVl, aNth, aPut, aFz, aC0, aC2, aSw, aCat1, aCuts, aSet_eq, List.take, List.drop, List.reverse_cons, List.reverse_nil, List.nil_append, List.cons_append, List.length_cons, List.length_nil, Option.toList, true_and, and_true, Nat.reduceAdd, Nat.reduceEqDiff, Nat.reduceLT, Nat.reduceLeDiff, Nat.zero_add, Nat.add_zero, if_true, if_false, ite_true, ite_false, reduceIte, reduceCtorEq, true_or, or_true, not_true_eq_false, not_false_eq_true, false_and, and_false, true_implies, false_implies, not_false_eq_true, bqX9_divide_0, blX9_divide_0, bqX9_divide_6, blX9_divide_6, bqX9_divide_12, blX9_divide_12, bqX9_divide_17, blX9_divide_17, bqX9_divide_20, blX9_divide_20, bqX9_divide_24, blX9_divide_24, bqX9_divide_31, blX9_divide_31, bqX9_divide_46, blX9_divide_46, bqX9_divide_55, blX9_divide_55, bqX9_divide_58, blX9_divide_58, bqX9_divide_61, blX9_divide_61, bqX9_divide_68, blX9_divide_68, bqX9_divide_90, blX9_divide_90, bqX9_divide_96, blX9_divide_96, iInc_m1]
        refine ih (2 * Qk) (R * 2 + b) _ _ (by omega) ?_ (by omega) ?_
        · rw [hstep, Nat.mul_assoc]; omega
        · rw [show 2 * Qk * 2 ^ k = Qk * 2 ^ (k + 1) by rw [Nat.pow_succ]; grind]; exact h3
  refine hb.run (aCuts [6, 12, 17, 20, 31, 46, 55, 68] J) 60 0 _ _ _ _ _ _ (aCuts_ok _) ?_
  simp only [↓wpi_isub, ↓wpi_lsub, ↓wpi_ineg, ↓wpi_lneg, ↓wpi_irem, ↓wpi_lrem, ↓wpi_iinc, wp1, wp, wpl, wpi, lget, lput1, lput2, ltail, lkill, aV, aVl, aNth, aPut, aFz, aC0, aC2, aSw, aCat1, aCuts, aSet_eq, List.take, List.drop, List.reverse_cons, List.reverse_nil, List.nil_append, List.cons_append, List.length_cons, List.length_nil, Option.toList, true_and, and_true, Nat.reduceAdd, Nat.reduceEqDiff, Nat.reduceLT, Nat.reduceLeDiff, Nat.zero_add, Nat.add_zero, if_true, if_false, ite_true, ite_false, reduceIte, reduceCtorEq, true_or, or_true, not_true_eq_false, not_false_eq_true, false_and, and_false, true_implies, false_implies, not_false_eq_true, bqX9_divide_0, blX9_divide_0, bqX9_divide_6, blX9_divide_6, bqX9_divide_12, blX9_divide_12, bqX9_divide_17, blX9_divide_17, bqX9_divide_20, blX9_divide_20, bqX9_divide_24, blX9_divide_24, bqX9_divide_31, blX9_divide_31, bqX9_divide_46, blX9_divide_46, bqX9_divide_55, blX9_divide_55, bqX9_divide_58, blX9_divide_58, bqX9_divide_61, blX9_divide_61, bqX9_divide_68, blX9_divide_68, bqX9_divide_90, blX9_divide_90, bqX9_divide_96, blX9_divide_96, aArgs, List.replicate]
  refine ⟨_, _, _, _, hb.callV lvX9_36 (m_clear h (x := 6) (by decide)) rfl h.obj (by decide) (by decide) (by decide), ?_, fun _ _ _ h => h.elim⟩
  rintro _ O1 A1 ⟨rfl, h1⟩
  refine hb.run (aCuts [6, 12, 17, 20, 31, 46, 55, 68] J) 60 6 _ _ _ _ _ _ (aCuts_ok _) ?_
  simp only [↓wpi_isub, ↓wpi_lsub, ↓wpi_ineg, ↓wpi_lneg, ↓wpi_irem, ↓wpi_lrem, ↓wpi_iinc, wp1, wp, wpl, wpi, lget, lput1, lput2, ltail, lkill, aV, aVl, aNth, aPut, aFz, aC0, aC2, aSw, aCat1, aCuts, aSet_eq, List.take, List.drop, List.reverse_cons, List.reverse_nil, List.nil_append, List.cons_append, List.length_cons, List.length_nil, Option.toList, true_and, and_true, Nat.reduceAdd, Nat.reduceEqDiff, Nat.reduceLT, Nat.reduceLeDiff, Nat.zero_add, Nat.add_zero, if_true, if_false, ite_true, ite_false, reduceIte, reduceCtorEq, true_or, or_true, not_true_eq_false, not_false_eq_true, false_and, and_false, true_implies, false_implies, not_false_eq_true, bqX9_divide_0, blX9_divide_0, bqX9_divide_6, blX9_divide_6, bqX9_divide_12, blX9_divide_12, bqX9_divide_17, blX9_divide_17, bqX9_divide_20, blX9_divide_20, bqX9_divide_24, blX9_divide_24, bqX9_divide_31, blX9_divide_31, bqX9_divide_46, blX9_divide_46, bqX9_divide_55, blX9_divide_55, bqX9_divide_58, blX9_divide_58, bqX9_divide_61, blX9_divide_61, bqX9_divide_68, blX9_divide_68, bqX9_divide_90, blX9_divide_90, bqX9_divide_96, blX9_divide_96]
  refine ⟨_, _, _, _, hb.callV lvX9_36 (m_clear h1 (x := 7) (by decide)) rfl h1.obj (by decide) (by decide) (by decide), ?_, fun _ _ _ h => h.elim⟩
  rintro _ O2 A2 ⟨rfl, h2⟩
  refine hb.run (aCuts [6, 12, 17, 20, 31, 46, 55, 68] J) 60 12 _ _ _ _ _ _ (aCuts_ok _) ?_
  simp only [↓wpi_isub, ↓wpi_lsub, ↓wpi_ineg, ↓wpi_lneg, ↓wpi_irem, ↓wpi_lrem, ↓wpi_iinc, wp1, wp, wpl, wpi, lget, lput1, lput2, ltail, lkill, aV, aVl, aNth, aPut, aFz, aC0, aC2, aSw, aCat1, aCuts, aSet_eq, List.take, List.drop, List.reverse_cons, List.reverse_nil, List.nil_append, List.cons_append, List.length_cons, List.length_nil, Option.toList, true_and, and_true, Nat.reduceAdd, Nat.reduceEqDiff, Nat.reduceLT, Nat.reduceLeDiff, Nat.zero_add, Nat.add_zero, if_true, if_false, ite_true, ite_false, reduceIte, reduceCtorEq, true_or, or_true, not_true_eq_false, not_false_eq_true, false_and, and_false, true_implies, false_implies, not_false_eq_true, bqX9_divide_0, blX9_divide_0, bqX9_divide_6, blX9_divide_6, bqX9_divide_12, blX9_divide_12, bqX9_divide_17, blX9_divide_17, bqX9_divide_20, blX9_divide_20, bqX9_divide_24, blX9_divide_24, bqX9_divide_31, blX9_divide_31, bqX9_divide_46, blX9_divide_46, bqX9_divide_55, blX9_divide_55, bqX9_divide_58, blX9_divide_58, bqX9_divide_61, blX9_divide_61, bqX9_divide_68, blX9_divide_68, bqX9_divide_90, blX9_divide_90, bqX9_divide_96, blX9_divide_96]
  refine ⟨_, _, _, _, hb.callV lvX9_54 (m_length h2 (x := x) hx) rfl h2.obj (by decide) (by decide) (by decide), ?_, fun _ _ _ h => h.elim⟩
  rintro _ O2 A2 ⟨rfl, rfl, rfl⟩
  rw [rU_ne hx7, rU_ne hx6, ← hX]
  show J 17 _ [.int (nI (blen X))] _ _ 0 0
  refine hb.run (aCuts [6, 12, 17, 20, 31, 46, 55, 68] J) 60 17 _ _ _ _ _ _ (aCuts_ok _) ?_
  simp only [↓wpi_isub, ↓wpi_lsub, ↓wpi_ineg, ↓wpi_lneg, ↓wpi_irem, ↓wpi_lrem, ↓wpi_iinc, wp1, wp, wpl, wpi, lget, lput1, lput2, ltail, lkill, aV, aVl, aNth, aPut, aFz, aC0, aC2, aSw, aCat1, aCuts, aSet_eq, List.take, List.drop, List.reverse_cons, List.reverse_nil, List.nil_append, List.cons_append, List.length_cons, List.length_nil, Option.toList, true_and, and_true, Nat.reduceAdd, Nat.reduceEqDiff, Nat.reduceLT, Nat.reduceLeDiff, Nat.zero_add, Nat.add_zero, if_true, if_false, ite_true, ite_false, reduceIte, reduceCtorEq, true_or, or_true, not_true_eq_false, not_false_eq_true, false_and, and_false, true_implies, false_implies, not_false_eq_true, bqX9_divide_0, blX9_divide_0, bqX9_divide_6, blX9_divide_6, bqX9_divide_12, blX9_divide_12, bqX9_divide_17, blX9_divide_17, bqX9_divide_20, blX9_divide_20, bqX9_divide_24, blX9_divide_24, bqX9_divide_31, blX9_divide_31, bqX9_divide_46, blX9_divide_46, bqX9_divide_55, blX9_divide_55, bqX9_divide_58, blX9_divide_58, bqX9_divide_61, blX9_divide_61, bqX9_divide_68, blX9_divide_68, bqX9_divide_90, blX9_divide_90, bqX9_divide_96, blX9_divide_96]
  have hbl : blen X ≤ 1280 := blen_lt hX12
  have hXb : X < 2 ^ blen X := by
    by_cases e : X = 0
    · rw [e]; exact Nat.two_pow_pos _
    · exact (blen_pos e).2.1
  refine loop (blen X) 0 0 _ _ hbl (by rw [Nat.div_eq_of_lt hXb]; omega) h0 ?_
  rw [Nat.zero_mul]; exact h2
end MD2
