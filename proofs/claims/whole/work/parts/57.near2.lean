/-! ===== Storage: the nearest floating number, its bits ===== -/
section NEAR2
variable {l : Launch} {G : aG} {base tA : Nat} {Z ρ : Nat → Nat} {sg : Nat → Bool} {N : aN} {O0 O : aO} {A0 A : aA} {k f : Nat}
set_option maxHeartbeats 8000000 in
theorem w_roundOff (h : cW tA Z ρ sg N O0 A0 O A) {e : Nat} (he : e = 1 ∨ e = 2) (hw : ρ 11 < 2 ^ 60) : aMet l G base tA yX6_roundOff cX6_roundOff 11 (some .long) rmA [.ref (Z 35), .int (nI e)] O A (fun r O' A' => r = some (.long (lN (nK (ρ 11) (ρ 12) e))) ∧ cW tA Z ρ (bU sg 3 (nXa (ρ 11) (ρ 12) e)) N O0 A0 O' A') := by
  refine aMet_of (ini := false) (B := aLook bkX6_roundOff) (by decide) (fun h => by first | rfl | cases h) (Nat.le_of_ble_eq_true rfl) boX6_roundOff ?_
  intro E J hb
  obtain ⟨w, ew⟩ : ∃ w, w = ρ 11 := ⟨_, rfl⟩
  obtain ⟨r, er⟩ : ∃ r, r = ρ 12 := ⟨_, rfl⟩
  rw [← ew, ← er] at hb
  rw [← ew] at hw
  obtain ⟨T, hT⟩ : ∃ T, T = w % 2 ^ e := ⟨_, rfl⟩
  obtain ⟨K, hK⟩ : ∃ K, K = w / 2 ^ e := ⟨_, rfl⟩
  obtain ⟨M, hM⟩ : ∃ M, M = 2 ^ (e - 1) := ⟨_, rfl⟩
  have hM2 : 0 < M ∧ M < 4 := by rw [hM]; rcases he with rfl | rfl <;> decide
  have hT4 : T < 4 := by rw [hT]; rcases he with rfl | rfl <;> omega
  have hKw : K ≤ w := by rw [hK]; exact Nat.div_le_self _ _
  have hWK : w = K * 2 ^ e + T := by rw [hK, hT, Nat.mul_comm]; exact (Nat.div_add_mod w (2 ^ e)).symm
  have x0 : lN w >>> ((nI e).toInt64 &&& 63) = lN K := by rw [hK]; exact lN_sar3 (by omega) (by omega)
  have x1 : lN K <<< ((nI e).toInt64 &&& 63) = lN (K * 2 ^ e) := wb_shl K (by omega)
  have x2 : lSub (lN w) (lN (K * 2 ^ e)) = lN T := by rw [lSub_nn (by omega)]; congr 1; omega
  have x3 : iSub (nI e) (nI 1) = nI (e - 1) := iSub_nn (by omega)
  have x4 : lN 1 <<< ((nI (e - 1)).toInt64 &&& 63) = lN M := by rw [wb_shl 1 (by omega), Nat.one_mul, hM]
  have x5 : lN K &&& lN 1 = lN (K % 2) := g_mask (s := 1) (p := 2) rfl (by decide) (by omega)
  have kK : nK w r e = if M < T ∨ (T = M ∧ (r ≠ 0 ∨ K % 2 = 1)) then K + 1 else K := by unfold nK; rw [hM, hT, hK]
  have kX : nXa w r e = decide (T = 0 ∧ r = 0) := by unfold nXa; rw [hT]
  rw [kK, kX] at hb
  -- the last step
  have fin : ∀ {b : Bool} {O1 : aO} {A1 : aA}, b = decide (M < T ∨ (T = M ∧ (r ≠ 0 ∨ K % 2 = 1))) → cW tA Z ρ (bU sg 3 (decide (T = 0 ∧ r = 0))) N O0 A0 O1 A1 → J 94 [some (.ref (Z 35)), some (.int (nI e)), some (.long (lN w)), none, some (.long (lN K)), none, some (.long (lN T)), none, some (.long (lN M)), none, none] [.int (bI b)] O1 A1 0 0 := by
    intro b O1 A1 hbb h1
    refine hb.run (aCuts [7, 43, 77] J) 60 94 _ _ _ _ _ _ (aCuts_ok _) ?_
    by_cases hc : M < T ∨ (T = M ∧ (r ≠ 0 ∨ K % 2 = 1))
    · rw [hbb]
      simp only [↓wpi_isub, ↓wpi_lsub, ↓wpi_ineg, ↓wpi_lneg, ↓wpi_irem, ↓wpi_lrem, ↓wpi_iinc, wp1, wp, wpl, wpi, lget, lput1, lput2, ltail, lkill, aV, aVl, aNth, aPut, aFz, aC0, aC2, aSw, aCat1, aCuts, aSet_eq, List.take, List.drop, List.reverse_cons, List.reverse_nil, List.nil_append, List.cons_append, List.length_cons, List.length_nil, Option.toList, true_and, and_true, Nat.reduceAdd, Nat.reduceEqDiff, Nat.reduceLT, Nat.reduceLeDiff, Nat.zero_add, Nat.add_zero, if_true, if_false, ite_true, ite_false, reduceIte, reduceCtorEq, true_or, or_true, not_true_eq_false, not_false_eq_true, false_and, and_false, true_implies, false_implies, not_false_eq_true, bqX6_roundOff_0, blX6_roundOff_0, bqX6_roundOff_7, blX6_roundOff_7, bqX6_roundOff_36, blX6_roundOff_36, bqX6_roundOff_43, blX6_roundOff_43, bqX6_roundOff_46, blX6_roundOff_46, bqX6_roundOff_50, blX6_roundOff_50, bqX6_roundOff_51, blX6_roundOff_51, bqX6_roundOff_62, blX6_roundOff_62, bqX6_roundOff_70, blX6_roundOff_70, bqX6_roundOff_77, blX6_roundOff_77, bqX6_roundOff_80, blX6_roundOff_80, bqX6_roundOff_89, blX6_roundOff_89, bqX6_roundOff_93, blX6_roundOff_93, bqX6_roundOff_94, blX6_roundOff_94, bqX6_roundOff_101, blX6_roundOff_101, bqX6_roundOff_108, blX6_roundOff_108, bqX6_roundOff_110, blX6_roundOff_110, bI_T hc, n1_0, lN_add]
      exact hb.lret ⟨by rw [if_pos hc], h1⟩ (by decide) (by decide)
    · rw [hbb]
      simp only [↓wpi_isub, ↓wpi_lsub, ↓wpi_ineg, ↓wpi_lneg, ↓wpi_irem, ↓wpi_lrem, ↓wpi_iinc, wp1, wp, wpl, wpi, lget, lput1, lput2, ltail, lkill, aV, aVl, aNth, aPut, aFz, aC0, aC2, aSw, aCat1, aCuts, aSet_eq, List.take, List.drop, List.reverse_cons, List.reverse_nil, List.nil_append, List.cons_append, List.length_cons, List.length_nil, Option.toList, true_and, and_true, Nat.reduceAdd, Nat.reduceEqDiff, Nat.reduceLT, Nat.reduceLeDiff, Nat.zero_add, Nat.add_zero, if_true, if_false, ite_true, ite_false, reduceIte, reduceCtorEq, true_or, or_true, not_true_eq_false, not_false_eq_true, false_and, and_false, true_implies, false_implies, not_false_eq_true, bqX6_roundOff_0, blX6_roundOff_0, bqX6_roundOff_7, blX6_roundOff_7, bqX6_roundOff_36, blX6_roundOff_36, bqX6_roundOff_43, blX6_roundOff_43, bqX6_roundOff_46, blX6_roundOff_46, bqX6_roundOff_50, blX6_roundOff_50, bqX6_roundOff_51, blX6_roundOff_51, bqX6_roundOff_62, blX6_roundOff_62, bqX6_roundOff_70, blX6_roundOff_70, bqX6_roundOff_77, blX6_roundOff_77, bqX6_roundOff_80, blX6_roundOff_80, bqX6_roundOff_89, blX6_roundOff_89, bqX6_roundOff_93, blX6_roundOff_93, bqX6_roundOff_94, blX6_roundOff_94, bqX6_roundOff_101, blX6_roundOff_101, bqX6_roundOff_108, blX6_roundOff_108, bqX6_roundOff_110, blX6_roundOff_110, bI_F hc, n0_0]
      exact hb.lret ⟨by rw [if_neg hc], h1⟩ (by decide) (by decide)
  -- behind the flag
  have mid : ∀ {b : Bool}, b = decide (T = 0 ∧ r = 0) → J 51 [some (.ref (Z 35)), some (.int (nI e)), some (.long (lN w)), none, some (.long (lN K)), none, some (.long (lN T)), none, some (.long (lN M)), none, none] [.int (bI b), .ref (Z 35)] O A 0 0 := by
    intro b hbb
    have h1 := h.exa (b := b)
    rw [hbb] at h1
    refine hb.run (aCuts [77, 94] J) 60 51 _ _ _ _ _ _ (aCuts_ok _) ?_
    rw [hbb]
    simp only [↓wpi_isub, ↓wpi_lsub, ↓wpi_ineg, ↓wpi_lneg, ↓wpi_irem, ↓wpi_lrem, ↓wpi_iinc, wp1, wp, wpl, wpi, lget, lput1, lput2, ltail, lkill, aV, aVl, aNth, aPut, aFz, aC0, aC2, aSw, aCat1, aCuts, aSet_eq, List.take, List.drop, List.reverse_cons, List.reverse_nil, List.nil_append, List.cons_append, List.length_cons, List.length_nil, Option.toList, true_and, and_true, Nat.reduceAdd, Nat.reduceEqDiff, Nat.reduceLT, Nat.reduceLeDiff, Nat.zero_add, Nat.add_zero, if_true, if_false, ite_true, ite_false, reduceIte, reduceCtorEq, true_or, or_true, not_true_eq_false, not_false_eq_true, false_and, and_false, true_implies, false_implies, not_false_eq_true, bqX6_roundOff_0, blX6_roundOff_0, bqX6_roundOff_7, blX6_roundOff_7, bqX6_roundOff_36, blX6_roundOff_36, bqX6_roundOff_43, blX6_roundOff_43, bqX6_roundOff_46, blX6_roundOff_46, bqX6_roundOff_50, blX6_roundOff_50, bqX6_roundOff_51, blX6_roundOff_51, bqX6_roundOff_62, blX6_roundOff_62, bqX6_roundOff_70, blX6_roundOff_70, bqX6_roundOff_77, blX6_roundOff_77, bqX6_roundOff_80, blX6_roundOff_80, bqX6_roundOff_89, blX6_roundOff_89, bqX6_roundOff_93, blX6_roundOff_93, bqX6_roundOff_94, blX6_roundOff_94, bqX6_roundOff_101, blX6_roundOff_101, bqX6_roundOff_108, blX6_roundOff_108, bqX6_roundOff_110, blX6_roundOff_110, h.sto, bI_fz, cmp_gt (show T < 2 ^ 63 by omega) (show M < 2 ^ 63 by omega), cmp_eq (show T < 2 ^ 63 by omega) (show M < 2 ^ 63 by omega)]
    refine ⟨fun q => fin (b := true) (by simp; omega) h1, fun q => ⟨fun q2 => fin (b := false) (by simp; omega) h1, fun q2 => ?_⟩⟩
    refine ⟨_, _, _, _, hb.callW lvX6_52 (w_isZero h1 (i := 12) (by decide)) rfl (h1.rO (by decide)) (by decide) (by decide) (by decide), ?_, fun _ _ _ h => h.elim⟩
    rintro _ O1 A1 ⟨rfl, rfl, rfl⟩
    rw [← er]
    refine hb.run (aCuts [94] J) 60 77 _ _ _ _ _ _ (aCuts_ok _) ?_
    by_cases hz : r = 0
    · simp only [↓wpi_isub, ↓wpi_lsub, ↓wpi_ineg, ↓wpi_lneg, ↓wpi_irem, ↓wpi_lrem, ↓wpi_iinc, wp1, wp, wpl, wpi, lget, lput1, lput2, ltail, lkill, aV, aVl, aNth, aPut, aFz, aC0, aC2, aSw, aCat1, aCuts, aSet_eq, List.take, List.drop, List.reverse_cons, List.reverse_nil, List.nil_append, List.cons_append, List.length_cons, List.length_nil, Option.toList, true_and, and_true, Nat.reduceAdd, Nat.reduceEqDiff, Nat.reduceLT, Nat.reduceLeDiff, Nat.zero_add, Nat.add_zero, if_true, if_false, ite_true, ite_false, reduceIte, reduceCtorEq, true_or, or_true, not_true_eq_false, not_false_eq_true, false_and, and_false, true_implies, false_implies, not_false_eq_true, bqX6_roundOff_0, blX6_roundOff_0, bqX6_roundOff_7, blX6_roundOff_7, bqX6_roundOff_36, blX6_roundOff_36, bqX6_roundOff_43, blX6_roundOff_43, bqX6_roundOff_46, blX6_roundOff_46, bqX6_roundOff_50, blX6_roundOff_50, bqX6_roundOff_51, blX6_roundOff_51, bqX6_roundOff_62, blX6_roundOff_62, bqX6_roundOff_70, blX6_roundOff_70, bqX6_roundOff_77, blX6_roundOff_77, bqX6_roundOff_80, blX6_roundOff_80, bqX6_roundOff_89, blX6_roundOff_89, bqX6_roundOff_93, blX6_roundOff_93, bqX6_roundOff_94, blX6_roundOff_94, bqX6_roundOff_101, blX6_roundOff_101, bqX6_roundOff_108, blX6_roundOff_108, bqX6_roundOff_110, blX6_roundOff_110, bI_T hz, n1_0, x5, cmp_eq (show K % 2 < 2 ^ 63 by omega) (show 1 < 2 ^ 63 by decide)]
      exact ⟨fun q3 => fin (b := false) (by simp [hz]; omega) h1, fun q3 => fin (b := true) (by simp [hz]; omega) h1⟩
    · simp only [↓wpi_isub, ↓wpi_lsub, ↓wpi_ineg, ↓wpi_lneg, ↓wpi_irem, ↓wpi_lrem, ↓wpi_iinc, wp1, wp, wpl, wpi, lget, lput1, lput2, ltail, lkill, aV, aVl, aNth, aPut, aFz, aC0, aC2, aSw, aCat1, aCuts, aSet_eq, List.take, List.drop, List.reverse_cons, List.reverse_nil, List.nil_append, List.cons_append, List.length_cons, List.length_nil, Option.toList, true_and, and_true, Nat.reduceAdd, Nat.reduceEqDiff, Nat.reduceLT, Nat.reduceLeDiff, Nat.zero_add, Nat.add_zero, if_true, if_false, ite_true, ite_false, reduceIte, reduceCtorEq, true_or, or_true, not_true_eq_false, not_false_eq_true, false_and, and_false, true_implies, false_implies, not_false_eq_true, bqX6_roundOff_0, blX6_roundOff_0, bqX6_roundOff_7, blX6_roundOff_7, bqX6_roundOff_36, blX6_roundOff_36, bqX6_roundOff_43, blX6_roundOff_43, bqX6_roundOff_46, blX6_roundOff_46, bqX6_roundOff_50, blX6_roundOff_50, bqX6_roundOff_51, blX6_roundOff_51, bqX6_roundOff_62, blX6_roundOff_62, bqX6_roundOff_70, blX6_roundOff_70, bqX6_roundOff_77, blX6_roundOff_77, bqX6_roundOff_80, blX6_roundOff_80, bqX6_roundOff_89, blX6_roundOff_89, bqX6_roundOff_93, blX6_roundOff_93, bqX6_roundOff_94, blX6_roundOff_94, bqX6_roundOff_101, blX6_roundOff_101, bqX6_roundOff_108, blX6_roundOff_108, bqX6_roundOff_110, blX6_roundOff_110, bI_F hz, n0_0]
      exact fin (b := true) (by simp [hz]; omega) h1
  refine hb.run (aCuts [7, 43, 77] J) 60 0 _ _ _ _ _ _ (aCuts_ok _) ?_
  simp only [↓wpi_isub, ↓wpi_lsub, ↓wpi_ineg, ↓wpi_lneg, ↓wpi_irem, ↓wpi_lrem, ↓wpi_iinc, wp1, wp, wpl, wpi, lget, lput1, lput2, ltail, lkill, aV, aVl, aNth, aPut, aFz, aC0, aC2, aSw, aCat1, aCuts, aSet_eq, List.take, List.drop, List.reverse_cons, List.reverse_nil, List.nil_append, List.cons_append, List.length_cons, List.length_nil, Option.toList, true_and, and_true, Nat.reduceAdd, Nat.reduceEqDiff, Nat.reduceLT, Nat.reduceLeDiff, Nat.zero_add, Nat.add_zero, if_true, if_false, ite_true, ite_false, reduceIte, reduceCtorEq, true_or, or_true, not_true_eq_false, not_false_eq_true, false_and, and_false, true_implies, false_implies, not_false_eq_true, bqX6_roundOff_0, blX6_roundOff_0, bqX6_roundOff_7, blX6_roundOff_7, bqX6_roundOff_36, blX6_roundOff_36, bqX6_roundOff_43, blX6_roundOff_43, bqX6_roundOff_46, blX6_roundOff_46, bqX6_roundOff_50, blX6_roundOff_50, bqX6_roundOff_51, blX6_roundOff_51, bqX6_roundOff_62, blX6_roundOff_62, bqX6_roundOff_70, blX6_roundOff_70, bqX6_roundOff_77, blX6_roundOff_77, bqX6_roundOff_80, blX6_roundOff_80, bqX6_roundOff_89, blX6_roundOff_89, bqX6_roundOff_93, blX6_roundOff_93, bqX6_roundOff_94, blX6_roundOff_94, bqX6_roundOff_101, blX6_roundOff_101, bqX6_roundOff_108, blX6_roundOff_108, bqX6_roundOff_110, blX6_roundOff_110, aArgs, List.replicate, h.sto]
  refine ⟨_, _, _, _, hb.callW lvX6_176 (w_lowBits h (i := 11) (by decide)) rfl (h.rO (by decide)) (by decide) (by decide) (by decide), ?_, fun _ _ _ h => h.elim⟩
  rintro _ O A ⟨rfl, rfl, rfl⟩
  rw [← ew]
  refine hb.run (aCuts [43, 51] J) 60 7 _ _ _ _ _ _ (aCuts_ok _) ?_
  simp only [↓wpi_isub, ↓wpi_lsub, ↓wpi_ineg, ↓wpi_lneg, ↓wpi_irem, ↓wpi_lrem, ↓wpi_iinc, wp1, wp, wpl, wpi, lget, lput1, lput2, ltail, lkill, aV, aVl, aNth, aPut, aFz, aC0, aC2, aSw, aCat1, aCuts, aSet_eq, List.take, List.drop, List.reverse_cons, List.reverse_nil, List.nil_append, List.cons_append, List.length_cons, List.length_nil, Option.toList, true_and, and_true, Nat.reduceAdd, Nat.reduceEqDiff, Nat.reduceLT, Nat.reduceLeDiff, Nat.zero_add, Nat.add_zero, if_true, if_false, ite_true, ite_false, reduceIte, reduceCtorEq, true_or, or_true, not_true_eq_false, not_false_eq_true, false_and, and_false, true_implies, false_implies, not_false_eq_true, bqX6_roundOff_0, blX6_roundOff_0, bqX6_roundOff_7, blX6_roundOff_7, bqX6_roundOff_36, blX6_roundOff_36, bqX6_roundOff_43, blX6_roundOff_43, bqX6_roundOff_46, blX6_roundOff_46, bqX6_roundOff_50, blX6_roundOff_50, bqX6_roundOff_51, blX6_roundOff_51, bqX6_roundOff_62, blX6_roundOff_62, bqX6_roundOff_70, blX6_roundOff_70, bqX6_roundOff_77, blX6_roundOff_77, bqX6_roundOff_80, blX6_roundOff_80, bqX6_roundOff_89, blX6_roundOff_89, bqX6_roundOff_93, blX6_roundOff_93, bqX6_roundOff_94, blX6_roundOff_94, bqX6_roundOff_101, blX6_roundOff_101, bqX6_roundOff_108, blX6_roundOff_108, bqX6_roundOff_110, blX6_roundOff_110, h.sto, x0, x1, x2, x3, x4, cmp_eq (show T < 2 ^ 63 by omega) (show 0 < 2 ^ 63 by decide)]
  refine ⟨fun q => mid (b := false) (by simp; omega), fun q => ?_⟩
  refine ⟨_, _, _, _, hb.callW lvX6_52 (w_isZero h (i := 12) (by decide)) rfl (h.rO (by decide)) (by decide) (by decide) (by decide), ?_, fun _ _ _ h => h.elim⟩
  rintro _ O A ⟨rfl, rfl, rfl⟩
  rw [← er]
  refine hb.run (aCuts [51] J) 60 43 _ _ _ _ _ _ (aCuts_ok _) ?_
  by_cases hz : r = 0
  · simp only [↓wpi_isub, ↓wpi_lsub, ↓wpi_ineg, ↓wpi_lneg, ↓wpi_irem, ↓wpi_lrem, ↓wpi_iinc, wp1, wp, wpl, wpi, lget, lput1, lput2, ltail, lkill, aV, aVl, aNth, aPut, aFz, aC0, aC2, aSw, aCat1, aCuts, aSet_eq, List.take, List.drop, List.reverse_cons, List.reverse_nil, List.nil_append, List.cons_append, List.length_cons, List.length_nil, Option.toList, true_and, and_true, Nat.reduceAdd, Nat.reduceEqDiff, Nat.reduceLT, Nat.reduceLeDiff, Nat.zero_add, Nat.add_zero, if_true, if_false, ite_true, ite_false, reduceIte, reduceCtorEq, true_or, or_true, not_true_eq_false, not_false_eq_true, false_and, and_false, true_implies, false_implies, not_false_eq_true, bqX6_roundOff_0, blX6_roundOff_0, bqX6_roundOff_7, blX6_roundOff_7, bqX6_roundOff_36, blX6_roundOff_36, bqX6_roundOff_43, blX6_roundOff_43, bqX6_roundOff_46, blX6_roundOff_46, bqX6_roundOff_50, blX6_roundOff_50, bqX6_roundOff_51, blX6_roundOff_51, bqX6_roundOff_62, blX6_roundOff_62, bqX6_roundOff_70, blX6_roundOff_70, bqX6_roundOff_77, blX6_roundOff_77, bqX6_roundOff_80, blX6_roundOff_80, bqX6_roundOff_89, blX6_roundOff_89, bqX6_roundOff_93, blX6_roundOff_93, bqX6_roundOff_94, blX6_roundOff_94, bqX6_roundOff_101, blX6_roundOff_101, bqX6_roundOff_108, blX6_roundOff_108, bqX6_roundOff_110, blX6_roundOff_110, bI_T hz, n1_0]
    exact mid (b := true) (by simp [hz]; omega)
  · simp only [↓wpi_isub, ↓wpi_lsub, ↓wpi_ineg, ↓wpi_lneg, ↓wpi_irem, ↓wpi_lrem, ↓wpi_iinc, wp1, wp, wpl, wpi, lget, lput1, lput2, ltail, lkill, aV, aVl, aNth, aPut, aFz, aC0, aC2, aSw, aCat1, aCuts, aSet_eq, List.take, List.drop, List.reverse_cons, List.reverse_nil, List.nil_append, List.cons_append, List.length_cons, List.length_nil, Option.toList, true_and, and_true, Nat.reduceAdd, Nat.reduceEqDiff, Nat.reduceLT, Nat.reduceLeDiff, Nat.zero_add, Nat.add_zero, if_true, if_false, ite_true, ite_false, reduceIte, reduceCtorEq, true_or, or_true, not_true_eq_false, not_false_eq_true, false_and, and_false, true_implies, false_implies, not_false_eq_true, bqX6_roundOff_0, blX6_roundOff_0, bqX6_roundOff_7, blX6_roundOff_7, bqX6_roundOff_36, blX6_roundOff_36, bqX6_roundOff_43, blX6_roundOff_43, bqX6_roundOff_46, blX6_roundOff_46, bqX6_roundOff_50, blX6_roundOff_50, bqX6_roundOff_51, blX6_roundOff_51, bqX6_roundOff_62, blX6_roundOff_62, bqX6_roundOff_70, blX6_roundOff_70, bqX6_roundOff_77, blX6_roundOff_77, bqX6_roundOff_80, blX6_roundOff_80, bqX6_roundOff_89, blX6_roundOff_89, bqX6_roundOff_93, blX6_roundOff_93, bqX6_roundOff_94, blX6_roundOff_94, bqX6_roundOff_101, blX6_roundOff_101, bqX6_roundOff_108, blX6_roundOff_108, bqX6_roundOff_110, blX6_roundOff_110, bI_F hz, n0_0]
    exact mid (b := false) (by simp [hz])
theorem lZ_addN (z : Int) (n : Nat) : lZ z + lN n = lZ (z + n) := by rw [lN_Z, lZ_add]
theorem lSub_ZN (z : Int) (n : Nat) : lSub (lZ z) (lN n) = lZ (z - n) := by rw [lN_Z, lSub_Z]
set_option maxHeartbeats 8000000 in
theorem w_nearest (h : cW tA Z ρ sg N O0 A0 O A) (hf : f < 3) (hk : k < N 0 0) (hu : N 1 k = 9 ∨ N 1 k = 10) (hy : ρ (2 * f + 1) ≠ 0) (hBx : ρ (2 * f) < 2 ^ 400) (hBy : ρ (2 * f + 1) < 2 ^ 400) : aMet l G base tA yX6_nearest cX6_nearest 10 (some .long) { frames := 5, cells := 0, slots := 0, locals := 145 } [.ref (Z 35), .ref (Z (40 + 2 * k)), .ref (Z (30 + f))] O A (fun r O' A' => ∃ ρ' b, cW tA Z ρ' (bU sg 3 b) N O0 A0 O' A' ∧ (∀ i, i < 11 → ρ' i = ρ i) ∧ ((nRes (N 1 k) (ρ (2 * f)) (ρ (2 * f + 1)) = none ∧ r = some (.long (-lN 1))) ∨ ∃ w, w < fEnd (N 1 k) ∧ nRes (N 1 k) (ρ (2 * f)) (ρ (2 * f + 1)) = some (w, b) ∧ r = some (.long (lN w)))) := by
  refine aMet_of (ini := false) (B := aLook bkX6_nearest) (by decide) (fun h => by first | rfl | cases h) (Nat.le_of_ble_eq_true rfl) boX6_nearest ?_
  intro E J hb
  obtain ⟨b1, b2, b3, b4, b5, b6⟩ := h.bnd hk
  obtain ⟨x, ex⟩ : ∃ x, x = ρ (2 * f) := ⟨_, rfl⟩
  obtain ⟨y, ey⟩ : ∃ y, y = ρ (2 * f + 1) := ⟨_, rfl⟩
  rw [← ex, ← ey] at hb
  refine hb.run (aCuts [8, 24, 33, 42, 59, 75, 90, 103] J) 60 0 _ _ _ _ _ _ (aCuts_ok _) ?_
  simp only [↓wpi_isub, ↓wpi_lsub, ↓wpi_ineg, ↓wpi_lneg, ↓wpi_irem, ↓wpi_lrem, ↓wpi_iinc, wp1, wp, wpl, wpi, lget, lput1, lput2, ltail, lkill, aV, aVl, aNth, aPut, aFz, aC0, aC2, aSw, aCat1, aCuts, aSet_eq, List.take, List.drop, List.reverse_cons, List.reverse_nil, List.nil_append, List.cons_append, List.length_cons, List.length_nil, Option.toList, true_and, and_true, Nat.reduceAdd, Nat.reduceEqDiff, Nat.reduceLT, Nat.reduceLeDiff, Nat.zero_add, Nat.add_zero, if_true, if_false, ite_true, ite_false, reduceIte, reduceCtorEq, true_or, or_true, not_true_eq_false, not_false_eq_true, false_and, and_false, true_implies, false_implies, not_false_eq_true, bqX6_nearest_0, blX6_nearest_0, bqX6_nearest_8, blX6_nearest_8, bqX6_nearest_18, blX6_nearest_18, bqX6_nearest_20, blX6_nearest_20, bqX6_nearest_24, blX6_nearest_24, bqX6_nearest_33, blX6_nearest_33, bqX6_nearest_42, blX6_nearest_42, bqX6_nearest_59, blX6_nearest_59, bqX6_nearest_75, blX6_nearest_75, bqX6_nearest_90, blX6_nearest_90, bqX6_nearest_93, blX6_nearest_93, bqX6_nearest_97, blX6_nearest_97, bqX6_nearest_103, blX6_nearest_103, bqX6_nearest_106, blX6_nearest_106, bqX6_nearest_113, blX6_nearest_113, aArgs, List.replicate, h.frac hf]
  refine ⟨_, _, _, _, hb.callW lvX6_52 (w_isZero h (i := 2 * f) (by omega)) rfl (h.rO (by omega)) (by decide) (by decide) (by decide), ?_, fun _ _ _ h => h.elim⟩
  rintro _ O A ⟨rfl, rfl, rfl⟩
  rw [← ex]
  have hend : 0 < fEnd (N 1 k) := by unfold fEnd; split <;> decide
  refine hb.run (aCuts [8, 24, 33, 42, 59, 75, 90, 103] J) 60 8 _ _ _ _ _ _ (aCuts_ok _) ?_
  by_cases hx : x = 0
  · have h1 := h.exa (b := true)
    simp only [↓wpi_isub, ↓wpi_lsub, ↓wpi_ineg, ↓wpi_lneg, ↓wpi_irem, ↓wpi_lrem, ↓wpi_iinc, wp1, wp, wpl, wpi, lget, lput1, lput2, ltail, lkill, aV, aVl, aNth, aPut, aFz, aC0, aC2, aSw, aCat1, aCuts, aSet_eq, List.take, List.drop, List.reverse_cons, List.reverse_nil, List.nil_append, List.cons_append, List.length_cons, List.length_nil, Option.toList, true_and, and_true, Nat.reduceAdd, Nat.reduceEqDiff, Nat.reduceLT, Nat.reduceLeDiff, Nat.zero_add, Nat.add_zero, if_true, if_false, ite_true, ite_false, reduceIte, reduceCtorEq, true_or, or_true, not_true_eq_false, not_false_eq_true, false_and, and_false, true_implies, false_implies, not_false_eq_true, bqX6_nearest_0, blX6_nearest_0, bqX6_nearest_8, blX6_nearest_8, bqX6_nearest_18, blX6_nearest_18, bqX6_nearest_20, blX6_nearest_20, bqX6_nearest_24, blX6_nearest_24, bqX6_nearest_33, blX6_nearest_33, bqX6_nearest_42, blX6_nearest_42, bqX6_nearest_59, blX6_nearest_59, bqX6_nearest_75, blX6_nearest_75, bqX6_nearest_90, blX6_nearest_90, bqX6_nearest_93, blX6_nearest_93, bqX6_nearest_97, blX6_nearest_97, bqX6_nearest_103, blX6_nearest_103, bqX6_nearest_106, blX6_nearest_106, bqX6_nearest_113, blX6_nearest_113, bI_T hx, h.sto, n1_0, n1_1]
    refine hb.lret ⟨ρ, true, h1, fun _ _ => rfl, Or.inr ⟨0, hend, ?_, rfl⟩⟩ (by decide) (by decide)
    unfold nRes; rw [if_pos hx]
  · have h1 := h.exa (b := false)
    obtain ⟨p, hp⟩ : ∃ p, p = fPrec (N 1 k) := ⟨_, rfl⟩
    have hp2 : p ≤ 53 ∧ 24 ≤ p := by rw [hp]; unfold fPrec; split <;> decide
    have hbs : fBias (N 1 k) ≤ 1023 := by unfold fBias; split <;> decide
    obtain ⟨B, hB⟩ : ∃ B, B = fBias (N 1 k) := ⟨_, rfl⟩
    rw [← hB] at hbs
    simp only [↓wpi_isub, ↓wpi_lsub, ↓wpi_ineg, ↓wpi_lneg, ↓wpi_irem, ↓wpi_lrem, ↓wpi_iinc, wp1, wp, wpl, wpi, lget, lput1, lput2, ltail, lkill, aV, aVl, aNth, aPut, aFz, aC0, aC2, aSw, aCat1, aCuts, aSet_eq, List.take, List.drop, List.reverse_cons, List.reverse_nil, List.nil_append, List.cons_append, List.length_cons, List.length_nil, Option.toList, true_and, and_true, Nat.reduceAdd, Nat.reduceEqDiff, Nat.reduceLT, Nat.reduceLeDiff, Nat.zero_add, Nat.add_zero, if_true, if_false, ite_true, ite_false, reduceIte, reduceCtorEq, true_or, or_true, not_true_eq_false, not_false_eq_true, false_and, and_false, true_implies, false_implies, not_false_eq_true, bqX6_nearest_0, blX6_nearest_0, bqX6_nearest_8, blX6_nearest_8, bqX6_nearest_18, blX6_nearest_18, bqX6_nearest_20, blX6_nearest_20, bqX6_nearest_24, blX6_nearest_24, bqX6_nearest_33, blX6_nearest_33, bqX6_nearest_42, blX6_nearest_42, bqX6_nearest_59, blX6_nearest_59, bqX6_nearest_75, blX6_nearest_75, bqX6_nearest_90, blX6_nearest_90, bqX6_nearest_93, blX6_nearest_93, bqX6_nearest_97, blX6_nearest_97, bqX6_nearest_103, blX6_nearest_103, bqX6_nearest_106, blX6_nearest_106, bqX6_nearest_113, blX6_nearest_113, bI_F hx, h.sto, n0_0]
    refine ⟨_, _, _, _, hb.callS lsX6_142 (ct_X1_precision (h1.num hk) b1) rfl (by decide) (by decide) (by decide), ?_, fun _ _ _ h => h.elim⟩
    rintro _ O1 A1 ⟨rfl, e1, e2⟩
    have h1 : cW tA Z ρ (bU sg 3 false) N O0 A0 O1 A1 := by rw [e1, e2]; exact h1
    rw [← hp]
    refine hb.run (aCuts [8, 24, 33, 42, 59, 75, 90, 103] J) 60 24 _ _ _ _ _ _ (aCuts_ok _) ?_
    simp only [↓wpi_isub, ↓wpi_lsub, ↓wpi_ineg, ↓wpi_lneg, ↓wpi_irem, ↓wpi_lrem, ↓wpi_iinc, wp1, wp, wpl, wpi, lget, lput1, lput2, ltail, lkill, aV, aVl, aNth, aPut, aFz, aC0, aC2, aSw, aCat1, aCuts, aSet_eq, List.take, List.drop, List.reverse_cons, List.reverse_nil, List.nil_append, List.cons_append, List.length_cons, List.length_nil, Option.toList, true_and, and_true, Nat.reduceAdd, Nat.reduceEqDiff, Nat.reduceLT, Nat.reduceLeDiff, Nat.zero_add, Nat.add_zero, if_true, if_false, ite_true, ite_false, reduceIte, reduceCtorEq, true_or, or_true, not_true_eq_false, not_false_eq_true, false_and, and_false, true_implies, false_implies, not_false_eq_true, bqX6_nearest_0, blX6_nearest_0, bqX6_nearest_8, blX6_nearest_8, bqX6_nearest_18, blX6_nearest_18, bqX6_nearest_20, blX6_nearest_20, bqX6_nearest_24, blX6_nearest_24, bqX6_nearest_33, blX6_nearest_33, bqX6_nearest_42, blX6_nearest_42, bqX6_nearest_59, blX6_nearest_59, bqX6_nearest_75, blX6_nearest_75, bqX6_nearest_90, blX6_nearest_90, bqX6_nearest_93, blX6_nearest_93, bqX6_nearest_97, blX6_nearest_97, bqX6_nearest_103, blX6_nearest_103, bqX6_nearest_106, blX6_nearest_106, bqX6_nearest_113, blX6_nearest_113, nI_add]
    refine ⟨_, _, _, _, hb.callV lvX6_148 (w_scaleTo h1 hf hp2.1 (by rw [← ex]; exact hx) hy hBx hBy) rfl h1.sto (by decide) (by decide) (by decide), ?_, fun _ _ _ h => h.elim⟩
    rintro _ O2 A2 ⟨rfl, ρ2, h2, r11, r12, rk⟩
    rw [← ex, ← ey] at r11 r12 ⊢
    have hy' : y ≠ 0 := by rw [ey]; exact hy
    obtain ⟨q1, q2⟩ := nX_12 (p := p) hx hy'
    obtain ⟨w1, w2, -⟩ := nQ_bits (p := p) hx hy'
    obtain ⟨E0, hE0⟩ : ∃ E0, E0 = nE p x y := ⟨_, rfl⟩
    obtain ⟨X, hX⟩ : ∃ X, X = nX p x y := ⟨_, rfl⟩
    have lx : blen x ≤ 400 := blen_lt (by rw [ex]; exact hBx)
    have ly : blen y ≤ 400 := blen_lt (by rw [ey]; exact hBy)
    have hEb : -460 ≤ E0 ∧ E0 ≤ 460 := by rw [hE0]; unfold nE; omega
    rw [← hX] at q1 q2
    rw [← hE0]
    refine hb.run (aCuts [8, 24, 33, 42, 59, 75, 90, 103] J) 60 33 _ _ _ _ _ _ (aCuts_ok _) ?_
    simp only [↓wpi_isub, ↓wpi_lsub, ↓wpi_ineg, ↓wpi_lneg, ↓wpi_irem, ↓wpi_lrem, ↓wpi_iinc, wp1, wp, wpl, wpi, lget, lput1, lput2, ltail, lkill, aV, aVl, aNth, aPut, aFz, aC0, aC2, aSw, aCat1, aCuts, aSet_eq, List.take, List.drop, List.reverse_cons, List.reverse_nil, List.nil_append, List.cons_append, List.length_cons, List.length_nil, Option.toList, true_and, and_true, Nat.reduceAdd, Nat.reduceEqDiff, Nat.reduceLT, Nat.reduceLeDiff, Nat.zero_add, Nat.add_zero, if_true, if_false, ite_true, ite_false, reduceIte, reduceCtorEq, true_or, or_true, not_true_eq_false, not_false_eq_true, false_and, and_false, true_implies, false_implies, not_false_eq_true, bqX6_nearest_0, blX6_nearest_0, bqX6_nearest_8, blX6_nearest_8, bqX6_nearest_18, blX6_nearest_18, bqX6_nearest_20, blX6_nearest_20, bqX6_nearest_24, blX6_nearest_24, bqX6_nearest_33, blX6_nearest_33, bqX6_nearest_42, blX6_nearest_42, bqX6_nearest_59, blX6_nearest_59, bqX6_nearest_75, blX6_nearest_75, bqX6_nearest_90, blX6_nearest_90, bqX6_nearest_93, blX6_nearest_93, bqX6_nearest_97, blX6_nearest_97, bqX6_nearest_103, blX6_nearest_103, bqX6_nearest_106, blX6_nearest_106, bqX6_nearest_113, blX6_nearest_113, h2.sto]
    refine ⟨_, _, _, _, hb.callW lvX6_152 (w_bitLength h2 (i := 11) (by decide)) rfl (h2.rO (by decide)) (by decide) (by decide) (by decide), ?_, fun _ _ _ h => h.elim⟩
    rintro _ O2 A2 ⟨rfl, rfl, rfl⟩
    rw [r11, q1]
    show J 42 _ [.int (nI (p + X))] _ _ 0 0
    refine hb.run (aCuts [8, 24, 33, 42, 59, 75, 90, 103] J) 60 42 _ _ _ _ _ _ (aCuts_ok _) ?_
    have e3 : iSub (nI (p + X)) (nI p) = nI X := by rw [iSub_nn (by omega)]; congr 1; omega
    have e4 : iSub (iZ E0 + nI X + nI p) (nI 1) = iZ (E0 + X + p - 1) := by rw [iZ_n X, iZ_n p, iZ_n 1, iZ_add, iZ_add, iSub_Z]; rfl
    simp only [↓wpi_isub, ↓wpi_lsub, ↓wpi_ineg, ↓wpi_lneg, ↓wpi_irem, ↓wpi_lrem, ↓wpi_iinc, wp1, wp, wpl, wpi, lget, lput1, lput2, ltail, lkill, aV, aVl, aNth, aPut, aFz, aC0, aC2, aSw, aCat1, aCuts, aSet_eq, List.take, List.drop, List.reverse_cons, List.reverse_nil, List.nil_append, List.cons_append, List.length_cons, List.length_nil, Option.toList, true_and, and_true, Nat.reduceAdd, Nat.reduceEqDiff, Nat.reduceLT, Nat.reduceLeDiff, Nat.zero_add, Nat.add_zero, if_true, if_false, ite_true, ite_false, reduceIte, reduceCtorEq, true_or, or_true, not_true_eq_false, not_false_eq_true, false_and, and_false, true_implies, false_implies, not_false_eq_true, bqX6_nearest_0, blX6_nearest_0, bqX6_nearest_8, blX6_nearest_8, bqX6_nearest_18, blX6_nearest_18, bqX6_nearest_20, blX6_nearest_20, bqX6_nearest_24, blX6_nearest_24, bqX6_nearest_33, blX6_nearest_33, bqX6_nearest_42, blX6_nearest_42, bqX6_nearest_59, blX6_nearest_59, bqX6_nearest_75, blX6_nearest_75, bqX6_nearest_90, blX6_nearest_90, bqX6_nearest_93, blX6_nearest_93, bqX6_nearest_97, blX6_nearest_97, bqX6_nearest_103, blX6_nearest_103, bqX6_nearest_106, blX6_nearest_106, bqX6_nearest_113, blX6_nearest_113, e3, e4]
    refine ⟨_, _, _, _, hb.callS lsX6_156 (ct_X1_bias (h2.num hk) b1) rfl (by decide) (by decide) (by decide), ?_, fun _ _ _ h => h.elim⟩
    rintro _ O2 A2 ⟨rfl, rfl, rfl⟩
    rw [← hB]
    have e5 : iZ (E0 + X + p - 1) + nI B = iZ (E0 + X + p - 1 + B) := by rw [iZ_n B, iZ_add]
    have e6 : (iZ (E0 + X + p - 1 + B)).toInt64 = lZ (E0 + X + p - 1 + B) := iZ_l (by omega) (by omega)
    have e7 : iSub (nI p) (nI 1) = nI (p - 1) := iSub_nn (by omega)
    have e8 : lZ (E0 + X + p - 1 + B) <<< ((nI (p - 1)).toInt64 &&& 63) = lZ ((E0 + X + p - 1 + B) * 2 ^ (p - 1)) := lZ_shl _ (by omega)
    refine hb.run (aCuts [8, 24, 33, 42, 59, 75, 90, 103] J) 60 59 _ _ _ _ _ _ (aCuts_ok _) ?_
    simp only [↓wpi_isub, ↓wpi_lsub, ↓wpi_ineg, ↓wpi_lneg, ↓wpi_irem, ↓wpi_lrem, ↓wpi_iinc, wp1, wp, wpl, wpi, lget, lput1, lput2, ltail, lkill, aV, aVl, aNth, aPut, aFz, aC0, aC2, aSw, aCat1, aCuts, aSet_eq, List.take, List.drop, List.reverse_cons, List.reverse_nil, List.nil_append, List.cons_append, List.length_cons, List.length_nil, Option.toList, true_and, and_true, Nat.reduceAdd, Nat.reduceEqDiff, Nat.reduceLT, Nat.reduceLeDiff, Nat.zero_add, Nat.add_zero, if_true, if_false, ite_true, ite_false, reduceIte, reduceCtorEq, true_or, or_true, not_true_eq_false, not_false_eq_true, false_and, and_false, true_implies, false_implies, not_false_eq_true, bqX6_nearest_0, blX6_nearest_0, bqX6_nearest_8, blX6_nearest_8, bqX6_nearest_18, blX6_nearest_18, bqX6_nearest_20, blX6_nearest_20, bqX6_nearest_24, blX6_nearest_24, bqX6_nearest_33, blX6_nearest_33, bqX6_nearest_42, blX6_nearest_42, bqX6_nearest_59, blX6_nearest_59, bqX6_nearest_75, blX6_nearest_75, bqX6_nearest_90, blX6_nearest_90, bqX6_nearest_93, blX6_nearest_93, bqX6_nearest_97, blX6_nearest_97, bqX6_nearest_103, blX6_nearest_103, bqX6_nearest_106, blX6_nearest_106, bqX6_nearest_113, blX6_nearest_113, e5, e6, e7, e8]
    refine ⟨_, _, _, _, hb.callV lvX6_159 (w_roundOff h2 (e := X) q2 (by rw [r11]; exact Nat.lt_of_lt_of_le w2 (p2le (show p + 2 ≤ 60 by omega)))) rfl h2.sto (by decide) (by decide) (by decide), ?_, fun _ _ _ h => h.elim⟩
    rintro _ O3 A3 ⟨rfl, h3⟩
    rw [r11, r12] at h3 ⊢
    obtain ⟨K, hK⟩ : ∃ K, K = nK (nQ p x y) (nR p x y) X := ⟨_, rfl⟩
    have hKl : K ≤ 2 ^ p := by
      rw [hK]
      apply nK_le
      have q3 : nQ p x y ≠ 0 := by have := Nat.two_pow_pos p; omega
      have := (blen_pos q3).2.1
      rw [q1] at this; exact this
    have hPp : 2 ^ p ≤ 2 ^ 53 := p2le hp2.1
    have hPq : 2 ^ (p - 1) ≤ 2 ^ 52 := p2le (by omega)
    have hnB : nB (N 1 k) x y = (E0 + X + p - 1 + B) * 2 ^ (p - 1) + K - 2 ^ (p - 1) := by
      unfold nB; rw [← hp, ← hE0, ← hX, ← hB, ← hK]
    obtain ⟨T, hT⟩ : ∃ T, T = nB (N 1 k) x y := ⟨_, rfl⟩
    have hTb : -2 ^ 63 ≤ T ∧ T < 2 ^ 63 := by
      rw [hT, hnB]
      have c1 : (-1000 : Int) * 2 ^ 52 ≤ (E0 + X + p - 1 + B) * 2 ^ (p - 1) ∧ (E0 + X + p - 1 + B) * 2 ^ (p - 1) ≤ 1600 * 2 ^ 52 := by
        have c2 : ((2 ^ (p - 1) : Nat) : Int) ≤ 2 ^ 52 := by exact_mod_cast hPq
        have c3 : (0 : Int) < ((2 ^ (p - 1) : Nat) : Int) := by exact_mod_cast Nat.two_pow_pos _
        rw [show (2 : Int) ^ (p - 1) = ((2 ^ (p - 1) : Nat) : Int) by simp]
        obtain ⟨P, hP⟩ : ∃ P : Int, P = ((2 ^ (p - 1) : Nat) : Int) := ⟨_, rfl⟩
        rw [← hP] at c2 c3 ⊢
        obtain ⟨S, hS⟩ : ∃ S : Int, S = E0 + X + p - 1 + B := ⟨_, rfl⟩
        rw [← hS]
        have s1 : -1000 ≤ S ∧ S ≤ 1600 := by omega
        constructor
        · have t1 : -1000 * P ≤ S * P := Int.mul_le_mul_of_nonneg_right s1.1 (by omega)
          omega
        · have t1 : S * P ≤ 1600 * P := Int.mul_le_mul_of_nonneg_right s1.2 (by omega)
          omega
      have c4 : (2 : Int) ^ (p - 1) ≤ 2 ^ 52 := by exact_mod_cast hPq
      have c5 : (0 : Int) < (2 : Int) ^ (p - 1) := by exact_mod_cast Nat.two_pow_pos (p - 1)
      have c6 : (K : Int) ≤ 2 ^ 53 := by exact_mod_cast Nat.le_trans hKl hPp
      omega
    have e9 : lSub (lZ ((E0 + X + p - 1 + B) * 2 ^ (p - 1)) + lN K) (lN (2 ^ (p - 1))) = lZ T := by
      rw [lZ_addN, lSub_ZN, hT, hnB]; simp
    have e10 : lN 1 <<< ((nI (p - 1)).toInt64 &&& 63) = lN (2 ^ (p - 1)) := by rw [wb_shl 1 (by omega), Nat.one_mul]
    rw [← hK]
    show J 75 _ [.long (lN K), .long (lZ ((E0 + X + p - 1 + B) * 2 ^ (p - 1)))] _ _ 0 0
    refine hb.run (aCuts [8, 24, 33, 42, 59, 75, 90, 103] J) 60 75 _ _ _ _ _ _ (aCuts_ok _) ?_
    simp only [↓wpi_isub, ↓wpi_lsub, ↓wpi_ineg, ↓wpi_lneg, ↓wpi_irem, ↓wpi_lrem, ↓wpi_iinc, wp1, wp, wpl, wpi, lget, lput1, lput2, ltail, lkill, aV, aVl, aNth, aPut, aFz, aC0, aC2, aSw, aCat1, aCuts, aSet_eq, List.take, List.drop, List.reverse_cons, List.reverse_nil, List.nil_append, List.cons_append, List.length_cons, List.length_nil, Option.toList, true_and, and_true, Nat.reduceAdd, Nat.reduceEqDiff, Nat.reduceLT, Nat.reduceLeDiff, Nat.zero_add, Nat.add_zero, if_true, if_false, ite_true, ite_false, reduceIte, reduceCtorEq, true_or, or_true, not_true_eq_false, not_false_eq_true, false_and, and_false, true_implies, false_implies, not_false_eq_true, bqX6_nearest_0, blX6_nearest_0, bqX6_nearest_8, blX6_nearest_8, bqX6_nearest_18, blX6_nearest_18, bqX6_nearest_20, blX6_nearest_20, bqX6_nearest_24, blX6_nearest_24, bqX6_nearest_33, blX6_nearest_33, bqX6_nearest_42, blX6_nearest_42, bqX6_nearest_59, blX6_nearest_59, bqX6_nearest_75, blX6_nearest_75, bqX6_nearest_90, blX6_nearest_90, bqX6_nearest_93, blX6_nearest_93, bqX6_nearest_97, blX6_nearest_97, bqX6_nearest_103, blX6_nearest_103, bqX6_nearest_106, blX6_nearest_106, bqX6_nearest_113, blX6_nearest_113, e7, e10, e9]
    refine ⟨_, _, _, _, hb.callS lsX6_163 (ct_X1_tooGreat (h3.num hk) b1 (z := T) hTb.1 hTb.2) rfl (by decide) (by decide) (by decide), ?_, fun _ _ _ h => h.elim⟩
    rintro _ O3 A3 ⟨rfl, rfl, rfl⟩
    refine hb.run (aCuts [8, 24, 33, 42, 59, 75, 90, 103] J) 60 90 _ _ _ _ _ _ (aCuts_ok _) ?_
    by_cases hgr : ((fEnd (N 1 k) : Nat) : Int) ≤ T
    · simp only [↓wpi_isub, ↓wpi_lsub, ↓wpi_ineg, ↓wpi_lneg, ↓wpi_irem, ↓wpi_lrem, ↓wpi_iinc, wp1, wp, wpl, wpi, lget, lput1, lput2, ltail, lkill, aV, aVl, aNth, aPut, aFz, aC0, aC2, aSw, aCat1, aCuts, aSet_eq, List.take, List.drop, List.reverse_cons, List.reverse_nil, List.nil_append, List.cons_append, List.length_cons, List.length_nil, Option.toList, true_and, and_true, Nat.reduceAdd, Nat.reduceEqDiff, Nat.reduceLT, Nat.reduceLeDiff, Nat.zero_add, Nat.add_zero, if_true, if_false, ite_true, ite_false, reduceIte, reduceCtorEq, true_or, or_true, not_true_eq_false, not_false_eq_true, false_and, and_false, true_implies, false_implies, not_false_eq_true, bqX6_nearest_0, blX6_nearest_0, bqX6_nearest_8, blX6_nearest_8, bqX6_nearest_18, blX6_nearest_18, bqX6_nearest_20, blX6_nearest_20, bqX6_nearest_24, blX6_nearest_24, bqX6_nearest_33, blX6_nearest_33, bqX6_nearest_42, blX6_nearest_42, bqX6_nearest_59, blX6_nearest_59, bqX6_nearest_75, blX6_nearest_75, bqX6_nearest_90, blX6_nearest_90, bqX6_nearest_93, blX6_nearest_93, bqX6_nearest_97, blX6_nearest_97, bqX6_nearest_103, blX6_nearest_103, bqX6_nearest_106, blX6_nearest_106, bqX6_nearest_113, blX6_nearest_113, bI_T hgr, n1_0]
      rw [bU_bU] at h3
      refine hb.lret ⟨ρ2, _, h3, rk, Or.inl ⟨?_, rfl⟩⟩ (by decide) (by decide)
      unfold nRes; rw [if_neg hx, ← hT, if_pos hgr]
    · simp only [↓wpi_isub, ↓wpi_lsub, ↓wpi_ineg, ↓wpi_lneg, ↓wpi_irem, ↓wpi_lrem, ↓wpi_iinc, wp1, wp, wpl, wpi, lget, lput1, lput2, ltail, lkill, aV, aVl, aNth, aPut, aFz, aC0, aC2, aSw, aCat1, aCuts, aSet_eq, List.take, List.drop, List.reverse_cons, List.reverse_nil, List.nil_append, List.cons_append, List.length_cons, List.length_nil, Option.toList, true_and, and_true, Nat.reduceAdd, Nat.reduceEqDiff, Nat.reduceLT, Nat.reduceLeDiff, Nat.zero_add, Nat.add_zero, if_true, if_false, ite_true, ite_false, reduceIte, reduceCtorEq, true_or, or_true, not_true_eq_false, not_false_eq_true, false_and, and_false, true_implies, false_implies, not_false_eq_true, bqX6_nearest_0, blX6_nearest_0, bqX6_nearest_8, blX6_nearest_8, bqX6_nearest_18, blX6_nearest_18, bqX6_nearest_20, blX6_nearest_20, bqX6_nearest_24, blX6_nearest_24, bqX6_nearest_33, blX6_nearest_33, bqX6_nearest_42, blX6_nearest_42, bqX6_nearest_59, blX6_nearest_59, bqX6_nearest_75, blX6_nearest_75, bqX6_nearest_90, blX6_nearest_90, bqX6_nearest_93, blX6_nearest_93, bqX6_nearest_97, blX6_nearest_97, bqX6_nearest_103, blX6_nearest_103, bqX6_nearest_106, blX6_nearest_106, bqX6_nearest_113, blX6_nearest_113, bI_F hgr, n0_0]
      refine ⟨_, _, _, _, hb.callS lsX6_167 (ct_X1_tooSmall (h3.num hk) b1 (z := T) hTb.1 hTb.2) rfl (by decide) (by decide) (by decide), ?_, fun _ _ _ h => h.elim⟩
      rintro _ O3 A3 ⟨rfl, rfl, rfl⟩
      refine hb.run (aCuts [8, 24, 33, 42, 59, 75, 90, 103] J) 60 103 _ _ _ _ _ _ (aCuts_ok _) ?_
      by_cases hsm : T < ((fLeast (N 1 k) : Nat) : Int)
      · have h4 := h3.exa (b := false)
        rw [bU_bU, bU_bU] at h4
        simp only [↓wpi_isub, ↓wpi_lsub, ↓wpi_ineg, ↓wpi_lneg, ↓wpi_irem, ↓wpi_lrem, ↓wpi_iinc, wp1, wp, wpl, wpi, lget, lput1, lput2, ltail, lkill, aV, aVl, aNth, aPut, aFz, aC0, aC2, aSw, aCat1, aCuts, aSet_eq, List.take, List.drop, List.reverse_cons, List.reverse_nil, List.nil_append, List.cons_append, List.length_cons, List.length_nil, Option.toList, true_and, and_true, Nat.reduceAdd, Nat.reduceEqDiff, Nat.reduceLT, Nat.reduceLeDiff, Nat.zero_add, Nat.add_zero, if_true, if_false, ite_true, ite_false, reduceIte, reduceCtorEq, true_or, or_true, not_true_eq_false, not_false_eq_true, false_and, and_false, true_implies, false_implies, not_false_eq_true, bqX6_nearest_0, blX6_nearest_0, bqX6_nearest_8, blX6_nearest_8, bqX6_nearest_18, blX6_nearest_18, bqX6_nearest_20, blX6_nearest_20, bqX6_nearest_24, blX6_nearest_24, bqX6_nearest_33, blX6_nearest_33, bqX6_nearest_42, blX6_nearest_42, bqX6_nearest_59, blX6_nearest_59, bqX6_nearest_75, blX6_nearest_75, bqX6_nearest_90, blX6_nearest_90, bqX6_nearest_93, blX6_nearest_93, bqX6_nearest_97, blX6_nearest_97, bqX6_nearest_103, blX6_nearest_103, bqX6_nearest_106, blX6_nearest_106, bqX6_nearest_113, blX6_nearest_113, bI_T hsm, n1_0, n0_0, h3.sto]
        refine hb.lret ⟨ρ2, false, h4, rk, Or.inr ⟨0, hend, ?_, rfl⟩⟩ (by decide) (by decide)
        unfold nRes; rw [if_neg hx, ← hT, if_neg hgr, if_pos hsm]
      · simp only [↓wpi_isub, ↓wpi_lsub, ↓wpi_ineg, ↓wpi_lneg, ↓wpi_irem, ↓wpi_lrem, ↓wpi_iinc, wp1, wp, wpl, wpi, lget, lput1, lput2, ltail, lkill, aV, aVl, aNth, aPut, aFz, aC0, aC2, aSw, aCat1, aCuts, aSet_eq, List.take, List.drop, List.reverse_cons, List.reverse_nil, List.nil_append, List.cons_append, List.length_cons, List.length_nil, Option.toList, true_and, and_true, Nat.reduceAdd, Nat.reduceEqDiff, Nat.reduceLT, Nat.reduceLeDiff, Nat.zero_add, Nat.add_zero, if_true, if_false, ite_true, ite_false, reduceIte, reduceCtorEq, true_or, or_true, not_true_eq_false, not_false_eq_true, false_and, and_false, true_implies, false_implies, not_false_eq_true, bqX6_nearest_0, blX6_nearest_0, bqX6_nearest_8, blX6_nearest_8, bqX6_nearest_18, blX6_nearest_18, bqX6_nearest_20, blX6_nearest_20, bqX6_nearest_24, blX6_nearest_24, bqX6_nearest_33, blX6_nearest_33, bqX6_nearest_42, blX6_nearest_42, bqX6_nearest_59, blX6_nearest_59, bqX6_nearest_75, blX6_nearest_75, bqX6_nearest_90, blX6_nearest_90, bqX6_nearest_93, blX6_nearest_93, bqX6_nearest_97, blX6_nearest_97, bqX6_nearest_103, blX6_nearest_103, bqX6_nearest_106, blX6_nearest_106, bqX6_nearest_113, blX6_nearest_113, bI_F hsm, n0_0]
        rw [bU_bU] at h3
        refine hb.lret ⟨ρ2, _, h3, rk, Or.inr ⟨T.toNat, by omega, ?_, ?_⟩⟩ (by decide) (by decide)
        · unfold nRes; rw [if_neg hx, ← hT, if_neg hgr, if_neg hsm, ← hp, ← hX]
        · rw [lN_Z]; congr 3; omega
end NEAR2
