/-! ===== the reference: fits, sum, exactly ===== -/
theorem zadd_same {s : Bool} {a b : Nat} : zI s a + zI s b = zI s (a + b) := by cases s <;> simp [zI] <;> omega
theorem zadd_ge {s : Bool} {a b : Nat} (h : b ≤ a) : zI s a + zI (!s) b = zI s (a - b) := by cases s <;> simp [zI] <;> omega
theorem zadd_lt {s : Bool} {a b : Nat} (h : a ≤ b) : zI s a + zI (!s) b = zI (!s) (b - a) := by cases s <;> simp [zI] <;> omega
section MA2
variable {l : Launch} {G : aG} {base tA : Nat} {Y ρ : Nat → Nat} {τ : Nat → Int32} {ex : Bool} {N : aN} {O0 O : aO} {A0 A : aA} {k i : Nat}
set_option maxHeartbeats 4000000 in
theorem m_fits (h : mW Y ρ τ ex N O0 A0 O A) (hk : k < N 0 0) {s : Int32} {neg : Bool} (hs : s < 0 ↔ neg = true) : aMet l G base tA yX9_fits cX9_fits 3 (some .boolean) rmM3 [.ref (Y 0), .int (nI k), .int s] O A (fun r O' A' => r = some (.int (bI (ftS (N 1 k) (N 2 k) (N 5 k) (ρ 6) neg))) ∧ ∃ x, mW Y (rU ρ 8 x) τ ex N O0 A0 O' A') := by
  refine aMet_of (ini := false) (B := aLook bkX9_fits) (by decide) (fun h => by first | rfl | cases h) (Nat.le_of_ble_eq_true rfl) boX9_fits ?_
  intro E J hb
  have hc := h.1.1
  obtain ⟨b1, b2, b3, b4, b5, b6⟩ := h.bnd hk
  obtain ⟨s1, s2⟩ := h.szb hk
  have iv : vp_in (nI k) 64 := vp_in_nI (by omega) (by decide)
  have kc := nI_clamp (show k < 2 ^ 31 by omega)
  have gu := nF_at (N 1) k
  have gd := nF_at (N 2) k
  have gz := nF_at (N 5) k
  refine hb.run (aCuts [7, 35, 47, 66, 87, 95] J) 60 0 _ _ _ _ _ _ (aCuts_ok _) ?_
  simp only [↓wpi_isub, ↓wpi_lsub, ↓wpi_ineg, ↓wpi_lneg, ↓wpi_irem, ↓wpi_lrem, ↓wpi_iinc, wp1, wp, wpl, wpi, lget, lput1, lput2, ltail, lkill, aV, aVl, aNth, aPut, aFz, aC0, aC2, aSw, aCat1, aCuts, aSet_eq, List.take, List.drop, List.reverse_cons, List.reverse_nil, List.nil_append, List.cons_append, List.length_cons, List.length_nil, Option.toList, true_and, and_true, Nat.reduceAdd, Nat.reduceEqDiff, Nat.reduceLT, Nat.reduceLeDiff, Nat.zero_add, Nat.add_zero, if_true, if_false, ite_true, ite_false, reduceIte, reduceCtorEq, true_or, or_true, not_true_eq_false, not_false_eq_true, false_and, and_false, true_implies, false_implies, not_false_eq_true, bqX9_fits_0, blX9_fits_0, bqX9_fits_7, blX9_fits_7, bqX9_fits_18, blX9_fits_18, bqX9_fits_35, blX9_fits_35, bqX9_fits_39, blX9_fits_39, bqX9_fits_47, blX9_fits_47, bqX9_fits_50, blX9_fits_50, bqX9_fits_54, blX9_fits_54, bqX9_fits_58, blX9_fits_58, bqX9_fits_66, blX9_fits_66, bqX9_fits_69, blX9_fits_69, bqX9_fits_73, blX9_fits_73, bqX9_fits_74, blX9_fits_74, bqX9_fits_75, blX9_fits_75, bqX9_fits_87, blX9_fits_87, bqX9_fits_95, blX9_fits_95, bqX9_fits_98, blX9_fits_98, bqX9_fits_102, blX9_fits_102, bqX9_fits_103, blX9_fits_103, aArgs, List.replicate]
  refine ⟨_, _, _, _, hb.callV lvX9_85 (m_small h (x := 8) (v := 1) (by decide) (by decide)) rfl h.obj (by decide) (by decide) (by decide), ?_, fun _ _ _ h => h.elim⟩
  rintro _ O1 A1 ⟨rfl, h1⟩
  have fin : ∀ (v : Bool) (x : Nat) (O2 : aO) (A2 : aA), (v = true ↔ ftS (N 1 k) (N 2 k) (N 5 k) (ρ 6) neg = true) → mW Y (rU ρ 8 x) τ ex N O0 A0 O2 A2 → (∃ ty, eRt E = some ty ∧ narrow ty (.int (bI v)) = .int (bI v)) ∧ eRet E (some (.int (bI v))) O2 A2 0 0 := by
    intro v x O2 A2 hv h2
    refine hb.iret (nar_b _) ⟨?_, x, h2⟩ (by decide) (by decide)
    rw [Bool.eq_iff_iff.mpr hv]
  refine hb.run (aCuts [7, 35, 47, 66, 87, 95] J) 60 7 _ _ _ _ _ _ (aCuts_ok _) ?_
  by_cases u8 : N 1 k = 8
  · have e8 : (nI (N 1 k) = nI 8) = True := by rw [u8]; simp
    have ft : ftS (N 1 k) (N 2 k) (N 5 k) (ρ 6) neg = decide (ρ 6 < 2 ^ (8 * N 5 k - 1) ∨ (ρ 6 = 2 ^ (8 * N 5 k - 1) ∧ neg = true)) := by unfold ftS; rw [if_pos u8]
    have hb1 : 2 ^ (8 * N 5 k - 1) < 65536 ^ 80 := Nat.lt_of_le_of_lt (p2le (show 8 * N 5 k - 1 ≤ 512 by omega)) (by decide +kernel)
    simp only [↓wpi_isub, ↓wpi_lsub, ↓wpi_ineg, ↓wpi_lneg, ↓wpi_irem, ↓wpi_lrem, ↓wpi_iinc, wp1, wp, wpl, wpi, lget, lput1, lput2, ltail, lkill, aV, aVl, aNth, aPut, aFz, aC0, aC2, aSw, aCat1, aCuts, aSet_eq, List.take, List.drop, List.reverse_cons, List.reverse_nil, List.nil_append, List.cons_append, List.length_cons, List.length_nil, Option.toList, true_and, and_true, Nat.reduceAdd, Nat.reduceEqDiff, Nat.reduceLT, Nat.reduceLeDiff, Nat.zero_add, Nat.add_zero, if_true, if_false, ite_true, ite_false, reduceIte, reduceCtorEq, true_or, or_true, not_true_eq_false, not_false_eq_true, false_and, and_false, true_implies, false_implies, not_false_eq_true, bqX9_fits_0, blX9_fits_0, bqX9_fits_7, blX9_fits_7, bqX9_fits_18, blX9_fits_18, bqX9_fits_35, blX9_fits_35, bqX9_fits_39, blX9_fits_39, bqX9_fits_47, blX9_fits_47, bqX9_fits_50, blX9_fits_50, bqX9_fits_54, blX9_fits_54, bqX9_fits_58, blX9_fits_58, bqX9_fits_66, blX9_fits_66, bqX9_fits_69, blX9_fits_69, bqX9_fits_73, blX9_fits_73, bqX9_fits_74, blX9_fits_74, bqX9_fits_75, blX9_fits_75, bqX9_fits_87, blX9_fits_87, bqX9_fits_95, blX9_fits_95, bqX9_fits_98, blX9_fits_98, bqX9_fits_102, blX9_fits_102, bqX9_fits_103, blX9_fits_103, h1.obj, h1.usa, h1.siz, iv, kc, gu, gz, e8, pk_mul, iSub_nn (show 1 ≤ 8 * N 5 k by omega)]
    refine ⟨_, _, _, _, hb.callV lvX9_118 (m_twice h1 (x := 8) (p := 8 * N 5 k - 1) (by decide) (by omega) (by rw [rU_eq, Nat.one_mul]; exact hb1)) rfl h1.obj (by decide) (by decide) (by decide), ?_, fun _ _ _ h => h.elim⟩
    rintro _ O2 A2 ⟨rfl, h2⟩
    rw [rU_rU, rU_eq, Nat.one_mul] at h2
    obtain ⟨P, hP⟩ : ∃ P, P = 2 ^ (8 * N 5 k - 1) := ⟨_, rfl⟩
    rw [← hP] at h2 ft
    refine hb.run (aCuts [7, 35, 47, 66, 87, 95] J) 60 35 _ _ _ _ _ _ (aCuts_ok _) ?_
    by_cases hneg : neg = true
    · have e0 : (0 ≤ s) = False := by simp only [eq_iff_iff, iff_false]; exact Int32.not_le.mpr (hs.mpr hneg)
      simp only [↓wpi_isub, ↓wpi_lsub, ↓wpi_ineg, ↓wpi_lneg, ↓wpi_irem, ↓wpi_lrem, ↓wpi_iinc, wp1, wp, wpl, wpi, lget, lput1, lput2, ltail, lkill, aV, aVl, aNth, aPut, aFz, aC0, aC2, aSw, aCat1, aCuts, aSet_eq, List.take, List.drop, List.reverse_cons, List.reverse_nil, List.nil_append, List.cons_append, List.length_cons, List.length_nil, Option.toList, true_and, and_true, Nat.reduceAdd, Nat.reduceEqDiff, Nat.reduceLT, Nat.reduceLeDiff, Nat.zero_add, Nat.add_zero, if_true, if_false, ite_true, ite_false, reduceIte, reduceCtorEq, true_or, or_true, not_true_eq_false, not_false_eq_true, false_and, and_false, true_implies, false_implies, not_false_eq_true, bqX9_fits_0, blX9_fits_0, bqX9_fits_7, blX9_fits_7, bqX9_fits_18, blX9_fits_18, bqX9_fits_35, blX9_fits_35, bqX9_fits_39, blX9_fits_39, bqX9_fits_47, blX9_fits_47, bqX9_fits_50, blX9_fits_50, bqX9_fits_54, blX9_fits_54, bqX9_fits_58, blX9_fits_58, bqX9_fits_66, blX9_fits_66, bqX9_fits_69, blX9_fits_69, bqX9_fits_73, blX9_fits_73, bqX9_fits_74, blX9_fits_74, bqX9_fits_75, blX9_fits_75, bqX9_fits_87, blX9_fits_87, bqX9_fits_95, blX9_fits_95, bqX9_fits_98, blX9_fits_98, bqX9_fits_102, blX9_fits_102, bqX9_fits_103, blX9_fits_103, e0]
      refine ⟨_, _, _, _, hb.callV lvX9_58 (m_order h2 (x := 6) (y := 8) (by decide) (by decide)) rfl h2.obj (by decide) (by decide) (by decide), ?_, fun _ _ _ h => h.elim⟩
      rintro _ O3 A3 ⟨rfl, rfl, rfl⟩
      rw [rU_eq, rU_ne (show (6 : Nat) ≠ 8 by decide)]
      refine hb.run (aCuts [7, 35, 47, 66, 87, 95] J) 60 47 _ _ _ _ _ _ (aCuts_ok _) ?_
      simp only [↓wpi_isub, ↓wpi_lsub, ↓wpi_ineg, ↓wpi_lneg, ↓wpi_irem, ↓wpi_lrem, ↓wpi_iinc, wp1, wp, wpl, wpi, lget, lput1, lput2, ltail, lkill, aV, aVl, aNth, aPut, aFz, aC0, aC2, aSw, aCat1, aCuts, aSet_eq, List.take, List.drop, List.reverse_cons, List.reverse_nil, List.nil_append, List.cons_append, List.length_cons, List.length_nil, Option.toList, true_and, and_true, Nat.reduceAdd, Nat.reduceEqDiff, Nat.reduceLT, Nat.reduceLeDiff, Nat.zero_add, Nat.add_zero, if_true, if_false, ite_true, ite_false, reduceIte, reduceCtorEq, true_or, or_true, not_true_eq_false, not_false_eq_true, false_and, and_false, true_implies, false_implies, not_false_eq_true, bqX9_fits_0, blX9_fits_0, bqX9_fits_7, blX9_fits_7, bqX9_fits_18, blX9_fits_18, bqX9_fits_35, blX9_fits_35, bqX9_fits_39, blX9_fits_39, bqX9_fits_47, blX9_fits_47, bqX9_fits_50, blX9_fits_50, bqX9_fits_54, blX9_fits_54, bqX9_fits_58, blX9_fits_58, bqX9_fits_66, blX9_fits_66, bqX9_fits_69, blX9_fits_69, bqX9_fits_73, blX9_fits_73, bqX9_fits_74, blX9_fits_74, bqX9_fits_75, blX9_fits_75, bqX9_fits_87, blX9_fits_87, bqX9_fits_95, blX9_fits_95, bqX9_fits_98, blX9_fits_98, bqX9_fits_102, blX9_fits_102, bqX9_fits_103, blX9_fits_103, cmpI_gt0]
      repeat' (apply And.intro <;> intro h)
      · refine fin false P _ _ ?_ h2
        rw [ft, decide_eq_true_iff]
        exact ⟨fun q => Bool.noConfusion q, fun q => by omega⟩
      · refine fin true P _ _ ?_ h2
        rw [ft, decide_eq_true_iff]
        refine ⟨fun _ => ?_, fun _ => rfl⟩
        rcases Nat.lt_or_ge (ρ 6) P with q | q
        · exact Or.inl q
        · exact Or.inr ⟨by omega, hneg⟩
    · have e0 : (0 ≤ s) = True := by simp only [eq_iff_iff, iff_true]; exact Int32.not_lt.mp (fun q => hneg (hs.mp q))
      simp only [↓wpi_isub, ↓wpi_lsub, ↓wpi_ineg, ↓wpi_lneg, ↓wpi_irem, ↓wpi_lrem, ↓wpi_iinc, wp1, wp, wpl, wpi, lget, lput1, lput2, ltail, lkill, aV, aVl, aNth, aPut, aFz, aC0, aC2, aSw, aCat1, aCuts, aSet_eq, List.take, List.drop, List.reverse_cons, List.reverse_nil, List.nil_append, List.cons_append, List.length_cons, List.length_nil, Option.toList, true_and, and_true, Nat.reduceAdd, Nat.reduceEqDiff, Nat.reduceLT, Nat.reduceLeDiff, Nat.zero_add, Nat.add_zero, if_true, if_false, ite_true, ite_false, reduceIte, reduceCtorEq, true_or, or_true, not_true_eq_false, not_false_eq_true, false_and, and_false, true_implies, false_implies, not_false_eq_true, bqX9_fits_0, blX9_fits_0, bqX9_fits_7, blX9_fits_7, bqX9_fits_18, blX9_fits_18, bqX9_fits_35, blX9_fits_35, bqX9_fits_39, blX9_fits_39, bqX9_fits_47, blX9_fits_47, bqX9_fits_50, blX9_fits_50, bqX9_fits_54, blX9_fits_54, bqX9_fits_58, blX9_fits_58, bqX9_fits_66, blX9_fits_66, bqX9_fits_69, blX9_fits_69, bqX9_fits_73, blX9_fits_73, bqX9_fits_74, blX9_fits_74, bqX9_fits_75, blX9_fits_75, bqX9_fits_87, blX9_fits_87, bqX9_fits_95, blX9_fits_95, bqX9_fits_98, blX9_fits_98, bqX9_fits_102, blX9_fits_102, bqX9_fits_103, blX9_fits_103, e0]
      refine ⟨_, _, _, _, hb.callV lvX9_58 (m_order h2 (x := 6) (y := 8) (by decide) (by decide)) rfl h2.obj (by decide) (by decide) (by decide), ?_, fun _ _ _ h => h.elim⟩
      rintro _ O3 A3 ⟨rfl, rfl, rfl⟩
      rw [rU_eq, rU_ne (show (6 : Nat) ≠ 8 by decide)]
      refine hb.run (aCuts [7, 35, 47, 66, 87, 95] J) 60 66 _ _ _ _ _ _ (aCuts_ok _) ?_
      simp only [↓wpi_isub, ↓wpi_lsub, ↓wpi_ineg, ↓wpi_lneg, ↓wpi_irem, ↓wpi_lrem, ↓wpi_iinc, wp1, wp, wpl, wpi, lget, lput1, lput2, ltail, lkill, aV, aVl, aNth, aPut, aFz, aC0, aC2, aSw, aCat1, aCuts, aSet_eq, List.take, List.drop, List.reverse_cons, List.reverse_nil, List.nil_append, List.cons_append, List.length_cons, List.length_nil, Option.toList, true_and, and_true, Nat.reduceAdd, Nat.reduceEqDiff, Nat.reduceLT, Nat.reduceLeDiff, Nat.zero_add, Nat.add_zero, if_true, if_false, ite_true, ite_false, reduceIte, reduceCtorEq, true_or, or_true, not_true_eq_false, not_false_eq_true, false_and, and_false, true_implies, false_implies, not_false_eq_true, bqX9_fits_0, blX9_fits_0, bqX9_fits_7, blX9_fits_7, bqX9_fits_18, blX9_fits_18, bqX9_fits_35, blX9_fits_35, bqX9_fits_39, blX9_fits_39, bqX9_fits_47, blX9_fits_47, bqX9_fits_50, blX9_fits_50, bqX9_fits_54, blX9_fits_54, bqX9_fits_58, blX9_fits_58, bqX9_fits_66, blX9_fits_66, bqX9_fits_69, blX9_fits_69, bqX9_fits_73, blX9_fits_73, bqX9_fits_74, blX9_fits_74, bqX9_fits_75, blX9_fits_75, bqX9_fits_87, blX9_fits_87, bqX9_fits_95, blX9_fits_95, bqX9_fits_98, blX9_fits_98, bqX9_fits_102, blX9_fits_102, bqX9_fits_103, blX9_fits_103, cmpI_ge]
      repeat' (apply And.intro <;> intro h)
      · refine fin false P _ _ ?_ h2
        rw [ft, decide_eq_true_iff]
        exact ⟨fun q => Bool.noConfusion q, fun q => q.elim (fun q => by omega) (fun q => absurd q.2 hneg)⟩
      · refine fin true P _ _ ?_ h2
        rw [ft, decide_eq_true_iff]
        exact ⟨fun _ => Or.inl (by omega), fun _ => rfl⟩
  · have e8 : (nI (N 1 k) = nI 8) = False := by rw [nI_c (by omega) (by decide)]; simp [u8]
    have ft : ftS (N 1 k) (N 2 k) (N 5 k) (ρ 6) neg = decide (ρ 6 < 10 ^ N 2 k) := by unfold ftS; rw [if_neg u8]
    have hb1 : 10 ^ N 2 k < 65536 ^ 80 := Nat.lt_of_le_of_lt (p10_le b3) (by decide +kernel)
    simp only [↓wpi_isub, ↓wpi_lsub, ↓wpi_ineg, ↓wpi_lneg, ↓wpi_irem, ↓wpi_lrem, ↓wpi_iinc, wp1, wp, wpl, wpi, lget, lput1, lput2, ltail, lkill, aV, aVl, aNth, aPut, aFz, aC0, aC2, aSw, aCat1, aCuts, aSet_eq, List.take, List.drop, List.reverse_cons, List.reverse_nil, List.nil_append, List.cons_append, List.length_cons, List.length_nil, Option.toList, true_and, and_true, Nat.reduceAdd, Nat.reduceEqDiff, Nat.reduceLT, Nat.reduceLeDiff, Nat.zero_add, Nat.add_zero, if_true, if_false, ite_true, ite_false, reduceIte, reduceCtorEq, true_or, or_true, not_true_eq_false, not_false_eq_true, false_and, and_false, true_implies, false_implies, not_false_eq_true, bqX9_fits_0, blX9_fits_0, bqX9_fits_7, blX9_fits_7, bqX9_fits_18, blX9_fits_18, bqX9_fits_35, blX9_fits_35, bqX9_fits_39, blX9_fits_39, bqX9_fits_47, blX9_fits_47, bqX9_fits_50, blX9_fits_50, bqX9_fits_54, blX9_fits_54, bqX9_fits_58, blX9_fits_58, bqX9_fits_66, blX9_fits_66, bqX9_fits_69, blX9_fits_69, bqX9_fits_73, blX9_fits_73, bqX9_fits_74, blX9_fits_74, bqX9_fits_75, blX9_fits_75, bqX9_fits_87, blX9_fits_87, bqX9_fits_95, blX9_fits_95, bqX9_fits_98, blX9_fits_98, bqX9_fits_102, blX9_fits_102, bqX9_fits_103, blX9_fits_103, h1.obj, h1.usa, h1.dig, iv, kc, gu, gd, e8]
    refine ⟨_, _, _, _, hb.callV lvX9_103 (m_tens h1 (x := 8) (p := N 2 k) (by decide) (by omega) (by rw [rU_eq, Nat.one_mul]; exact hb1)) rfl h1.obj (by decide) (by decide) (by decide), ?_, fun _ _ _ h => h.elim⟩
    rintro _ O2 A2 ⟨rfl, h2⟩
    rw [rU_rU, rU_eq, Nat.one_mul] at h2
    obtain ⟨P, hP⟩ : ∃ P, P = 10 ^ N 2 k := ⟨_, rfl⟩
    rw [← hP] at h2 ft
    refine hb.run (aCuts [7, 35, 47, 66, 87, 95] J) 60 87 _ _ _ _ _ _ (aCuts_ok _) ?_
    simp only [↓wpi_isub, ↓wpi_lsub, ↓wpi_ineg, ↓wpi_lneg, ↓wpi_irem, ↓wpi_lrem, ↓wpi_iinc, wp1, wp, wpl, wpi, lget, lput1, lput2, ltail, lkill, aV, aVl, aNth, aPut, aFz, aC0, aC2, aSw, aCat1, aCuts, aSet_eq, List.take, List.drop, List.reverse_cons, List.reverse_nil, List.nil_append, List.cons_append, List.length_cons, List.length_nil, Option.toList, true_and, and_true, Nat.reduceAdd, Nat.reduceEqDiff, Nat.reduceLT, Nat.reduceLeDiff, Nat.zero_add, Nat.add_zero, if_true, if_false, ite_true, ite_false, reduceIte, reduceCtorEq, true_or, or_true, not_true_eq_false, not_false_eq_true, false_and, and_false, true_implies, false_implies, not_false_eq_true, bqX9_fits_0, blX9_fits_0, bqX9_fits_7, blX9_fits_7, bqX9_fits_18, blX9_fits_18, bqX9_fits_35, blX9_fits_35, bqX9_fits_39, blX9_fits_39, bqX9_fits_47, blX9_fits_47, bqX9_fits_50, blX9_fits_50, bqX9_fits_54, blX9_fits_54, bqX9_fits_58, blX9_fits_58, bqX9_fits_66, blX9_fits_66, bqX9_fits_69, blX9_fits_69, bqX9_fits_73, blX9_fits_73, bqX9_fits_74, blX9_fits_74, bqX9_fits_75, blX9_fits_75, bqX9_fits_87, blX9_fits_87, bqX9_fits_95, blX9_fits_95, bqX9_fits_98, blX9_fits_98, bqX9_fits_102, blX9_fits_102, bqX9_fits_103, blX9_fits_103]
    refine ⟨_, _, _, _, hb.callV lvX9_58 (m_order h2 (x := 6) (y := 8) (by decide) (by decide)) rfl h2.obj (by decide) (by decide) (by decide), ?_, fun _ _ _ h => h.elim⟩
    rintro _ O3 A3 ⟨rfl, rfl, rfl⟩
    rw [rU_eq, rU_ne (show (6 : Nat) ≠ 8 by decide)]
    refine hb.run (aCuts [7, 35, 47, 66, 87, 95] J) 60 95 _ _ _ _ _ _ (aCuts_ok _) ?_
    simp only [↓wpi_isub, ↓wpi_lsub, ↓wpi_ineg, ↓wpi_lneg, ↓wpi_irem, ↓wpi_lrem, ↓wpi_iinc, wp1, wp, wpl, wpi, lget, lput1, lput2, ltail, lkill, aV, aVl, aNth, aPut, aFz, aC0, aC2, aSw, aCat1, aCuts, aSet_eq, List.take, List.drop, List.reverse_cons, List.reverse_nil, List.nil_append, List.cons_append, List.length_cons, List.length_nil, Option.toList, true_and, and_true, Nat.reduceAdd, Nat.reduceEqDiff, Nat.reduceLT, Nat.reduceLeDiff, Nat.zero_add, Nat.add_zero, if_true, if_false, ite_true, ite_false, reduceIte, reduceCtorEq, true_or, or_true, not_true_eq_false, not_false_eq_true, false_and, and_false, true_implies, false_implies, not_false_eq_true, bqX9_fits_0, blX9_fits_0, bqX9_fits_7, blX9_fits_7, bqX9_fits_18, blX9_fits_18, bqX9_fits_35, blX9_fits_35, bqX9_fits_39, blX9_fits_39, bqX9_fits_47, blX9_fits_47, bqX9_fits_50, blX9_fits_50, bqX9_fits_54, blX9_fits_54, bqX9_fits_58, blX9_fits_58, bqX9_fits_66, blX9_fits_66, bqX9_fits_69, blX9_fits_69, bqX9_fits_73, blX9_fits_73, bqX9_fits_74, blX9_fits_74, bqX9_fits_75, blX9_fits_75, bqX9_fits_87, blX9_fits_87, bqX9_fits_95, blX9_fits_95, bqX9_fits_98, blX9_fits_98, bqX9_fits_102, blX9_fits_102, bqX9_fits_103, blX9_fits_103, cmpI_ge]
    repeat' (apply And.intro <;> intro h)
    · refine fin false P _ _ ?_ h2
      rw [ft, decide_eq_true_iff]
      exact ⟨fun q => Bool.noConfusion q, fun q => by omega⟩
    · refine fin true P _ _ ?_ h2
      rw [ft, decide_eq_true_iff]
      exact ⟨fun _ => by omega, fun _ => rfl⟩
set_option maxRecDepth 4000 in
set_option maxHeartbeats 8000000 in
theorem m_sum (h : mW Y ρ τ ex N O0 A0 O A) {o : Nat} (ho : o ≤ 1) {s0 s1 : Bool} (t1 : τ 1 = sW s0 (ρ 0)) (t2 : τ 2 = sW s1 (ρ 2)) (hB : ∀ i, i < 4 → ρ i < 2 ^ 160) (y0 : 0 < ρ 1) (y1 : 0 < ρ 3) : aMet l G base tA yX9_sum cX9_sum 4 none rmM3 [.ref (Y 0), .int (nI o)] O A (fun r O' A' => r = none ∧ oM Y τ ex N O0 A0 (zI s0 (ρ 0 * ρ 3) + zI (if o = 0 then s1 else !s1) (ρ 2 * ρ 1)) (ρ 1 * ρ 3) O' A') := by
  refine aMet_of (ini := false) (B := aLook bkX9_sum) (by decide) (fun h => by first | rfl | cases h) (Nat.le_of_ble_eq_true rfl) boX9_sum ?_
  intro E J hb
  obtain ⟨nb, hnb⟩ : ∃ nb, nb = if o = 0 then s1 else !s1 := ⟨_, rfl⟩
  rw [← hnb] at hb
  have c0 := p80 (hB 0 (by decide)) (hB 3 (by decide))
  have c1 := p80 (hB 2 (by decide)) (hB 1 (by decide))
  have c2 := p80 (hB 1 (by decide)) (hB 3 (by decide))
  have d0 := p320 (hB 0 (by decide)) (hB 3 (by decide))
  have d1 := p320 (hB 2 (by decide)) (hB 1 (by decide))
  have go : ∀ x3 : Option Value, J 17 [some (.ref (Y 0)), some (.int (nI o)), none, x3] [.int (sW nb (ρ 2))] O A 0 0 := by
    intro x3
    refine hb.run (aCuts [25, 33, 40, 76, 105, 115, 133, 140] J) 60 17 _ _ _ _ _ _ (aCuts_ok _) ?_
    simp only [↓wpi_isub, ↓wpi_lsub, ↓wpi_ineg, ↓wpi_lneg, ↓wpi_irem, ↓wpi_lrem, ↓wpi_iinc, wp1, wp, wpl, wpi, lget, lput1, lput2, ltail, lkill, aV, aVl, aNth, aPut, aFz, aC0, aC2, aSw, aCat1, aCuts, aSet_eq, List.take, List.drop, List.reverse_cons, List.reverse_nil, List.nil_append, List.cons_append, List.length_cons, List.length_nil, Option.toList, true_and, and_true, Nat.reduceAdd, Nat.reduceEqDiff, Nat.reduceLT, Nat.reduceLeDiff, Nat.zero_add, Nat.add_zero, if_true, if_false, ite_true, ite_false, reduceIte, reduceCtorEq, true_or, or_true, not_true_eq_false, not_false_eq_true, false_and, and_false, true_implies, false_implies, not_false_eq_true, bqX9_sum_0, blX9_sum_0, bqX9_sum_4, blX9_sum_4, bqX9_sum_11, blX9_sum_11, bqX9_sum_17, blX9_sum_17, bqX9_sum_25, blX9_sum_25, bqX9_sum_33, blX9_sum_33, bqX9_sum_40, blX9_sum_40, bqX9_sum_47, blX9_sum_47, bqX9_sum_51, blX9_sum_51, bqX9_sum_59, blX9_sum_59, bqX9_sum_63, blX9_sum_63, bqX9_sum_64, blX9_sum_64, bqX9_sum_69, blX9_sum_69, bqX9_sum_76, blX9_sum_76, bqX9_sum_84, blX9_sum_84, bqX9_sum_88, blX9_sum_88, bqX9_sum_92, blX9_sum_92, bqX9_sum_98, blX9_sum_98, bqX9_sum_105, blX9_sum_105, bqX9_sum_108, blX9_sum_108, bqX9_sum_115, blX9_sum_115, bqX9_sum_126, blX9_sum_126, bqX9_sum_133, blX9_sum_133, bqX9_sum_140, blX9_sum_140, bqX9_sum_145, blX9_sum_145]
    refine ⟨_, _, _, _, hb.callV lvX9_195 (m_product h (x := 0) (y := 3) (to := 4) (by decide) (by decide) (by decide) c0) rfl h.obj (by decide) (by decide) (by decide), ?_, fun _ _ _ h => h.elim⟩
    rintro _ O1 A1 ⟨rfl, w1, h1⟩
    refine hb.run (aCuts [25, 33, 40, 76, 105, 115, 133, 140] J) 60 25 _ _ _ _ _ _ (aCuts_ok _) ?_
    simp only [↓wpi_isub, ↓wpi_lsub, ↓wpi_ineg, ↓wpi_lneg, ↓wpi_irem, ↓wpi_lrem, ↓wpi_iinc, wp1, wp, wpl, wpi, lget, lput1, lput2, ltail, lkill, aV, aVl, aNth, aPut, aFz, aC0, aC2, aSw, aCat1, aCuts, aSet_eq, List.take, List.drop, List.reverse_cons, List.reverse_nil, List.nil_append, List.cons_append, List.length_cons, List.length_nil, Option.toList, true_and, and_true, Nat.reduceAdd, Nat.reduceEqDiff, Nat.reduceLT, Nat.reduceLeDiff, Nat.zero_add, Nat.add_zero, if_true, if_false, ite_true, ite_false, reduceIte, reduceCtorEq, true_or, or_true, not_true_eq_false, not_false_eq_true, false_and, and_false, true_implies, false_implies, not_false_eq_true, bqX9_sum_0, blX9_sum_0, bqX9_sum_4, blX9_sum_4, bqX9_sum_11, blX9_sum_11, bqX9_sum_17, blX9_sum_17, bqX9_sum_25, blX9_sum_25, bqX9_sum_33, blX9_sum_33, bqX9_sum_40, blX9_sum_40, bqX9_sum_47, blX9_sum_47, bqX9_sum_51, blX9_sum_51, bqX9_sum_59, blX9_sum_59, bqX9_sum_63, blX9_sum_63, bqX9_sum_64, blX9_sum_64, bqX9_sum_69, blX9_sum_69, bqX9_sum_76, blX9_sum_76, bqX9_sum_84, blX9_sum_84, bqX9_sum_88, blX9_sum_88, bqX9_sum_92, blX9_sum_92, bqX9_sum_98, blX9_sum_98, bqX9_sum_105, blX9_sum_105, bqX9_sum_108, blX9_sum_108, bqX9_sum_115, blX9_sum_115, bqX9_sum_126, blX9_sum_126, bqX9_sum_133, blX9_sum_133, bqX9_sum_140, blX9_sum_140, bqX9_sum_145, blX9_sum_145]
    have q2 : rU (rU ρ 10 w1) 4 (ρ 0 * ρ 3) 2 = ρ 2 := by rw [rU_ne (by decide), rU_ne (by decide)]
    have q1 : rU (rU ρ 10 w1) 4 (ρ 0 * ρ 3) 1 = ρ 1 := by rw [rU_ne (by decide), rU_ne (by decide)]
    refine ⟨_, _, _, _, hb.callV lvX9_195 (m_product h1 (x := 2) (y := 1) (to := 9) (by decide) (by decide) (by decide) (by rw [q2, q1]; exact c1)) rfl h1.obj (by decide) (by decide) (by decide), ?_, fun _ _ _ h => h.elim⟩
    rintro _ O2 A2 ⟨rfl, w2, h2⟩
    rw [q2, q1] at h2
    obtain ⟨ρ2, hρ2⟩ : ∃ ρ2, ρ2 = rU (rU (rU (rU ρ 10 w1) 4 (ρ 0 * ρ 3)) 10 w2) 9 (ρ 2 * ρ 1) := ⟨_, rfl⟩
    rw [← hρ2] at h2
    have e4 : ρ2 4 = ρ 0 * ρ 3 := by rw [hρ2, rU_ne (by decide), rU_ne (by decide), rU_eq]
    have e9 : ρ2 9 = ρ 2 * ρ 1 := by rw [hρ2, rU_eq]
    have e1 : ρ2 1 = ρ 1 := by rw [hρ2, rU_ne (by decide), rU_ne (by decide), rU_ne (by decide), rU_ne (by decide)]
    have e3 : ρ2 3 = ρ 3 := by rw [hρ2, rU_ne (by decide), rU_ne (by decide), rU_ne (by decide), rU_ne (by decide)]
    refine hb.run (aCuts [25, 33, 40, 76, 105, 115, 133, 140] J) 60 33 _ _ _ _ _ _ (aCuts_ok _) ?_
    simp only [↓wpi_isub, ↓wpi_lsub, ↓wpi_ineg, ↓wpi_lneg, ↓wpi_irem, ↓wpi_lrem, ↓wpi_iinc, wp1, wp, wpl, wpi, lget, lput1, lput2, ltail, lkill, aV, aVl, aNth, aPut, aFz, aC0, aC2, aSw, aCat1, aCuts, aSet_eq, List.take, List.drop, List.reverse_cons, List.reverse_nil, List.nil_append, List.cons_append, List.length_cons, List.length_nil, Option.toList, true_and, and_true, Nat.reduceAdd, Nat.reduceEqDiff, Nat.reduceLT, Nat.reduceLeDiff, Nat.zero_add, Nat.add_zero, if_true, if_false, ite_true, ite_false, reduceIte, reduceCtorEq, true_or, or_true, not_true_eq_false, not_false_eq_true, false_and, and_false, true_implies, false_implies, not_false_eq_true, bqX9_sum_0, blX9_sum_0, bqX9_sum_4, blX9_sum_4, bqX9_sum_11, blX9_sum_11, bqX9_sum_17, blX9_sum_17, bqX9_sum_25, blX9_sum_25, bqX9_sum_33, blX9_sum_33, bqX9_sum_40, blX9_sum_40, bqX9_sum_47, blX9_sum_47, bqX9_sum_51, blX9_sum_51, bqX9_sum_59, blX9_sum_59, bqX9_sum_63, blX9_sum_63, bqX9_sum_64, blX9_sum_64, bqX9_sum_69, blX9_sum_69, bqX9_sum_76, blX9_sum_76, bqX9_sum_84, blX9_sum_84, bqX9_sum_88, blX9_sum_88, bqX9_sum_92, blX9_sum_92, bqX9_sum_98, blX9_sum_98, bqX9_sum_105, blX9_sum_105, bqX9_sum_108, blX9_sum_108, bqX9_sum_115, blX9_sum_115, bqX9_sum_126, blX9_sum_126, bqX9_sum_133, blX9_sum_133, bqX9_sum_140, blX9_sum_140, bqX9_sum_145, blX9_sum_145]
    refine ⟨_, _, _, _, hb.callV lvX9_195 (m_product h2 (x := 1) (y := 3) (to := 5) (by decide) (by decide) (by decide) (by rw [e1, e3]; exact c2)) rfl h2.obj (by decide) (by decide) (by decide), ?_, fun _ _ _ h => h.elim⟩
    rintro _ O3 A3 ⟨rfl, w3, h3⟩
    rw [e1, e3] at h3
    obtain ⟨ρ3, hρ3⟩ : ∃ ρ3, ρ3 = rU (rU ρ2 10 w3) 5 (ρ 1 * ρ 3) := ⟨_, rfl⟩
    rw [← hρ3] at h3
    have f4 : ρ3 4 = ρ 0 * ρ 3 := by rw [hρ3, rU_ne (by decide), rU_ne (by decide), e4]
    have f9 : ρ3 9 = ρ 2 * ρ 1 := by rw [hρ3, rU_ne (by decide), rU_ne (by decide), e9]
    have f5 : ρ3 5 = ρ 1 * ρ 3 := by rw [hρ3, rU_eq]
    have z0 : ρ 0 = 0 ↔ ρ 0 * ρ 3 = 0 := ⟨fun e => by rw [e, Nat.zero_mul], fun e => (Nat.mul_eq_zero.mp e).resolve_right (by omega)⟩
    have z2 : ρ 2 = 0 ↔ ρ 2 * ρ 1 = 0 := ⟨fun e => by rw [e, Nat.zero_mul], fun e => (Nat.mul_eq_zero.mp e).resolve_right (by omega)⟩
    have w0 : (sW s0 (ρ 0) = 0) = (ρ 0 * ρ 3 = 0) := by rw [sW_0, z0]
    have w2' : (sW nb (ρ 2) = 0) = (ρ 2 * ρ 1 = 0) := by rw [sW_0, z2]
    obtain ⟨a, ha⟩ : ∃ a, a = ρ 0 * ρ 3 := ⟨_, rfl⟩
    obtain ⟨b, hbb⟩ : ∃ b, b = ρ 2 * ρ 1 := ⟨_, rfl⟩
    rw [← ha] at f4 w0 d0 z0
    rw [← hbb] at f9 w2' d1 z2
    rw [← ha, ← hbb] at hb
    have obj := h3.obj
    rw [t1] at obj
    have B80' := B80
    have sum1 : ρ3 4 + ρ3 9 < 65536 ^ 80 := by rw [f4, f9]; omega
    have add1 : (sW s0 (ρ 0) = 0 ∨ sW nb (ρ 2) = 0 ∨ sW s0 (ρ 0) = sW nb (ρ 2)) → (zI s0 a + zI nb b).natAbs = a + b → (∀ s, s = (if a = 0 then sW nb (ρ 2) else sW s0 (ρ 0)) → zI s0 a + zI nb b ≠ 0 → s = sBI (decide (zI s0 a + zI nb b < 0))) → J 40 [some (.ref (Y 0)), some (.int (nI o)), some (.int (sW nb (ρ 2))), x3] [] O3 A3 0 0 := by
      intro hor hab hsg
      have k76 : J 69 [some (.ref (Y 0)), some (.int (nI o)), some (.int (sW nb (ρ 2))), some (.int (nI 1))] [] O3 A3 0 0 := by
        refine hb.run (aCuts [25, 33, 40, 76, 105, 115, 133, 140] J) 60 69 _ _ _ _ _ _ (aCuts_ok _) ?_
        simp only [↓wpi_isub, ↓wpi_lsub, ↓wpi_ineg, ↓wpi_lneg, ↓wpi_irem, ↓wpi_lrem, ↓wpi_iinc, wp1, wp, wpl, wpi, lget, lput1, lput2, ltail, lkill, aV, aVl, aNth, aPut, aFz, aC0, aC2, aSw, aCat1, aCuts, aSet_eq, List.take, List.drop, List.reverse_cons, List.reverse_nil, List.nil_append, List.cons_append, List.length_cons, List.length_nil, Option.toList, true_and, and_true, Nat.reduceAdd, Nat.reduceEqDiff, Nat.reduceLT, Nat.reduceLeDiff, Nat.zero_add, Nat.add_zero, if_true, if_false, ite_true, ite_false, reduceIte, reduceCtorEq, true_or, or_true, not_true_eq_false, not_false_eq_true, false_and, and_false, true_implies, false_implies, not_false_eq_true, bqX9_sum_0, blX9_sum_0, bqX9_sum_4, blX9_sum_4, bqX9_sum_11, blX9_sum_11, bqX9_sum_17, blX9_sum_17, bqX9_sum_25, blX9_sum_25, bqX9_sum_33, blX9_sum_33, bqX9_sum_40, blX9_sum_40, bqX9_sum_47, blX9_sum_47, bqX9_sum_51, blX9_sum_51, bqX9_sum_59, blX9_sum_59, bqX9_sum_63, blX9_sum_63, bqX9_sum_64, blX9_sum_64, bqX9_sum_69, blX9_sum_69, bqX9_sum_76, blX9_sum_76, bqX9_sum_84, blX9_sum_84, bqX9_sum_88, blX9_sum_88, bqX9_sum_92, blX9_sum_92, bqX9_sum_98, blX9_sum_98, bqX9_sum_105, blX9_sum_105, bqX9_sum_108, blX9_sum_108, bqX9_sum_115, blX9_sum_115, bqX9_sum_126, blX9_sum_126, bqX9_sum_133, blX9_sum_133, bqX9_sum_140, blX9_sum_140, bqX9_sum_145, blX9_sum_145]
        refine ⟨_, _, _, _, hb.callV lvX9_198 (m_add h3 (x := 4) (y := 9) (by decide) (by decide) (by decide) sum1) rfl h3.obj (by decide) (by decide) (by decide), ?_, fun _ _ _ h => h.elim⟩
        rintro _ O4 A4 ⟨rfl, h4⟩
        rw [f4, f9] at h4
        have obj4 := h4.obj
        rw [t1] at obj4
        refine hb.run (aCuts [25, 33, 40, 76, 105, 115, 133, 140] J) 60 76 _ _ _ _ _ _ (aCuts_ok _) ?_
        by_cases qa : a = 0
        · have ea : (sW s0 (ρ 0) = 0) = True := by rw [w0]; simp [qa]
          simp only [↓wpi_isub, ↓wpi_lsub, ↓wpi_ineg, ↓wpi_lneg, ↓wpi_irem, ↓wpi_lrem, ↓wpi_iinc, wp1, wp, wpl, wpi, lget, lput1, lput2, ltail, lkill, aV, aVl, aNth, aPut, aFz, aC0, aC2, aSw, aCat1, aCuts, aSet_eq, List.take, List.drop, List.reverse_cons, List.reverse_nil, List.nil_append, List.cons_append, List.length_cons, List.length_nil, Option.toList, true_and, and_true, Nat.reduceAdd, Nat.reduceEqDiff, Nat.reduceLT, Nat.reduceLeDiff, Nat.zero_add, Nat.add_zero, if_true, if_false, ite_true, ite_false, reduceIte, reduceCtorEq, true_or, or_true, not_true_eq_false, not_false_eq_true, false_and, and_false, true_implies, false_implies, not_false_eq_true, bqX9_sum_0, blX9_sum_0, bqX9_sum_4, blX9_sum_4, bqX9_sum_11, blX9_sum_11, bqX9_sum_17, blX9_sum_17, bqX9_sum_25, blX9_sum_25, bqX9_sum_33, blX9_sum_33, bqX9_sum_40, blX9_sum_40, bqX9_sum_47, blX9_sum_47, bqX9_sum_51, blX9_sum_51, bqX9_sum_59, blX9_sum_59, bqX9_sum_63, blX9_sum_63, bqX9_sum_64, blX9_sum_64, bqX9_sum_69, blX9_sum_69, bqX9_sum_76, blX9_sum_76, bqX9_sum_84, blX9_sum_84, bqX9_sum_88, blX9_sum_88, bqX9_sum_92, blX9_sum_92, bqX9_sum_98, blX9_sum_98, bqX9_sum_105, blX9_sum_105, bqX9_sum_108, blX9_sum_108, bqX9_sum_115, blX9_sum_115, bqX9_sum_126, blX9_sum_126, bqX9_sum_133, blX9_sum_133, bqX9_sum_140, blX9_sum_140, bqX9_sum_145, blX9_sum_145, obj4, ea]
          rw [← t1]
          refine hb.vret ⟨rfl, rU ρ3 4 (a + b), sW nb (ρ 2), h4.fld (tU τ 3 (sW nb (ρ 2))) ex, by rw [rU_eq, hab], by rw [rU_ne (by decide)]; exact f5, hsg _ (by rw [if_pos qa])⟩ (by decide) (by decide)
        · have ea : (sW s0 (ρ 0) = 0) = False := by rw [w0]; simp [qa]
          simp only [↓wpi_isub, ↓wpi_lsub, ↓wpi_ineg, ↓wpi_lneg, ↓wpi_irem, ↓wpi_lrem, ↓wpi_iinc, wp1, wp, wpl, wpi, lget, lput1, lput2, ltail, lkill, aV, aVl, aNth, aPut, aFz, aC0, aC2, aSw, aCat1, aCuts, aSet_eq, List.take, List.drop, List.reverse_cons, List.reverse_nil, List.nil_append, List.cons_append, List.length_cons, List.length_nil, Option.toList, true_and, and_true, Nat.reduceAdd, Nat.reduceEqDiff, Nat.reduceLT, Nat.reduceLeDiff, Nat.zero_add, Nat.add_zero, if_true, if_false, ite_true, ite_false, reduceIte, reduceCtorEq, true_or, or_true, not_true_eq_false, not_false_eq_true, false_and, and_false, true_implies, false_implies, not_false_eq_true, bqX9_sum_0, blX9_sum_0, bqX9_sum_4, blX9_sum_4, bqX9_sum_11, blX9_sum_11, bqX9_sum_17, blX9_sum_17, bqX9_sum_25, blX9_sum_25, bqX9_sum_33, blX9_sum_33, bqX9_sum_40, blX9_sum_40, bqX9_sum_47, blX9_sum_47, bqX9_sum_51, blX9_sum_51, bqX9_sum_59, blX9_sum_59, bqX9_sum_63, blX9_sum_63, bqX9_sum_64, blX9_sum_64, bqX9_sum_69, blX9_sum_69, bqX9_sum_76, blX9_sum_76, bqX9_sum_84, blX9_sum_84, bqX9_sum_88, blX9_sum_88, bqX9_sum_92, blX9_sum_92, bqX9_sum_98, blX9_sum_98, bqX9_sum_105, blX9_sum_105, bqX9_sum_108, blX9_sum_108, bqX9_sum_115, blX9_sum_115, bqX9_sum_126, blX9_sum_126, bqX9_sum_133, blX9_sum_133, bqX9_sum_140, blX9_sum_140, bqX9_sum_145, blX9_sum_145, obj4, ea]
          rw [← t1]
          refine hb.vret ⟨rfl, rU ρ3 4 (a + b), τ 1, h4.fld (tU τ 3 (τ 1)) ex, by rw [rU_eq, hab], by rw [rU_ne (by decide)]; exact f5, hsg _ (by rw [if_neg qa, t1])⟩ (by decide) (by decide)
      refine hb.run (aCuts [69, 98] J) 60 40 _ _ _ _ _ _ (aCuts_ok _) ?_
      by_cases q1 : sW s0 (ρ 0) = 0
      · have e1 : (sW s0 (ρ 0) = 0) = True := by simp [q1]
        simp only [↓wpi_isub, ↓wpi_lsub, ↓wpi_ineg, ↓wpi_lneg, ↓wpi_irem, ↓wpi_lrem, ↓wpi_iinc, wp1, wp, wpl, wpi, lget, lput1, lput2, ltail, lkill, aV, aVl, aNth, aPut, aFz, aC0, aC2, aSw, aCat1, aCuts, aSet_eq, List.take, List.drop, List.reverse_cons, List.reverse_nil, List.nil_append, List.cons_append, List.length_cons, List.length_nil, Option.toList, true_and, and_true, Nat.reduceAdd, Nat.reduceEqDiff, Nat.reduceLT, Nat.reduceLeDiff, Nat.zero_add, Nat.add_zero, if_true, if_false, ite_true, ite_false, reduceIte, reduceCtorEq, true_or, or_true, not_true_eq_false, not_false_eq_true, false_and, and_false, true_implies, false_implies, not_false_eq_true, bqX9_sum_0, blX9_sum_0, bqX9_sum_4, blX9_sum_4, bqX9_sum_11, blX9_sum_11, bqX9_sum_17, blX9_sum_17, bqX9_sum_25, blX9_sum_25, bqX9_sum_33, blX9_sum_33, bqX9_sum_40, blX9_sum_40, bqX9_sum_47, blX9_sum_47, bqX9_sum_51, blX9_sum_51, bqX9_sum_59, blX9_sum_59, bqX9_sum_63, blX9_sum_63, bqX9_sum_64, blX9_sum_64, bqX9_sum_69, blX9_sum_69, bqX9_sum_76, blX9_sum_76, bqX9_sum_84, blX9_sum_84, bqX9_sum_88, blX9_sum_88, bqX9_sum_92, blX9_sum_92, bqX9_sum_98, blX9_sum_98, bqX9_sum_105, blX9_sum_105, bqX9_sum_108, blX9_sum_108, bqX9_sum_115, blX9_sum_115, bqX9_sum_126, blX9_sum_126, bqX9_sum_133, blX9_sum_133, bqX9_sum_140, blX9_sum_140, bqX9_sum_145, blX9_sum_145, obj, e1, n1_0]
        exact k76
      · have e1 : (sW s0 (ρ 0) = 0) = False := by simp [q1]
        by_cases q2 : sW nb (ρ 2) = 0
        · have e2 : (sW nb (ρ 2) = 0) = True := by simp [q2]
          simp only [↓wpi_isub, ↓wpi_lsub, ↓wpi_ineg, ↓wpi_lneg, ↓wpi_irem, ↓wpi_lrem, ↓wpi_iinc, wp1, wp, wpl, wpi, lget, lput1, lput2, ltail, lkill, aV, aVl, aNth, aPut, aFz, aC0, aC2, aSw, aCat1, aCuts, aSet_eq, List.take, List.drop, List.reverse_cons, List.reverse_nil, List.nil_append, List.cons_append, List.length_cons, List.length_nil, Option.toList, true_and, and_true, Nat.reduceAdd, Nat.reduceEqDiff, Nat.reduceLT, Nat.reduceLeDiff, Nat.zero_add, Nat.add_zero, if_true, if_false, ite_true, ite_false, reduceIte, reduceCtorEq, true_or, or_true, not_true_eq_false, not_false_eq_true, false_and, and_false, true_implies, false_implies, not_false_eq_true, bqX9_sum_0, blX9_sum_0, bqX9_sum_4, blX9_sum_4, bqX9_sum_11, blX9_sum_11, bqX9_sum_17, blX9_sum_17, bqX9_sum_25, blX9_sum_25, bqX9_sum_33, blX9_sum_33, bqX9_sum_40, blX9_sum_40, bqX9_sum_47, blX9_sum_47, bqX9_sum_51, blX9_sum_51, bqX9_sum_59, blX9_sum_59, bqX9_sum_63, blX9_sum_63, bqX9_sum_64, blX9_sum_64, bqX9_sum_69, blX9_sum_69, bqX9_sum_76, blX9_sum_76, bqX9_sum_84, blX9_sum_84, bqX9_sum_88, blX9_sum_88, bqX9_sum_92, blX9_sum_92, bqX9_sum_98, blX9_sum_98, bqX9_sum_105, blX9_sum_105, bqX9_sum_108, blX9_sum_108, bqX9_sum_115, blX9_sum_115, bqX9_sum_126, blX9_sum_126, bqX9_sum_133, blX9_sum_133, bqX9_sum_140, blX9_sum_140, bqX9_sum_145, blX9_sum_145, obj, e1, e2, n1_0]
          exact k76
        · have e2 : (sW nb (ρ 2) = 0) = False := by simp [q2]
          have e3 : (sW s0 (ρ 0) = sW nb (ρ 2)) = True := by simp only [eq_iff_iff, iff_true]; rcases hor with q | q | q; exact absurd q q1; exact absurd q q2; exact q
          simp only [↓wpi_isub, ↓wpi_lsub, ↓wpi_ineg, ↓wpi_lneg, ↓wpi_irem, ↓wpi_lrem, ↓wpi_iinc, wp1, wp, wpl, wpi, lget, lput1, lput2, ltail, lkill, aV, aVl, aNth, aPut, aFz, aC0, aC2, aSw, aCat1, aCuts, aSet_eq, List.take, List.drop, List.reverse_cons, List.reverse_nil, List.nil_append, List.cons_append, List.length_cons, List.length_nil, Option.toList, true_and, and_true, Nat.reduceAdd, Nat.reduceEqDiff, Nat.reduceLT, Nat.reduceLeDiff, Nat.zero_add, Nat.add_zero, if_true, if_false, ite_true, ite_false, reduceIte, reduceCtorEq, true_or, or_true, not_true_eq_false, not_false_eq_true, false_and, and_false, true_implies, false_implies, not_false_eq_true, bqX9_sum_0, blX9_sum_0, bqX9_sum_4, blX9_sum_4, bqX9_sum_11, blX9_sum_11, bqX9_sum_17, blX9_sum_17, bqX9_sum_25, blX9_sum_25, bqX9_sum_33, blX9_sum_33, bqX9_sum_40, blX9_sum_40, bqX9_sum_47, blX9_sum_47, bqX9_sum_51, blX9_sum_51, bqX9_sum_59, blX9_sum_59, bqX9_sum_63, blX9_sum_63, bqX9_sum_64, blX9_sum_64, bqX9_sum_69, blX9_sum_69, bqX9_sum_76, blX9_sum_76, bqX9_sum_84, blX9_sum_84, bqX9_sum_88, blX9_sum_88, bqX9_sum_92, blX9_sum_92, bqX9_sum_98, blX9_sum_98, bqX9_sum_105, blX9_sum_105, bqX9_sum_108, blX9_sum_108, bqX9_sum_115, blX9_sum_115, bqX9_sum_126, blX9_sum_126, bqX9_sum_133, blX9_sum_133, bqX9_sum_140, blX9_sum_140, bqX9_sum_145, blX9_sum_145, obj, e1, e2, e3, n1_0]
          exact k76
    by_cases qa : a = 0
    · refine add1 (Or.inl (by rw [w0]; exact qa)) (by rw [qa]; cases s0 <;> cases nb <;> simp [zI]) fun s hs hz => ?_
      have hz0 : zI s0 a = 0 := by rw [qa]; cases s0 <;> rfl
      rw [hz0, Int.zero_add] at hz ⊢
      have qb : ρ 2 ≠ 0 := fun e => hz (by rw [z2.mp e]; cases nb <;> rfl)
      have qb' : b ≠ 0 := fun e => qb (z2.mpr e)
      rw [hs, if_pos qa, zI_neg, decide_eq_true qb', Bool.and_true]; unfold sW; rw [if_neg qb]
    · have ra : ρ 0 ≠ 0 := fun e => qa (z0.mp e)
      have sa : sW s0 (ρ 0) = sBI s0 := by unfold sW; rw [if_neg ra]
      by_cases qb : b = 0
      · refine add1 (Or.inr (Or.inl (by rw [w2']; exact qb))) (by rw [qb]; cases s0 <;> cases nb <;> simp [zI]) fun s hs hz => ?_
        have hz0 : zI nb b = 0 := by rw [qb]; cases nb <;> rfl
        rw [hz0, Int.add_zero] at hz ⊢
        rw [hs, if_neg qa, zI_neg, decide_eq_true qa, Bool.and_true, sa]
      · have rb : ρ 2 ≠ 0 := fun e => qb (z2.mp e)
        have sb : sW nb (ρ 2) = sBI nb := by unfold sW; rw [if_neg rb]
        by_cases qs : s0 = nb
        · refine add1 (Or.inr (Or.inr (by rw [sa, sb, qs]))) ?_ fun s hs hz => ?_
          · subst qs; rw [zadd_same, zI_abs]
          · rw [hs, if_neg qa, sa]; subst qs; rw [zadd_same, zI_neg, decide_eq_true (by omega), Bool.and_true]
        · have hnn : nb = !s0 := by cases s0 <;> cases nb <;> simp_all
          have e1 : (sBI s0 = 0) = False := sBI_ne
          have e2 : (sBI nb = 0) = False := sBI_ne
          have e3 : (sBI s0 = sBI nb) = False := by rw [sBI_inj]; simp [qs]
          rw [sa] at obj
          rw [sb]
          refine hb.run (aCuts [25, 33, 40, 76, 105, 115, 133, 140] J) 60 40 _ _ _ _ _ _ (aCuts_ok _) ?_
          simp only [↓wpi_isub, ↓wpi_lsub, ↓wpi_ineg, ↓wpi_lneg, ↓wpi_irem, ↓wpi_lrem, ↓wpi_iinc, wp1, wp, wpl, wpi, lget, lput1, lput2, ltail, lkill, aV, aVl, aNth, aPut, aFz, aC0, aC2, aSw, aCat1, aCuts, aSet_eq, List.take, List.drop, List.reverse_cons, List.reverse_nil, List.nil_append, List.cons_append, List.length_cons, List.length_nil, Option.toList, true_and, and_true, Nat.reduceAdd, Nat.reduceEqDiff, Nat.reduceLT, Nat.reduceLeDiff, Nat.zero_add, Nat.add_zero, if_true, if_false, ite_true, ite_false, reduceIte, reduceCtorEq, true_or, or_true, not_true_eq_false, not_false_eq_true, false_and, and_false, true_implies, false_implies, not_false_eq_true, bqX9_sum_0, blX9_sum_0, bqX9_sum_4, blX9_sum_4, bqX9_sum_11, blX9_sum_11, bqX9_sum_17, blX9_sum_17, bqX9_sum_25, blX9_sum_25, bqX9_sum_33, blX9_sum_33, bqX9_sum_40, blX9_sum_40, bqX9_sum_47, blX9_sum_47, bqX9_sum_51, blX9_sum_51, bqX9_sum_59, blX9_sum_59, bqX9_sum_63, blX9_sum_63, bqX9_sum_64, blX9_sum_64, bqX9_sum_69, blX9_sum_69, bqX9_sum_76, blX9_sum_76, bqX9_sum_84, blX9_sum_84, bqX9_sum_88, blX9_sum_88, bqX9_sum_92, blX9_sum_92, bqX9_sum_98, blX9_sum_98, bqX9_sum_105, blX9_sum_105, bqX9_sum_108, blX9_sum_108, bqX9_sum_115, blX9_sum_115, bqX9_sum_126, blX9_sum_126, bqX9_sum_133, blX9_sum_133, bqX9_sum_140, blX9_sum_140, bqX9_sum_145, blX9_sum_145, obj, e1, e2, e3, n0_0]
          refine ⟨_, _, _, _, hb.callV lvX9_58 (m_order h3 (x := 4) (y := 9) (by decide) (by decide)) rfl h3.obj (by decide) (by decide) (by decide), ?_, fun _ _ _ h => h.elim⟩
          rintro _ O4 A4 ⟨rfl, rfl, rfl⟩
          rw [f4, f9]
          refine hb.run (aCuts [25, 33, 40, 76, 105, 115, 133, 140] J) 60 105 _ _ _ _ _ _ (aCuts_ok _) ?_
          by_cases qlt : a < b
          · have e4 : (cmpI a b < 0) = True := by rw [cmpI_lt0]; simp [qlt]
            simp only [↓wpi_isub, ↓wpi_lsub, ↓wpi_ineg, ↓wpi_lneg, ↓wpi_irem, ↓wpi_lrem, ↓wpi_iinc, wp1, wp, wpl, wpi, lget, lput1, lput2, ltail, lkill, aV, aVl, aNth, aPut, aFz, aC0, aC2, aSw, aCat1, aCuts, aSet_eq, List.take, List.drop, List.reverse_cons, List.reverse_nil, List.nil_append, List.cons_append, List.length_cons, List.length_nil, Option.toList, true_and, and_true, Nat.reduceAdd, Nat.reduceEqDiff, Nat.reduceLT, Nat.reduceLeDiff, Nat.zero_add, Nat.add_zero, if_true, if_false, ite_true, ite_false, reduceIte, reduceCtorEq, true_or, or_true, not_true_eq_false, not_false_eq_true, false_and, and_false, true_implies, false_implies, not_false_eq_true, bqX9_sum_0, blX9_sum_0, bqX9_sum_4, blX9_sum_4, bqX9_sum_11, blX9_sum_11, bqX9_sum_17, blX9_sum_17, bqX9_sum_25, blX9_sum_25, bqX9_sum_33, blX9_sum_33, bqX9_sum_40, blX9_sum_40, bqX9_sum_47, blX9_sum_47, bqX9_sum_51, blX9_sum_51, bqX9_sum_59, blX9_sum_59, bqX9_sum_63, blX9_sum_63, bqX9_sum_64, blX9_sum_64, bqX9_sum_69, blX9_sum_69, bqX9_sum_76, blX9_sum_76, bqX9_sum_84, blX9_sum_84, bqX9_sum_88, blX9_sum_88, bqX9_sum_92, blX9_sum_92, bqX9_sum_98, blX9_sum_98, bqX9_sum_105, blX9_sum_105, bqX9_sum_108, blX9_sum_108, bqX9_sum_115, blX9_sum_115, bqX9_sum_126, blX9_sum_126, bqX9_sum_133, blX9_sum_133, bqX9_sum_140, blX9_sum_140, bqX9_sum_145, blX9_sum_145, e4]
            refine ⟨_, _, _, _, hb.callV lvX9_61 (m_less h3 (x := 9) (y := 4) (by decide) (by decide) (by decide) (by rw [f4, f9]; omega)) rfl h3.obj (by decide) (by decide) (by decide), ?_, fun _ _ _ h => h.elim⟩
            rintro _ O5 A5 ⟨rfl, h5⟩
            rw [f4, f9] at h5
            refine hb.run (aCuts [25, 33, 40, 76, 105, 115, 133, 140] J) 60 133 _ _ _ _ _ _ (aCuts_ok _) ?_
            simp only [↓wpi_isub, ↓wpi_lsub, ↓wpi_ineg, ↓wpi_lneg, ↓wpi_irem, ↓wpi_lrem, ↓wpi_iinc, wp1, wp, wpl, wpi, lget, lput1, lput2, ltail, lkill, aV, aVl, aNth, aPut, aFz, aC0, aC2, aSw, aCat1, aCuts, aSet_eq, List.take, List.drop, List.reverse_cons, List.reverse_nil, List.nil_append, List.cons_append, List.length_cons, List.length_nil, Option.toList, true_and, and_true, Nat.reduceAdd, Nat.reduceEqDiff, Nat.reduceLT, Nat.reduceLeDiff, Nat.zero_add, Nat.add_zero, if_true, if_false, ite_true, ite_false, reduceIte, reduceCtorEq, true_or, or_true, not_true_eq_false, not_false_eq_true, false_and, and_false, true_implies, false_implies, not_false_eq_true, bqX9_sum_0, blX9_sum_0, bqX9_sum_4, blX9_sum_4, bqX9_sum_11, blX9_sum_11, bqX9_sum_17, blX9_sum_17, bqX9_sum_25, blX9_sum_25, bqX9_sum_33, blX9_sum_33, bqX9_sum_40, blX9_sum_40, bqX9_sum_47, blX9_sum_47, bqX9_sum_51, blX9_sum_51, bqX9_sum_59, blX9_sum_59, bqX9_sum_63, blX9_sum_63, bqX9_sum_64, blX9_sum_64, bqX9_sum_69, blX9_sum_69, bqX9_sum_76, blX9_sum_76, bqX9_sum_84, blX9_sum_84, bqX9_sum_88, blX9_sum_88, bqX9_sum_92, blX9_sum_92, bqX9_sum_98, blX9_sum_98, bqX9_sum_105, blX9_sum_105, bqX9_sum_108, blX9_sum_108, bqX9_sum_115, blX9_sum_115, bqX9_sum_126, blX9_sum_126, bqX9_sum_133, blX9_sum_133, bqX9_sum_140, blX9_sum_140, bqX9_sum_145, blX9_sum_145]
            refine ⟨_, _, _, _, hb.callV lvX9_47 (m_copy h5 (x := 9) (y := 4) (by decide) (by decide) (by decide)) rfl h5.obj (by decide) (by decide) (by decide), ?_, fun _ _ _ h => h.elim⟩
            rintro _ O6 A6 ⟨rfl, h6⟩
            rw [rU_eq] at h6
            refine hb.run (aCuts [25, 33, 40, 76, 105, 115, 133, 140] J) 60 140 _ _ _ _ _ _ (aCuts_ok _) ?_
            simp only [↓wpi_isub, ↓wpi_lsub, ↓wpi_ineg, ↓wpi_lneg, ↓wpi_irem, ↓wpi_lrem, ↓wpi_iinc, wp1, wp, wpl, wpi, lget, lput1, lput2, ltail, lkill, aV, aVl, aNth, aPut, aFz, aC0, aC2, aSw, aCat1, aCuts, aSet_eq, List.take, List.drop, List.reverse_cons, List.reverse_nil, List.nil_append, List.cons_append, List.length_cons, List.length_nil, Option.toList, true_and, and_true, Nat.reduceAdd, Nat.reduceEqDiff, Nat.reduceLT, Nat.reduceLeDiff, Nat.zero_add, Nat.add_zero, if_true, if_false, ite_true, ite_false, reduceIte, reduceCtorEq, true_or, or_true, not_true_eq_false, not_false_eq_true, false_and, and_false, true_implies, false_implies, not_false_eq_true, bqX9_sum_0, blX9_sum_0, bqX9_sum_4, blX9_sum_4, bqX9_sum_11, blX9_sum_11, bqX9_sum_17, blX9_sum_17, bqX9_sum_25, blX9_sum_25, bqX9_sum_33, blX9_sum_33, bqX9_sum_40, blX9_sum_40, bqX9_sum_47, blX9_sum_47, bqX9_sum_51, blX9_sum_51, bqX9_sum_59, blX9_sum_59, bqX9_sum_63, blX9_sum_63, bqX9_sum_64, blX9_sum_64, bqX9_sum_69, blX9_sum_69, bqX9_sum_76, blX9_sum_76, bqX9_sum_84, blX9_sum_84, bqX9_sum_88, blX9_sum_88, bqX9_sum_92, blX9_sum_92, bqX9_sum_98, blX9_sum_98, bqX9_sum_105, blX9_sum_105, bqX9_sum_108, blX9_sum_108, bqX9_sum_115, blX9_sum_115, bqX9_sum_126, blX9_sum_126, bqX9_sum_133, blX9_sum_133, bqX9_sum_140, blX9_sum_140, bqX9_sum_145, blX9_sum_145, h6.obj]
            refine hb.vret ⟨rfl, _, sBI nb, h6.fld (tU τ 3 (sBI nb)) ex, ?_, by rw [rU_ne (by decide), rU_ne (by decide)]; exact f5, fun hz => ?_⟩ (by decide) (by decide)
            · rw [rU_eq, hnn, zadd_lt (by omega), zI_abs]
            · rw [hnn, zadd_lt (by omega), zI_neg, decide_eq_true (by omega), Bool.and_true]
          · have e4 : (cmpI a b < 0) = False := by rw [cmpI_lt0]; simp only [eq_iff_iff, iff_false]; exact qlt
            simp only [↓wpi_isub, ↓wpi_lsub, ↓wpi_ineg, ↓wpi_lneg, ↓wpi_irem, ↓wpi_lrem, ↓wpi_iinc, wp1, wp, wpl, wpi, lget, lput1, lput2, ltail, lkill, aV, aVl, aNth, aPut, aFz, aC0, aC2, aSw, aCat1, aCuts, aSet_eq, List.take, List.drop, List.reverse_cons, List.reverse_nil, List.nil_append, List.cons_append, List.length_cons, List.length_nil, Option.toList, true_and, and_true, Nat.reduceAdd, Nat.reduceEqDiff, Nat.reduceLT, Nat.reduceLeDiff, Nat.zero_add, Nat.add_zero, if_true, if_false, ite_true, ite_false, reduceIte, reduceCtorEq, true_or, or_true, not_true_eq_false, not_false_eq_true, false_and, and_false, true_implies, false_implies, not_false_eq_true, bqX9_sum_0, blX9_sum_0, bqX9_sum_4, blX9_sum_4, bqX9_sum_11, blX9_sum_11, bqX9_sum_17, blX9_sum_17, bqX9_sum_25, blX9_sum_25, bqX9_sum_33, blX9_sum_33, bqX9_sum_40, blX9_sum_40, bqX9_sum_47, blX9_sum_47, bqX9_sum_51, blX9_sum_51, bqX9_sum_59, blX9_sum_59, bqX9_sum_63, blX9_sum_63, bqX9_sum_64, blX9_sum_64, bqX9_sum_69, blX9_sum_69, bqX9_sum_76, blX9_sum_76, bqX9_sum_84, blX9_sum_84, bqX9_sum_88, blX9_sum_88, bqX9_sum_92, blX9_sum_92, bqX9_sum_98, blX9_sum_98, bqX9_sum_105, blX9_sum_105, bqX9_sum_108, blX9_sum_108, bqX9_sum_115, blX9_sum_115, bqX9_sum_126, blX9_sum_126, bqX9_sum_133, blX9_sum_133, bqX9_sum_140, blX9_sum_140, bqX9_sum_145, blX9_sum_145, e4]
            refine ⟨_, _, _, _, hb.callV lvX9_61 (m_less h3 (x := 4) (y := 9) (by decide) (by decide) (by decide) (by rw [f4, f9]; omega)) rfl h3.obj (by decide) (by decide) (by decide), ?_, fun _ _ _ h => h.elim⟩
            rintro _ O5 A5 ⟨rfl, h5⟩
            rw [f4, f9] at h5
            have obj5 := h5.obj
            rw [t1, sa] at obj5
            refine hb.run (aCuts [25, 33, 40, 76, 105, 115, 133, 140] J) 60 115 _ _ _ _ _ _ (aCuts_ok _) ?_
            simp only [↓wpi_isub, ↓wpi_lsub, ↓wpi_ineg, ↓wpi_lneg, ↓wpi_irem, ↓wpi_lrem, ↓wpi_iinc, wp1, wp, wpl, wpi, lget, lput1, lput2, ltail, lkill, aV, aVl, aNth, aPut, aFz, aC0, aC2, aSw, aCat1, aCuts, aSet_eq, List.take, List.drop, List.reverse_cons, List.reverse_nil, List.nil_append, List.cons_append, List.length_cons, List.length_nil, Option.toList, true_and, and_true, Nat.reduceAdd, Nat.reduceEqDiff, Nat.reduceLT, Nat.reduceLeDiff, Nat.zero_add, Nat.add_zero, if_true, if_false, ite_true, ite_false, reduceIte, reduceCtorEq, true_or, or_true, not_true_eq_false, not_false_eq_true, false_and, and_false, true_implies, false_implies, not_false_eq_true, bqX9_sum_0, blX9_sum_0, bqX9_sum_4, blX9_sum_4, bqX9_sum_11, blX9_sum_11, bqX9_sum_17, blX9_sum_17, bqX9_sum_25, blX9_sum_25, bqX9_sum_33, blX9_sum_33, bqX9_sum_40, blX9_sum_40, bqX9_sum_47, blX9_sum_47, bqX9_sum_51, blX9_sum_51, bqX9_sum_59, blX9_sum_59, bqX9_sum_63, blX9_sum_63, bqX9_sum_64, blX9_sum_64, bqX9_sum_69, blX9_sum_69, bqX9_sum_76, blX9_sum_76, bqX9_sum_84, blX9_sum_84, bqX9_sum_88, blX9_sum_88, bqX9_sum_92, blX9_sum_92, bqX9_sum_98, blX9_sum_98, bqX9_sum_105, blX9_sum_105, bqX9_sum_108, blX9_sum_108, bqX9_sum_115, blX9_sum_115, bqX9_sum_126, blX9_sum_126, bqX9_sum_133, blX9_sum_133, bqX9_sum_140, blX9_sum_140, bqX9_sum_145, blX9_sum_145, obj5]
            rw [← sa, ← t1]
            refine hb.vret ⟨rfl, rU ρ3 4 (a - b), τ 1, h5.fld (tU τ 3 (τ 1)) ex, ?_, by rw [rU_ne (by decide)]; exact f5, fun hz => ?_⟩ (by decide) (by decide)
            · rw [rU_eq, hnn, zadd_ge (by omega), zI_abs]
            · rw [hnn, zadd_ge (by omega)] at hz ⊢
              have : a - b ≠ 0 := fun e => hz (by rw [e]; cases s0 <;> rfl)
              rw [zI_neg, decide_eq_true this, Bool.and_true, t1, sa]
  refine hb.run (aCuts [17] J) 60 0 _ _ _ _ _ _ (aCuts_ok _) ?_
  by_cases h0 : o = 0
  · have e0 : (nI o = 0) = True := by rw [nI_c0 (by omega)]; simp [h0]
    simp only [↓wpi_isub, ↓wpi_lsub, ↓wpi_ineg, ↓wpi_lneg, ↓wpi_irem, ↓wpi_lrem, ↓wpi_iinc, wp1, wp, wpl, wpi, lget, lput1, lput2, ltail, lkill, aV, aVl, aNth, aPut, aFz, aC0, aC2, aSw, aCat1, aCuts, aSet_eq, List.take, List.drop, List.reverse_cons, List.reverse_nil, List.nil_append, List.cons_append, List.length_cons, List.length_nil, Option.toList, true_and, and_true, Nat.reduceAdd, Nat.reduceEqDiff, Nat.reduceLT, Nat.reduceLeDiff, Nat.zero_add, Nat.add_zero, if_true, if_false, ite_true, ite_false, reduceIte, reduceCtorEq, true_or, or_true, not_true_eq_false, not_false_eq_true, false_and, and_false, true_implies, false_implies, not_false_eq_true, bqX9_sum_0, blX9_sum_0, bqX9_sum_4, blX9_sum_4, bqX9_sum_11, blX9_sum_11, bqX9_sum_17, blX9_sum_17, bqX9_sum_25, blX9_sum_25, bqX9_sum_33, blX9_sum_33, bqX9_sum_40, blX9_sum_40, bqX9_sum_47, blX9_sum_47, bqX9_sum_51, blX9_sum_51, bqX9_sum_59, blX9_sum_59, bqX9_sum_63, blX9_sum_63, bqX9_sum_64, blX9_sum_64, bqX9_sum_69, blX9_sum_69, bqX9_sum_76, blX9_sum_76, bqX9_sum_84, blX9_sum_84, bqX9_sum_88, blX9_sum_88, bqX9_sum_92, blX9_sum_92, bqX9_sum_98, blX9_sum_98, bqX9_sum_105, blX9_sum_105, bqX9_sum_108, blX9_sum_108, bqX9_sum_115, blX9_sum_115, bqX9_sum_126, blX9_sum_126, bqX9_sum_133, blX9_sum_133, bqX9_sum_140, blX9_sum_140, bqX9_sum_145, blX9_sum_145, aArgs, List.replicate, e0, h.obj, t2]
    rw [if_pos h0] at hnb
    rw [← hnb]
    exact go _
  · have e0 : (nI o = 0) = False := by rw [nI_c0 (by omega)]; simp [h0]
    simp only [↓wpi_isub, ↓wpi_lsub, ↓wpi_ineg, ↓wpi_lneg, ↓wpi_irem, ↓wpi_lrem, ↓wpi_iinc, wp1, wp, wpl, wpi, lget, lput1, lput2, ltail, lkill, aV, aVl, aNth, aPut, aFz, aC0, aC2, aSw, aCat1, aCuts, aSet_eq, List.take, List.drop, List.reverse_cons, List.reverse_nil, List.nil_append, List.cons_append, List.length_cons, List.length_nil, Option.toList, true_and, and_true, Nat.reduceAdd, Nat.reduceEqDiff, Nat.reduceLT, Nat.reduceLeDiff, Nat.zero_add, Nat.add_zero, if_true, if_false, ite_true, ite_false, reduceIte, reduceCtorEq, true_or, or_true, not_true_eq_false, not_false_eq_true, false_and, and_false, true_implies, false_implies, not_false_eq_true, bqX9_sum_0, blX9_sum_0, bqX9_sum_4, blX9_sum_4, bqX9_sum_11, blX9_sum_11, bqX9_sum_17, blX9_sum_17, bqX9_sum_25, blX9_sum_25, bqX9_sum_33, blX9_sum_33, bqX9_sum_40, blX9_sum_40, bqX9_sum_47, blX9_sum_47, bqX9_sum_51, blX9_sum_51, bqX9_sum_59, blX9_sum_59, bqX9_sum_63, blX9_sum_63, bqX9_sum_64, blX9_sum_64, bqX9_sum_69, blX9_sum_69, bqX9_sum_76, blX9_sum_76, bqX9_sum_84, blX9_sum_84, bqX9_sum_88, blX9_sum_88, bqX9_sum_92, blX9_sum_92, bqX9_sum_98, blX9_sum_98, bqX9_sum_105, blX9_sum_105, bqX9_sum_108, blX9_sum_108, bqX9_sum_115, blX9_sum_115, bqX9_sum_126, blX9_sum_126, bqX9_sum_133, blX9_sum_133, bqX9_sum_140, blX9_sum_140, bqX9_sum_145, blX9_sum_145, aArgs, List.replicate, e0, h.obj, t2, sW_neg]
    rw [if_neg h0] at hnb
    rw [← hnb]
    exact go _
end MA2
