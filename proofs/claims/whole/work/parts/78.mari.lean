/-! ===== the reference: valid, second, rises, fits, sum, exactly ===== -/
def sW (s : Bool) (x : Nat) : Int32 := if x = 0 then nI 0 else sBI s
theorem sV_W (N : aN) (k : Nat) : sV N k = sW (vS N k) (vX N k) := rfl
theorem sBI_ne {b : Bool} : (sBI b = 0) = False := by cases b <;> (simp only [eq_iff_iff, iff_false]; decide +kernel)
theorem sBI_lt {b : Bool} : (sBI b < 0) = (b = true) := by
  have : ∀ b : Bool, (sBI b < 0 ↔ b = true) := by decide +kernel
  exact propext (this b)
theorem sBI_ge {b : Bool} : (0 ≤ sBI b) = (b = false) := by
  have : ∀ b : Bool, (0 ≤ sBI b ↔ b = false) := by decide +kernel
  exact propext (this b)
theorem sBI_le {b : Bool} : (sBI b ≤ 0) = (b = true) := by
  have : ∀ b : Bool, (sBI b ≤ 0 ↔ b = true) := by decide +kernel
  exact propext (this b)
theorem sBI_mul {a b : Bool} : sBI a * sBI b = sBI (a != b) := by
  have : ∀ a b : Bool, sBI a * sBI b = sBI (a != b) := by decide +kernel
  exact this a b
theorem sBI_inj {a b : Bool} : (sBI a = sBI b) = (a = b) := by
  have : ∀ a b : Bool, (sBI a = sBI b ↔ a = b) := by decide +kernel
  exact propext (this a b)
theorem sBI_neg {b : Bool} : iSub (nI 0) (sBI b) = sBI (!b) := by
  rw [iSub_eq]
  have : ∀ b : Bool, nI 0 - sBI b = sBI (!b) := by decide +kernel
  exact this b
theorem sW_0 {s : Bool} {x : Nat} : (sW s x = 0) = (x = 0) := by
  unfold sW
  split
  · rename_i e; simp only [eq_iff_iff]; exact ⟨fun _ => e, fun _ => by decide +kernel⟩
  · rename_i e; rw [sBI_ne]; simp [e]
theorem sW_neg {s : Bool} {x : Nat} : iSub (nI 0) (sW s x) = sW (!s) x := by
  unfold sW
  split
  · rw [iSub_eq]; decide +kernel
  · exact sBI_neg
theorem sW_mul {a b : Bool} {x y : Nat} : sW a x * sW b y = sW (a != b) (x * y) := by
  unfold sW
  by_cases h : x = 0
  · rw [if_pos h, if_pos (show x * y = 0 by rw [h, Nat.zero_mul])]
    split
    · decide +kernel
    · cases b <;> decide +kernel
  · rw [if_neg h]
    by_cases h2 : y = 0
    · rw [if_pos h2, if_pos (show x * y = 0 by rw [h2, Nat.mul_zero])]; cases a <;> decide +kernel
    · rw [if_neg h2, if_neg (Nat.mul_ne_zero h h2)]; exact sBI_mul
/-- the outcome stands in TOP, BASE and signTop -/
def oM (Y : Nat → Nat) (τ : Nat → Int32) (ex : Bool) (N : aN) (O0 : aO) (A0 : aA) (z : Int) (d : Nat) (O' : aO) (A' : aA) : Prop :=
  ∃ ρ' s, mW Y ρ' (tU τ 3 s) ex N O0 A0 O' A' ∧ ρ' 4 = z.natAbs ∧ ρ' 5 = d ∧ (z ≠ 0 → s = sBI (decide (z < 0)))
theorem B80 : 2 ^ 320 < 65536 ^ 80 ∧ 2 ^ 320 < 65536 ^ 79 ∧ 2 ^ 320 + 2 ^ 320 < 65536 ^ 80 := by decide +kernel
theorem p80 {a b : Nat} (ha : a < 2 ^ 160) (hb : b < 2 ^ 160) : a * b < 65536 ^ 80 := Nat.lt_trans (p320 ha hb) B80.1
section MA
variable {l : Launch} {G : aG} {base tA : Nat} {Y ρ : Nat → Nat} {τ : Nat → Int32} {ex : Bool} {N : aN} {O0 O : aO} {A0 A : aA} {k i : Nat}
abbrev rmM6 : Room := { frames := 6, cells := 0, slots := 0, locals := 160 }
set_option maxHeartbeats 2000000 in
theorem m_valid (h : mW Y ρ τ ex N O0 A0 O A) {x : Int32} : aMet l G base tA yX9_valid cX9_valid 2 (some .boolean) rmM6 [.ref (Y 0), .int x] O A (fun r O' A' => (∃ k v, k < N 0 0 ∧ x = nI k ∧ r = some (.int (bI v)) ∧ (v = true ↔ vG N k) ∧ mX Y N (nI 0) O0 A0 O' A') ∨ (¬ isN N x ∧ r = some (.int (nI 0)) ∧ mX Y N (nI 1) O0 A0 O' A')) := by
  refine aMet_of (ini := false) (B := aLook bkX9_valid) (by decide) (fun h => by first | rfl | cases h) (Nat.le_of_ble_eq_true rfl) boX9_valid ?_
  intro E J hb
  have hc := h.1.1
  refine hb.run (aCuts [6, 18, 28] J) 60 0 _ _ _ _ _ _ (aCuts_ok _) ?_
  simp only [↓wpi_isub, ↓wpi_lsub, ↓wpi_ineg, ↓wpi_lneg, ↓wpi_irem, ↓wpi_lrem, ↓wpi_iinc, wp1, wp, wpl, wpi, lget, lput1, lput2, ltail, lkill, aV, aVl, aNth, aPut, aFz, aC0, aC2, aSw, aCat1, aCuts, aSet_eq, List.take, List.drop, List.reverse_cons, List.reverse_nil, List.nil_append, List.cons_append, List.length_cons, List.length_nil, Option.toList, true_and, and_true, Nat.reduceAdd, Nat.reduceEqDiff, Nat.reduceLT, Nat.reduceLeDiff, Nat.zero_add, Nat.add_zero, if_true, if_false, ite_true, ite_false, reduceIte, reduceCtorEq, true_or, or_true, not_true_eq_false, not_false_eq_true, false_and, and_false, true_implies, false_implies, not_false_eq_true, bqX9_valid_0, blX9_valid_0, bqX9_valid_6, blX9_valid_6, bqX9_valid_9, blX9_valid_9, bqX9_valid_13, blX9_valid_13, bqX9_valid_14, blX9_valid_14, bqX9_valid_18, blX9_valid_18, bqX9_valid_21, blX9_valid_21, bqX9_valid_23, blX9_valid_23, bqX9_valid_28, blX9_valid_28, aArgs, List.replicate]
  refine ⟨_, _, _, _, hb.callV lvX9_74 (m_isNumber h) rfl h.obj (by decide) (by decide) (by decide), ?_, fun _ _ _ h => h.elim⟩
  rintro _ O A ⟨⟨v, rfl, hv⟩, rfl, rfl⟩
  refine hb.run (aCuts [6, 18, 28] J) 60 6 _ _ _ _ _ _ (aCuts_ok _) ?_
  cases v with
  | false =>
    simp only [↓wpi_isub, ↓wpi_lsub, ↓wpi_ineg, ↓wpi_lneg, ↓wpi_irem, ↓wpi_lrem, ↓wpi_iinc, wp1, wp, wpl, wpi, lget, lput1, lput2, ltail, lkill, aV, aVl, aNth, aPut, aFz, aC0, aC2, aSw, aCat1, aCuts, aSet_eq, List.take, List.drop, List.reverse_cons, List.reverse_nil, List.nil_append, List.cons_append, List.length_cons, List.length_nil, Option.toList, true_and, and_true, Nat.reduceAdd, Nat.reduceEqDiff, Nat.reduceLT, Nat.reduceLeDiff, Nat.zero_add, Nat.add_zero, if_true, if_false, ite_true, ite_false, reduceIte, reduceCtorEq, true_or, or_true, not_true_eq_false, not_false_eq_true, false_and, and_false, true_implies, false_implies, not_false_eq_true, bqX9_valid_0, blX9_valid_0, bqX9_valid_6, blX9_valid_6, bqX9_valid_9, blX9_valid_9, bqX9_valid_13, blX9_valid_13, bqX9_valid_14, blX9_valid_14, bqX9_valid_18, blX9_valid_18, bqX9_valid_21, blX9_valid_21, bqX9_valid_23, blX9_valid_23, bqX9_valid_28, blX9_valid_28, bI_f, n0_0]
    refine ⟨_, _, _, _, hb.callV lvX9_67 (m_fails h (b := true)) rfl h.obj (by decide) (by decide) (by decide), ?_, fun _ _ _ h => h.elim⟩
    rintro _ O1 A1 ⟨rfl, h1⟩
    refine hb.run (aCuts [6, 18, 28] J) 60 18 _ _ _ _ _ _ (aCuts_ok _) ?_
    simp only [↓wpi_isub, ↓wpi_lsub, ↓wpi_ineg, ↓wpi_lneg, ↓wpi_irem, ↓wpi_lrem, ↓wpi_iinc, wp1, wp, wpl, wpi, lget, lput1, lput2, ltail, lkill, aV, aVl, aNth, aPut, aFz, aC0, aC2, aSw, aCat1, aCuts, aSet_eq, List.take, List.drop, List.reverse_cons, List.reverse_nil, List.nil_append, List.cons_append, List.length_cons, List.length_nil, Option.toList, true_and, and_true, Nat.reduceAdd, Nat.reduceEqDiff, Nat.reduceLT, Nat.reduceLeDiff, Nat.zero_add, Nat.add_zero, if_true, if_false, ite_true, ite_false, reduceIte, reduceCtorEq, true_or, or_true, not_true_eq_false, not_false_eq_true, false_and, and_false, true_implies, false_implies, not_false_eq_true, bqX9_valid_0, blX9_valid_0, bqX9_valid_6, blX9_valid_6, bqX9_valid_9, blX9_valid_9, bqX9_valid_13, blX9_valid_13, bqX9_valid_14, blX9_valid_14, bqX9_valid_18, blX9_valid_18, bqX9_valid_21, blX9_valid_21, bqX9_valid_23, blX9_valid_23, bqX9_valid_28, blX9_valid_28, bI_t, n1_0]
    exact hb.iret nar_b0 (Or.inr ⟨fun q => Bool.noConfusion (hv.mpr q), rfl, mX.of h1 rfl⟩) (by decide) (by decide)
  | true =>
    obtain ⟨k, hk, rfl⟩ := hv.mp rfl
    simp only [↓wpi_isub, ↓wpi_lsub, ↓wpi_ineg, ↓wpi_lneg, ↓wpi_irem, ↓wpi_lrem, ↓wpi_iinc, wp1, wp, wpl, wpi, lget, lput1, lput2, ltail, lkill, aV, aVl, aNth, aPut, aFz, aC0, aC2, aSw, aCat1, aCuts, aSet_eq, List.take, List.drop, List.reverse_cons, List.reverse_nil, List.nil_append, List.cons_append, List.length_cons, List.length_nil, Option.toList, true_and, and_true, Nat.reduceAdd, Nat.reduceEqDiff, Nat.reduceLT, Nat.reduceLeDiff, Nat.zero_add, Nat.add_zero, if_true, if_false, ite_true, ite_false, reduceIte, reduceCtorEq, true_or, or_true, not_true_eq_false, not_false_eq_true, false_and, and_false, true_implies, false_implies, not_false_eq_true, bqX9_valid_0, blX9_valid_0, bqX9_valid_6, blX9_valid_6, bqX9_valid_9, blX9_valid_9, bqX9_valid_13, blX9_valid_13, bqX9_valid_14, blX9_valid_14, bqX9_valid_18, blX9_valid_18, bqX9_valid_21, blX9_valid_21, bqX9_valid_23, blX9_valid_23, bqX9_valid_28, blX9_valid_28, bI_t, n1_0]
    refine ⟨_, _, _, _, hb.callV lvX9_67 (m_fails h (b := false)) rfl h.obj (by decide) (by decide) (by decide), ?_, fun _ _ _ h => h.elim⟩
    rintro _ O1 A1 ⟨rfl, h1⟩
    refine hb.run (aCuts [6, 18, 28] J) 60 18 _ _ _ _ _ _ (aCuts_ok _) ?_
    simp only [↓wpi_isub, ↓wpi_lsub, ↓wpi_ineg, ↓wpi_lneg, ↓wpi_irem, ↓wpi_lrem, ↓wpi_iinc, wp1, wp, wpl, wpi, lget, lput1, lput2, ltail, lkill, aV, aVl, aNth, aPut, aFz, aC0, aC2, aSw, aCat1, aCuts, aSet_eq, List.take, List.drop, List.reverse_cons, List.reverse_nil, List.nil_append, List.cons_append, List.length_cons, List.length_nil, Option.toList, true_and, and_true, Nat.reduceAdd, Nat.reduceEqDiff, Nat.reduceLT, Nat.reduceLeDiff, Nat.zero_add, Nat.add_zero, if_true, if_false, ite_true, ite_false, reduceIte, reduceCtorEq, true_or, or_true, not_true_eq_false, not_false_eq_true, false_and, and_false, true_implies, false_implies, not_false_eq_true, bqX9_valid_0, blX9_valid_0, bqX9_valid_6, blX9_valid_6, bqX9_valid_9, blX9_valid_9, bqX9_valid_13, blX9_valid_13, bqX9_valid_14, blX9_valid_14, bqX9_valid_18, blX9_valid_18, bqX9_valid_21, blX9_valid_21, bqX9_valid_23, blX9_valid_23, bqX9_valid_28, blX9_valid_28, bI_f, n0_0]
    refine ⟨_, _, _, _, hb.callV lvX9_124 (m_load h1 hk) rfl h1.obj (by decide) (by decide) (by decide), ?_, fun _ _ _ h => h.elim⟩
    rintro _ O2 A2 ⟨v, ρ', s, rfl, hv, -, -, h2⟩
    refine hb.run (aCuts [6, 18, 28] J) 60 28 _ _ _ _ _ _ (aCuts_ok _) ?_
    simp only [↓wpi_isub, ↓wpi_lsub, ↓wpi_ineg, ↓wpi_lneg, ↓wpi_irem, ↓wpi_lrem, ↓wpi_iinc, wp1, wp, wpl, wpi, lget, lput1, lput2, ltail, lkill, aV, aVl, aNth, aPut, aFz, aC0, aC2, aSw, aCat1, aCuts, aSet_eq, List.take, List.drop, List.reverse_cons, List.reverse_nil, List.nil_append, List.cons_append, List.length_cons, List.length_nil, Option.toList, true_and, and_true, Nat.reduceAdd, Nat.reduceEqDiff, Nat.reduceLT, Nat.reduceLeDiff, Nat.zero_add, Nat.add_zero, if_true, if_false, ite_true, ite_false, reduceIte, reduceCtorEq, true_or, or_true, not_true_eq_false, not_false_eq_true, false_and, and_false, true_implies, false_implies, not_false_eq_true, bqX9_valid_0, blX9_valid_0, bqX9_valid_6, blX9_valid_6, bqX9_valid_9, blX9_valid_9, bqX9_valid_13, blX9_valid_13, bqX9_valid_14, blX9_valid_14, bqX9_valid_18, blX9_valid_18, bqX9_valid_21, blX9_valid_21, bqX9_valid_23, blX9_valid_23, bqX9_valid_28, blX9_valid_28]
    exact hb.iret (nar_b _) (Or.inl ⟨k, v, hk, rfl, rfl, hv, mX.of h2 rfl⟩) (by decide) (by decide)
set_option maxHeartbeats 2000000 in
theorem m_second (h : mW Y ρ τ ex N O0 A0 O A) : aMet l G base tA yX9_second cX9_second 1 none rmM1 [.ref (Y 0)] O A (fun r O' A' => r = none ∧ mW Y (rU (rU ρ 2 (ρ 0)) 3 (ρ 1)) (tU τ 2 (τ 1)) ex N O0 A0 O' A') := by
  refine aMet_of (ini := false) (B := aLook bkX9_second) (by decide) (fun h => by first | rfl | cases h) (Nat.le_of_ble_eq_true rfl) boX9_second ?_
  intro E J hb
  refine hb.run (aCuts [6, 12] J) 60 0 _ _ _ _ _ _ (aCuts_ok _) ?_
  simp only [↓wpi_isub, ↓wpi_lsub, ↓wpi_ineg, ↓wpi_lneg, ↓wpi_irem, ↓wpi_lrem, ↓wpi_iinc, wp1, wp, wpl, wpi, lget, lput1, lput2, ltail, lkill, aV, aVl, aNth, aPut, aFz, aC0, aC2, aSw, aCat1, aCuts, aSet_eq, List.take, List.drop, List.reverse_cons, List.reverse_nil, List.nil_append, List.cons_append, List.length_cons, List.length_nil, Option.toList, true_and, and_true, Nat.reduceAdd, Nat.reduceEqDiff, Nat.reduceLT, Nat.reduceLeDiff, Nat.zero_add, Nat.add_zero, if_true, if_false, ite_true, ite_false, reduceIte, reduceCtorEq, true_or, or_true, not_true_eq_false, not_false_eq_true, false_and, and_false, true_implies, false_implies, not_false_eq_true, bqX9_second_0, blX9_second_0, bqX9_second_6, blX9_second_6, bqX9_second_12, blX9_second_12, aArgs, List.replicate]
  refine ⟨_, _, _, _, hb.callV lvX9_47 (m_copy h (x := 0) (y := 2) (by decide) (by decide) (by decide)) rfl h.obj (by decide) (by decide) (by decide), ?_, fun _ _ _ h => h.elim⟩
  rintro _ O1 A1 ⟨rfl, h1⟩
  refine hb.run (aCuts [6, 12] J) 60 6 _ _ _ _ _ _ (aCuts_ok _) ?_
  simp only [↓wpi_isub, ↓wpi_lsub, ↓wpi_ineg, ↓wpi_lneg, ↓wpi_irem, ↓wpi_lrem, ↓wpi_iinc, wp1, wp, wpl, wpi, lget, lput1, lput2, ltail, lkill, aV, aVl, aNth, aPut, aFz, aC0, aC2, aSw, aCat1, aCuts, aSet_eq, List.take, List.drop, List.reverse_cons, List.reverse_nil, List.nil_append, List.cons_append, List.length_cons, List.length_nil, Option.toList, true_and, and_true, Nat.reduceAdd, Nat.reduceEqDiff, Nat.reduceLT, Nat.reduceLeDiff, Nat.zero_add, Nat.add_zero, if_true, if_false, ite_true, ite_false, reduceIte, reduceCtorEq, true_or, or_true, not_true_eq_false, not_false_eq_true, false_and, and_false, true_implies, false_implies, not_false_eq_true, bqX9_second_0, blX9_second_0, bqX9_second_6, blX9_second_6, bqX9_second_12, blX9_second_12]
  refine ⟨_, _, _, _, hb.callV lvX9_47 (m_copy h1 (x := 1) (y := 3) (by decide) (by decide) (by decide)) rfl h1.obj (by decide) (by decide) (by decide), ?_, fun _ _ _ h => h.elim⟩
  rintro _ O2 A2 ⟨rfl, h2⟩
  rw [rU_ne (show (1 : Nat) ≠ 2 by decide)] at h2
  refine hb.run (aCuts [6, 12] J) 60 12 _ _ _ _ _ _ (aCuts_ok _) ?_
  simp only [↓wpi_isub, ↓wpi_lsub, ↓wpi_ineg, ↓wpi_lneg, ↓wpi_irem, ↓wpi_lrem, ↓wpi_iinc, wp1, wp, wpl, wpi, lget, lput1, lput2, ltail, lkill, aV, aVl, aNth, aPut, aFz, aC0, aC2, aSw, aCat1, aCuts, aSet_eq, List.take, List.drop, List.reverse_cons, List.reverse_nil, List.nil_append, List.cons_append, List.length_cons, List.length_nil, Option.toList, true_and, and_true, Nat.reduceAdd, Nat.reduceEqDiff, Nat.reduceLT, Nat.reduceLeDiff, Nat.zero_add, Nat.add_zero, if_true, if_false, ite_true, ite_false, reduceIte, reduceCtorEq, true_or, or_true, not_true_eq_false, not_false_eq_true, false_and, and_false, true_implies, false_implies, not_false_eq_true, bqX9_second_0, blX9_second_0, bqX9_second_6, blX9_second_6, bqX9_second_12, blX9_second_12, h2.obj]
  exact hb.vret ⟨rfl, h2.fld (tU τ 2 (τ 1)) ex⟩ (by decide) (by decide)
set_option maxHeartbeats 4000000 in
theorem m_rises (h : mW Y ρ τ ex N O0 A0 O A) {c y : Nat} (hc : c ≤ 7) (hy : y < 11) (hy8 : y ≠ 8) {neg : Bool} (ht : τ 3 = sBI neg) (hB : ρ 7 * 2 < 65536 ^ 80) : aMet l G base tA yX9_rises cX9_rises 5 (some .boolean) rmM1 [.ref (Y 0), .int (nI c), .int (nI y)] O A (fun r O' A' => r = some (.int (bI (rdA c neg (ρ 6) (ρ 7) (ρ y)))) ∧ mW Y (rU ρ 8 (ρ 7 * 2)) τ ex N O0 A0 O' A') := by
  refine aMet_of (ini := false) (B := aLook bkX9_rises) (by decide) (fun h => by first | rfl | cases h) (Nat.le_of_ble_eq_true rfl) boX9_rises ?_
  intro E J hb
  refine hb.run (aCuts [8, 15, 22, 30] J) 60 0 _ _ _ _ _ _ (aCuts_ok _) ?_
  simp only [↓wpi_isub, ↓wpi_lsub, ↓wpi_ineg, ↓wpi_lneg, ↓wpi_irem, ↓wpi_lrem, ↓wpi_iinc, wp1, wp, wpl, wpi, lget, lput1, lput2, ltail, lkill, aV, aVl, aNth, aPut, aFz, aC0, aC2, aSw, aCat1, aCuts, aSet_eq, List.take, List.drop, List.reverse_cons, List.reverse_nil, List.nil_append, List.cons_append, List.length_cons, List.length_nil, Option.toList, true_and, and_true, Nat.reduceAdd, Nat.reduceEqDiff, Nat.reduceLT, Nat.reduceLeDiff, Nat.zero_add, Nat.add_zero, if_true, if_false, ite_true, ite_false, reduceIte, reduceCtorEq, true_or, or_true, not_true_eq_false, not_false_eq_true, false_and, and_false, true_implies, false_implies, not_false_eq_true, bqX9_rises_0, blX9_rises_0, bqX9_rises_8, blX9_rises_8, bqX9_rises_15, blX9_rises_15, bqX9_rises_22, blX9_rises_22, bqX9_rises_30, blX9_rises_30, bqX9_rises_34, blX9_rises_34, bqX9_rises_38, blX9_rises_38, bqX9_rises_39, blX9_rises_39, bqX9_rises_80, blX9_rises_80, bqX9_rises_84, blX9_rises_84, bqX9_rises_88, blX9_rises_88, bqX9_rises_89, blX9_rises_89, bqX9_rises_90, blX9_rises_90, bqX9_rises_94, blX9_rises_94, bqX9_rises_98, blX9_rises_98, bqX9_rises_103, blX9_rises_103, bqX9_rises_107, blX9_rises_107, bqX9_rises_108, blX9_rises_108, bqX9_rises_109, blX9_rises_109, bqX9_rises_113, blX9_rises_113, bqX9_rises_117, blX9_rises_117, bqX9_rises_118, blX9_rises_118, bqX9_rises_119, blX9_rises_119, bqX9_rises_121, blX9_rises_121, bqX9_rises_128, blX9_rises_128, bqX9_rises_132, blX9_rises_132, bqX9_rises_133, blX9_rises_133, bqX9_rises_134, blX9_rises_134, bqX9_rises_141, blX9_rises_141, bqX9_rises_145, blX9_rises_145, bqX9_rises_146, blX9_rises_146, bqX9_rises_147, blX9_rises_147, aArgs, List.replicate]
  refine ⟨_, _, _, _, hb.callV lvX9_47 (m_copy h (x := 7) (y := 8) (by decide) (by decide) (by decide)) rfl h.obj (by decide) (by decide) (by decide), ?_, fun _ _ _ h => h.elim⟩
  rintro _ O1 A1 ⟨rfl, h1⟩
  refine hb.run (aCuts [8, 15, 22, 30] J) 60 8 _ _ _ _ _ _ (aCuts_ok _) ?_
  simp only [↓wpi_isub, ↓wpi_lsub, ↓wpi_ineg, ↓wpi_lneg, ↓wpi_irem, ↓wpi_lrem, ↓wpi_iinc, wp1, wp, wpl, wpi, lget, lput1, lput2, ltail, lkill, aV, aVl, aNth, aPut, aFz, aC0, aC2, aSw, aCat1, aCuts, aSet_eq, List.take, List.drop, List.reverse_cons, List.reverse_nil, List.nil_append, List.cons_append, List.length_cons, List.length_nil, Option.toList, true_and, and_true, Nat.reduceAdd, Nat.reduceEqDiff, Nat.reduceLT, Nat.reduceLeDiff, Nat.zero_add, Nat.add_zero, if_true, if_false, ite_true, ite_false, reduceIte, reduceCtorEq, true_or, or_true, not_true_eq_false, not_false_eq_true, false_and, and_false, true_implies, false_implies, not_false_eq_true, bqX9_rises_0, blX9_rises_0, bqX9_rises_8, blX9_rises_8, bqX9_rises_15, blX9_rises_15, bqX9_rises_22, blX9_rises_22, bqX9_rises_30, blX9_rises_30, bqX9_rises_34, blX9_rises_34, bqX9_rises_38, blX9_rises_38, bqX9_rises_39, blX9_rises_39, bqX9_rises_80, blX9_rises_80, bqX9_rises_84, blX9_rises_84, bqX9_rises_88, blX9_rises_88, bqX9_rises_89, blX9_rises_89, bqX9_rises_90, blX9_rises_90, bqX9_rises_94, blX9_rises_94, bqX9_rises_98, blX9_rises_98, bqX9_rises_103, blX9_rises_103, bqX9_rises_107, blX9_rises_107, bqX9_rises_108, blX9_rises_108, bqX9_rises_109, blX9_rises_109, bqX9_rises_113, blX9_rises_113, bqX9_rises_117, blX9_rises_117, bqX9_rises_118, blX9_rises_118, bqX9_rises_119, blX9_rises_119, bqX9_rises_121, blX9_rises_121, bqX9_rises_128, blX9_rises_128, bqX9_rises_132, blX9_rises_132, bqX9_rises_133, blX9_rises_133, bqX9_rises_134, blX9_rises_134, bqX9_rises_141, blX9_rises_141, bqX9_rises_145, blX9_rises_145, bqX9_rises_146, blX9_rises_146, bqX9_rises_147, blX9_rises_147]
  refine ⟨_, _, _, _, hb.callV lvX9_43 (m_times h1 (x := 8) (f := 2) (by decide) (by decide) (by rw [rU_eq]; exact hB)) rfl h1.obj (by decide) (by decide) (by decide), ?_, fun _ _ _ h => h.elim⟩
  rintro _ O2 A2 ⟨rfl, h2⟩
  rw [rU_rU, rU_eq] at h2
  refine hb.run (aCuts [8, 15, 22, 30] J) 60 15 _ _ _ _ _ _ (aCuts_ok _) ?_
  simp only [↓wpi_isub, ↓wpi_lsub, ↓wpi_ineg, ↓wpi_lneg, ↓wpi_irem, ↓wpi_lrem, ↓wpi_iinc, wp1, wp, wpl, wpi, lget, lput1, lput2, ltail, lkill, aV, aVl, aNth, aPut, aFz, aC0, aC2, aSw, aCat1, aCuts, aSet_eq, List.take, List.drop, List.reverse_cons, List.reverse_nil, List.nil_append, List.cons_append, List.length_cons, List.length_nil, Option.toList, true_and, and_true, Nat.reduceAdd, Nat.reduceEqDiff, Nat.reduceLT, Nat.reduceLeDiff, Nat.zero_add, Nat.add_zero, if_true, if_false, ite_true, ite_false, reduceIte, reduceCtorEq, true_or, or_true, not_true_eq_false, not_false_eq_true, false_and, and_false, true_implies, false_implies, not_false_eq_true, bqX9_rises_0, blX9_rises_0, bqX9_rises_8, blX9_rises_8, bqX9_rises_15, blX9_rises_15, bqX9_rises_22, blX9_rises_22, bqX9_rises_30, blX9_rises_30, bqX9_rises_34, blX9_rises_34, bqX9_rises_38, blX9_rises_38, bqX9_rises_39, blX9_rises_39, bqX9_rises_80, blX9_rises_80, bqX9_rises_84, blX9_rises_84, bqX9_rises_88, blX9_rises_88, bqX9_rises_89, blX9_rises_89, bqX9_rises_90, blX9_rises_90, bqX9_rises_94, blX9_rises_94, bqX9_rises_98, blX9_rises_98, bqX9_rises_103, blX9_rises_103, bqX9_rises_107, blX9_rises_107, bqX9_rises_108, blX9_rises_108, bqX9_rises_109, blX9_rises_109, bqX9_rises_113, blX9_rises_113, bqX9_rises_117, blX9_rises_117, bqX9_rises_118, blX9_rises_118, bqX9_rises_119, blX9_rises_119, bqX9_rises_121, blX9_rises_121, bqX9_rises_128, blX9_rises_128, bqX9_rises_132, blX9_rises_132, bqX9_rises_133, blX9_rises_133, bqX9_rises_134, blX9_rises_134, bqX9_rises_141, blX9_rises_141, bqX9_rises_145, blX9_rises_145, bqX9_rises_146, blX9_rises_146, bqX9_rises_147, blX9_rises_147]
  refine ⟨_, _, _, _, hb.callV lvX9_58 (m_order h2 (x := 8) (y := y) (by decide) hy) rfl h2.obj (by decide) (by decide) (by decide), ?_, fun _ _ _ h => h.elim⟩
  rintro _ O2 A2 ⟨rfl, rfl, rfl⟩
  rw [rU_eq, rU_ne hy8]
  refine hb.run (aCuts [8, 15, 22, 30] J) 60 22 _ _ _ _ _ _ (aCuts_ok _) ?_
  simp only [↓wpi_isub, ↓wpi_lsub, ↓wpi_ineg, ↓wpi_lneg, ↓wpi_irem, ↓wpi_lrem, ↓wpi_iinc, wp1, wp, wpl, wpi, lget, lput1, lput2, ltail, lkill, aV, aVl, aNth, aPut, aFz, aC0, aC2, aSw, aCat1, aCuts, aSet_eq, List.take, List.drop, List.reverse_cons, List.reverse_nil, List.nil_append, List.cons_append, List.length_cons, List.length_nil, Option.toList, true_and, and_true, Nat.reduceAdd, Nat.reduceEqDiff, Nat.reduceLT, Nat.reduceLeDiff, Nat.zero_add, Nat.add_zero, if_true, if_false, ite_true, ite_false, reduceIte, reduceCtorEq, true_or, or_true, not_true_eq_false, not_false_eq_true, false_and, and_false, true_implies, false_implies, not_false_eq_true, bqX9_rises_0, blX9_rises_0, bqX9_rises_8, blX9_rises_8, bqX9_rises_15, blX9_rises_15, bqX9_rises_22, blX9_rises_22, bqX9_rises_30, blX9_rises_30, bqX9_rises_34, blX9_rises_34, bqX9_rises_38, blX9_rises_38, bqX9_rises_39, blX9_rises_39, bqX9_rises_80, blX9_rises_80, bqX9_rises_84, blX9_rises_84, bqX9_rises_88, blX9_rises_88, bqX9_rises_89, blX9_rises_89, bqX9_rises_90, blX9_rises_90, bqX9_rises_94, blX9_rises_94, bqX9_rises_98, blX9_rises_98, bqX9_rises_103, blX9_rises_103, bqX9_rises_107, blX9_rises_107, bqX9_rises_108, blX9_rises_108, bqX9_rises_109, blX9_rises_109, bqX9_rises_113, blX9_rises_113, bqX9_rises_117, blX9_rises_117, bqX9_rises_118, blX9_rises_118, bqX9_rises_119, blX9_rises_119, bqX9_rises_121, blX9_rises_121, bqX9_rises_128, blX9_rises_128, bqX9_rises_132, blX9_rises_132, bqX9_rises_133, blX9_rises_133, bqX9_rises_134, blX9_rises_134, bqX9_rises_141, blX9_rises_141, bqX9_rises_145, blX9_rises_145, bqX9_rises_146, blX9_rises_146, bqX9_rises_147, blX9_rises_147]
  refine ⟨_, _, _, _, hb.callV lvX9_50 (m_bit h2 (x := 6) (k := 0) (by decide) (by decide)) rfl h2.obj (by decide) (by decide) (by decide), ?_, fun _ _ _ h => h.elim⟩
  rintro _ O2 A2 ⟨rfl, rfl, rfl⟩
  rw [rU_ne (show (6 : Nat) ≠ 8 by decide), Nat.pow_zero, Nat.div_one]
  have ob := h2.obj
  rw [ht] at ob
  refine hb.run (aCuts [39] J) 60 30 _ _ _ _ _ _ (aCuts_ok _) ?_
  have h39 : ∀ o : Bool, (o = true ↔ ρ 6 % 2 = 1) → J 39 [some (.ref (Y 0)), some (.int (nI c)), some (.int (nI y)), some (.int (cmpI (ρ 7 * 2) (ρ y))), none] [.int (bI o)] O2 A2 0 0 := by
    intro o ho
    have eo : (bI o = 0) = (ρ 6 % 2 = 0) := by
      rw [bI_0b, eq_iff_iff]
      cases o
      · exact ⟨fun _ => by have : ¬ ρ 6 % 2 = 1 := (fun q => Bool.noConfusion (ho.mpr q)); omega, fun _ => rfl⟩
      · exact ⟨fun q => Bool.noConfusion q, fun q => by have := ho.mp rfl; omega⟩
    refine hb.run (aCuts [8, 15, 22, 30] J) 60 39 _ _ _ _ _ _ (aCuts_ok _) ?_
    have fin1 : ∀ b : Bool, b = true → b = rdA c neg (ρ 6) (ρ 7) (ρ y) → (∃ ty, eRt E = some ty ∧ narrow ty (.int (nI 1)) = .int (nI 1)) ∧ eRet E (some (.int (nI 1))) O2 A2 0 0 := fun b e1 e2 => hb.iret nar_b1 ⟨by rw [← e2, e1]; rfl, h2⟩ (by decide) (by decide)
    have fin0 : ∀ b : Bool, b = false → b = rdA c neg (ρ 6) (ρ 7) (ρ y) → (∃ ty, eRt E = some ty ∧ narrow ty (.int (nI 0)) = .int (nI 0)) ∧ eRet E (some (.int (nI 0))) O2 A2 0 0 := fun b e1 e2 => hb.iret nar_b0 ⟨by rw [← e2, e1]; rfl, h2⟩ (by decide) (by decide)
    obtain rfl | rfl | rfl | rfl | rfl | rfl | rfl | rfl : c = 0 ∨ c = 1 ∨ c = 2 ∨ c = 3 ∨ c = 4 ∨ c = 5 ∨ c = 6 ∨ c = 7 := by omega
    all_goals simp only [↓wpi_isub, ↓wpi_lsub, ↓wpi_ineg, ↓wpi_lneg, ↓wpi_irem, ↓wpi_lrem, ↓wpi_iinc, wp1, wp, wpl, wpi, lget, lput1, lput2, ltail, lkill, aV, aVl, aNth, aPut, aFz, aC0, aC2, aSw, aCat1, aCuts, aSet_eq, List.take, List.drop, List.reverse_cons, List.reverse_nil, List.nil_append, List.cons_append, List.length_cons, List.length_nil, Option.toList, true_and, and_true, Nat.reduceAdd, Nat.reduceEqDiff, Nat.reduceLT, Nat.reduceLeDiff, Nat.zero_add, Nat.add_zero, if_true, if_false, ite_true, ite_false, reduceIte, reduceCtorEq, true_or, or_true, not_true_eq_false, not_false_eq_true, false_and, and_false, true_implies, false_implies, not_false_eq_true, bqX9_rises_0, blX9_rises_0, bqX9_rises_8, blX9_rises_8, bqX9_rises_15, blX9_rises_15, bqX9_rises_22, blX9_rises_22, bqX9_rises_30, blX9_rises_30, bqX9_rises_34, blX9_rises_34, bqX9_rises_38, blX9_rises_38, bqX9_rises_39, blX9_rises_39, bqX9_rises_80, blX9_rises_80, bqX9_rises_84, blX9_rises_84, bqX9_rises_88, blX9_rises_88, bqX9_rises_89, blX9_rises_89, bqX9_rises_90, blX9_rises_90, bqX9_rises_94, blX9_rises_94, bqX9_rises_98, blX9_rises_98, bqX9_rises_103, blX9_rises_103, bqX9_rises_107, blX9_rises_107, bqX9_rises_108, blX9_rises_108, bqX9_rises_109, blX9_rises_109, bqX9_rises_113, blX9_rises_113, bqX9_rises_117, blX9_rises_117, bqX9_rises_118, blX9_rises_118, bqX9_rises_119, blX9_rises_119, bqX9_rises_121, blX9_rises_121, bqX9_rises_128, blX9_rises_128, bqX9_rises_132, blX9_rises_132, bqX9_rises_133, blX9_rises_133, bqX9_rises_134, blX9_rises_134, bqX9_rises_141, blX9_rises_141, bqX9_rises_145, blX9_rises_145, bqX9_rises_146, blX9_rises_146, bqX9_rises_147, blX9_rises_147, nI_cc, nI_tI, Int.ofNat_lt, Int.ofNat_le, or_self, cmpI_lt0, cmpI_gt0, cmpI_le0, cmpI_e0, eo, ob, sBI_le, sBI_ge]
    · exact fin0 _ rfl rfl
    · repeat' (apply And.intro <;> intro h)
      all_goals first | exact fin1 _ (decide_eq_true (by omega)) rfl | exact fin0 _ (decide_eq_false (by omega)) rfl
    · repeat' (apply And.intro <;> intro h)
      all_goals first | exact fin1 _ (decide_eq_true (by omega)) rfl | exact fin0 _ (decide_eq_false (by omega)) rfl
    · repeat' (apply And.intro <;> intro h)
      all_goals first | exact fin1 _ (decide_eq_true (by omega)) rfl | exact fin0 _ (decide_eq_false (by omega)) rfl
    · exact fin1 _ rfl rfl
    · repeat' (apply And.intro <;> intro h)
      all_goals first | exact fin1 (!neg) (by simpa using h) rfl | exact fin0 (!neg) (by simpa using h) rfl
    · repeat' (apply And.intro <;> intro h)
      all_goals first | exact fin1 neg (by simpa using h) rfl | exact fin0 neg (by simpa using h) rfl
    · exact fin0 _ rfl rfl
  have c1 := nI_c (show ρ 6 % 2 < 2 ^ 31 by omega) (show 1 < 2 ^ 31 by decide)
  by_cases ho : ρ 6 % 2 = 1
  · have e1 : (nI (ρ 6 % 2) = nI 1) = True := by rw [c1]; simp [ho]
    simp only [↓wpi_isub, ↓wpi_lsub, ↓wpi_ineg, ↓wpi_lneg, ↓wpi_irem, ↓wpi_lrem, ↓wpi_iinc, wp1, wp, wpl, wpi, lget, lput1, lput2, ltail, lkill, aV, aVl, aNth, aPut, aFz, aC0, aC2, aSw, aCat1, aCuts, aSet_eq, List.take, List.drop, List.reverse_cons, List.reverse_nil, List.nil_append, List.cons_append, List.length_cons, List.length_nil, Option.toList, true_and, and_true, Nat.reduceAdd, Nat.reduceEqDiff, Nat.reduceLT, Nat.reduceLeDiff, Nat.zero_add, Nat.add_zero, if_true, if_false, ite_true, ite_false, reduceIte, reduceCtorEq, true_or, or_true, not_true_eq_false, not_false_eq_true, false_and, and_false, true_implies, false_implies, not_false_eq_true, bqX9_rises_0, blX9_rises_0, bqX9_rises_8, blX9_rises_8, bqX9_rises_15, blX9_rises_15, bqX9_rises_22, blX9_rises_22, bqX9_rises_30, blX9_rises_30, bqX9_rises_34, blX9_rises_34, bqX9_rises_38, blX9_rises_38, bqX9_rises_39, blX9_rises_39, bqX9_rises_80, blX9_rises_80, bqX9_rises_84, blX9_rises_84, bqX9_rises_88, blX9_rises_88, bqX9_rises_89, blX9_rises_89, bqX9_rises_90, blX9_rises_90, bqX9_rises_94, blX9_rises_94, bqX9_rises_98, blX9_rises_98, bqX9_rises_103, blX9_rises_103, bqX9_rises_107, blX9_rises_107, bqX9_rises_108, blX9_rises_108, bqX9_rises_109, blX9_rises_109, bqX9_rises_113, blX9_rises_113, bqX9_rises_117, blX9_rises_117, bqX9_rises_118, blX9_rises_118, bqX9_rises_119, blX9_rises_119, bqX9_rises_121, blX9_rises_121, bqX9_rises_128, blX9_rises_128, bqX9_rises_132, blX9_rises_132, bqX9_rises_133, blX9_rises_133, bqX9_rises_134, blX9_rises_134, bqX9_rises_141, blX9_rises_141, bqX9_rises_145, blX9_rises_145, bqX9_rises_146, blX9_rises_146, bqX9_rises_147, blX9_rises_147, e1]
    exact h39 true ⟨fun _ => ho, fun _ => rfl⟩
  · have e1 : (nI (ρ 6 % 2) = nI 1) = False := by rw [c1]; simp [ho]
    simp only [↓wpi_isub, ↓wpi_lsub, ↓wpi_ineg, ↓wpi_lneg, ↓wpi_irem, ↓wpi_lrem, ↓wpi_iinc, wp1, wp, wpl, wpi, lget, lput1, lput2, ltail, lkill, aV, aVl, aNth, aPut, aFz, aC0, aC2, aSw, aCat1, aCuts, aSet_eq, List.take, List.drop, List.reverse_cons, List.reverse_nil, List.nil_append, List.cons_append, List.length_cons, List.length_nil, Option.toList, true_and, and_true, Nat.reduceAdd, Nat.reduceEqDiff, Nat.reduceLT, Nat.reduceLeDiff, Nat.zero_add, Nat.add_zero, if_true, if_false, ite_true, ite_false, reduceIte, reduceCtorEq, true_or, or_true, not_true_eq_false, not_false_eq_true, false_and, and_false, true_implies, false_implies, not_false_eq_true, bqX9_rises_0, blX9_rises_0, bqX9_rises_8, blX9_rises_8, bqX9_rises_15, blX9_rises_15, bqX9_rises_22, blX9_rises_22, bqX9_rises_30, blX9_rises_30, bqX9_rises_34, blX9_rises_34, bqX9_rises_38, blX9_rises_38, bqX9_rises_39, blX9_rises_39, bqX9_rises_80, blX9_rises_80, bqX9_rises_84, blX9_rises_84, bqX9_rises_88, blX9_rises_88, bqX9_rises_89, blX9_rises_89, bqX9_rises_90, blX9_rises_90, bqX9_rises_94, blX9_rises_94, bqX9_rises_98, blX9_rises_98, bqX9_rises_103, blX9_rises_103, bqX9_rises_107, blX9_rises_107, bqX9_rises_108, blX9_rises_108, bqX9_rises_109, blX9_rises_109, bqX9_rises_113, blX9_rises_113, bqX9_rises_117, blX9_rises_117, bqX9_rises_118, blX9_rises_118, bqX9_rises_119, blX9_rises_119, bqX9_rises_121, blX9_rises_121, bqX9_rises_128, blX9_rises_128, bqX9_rises_132, blX9_rises_132, bqX9_rises_133, blX9_rises_133, bqX9_rises_134, blX9_rises_134, bqX9_rises_141, blX9_rises_141, bqX9_rises_145, blX9_rises_145, bqX9_rises_146, blX9_rises_146, bqX9_rises_147, blX9_rises_147, e1]
    exact h39 false ⟨fun q => Bool.noConfusion q, fun q => absurd q ho⟩
end MA
