/-! ===== the reference: octet, at, size, round, number ===== -/
def mX (Y : Nat → Nat) (N : aN) (t : Int32) (O0 : aO) (A0 : aA) (O : aO) (A : aA) : Prop := ∃ ρ τ ex, τ 0 = t ∧ mW Y ρ τ ex N O0 A0 O A
theorem mX.of {Y ρ : Nat → Nat} {τ : Nat → Int32} {ex : Bool} {N : aN} {O0 O : aO} {A0 A : aA} {t : Int32} (h : mW Y ρ τ ex N O0 A0 O A) (e : τ 0 = t) : mX Y N t O0 A0 O A := ⟨ρ, τ, ex, e, h⟩
section MP2
variable {l : Launch} {G : aG} {base tA : Nat} {Y ρ : Nat → Nat} {τ : Nat → Int32} {ex : Bool} {N : aN} {O0 O : aO} {A0 A : aA} {k i : Nat}
abbrev rmM3 : Room := { frames := 3, cells := 0, slots := 0, locals := 70 }
theorem nF_bI (b : Bool) : (if b then 1 else 0 : Nat) < 2 ^ 31 := by split <;> decide
set_option maxHeartbeats 2000000 in
theorem m_octet (h : mW Y ρ τ ex N O0 A0 O A) {x y : Int32} {w : Nat} (hw : w < 2 ^ 32) : aMet l G base tA yX9_octet cX9_octet 4 none rmM3 [.ref (Y 0), .int x, .int y, .int (nI w)] O A (fun r O' A' => r = none ∧ ((∃ k i, k < N 0 0 ∧ i < N 5 k ∧ x = nI k ∧ y = nI i ∧ mX Y (nU N (6 + k) i (w % 256)) (nI 0) O0 A0 O' A') ∨ (¬ isB N x y ∧ mX Y N (nI 1) O0 A0 O' A'))) := by
  refine aMet_of (ini := false) (B := aLook bkX9_octet) (by decide) (fun h => by first | rfl | cases h) (Nat.le_of_ble_eq_true rfl) boX9_octet ?_
  intro E J hb
  have hc := h.1.1
  refine hb.run (aCuts [7, 19] J) 60 0 _ _ _ _ _ _ (aCuts_ok _) ?_
  simp only [↓wpi_isub, ↓wpi_lsub, ↓wpi_ineg, ↓wpi_lneg, ↓wpi_irem, ↓wpi_lrem, ↓wpi_iinc, wp1, wp, wpl, wpi, lget, lput1, lput2, ltail, lkill, aV, aVl, aNth, aPut, aFz, aC0, aC2, aSw, aCat1, aCuts, aSet_eq, List.take, List.drop, List.reverse_cons, List.reverse_nil, List.nil_append, List.cons_append, List.length_cons, List.length_nil, Option.toList, true_and, and_true, Nat.reduceAdd, Nat.reduceEqDiff, Nat.reduceLT, Nat.reduceLeDiff, Nat.zero_add, Nat.add_zero, if_true, if_false, ite_true, ite_false, reduceIte, reduceCtorEq, true_or, or_true, not_true_eq_false, not_false_eq_true, false_and, and_false, true_implies, false_implies, not_false_eq_true, bqX9_octet_0, blX9_octet_0, bqX9_octet_7, blX9_octet_7, bqX9_octet_10, blX9_octet_10, bqX9_octet_14, blX9_octet_14, bqX9_octet_15, blX9_octet_15, bqX9_octet_19, blX9_octet_19, bqX9_octet_22, blX9_octet_22, bqX9_octet_23, blX9_octet_23, aArgs, List.replicate]
  refine ⟨_, _, _, _, hb.callV lvX9_78 (m_isByte h) rfl h.obj (by decide) (by decide) (by decide), ?_, fun _ _ _ h => h.elim⟩
  rintro _ O A ⟨⟨v, rfl, hv⟩, rfl, rfl⟩
  refine hb.run (aCuts [7, 19] J) 60 7 _ _ _ _ _ _ (aCuts_ok _) ?_
  cases v with
  | false =>
    simp only [↓wpi_isub, ↓wpi_lsub, ↓wpi_ineg, ↓wpi_lneg, ↓wpi_irem, ↓wpi_lrem, ↓wpi_iinc, wp1, wp, wpl, wpi, lget, lput1, lput2, ltail, lkill, aV, aVl, aNth, aPut, aFz, aC0, aC2, aSw, aCat1, aCuts, aSet_eq, List.take, List.drop, List.reverse_cons, List.reverse_nil, List.nil_append, List.cons_append, List.length_cons, List.length_nil, Option.toList, true_and, and_true, Nat.reduceAdd, Nat.reduceEqDiff, Nat.reduceLT, Nat.reduceLeDiff, Nat.zero_add, Nat.add_zero, if_true, if_false, ite_true, ite_false, reduceIte, reduceCtorEq, true_or, or_true, not_true_eq_false, not_false_eq_true, false_and, and_false, true_implies, false_implies, not_false_eq_true, bqX9_octet_0, blX9_octet_0, bqX9_octet_7, blX9_octet_7, bqX9_octet_10, blX9_octet_10, bqX9_octet_14, blX9_octet_14, bqX9_octet_15, blX9_octet_15, bqX9_octet_19, blX9_octet_19, bqX9_octet_22, blX9_octet_22, bqX9_octet_23, blX9_octet_23, bI_f, n0_0]
    refine ⟨_, _, _, _, hb.callV lvX9_67 (m_fails h (b := true)) rfl h.obj (by decide) (by decide) (by decide), ?_, fun _ _ _ h => h.elim⟩
    rintro _ O1 A1 ⟨rfl, h1⟩
    refine hb.run (aCuts [7, 19] J) 60 19 _ _ _ _ _ _ (aCuts_ok _) ?_
    simp only [↓wpi_isub, ↓wpi_lsub, ↓wpi_ineg, ↓wpi_lneg, ↓wpi_irem, ↓wpi_lrem, ↓wpi_iinc, wp1, wp, wpl, wpi, lget, lput1, lput2, ltail, lkill, aV, aVl, aNth, aPut, aFz, aC0, aC2, aSw, aCat1, aCuts, aSet_eq, List.take, List.drop, List.reverse_cons, List.reverse_nil, List.nil_append, List.cons_append, List.length_cons, List.length_nil, Option.toList, true_and, and_true, Nat.reduceAdd, Nat.reduceEqDiff, Nat.reduceLT, Nat.reduceLeDiff, Nat.zero_add, Nat.add_zero, if_true, if_false, ite_true, ite_false, reduceIte, reduceCtorEq, true_or, or_true, not_true_eq_false, not_false_eq_true, false_and, and_false, true_implies, false_implies, not_false_eq_true, bqX9_octet_0, blX9_octet_0, bqX9_octet_7, blX9_octet_7, bqX9_octet_10, blX9_octet_10, bqX9_octet_14, blX9_octet_14, bqX9_octet_15, blX9_octet_15, bqX9_octet_19, blX9_octet_19, bqX9_octet_22, blX9_octet_22, bqX9_octet_23, blX9_octet_23, bI_t, n1_0]
    exact hb.vret ⟨rfl, Or.inr ⟨fun q => Bool.noConfusion (hv.mpr q), mX.of h1 rfl⟩⟩ (by decide) (by decide)
  | true =>
    obtain ⟨k, i, hk, hi, rfl, rfl⟩ := hv.mp rfl
    simp only [↓wpi_isub, ↓wpi_lsub, ↓wpi_ineg, ↓wpi_lneg, ↓wpi_irem, ↓wpi_lrem, ↓wpi_iinc, wp1, wp, wpl, wpi, lget, lput1, lput2, ltail, lkill, aV, aVl, aNth, aPut, aFz, aC0, aC2, aSw, aCat1, aCuts, aSet_eq, List.take, List.drop, List.reverse_cons, List.reverse_nil, List.nil_append, List.cons_append, List.length_cons, List.length_nil, Option.toList, true_and, and_true, Nat.reduceAdd, Nat.reduceEqDiff, Nat.reduceLT, Nat.reduceLeDiff, Nat.zero_add, Nat.add_zero, if_true, if_false, ite_true, ite_false, reduceIte, reduceCtorEq, true_or, or_true, not_true_eq_false, not_false_eq_true, false_and, and_false, true_implies, false_implies, not_false_eq_true, bqX9_octet_0, blX9_octet_0, bqX9_octet_7, blX9_octet_7, bqX9_octet_10, blX9_octet_10, bqX9_octet_14, blX9_octet_14, bqX9_octet_15, blX9_octet_15, bqX9_octet_19, blX9_octet_19, bqX9_octet_22, blX9_octet_22, bqX9_octet_23, blX9_octet_23, bI_t, n1_0]
    refine ⟨_, _, _, _, hb.callV lvX9_67 (m_fails h (b := false)) rfl h.obj (by decide) (by decide) (by decide), ?_, fun _ _ _ h => h.elim⟩
    rintro _ O1 A1 ⟨rfl, h1⟩
    have s2 := (h.szb hk).2
    have e2 : vp_in (nI (64 * k + i)) 4096 := vp_in_nI (by omega) (by decide)
    have h2 := h1.byU hk hi (Nat.mod_lt w (by decide : 256 > 0))
    rw [by_mod hw] at h2
    refine hb.run (aCuts [7, 19] J) 60 19 _ _ _ _ _ _ (aCuts_ok _) ?_
    simp only [↓wpi_isub, ↓wpi_lsub, ↓wpi_ineg, ↓wpi_lneg, ↓wpi_irem, ↓wpi_lrem, ↓wpi_iinc, wp1, wp, wpl, wpi, lget, lput1, lput2, ltail, lkill, aV, aVl, aNth, aPut, aFz, aC0, aC2, aSw, aCat1, aCuts, aSet_eq, List.take, List.drop, List.reverse_cons, List.reverse_nil, List.nil_append, List.cons_append, List.length_cons, List.length_nil, Option.toList, true_and, and_true, Nat.reduceAdd, Nat.reduceEqDiff, Nat.reduceLT, Nat.reduceLeDiff, Nat.zero_add, Nat.add_zero, if_true, if_false, ite_true, ite_false, reduceIte, reduceCtorEq, true_or, or_true, not_true_eq_false, not_false_eq_true, false_and, and_false, true_implies, false_implies, not_false_eq_true, bqX9_octet_0, blX9_octet_0, bqX9_octet_7, blX9_octet_7, bqX9_octet_10, blX9_octet_10, bqX9_octet_14, blX9_octet_14, bqX9_octet_15, blX9_octet_15, bqX9_octet_19, blX9_octet_19, bqX9_octet_22, blX9_octet_22, bqX9_octet_23, blX9_octet_23, bI_f, n0_0, h1.obj, h1.byt, pk_mul, nI_add, e2, nI_clamp (show 64 * k + i < 2 ^ 31 by omega), nar_by]
    exact hb.vret ⟨rfl, Or.inl ⟨k, i, hk, hi, rfl, rfl, mX.of h2 rfl⟩⟩ (by decide) (by decide)
set_option maxHeartbeats 2000000 in
theorem m_at (h : mW Y ρ τ ex N O0 A0 O A) {x y : Int32} : aMet l G base tA yX9_at cX9_at 3 (some .byte) rmM3 [.ref (Y 0), .int x, .int y] O A (fun r O' A' => (∃ k i, k < N 0 0 ∧ i < N 5 k ∧ x = nI k ∧ y = nI i ∧ r = some (.int (nI (N (6 + k) i)).toInt8.toInt32) ∧ mX Y N (nI 0) O0 A0 O' A') ∨ (¬ isB N x y ∧ r = some (.int (nI 0)) ∧ mX Y N (nI 1) O0 A0 O' A')) := by
  refine aMet_of (ini := false) (B := aLook bkX9_at) (by decide) (fun h => by first | rfl | cases h) (Nat.le_of_ble_eq_true rfl) boX9_at ?_
  intro E J hb
  have hc := h.1.1
  refine hb.run (aCuts [7, 19] J) 60 0 _ _ _ _ _ _ (aCuts_ok _) ?_
  simp only [↓wpi_isub, ↓wpi_lsub, ↓wpi_ineg, ↓wpi_lneg, ↓wpi_irem, ↓wpi_lrem, ↓wpi_iinc, wp1, wp, wpl, wpi, lget, lput1, lput2, ltail, lkill, aV, aVl, aNth, aPut, aFz, aC0, aC2, aSw, aCat1, aCuts, aSet_eq, List.take, List.drop, List.reverse_cons, List.reverse_nil, List.nil_append, List.cons_append, List.length_cons, List.length_nil, Option.toList, true_and, and_true, Nat.reduceAdd, Nat.reduceEqDiff, Nat.reduceLT, Nat.reduceLeDiff, Nat.zero_add, Nat.add_zero, if_true, if_false, ite_true, ite_false, reduceIte, reduceCtorEq, true_or, or_true, not_true_eq_false, not_false_eq_true, false_and, and_false, true_implies, false_implies, not_false_eq_true, bqX9_at_0, blX9_at_0, bqX9_at_7, blX9_at_7, bqX9_at_10, blX9_at_10, bqX9_at_14, blX9_at_14, bqX9_at_15, blX9_at_15, bqX9_at_19, blX9_at_19, bqX9_at_22, blX9_at_22, bqX9_at_24, blX9_at_24, aArgs, List.replicate]
  refine ⟨_, _, _, _, hb.callV lvX9_78 (m_isByte h) rfl h.obj (by decide) (by decide) (by decide), ?_, fun _ _ _ h => h.elim⟩
  rintro _ O A ⟨⟨v, rfl, hv⟩, rfl, rfl⟩
  refine hb.run (aCuts [7, 19] J) 60 7 _ _ _ _ _ _ (aCuts_ok _) ?_
  cases v with
  | false =>
    simp only [↓wpi_isub, ↓wpi_lsub, ↓wpi_ineg, ↓wpi_lneg, ↓wpi_irem, ↓wpi_lrem, ↓wpi_iinc, wp1, wp, wpl, wpi, lget, lput1, lput2, ltail, lkill, aV, aVl, aNth, aPut, aFz, aC0, aC2, aSw, aCat1, aCuts, aSet_eq, List.take, List.drop, List.reverse_cons, List.reverse_nil, List.nil_append, List.cons_append, List.length_cons, List.length_nil, Option.toList, true_and, and_true, Nat.reduceAdd, Nat.reduceEqDiff, Nat.reduceLT, Nat.reduceLeDiff, Nat.zero_add, Nat.add_zero, if_true, if_false, ite_true, ite_false, reduceIte, reduceCtorEq, true_or, or_true, not_true_eq_false, not_false_eq_true, false_and, and_false, true_implies, false_implies, not_false_eq_true, bqX9_at_0, blX9_at_0, bqX9_at_7, blX9_at_7, bqX9_at_10, blX9_at_10, bqX9_at_14, blX9_at_14, bqX9_at_15, blX9_at_15, bqX9_at_19, blX9_at_19, bqX9_at_22, blX9_at_22, bqX9_at_24, blX9_at_24, bI_f, n0_0]
    refine ⟨_, _, _, _, hb.callV lvX9_67 (m_fails h (b := true)) rfl h.obj (by decide) (by decide) (by decide), ?_, fun _ _ _ h => h.elim⟩
    rintro _ O1 A1 ⟨rfl, h1⟩
    refine hb.run (aCuts [7, 19] J) 60 19 _ _ _ _ _ _ (aCuts_ok _) ?_
    simp only [↓wpi_isub, ↓wpi_lsub, ↓wpi_ineg, ↓wpi_lneg, ↓wpi_irem, ↓wpi_lrem, ↓wpi_iinc, wp1, wp, wpl, wpi, lget, lput1, lput2, ltail, lkill, aV, aVl, aNth, aPut, aFz, aC0, aC2, aSw, aCat1, aCuts, aSet_eq, List.take, List.drop, List.reverse_cons, List.reverse_nil, List.nil_append, List.cons_append, List.length_cons, List.length_nil, Option.toList, true_and, and_true, Nat.reduceAdd, Nat.reduceEqDiff, Nat.reduceLT, Nat.reduceLeDiff, Nat.zero_add, Nat.add_zero, if_true, if_false, ite_true, ite_false, reduceIte, reduceCtorEq, true_or, or_true, not_true_eq_false, not_false_eq_true, false_and, and_false, true_implies, false_implies, not_false_eq_true, bqX9_at_0, blX9_at_0, bqX9_at_7, blX9_at_7, bqX9_at_10, blX9_at_10, bqX9_at_14, blX9_at_14, bqX9_at_15, blX9_at_15, bqX9_at_19, blX9_at_19, bqX9_at_22, blX9_at_22, bqX9_at_24, blX9_at_24, bI_t, n1_0]
    exact hb.iret (by decide +kernel) (Or.inr ⟨fun q => Bool.noConfusion (hv.mpr q), rfl, mX.of h1 rfl⟩) (by decide) (by decide)
  | true =>
    obtain ⟨k, i, hk, hi, rfl, rfl⟩ := hv.mp rfl
    simp only [↓wpi_isub, ↓wpi_lsub, ↓wpi_ineg, ↓wpi_lneg, ↓wpi_irem, ↓wpi_lrem, ↓wpi_iinc, wp1, wp, wpl, wpi, lget, lput1, lput2, ltail, lkill, aV, aVl, aNth, aPut, aFz, aC0, aC2, aSw, aCat1, aCuts, aSet_eq, List.take, List.drop, List.reverse_cons, List.reverse_nil, List.nil_append, List.cons_append, List.length_cons, List.length_nil, Option.toList, true_and, and_true, Nat.reduceAdd, Nat.reduceEqDiff, Nat.reduceLT, Nat.reduceLeDiff, Nat.zero_add, Nat.add_zero, if_true, if_false, ite_true, ite_false, reduceIte, reduceCtorEq, true_or, or_true, not_true_eq_false, not_false_eq_true, false_and, and_false, true_implies, false_implies, not_false_eq_true, bqX9_at_0, blX9_at_0, bqX9_at_7, blX9_at_7, bqX9_at_10, blX9_at_10, bqX9_at_14, blX9_at_14, bqX9_at_15, blX9_at_15, bqX9_at_19, blX9_at_19, bqX9_at_22, blX9_at_22, bqX9_at_24, blX9_at_24, bI_t, n1_0]
    refine ⟨_, _, _, _, hb.callV lvX9_67 (m_fails h (b := false)) rfl h.obj (by decide) (by decide) (by decide), ?_, fun _ _ _ h => h.elim⟩
    rintro _ O1 A1 ⟨rfl, h1⟩
    have s2 := (h.szb hk).2
    have e2 : vp_in (nI (64 * k + i)) 4096 := vp_in_nI (by omega) (by decide)
    refine hb.run (aCuts [7, 19] J) 60 19 _ _ _ _ _ _ (aCuts_ok _) ?_
    simp only [↓wpi_isub, ↓wpi_lsub, ↓wpi_ineg, ↓wpi_lneg, ↓wpi_irem, ↓wpi_lrem, ↓wpi_iinc, wp1, wp, wpl, wpi, lget, lput1, lput2, ltail, lkill, aV, aVl, aNth, aPut, aFz, aC0, aC2, aSw, aCat1, aCuts, aSet_eq, List.take, List.drop, List.reverse_cons, List.reverse_nil, List.nil_append, List.cons_append, List.length_cons, List.length_nil, Option.toList, true_and, and_true, Nat.reduceAdd, Nat.reduceEqDiff, Nat.reduceLT, Nat.reduceLeDiff, Nat.zero_add, Nat.add_zero, if_true, if_false, ite_true, ite_false, reduceIte, reduceCtorEq, true_or, or_true, not_true_eq_false, not_false_eq_true, false_and, and_false, true_implies, false_implies, not_false_eq_true, bqX9_at_0, blX9_at_0, bqX9_at_7, blX9_at_7, bqX9_at_10, blX9_at_10, bqX9_at_14, blX9_at_14, bqX9_at_15, blX9_at_15, bqX9_at_19, blX9_at_19, bqX9_at_22, blX9_at_22, bqX9_at_24, blX9_at_24, bI_f, n0_0, h1.obj, h1.byt, pk_mul, nI_add, e2, nI_clamp (show 64 * k + i < 2 ^ 31 by omega), mB_at (show i < 64 by omega)]
    exact hb.iret (pk_nb _) (Or.inl ⟨k, i, hk, hi, rfl, rfl, rfl, mX.of h1 rfl⟩) (by decide) (by decide)
set_option maxHeartbeats 2000000 in
theorem m_size (h : mW Y ρ τ ex N O0 A0 O A) {x : Int32} : aMet l G base tA yX9_size cX9_size 2 (some .int) rmM1 [.ref (Y 0), .int x] O A (fun r O' A' => (∃ k, k < N 0 0 ∧ x = nI k ∧ r = some (.int (nI (N 5 k))) ∧ mX Y N (nI 0) O0 A0 O' A') ∨ (¬ isN N x ∧ r = some (.int (nI 0)) ∧ mX Y N (nI 1) O0 A0 O' A')) := by
  refine aMet_of (ini := false) (B := aLook bkX9_size) (by decide) (fun h => by first | rfl | cases h) (Nat.le_of_ble_eq_true rfl) boX9_size ?_
  intro E J hb
  have hc := h.1.1
  refine hb.run (aCuts [6, 18] J) 60 0 _ _ _ _ _ _ (aCuts_ok _) ?_
  simp only [↓wpi_isub, ↓wpi_lsub, ↓wpi_ineg, ↓wpi_lneg, ↓wpi_irem, ↓wpi_lrem, ↓wpi_iinc, wp1, wp, wpl, wpi, lget, lput1, lput2, ltail, lkill, aV, aVl, aNth, aPut, aFz, aC0, aC2, aSw, aCat1, aCuts, aSet_eq, List.take, List.drop, List.reverse_cons, List.reverse_nil, List.nil_append, List.cons_append, List.length_cons, List.length_nil, Option.toList, true_and, and_true, Nat.reduceAdd, Nat.reduceEqDiff, Nat.reduceLT, Nat.reduceLeDiff, Nat.zero_add, Nat.add_zero, if_true, if_false, ite_true, ite_false, reduceIte, reduceCtorEq, true_or, or_true, not_true_eq_false, not_false_eq_true, false_and, and_false, true_implies, false_implies, not_false_eq_true, bqX9_size_0, blX9_size_0, bqX9_size_6, blX9_size_6, bqX9_size_9, blX9_size_9, bqX9_size_13, blX9_size_13, bqX9_size_14, blX9_size_14, bqX9_size_18, blX9_size_18, bqX9_size_21, blX9_size_21, bqX9_size_23, blX9_size_23, aArgs, List.replicate]
  refine ⟨_, _, _, _, hb.callV lvX9_74 (m_isNumber h) rfl h.obj (by decide) (by decide) (by decide), ?_, fun _ _ _ h => h.elim⟩
  rintro _ O A ⟨⟨v, rfl, hv⟩, rfl, rfl⟩
  refine hb.run (aCuts [6, 18] J) 60 6 _ _ _ _ _ _ (aCuts_ok _) ?_
  cases v with
  | false =>
    simp only [↓wpi_isub, ↓wpi_lsub, ↓wpi_ineg, ↓wpi_lneg, ↓wpi_irem, ↓wpi_lrem, ↓wpi_iinc, wp1, wp, wpl, wpi, lget, lput1, lput2, ltail, lkill, aV, aVl, aNth, aPut, aFz, aC0, aC2, aSw, aCat1, aCuts, aSet_eq, List.take, List.drop, List.reverse_cons, List.reverse_nil, List.nil_append, List.cons_append, List.length_cons, List.length_nil, Option.toList, true_and, and_true, Nat.reduceAdd, Nat.reduceEqDiff, Nat.reduceLT, Nat.reduceLeDiff, Nat.zero_add, Nat.add_zero, if_true, if_false, ite_true, ite_false, reduceIte, reduceCtorEq, true_or, or_true, not_true_eq_false, not_false_eq_true, false_and, and_false, true_implies, false_implies, not_false_eq_true, bqX9_size_0, blX9_size_0, bqX9_size_6, blX9_size_6, bqX9_size_9, blX9_size_9, bqX9_size_13, blX9_size_13, bqX9_size_14, blX9_size_14, bqX9_size_18, blX9_size_18, bqX9_size_21, blX9_size_21, bqX9_size_23, blX9_size_23, bI_f, n0_0]
    refine ⟨_, _, _, _, hb.callV lvX9_67 (m_fails h (b := true)) rfl h.obj (by decide) (by decide) (by decide), ?_, fun _ _ _ h => h.elim⟩
    rintro _ O1 A1 ⟨rfl, h1⟩
    refine hb.run (aCuts [6, 18] J) 60 18 _ _ _ _ _ _ (aCuts_ok _) ?_
    simp only [↓wpi_isub, ↓wpi_lsub, ↓wpi_ineg, ↓wpi_lneg, ↓wpi_irem, ↓wpi_lrem, ↓wpi_iinc, wp1, wp, wpl, wpi, lget, lput1, lput2, ltail, lkill, aV, aVl, aNth, aPut, aFz, aC0, aC2, aSw, aCat1, aCuts, aSet_eq, List.take, List.drop, List.reverse_cons, List.reverse_nil, List.nil_append, List.cons_append, List.length_cons, List.length_nil, Option.toList, true_and, and_true, Nat.reduceAdd, Nat.reduceEqDiff, Nat.reduceLT, Nat.reduceLeDiff, Nat.zero_add, Nat.add_zero, if_true, if_false, ite_true, ite_false, reduceIte, reduceCtorEq, true_or, or_true, not_true_eq_false, not_false_eq_true, false_and, and_false, true_implies, false_implies, not_false_eq_true, bqX9_size_0, blX9_size_0, bqX9_size_6, blX9_size_6, bqX9_size_9, blX9_size_9, bqX9_size_13, blX9_size_13, bqX9_size_14, blX9_size_14, bqX9_size_18, blX9_size_18, bqX9_size_21, blX9_size_21, bqX9_size_23, blX9_size_23, bI_t, n1_0]
    exact hb.iret (nar_i _) (Or.inr ⟨fun q => Bool.noConfusion (hv.mpr q), rfl, mX.of h1 rfl⟩) (by decide) (by decide)
  | true =>
    obtain ⟨k, hk, rfl⟩ := hv.mp rfl
    simp only [↓wpi_isub, ↓wpi_lsub, ↓wpi_ineg, ↓wpi_lneg, ↓wpi_irem, ↓wpi_lrem, ↓wpi_iinc, wp1, wp, wpl, wpi, lget, lput1, lput2, ltail, lkill, aV, aVl, aNth, aPut, aFz, aC0, aC2, aSw, aCat1, aCuts, aSet_eq, List.take, List.drop, List.reverse_cons, List.reverse_nil, List.nil_append, List.cons_append, List.length_cons, List.length_nil, Option.toList, true_and, and_true, Nat.reduceAdd, Nat.reduceEqDiff, Nat.reduceLT, Nat.reduceLeDiff, Nat.zero_add, Nat.add_zero, if_true, if_false, ite_true, ite_false, reduceIte, reduceCtorEq, true_or, or_true, not_true_eq_false, not_false_eq_true, false_and, and_false, true_implies, false_implies, not_false_eq_true, bqX9_size_0, blX9_size_0, bqX9_size_6, blX9_size_6, bqX9_size_9, blX9_size_9, bqX9_size_13, blX9_size_13, bqX9_size_14, blX9_size_14, bqX9_size_18, blX9_size_18, bqX9_size_21, blX9_size_21, bqX9_size_23, blX9_size_23, bI_t, n1_0]
    refine ⟨_, _, _, _, hb.callV lvX9_67 (m_fails h (b := false)) rfl h.obj (by decide) (by decide) (by decide), ?_, fun _ _ _ h => h.elim⟩
    rintro _ O1 A1 ⟨rfl, h1⟩
    have e2 : vp_in (nI k) 64 := vp_in_nI (by omega) (by decide)
    refine hb.run (aCuts [6, 18] J) 60 18 _ _ _ _ _ _ (aCuts_ok _) ?_
    simp only [↓wpi_isub, ↓wpi_lsub, ↓wpi_ineg, ↓wpi_lneg, ↓wpi_irem, ↓wpi_lrem, ↓wpi_iinc, wp1, wp, wpl, wpi, lget, lput1, lput2, ltail, lkill, aV, aVl, aNth, aPut, aFz, aC0, aC2, aSw, aCat1, aCuts, aSet_eq, List.take, List.drop, List.reverse_cons, List.reverse_nil, List.nil_append, List.cons_append, List.length_cons, List.length_nil, Option.toList, true_and, and_true, Nat.reduceAdd, Nat.reduceEqDiff, Nat.reduceLT, Nat.reduceLeDiff, Nat.zero_add, Nat.add_zero, if_true, if_false, ite_true, ite_false, reduceIte, reduceCtorEq, true_or, or_true, not_true_eq_false, not_false_eq_true, false_and, and_false, true_implies, false_implies, not_false_eq_true, bqX9_size_0, blX9_size_0, bqX9_size_6, blX9_size_6, bqX9_size_9, blX9_size_9, bqX9_size_13, blX9_size_13, bqX9_size_14, blX9_size_14, bqX9_size_18, blX9_size_18, bqX9_size_21, blX9_size_21, bqX9_size_23, blX9_size_23, bI_f, n0_0, h1.obj, h1.siz, e2, nI_clamp (show k < 2 ^ 31 by omega), nF_at]
    exact hb.iret (nar_i _) (Or.inl ⟨k, hk, rfl, rfl, mX.of h1 rfl⟩) (by decide) (by decide)
/-- a number's rounding changed -/
theorem mW.rnd (h : mW Y ρ τ ex N O0 A0 O A) {b : Nat} (hk : k < N 0 0) (hb : b ≤ 7) : mW Y ρ τ ex (nU N 4 k b) O0 A0 O (aSet A (Y 6) (0, 64, .inl (nF (uN9 (N 4) k b)))) := by
  have e0 : ∀ r j, r ≠ 4 → nU N 4 k b r j = N r j := fun r j hr => nU_ne (by omega)
  have er : ∀ r, r ≠ 4 → nU N 4 k b r = N r := fun r hr => funext fun j => e0 r j hr
  have nA : ∀ {e : Nat × vp_A} j, j < 8 → j ≠ 6 → aSet A (Y 6) e (Y j) = A (Y j) := fun j hj h1 => aSet_ne (h.inj hj (by decide) h1)
  refine ⟨⟨?_, ?_, ?_, ?_⟩, h.2.1, ?_, ⟨?_, ?_, ?_, ?_, ?_, ?_⟩, ?_, fun z hz => ⟨(h.frm z hz).1, by rw [aSet_ne (hz 6 (by decide)).symm]; exact (h.frm z hz).2⟩⟩
  · rw [e0 0 0 (by decide)]; exact h.1.1
  · intro k' hk'
    rw [e0 0 0 (by decide)] at hk'
    have q := h.1.2.1 k' hk'
    rw [e0 1 k' (by decide), e0 2 k' (by decide), e0 3 k' (by decide), e0 5 k' (by decide)]
    by_cases e : k' = k
    · subst e; rw [nU_eq]; exact ⟨q.1, q.2.1, q.2.2.1, q.2.2.2.1, hb, q.2.2.2.2.2⟩
    · rw [nU_ne (Or.inr e)]; exact q
  · intro k' hk'
    rw [e0 0 0 (by decide)] at hk'
    rw [e0 1 k' (by decide), e0 2 k' (by decide), e0 3 k' (by decide), e0 5 k' (by decide), nU_ne (by omega)]; exact h.1.2.2.1 k' hk'
  · intro k' i'
    rw [e0 5 k' (by decide), e0 (6 + k') i' (by omega)]
    exact h.1.2.2.2 k' i'
  · have := h.2.2.1
    unfold mF at this ⊢
    rw [e0 0 0 (by decide)]; exact this
  · have : mB (nU N 4 k b) = mB N := by funext j; unfold mB; rw [e0 _ _ (by omega)]
    rw [nA 1 (by decide) (by decide), this]; exact h.byt
  · rw [nA 2 (by decide) (by decide), er 1 (by decide)]; exact h.usa
  · rw [nA 3 (by decide) (by decide), er 2 (by decide)]; exact h.dig
  · rw [nA 4 (by decide) (by decide), er 3 (by decide)]; exact h.sca
  · rw [nA 5 (by decide) (by decide), er 5 (by decide)]; exact h.siz
  · have : uN9 (N 4) k b = nU N 4 k b 4 := by
      funext j
      by_cases e : j = k
      · rw [e, uN9_eq, nU_eq]
      · rw [uN9_ne e, nU_ne (Or.inr e)]
    rw [aSet_eq, this]
  · obtain ⟨g, hg, hr⟩ := h.row
    exact ⟨g, by rw [nA 7 (by decide) (by decide)]; exact hg, hr⟩
set_option maxHeartbeats 4000000 in
theorem m_round (h : mW Y ρ τ ex N O0 A0 O A) {x y : Int32} : aMet l G base tA yX9_round cX9_round 4 (some .int) rmM1 [.ref (Y 0), .int x, .int y] O A (fun r O' A' => (∃ k N', k < N 0 0 ∧ x = nI k ∧ rnP N k y r N' ∧ mX Y N' (nI 0) O0 A0 O' A') ∨ (¬ isN N x ∧ r = some (.int (nI 0)) ∧ mX Y N (nI 1) O0 A0 O' A')) := by
  refine aMet_of (ini := false) (B := aLook bkX9_round) (by decide) (fun h => by first | rfl | cases h) (Nat.le_of_ble_eq_true rfl) boX9_round ?_
  intro E J hb
  have hc := h.1.1
  refine hb.run (aCuts [6, 18] J) 60 0 _ _ _ _ _ _ (aCuts_ok _) ?_
  simp only [↓wpi_isub, ↓wpi_lsub, ↓wpi_ineg, ↓wpi_lneg, ↓wpi_irem, ↓wpi_lrem, ↓wpi_iinc, wp1, wp, wpl, wpi, lget, lput1, lput2, ltail, lkill, aV, aVl, aNth, aPut, aFz, aC0, aC2, aSw, aCat1, aCuts, aSet_eq, List.take, List.drop, List.reverse_cons, List.reverse_nil, List.nil_append, List.cons_append, List.length_cons, List.length_nil, Option.toList, true_and, and_true, Nat.reduceAdd, Nat.reduceEqDiff, Nat.reduceLT, Nat.reduceLeDiff, Nat.zero_add, Nat.add_zero, if_true, if_false, ite_true, ite_false, reduceIte, reduceCtorEq, true_or, or_true, not_true_eq_false, not_false_eq_true, false_and, and_false, true_implies, false_implies, not_false_eq_true, bqX9_round_0, blX9_round_0, bqX9_round_6, blX9_round_6, bqX9_round_9, blX9_round_9, bqX9_round_13, blX9_round_13, bqX9_round_14, blX9_round_14, bqX9_round_18, blX9_round_18, bqX9_round_21, blX9_round_21, bqX9_round_23, blX9_round_23, bqX9_round_27, blX9_round_27, bqX9_round_33, blX9_round_33, bqX9_round_35, blX9_round_35, aArgs, List.replicate]
  refine ⟨_, _, _, _, hb.callV lvX9_74 (m_isNumber h) rfl h.obj (by decide) (by decide) (by decide), ?_, fun _ _ _ h => h.elim⟩
  rintro _ O A ⟨⟨v, rfl, hv⟩, rfl, rfl⟩
  refine hb.run (aCuts [6, 18] J) 60 6 _ _ _ _ _ _ (aCuts_ok _) ?_
  cases v with
  | false =>
    simp only [↓wpi_isub, ↓wpi_lsub, ↓wpi_ineg, ↓wpi_lneg, ↓wpi_irem, ↓wpi_lrem, ↓wpi_iinc, wp1, wp, wpl, wpi, lget, lput1, lput2, ltail, lkill, aV, aVl, aNth, aPut, aFz, aC0, aC2, aSw, aCat1, aCuts, aSet_eq, List.take, List.drop, List.reverse_cons, List.reverse_nil, List.nil_append, List.cons_append, List.length_cons, List.length_nil, Option.toList, true_and, and_true, Nat.reduceAdd, Nat.reduceEqDiff, Nat.reduceLT, Nat.reduceLeDiff, Nat.zero_add, Nat.add_zero, if_true, if_false, ite_true, ite_false, reduceIte, reduceCtorEq, true_or, or_true, not_true_eq_false, not_false_eq_true, false_and, and_false, true_implies, false_implies, not_false_eq_true, bqX9_round_0, blX9_round_0, bqX9_round_6, blX9_round_6, bqX9_round_9, blX9_round_9, bqX9_round_13, blX9_round_13, bqX9_round_14, blX9_round_14, bqX9_round_18, blX9_round_18, bqX9_round_21, blX9_round_21, bqX9_round_23, blX9_round_23, bqX9_round_27, blX9_round_27, bqX9_round_33, blX9_round_33, bqX9_round_35, blX9_round_35, bI_f, n0_0]
    refine ⟨_, _, _, _, hb.callV lvX9_67 (m_fails h (b := true)) rfl h.obj (by decide) (by decide) (by decide), ?_, fun _ _ _ h => h.elim⟩
    rintro _ O1 A1 ⟨rfl, h1⟩
    refine hb.run (aCuts [6, 18] J) 60 18 _ _ _ _ _ _ (aCuts_ok _) ?_
    simp only [↓wpi_isub, ↓wpi_lsub, ↓wpi_ineg, ↓wpi_lneg, ↓wpi_irem, ↓wpi_lrem, ↓wpi_iinc, wp1, wp, wpl, wpi, lget, lput1, lput2, ltail, lkill, aV, aVl, aNth, aPut, aFz, aC0, aC2, aSw, aCat1, aCuts, aSet_eq, List.take, List.drop, List.reverse_cons, List.reverse_nil, List.nil_append, List.cons_append, List.length_cons, List.length_nil, Option.toList, true_and, and_true, Nat.reduceAdd, Nat.reduceEqDiff, Nat.reduceLT, Nat.reduceLeDiff, Nat.zero_add, Nat.add_zero, if_true, if_false, ite_true, ite_false, reduceIte, reduceCtorEq, true_or, or_true, not_true_eq_false, not_false_eq_true, false_and, and_false, true_implies, false_implies, not_false_eq_true, bqX9_round_0, blX9_round_0, bqX9_round_6, blX9_round_6, bqX9_round_9, blX9_round_9, bqX9_round_13, blX9_round_13, bqX9_round_14, blX9_round_14, bqX9_round_18, blX9_round_18, bqX9_round_21, blX9_round_21, bqX9_round_23, blX9_round_23, bqX9_round_27, blX9_round_27, bqX9_round_33, blX9_round_33, bqX9_round_35, blX9_round_35, bI_t, n1_0]
    exact hb.iret (nar_i _) (Or.inr ⟨fun q => Bool.noConfusion (hv.mpr q), rfl, mX.of h1 rfl⟩) (by decide) (by decide)
  | true =>
    obtain ⟨k, hk, rfl⟩ := hv.mp rfl
    simp only [↓wpi_isub, ↓wpi_lsub, ↓wpi_ineg, ↓wpi_lneg, ↓wpi_irem, ↓wpi_lrem, ↓wpi_iinc, wp1, wp, wpl, wpi, lget, lput1, lput2, ltail, lkill, aV, aVl, aNth, aPut, aFz, aC0, aC2, aSw, aCat1, aCuts, aSet_eq, List.take, List.drop, List.reverse_cons, List.reverse_nil, List.nil_append, List.cons_append, List.length_cons, List.length_nil, Option.toList, true_and, and_true, Nat.reduceAdd, Nat.reduceEqDiff, Nat.reduceLT, Nat.reduceLeDiff, Nat.zero_add, Nat.add_zero, if_true, if_false, ite_true, ite_false, reduceIte, reduceCtorEq, true_or, or_true, not_true_eq_false, not_false_eq_true, false_and, and_false, true_implies, false_implies, not_false_eq_true, bqX9_round_0, blX9_round_0, bqX9_round_6, blX9_round_6, bqX9_round_9, blX9_round_9, bqX9_round_13, blX9_round_13, bqX9_round_14, blX9_round_14, bqX9_round_18, blX9_round_18, bqX9_round_21, blX9_round_21, bqX9_round_23, blX9_round_23, bqX9_round_27, blX9_round_27, bqX9_round_33, blX9_round_33, bqX9_round_35, blX9_round_35, bI_t, n1_0]
    refine ⟨_, _, _, _, hb.callV lvX9_67 (m_fails h (b := false)) rfl h.obj (by decide) (by decide) (by decide), ?_, fun _ _ _ h => h.elim⟩
    rintro _ O1 A1 ⟨rfl, h1⟩
    have e2 : vp_in (nI k) 64 := vp_in_nI (by omega) (by decide)
    refine hb.run (aCuts [6, 18] J) 60 18 _ _ _ _ _ _ (aCuts_ok _) ?_
    by_cases h00 : y < 0
    · have e0 : (y < 0) = True := by simp [h00]
      simp only [↓wpi_isub, ↓wpi_lsub, ↓wpi_ineg, ↓wpi_lneg, ↓wpi_irem, ↓wpi_lrem, ↓wpi_iinc, wp1, wp, wpl, wpi, lget, lput1, lput2, ltail, lkill, aV, aVl, aNth, aPut, aFz, aC0, aC2, aSw, aCat1, aCuts, aSet_eq, List.take, List.drop, List.reverse_cons, List.reverse_nil, List.nil_append, List.cons_append, List.length_cons, List.length_nil, Option.toList, true_and, and_true, Nat.reduceAdd, Nat.reduceEqDiff, Nat.reduceLT, Nat.reduceLeDiff, Nat.zero_add, Nat.add_zero, if_true, if_false, ite_true, ite_false, reduceIte, reduceCtorEq, true_or, or_true, not_true_eq_false, not_false_eq_true, false_and, and_false, true_implies, false_implies, not_false_eq_true, bqX9_round_0, blX9_round_0, bqX9_round_6, blX9_round_6, bqX9_round_9, blX9_round_9, bqX9_round_13, blX9_round_13, bqX9_round_14, blX9_round_14, bqX9_round_18, blX9_round_18, bqX9_round_21, blX9_round_21, bqX9_round_23, blX9_round_23, bqX9_round_27, blX9_round_27, bqX9_round_33, blX9_round_33, bqX9_round_35, blX9_round_35, bI_f, n0_0, e0]
      refine hb.iret (nar_i _) (Or.inl ⟨k, N, hk, rfl, Or.inr ⟨fun j hj e => ?_, rfl, rfl⟩, mX.of h1 rfl⟩) (by decide) (by decide)
      rw [e] at h00; exact nI_pos (by omega) h00
    · obtain ⟨j, hj, rfl⟩ := nI_of h00
      by_cases h7 : j ≤ 7
      · have e1 : (nI j ≤ nI 7) = True := by rw [nI_leP hj (by decide)]; simp; omega
        simp only [↓wpi_isub, ↓wpi_lsub, ↓wpi_ineg, ↓wpi_lneg, ↓wpi_irem, ↓wpi_lrem, ↓wpi_iinc, wp1, wp, wpl, wpi, lget, lput1, lput2, ltail, lkill, aV, aVl, aNth, aPut, aFz, aC0, aC2, aSw, aCat1, aCuts, aSet_eq, List.take, List.drop, List.reverse_cons, List.reverse_nil, List.nil_append, List.cons_append, List.length_cons, List.length_nil, Option.toList, true_and, and_true, Nat.reduceAdd, Nat.reduceEqDiff, Nat.reduceLT, Nat.reduceLeDiff, Nat.zero_add, Nat.add_zero, if_true, if_false, ite_true, ite_false, reduceIte, reduceCtorEq, true_or, or_true, not_true_eq_false, not_false_eq_true, false_and, and_false, true_implies, false_implies, not_false_eq_true, bqX9_round_0, blX9_round_0, bqX9_round_6, blX9_round_6, bqX9_round_9, blX9_round_9, bqX9_round_13, blX9_round_13, bqX9_round_14, blX9_round_14, bqX9_round_18, blX9_round_18, bqX9_round_21, blX9_round_21, bqX9_round_23, blX9_round_23, bqX9_round_27, blX9_round_27, bqX9_round_33, blX9_round_33, bqX9_round_35, blX9_round_35, bI_f, n0_0, nI_lt0 hj, e1, h1.obj, h1.kin, e2, nI_clamp (show k < 2 ^ 31 by omega), nF_at, nF_upd]
        exact hb.iret (nar_i _) (Or.inl ⟨k, _, hk, rfl, Or.inl ⟨j, h7, rfl, rfl, rfl⟩, mX.of (h1.rnd hk h7) rfl⟩) (by decide) (by decide)
      · have e1 : (nI j ≤ nI 7) = False := by rw [nI_leP hj (by decide)]; simp; omega
        simp only [↓wpi_isub, ↓wpi_lsub, ↓wpi_ineg, ↓wpi_lneg, ↓wpi_irem, ↓wpi_lrem, ↓wpi_iinc, wp1, wp, wpl, wpi, lget, lput1, lput2, ltail, lkill, aV, aVl, aNth, aPut, aFz, aC0, aC2, aSw, aCat1, aCuts, aSet_eq, List.take, List.drop, List.reverse_cons, List.reverse_nil, List.nil_append, List.cons_append, List.length_cons, List.length_nil, Option.toList, true_and, and_true, Nat.reduceAdd, Nat.reduceEqDiff, Nat.reduceLT, Nat.reduceLeDiff, Nat.zero_add, Nat.add_zero, if_true, if_false, ite_true, ite_false, reduceIte, reduceCtorEq, true_or, or_true, not_true_eq_false, not_false_eq_true, false_and, and_false, true_implies, false_implies, not_false_eq_true, bqX9_round_0, blX9_round_0, bqX9_round_6, blX9_round_6, bqX9_round_9, blX9_round_9, bqX9_round_13, blX9_round_13, bqX9_round_14, blX9_round_14, bqX9_round_18, blX9_round_18, bqX9_round_21, blX9_round_21, bqX9_round_23, blX9_round_23, bqX9_round_27, blX9_round_27, bqX9_round_33, blX9_round_33, bqX9_round_35, blX9_round_35, bI_f, n0_0, nI_lt0 hj, e1]
        refine hb.iret (nar_i _) (Or.inl ⟨k, N, hk, rfl, Or.inr ⟨fun i hi e => ?_, rfl, rfl⟩, mX.of h1 rfl⟩) (by decide) (by decide)
        have := (nI_eq hj (by omega)).mp e
        omega
set_option maxHeartbeats 4000000 in
theorem ct_X9_sizeOf {u d : Nat} (hu : u ≤ 11) (hd : d ≤ 31) : aMet l G base tA yX9_sizeOf cX9_sizeOf 2 (some .int) rmZ [.int (nI u), .int (nI d)] O A (fun r O' A' => r = some (.int (nI (szOf u d))) ∧ O' = O ∧ A' = A) := by
  refine aMet_of (ini := false) (B := aLook bkX9_sizeOf) (by decide) (fun h => by first | rfl | cases h) (Nat.le_of_ble_eq_true rfl) boX9_sizeOf ?_
  intro E J hb
  refine hb.run (aCuts [] J) 60 0 _ _ _ _ _ _ (aCuts_ok _) ?_
  have fin : ∀ {n : Nat}, n = szOf u d → (∃ ty, eRt E = some ty ∧ narrow ty (.int (nI n)) = .int (nI n)) ∧ eRet E (some (.int (nI n))) O A 0 0 := fun e => hb.iret (nar_i _) ⟨by rw [e], rfl, rfl⟩ (by decide) (by decide)
  have e2 : nI d / nI 2 = nI (d / 2) := pk_div (by omega) (by decide) (by decide)
  obtain rfl | rfl | rfl | rfl | rfl | rfl | rfl | rfl | rfl | rfl | rfl | rfl : u = 0 ∨ u = 1 ∨ u = 2 ∨ u = 3 ∨ u = 4 ∨ u = 5 ∨ u = 6 ∨ u = 7 ∨ u = 8 ∨ u = 9 ∨ u = 10 ∨ u = 11 := by omega
  all_goals simp only [↓wpi_isub, ↓wpi_lsub, ↓wpi_ineg, ↓wpi_lneg, ↓wpi_irem, ↓wpi_lrem, ↓wpi_iinc, wp1, wp, wpl, wpi, lget, lput1, lput2, ltail, lkill, aV, aVl, aNth, aPut, aFz, aC0, aC2, aSw, aCat1, aCuts, aSet_eq, List.take, List.drop, List.reverse_cons, List.reverse_nil, List.nil_append, List.cons_append, List.length_cons, List.length_nil, Option.toList, true_and, and_true, Nat.reduceAdd, Nat.reduceEqDiff, Nat.reduceLT, Nat.reduceLeDiff, Nat.zero_add, Nat.add_zero, if_true, if_false, ite_true, ite_false, reduceIte, reduceCtorEq, true_or, or_true, not_true_eq_false, not_false_eq_true, false_and, and_false, true_implies, false_implies, not_false_eq_true, bqX9_sizeOf_0, blX9_sizeOf_0, bqX9_sizeOf_56, blX9_sizeOf_56, bqX9_sizeOf_60, blX9_sizeOf_60, bqX9_sizeOf_66, blX9_sizeOf_66, bqX9_sizeOf_71, blX9_sizeOf_71, bqX9_sizeOf_75, blX9_sizeOf_75, bqX9_sizeOf_81, blX9_sizeOf_81, bqX9_sizeOf_85, blX9_sizeOf_85, bqX9_sizeOf_91, blX9_sizeOf_91, bqX9_sizeOf_96, blX9_sizeOf_96, bqX9_sizeOf_98, blX9_sizeOf_98, bqX9_sizeOf_99, blX9_sizeOf_99, bqX9_sizeOf_101, blX9_sizeOf_101, bqX9_sizeOf_104, blX9_sizeOf_104, bqX9_sizeOf_110, blX9_sizeOf_110, aArgs, List.replicate, nI_cc, nI_tI, Int.ofNat_lt, Int.ofNat_le, or_self, nI_add, pk_mul, nI_2, e2, nI_leP (show 5 < 2 ^ 31 by decide) (show d < 2 ^ 31 by omega), nI_leP (show 10 < 2 ^ 31 by decide) (show d < 2 ^ 31 by omega), nI_leP (show 19 < 2 ^ 31 by decide) (show d < 2 ^ 31 by omega)]
  · exact fin rfl
  · exact fin rfl
  · exact fin rfl
  · exact fin rfl
  · exact fin rfl
  · exact fin rfl
  · exact fin rfl
  · repeat' (apply And.intro <;> intro h)
    all_goals refine fin ?_
    all_goals simp only [szOf, Nat.reduceEqDiff, or_self, if_false, true_or, if_true]
    all_goals repeat' split
    all_goals omega
  · repeat' (apply And.intro <;> intro h)
    all_goals refine fin ?_
    all_goals simp only [szOf, Nat.reduceEqDiff, or_self, if_false, or_true, if_true]
    all_goals repeat' split
    all_goals omega
  · exact fin rfl
  · exact fin rfl
  · exact fin rfl
theorem nNw_row {u d s : Nat} : uN9 (N 1) (N 0 0) u = nNw N u d s 1 ∧ uN9 (N 2) (N 0 0) d = nNw N u d s 2 ∧ uN9 (N 3) (N 0 0) s = nNw N u d s 3 ∧ uN9 (N 5) (N 0 0) (szOf u d) = nNw N u d s 5 ∧ N 4 = nNw N u d s 4 := by
  obtain ⟨a1, a2, a3, a4⟩ := nNw_at (N := N) (u := u) (d := d) (s := s)
  refine ⟨?_, ?_, ?_, ?_, ?_⟩
  · funext j
    by_cases e : j = N 0 0
    · rw [e, uN9_eq, a1]
    · rw [uN9_ne e, nNw_old (by decide) e]
  · funext j
    by_cases e : j = N 0 0
    · rw [e, uN9_eq, a2]
    · rw [uN9_ne e, nNw_old (by decide) e]
  · funext j
    by_cases e : j = N 0 0
    · rw [e, uN9_eq, a3]
    · rw [uN9_ne e, nNw_old (by decide) e]
  · funext j
    by_cases e : j = N 0 0
    · rw [e, uN9_eq, a4]
    · rw [uN9_ne e, nNw_old (by decide) e]
  · funext j; rw [nNw_hi (Or.inr rfl)]
theorem mW.new (h : mW Y ρ τ ex N O0 A0 O A) {u d s : Nat} (hu : u ≤ 11) (hd1 : 1 ≤ d) (hd : d ≤ 31) (hs : s ≤ d) (hc : N 0 0 < 64) : mW Y ρ τ ex (nNw N u d s) O0 A0 (aSet O (Y 0) (10, mF Y τ ex (nNw N u d s))) (aSet (aSet (aSet (aSet A (Y 2) (0, 64, .inl (nF (uN9 (N 1) (N 0 0) u)))) (Y 3) (0, 64, .inl (nF (uN9 (N 2) (N 0 0) d)))) (Y 4) (0, 64, .inl (nF (uN9 (N 3) (N 0 0) s)))) (Y 5) (0, 64, .inl (nF (uN9 (N 5) (N 0 0) (szOf u d))))) := by
  obtain ⟨r1, r2, r3, r5, r4⟩ := nNw_row (N := N) (u := u) (d := d) (s := s)
  have ne : ∀ {i j : Nat}, i < 8 → j < 8 → i ≠ j → Y i ≠ Y j := fun hi hj hij => h.inj hi hj hij
  refine ⟨h.1.nw hu hd1 hd hs hc, h.2.1, aSet_eq, ⟨?_, ?_, ?_, ?_, ?_, ?_⟩, ?_, fun z hz => ⟨?_, ?_⟩⟩
  · have : mB (nNw N u d s) = mB N := by funext j; unfold mB; rw [nNw_hi (Or.inl (by omega))]
    rw [aSet_ne (ne (by decide) (by decide) (by decide)), aSet_ne (ne (by decide) (by decide) (by decide)), aSet_ne (ne (by decide) (by decide) (by decide)), aSet_ne (ne (by decide) (by decide) (by decide)), this]; exact h.byt
  · rw [aSet_ne (ne (by decide) (by decide) (by decide)), aSet_ne (ne (by decide) (by decide) (by decide)), aSet_ne (ne (by decide) (by decide) (by decide)), aSet_eq, r1]
  · rw [aSet_ne (ne (by decide) (by decide) (by decide)), aSet_ne (ne (by decide) (by decide) (by decide)), aSet_eq, r2]
  · rw [aSet_ne (ne (by decide) (by decide) (by decide)), aSet_eq, r3]
  · rw [aSet_eq, r5]
  · rw [aSet_ne (ne (by decide) (by decide) (by decide)), aSet_ne (ne (by decide) (by decide) (by decide)), aSet_ne (ne (by decide) (by decide) (by decide)), aSet_ne (ne (by decide) (by decide) (by decide)), ← r4]; exact h.kin
  · obtain ⟨g, hg, hr⟩ := h.row
    exact ⟨g, by rw [aSet_ne (ne (by decide) (by decide) (by decide)), aSet_ne (ne (by decide) (by decide) (by decide)), aSet_ne (ne (by decide) (by decide) (by decide)), aSet_ne (ne (by decide) (by decide) (by decide))]; exact hg, hr⟩
  · rw [aSet_ne (hz 0 (by decide)).symm]; exact (h.frm z hz).1
  · rw [aSet_ne (hz 5 (by decide)).symm, aSet_ne (hz 4 (by decide)).symm, aSet_ne (hz 3 (by decide)).symm, aSet_ne (hz 2 (by decide)).symm]; exact (h.frm z hz).2
set_option maxRecDepth 4000 in
set_option maxHeartbeats 8000000 in
theorem m_number (h : mW Y ρ τ ex N O0 A0 O A) {x y z : Int32} : aMet l G base tA yX9_number cX9_number 4 (some .int) rmM1 [.ref (Y 0), .int x, .int y, .int z] O A (fun r O' A' => (¬ y < 0 ∧ ∃ N', nmP N x y z r N' ∧ mX Y N' (nI 0) O0 A0 O' A') ∨ (y < 0 ∧ (∃ v, r = some (.int v)) ∧ mX Y N (nI 1) O0 A0 O' A')) := by
  refine aMet_of (ini := false) (B := aLook bkX9_number) (by decide) (fun h => by first | rfl | cases h) (Nat.le_of_ble_eq_true rfl) boX9_number ?_
  intro E J hb
  have hc64 := h.1.1
  refine hb.run (aCuts [14, 103] J) 60 0 _ _ _ _ _ _ (aCuts_ok _) ?_
  by_cases hy0 : y < 0
  · have e0 : (0 ≤ y) = False := by simp only [eq_iff_iff, iff_false]; exact Int32.not_le.mpr hy0
    simp only [↓wpi_isub, ↓wpi_lsub, ↓wpi_ineg, ↓wpi_lneg, ↓wpi_irem, ↓wpi_lrem, ↓wpi_iinc, wp1, wp, wpl, wpi, lget, lput1, lput2, ltail, lkill, aV, aVl, aNth, aPut, aFz, aC0, aC2, aSw, aCat1, aCuts, aSet_eq, List.take, List.drop, List.reverse_cons, List.reverse_nil, List.nil_append, List.cons_append, List.length_cons, List.length_nil, Option.toList, true_and, and_true, Nat.reduceAdd, Nat.reduceEqDiff, Nat.reduceLT, Nat.reduceLeDiff, Nat.zero_add, Nat.add_zero, if_true, if_false, ite_true, ite_false, reduceIte, reduceCtorEq, true_or, or_true, not_true_eq_false, not_false_eq_true, false_and, and_false, true_implies, false_implies, not_false_eq_true, bqX9_number_0, blX9_number_0, bqX9_number_5, blX9_number_5, bqX9_number_9, blX9_number_9, bqX9_number_10, blX9_number_10, bqX9_number_14, blX9_number_14, bqX9_number_17, blX9_number_17, bqX9_number_19, blX9_number_19, bqX9_number_23, blX9_number_23, bqX9_number_29, blX9_number_29, bqX9_number_34, blX9_number_34, bqX9_number_40, blX9_number_40, bqX9_number_44, blX9_number_44, bqX9_number_49, blX9_number_49, bqX9_number_58, blX9_number_58, bqX9_number_60, blX9_number_60, bqX9_number_103, blX9_number_103, aArgs, List.replicate, e0]
    refine ⟨_, _, _, _, hb.callV lvX9_67 (m_fails h (b := true)) rfl h.obj (by decide) (by decide) (by decide), ?_, fun _ _ _ h => h.elim⟩
    rintro _ O1 A1 ⟨rfl, h1⟩
    refine hb.run (aCuts [14, 103] J) 60 14 _ _ _ _ _ _ (aCuts_ok _) ?_
    simp only [↓wpi_isub, ↓wpi_lsub, ↓wpi_ineg, ↓wpi_lneg, ↓wpi_irem, ↓wpi_lrem, ↓wpi_iinc, wp1, wp, wpl, wpi, lget, lput1, lput2, ltail, lkill, aV, aVl, aNth, aPut, aFz, aC0, aC2, aSw, aCat1, aCuts, aSet_eq, List.take, List.drop, List.reverse_cons, List.reverse_nil, List.nil_append, List.cons_append, List.length_cons, List.length_nil, Option.toList, true_and, and_true, Nat.reduceAdd, Nat.reduceEqDiff, Nat.reduceLT, Nat.reduceLeDiff, Nat.zero_add, Nat.add_zero, if_true, if_false, ite_true, ite_false, reduceIte, reduceCtorEq, true_or, or_true, not_true_eq_false, not_false_eq_true, false_and, and_false, true_implies, false_implies, not_false_eq_true, bqX9_number_0, blX9_number_0, bqX9_number_5, blX9_number_5, bqX9_number_9, blX9_number_9, bqX9_number_10, blX9_number_10, bqX9_number_14, blX9_number_14, bqX9_number_17, blX9_number_17, bqX9_number_19, blX9_number_19, bqX9_number_23, blX9_number_23, bqX9_number_29, blX9_number_29, bqX9_number_34, blX9_number_34, bqX9_number_40, blX9_number_40, bqX9_number_44, blX9_number_44, bqX9_number_49, blX9_number_49, bqX9_number_58, blX9_number_58, bqX9_number_60, blX9_number_60, bqX9_number_103, blX9_number_103, bI_t, n1_0]
    exact hb.iret (nar_i _) (Or.inr ⟨hy0, ⟨_, rfl⟩, mX.of h1 rfl⟩) (by decide) (by decide)
  · have e0 : (0 ≤ y) = True := by simp only [eq_iff_iff, iff_true]; exact Int32.not_lt.mp hy0
    simp only [↓wpi_isub, ↓wpi_lsub, ↓wpi_ineg, ↓wpi_lneg, ↓wpi_irem, ↓wpi_lrem, ↓wpi_iinc, wp1, wp, wpl, wpi, lget, lput1, lput2, ltail, lkill, aV, aVl, aNth, aPut, aFz, aC0, aC2, aSw, aCat1, aCuts, aSet_eq, List.take, List.drop, List.reverse_cons, List.reverse_nil, List.nil_append, List.cons_append, List.length_cons, List.length_nil, Option.toList, true_and, and_true, Nat.reduceAdd, Nat.reduceEqDiff, Nat.reduceLT, Nat.reduceLeDiff, Nat.zero_add, Nat.add_zero, if_true, if_false, ite_true, ite_false, reduceIte, reduceCtorEq, true_or, or_true, not_true_eq_false, not_false_eq_true, false_and, and_false, true_implies, false_implies, not_false_eq_true, bqX9_number_0, blX9_number_0, bqX9_number_5, blX9_number_5, bqX9_number_9, blX9_number_9, bqX9_number_10, blX9_number_10, bqX9_number_14, blX9_number_14, bqX9_number_17, blX9_number_17, bqX9_number_19, blX9_number_19, bqX9_number_23, blX9_number_23, bqX9_number_29, blX9_number_29, bqX9_number_34, blX9_number_34, bqX9_number_40, blX9_number_40, bqX9_number_44, blX9_number_44, bqX9_number_49, blX9_number_49, bqX9_number_58, blX9_number_58, bqX9_number_60, blX9_number_60, bqX9_number_103, blX9_number_103, aArgs, List.replicate, e0]
    refine ⟨_, _, _, _, hb.callV lvX9_67 (m_fails h (b := false)) rfl h.obj (by decide) (by decide) (by decide), ?_, fun _ _ _ h => h.elim⟩
    rintro _ O1 A1 ⟨rfl, h1⟩
    have bad : (∀ u d s, ¬ nmV N x y z u d s) → (∃ ty, eRt E = some ty ∧ narrow ty (.int (-nI 1)) = .int (-nI 1)) ∧ eRet E (some (.int (-nI 1))) O1 A1 0 0 := fun hn => hb.iret (nar_i _) (Or.inl ⟨hy0, N, Or.inr ⟨hn, rfl, rfl⟩, mX.of h1 rfl⟩) (by decide) (by decide)
    obtain ⟨d, hd, rfl⟩ := nI_of hy0
    refine hb.run (aCuts [60] J) 60 14 _ _ _ _ _ _ (aCuts_ok _) ?_
    by_cases hx0 : x < 0
    · have e1 : (x < 0) = True := by simp [hx0]
      simp only [↓wpi_isub, ↓wpi_lsub, ↓wpi_ineg, ↓wpi_lneg, ↓wpi_irem, ↓wpi_lrem, ↓wpi_iinc, wp1, wp, wpl, wpi, lget, lput1, lput2, ltail, lkill, aV, aVl, aNth, aPut, aFz, aC0, aC2, aSw, aCat1, aCuts, aSet_eq, List.take, List.drop, List.reverse_cons, List.reverse_nil, List.nil_append, List.cons_append, List.length_cons, List.length_nil, Option.toList, true_and, and_true, Nat.reduceAdd, Nat.reduceEqDiff, Nat.reduceLT, Nat.reduceLeDiff, Nat.zero_add, Nat.add_zero, if_true, if_false, ite_true, ite_false, reduceIte, reduceCtorEq, true_or, or_true, not_true_eq_false, not_false_eq_true, false_and, and_false, true_implies, false_implies, not_false_eq_true, bqX9_number_0, blX9_number_0, bqX9_number_5, blX9_number_5, bqX9_number_9, blX9_number_9, bqX9_number_10, blX9_number_10, bqX9_number_14, blX9_number_14, bqX9_number_17, blX9_number_17, bqX9_number_19, blX9_number_19, bqX9_number_23, blX9_number_23, bqX9_number_29, blX9_number_29, bqX9_number_34, blX9_number_34, bqX9_number_40, blX9_number_40, bqX9_number_44, blX9_number_44, bqX9_number_49, blX9_number_49, bqX9_number_58, blX9_number_58, bqX9_number_60, blX9_number_60, bqX9_number_103, blX9_number_103, bI_f, n0_0, e1]
      exact bad fun u d' s ⟨q1, q2, q3, q4, _⟩ => by rw [q1] at hx0; exact nI_pos (by omega) hx0
    · obtain ⟨u, hu, rfl⟩ := nI_of hx0
      by_cases hu11 : u ≤ 11
      · have e2 : (nI 11 < nI u) = False := by rw [nI_ltP (by decide) hu]; simp; omega
        by_cases hd1 : d < 1
        · have e3 : (nI d < nI 1) = True := by rw [nI_ltP hd (by decide)]; simp; omega
          simp only [↓wpi_isub, ↓wpi_lsub, ↓wpi_ineg, ↓wpi_lneg, ↓wpi_irem, ↓wpi_lrem, ↓wpi_iinc, wp1, wp, wpl, wpi, lget, lput1, lput2, ltail, lkill, aV, aVl, aNth, aPut, aFz, aC0, aC2, aSw, aCat1, aCuts, aSet_eq, List.take, List.drop, List.reverse_cons, List.reverse_nil, List.nil_append, List.cons_append, List.length_cons, List.length_nil, Option.toList, true_and, and_true, Nat.reduceAdd, Nat.reduceEqDiff, Nat.reduceLT, Nat.reduceLeDiff, Nat.zero_add, Nat.add_zero, if_true, if_false, ite_true, ite_false, reduceIte, reduceCtorEq, true_or, or_true, not_true_eq_false, not_false_eq_true, false_and, and_false, true_implies, false_implies, not_false_eq_true, bqX9_number_0, blX9_number_0, bqX9_number_5, blX9_number_5, bqX9_number_9, blX9_number_9, bqX9_number_10, blX9_number_10, bqX9_number_14, blX9_number_14, bqX9_number_17, blX9_number_17, bqX9_number_19, blX9_number_19, bqX9_number_23, blX9_number_23, bqX9_number_29, blX9_number_29, bqX9_number_34, blX9_number_34, bqX9_number_40, blX9_number_40, bqX9_number_44, blX9_number_44, bqX9_number_49, blX9_number_49, bqX9_number_58, blX9_number_58, bqX9_number_60, blX9_number_60, bqX9_number_103, blX9_number_103, bI_f, n0_0, nI_lt0 hu, e2, e3]
          exact bad fun u' d' s ⟨q1, q2, q3, q4, q5, q6, _⟩ => by have := (nI_eq hd (by omega)).mp q2; omega
        · have e3 : (nI d < nI 1) = False := by rw [nI_ltP hd (by decide)]; simp; omega
          by_cases hd31 : d ≤ 31
          · have e4 : (nI 31 < nI d) = False := by rw [nI_ltP (by decide) hd]; simp; omega
            by_cases hz0 : z < 0
            · have e5 : (z < 0) = True := by simp [hz0]
              simp only [↓wpi_isub, ↓wpi_lsub, ↓wpi_ineg, ↓wpi_lneg, ↓wpi_irem, ↓wpi_lrem, ↓wpi_iinc, wp1, wp, wpl, wpi, lget, lput1, lput2, ltail, lkill, aV, aVl, aNth, aPut, aFz, aC0, aC2, aSw, aCat1, aCuts, aSet_eq, List.take, List.drop, List.reverse_cons, List.reverse_nil, List.nil_append, List.cons_append, List.length_cons, List.length_nil, Option.toList, true_and, and_true, Nat.reduceAdd, Nat.reduceEqDiff, Nat.reduceLT, Nat.reduceLeDiff, Nat.zero_add, Nat.add_zero, if_true, if_false, ite_true, ite_false, reduceIte, reduceCtorEq, true_or, or_true, not_true_eq_false, not_false_eq_true, false_and, and_false, true_implies, false_implies, not_false_eq_true, bqX9_number_0, blX9_number_0, bqX9_number_5, blX9_number_5, bqX9_number_9, blX9_number_9, bqX9_number_10, blX9_number_10, bqX9_number_14, blX9_number_14, bqX9_number_17, blX9_number_17, bqX9_number_19, blX9_number_19, bqX9_number_23, blX9_number_23, bqX9_number_29, blX9_number_29, bqX9_number_34, blX9_number_34, bqX9_number_40, blX9_number_40, bqX9_number_44, blX9_number_44, bqX9_number_49, blX9_number_49, bqX9_number_58, blX9_number_58, bqX9_number_60, blX9_number_60, bqX9_number_103, blX9_number_103, bI_f, n0_0, nI_lt0 hu, e2, e3, e4, e5]
              exact bad fun u' d' s ⟨q1, q2, q3, q4, q5, q6, q7, _⟩ => by rw [q3] at hz0; exact nI_pos (by omega) hz0
            · obtain ⟨s, hs, rfl⟩ := nI_of hz0
              by_cases hsd : s ≤ d
              · have e6 : (nI d < nI s) = False := by rw [nI_ltP hd hs]; simp; omega
                by_cases hc : N 0 0 < 64
                · have e7 : (nI (N 0 0) = nI 64) = False := by rw [nI_c (by omega) (by decide)]; simp; omega
                  simp only [↓wpi_isub, ↓wpi_lsub, ↓wpi_ineg, ↓wpi_lneg, ↓wpi_irem, ↓wpi_lrem, ↓wpi_iinc, wp1, wp, wpl, wpi, lget, lput1, lput2, ltail, lkill, aV, aVl, aNth, aPut, aFz, aC0, aC2, aSw, aCat1, aCuts, aSet_eq, List.take, List.drop, List.reverse_cons, List.reverse_nil, List.nil_append, List.cons_append, List.length_cons, List.length_nil, Option.toList, true_and, and_true, Nat.reduceAdd, Nat.reduceEqDiff, Nat.reduceLT, Nat.reduceLeDiff, Nat.zero_add, Nat.add_zero, if_true, if_false, ite_true, ite_false, reduceIte, reduceCtorEq, true_or, or_true, not_true_eq_false, not_false_eq_true, false_and, and_false, true_implies, false_implies, not_false_eq_true, bqX9_number_0, blX9_number_0, bqX9_number_5, blX9_number_5, bqX9_number_9, blX9_number_9, bqX9_number_10, blX9_number_10, bqX9_number_14, blX9_number_14, bqX9_number_17, blX9_number_17, bqX9_number_19, blX9_number_19, bqX9_number_23, blX9_number_23, bqX9_number_29, blX9_number_29, bqX9_number_34, blX9_number_34, bqX9_number_40, blX9_number_40, bqX9_number_44, blX9_number_44, bqX9_number_49, blX9_number_49, bqX9_number_58, blX9_number_58, bqX9_number_60, blX9_number_60, bqX9_number_103, blX9_number_103, bI_f, n0_0, nI_lt0 hu, nI_lt0 hs, e2, e3, e4, e6, e7, h1.obj]
                  have hW := h1.new (u := u) (d := d) (s := s) hu11 (by omega) hd31 hsd hc
                  have ne : ∀ {i j : Nat}, i < 8 → j < 8 → i ≠ j → Y i ≠ Y j := fun hi hj hij => h.inj hi hj hij
                  have e8 : vp_in (nI (N 0 0)) 64 := vp_in_nI hc (by decide)
                  have a3 : ∀ {e : Nat × vp_A}, aSet A1 (Y 2) e (Y 3) = some (0, 64, .inl (nF (N 2))) := by intro e; rw [aSet_ne (ne (by decide) (by decide) (by decide))]; exact h1.dig
                  have a4 : ∀ {e e' : Nat × vp_A}, aSet (aSet A1 (Y 2) e) (Y 3) e' (Y 4) = some (0, 64, .inl (nF (N 3))) := by intro e e'; rw [aSet_ne (ne (by decide) (by decide) (by decide)), aSet_ne (ne (by decide) (by decide) (by decide))]; exact h1.sca
                  have a5 : ∀ {e e' e'' : Nat × vp_A}, aSet (aSet (aSet A1 (Y 2) e) (Y 3) e') (Y 4) e'' (Y 5) = some (0, 64, .inl (nF (N 5))) := by intro e e' e''; rw [aSet_ne (ne (by decide) (by decide) (by decide)), aSet_ne (ne (by decide) (by decide) (by decide)), aSet_ne (ne (by decide) (by decide) (by decide))]; exact h1.siz
                  refine hb.run (aCuts [14, 103] J) 60 60 _ _ _ _ _ _ (aCuts_ok _) ?_
                  simp only [↓wpi_isub, ↓wpi_lsub, ↓wpi_ineg, ↓wpi_lneg, ↓wpi_irem, ↓wpi_lrem, ↓wpi_iinc, wp1, wp, wpl, wpi, lget, lput1, lput2, ltail, lkill, aV, aVl, aNth, aPut, aFz, aC0, aC2, aSw, aCat1, aCuts, aSet_eq, List.take, List.drop, List.reverse_cons, List.reverse_nil, List.nil_append, List.cons_append, List.length_cons, List.length_nil, Option.toList, true_and, and_true, Nat.reduceAdd, Nat.reduceEqDiff, Nat.reduceLT, Nat.reduceLeDiff, Nat.zero_add, Nat.add_zero, if_true, if_false, ite_true, ite_false, reduceIte, reduceCtorEq, true_or, or_true, not_true_eq_false, not_false_eq_true, false_and, and_false, true_implies, false_implies, not_false_eq_true, bqX9_number_0, blX9_number_0, bqX9_number_5, blX9_number_5, bqX9_number_9, blX9_number_9, bqX9_number_10, blX9_number_10, bqX9_number_14, blX9_number_14, bqX9_number_17, blX9_number_17, bqX9_number_19, blX9_number_19, bqX9_number_23, blX9_number_23, bqX9_number_29, blX9_number_29, bqX9_number_34, blX9_number_34, bqX9_number_40, blX9_number_40, bqX9_number_44, blX9_number_44, bqX9_number_49, blX9_number_49, bqX9_number_58, blX9_number_58, bqX9_number_60, blX9_number_60, bqX9_number_103, blX9_number_103, h1.obj, h1.usa, a3, a4, e8, nI_clamp (show N 0 0 < 2 ^ 31 by omega), nF_upd]
                  refine ⟨_, _, _, _, hb.callS lsX9_71 (ct_X9_sizeOf hu11 hd31) rfl (by decide) (by decide) (by decide), ?_, fun _ _ _ h => h.elim⟩
                  rintro _ O2 A2 ⟨rfl, e9, e10⟩
                  rw [e9, e10]
                  refine hb.run (aCuts [14, 103] J) 60 103 _ _ _ _ _ _ (aCuts_ok _) ?_
                  simp only [↓wpi_isub, ↓wpi_lsub, ↓wpi_ineg, ↓wpi_lneg, ↓wpi_irem, ↓wpi_lrem, ↓wpi_iinc, wp1, wp, wpl, wpi, lget, lput1, lput2, ltail, lkill, aV, aVl, aNth, aPut, aFz, aC0, aC2, aSw, aCat1, aCuts, aSet_eq, List.take, List.drop, List.reverse_cons, List.reverse_nil, List.nil_append, List.cons_append, List.length_cons, List.length_nil, Option.toList, true_and, and_true, Nat.reduceAdd, Nat.reduceEqDiff, Nat.reduceLT, Nat.reduceLeDiff, Nat.zero_add, Nat.add_zero, if_true, if_false, ite_true, ite_false, reduceIte, reduceCtorEq, true_or, or_true, not_true_eq_false, not_false_eq_true, false_and, and_false, true_implies, false_implies, not_false_eq_true, bqX9_number_0, blX9_number_0, bqX9_number_5, blX9_number_5, bqX9_number_9, blX9_number_9, bqX9_number_10, blX9_number_10, bqX9_number_14, blX9_number_14, bqX9_number_17, blX9_number_17, bqX9_number_19, blX9_number_19, bqX9_number_23, blX9_number_23, bqX9_number_29, blX9_number_29, bqX9_number_34, blX9_number_34, bqX9_number_40, blX9_number_40, bqX9_number_44, blX9_number_44, bqX9_number_49, blX9_number_49, bqX9_number_58, blX9_number_58, bqX9_number_60, blX9_number_60, bqX9_number_103, blX9_number_103, h1.obj, a5, e8, nI_clamp (show N 0 0 < 2 ^ 31 by omega), nF_upd, nI_add, iSub_nn (show 1 ≤ N 0 0 + 1 by omega), Nat.add_sub_cancel]
                  refine hb.iret (nar_i _) (Or.inl ⟨hy0, _, Or.inl ⟨u, d, s, ⟨rfl, rfl, rfl, hu11, by omega, hd31, hsd, hc⟩, rfl, rfl⟩, mX.of (ρ := ρ) (τ := tU τ 0 (bI false)) (ex := ex) ?_ rfl⟩) (by decide) (by decide)
                  unfold mF at hW
                  rw [nNw_r0] at hW
                  exact hW
                · have e7 : (nI (N 0 0) = nI 64) = True := by rw [show N 0 0 = 64 by omega]; simp
                  simp only [↓wpi_isub, ↓wpi_lsub, ↓wpi_ineg, ↓wpi_lneg, ↓wpi_irem, ↓wpi_lrem, ↓wpi_iinc, wp1, wp, wpl, wpi, lget, lput1, lput2, ltail, lkill, aV, aVl, aNth, aPut, aFz, aC0, aC2, aSw, aCat1, aCuts, aSet_eq, List.take, List.drop, List.reverse_cons, List.reverse_nil, List.nil_append, List.cons_append, List.length_cons, List.length_nil, Option.toList, true_and, and_true, Nat.reduceAdd, Nat.reduceEqDiff, Nat.reduceLT, Nat.reduceLeDiff, Nat.zero_add, Nat.add_zero, if_true, if_false, ite_true, ite_false, reduceIte, reduceCtorEq, true_or, or_true, not_true_eq_false, not_false_eq_true, false_and, and_false, true_implies, false_implies, not_false_eq_true, bqX9_number_0, blX9_number_0, bqX9_number_5, blX9_number_5, bqX9_number_9, blX9_number_9, bqX9_number_10, blX9_number_10, bqX9_number_14, blX9_number_14, bqX9_number_17, blX9_number_17, bqX9_number_19, blX9_number_19, bqX9_number_23, blX9_number_23, bqX9_number_29, blX9_number_29, bqX9_number_34, blX9_number_34, bqX9_number_40, blX9_number_40, bqX9_number_44, blX9_number_44, bqX9_number_49, blX9_number_49, bqX9_number_58, blX9_number_58, bqX9_number_60, blX9_number_60, bqX9_number_103, blX9_number_103, bI_f, n0_0, nI_lt0 hu, nI_lt0 hs, e2, e3, e4, e6, e7, h1.obj]
                  exact bad fun u' d' s ⟨q1, q2, q3, q4, q5, q6, q7, q8⟩ => hc q8
              · have e6 : (nI d < nI s) = True := by rw [nI_ltP hd hs]; simp; omega
                simp only [↓wpi_isub, ↓wpi_lsub, ↓wpi_ineg, ↓wpi_lneg, ↓wpi_irem, ↓wpi_lrem, ↓wpi_iinc, wp1, wp, wpl, wpi, lget, lput1, lput2, ltail, lkill, aV, aVl, aNth, aPut, aFz, aC0, aC2, aSw, aCat1, aCuts, aSet_eq, List.take, List.drop, List.reverse_cons, List.reverse_nil, List.nil_append, List.cons_append, List.length_cons, List.length_nil, Option.toList, true_and, and_true, Nat.reduceAdd, Nat.reduceEqDiff, Nat.reduceLT, Nat.reduceLeDiff, Nat.zero_add, Nat.add_zero, if_true, if_false, ite_true, ite_false, reduceIte, reduceCtorEq, true_or, or_true, not_true_eq_false, not_false_eq_true, false_and, and_false, true_implies, false_implies, not_false_eq_true, bqX9_number_0, blX9_number_0, bqX9_number_5, blX9_number_5, bqX9_number_9, blX9_number_9, bqX9_number_10, blX9_number_10, bqX9_number_14, blX9_number_14, bqX9_number_17, blX9_number_17, bqX9_number_19, blX9_number_19, bqX9_number_23, blX9_number_23, bqX9_number_29, blX9_number_29, bqX9_number_34, blX9_number_34, bqX9_number_40, blX9_number_40, bqX9_number_44, blX9_number_44, bqX9_number_49, blX9_number_49, bqX9_number_58, blX9_number_58, bqX9_number_60, blX9_number_60, bqX9_number_103, blX9_number_103, bI_f, n0_0, nI_lt0 hu, nI_lt0 hs, e2, e3, e4, e6]
                exact bad fun u' d' s' ⟨q1, q2, q3, q4, q5, q6, q7, _⟩ => by
                  have h1 := (nI_eq hd (by omega)).mp q2
                  have h2 := (nI_eq hs (by omega)).mp q3
                  omega
          · have e4 : (nI 31 < nI d) = True := by rw [nI_ltP (by decide) hd]; simp; omega
            simp only [↓wpi_isub, ↓wpi_lsub, ↓wpi_ineg, ↓wpi_lneg, ↓wpi_irem, ↓wpi_lrem, ↓wpi_iinc, wp1, wp, wpl, wpi, lget, lput1, lput2, ltail, lkill, aV, aVl, aNth, aPut, aFz, aC0, aC2, aSw, aCat1, aCuts, aSet_eq, List.take, List.drop, List.reverse_cons, List.reverse_nil, List.nil_append, List.cons_append, List.length_cons, List.length_nil, Option.toList, true_and, and_true, Nat.reduceAdd, Nat.reduceEqDiff, Nat.reduceLT, Nat.reduceLeDiff, Nat.zero_add, Nat.add_zero, if_true, if_false, ite_true, ite_false, reduceIte, reduceCtorEq, true_or, or_true, not_true_eq_false, not_false_eq_true, false_and, and_false, true_implies, false_implies, not_false_eq_true, bqX9_number_0, blX9_number_0, bqX9_number_5, blX9_number_5, bqX9_number_9, blX9_number_9, bqX9_number_10, blX9_number_10, bqX9_number_14, blX9_number_14, bqX9_number_17, blX9_number_17, bqX9_number_19, blX9_number_19, bqX9_number_23, blX9_number_23, bqX9_number_29, blX9_number_29, bqX9_number_34, blX9_number_34, bqX9_number_40, blX9_number_40, bqX9_number_44, blX9_number_44, bqX9_number_49, blX9_number_49, bqX9_number_58, blX9_number_58, bqX9_number_60, blX9_number_60, bqX9_number_103, blX9_number_103, bI_f, n0_0, nI_lt0 hu, e2, e3, e4]
            exact bad fun u' d' s ⟨q1, q2, q3, q4, q5, q6, _⟩ => by have := (nI_eq hd (by omega)).mp q2; omega
      · have e2 : (nI 11 < nI u) = True := by rw [nI_ltP (by decide) hu]; simp; omega
        simp only [↓wpi_isub, ↓wpi_lsub, ↓wpi_ineg, ↓wpi_lneg, ↓wpi_irem, ↓wpi_lrem, ↓wpi_iinc, wp1, wp, wpl, wpi, lget, lput1, lput2, ltail, lkill, aV, aVl, aNth, aPut, aFz, aC0, aC2, aSw, aCat1, aCuts, aSet_eq, List.take, List.drop, List.reverse_cons, List.reverse_nil, List.nil_append, List.cons_append, List.length_cons, List.length_nil, Option.toList, true_and, and_true, Nat.reduceAdd, Nat.reduceEqDiff, Nat.reduceLT, Nat.reduceLeDiff, Nat.zero_add, Nat.add_zero, if_true, if_false, ite_true, ite_false, reduceIte, reduceCtorEq, true_or, or_true, not_true_eq_false, not_false_eq_true, false_and, and_false, true_implies, false_implies, not_false_eq_true, bqX9_number_0, blX9_number_0, bqX9_number_5, blX9_number_5, bqX9_number_9, blX9_number_9, bqX9_number_10, blX9_number_10, bqX9_number_14, blX9_number_14, bqX9_number_17, blX9_number_17, bqX9_number_19, blX9_number_19, bqX9_number_23, blX9_number_23, bqX9_number_29, blX9_number_29, bqX9_number_34, blX9_number_34, bqX9_number_40, blX9_number_40, bqX9_number_44, blX9_number_44, bqX9_number_49, blX9_number_49, bqX9_number_58, blX9_number_58, bqX9_number_60, blX9_number_60, bqX9_number_103, blX9_number_103, bI_f, n0_0, nI_lt0 hu, e2]
        exact bad fun u' d' s ⟨q1, q2, q3, q4, _⟩ => by have := (nI_eq hu (by omega)).mp q1; omega
end MP2
