/-! ===== the law: its wrappers ===== -/
/-- what a wrapper leaves: 0 and the answer in the array B, or the exception's number -/
def wrP (B : Nat) (F : Int32 → Int64) (c : String → Nat) (Po : aPost) (PoX : aPostX) : aPost := fun r O' A' =>
  (r = some (.int (nI 0)) ∧ ∃ w A1 f1, Po (some (.int w)) O' A1 ∧ A1 B = some (2, 1, .inr (.inl f1)) ∧ A' = aSet A1 B (2, 1, .inr (.inl (vp_updL f1 0 (F w))))) ∨ ∃ n, PoX n O' A' ∧ r = some (.int (nI (c n)))
def xC1 (_ : String) : Nat := 1
def xC2 (n : String) : Nat := if n = xN 3 then 2 else 1
def fV (w : Int32) : Int64 := if w = 0 then lN 0 else lN 1
theorem vin01 : vp_in (nI 0) 1 := vp_in_nI (by decide) (by decide)
theorem ncl0 : (nI 0).toNatClampNeg = 0 := nI_clamp (by decide)
abbrev rmWr : Room := { frames := 11, cells := 4, slots := 69, locals := 300 }
section LWM
variable {l : Launch} {G : aG} {base tA : Nat} {O : aO} {A : aA} {a B : Nat} {fs : List Value} {Po : aPost} {PoX : aPostX}
set_option maxHeartbeats 2000000 in
theorem ctL_number {x1 x2 x3 : Int32} (hM : aMetX l G base tA yX8_number cX8_number 4 (some .int) rmNu [.ref a, .int x1, .int x2, .int x3] O A Po PoX) (hO : O a = some (9, fs)) (hB : ∀ v O' A', Po v O' A' → (∃ w, v = some (.int w)) ∧ ∃ f1, A' B = some (2, 1, .inr (.inl f1))) (hX : ∀ n O' A', PoX n O' A' → n = xN 1) : aMetW l G base tA yL_number cL_number 6 (some .int) hhL_number rmWr [.ref a, .int x1, .int x2, .int x3, .ref B] O A (wrP B Int32.toInt64 xC1 Po PoX) := by
  refine aMetW_of (B := aLook bkL_number) (by decide) (Nat.le_of_ble_eq_true rfl) boL_number ?_
  intro E J hb
  refine hb.1.run (aCuts [10] J) 60 0 _ _ _ _ _ _ (aCuts_ok _) ?_
  simp only [↓wpi_isub, ↓wpi_lsub, ↓wpi_ineg, ↓wpi_lneg, ↓wpi_irem, ↓wpi_lrem, ↓wpi_iinc, wp1, wp, wpl, wpi, lget, lput1, lput2, ltail, lkill, aV, aVl, aNth, aPut, aFz, aC0, aC2, aSw, aCat1, aCuts, aSet_eq, List.take, List.drop, List.reverse_cons, List.reverse_nil, List.nil_append, List.cons_append, List.length_cons, List.length_nil, Option.toList, true_and, and_true, Nat.reduceAdd, Nat.reduceEqDiff, Nat.reduceLT, Nat.reduceLeDiff, Nat.zero_add, Nat.add_zero, if_true, if_false, ite_true, ite_false, reduceIte, reduceCtorEq, true_or, or_true, not_true_eq_false, not_false_eq_true, false_and, and_false, true_implies, false_implies, not_false_eq_true, bqL_number_0, blL_number_0, bqL_number_10, blL_number_10, bqL_number_15, blL_number_15, bqL_number_19, blL_number_19, aArgs, List.replicate]
  refine ⟨_, _, _, _, hb.2.1 lvL_7 hM rfl hO (by decide) (by decide) (by decide), ?_, ?_⟩
  · rintro v O1 A1 hp
    obtain ⟨⟨w, rfl⟩, f1, hf⟩ := hB _ _ _ hp
    refine hb.1.run (aCuts [10] J) 60 10 _ _ _ _ _ _ (aCuts_ok _) ?_
    simp only [↓wpi_isub, ↓wpi_lsub, ↓wpi_ineg, ↓wpi_lneg, ↓wpi_irem, ↓wpi_lrem, ↓wpi_iinc, wp1, wp, wpl, wpi, lget, lput1, lput2, ltail, lkill, aV, aVl, aNth, aPut, aFz, aC0, aC2, aSw, aCat1, aCuts, aSet_eq, List.take, List.drop, List.reverse_cons, List.reverse_nil, List.nil_append, List.cons_append, List.length_cons, List.length_nil, Option.toList, true_and, and_true, Nat.reduceAdd, Nat.reduceEqDiff, Nat.reduceLT, Nat.reduceLeDiff, Nat.zero_add, Nat.add_zero, if_true, if_false, ite_true, ite_false, reduceIte, reduceCtorEq, true_or, or_true, not_true_eq_false, not_false_eq_true, false_and, and_false, true_implies, false_implies, not_false_eq_true, bqL_number_0, blL_number_0, bqL_number_10, blL_number_10, bqL_number_15, blL_number_15, bqL_number_19, blL_number_19, hf, vin01, ncl0]
    exact hb.1.iret (nar_i _) (Or.inl ⟨rfl, w, A1, f1, hp, hf, rfl⟩) (by decide) (by decide)
  · rintro n O1 A1 hp
    have e := hX _ _ _ hp
    refine hb.2.2 _ n 15 _ _ _ _ _ _ (by rw [e]; exact cthL_number) (fun q => ?_)
    refine hb.1.run (aCuts [10] J) 60 15 _ _ _ _ _ _ (aCuts_ok _) ?_
    simp only [↓wpi_isub, ↓wpi_lsub, ↓wpi_ineg, ↓wpi_lneg, ↓wpi_irem, ↓wpi_lrem, ↓wpi_iinc, wp1, wp, wpl, wpi, lget, lput1, lput2, ltail, lkill, aV, aVl, aNth, aPut, aFz, aC0, aC2, aSw, aCat1, aCuts, aSet_eq, List.take, List.drop, List.reverse_cons, List.reverse_nil, List.nil_append, List.cons_append, List.length_cons, List.length_nil, Option.toList, true_and, and_true, Nat.reduceAdd, Nat.reduceEqDiff, Nat.reduceLT, Nat.reduceLeDiff, Nat.zero_add, Nat.add_zero, if_true, if_false, ite_true, ite_false, reduceIte, reduceCtorEq, true_or, or_true, not_true_eq_false, not_false_eq_true, false_and, and_false, true_implies, false_implies, not_false_eq_true, bqL_number_0, blL_number_0, bqL_number_10, blL_number_10, bqL_number_15, blL_number_15, bqL_number_19, blL_number_19]
    exact hb.1.iret (nar_i _) (Or.inr ⟨n, hp, rfl⟩) (by decide) (by decide)
set_option maxHeartbeats 2000000 in
theorem ctL_at {x1 x2 : Int32} (hM : aMetX l G base tA yX8_at cX8_at 3 (some .byte) rmP1 [.ref a, .int x1, .int x2] O A Po PoX) (hO : O a = some (9, fs)) (hB : ∀ v O' A', Po v O' A' → (∃ w, v = some (.int w)) ∧ ∃ f1, A' B = some (2, 1, .inr (.inl f1))) (hX : ∀ n O' A', PoX n O' A' → n = xN 2) : aMetW l G base tA yL_at cL_at 5 (some .int) hhL_at rmWr [.ref a, .int x1, .int x2, .ref B] O A (wrP B Int32.toInt64 xC1 Po PoX) := by
  refine aMetW_of (B := aLook bkL_at) (by decide) (Nat.le_of_ble_eq_true rfl) boL_at ?_
  intro E J hb
  refine hb.1.run (aCuts [8] J) 60 0 _ _ _ _ _ _ (aCuts_ok _) ?_
  simp only [↓wpi_isub, ↓wpi_lsub, ↓wpi_ineg, ↓wpi_lneg, ↓wpi_irem, ↓wpi_lrem, ↓wpi_iinc, wp1, wp, wpl, wpi, lget, lput1, lput2, ltail, lkill, aV, aVl, aNth, aPut, aFz, aC0, aC2, aSw, aCat1, aCuts, aSet_eq, List.take, List.drop, List.reverse_cons, List.reverse_nil, List.nil_append, List.cons_append, List.length_cons, List.length_nil, Option.toList, true_and, and_true, Nat.reduceAdd, Nat.reduceEqDiff, Nat.reduceLT, Nat.reduceLeDiff, Nat.zero_add, Nat.add_zero, if_true, if_false, ite_true, ite_false, reduceIte, reduceCtorEq, true_or, or_true, not_true_eq_false, not_false_eq_true, false_and, and_false, true_implies, false_implies, not_false_eq_true, bqL_at_0, blL_at_0, bqL_at_8, blL_at_8, bqL_at_13, blL_at_13, bqL_at_17, blL_at_17, aArgs, List.replicate]
  refine ⟨_, _, _, _, hb.2.1 lvL_21 hM rfl hO (by decide) (by decide) (by decide), ?_, ?_⟩
  · rintro v O1 A1 hp
    obtain ⟨⟨w, rfl⟩, f1, hf⟩ := hB _ _ _ hp
    refine hb.1.run (aCuts [8] J) 60 8 _ _ _ _ _ _ (aCuts_ok _) ?_
    simp only [↓wpi_isub, ↓wpi_lsub, ↓wpi_ineg, ↓wpi_lneg, ↓wpi_irem, ↓wpi_lrem, ↓wpi_iinc, wp1, wp, wpl, wpi, lget, lput1, lput2, ltail, lkill, aV, aVl, aNth, aPut, aFz, aC0, aC2, aSw, aCat1, aCuts, aSet_eq, List.take, List.drop, List.reverse_cons, List.reverse_nil, List.nil_append, List.cons_append, List.length_cons, List.length_nil, Option.toList, true_and, and_true, Nat.reduceAdd, Nat.reduceEqDiff, Nat.reduceLT, Nat.reduceLeDiff, Nat.zero_add, Nat.add_zero, if_true, if_false, ite_true, ite_false, reduceIte, reduceCtorEq, true_or, or_true, not_true_eq_false, not_false_eq_true, false_and, and_false, true_implies, false_implies, not_false_eq_true, bqL_at_0, blL_at_0, bqL_at_8, blL_at_8, bqL_at_13, blL_at_13, bqL_at_17, blL_at_17, hf, vin01, ncl0]
    exact hb.1.iret (nar_i _) (Or.inl ⟨rfl, w, A1, f1, hp, hf, rfl⟩) (by decide) (by decide)
  · rintro n O1 A1 hp
    have e := hX _ _ _ hp
    refine hb.2.2 _ n 13 _ _ _ _ _ _ (by rw [e]; exact cthL_at) (fun q => ?_)
    refine hb.1.run (aCuts [8] J) 60 13 _ _ _ _ _ _ (aCuts_ok _) ?_
    simp only [↓wpi_isub, ↓wpi_lsub, ↓wpi_ineg, ↓wpi_lneg, ↓wpi_irem, ↓wpi_lrem, ↓wpi_iinc, wp1, wp, wpl, wpi, lget, lput1, lput2, ltail, lkill, aV, aVl, aNth, aPut, aFz, aC0, aC2, aSw, aCat1, aCuts, aSet_eq, List.take, List.drop, List.reverse_cons, List.reverse_nil, List.nil_append, List.cons_append, List.length_cons, List.length_nil, Option.toList, true_and, and_true, Nat.reduceAdd, Nat.reduceEqDiff, Nat.reduceLT, Nat.reduceLeDiff, Nat.zero_add, Nat.add_zero, if_true, if_false, ite_true, ite_false, reduceIte, reduceCtorEq, true_or, or_true, not_true_eq_false, not_false_eq_true, false_and, and_false, true_implies, false_implies, not_false_eq_true, bqL_at_0, blL_at_0, bqL_at_8, blL_at_8, bqL_at_13, blL_at_13, bqL_at_17, blL_at_17]
    exact hb.1.iret (nar_i _) (Or.inr ⟨n, hp, rfl⟩) (by decide) (by decide)
set_option maxHeartbeats 2000000 in
theorem ctL_size {x1 : Int32} (hM : aMetX l G base tA yX8_size cX8_size 2 (some .int) rmP2 [.ref a, .int x1] O A Po PoX) (hO : O a = some (9, fs)) (hB : ∀ v O' A', Po v O' A' → (∃ w, v = some (.int w)) ∧ ∃ f1, A' B = some (2, 1, .inr (.inl f1))) (hX : ∀ n O' A', PoX n O' A' → n = xN 2) : aMetW l G base tA yL_size cL_size 4 (some .int) hhL_size rmWr [.ref a, .int x1, .ref B] O A (wrP B Int32.toInt64 xC1 Po PoX) := by
  refine aMetW_of (B := aLook bkL_size) (by decide) (Nat.le_of_ble_eq_true rfl) boL_size ?_
  intro E J hb
  refine hb.1.run (aCuts [7] J) 60 0 _ _ _ _ _ _ (aCuts_ok _) ?_
  simp only [↓wpi_isub, ↓wpi_lsub, ↓wpi_ineg, ↓wpi_lneg, ↓wpi_irem, ↓wpi_lrem, ↓wpi_iinc, wp1, wp, wpl, wpi, lget, lput1, lput2, ltail, lkill, aV, aVl, aNth, aPut, aFz, aC0, aC2, aSw, aCat1, aCuts, aSet_eq, List.take, List.drop, List.reverse_cons, List.reverse_nil, List.nil_append, List.cons_append, List.length_cons, List.length_nil, Option.toList, true_and, and_true, Nat.reduceAdd, Nat.reduceEqDiff, Nat.reduceLT, Nat.reduceLeDiff, Nat.zero_add, Nat.add_zero, if_true, if_false, ite_true, ite_false, reduceIte, reduceCtorEq, true_or, or_true, not_true_eq_false, not_false_eq_true, false_and, and_false, true_implies, false_implies, not_false_eq_true, bqL_size_0, blL_size_0, bqL_size_7, blL_size_7, bqL_size_12, blL_size_12, bqL_size_15, blL_size_15, aArgs, List.replicate]
  refine ⟨_, _, _, _, hb.2.1 lvL_25 hM rfl hO (by decide) (by decide) (by decide), ?_, ?_⟩
  · rintro v O1 A1 hp
    obtain ⟨⟨w, rfl⟩, f1, hf⟩ := hB _ _ _ hp
    refine hb.1.run (aCuts [7] J) 60 7 _ _ _ _ _ _ (aCuts_ok _) ?_
    simp only [↓wpi_isub, ↓wpi_lsub, ↓wpi_ineg, ↓wpi_lneg, ↓wpi_irem, ↓wpi_lrem, ↓wpi_iinc, wp1, wp, wpl, wpi, lget, lput1, lput2, ltail, lkill, aV, aVl, aNth, aPut, aFz, aC0, aC2, aSw, aCat1, aCuts, aSet_eq, List.take, List.drop, List.reverse_cons, List.reverse_nil, List.nil_append, List.cons_append, List.length_cons, List.length_nil, Option.toList, true_and, and_true, Nat.reduceAdd, Nat.reduceEqDiff, Nat.reduceLT, Nat.reduceLeDiff, Nat.zero_add, Nat.add_zero, if_true, if_false, ite_true, ite_false, reduceIte, reduceCtorEq, true_or, or_true, not_true_eq_false, not_false_eq_true, false_and, and_false, true_implies, false_implies, not_false_eq_true, bqL_size_0, blL_size_0, bqL_size_7, blL_size_7, bqL_size_12, blL_size_12, bqL_size_15, blL_size_15, hf, vin01, ncl0]
    exact hb.1.iret (nar_i _) (Or.inl ⟨rfl, w, A1, f1, hp, hf, rfl⟩) (by decide) (by decide)
  · rintro n O1 A1 hp
    have e := hX _ _ _ hp
    refine hb.2.2 _ n 12 _ _ _ _ _ _ (by rw [e]; exact cthL_size) (fun q => ?_)
    refine hb.1.run (aCuts [7] J) 60 12 _ _ _ _ _ _ (aCuts_ok _) ?_
    simp only [↓wpi_isub, ↓wpi_lsub, ↓wpi_ineg, ↓wpi_lneg, ↓wpi_irem, ↓wpi_lrem, ↓wpi_iinc, wp1, wp, wpl, wpi, lget, lput1, lput2, ltail, lkill, aV, aVl, aNth, aPut, aFz, aC0, aC2, aSw, aCat1, aCuts, aSet_eq, List.take, List.drop, List.reverse_cons, List.reverse_nil, List.nil_append, List.cons_append, List.length_cons, List.length_nil, Option.toList, true_and, and_true, Nat.reduceAdd, Nat.reduceEqDiff, Nat.reduceLT, Nat.reduceLeDiff, Nat.zero_add, Nat.add_zero, if_true, if_false, ite_true, ite_false, reduceIte, reduceCtorEq, true_or, or_true, not_true_eq_false, not_false_eq_true, false_and, and_false, true_implies, false_implies, not_false_eq_true, bqL_size_0, blL_size_0, bqL_size_7, blL_size_7, bqL_size_12, blL_size_12, bqL_size_15, blL_size_15]
    exact hb.1.iret (nar_i _) (Or.inr ⟨n, hp, rfl⟩) (by decide) (by decide)
set_option maxHeartbeats 2000000 in
theorem ctL_apply {x1 x2 x3 x4 : Int32} (hM : aMetX l G base tA yX8_apply cX8_apply 8 (some .int) rmP6 [.ref a, .int x1, .int x2, .int x3, .int x4] O A Po PoX) (hO : O a = some (9, fs)) (hB : ∀ v O' A', Po v O' A' → (∃ w, v = some (.int w)) ∧ ∃ f1, A' B = some (2, 1, .inr (.inl f1))) (hX : ∀ n O' A', PoX n O' A' → (n = xN 2 ∨ n = xN 3)) : aMetW l G base tA yL_apply cL_apply 7 (some .int) hhL_apply rmWr [.ref a, .int x1, .int x2, .int x3, .int x4, .ref B] O A (wrP B Int32.toInt64 xC2 Po PoX) := by
  refine aMetW_of (B := aLook bkL_apply) (by decide) (Nat.le_of_ble_eq_true rfl) boL_apply ?_
  intro E J hb
  refine hb.1.run (aCuts [12] J) 60 0 _ _ _ _ _ _ (aCuts_ok _) ?_
  simp only [↓wpi_isub, ↓wpi_lsub, ↓wpi_ineg, ↓wpi_lneg, ↓wpi_irem, ↓wpi_lrem, ↓wpi_iinc, wp1, wp, wpl, wpi, lget, lput1, lput2, ltail, lkill, aV, aVl, aNth, aPut, aFz, aC0, aC2, aSw, aCat1, aCuts, aSet_eq, List.take, List.drop, List.reverse_cons, List.reverse_nil, List.nil_append, List.cons_append, List.length_cons, List.length_nil, Option.toList, true_and, and_true, Nat.reduceAdd, Nat.reduceEqDiff, Nat.reduceLT, Nat.reduceLeDiff, Nat.zero_add, Nat.add_zero, if_true, if_false, ite_true, ite_false, reduceIte, reduceCtorEq, true_or, or_true, not_true_eq_false, not_false_eq_true, false_and, and_false, true_implies, false_implies, not_false_eq_true, bqL_apply_0, blL_apply_0, bqL_apply_12, blL_apply_12, bqL_apply_17, blL_apply_17, bqL_apply_21, blL_apply_21, bqL_apply_25, blL_apply_25, aArgs, List.replicate]
  refine ⟨_, _, _, _, hb.2.1 lvL_29 hM rfl hO (by decide) (by decide) (by decide), ?_, ?_⟩
  · rintro v O1 A1 hp
    obtain ⟨⟨w, rfl⟩, f1, hf⟩ := hB _ _ _ hp
    refine hb.1.run (aCuts [12] J) 60 12 _ _ _ _ _ _ (aCuts_ok _) ?_
    simp only [↓wpi_isub, ↓wpi_lsub, ↓wpi_ineg, ↓wpi_lneg, ↓wpi_irem, ↓wpi_lrem, ↓wpi_iinc, wp1, wp, wpl, wpi, lget, lput1, lput2, ltail, lkill, aV, aVl, aNth, aPut, aFz, aC0, aC2, aSw, aCat1, aCuts, aSet_eq, List.take, List.drop, List.reverse_cons, List.reverse_nil, List.nil_append, List.cons_append, List.length_cons, List.length_nil, Option.toList, true_and, and_true, Nat.reduceAdd, Nat.reduceEqDiff, Nat.reduceLT, Nat.reduceLeDiff, Nat.zero_add, Nat.add_zero, if_true, if_false, ite_true, ite_false, reduceIte, reduceCtorEq, true_or, or_true, not_true_eq_false, not_false_eq_true, false_and, and_false, true_implies, false_implies, not_false_eq_true, bqL_apply_0, blL_apply_0, bqL_apply_12, blL_apply_12, bqL_apply_17, blL_apply_17, bqL_apply_21, blL_apply_21, bqL_apply_25, blL_apply_25, hf, vin01, ncl0]
    exact hb.1.iret (nar_i _) (Or.inl ⟨rfl, w, A1, f1, hp, hf, rfl⟩) (by decide) (by decide)
  · rintro n O1 A1 hp
    rcases hX _ _ _ hp with e | e
    · refine hb.2.2 _ n 17 _ _ _ _ _ _ (by rw [e]; exact cthL_apply) (fun q => ?_)
      refine hb.1.run (aCuts [12] J) 60 17 _ _ _ _ _ _ (aCuts_ok _) ?_
      simp only [↓wpi_isub, ↓wpi_lsub, ↓wpi_ineg, ↓wpi_lneg, ↓wpi_irem, ↓wpi_lrem, ↓wpi_iinc, wp1, wp, wpl, wpi, lget, lput1, lput2, ltail, lkill, aV, aVl, aNth, aPut, aFz, aC0, aC2, aSw, aCat1, aCuts, aSet_eq, List.take, List.drop, List.reverse_cons, List.reverse_nil, List.nil_append, List.cons_append, List.length_cons, List.length_nil, Option.toList, true_and, and_true, Nat.reduceAdd, Nat.reduceEqDiff, Nat.reduceLT, Nat.reduceLeDiff, Nat.zero_add, Nat.add_zero, if_true, if_false, ite_true, ite_false, reduceIte, reduceCtorEq, true_or, or_true, not_true_eq_false, not_false_eq_true, false_and, and_false, true_implies, false_implies, not_false_eq_true, bqL_apply_0, blL_apply_0, bqL_apply_12, blL_apply_12, bqL_apply_17, blL_apply_17, bqL_apply_21, blL_apply_21, bqL_apply_25, blL_apply_25]
      exact hb.1.iret (nar_i _) (Or.inr ⟨n, hp, by rw [e]; rfl⟩) (by decide) (by decide)
    · refine hb.2.2 _ n 21 _ _ _ _ _ _ (by rw [e]; exact cthL_apply2) (fun q => ?_)
      refine hb.1.run (aCuts [12] J) 60 21 _ _ _ _ _ _ (aCuts_ok _) ?_
      simp only [↓wpi_isub, ↓wpi_lsub, ↓wpi_ineg, ↓wpi_lneg, ↓wpi_irem, ↓wpi_lrem, ↓wpi_iinc, wp1, wp, wpl, wpi, lget, lput1, lput2, ltail, lkill, aV, aVl, aNth, aPut, aFz, aC0, aC2, aSw, aCat1, aCuts, aSet_eq, List.take, List.drop, List.reverse_cons, List.reverse_nil, List.nil_append, List.cons_append, List.length_cons, List.length_nil, Option.toList, true_and, and_true, Nat.reduceAdd, Nat.reduceEqDiff, Nat.reduceLT, Nat.reduceLeDiff, Nat.zero_add, Nat.add_zero, if_true, if_false, ite_true, ite_false, reduceIte, reduceCtorEq, true_or, or_true, not_true_eq_false, not_false_eq_true, false_and, and_false, true_implies, false_implies, not_false_eq_true, bqL_apply_0, blL_apply_0, bqL_apply_12, blL_apply_12, bqL_apply_17, blL_apply_17, bqL_apply_21, blL_apply_21, bqL_apply_25, blL_apply_25]
      exact hb.1.iret (nar_i _) (Or.inr ⟨n, hp, by rw [e]; rfl⟩) (by decide) (by decide)
set_option maxHeartbeats 2000000 in
theorem ctL_compare {x1 x2 : Int32} (hM : aMetX l G base tA yX8_compare cX8_compare 5 (some .int) rmP4 [.ref a, .int x1, .int x2] O A Po PoX) (hO : O a = some (9, fs)) (hB : ∀ v O' A', Po v O' A' → (∃ w, v = some (.int w)) ∧ ∃ f1, A' B = some (2, 1, .inr (.inl f1))) (hX : ∀ n O' A', PoX n O' A' → n = xN 2) : aMetW l G base tA yL_compare cL_compare 5 (some .int) hhL_compare rmWr [.ref a, .int x1, .int x2, .ref B] O A (wrP B Int32.toInt64 xC1 Po PoX) := by
  refine aMetW_of (B := aLook bkL_compare) (by decide) (Nat.le_of_ble_eq_true rfl) boL_compare ?_
  intro E J hb
  refine hb.1.run (aCuts [8] J) 60 0 _ _ _ _ _ _ (aCuts_ok _) ?_
  simp only [↓wpi_isub, ↓wpi_lsub, ↓wpi_ineg, ↓wpi_lneg, ↓wpi_irem, ↓wpi_lrem, ↓wpi_iinc, wp1, wp, wpl, wpi, lget, lput1, lput2, ltail, lkill, aV, aVl, aNth, aPut, aFz, aC0, aC2, aSw, aCat1, aCuts, aSet_eq, List.take, List.drop, List.reverse_cons, List.reverse_nil, List.nil_append, List.cons_append, List.length_cons, List.length_nil, Option.toList, true_and, and_true, Nat.reduceAdd, Nat.reduceEqDiff, Nat.reduceLT, Nat.reduceLeDiff, Nat.zero_add, Nat.add_zero, if_true, if_false, ite_true, ite_false, reduceIte, reduceCtorEq, true_or, or_true, not_true_eq_false, not_false_eq_true, false_and, and_false, true_implies, false_implies, not_false_eq_true, bqL_compare_0, blL_compare_0, bqL_compare_8, blL_compare_8, bqL_compare_13, blL_compare_13, bqL_compare_17, blL_compare_17, aArgs, List.replicate]
  refine ⟨_, _, _, _, hb.2.1 lvL_35 hM rfl hO (by decide) (by decide) (by decide), ?_, ?_⟩
  · rintro v O1 A1 hp
    obtain ⟨⟨w, rfl⟩, f1, hf⟩ := hB _ _ _ hp
    refine hb.1.run (aCuts [8] J) 60 8 _ _ _ _ _ _ (aCuts_ok _) ?_
    simp only [↓wpi_isub, ↓wpi_lsub, ↓wpi_ineg, ↓wpi_lneg, ↓wpi_irem, ↓wpi_lrem, ↓wpi_iinc, wp1, wp, wpl, wpi, lget, lput1, lput2, ltail, lkill, aV, aVl, aNth, aPut, aFz, aC0, aC2, aSw, aCat1, aCuts, aSet_eq, List.take, List.drop, List.reverse_cons, List.reverse_nil, List.nil_append, List.cons_append, List.length_cons, List.length_nil, Option.toList, true_and, and_true, Nat.reduceAdd, Nat.reduceEqDiff, Nat.reduceLT, Nat.reduceLeDiff, Nat.zero_add, Nat.add_zero, if_true, if_false, ite_true, ite_false, reduceIte, reduceCtorEq, true_or, or_true, not_true_eq_false, not_false_eq_true, false_and, and_false, true_implies, false_implies, not_false_eq_true, bqL_compare_0, blL_compare_0, bqL_compare_8, blL_compare_8, bqL_compare_13, blL_compare_13, bqL_compare_17, blL_compare_17, hf, vin01, ncl0]
    exact hb.1.iret (nar_i _) (Or.inl ⟨rfl, w, A1, f1, hp, hf, rfl⟩) (by decide) (by decide)
  · rintro n O1 A1 hp
    have e := hX _ _ _ hp
    refine hb.2.2 _ n 13 _ _ _ _ _ _ (by rw [e]; exact cthL_compare) (fun q => ?_)
    refine hb.1.run (aCuts [8] J) 60 13 _ _ _ _ _ _ (aCuts_ok _) ?_
    simp only [↓wpi_isub, ↓wpi_lsub, ↓wpi_ineg, ↓wpi_lneg, ↓wpi_irem, ↓wpi_lrem, ↓wpi_iinc, wp1, wp, wpl, wpi, lget, lput1, lput2, ltail, lkill, aV, aVl, aNth, aPut, aFz, aC0, aC2, aSw, aCat1, aCuts, aSet_eq, List.take, List.drop, List.reverse_cons, List.reverse_nil, List.nil_append, List.cons_append, List.length_cons, List.length_nil, Option.toList, true_and, and_true, Nat.reduceAdd, Nat.reduceEqDiff, Nat.reduceLT, Nat.reduceLeDiff, Nat.zero_add, Nat.add_zero, if_true, if_false, ite_true, ite_false, reduceIte, reduceCtorEq, true_or, or_true, not_true_eq_false, not_false_eq_true, false_and, and_false, true_implies, false_implies, not_false_eq_true, bqL_compare_0, blL_compare_0, bqL_compare_8, blL_compare_8, bqL_compare_13, blL_compare_13, bqL_compare_17, blL_compare_17]
    exact hb.1.iret (nar_i _) (Or.inr ⟨n, hp, rfl⟩) (by decide) (by decide)
set_option maxHeartbeats 2000000 in
theorem ctL_valid {x1 : Int32} (hM : aMetX l G base tA yX8_valid cX8_valid 2 (some .boolean) rmP3 [.ref a, .int x1] O A Po PoX) (hO : O a = some (9, fs)) (hB : ∀ v O' A', Po v O' A' → (∃ w, v = some (.int w)) ∧ ∃ f1, A' B = some (2, 1, .inr (.inl f1))) (hX : ∀ n O' A', PoX n O' A' → n = xN 2) : aMetW l G base tA yL_valid cL_valid 4 (some .int) hhL_valid rmWr [.ref a, .int x1, .ref B] O A (wrP B fV xC1 Po PoX) := by
  refine aMetW_of (B := aLook bkL_valid) (by decide) (Nat.le_of_ble_eq_true rfl) boL_valid ?_
  intro E J hb
  refine hb.1.run (aCuts [7] J) 60 0 _ _ _ _ _ _ (aCuts_ok _) ?_
  simp only [↓wpi_isub, ↓wpi_lsub, ↓wpi_ineg, ↓wpi_lneg, ↓wpi_irem, ↓wpi_lrem, ↓wpi_iinc, wp1, wp, wpl, wpi, lget, lput1, lput2, ltail, lkill, aV, aVl, aNth, aPut, aFz, aC0, aC2, aSw, aCat1, aCuts, aSet_eq, List.take, List.drop, List.reverse_cons, List.reverse_nil, List.nil_append, List.cons_append, List.length_cons, List.length_nil, Option.toList, true_and, and_true, Nat.reduceAdd, Nat.reduceEqDiff, Nat.reduceLT, Nat.reduceLeDiff, Nat.zero_add, Nat.add_zero, if_true, if_false, ite_true, ite_false, reduceIte, reduceCtorEq, true_or, or_true, not_true_eq_false, not_false_eq_true, false_and, and_false, true_implies, false_implies, not_false_eq_true, bqL_valid_0, blL_valid_0, bqL_valid_7, blL_valid_7, bqL_valid_10, blL_valid_10, bqL_valid_14, blL_valid_14, bqL_valid_15, blL_valid_15, bqL_valid_19, blL_valid_19, bqL_valid_22, blL_valid_22, aArgs, List.replicate]
  refine ⟨_, _, _, _, hb.2.1 lvL_39 hM rfl hO (by decide) (by decide) (by decide), ?_, ?_⟩
  · rintro v O1 A1 hp
    obtain ⟨⟨w, rfl⟩, f1, hf⟩ := hB _ _ _ hp
    refine hb.1.run (aCuts [7] J) 60 7 _ _ _ _ _ _ (aCuts_ok _) ?_
    by_cases hw : w = 0
    · have e0 : (w = 0) = True := by simp [hw]
      have eF : fV w = lN 0 := if_pos hw
      simp only [↓wpi_isub, ↓wpi_lsub, ↓wpi_ineg, ↓wpi_lneg, ↓wpi_irem, ↓wpi_lrem, ↓wpi_iinc, wp1, wp, wpl, wpi, lget, lput1, lput2, ltail, lkill, aV, aVl, aNth, aPut, aFz, aC0, aC2, aSw, aCat1, aCuts, aSet_eq, List.take, List.drop, List.reverse_cons, List.reverse_nil, List.nil_append, List.cons_append, List.length_cons, List.length_nil, Option.toList, true_and, and_true, Nat.reduceAdd, Nat.reduceEqDiff, Nat.reduceLT, Nat.reduceLeDiff, Nat.zero_add, Nat.add_zero, if_true, if_false, ite_true, ite_false, reduceIte, reduceCtorEq, true_or, or_true, not_true_eq_false, not_false_eq_true, false_and, and_false, true_implies, false_implies, not_false_eq_true, bqL_valid_0, blL_valid_0, bqL_valid_7, blL_valid_7, bqL_valid_10, blL_valid_10, bqL_valid_14, blL_valid_14, bqL_valid_15, blL_valid_15, bqL_valid_19, blL_valid_19, bqL_valid_22, blL_valid_22, e0, hf, vin01, ncl0]
      exact hb.1.iret (nar_i _) (Or.inl ⟨rfl, w, A1, f1, hp, hf, by rw [eF]⟩) (by decide) (by decide)
    · have e0 : (w = 0) = False := by simp [hw]
      have eF : fV w = lN 1 := if_neg hw
      simp only [↓wpi_isub, ↓wpi_lsub, ↓wpi_ineg, ↓wpi_lneg, ↓wpi_irem, ↓wpi_lrem, ↓wpi_iinc, wp1, wp, wpl, wpi, lget, lput1, lput2, ltail, lkill, aV, aVl, aNth, aPut, aFz, aC0, aC2, aSw, aCat1, aCuts, aSet_eq, List.take, List.drop, List.reverse_cons, List.reverse_nil, List.nil_append, List.cons_append, List.length_cons, List.length_nil, Option.toList, true_and, and_true, Nat.reduceAdd, Nat.reduceEqDiff, Nat.reduceLT, Nat.reduceLeDiff, Nat.zero_add, Nat.add_zero, if_true, if_false, ite_true, ite_false, reduceIte, reduceCtorEq, true_or, or_true, not_true_eq_false, not_false_eq_true, false_and, and_false, true_implies, false_implies, not_false_eq_true, bqL_valid_0, blL_valid_0, bqL_valid_7, blL_valid_7, bqL_valid_10, blL_valid_10, bqL_valid_14, blL_valid_14, bqL_valid_15, blL_valid_15, bqL_valid_19, blL_valid_19, bqL_valid_22, blL_valid_22, e0, hf, vin01, ncl0]
      exact hb.1.iret (nar_i _) (Or.inl ⟨rfl, w, A1, f1, hp, hf, by rw [eF]⟩) (by decide) (by decide)
  · rintro n O1 A1 hp
    have e := hX _ _ _ hp
    refine hb.2.2 _ n 19 _ _ _ _ _ _ (by rw [e]; exact cthL_valid) (fun q => ?_)
    refine hb.1.run (aCuts [7] J) 60 19 _ _ _ _ _ _ (aCuts_ok _) ?_
    simp only [↓wpi_isub, ↓wpi_lsub, ↓wpi_ineg, ↓wpi_lneg, ↓wpi_irem, ↓wpi_lrem, ↓wpi_iinc, wp1, wp, wpl, wpi, lget, lput1, lput2, ltail, lkill, aV, aVl, aNth, aPut, aFz, aC0, aC2, aSw, aCat1, aCuts, aSet_eq, List.take, List.drop, List.reverse_cons, List.reverse_nil, List.nil_append, List.cons_append, List.length_cons, List.length_nil, Option.toList, true_and, and_true, Nat.reduceAdd, Nat.reduceEqDiff, Nat.reduceLT, Nat.reduceLeDiff, Nat.zero_add, Nat.add_zero, if_true, if_false, ite_true, ite_false, reduceIte, reduceCtorEq, true_or, or_true, not_true_eq_false, not_false_eq_true, false_and, and_false, true_implies, false_implies, not_false_eq_true, bqL_valid_0, blL_valid_0, bqL_valid_7, blL_valid_7, bqL_valid_10, blL_valid_10, bqL_valid_14, blL_valid_14, bqL_valid_15, blL_valid_15, bqL_valid_19, blL_valid_19, bqL_valid_22, blL_valid_22]
    exact hb.1.iret (nar_i _) (Or.inr ⟨n, hp, rfl⟩) (by decide) (by decide)
set_option maxHeartbeats 2000000 in
theorem ctL_convert {x1 x2 : Int32} (hM : aMetX l G base tA yX8_convert cX8_convert 5 (some .int) rmP5 [.ref a, .int x1, .int x2] O A Po PoX) (hO : O a = some (9, fs)) (hB : ∀ v O' A', Po v O' A' → (∃ w, v = some (.int w)) ∧ ∃ f1, A' B = some (2, 1, .inr (.inl f1))) (hX : ∀ n O' A', PoX n O' A' → n = xN 2) : aMetW l G base tA yL_convert cL_convert 5 (some .int) hhL_convert rmWr [.ref a, .int x1, .int x2, .ref B] O A (wrP B Int32.toInt64 xC1 Po PoX) := by
  refine aMetW_of (B := aLook bkL_convert) (by decide) (Nat.le_of_ble_eq_true rfl) boL_convert ?_
  intro E J hb
  refine hb.1.run (aCuts [8] J) 60 0 _ _ _ _ _ _ (aCuts_ok _) ?_
  simp only [↓wpi_isub, ↓wpi_lsub, ↓wpi_ineg, ↓wpi_lneg, ↓wpi_irem, ↓wpi_lrem, ↓wpi_iinc, wp1, wp, wpl, wpi, lget, lput1, lput2, ltail, lkill, aV, aVl, aNth, aPut, aFz, aC0, aC2, aSw, aCat1, aCuts, aSet_eq, List.take, List.drop, List.reverse_cons, List.reverse_nil, List.nil_append, List.cons_append, List.length_cons, List.length_nil, Option.toList, true_and, and_true, Nat.reduceAdd, Nat.reduceEqDiff, Nat.reduceLT, Nat.reduceLeDiff, Nat.zero_add, Nat.add_zero, if_true, if_false, ite_true, ite_false, reduceIte, reduceCtorEq, true_or, or_true, not_true_eq_false, not_false_eq_true, false_and, and_false, true_implies, false_implies, not_false_eq_true, bqL_convert_0, blL_convert_0, bqL_convert_8, blL_convert_8, bqL_convert_13, blL_convert_13, bqL_convert_17, blL_convert_17, aArgs, List.replicate]
  refine ⟨_, _, _, _, hb.2.1 lvL_43 hM rfl hO (by decide) (by decide) (by decide), ?_, ?_⟩
  · rintro v O1 A1 hp
    obtain ⟨⟨w, rfl⟩, f1, hf⟩ := hB _ _ _ hp
    refine hb.1.run (aCuts [8] J) 60 8 _ _ _ _ _ _ (aCuts_ok _) ?_
    simp only [↓wpi_isub, ↓wpi_lsub, ↓wpi_ineg, ↓wpi_lneg, ↓wpi_irem, ↓wpi_lrem, ↓wpi_iinc, wp1, wp, wpl, wpi, lget, lput1, lput2, ltail, lkill, aV, aVl, aNth, aPut, aFz, aC0, aC2, aSw, aCat1, aCuts, aSet_eq, List.take, List.drop, List.reverse_cons, List.reverse_nil, List.nil_append, List.cons_append, List.length_cons, List.length_nil, Option.toList, true_and, and_true, Nat.reduceAdd, Nat.reduceEqDiff, Nat.reduceLT, Nat.reduceLeDiff, Nat.zero_add, Nat.add_zero, if_true, if_false, ite_true, ite_false, reduceIte, reduceCtorEq, true_or, or_true, not_true_eq_false, not_false_eq_true, false_and, and_false, true_implies, false_implies, not_false_eq_true, bqL_convert_0, blL_convert_0, bqL_convert_8, blL_convert_8, bqL_convert_13, blL_convert_13, bqL_convert_17, blL_convert_17, hf, vin01, ncl0]
    exact hb.1.iret (nar_i _) (Or.inl ⟨rfl, w, A1, f1, hp, hf, rfl⟩) (by decide) (by decide)
  · rintro n O1 A1 hp
    have e := hX _ _ _ hp
    refine hb.2.2 _ n 13 _ _ _ _ _ _ (by rw [e]; exact cthL_convert) (fun q => ?_)
    refine hb.1.run (aCuts [8] J) 60 13 _ _ _ _ _ _ (aCuts_ok _) ?_
    simp only [↓wpi_isub, ↓wpi_lsub, ↓wpi_ineg, ↓wpi_lneg, ↓wpi_irem, ↓wpi_lrem, ↓wpi_iinc, wp1, wp, wpl, wpi, lget, lput1, lput2, ltail, lkill, aV, aVl, aNth, aPut, aFz, aC0, aC2, aSw, aCat1, aCuts, aSet_eq, List.take, List.drop, List.reverse_cons, List.reverse_nil, List.nil_append, List.cons_append, List.length_cons, List.length_nil, Option.toList, true_and, and_true, Nat.reduceAdd, Nat.reduceEqDiff, Nat.reduceLT, Nat.reduceLeDiff, Nat.zero_add, Nat.add_zero, if_true, if_false, ite_true, ite_false, reduceIte, reduceCtorEq, true_or, or_true, not_true_eq_false, not_false_eq_true, false_and, and_false, true_implies, false_implies, not_false_eq_true, bqL_convert_0, blL_convert_0, bqL_convert_8, blL_convert_8, bqL_convert_13, blL_convert_13, bqL_convert_17, blL_convert_17]
    exact hb.1.iret (nar_i _) (Or.inr ⟨n, hp, rfl⟩) (by decide) (by decide)
set_option maxHeartbeats 2000000 in
theorem ctL_digit {x1 x2 : Int32} (hM : aMetX l G base tA yX8_digit cX8_digit 5 (some .int) rmP3 [.ref a, .int x1, .int x2] O A Po PoX) (hO : O a = some (9, fs)) (hB : ∀ v O' A', Po v O' A' → (∃ w, v = some (.int w)) ∧ ∃ f1, A' B = some (2, 1, .inr (.inl f1))) (hX : ∀ n O' A', PoX n O' A' → n = xN 2) : aMetW l G base tA yL_digit cL_digit 5 (some .int) hhL_digit rmWr [.ref a, .int x1, .int x2, .ref B] O A (wrP B Int32.toInt64 xC1 Po PoX) := by
  refine aMetW_of (B := aLook bkL_digit) (by decide) (Nat.le_of_ble_eq_true rfl) boL_digit ?_
  intro E J hb
  refine hb.1.run (aCuts [8] J) 60 0 _ _ _ _ _ _ (aCuts_ok _) ?_
  simp only [↓wpi_isub, ↓wpi_lsub, ↓wpi_ineg, ↓wpi_lneg, ↓wpi_irem, ↓wpi_lrem, ↓wpi_iinc, wp1, wp, wpl, wpi, lget, lput1, lput2, ltail, lkill, aV, aVl, aNth, aPut, aFz, aC0, aC2, aSw, aCat1, aCuts, aSet_eq, List.take, List.drop, List.reverse_cons, List.reverse_nil, List.nil_append, List.cons_append, List.length_cons, List.length_nil, Option.toList, true_and, and_true, Nat.reduceAdd, Nat.reduceEqDiff, Nat.reduceLT, Nat.reduceLeDiff, Nat.zero_add, Nat.add_zero, if_true, if_false, ite_true, ite_false, reduceIte, reduceCtorEq, true_or, or_true, not_true_eq_false, not_false_eq_true, false_and, and_false, true_implies, false_implies, not_false_eq_true, bqL_digit_0, blL_digit_0, bqL_digit_8, blL_digit_8, bqL_digit_13, blL_digit_13, bqL_digit_17, blL_digit_17, aArgs, List.replicate]
  refine ⟨_, _, _, _, hb.2.1 lvL_46 hM rfl hO (by decide) (by decide) (by decide), ?_, ?_⟩
  · rintro v O1 A1 hp
    obtain ⟨⟨w, rfl⟩, f1, hf⟩ := hB _ _ _ hp
    refine hb.1.run (aCuts [8] J) 60 8 _ _ _ _ _ _ (aCuts_ok _) ?_
    simp only [↓wpi_isub, ↓wpi_lsub, ↓wpi_ineg, ↓wpi_lneg, ↓wpi_irem, ↓wpi_lrem, ↓wpi_iinc, wp1, wp, wpl, wpi, lget, lput1, lput2, ltail, lkill, aV, aVl, aNth, aPut, aFz, aC0, aC2, aSw, aCat1, aCuts, aSet_eq, List.take, List.drop, List.reverse_cons, List.reverse_nil, List.nil_append, List.cons_append, List.length_cons, List.length_nil, Option.toList, true_and, and_true, Nat.reduceAdd, Nat.reduceEqDiff, Nat.reduceLT, Nat.reduceLeDiff, Nat.zero_add, Nat.add_zero, if_true, if_false, ite_true, ite_false, reduceIte, reduceCtorEq, true_or, or_true, not_true_eq_false, not_false_eq_true, false_and, and_false, true_implies, false_implies, not_false_eq_true, bqL_digit_0, blL_digit_0, bqL_digit_8, blL_digit_8, bqL_digit_13, blL_digit_13, bqL_digit_17, blL_digit_17, hf, vin01, ncl0]
    exact hb.1.iret (nar_i _) (Or.inl ⟨rfl, w, A1, f1, hp, hf, rfl⟩) (by decide) (by decide)
  · rintro n O1 A1 hp
    have e := hX _ _ _ hp
    refine hb.2.2 _ n 13 _ _ _ _ _ _ (by rw [e]; exact cthL_digit) (fun q => ?_)
    refine hb.1.run (aCuts [8] J) 60 13 _ _ _ _ _ _ (aCuts_ok _) ?_
    simp only [↓wpi_isub, ↓wpi_lsub, ↓wpi_ineg, ↓wpi_lneg, ↓wpi_irem, ↓wpi_lrem, ↓wpi_iinc, wp1, wp, wpl, wpi, lget, lput1, lput2, ltail, lkill, aV, aVl, aNth, aPut, aFz, aC0, aC2, aSw, aCat1, aCuts, aSet_eq, List.take, List.drop, List.reverse_cons, List.reverse_nil, List.nil_append, List.cons_append, List.length_cons, List.length_nil, Option.toList, true_and, and_true, Nat.reduceAdd, Nat.reduceEqDiff, Nat.reduceLT, Nat.reduceLeDiff, Nat.zero_add, Nat.add_zero, if_true, if_false, ite_true, ite_false, reduceIte, reduceCtorEq, true_or, or_true, not_true_eq_false, not_false_eq_true, false_and, and_false, true_implies, false_implies, not_false_eq_true, bqL_digit_0, blL_digit_0, bqL_digit_8, blL_digit_8, bqL_digit_13, blL_digit_13, bqL_digit_17, blL_digit_17]
    exact hb.1.iret (nar_i _) (Or.inr ⟨n, hp, rfl⟩) (by decide) (by decide)
set_option maxHeartbeats 2000000 in
theorem ctL_round {x1 x2 : Int32} (hM : aMetX l G base tA yX8_round cX8_round 5 (some .int) rmP2 [.ref a, .int x1, .int x2] O A Po PoX) (hO : O a = some (9, fs)) (hB : ∀ v O' A', Po v O' A' → (∃ w, v = some (.int w)) ∧ ∃ f1, A' B = some (2, 1, .inr (.inl f1))) (hX : ∀ n O' A', PoX n O' A' → n = xN 2) : aMetW l G base tA yL_round cL_round 5 (some .int) hhL_round rmWr [.ref a, .int x1, .int x2, .ref B] O A (wrP B Int32.toInt64 xC1 Po PoX) := by
  refine aMetW_of (B := aLook bkL_round) (by decide) (Nat.le_of_ble_eq_true rfl) boL_round ?_
  intro E J hb
  refine hb.1.run (aCuts [8] J) 60 0 _ _ _ _ _ _ (aCuts_ok _) ?_
  simp only [↓wpi_isub, ↓wpi_lsub, ↓wpi_ineg, ↓wpi_lneg, ↓wpi_irem, ↓wpi_lrem, ↓wpi_iinc, wp1, wp, wpl, wpi, lget, lput1, lput2, ltail, lkill, aV, aVl, aNth, aPut, aFz, aC0, aC2, aSw, aCat1, aCuts, aSet_eq, List.take, List.drop, List.reverse_cons, List.reverse_nil, List.nil_append, List.cons_append, List.length_cons, List.length_nil, Option.toList, true_and, and_true, Nat.reduceAdd, Nat.reduceEqDiff, Nat.reduceLT, Nat.reduceLeDiff, Nat.zero_add, Nat.add_zero, if_true, if_false, ite_true, ite_false, reduceIte, reduceCtorEq, true_or, or_true, not_true_eq_false, not_false_eq_true, false_and, and_false, true_implies, false_implies, not_false_eq_true, bqL_round_0, blL_round_0, bqL_round_8, blL_round_8, bqL_round_13, blL_round_13, bqL_round_17, blL_round_17, aArgs, List.replicate]
  refine ⟨_, _, _, _, hb.2.1 lvL_49 hM rfl hO (by decide) (by decide) (by decide), ?_, ?_⟩
  · rintro v O1 A1 hp
    obtain ⟨⟨w, rfl⟩, f1, hf⟩ := hB _ _ _ hp
    refine hb.1.run (aCuts [8] J) 60 8 _ _ _ _ _ _ (aCuts_ok _) ?_
    simp only [↓wpi_isub, ↓wpi_lsub, ↓wpi_ineg, ↓wpi_lneg, ↓wpi_irem, ↓wpi_lrem, ↓wpi_iinc, wp1, wp, wpl, wpi, lget, lput1, lput2, ltail, lkill, aV, aVl, aNth, aPut, aFz, aC0, aC2, aSw, aCat1, aCuts, aSet_eq, List.take, List.drop, List.reverse_cons, List.reverse_nil, List.nil_append, List.cons_append, List.length_cons, List.length_nil, Option.toList, true_and, and_true, Nat.reduceAdd, Nat.reduceEqDiff, Nat.reduceLT, Nat.reduceLeDiff, Nat.zero_add, Nat.add_zero, if_true, if_false, ite_true, ite_false, reduceIte, reduceCtorEq, true_or, or_true, not_true_eq_false, not_false_eq_true, false_and, and_false, true_implies, false_implies, not_false_eq_true, bqL_round_0, blL_round_0, bqL_round_8, blL_round_8, bqL_round_13, blL_round_13, bqL_round_17, blL_round_17, hf, vin01, ncl0]
    exact hb.1.iret (nar_i _) (Or.inl ⟨rfl, w, A1, f1, hp, hf, rfl⟩) (by decide) (by decide)
  · rintro n O1 A1 hp
    have e := hX _ _ _ hp
    refine hb.2.2 _ n 13 _ _ _ _ _ _ (by rw [e]; exact cthL_round) (fun q => ?_)
    refine hb.1.run (aCuts [8] J) 60 13 _ _ _ _ _ _ (aCuts_ok _) ?_
    simp only [↓wpi_isub, ↓wpi_lsub, ↓wpi_ineg, ↓wpi_lneg, ↓wpi_irem, ↓wpi_lrem, ↓wpi_iinc, wp1, wp, wpl, wpi, lget, lput1, lput2, ltail, lkill, aV, aVl, aNth, aPut, aFz, aC0, aC2, aSw, aCat1, aCuts, aSet_eq, List.take, List.drop, List.reverse_cons, List.reverse_nil, List.nil_append, List.cons_append, List.length_cons, List.length_nil, Option.toList, true_and, and_true, Nat.reduceAdd, Nat.reduceEqDiff, Nat.reduceLT, Nat.reduceLeDiff, Nat.zero_add, Nat.add_zero, if_true, if_false, ite_true, ite_false, reduceIte, reduceCtorEq, true_or, or_true, not_true_eq_false, not_false_eq_true, false_and, and_false, true_implies, false_implies, not_false_eq_true, bqL_round_0, blL_round_0, bqL_round_8, blL_round_8, bqL_round_13, blL_round_13, bqL_round_17, blL_round_17]
    exact hb.1.iret (nar_i _) (Or.inr ⟨n, hp, rfl⟩) (by decide) (by decide)
set_option maxHeartbeats 2000000 in
theorem ctL_half {x1 : Int32} (hM : aMetX l G base tA yX8_half cX8_half 2 (some .short) rmP3 [.ref a, .int x1] O A Po PoX) (hO : O a = some (9, fs)) (hB : ∀ v O' A', Po v O' A' → (∃ w, v = some (.int w)) ∧ ∃ f1, A' B = some (2, 1, .inr (.inl f1))) (hX : ∀ n O' A', PoX n O' A' → n = xN 2) : aMetW l G base tA yL_half cL_half 4 (some .int) hhL_half rmWr [.ref a, .int x1, .ref B] O A (wrP B Int32.toInt64 xC1 Po PoX) := by
  refine aMetW_of (B := aLook bkL_half) (by decide) (Nat.le_of_ble_eq_true rfl) boL_half ?_
  intro E J hb
  refine hb.1.run (aCuts [7] J) 60 0 _ _ _ _ _ _ (aCuts_ok _) ?_
  simp only [↓wpi_isub, ↓wpi_lsub, ↓wpi_ineg, ↓wpi_lneg, ↓wpi_irem, ↓wpi_lrem, ↓wpi_iinc, wp1, wp, wpl, wpi, lget, lput1, lput2, ltail, lkill, aV, aVl, aNth, aPut, aFz, aC0, aC2, aSw, aCat1, aCuts, aSet_eq, List.take, List.drop, List.reverse_cons, List.reverse_nil, List.nil_append, List.cons_append, List.length_cons, List.length_nil, Option.toList, true_and, and_true, Nat.reduceAdd, Nat.reduceEqDiff, Nat.reduceLT, Nat.reduceLeDiff, Nat.zero_add, Nat.add_zero, if_true, if_false, ite_true, ite_false, reduceIte, reduceCtorEq, true_or, or_true, not_true_eq_false, not_false_eq_true, false_and, and_false, true_implies, false_implies, not_false_eq_true, bqL_half_0, blL_half_0, bqL_half_7, blL_half_7, bqL_half_12, blL_half_12, bqL_half_15, blL_half_15, aArgs, List.replicate]
  refine ⟨_, _, _, _, hb.2.1 lvL_52 hM rfl hO (by decide) (by decide) (by decide), ?_, ?_⟩
  · rintro v O1 A1 hp
    obtain ⟨⟨w, rfl⟩, f1, hf⟩ := hB _ _ _ hp
    refine hb.1.run (aCuts [7] J) 60 7 _ _ _ _ _ _ (aCuts_ok _) ?_
    simp only [↓wpi_isub, ↓wpi_lsub, ↓wpi_ineg, ↓wpi_lneg, ↓wpi_irem, ↓wpi_lrem, ↓wpi_iinc, wp1, wp, wpl, wpi, lget, lput1, lput2, ltail, lkill, aV, aVl, aNth, aPut, aFz, aC0, aC2, aSw, aCat1, aCuts, aSet_eq, List.take, List.drop, List.reverse_cons, List.reverse_nil, List.nil_append, List.cons_append, List.length_cons, List.length_nil, Option.toList, true_and, and_true, Nat.reduceAdd, Nat.reduceEqDiff, Nat.reduceLT, Nat.reduceLeDiff, Nat.zero_add, Nat.add_zero, if_true, if_false, ite_true, ite_false, reduceIte, reduceCtorEq, true_or, or_true, not_true_eq_false, not_false_eq_true, false_and, and_false, true_implies, false_implies, not_false_eq_true, bqL_half_0, blL_half_0, bqL_half_7, blL_half_7, bqL_half_12, blL_half_12, bqL_half_15, blL_half_15, hf, vin01, ncl0]
    exact hb.1.iret (nar_i _) (Or.inl ⟨rfl, w, A1, f1, hp, hf, rfl⟩) (by decide) (by decide)
  · rintro n O1 A1 hp
    have e := hX _ _ _ hp
    refine hb.2.2 _ n 12 _ _ _ _ _ _ (by rw [e]; exact cthL_half) (fun q => ?_)
    refine hb.1.run (aCuts [7] J) 60 12 _ _ _ _ _ _ (aCuts_ok _) ?_
    simp only [↓wpi_isub, ↓wpi_lsub, ↓wpi_ineg, ↓wpi_lneg, ↓wpi_irem, ↓wpi_lrem, ↓wpi_iinc, wp1, wp, wpl, wpi, lget, lput1, lput2, ltail, lkill, aV, aVl, aNth, aPut, aFz, aC0, aC2, aSw, aCat1, aCuts, aSet_eq, List.take, List.drop, List.reverse_cons, List.reverse_nil, List.nil_append, List.cons_append, List.length_cons, List.length_nil, Option.toList, true_and, and_true, Nat.reduceAdd, Nat.reduceEqDiff, Nat.reduceLT, Nat.reduceLeDiff, Nat.zero_add, Nat.add_zero, if_true, if_false, ite_true, ite_false, reduceIte, reduceCtorEq, true_or, or_true, not_true_eq_false, not_false_eq_true, false_and, and_false, true_implies, false_implies, not_false_eq_true, bqL_half_0, blL_half_0, bqL_half_7, blL_half_7, bqL_half_12, blL_half_12, bqL_half_15, blL_half_15]
    exact hb.1.iret (nar_i _) (Or.inr ⟨n, hp, rfl⟩) (by decide) (by decide)
set_option maxHeartbeats 2000000 in
theorem ctL_octet {x1 x2 x3 : Int32} (hM : aMetX l G base tA yX8_octet cX8_octet 4 none rmP1 [.ref a, .int x1, .int x2, .int x3] O A Po PoX) (hO : O a = some (9, fs)) (hB : ∀ v O' A', Po v O' A' → v = none) (hX : ∀ n O' A', PoX n O' A' → n = xN 2) : aMetW l G base tA yL_octet cL_octet 5 (some .int) hhL_octet rmWr [.ref a, .int x1, .int x2, .int x3] O A (fun r O' A' => (r = some (.int (nI 0)) ∧ Po none O' A') ∨ ∃ n, PoX n O' A' ∧ r = some (.int (nI 1))) := by
  refine aMetW_of (B := aLook bkL_octet) (by decide) (Nat.le_of_ble_eq_true rfl) boL_octet ?_
  intro E J hb
  refine hb.1.run (aCuts [7] J) 60 0 _ _ _ _ _ _ (aCuts_ok _) ?_
  simp only [↓wpi_isub, ↓wpi_lsub, ↓wpi_ineg, ↓wpi_lneg, ↓wpi_irem, ↓wpi_lrem, ↓wpi_iinc, wp1, wp, wpl, wpi, lget, lput1, lput2, ltail, lkill, aV, aVl, aNth, aPut, aFz, aC0, aC2, aSw, aCat1, aCuts, aSet_eq, List.take, List.drop, List.reverse_cons, List.reverse_nil, List.nil_append, List.cons_append, List.length_cons, List.length_nil, Option.toList, true_and, and_true, Nat.reduceAdd, Nat.reduceEqDiff, Nat.reduceLT, Nat.reduceLeDiff, Nat.zero_add, Nat.add_zero, if_true, if_false, ite_true, ite_false, reduceIte, reduceCtorEq, true_or, or_true, not_true_eq_false, not_false_eq_true, false_and, and_false, true_implies, false_implies, not_false_eq_true, bqL_octet_0, blL_octet_0, bqL_octet_7, blL_octet_7, bqL_octet_10, blL_octet_10, bqL_octet_14, blL_octet_14, aArgs, List.replicate]
  refine ⟨_, _, _, _, hb.2.1 lvL_15 hM rfl hO (by decide) (by decide) (by decide), ?_, ?_⟩
  · rintro v O1 A1 hp
    obtain rfl := hB _ _ _ hp
    refine hb.1.run (aCuts [7] J) 60 7 _ _ _ _ _ _ (aCuts_ok _) ?_
    simp only [↓wpi_isub, ↓wpi_lsub, ↓wpi_ineg, ↓wpi_lneg, ↓wpi_irem, ↓wpi_lrem, ↓wpi_iinc, wp1, wp, wpl, wpi, lget, lput1, lput2, ltail, lkill, aV, aVl, aNth, aPut, aFz, aC0, aC2, aSw, aCat1, aCuts, aSet_eq, List.take, List.drop, List.reverse_cons, List.reverse_nil, List.nil_append, List.cons_append, List.length_cons, List.length_nil, Option.toList, true_and, and_true, Nat.reduceAdd, Nat.reduceEqDiff, Nat.reduceLT, Nat.reduceLeDiff, Nat.zero_add, Nat.add_zero, if_true, if_false, ite_true, ite_false, reduceIte, reduceCtorEq, true_or, or_true, not_true_eq_false, not_false_eq_true, false_and, and_false, true_implies, false_implies, not_false_eq_true, bqL_octet_0, blL_octet_0, bqL_octet_7, blL_octet_7, bqL_octet_10, blL_octet_10, bqL_octet_14, blL_octet_14]
    exact hb.1.iret (nar_i _) (Or.inl ⟨rfl, hp⟩) (by decide) (by decide)
  · rintro n O1 A1 hp
    have e := hX _ _ _ hp
    refine hb.2.2 _ n 10 _ _ _ _ _ _ (by rw [e]; exact cthL_octet) (fun q => ?_)
    refine hb.1.run (aCuts [7] J) 60 10 _ _ _ _ _ _ (aCuts_ok _) ?_
    simp only [↓wpi_isub, ↓wpi_lsub, ↓wpi_ineg, ↓wpi_lneg, ↓wpi_irem, ↓wpi_lrem, ↓wpi_iinc, wp1, wp, wpl, wpi, lget, lput1, lput2, ltail, lkill, aV, aVl, aNth, aPut, aFz, aC0, aC2, aSw, aCat1, aCuts, aSet_eq, List.take, List.drop, List.reverse_cons, List.reverse_nil, List.nil_append, List.cons_append, List.length_cons, List.length_nil, Option.toList, true_and, and_true, Nat.reduceAdd, Nat.reduceEqDiff, Nat.reduceLT, Nat.reduceLeDiff, Nat.zero_add, Nat.add_zero, if_true, if_false, ite_true, ite_false, reduceIte, reduceCtorEq, true_or, or_true, not_true_eq_false, not_false_eq_true, false_and, and_false, true_implies, false_implies, not_false_eq_true, bqL_octet_0, blL_octet_0, bqL_octet_7, blL_octet_7, bqL_octet_10, blL_octet_10, bqL_octet_14, blL_octet_14]
    exact hb.1.iret (nar_i _) (Or.inr ⟨n, hp, rfl⟩) (by decide) (by decide)
end LWM
