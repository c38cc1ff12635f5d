/-! ===== the reference: reading bytes, numbers, the simple calls ===== -/
theorem mB_at {N : aN} {k i : Nat} (hi : i < 64) : mB N (64 * k + i) = (nI (N (6 + k) i)).toInt8.toInt32 := by
  unfold mB; rw [show (64 * k + i) / 64 = k by omega, show (64 * k + i) % 64 = i by omega]
theorem mB_up {N : aN} {k i b : Nat} (hi : i < 64) : upd (mB N) (64 * k + i) (nI b).toInt8.toInt32 = mB (nU N (6 + k) i b) := by
  funext j
  unfold upd
  by_cases e : j = 64 * k + i
  · rw [if_pos e, e, mB_at hi, nU_eq]
  · rw [if_neg e]; unfold mB; rw [nU_ne (by omega)]
theorem mB_255 {N : aN} {k i : Nat} (hi : i < 64) (hb : N (6 + k) i < 256) : mB N (64 * k + i) &&& nI 255 = nI (N (6 + k) i) := by
  rw [mB_at hi]
  exact bF_255 (g := N (6 + k)) hb
section MP
variable {l : Launch} {G : aG} {base tA : Nat} {Y ρ : Nat → Nat} {τ : Nat → Int32} {ex : Bool} {N : aN} {O0 O : aO} {A0 A : aA} {k i : Nat}
theorem mW.b8 (h : mW Y ρ τ ex N O0 A0 O A) (k i : Nat) : N (6 + k) i < 256 := (h.1.2.2.2 k i).1
theorem mW.bnd (h : mW Y ρ τ ex N O0 A0 O A) (hk : k < N 0 0) : N 1 k ≤ 11 ∧ 1 ≤ N 2 k ∧ N 2 k ≤ 31 ∧ N 3 k ≤ N 2 k ∧ N 4 k ≤ 7 ∧ N 5 k = szOf (N 1 k) (N 2 k) := h.1.2.1 k hk
theorem mW.szb (h : mW Y ρ τ ex N O0 A0 O A) (hk : k < N 0 0) : 1 ≤ N 5 k ∧ N 5 k ≤ 64 := by
  obtain ⟨h1, h2, h3, h4, h5, h6⟩ := h.bnd hk
  rw [h6]; exact ⟨szOf_lo h2, szOf_hi h3⟩
/-- a byte changed -/
theorem mW.byU (h : mW Y ρ τ ex N O0 A0 O A) {b : Nat} (hk : k < N 0 0) (hi : i < N 5 k) (hb : b < 256) : mW Y ρ τ ex (nU N (6 + k) i b) O0 A0 O (aSet A (Y 1) (1, 4096, .inl (upd (mB N) (64 * k + i) (nI b).toInt8.toInt32))) := by
  have e0 : ∀ r j, r < 6 → nU N (6 + k) i b r j = N r j := fun r j hr => nU_ne (by omega)
  have er : ∀ r, r < 6 → nU N (6 + k) i b r = N r := fun r hr => funext fun j => e0 r j hr
  have s2 := (h.szb hk).2
  have nA : ∀ {e : Nat × vp_A} j, j < 8 → j ≠ 1 → aSet A (Y 1) e (Y j) = A (Y j) := fun j hj h1 => aSet_ne (h.inj hj (by decide) h1)
  refine ⟨⟨?_, ?_, ?_, ?_⟩, h.2.1, ?_, ⟨?_, ?_, ?_, ?_, ?_, ?_⟩, ?_, fun z hz => ⟨(h.frm z hz).1, by rw [aSet_ne (hz 1 (by decide)).symm]; exact (h.frm z hz).2⟩⟩
  · rw [e0 0 0 (by decide)]; exact h.1.1
  · intro k' hk'
    rw [e0 0 0 (by decide)] at hk'
    rw [e0 1 k' (by decide), e0 2 k' (by decide), e0 3 k' (by decide), e0 4 k' (by decide), e0 5 k' (by decide)]; exact h.1.2.1 k' hk'
  · intro k' hk'
    rw [e0 0 0 (by decide)] at hk'
    rw [e0 1 k' (by decide), e0 2 k' (by decide), e0 3 k' (by decide), e0 4 k' (by decide), e0 5 k' (by decide)]; exact h.1.2.2.1 k' hk'
  · intro k' i'
    rw [e0 5 k' (by decide)]
    by_cases e : 6 + k' = 6 + k ∧ i' = i
    · obtain ⟨e1, e2⟩ := e
      have e1 : k' = k := by omega
      subst e1; subst e2
      rw [nU_eq]
      exact ⟨hb, fun h => by omega⟩
    · rw [nU_ne (by omega)]; exact h.1.2.2.2 k' i'
  · have := h.2.2.1
    unfold mF at this ⊢
    rw [e0 0 0 (by decide)]; exact this
  · rw [aSet_eq, mB_up (by omega)]
  · rw [nA 2 (by decide) (by decide), er 1 (by decide)]; exact h.usa
  · rw [nA 3 (by decide) (by decide), er 2 (by decide)]; exact h.dig
  · rw [nA 4 (by decide) (by decide), er 3 (by decide)]; exact h.sca
  · rw [nA 5 (by decide) (by decide), er 5 (by decide)]; exact h.siz
  · rw [nA 6 (by decide) (by decide), er 4 (by decide)]; exact h.kin
  · obtain ⟨g, hg, hr⟩ := h.row
    exact ⟨g, by rw [nA 7 (by decide) (by decide)]; exact hg, hr⟩
set_option maxHeartbeats 1000000 in
theorem m_read (h : mW Y ρ τ ex N O0 A0 O A) (hk : k < N 0 0) (hi : i < 64) : aMet l G base tA yX9_read cX9_read 3 (some .int) rmZ [.ref (Y 0), .int (nI k), .int (nI i)] O A (fun r O' A' => r = some (.int (nI (N (6 + k) i))) ∧ O' = O ∧ A' = A) := by
  refine aMet_of (ini := false) (B := aLook bkX9_read) (by decide) (fun h => by first | rfl | cases h) (Nat.le_of_ble_eq_true rfl) boX9_read ?_
  intro E J hb
  have hc := h.1.1
  have e2 : vp_in (nI (64 * k + i)) 4096 := vp_in_nI (by omega) (by decide)
  refine hb.run (aCuts [] J) 60 0 _ _ _ _ _ _ (aCuts_ok _) ?_
  simp only [↓wpi_isub, ↓wpi_lsub, ↓wpi_ineg, ↓wpi_lneg, ↓wpi_irem, ↓wpi_lrem, ↓wpi_iinc, wp1, wp, wpl, wpi, lget, lput1, lput2, ltail, lkill, aV, aVl, aNth, aPut, aFz, aC0, aC2, aSw, aCat1, aCuts, aSet_eq, List.take, List.drop, List.reverse_cons, List.reverse_nil, List.nil_append, List.cons_append, List.length_cons, List.length_nil, Option.toList, true_and, and_true, Nat.reduceAdd, Nat.reduceEqDiff, Nat.reduceLT, Nat.reduceLeDiff, Nat.zero_add, Nat.add_zero, if_true, if_false, ite_true, ite_false, reduceIte, reduceCtorEq, true_or, or_true, not_true_eq_false, not_false_eq_true, false_and, and_false, true_implies, false_implies, not_false_eq_true, bqX9_read_0, blX9_read_0, aArgs, List.replicate, h.obj, h.byt, pk_mul, nI_add, e2, nI_clamp (show 64 * k + i < 2 ^ 31 by omega), mB_255 hi (h.b8 k i)]
  exact hb.iret (nar_i _) ⟨rfl, rfl, rfl⟩ (by decide) (by decide)
set_option maxHeartbeats 1000000 in
theorem m_put (h : mW Y ρ τ ex N O0 A0 O A) (hk : k < N 0 0) (hi : i < N 5 k) {w : Nat} (hw : w < 2 ^ 32) : aMet l G base tA yX9_put cX9_put 4 none rmZ [.ref (Y 0), .int (nI k), .int (nI i), .int (nI w)] O A (fun r O' A' => r = none ∧ mW Y ρ τ ex (nU N (6 + k) i (w % 256)) O0 A0 O' A') := by
  refine aMet_of (ini := false) (B := aLook bkX9_put) (by decide) (fun h => by first | rfl | cases h) (Nat.le_of_ble_eq_true rfl) boX9_put ?_
  intro E J hb
  have hc := h.1.1
  have s2 := (h.szb hk).2
  have e2 : vp_in (nI (64 * k + i)) 4096 := vp_in_nI (by omega) (by decide)
  refine hb.run (aCuts [] J) 60 0 _ _ _ _ _ _ (aCuts_ok _) ?_
  simp only [↓wpi_isub, ↓wpi_lsub, ↓wpi_ineg, ↓wpi_lneg, ↓wpi_irem, ↓wpi_lrem, ↓wpi_iinc, wp1, wp, wpl, wpi, lget, lput1, lput2, ltail, lkill, aV, aVl, aNth, aPut, aFz, aC0, aC2, aSw, aCat1, aCuts, aSet_eq, List.take, List.drop, List.reverse_cons, List.reverse_nil, List.nil_append, List.cons_append, List.length_cons, List.length_nil, Option.toList, true_and, and_true, Nat.reduceAdd, Nat.reduceEqDiff, Nat.reduceLT, Nat.reduceLeDiff, Nat.zero_add, Nat.add_zero, if_true, if_false, ite_true, ite_false, reduceIte, reduceCtorEq, true_or, or_true, not_true_eq_false, not_false_eq_true, false_and, and_false, true_implies, false_implies, not_false_eq_true, bqX9_put_0, blX9_put_0, aArgs, List.replicate, h.obj, h.byt, pk_mul, nI_add, e2, nI_clamp (show 64 * k + i < 2 ^ 31 by omega), nar_by, by_by]
  refine hb.vret ⟨rfl, ?_⟩ (by decide) (by decide)
  have := h.byU hk hi (Nat.mod_lt w (by decide : 256 > 0))
  rw [by_mod hw] at this
  exact this
set_option maxHeartbeats 1000000 in
theorem ct_X9_signOf {x : Nat} (hx : x < 16) : aMet l G base tA yX9_signOf cX9_signOf 1 (some .int) rmZ [.int (nI x)] O A (fun r O' A' => r = some (.int (sgI (sgNib x))) ∧ O' = O ∧ A' = A) := by
  refine aMet_of (ini := false) (B := aLook bkX9_signOf) (by decide) (fun h => by first | rfl | cases h) (Nat.le_of_ble_eq_true rfl) boX9_signOf ?_
  intro E J hb
  refine hb.run (aCuts [] J) 60 0 _ _ _ _ _ _ (aCuts_ok _) ?_
  simp only [↓wpi_isub, ↓wpi_lsub, ↓wpi_ineg, ↓wpi_lneg, ↓wpi_irem, ↓wpi_lrem, ↓wpi_iinc, wp1, wp, wpl, wpi, lget, lput1, lput2, ltail, lkill, aV, aVl, aNth, aPut, aFz, aC0, aC2, aSw, aCat1, aCuts, aSet_eq, List.take, List.drop, List.reverse_cons, List.reverse_nil, List.nil_append, List.cons_append, List.length_cons, List.length_nil, Option.toList, true_and, and_true, Nat.reduceAdd, Nat.reduceEqDiff, Nat.reduceLT, Nat.reduceLeDiff, Nat.zero_add, Nat.add_zero, if_true, if_false, ite_true, ite_false, reduceIte, reduceCtorEq, true_or, or_true, not_true_eq_false, not_false_eq_true, false_and, and_false, true_implies, false_implies, not_false_eq_true, bqX9_signOf_0, blX9_signOf_0, bqX9_signOf_6, blX9_signOf_6, bqX9_signOf_12, blX9_signOf_12, bqX9_signOf_18, blX9_signOf_18, bqX9_signOf_22, blX9_signOf_22, bqX9_signOf_28, blX9_signOf_28, bqX9_signOf_34, blX9_signOf_34, bqX9_signOf_38, blX9_signOf_38, bqX9_signOf_39, blX9_signOf_39, aArgs, List.replicate, nI_leP (show x < 2 ^ 31 by omega) (show 13 < 2 ^ 31 by decide), nI_c (show x < 2 ^ 31 by omega) (show 10 < 2 ^ 31 by decide), nI_c (show x < 2 ^ 31 by omega) (show 12 < 2 ^ 31 by decide), nI_c (show x < 2 ^ 31 by omega) (show 11 < 2 ^ 31 by decide), nI_c (show x < 2 ^ 31 by omega) (show 13 < 2 ^ 31 by decide)]
  have e : sgNib x = if x < 10 then 0 else if x = 11 ∨ x = 13 then 2 else 1 := rfl
  repeat' (apply And.intro <;> intro h)
  all_goals first | exact hb.iret (nar_i _) ⟨by rw [e, if_pos (by omega)]; rfl, rfl, rfl⟩ (by decide) (by decide) | exact hb.iret (nar_i _) ⟨by rw [e, if_neg (by omega), if_pos (by omega)]; rfl, rfl, rfl⟩ (by decide) (by decide) | exact hb.iret (nar_i _) ⟨by rw [e, if_neg (by omega), if_neg (by omega)]; rfl, rfl, rfl⟩ (by decide) (by decide)
theorem p40_16 {v : Nat} (h : v < 10 ^ 40) : v * 10 + 15 < 65536 ^ 80 := Nat.lt_of_lt_of_le (show v * 10 + 15 < 10 ^ 40 * 10 + 15 by omega) (by decide +kernel)
set_option maxHeartbeats 1000000 in
theorem m_gains (h : mW Y ρ τ ex N O0 A0 O A) {x : Nat} (hx : x < 16) (hB : ρ 0 < 10 ^ 40) : aMet l G base tA yX9_gains cX9_gains 2 (some .boolean) rmM1 [.ref (Y 0), .int (nI x)] O A (fun r O' A' => r = some (.int (bI (decide (x ≤ 9)))) ∧ mW Y (rU ρ 0 (ρ 0 * 10 + (if x ≤ 9 then x else 0))) τ ex N O0 A0 O' A') := by
  refine aMet_of (ini := false) (B := aLook bkX9_gains) (by decide) (fun h => by first | rfl | cases h) (Nat.le_of_ble_eq_true rfl) boX9_gains ?_
  intro E J hb
  have hp := p40_16 hB
  refine hb.run (aCuts [7, 23] J) 60 0 _ _ _ _ _ _ (aCuts_ok _) ?_
  simp only [↓wpi_isub, ↓wpi_lsub, ↓wpi_ineg, ↓wpi_lneg, ↓wpi_irem, ↓wpi_lrem, ↓wpi_iinc, wp1, wp, wpl, wpi, lget, lput1, lput2, ltail, lkill, aV, aVl, aNth, aPut, aFz, aC0, aC2, aSw, aCat1, aCuts, aSet_eq, List.take, List.drop, List.reverse_cons, List.reverse_nil, List.nil_append, List.cons_append, List.length_cons, List.length_nil, Option.toList, true_and, and_true, Nat.reduceAdd, Nat.reduceEqDiff, Nat.reduceLT, Nat.reduceLeDiff, Nat.zero_add, Nat.add_zero, if_true, if_false, ite_true, ite_false, reduceIte, reduceCtorEq, true_or, or_true, not_true_eq_false, not_false_eq_true, false_and, and_false, true_implies, false_implies, not_false_eq_true, bqX9_gains_0, blX9_gains_0, bqX9_gains_7, blX9_gains_7, bqX9_gains_15, blX9_gains_15, bqX9_gains_19, blX9_gains_19, bqX9_gains_20, blX9_gains_20, bqX9_gains_23, blX9_gains_23, bqX9_gains_29, blX9_gains_29, bqX9_gains_33, blX9_gains_33, bqX9_gains_34, blX9_gains_34, aArgs, List.replicate]
  refine ⟨_, _, _, _, hb.callV lvX9_43 (m_times h (x := 0) (f := 10) (by decide) (by decide) (by omega)) rfl h.obj (by decide) (by decide) (by decide), ?_, fun _ _ _ h => h.elim⟩
  rintro _ O1 A1 ⟨rfl, h1⟩
  have e1 := nI_leP (show 10 < 2 ^ 31 by decide) (show x < 2 ^ 31 by omega)
  refine hb.run (aCuts [7, 23] J) 60 7 _ _ _ _ _ _ (aCuts_ok _) ?_
  by_cases h9 : x ≤ 9
  · have e2 : (10 ≤ x) = False := by simp; omega
    simp only [↓wpi_isub, ↓wpi_lsub, ↓wpi_ineg, ↓wpi_lneg, ↓wpi_irem, ↓wpi_lrem, ↓wpi_iinc, wp1, wp, wpl, wpi, lget, lput1, lput2, ltail, lkill, aV, aVl, aNth, aPut, aFz, aC0, aC2, aSw, aCat1, aCuts, aSet_eq, List.take, List.drop, List.reverse_cons, List.reverse_nil, List.nil_append, List.cons_append, List.length_cons, List.length_nil, Option.toList, true_and, and_true, Nat.reduceAdd, Nat.reduceEqDiff, Nat.reduceLT, Nat.reduceLeDiff, Nat.zero_add, Nat.add_zero, if_true, if_false, ite_true, ite_false, reduceIte, reduceCtorEq, true_or, or_true, not_true_eq_false, not_false_eq_true, false_and, and_false, true_implies, false_implies, not_false_eq_true, bqX9_gains_0, blX9_gains_0, bqX9_gains_7, blX9_gains_7, bqX9_gains_15, blX9_gains_15, bqX9_gains_19, blX9_gains_19, bqX9_gains_20, blX9_gains_20, bqX9_gains_23, blX9_gains_23, bqX9_gains_29, blX9_gains_29, bqX9_gains_33, blX9_gains_33, bqX9_gains_34, blX9_gains_34, e1, e2]
    refine ⟨_, _, _, _, hb.callV lvX9_82 (m_plus h1 (x := 0) (f := x) (by decide) (by omega) (by rw [rU_eq]; omega)) rfl h1.obj (by decide) (by decide) (by decide), ?_, fun _ _ _ h => h.elim⟩
    rintro _ O2 A2 ⟨rfl, h2⟩
    rw [rU_rU, rU_eq] at h2
    refine hb.run (aCuts [7, 23] J) 60 23 _ _ _ _ _ _ (aCuts_ok _) ?_
    simp only [↓wpi_isub, ↓wpi_lsub, ↓wpi_ineg, ↓wpi_lneg, ↓wpi_irem, ↓wpi_lrem, ↓wpi_iinc, wp1, wp, wpl, wpi, lget, lput1, lput2, ltail, lkill, aV, aVl, aNth, aPut, aFz, aC0, aC2, aSw, aCat1, aCuts, aSet_eq, List.take, List.drop, List.reverse_cons, List.reverse_nil, List.nil_append, List.cons_append, List.length_cons, List.length_nil, Option.toList, true_and, and_true, Nat.reduceAdd, Nat.reduceEqDiff, Nat.reduceLT, Nat.reduceLeDiff, Nat.zero_add, Nat.add_zero, if_true, if_false, ite_true, ite_false, reduceIte, reduceCtorEq, true_or, or_true, not_true_eq_false, not_false_eq_true, false_and, and_false, true_implies, false_implies, not_false_eq_true, bqX9_gains_0, blX9_gains_0, bqX9_gains_7, blX9_gains_7, bqX9_gains_15, blX9_gains_15, bqX9_gains_19, blX9_gains_19, bqX9_gains_20, blX9_gains_20, bqX9_gains_23, blX9_gains_23, bqX9_gains_29, blX9_gains_29, bqX9_gains_33, blX9_gains_33, bqX9_gains_34, blX9_gains_34, e1, e2]
    exact hb.iret nar_b1 ⟨rB1 h9, by rw [if_pos h9]; exact h2⟩ (by decide) (by decide)
  · have e2 : (10 ≤ x) = True := by simp; omega
    simp only [↓wpi_isub, ↓wpi_lsub, ↓wpi_ineg, ↓wpi_lneg, ↓wpi_irem, ↓wpi_lrem, ↓wpi_iinc, wp1, wp, wpl, wpi, lget, lput1, lput2, ltail, lkill, aV, aVl, aNth, aPut, aFz, aC0, aC2, aSw, aCat1, aCuts, aSet_eq, List.take, List.drop, List.reverse_cons, List.reverse_nil, List.nil_append, List.cons_append, List.length_cons, List.length_nil, Option.toList, true_and, and_true, Nat.reduceAdd, Nat.reduceEqDiff, Nat.reduceLT, Nat.reduceLeDiff, Nat.zero_add, Nat.add_zero, if_true, if_false, ite_true, ite_false, reduceIte, reduceCtorEq, true_or, or_true, not_true_eq_false, not_false_eq_true, false_and, and_false, true_implies, false_implies, not_false_eq_true, bqX9_gains_0, blX9_gains_0, bqX9_gains_7, blX9_gains_7, bqX9_gains_15, blX9_gains_15, bqX9_gains_19, blX9_gains_19, bqX9_gains_20, blX9_gains_20, bqX9_gains_23, blX9_gains_23, bqX9_gains_29, blX9_gains_29, bqX9_gains_33, blX9_gains_33, bqX9_gains_34, blX9_gains_34, e1, e2]
    refine ⟨_, _, _, _, hb.callV lvX9_82 (m_plus h1 (x := 0) (f := 0) (by decide) (by decide) (by rw [rU_eq]; omega)) rfl h1.obj (by decide) (by decide) (by decide), ?_, fun _ _ _ h => h.elim⟩
    rintro _ O2 A2 ⟨rfl, h2⟩
    rw [rU_rU, rU_eq] at h2
    refine hb.run (aCuts [7, 23] J) 60 23 _ _ _ _ _ _ (aCuts_ok _) ?_
    simp only [↓wpi_isub, ↓wpi_lsub, ↓wpi_ineg, ↓wpi_lneg, ↓wpi_irem, ↓wpi_lrem, ↓wpi_iinc, wp1, wp, wpl, wpi, lget, lput1, lput2, ltail, lkill, aV, aVl, aNth, aPut, aFz, aC0, aC2, aSw, aCat1, aCuts, aSet_eq, List.take, List.drop, List.reverse_cons, List.reverse_nil, List.nil_append, List.cons_append, List.length_cons, List.length_nil, Option.toList, true_and, and_true, Nat.reduceAdd, Nat.reduceEqDiff, Nat.reduceLT, Nat.reduceLeDiff, Nat.zero_add, Nat.add_zero, if_true, if_false, ite_true, ite_false, reduceIte, reduceCtorEq, true_or, or_true, not_true_eq_false, not_false_eq_true, false_and, and_false, true_implies, false_implies, not_false_eq_true, bqX9_gains_0, blX9_gains_0, bqX9_gains_7, blX9_gains_7, bqX9_gains_15, blX9_gains_15, bqX9_gains_19, blX9_gains_19, bqX9_gains_20, blX9_gains_20, bqX9_gains_23, blX9_gains_23, bqX9_gains_29, blX9_gains_29, bqX9_gains_33, blX9_gains_33, bqX9_gains_34, blX9_gains_34, e1, e2]
    exact hb.iret nar_b0 ⟨rB0 h9, by rw [if_neg h9]; exact h2⟩ (by decide) (by decide)
set_option maxHeartbeats 1000000 in
theorem m_isNumber (h : mW Y ρ τ ex N O0 A0 O A) {x : Int32} : aMet l G base tA yX9_isNumber cX9_isNumber 2 (some .boolean) rmZ [.ref (Y 0), .int x] O A (fun r O' A' => (∃ v, r = some (.int (bI v)) ∧ (v = true ↔ isN N x)) ∧ O' = O ∧ A' = A) := by
  refine aMet_of (ini := false) (B := aLook bkX9_isNumber) (by decide) (fun h => by first | rfl | cases h) (Nat.le_of_ble_eq_true rfl) boX9_isNumber ?_
  intro E J hb
  have hc := h.1.1
  refine hb.run (aCuts [] J) 60 0 _ _ _ _ _ _ (aCuts_ok _) ?_
  rcases pk_ixP N h.1 x with ⟨hn, k, hk, rfl⟩ | ⟨hn, h0 | ⟨h0, h1⟩⟩
  · have e1 : (nI (N 0 0) ≤ nI k) = False := by rw [nI_leP (by omega) (by omega)]; simp; omega
    simp only [↓wpi_isub, ↓wpi_lsub, ↓wpi_ineg, ↓wpi_lneg, ↓wpi_irem, ↓wpi_lrem, ↓wpi_iinc, wp1, wp, wpl, wpi, lget, lput1, lput2, ltail, lkill, aV, aVl, aNth, aPut, aFz, aC0, aC2, aSw, aCat1, aCuts, aSet_eq, List.take, List.drop, List.reverse_cons, List.reverse_nil, List.nil_append, List.cons_append, List.length_cons, List.length_nil, Option.toList, true_and, and_true, Nat.reduceAdd, Nat.reduceEqDiff, Nat.reduceLT, Nat.reduceLeDiff, Nat.zero_add, Nat.add_zero, if_true, if_false, ite_true, ite_false, reduceIte, reduceCtorEq, true_or, or_true, not_true_eq_false, not_false_eq_true, false_and, and_false, true_implies, false_implies, not_false_eq_true, bqX9_isNumber_0, blX9_isNumber_0, bqX9_isNumber_4, blX9_isNumber_4, bqX9_isNumber_12, blX9_isNumber_12, bqX9_isNumber_16, blX9_isNumber_16, bqX9_isNumber_17, blX9_isNumber_17, aArgs, List.replicate, nI_lt0 (show k < 2 ^ 31 by omega), h.obj, e1]
    exact hb.iret nar_b1 ⟨⟨true, rfl, fun _ => hn, fun _ => rfl⟩, rfl, rfl⟩ (by decide) (by decide)
  · have e0 : (x < 0) = True := by simp [h0]
    simp only [↓wpi_isub, ↓wpi_lsub, ↓wpi_ineg, ↓wpi_lneg, ↓wpi_irem, ↓wpi_lrem, ↓wpi_iinc, wp1, wp, wpl, wpi, lget, lput1, lput2, ltail, lkill, aV, aVl, aNth, aPut, aFz, aC0, aC2, aSw, aCat1, aCuts, aSet_eq, List.take, List.drop, List.reverse_cons, List.reverse_nil, List.nil_append, List.cons_append, List.length_cons, List.length_nil, Option.toList, true_and, and_true, Nat.reduceAdd, Nat.reduceEqDiff, Nat.reduceLT, Nat.reduceLeDiff, Nat.zero_add, Nat.add_zero, if_true, if_false, ite_true, ite_false, reduceIte, reduceCtorEq, true_or, or_true, not_true_eq_false, not_false_eq_true, false_and, and_false, true_implies, false_implies, not_false_eq_true, bqX9_isNumber_0, blX9_isNumber_0, bqX9_isNumber_4, blX9_isNumber_4, bqX9_isNumber_12, blX9_isNumber_12, bqX9_isNumber_16, blX9_isNumber_16, bqX9_isNumber_17, blX9_isNumber_17, aArgs, List.replicate, e0]
    exact hb.iret nar_b0 ⟨⟨false, rfl, fun q => Bool.noConfusion q, fun q => absurd q hn⟩, rfl, rfl⟩ (by decide) (by decide)
  · have e0 : (x < 0) = False := by simp [h0]
    have e1 : (nI (N 0 0) ≤ x) = True := by simp [h1]
    simp only [↓wpi_isub, ↓wpi_lsub, ↓wpi_ineg, ↓wpi_lneg, ↓wpi_irem, ↓wpi_lrem, ↓wpi_iinc, wp1, wp, wpl, wpi, lget, lput1, lput2, ltail, lkill, aV, aVl, aNth, aPut, aFz, aC0, aC2, aSw, aCat1, aCuts, aSet_eq, List.take, List.drop, List.reverse_cons, List.reverse_nil, List.nil_append, List.cons_append, List.length_cons, List.length_nil, Option.toList, true_and, and_true, Nat.reduceAdd, Nat.reduceEqDiff, Nat.reduceLT, Nat.reduceLeDiff, Nat.zero_add, Nat.add_zero, if_true, if_false, ite_true, ite_false, reduceIte, reduceCtorEq, true_or, or_true, not_true_eq_false, not_false_eq_true, false_and, and_false, true_implies, false_implies, not_false_eq_true, bqX9_isNumber_0, blX9_isNumber_0, bqX9_isNumber_4, blX9_isNumber_4, bqX9_isNumber_12, blX9_isNumber_12, bqX9_isNumber_16, blX9_isNumber_16, bqX9_isNumber_17, blX9_isNumber_17, aArgs, List.replicate, e0, h.obj, e1]
    exact hb.iret nar_b0 ⟨⟨false, rfl, fun q => Bool.noConfusion q, fun q => absurd q hn⟩, rfl, rfl⟩ (by decide) (by decide)
set_option maxHeartbeats 2000000 in
theorem m_isByte (h : mW Y ρ τ ex N O0 A0 O A) {x y : Int32} : aMet l G base tA yX9_isByte cX9_isByte 3 (some .boolean) rmM1 [.ref (Y 0), .int x, .int y] O A (fun r O' A' => (∃ v, r = some (.int (bI v)) ∧ (v = true ↔ isB N x y)) ∧ O' = O ∧ A' = A) := by
  refine aMet_of (ini := false) (B := aLook bkX9_isByte) (by decide) (fun h => by first | rfl | cases h) (Nat.le_of_ble_eq_true rfl) boX9_isByte ?_
  intro E J hb
  have hc := h.1.1
  refine hb.run (aCuts [5] J) 60 0 _ _ _ _ _ _ (aCuts_ok _) ?_
  simp only [↓wpi_isub, ↓wpi_lsub, ↓wpi_ineg, ↓wpi_lneg, ↓wpi_irem, ↓wpi_lrem, ↓wpi_iinc, wp1, wp, wpl, wpi, lget, lput1, lput2, ltail, lkill, aV, aVl, aNth, aPut, aFz, aC0, aC2, aSw, aCat1, aCuts, aSet_eq, List.take, List.drop, List.reverse_cons, List.reverse_nil, List.nil_append, List.cons_append, List.length_cons, List.length_nil, Option.toList, true_and, and_true, Nat.reduceAdd, Nat.reduceEqDiff, Nat.reduceLT, Nat.reduceLeDiff, Nat.zero_add, Nat.add_zero, if_true, if_false, ite_true, ite_false, reduceIte, reduceCtorEq, true_or, or_true, not_true_eq_false, not_false_eq_true, false_and, and_false, true_implies, false_implies, not_false_eq_true, bqX9_isByte_0, blX9_isByte_0, bqX9_isByte_5, blX9_isByte_5, bqX9_isByte_8, blX9_isByte_8, bqX9_isByte_12, blX9_isByte_12, bqX9_isByte_22, blX9_isByte_22, bqX9_isByte_26, blX9_isByte_26, bqX9_isByte_27, blX9_isByte_27, aArgs, List.replicate]
  refine ⟨_, _, _, _, hb.callV lvX9_74 (m_isNumber h) rfl h.obj (by decide) (by decide) (by decide), ?_, fun _ _ _ h => h.elim⟩
  rintro _ O A ⟨⟨v, rfl, hv⟩, rfl, rfl⟩
  have bad : ¬ isB N x y → (∃ ty, eRt E = some ty ∧ narrow ty (.int (nI 0)) = .int (nI 0)) ∧ eRet E (some (.int (nI 0))) O A 0 0 := fun hn => hb.iret nar_b0 ⟨⟨false, rfl, fun q => Bool.noConfusion q, fun q => absurd q hn⟩, rfl, rfl⟩ (by decide) (by decide)
  refine hb.run (aCuts [5] J) 60 5 _ _ _ _ _ _ (aCuts_ok _) ?_
  cases v with
  | false =>
    simp only [↓wpi_isub, ↓wpi_lsub, ↓wpi_ineg, ↓wpi_lneg, ↓wpi_irem, ↓wpi_lrem, ↓wpi_iinc, wp1, wp, wpl, wpi, lget, lput1, lput2, ltail, lkill, aV, aVl, aNth, aPut, aFz, aC0, aC2, aSw, aCat1, aCuts, aSet_eq, List.take, List.drop, List.reverse_cons, List.reverse_nil, List.nil_append, List.cons_append, List.length_cons, List.length_nil, Option.toList, true_and, and_true, Nat.reduceAdd, Nat.reduceEqDiff, Nat.reduceLT, Nat.reduceLeDiff, Nat.zero_add, Nat.add_zero, if_true, if_false, ite_true, ite_false, reduceIte, reduceCtorEq, true_or, or_true, not_true_eq_false, not_false_eq_true, false_and, and_false, true_implies, false_implies, not_false_eq_true, bqX9_isByte_0, blX9_isByte_0, bqX9_isByte_5, blX9_isByte_5, bqX9_isByte_8, blX9_isByte_8, bqX9_isByte_12, blX9_isByte_12, bqX9_isByte_22, blX9_isByte_22, bqX9_isByte_26, blX9_isByte_26, bqX9_isByte_27, blX9_isByte_27, bI_f, n0_0]
    exact bad fun ⟨k, i, q1, _, q3, _⟩ => Bool.noConfusion (hv.mpr ⟨k, q1, q3⟩)
  | true =>
    obtain ⟨k, hk, rfl⟩ := hv.mp rfl
    obtain ⟨s1, s2⟩ := h.szb hk
    have e3 : vp_in (nI k) 64 := vp_in_nI (by omega) (by decide)
    by_cases h00 : y < 0
    · have e0 : (y < 0) = True := by simp [h00]
      simp only [↓wpi_isub, ↓wpi_lsub, ↓wpi_ineg, ↓wpi_lneg, ↓wpi_irem, ↓wpi_lrem, ↓wpi_iinc, wp1, wp, wpl, wpi, lget, lput1, lput2, ltail, lkill, aV, aVl, aNth, aPut, aFz, aC0, aC2, aSw, aCat1, aCuts, aSet_eq, List.take, List.drop, List.reverse_cons, List.reverse_nil, List.nil_append, List.cons_append, List.length_cons, List.length_nil, Option.toList, true_and, and_true, Nat.reduceAdd, Nat.reduceEqDiff, Nat.reduceLT, Nat.reduceLeDiff, Nat.zero_add, Nat.add_zero, if_true, if_false, ite_true, ite_false, reduceIte, reduceCtorEq, true_or, or_true, not_true_eq_false, not_false_eq_true, false_and, and_false, true_implies, false_implies, not_false_eq_true, bqX9_isByte_0, blX9_isByte_0, bqX9_isByte_5, blX9_isByte_5, bqX9_isByte_8, blX9_isByte_8, bqX9_isByte_12, blX9_isByte_12, bqX9_isByte_22, blX9_isByte_22, bqX9_isByte_26, blX9_isByte_26, bqX9_isByte_27, blX9_isByte_27, bI_t, n1_0, e0]
      refine bad ?_
      rintro ⟨k', i, q1, q2, q3, q4⟩
      have : k' < 64 := by omega
      have := (h.szb q1).2
      rw [q4] at h00; exact nI_pos (by omega) h00
    · obtain ⟨j, hj, rfl⟩ := nI_of h00
      by_cases hjs : j < N 5 k
      · have e1 : (nI (N 5 k) ≤ nI j) = False := by rw [nI_leP (by omega) hj]; simp; omega
        simp only [↓wpi_isub, ↓wpi_lsub, ↓wpi_ineg, ↓wpi_lneg, ↓wpi_irem, ↓wpi_lrem, ↓wpi_iinc, wp1, wp, wpl, wpi, lget, lput1, lput2, ltail, lkill, aV, aVl, aNth, aPut, aFz, aC0, aC2, aSw, aCat1, aCuts, aSet_eq, List.take, List.drop, List.reverse_cons, List.reverse_nil, List.nil_append, List.cons_append, List.length_cons, List.length_nil, Option.toList, true_and, and_true, Nat.reduceAdd, Nat.reduceEqDiff, Nat.reduceLT, Nat.reduceLeDiff, Nat.zero_add, Nat.add_zero, if_true, if_false, ite_true, ite_false, reduceIte, reduceCtorEq, true_or, or_true, not_true_eq_false, not_false_eq_true, false_and, and_false, true_implies, false_implies, not_false_eq_true, bqX9_isByte_0, blX9_isByte_0, bqX9_isByte_5, blX9_isByte_5, bqX9_isByte_8, blX9_isByte_8, bqX9_isByte_12, blX9_isByte_12, bqX9_isByte_22, blX9_isByte_22, bqX9_isByte_26, blX9_isByte_26, bqX9_isByte_27, blX9_isByte_27, bI_t, n1_0, nI_lt0 hj, h.obj, h.siz, e3, nI_clamp (show k < 2 ^ 31 by omega), nF_at, e1]
        exact hb.iret nar_b1 ⟨⟨true, rfl, fun _ => ⟨k, j, hk, hjs, rfl, rfl⟩, fun _ => rfl⟩, rfl, rfl⟩ (by decide) (by decide)
      · have e1 : (nI (N 5 k) ≤ nI j) = True := by rw [nI_leP (by omega) hj]; simp; omega
        simp only [↓wpi_isub, ↓wpi_lsub, ↓wpi_ineg, ↓wpi_lneg, ↓wpi_irem, ↓wpi_lrem, ↓wpi_iinc, wp1, wp, wpl, wpi, lget, lput1, lput2, ltail, lkill, aV, aVl, aNth, aPut, aFz, aC0, aC2, aSw, aCat1, aCuts, aSet_eq, List.take, List.drop, List.reverse_cons, List.reverse_nil, List.nil_append, List.cons_append, List.length_cons, List.length_nil, Option.toList, true_and, and_true, Nat.reduceAdd, Nat.reduceEqDiff, Nat.reduceLT, Nat.reduceLeDiff, Nat.zero_add, Nat.add_zero, if_true, if_false, ite_true, ite_false, reduceIte, reduceCtorEq, true_or, or_true, not_true_eq_false, not_false_eq_true, false_and, and_false, true_implies, false_implies, not_false_eq_true, bqX9_isByte_0, blX9_isByte_0, bqX9_isByte_5, blX9_isByte_5, bqX9_isByte_8, blX9_isByte_8, bqX9_isByte_12, blX9_isByte_12, bqX9_isByte_22, blX9_isByte_22, bqX9_isByte_26, blX9_isByte_26, bqX9_isByte_27, blX9_isByte_27, bI_t, n1_0, nI_lt0 hj, h.obj, h.siz, e3, nI_clamp (show k < 2 ^ 31 by omega), nF_at, e1]
        refine bad ?_
        rintro ⟨k', i, q1, q2, q3, q4⟩
        have : k' < 64 := by omega
        have s3 := (h.szb q1).2
        have h1 := (nI_eq (by omega) (by omega)).mp q3
        have h2 := (nI_eq hj (by omega)).mp q4
        subst h1; omega
set_option maxHeartbeats 1000000 in
theorem m_fails (h : mW Y ρ τ ex N O0 A0 O A) {b : Bool} : aMet l G base tA yX9_fails cX9_fails 3 (some .boolean) rmZ [.ref (Y 0), .int (bI b), .int (nI 0)] O A (fun r O' A' => r = some (.int (bI b)) ∧ mW Y ρ (tU τ 0 (bI b)) ex N O0 A0 O' A') := by
  refine aMet_of (ini := false) (B := aLook bkX9_fails) (by decide) (fun h => by first | rfl | cases h) (Nat.le_of_ble_eq_true rfl) boX9_fails ?_
  intro E J hb
  refine hb.run (aCuts [] J) 60 0 _ _ _ _ _ _ (aCuts_ok _) ?_
  have e1 : (nI 1 ≤ 0) = False := by simp only [eq_iff_iff, iff_false]; decide +kernel
  have e0 : (nI 0 ≤ 0) = True := by simp only [eq_iff_iff, iff_true]; decide +kernel
  cases b
  · simp only [↓wpi_isub, ↓wpi_lsub, ↓wpi_ineg, ↓wpi_lneg, ↓wpi_irem, ↓wpi_lrem, ↓wpi_iinc, wp1, wp, wpl, wpi, lget, lput1, lput2, ltail, lkill, aV, aVl, aNth, aPut, aFz, aC0, aC2, aSw, aCat1, aCuts, aSet_eq, List.take, List.drop, List.reverse_cons, List.reverse_nil, List.nil_append, List.cons_append, List.length_cons, List.length_nil, Option.toList, true_and, and_true, Nat.reduceAdd, Nat.reduceEqDiff, Nat.reduceLT, Nat.reduceLeDiff, Nat.zero_add, Nat.add_zero, if_true, if_false, ite_true, ite_false, reduceIte, reduceCtorEq, true_or, or_true, not_true_eq_false, not_false_eq_true, false_and, and_false, true_implies, false_implies, not_false_eq_true, bqX9_fails_0, blX9_fails_0, bqX9_fails_5, blX9_fails_5, bqX9_fails_9, blX9_fails_9, bqX9_fails_13, blX9_fails_13, bqX9_fails_17, blX9_fails_17, bqX9_fails_18, blX9_fails_18, bqX9_fails_28, blX9_fails_28, bqX9_fails_32, blX9_fails_32, bqX9_fails_33, blX9_fails_33, aArgs, List.replicate, bI_f, n0_0, h.obj, e0]
    exact hb.iret nar_b0 ⟨rfl, h.fld (tU τ 0 (nI 0)) ex⟩ (by decide) (by decide)
  · simp only [↓wpi_isub, ↓wpi_lsub, ↓wpi_ineg, ↓wpi_lneg, ↓wpi_irem, ↓wpi_lrem, ↓wpi_iinc, wp1, wp, wpl, wpi, lget, lput1, lput2, ltail, lkill, aV, aVl, aNth, aPut, aFz, aC0, aC2, aSw, aCat1, aCuts, aSet_eq, List.take, List.drop, List.reverse_cons, List.reverse_nil, List.nil_append, List.cons_append, List.length_cons, List.length_nil, Option.toList, true_and, and_true, Nat.reduceAdd, Nat.reduceEqDiff, Nat.reduceLT, Nat.reduceLeDiff, Nat.zero_add, Nat.add_zero, if_true, if_false, ite_true, ite_false, reduceIte, reduceCtorEq, true_or, or_true, not_true_eq_false, not_false_eq_true, false_and, and_false, true_implies, false_implies, not_false_eq_true, bqX9_fails_0, blX9_fails_0, bqX9_fails_5, blX9_fails_5, bqX9_fails_9, blX9_fails_9, bqX9_fails_13, blX9_fails_13, bqX9_fails_17, blX9_fails_17, bqX9_fails_18, blX9_fails_18, bqX9_fails_28, blX9_fails_28, bqX9_fails_32, blX9_fails_32, bqX9_fails_33, blX9_fails_33, aArgs, List.replicate, bI_t, n1_0, h.obj, e1]
    exact hb.iret nar_b1 ⟨rfl, h.fld (tU τ 0 (nI 1)) ex⟩ (by decide) (by decide)
set_option maxHeartbeats 1000000 in
theorem m_thrown (h : mW Y ρ τ ex N O0 A0 O A) : aMet l G base tA yX9_thrown cX9_thrown 1 (some .int) rmZ [.ref (Y 0)] O A (fun r O' A' => r = some (.int (τ 0)) ∧ O' = O ∧ A' = A) := by
  refine aMet_of (ini := false) (B := aLook bkX9_thrown) (by decide) (fun h => by first | rfl | cases h) (Nat.le_of_ble_eq_true rfl) boX9_thrown ?_
  intro E J hb
  refine hb.run (aCuts [] J) 60 0 _ _ _ _ _ _ (aCuts_ok _) ?_
  simp only [↓wpi_isub, ↓wpi_lsub, ↓wpi_ineg, ↓wpi_lneg, ↓wpi_irem, ↓wpi_lrem, ↓wpi_iinc, wp1, wp, wpl, wpi, lget, lput1, lput2, ltail, lkill, aV, aVl, aNth, aPut, aFz, aC0, aC2, aSw, aCat1, aCuts, aSet_eq, List.take, List.drop, List.reverse_cons, List.reverse_nil, List.nil_append, List.cons_append, List.length_cons, List.length_nil, Option.toList, true_and, and_true, Nat.reduceAdd, Nat.reduceEqDiff, Nat.reduceLT, Nat.reduceLeDiff, Nat.zero_add, Nat.add_zero, if_true, if_false, ite_true, ite_false, reduceIte, reduceCtorEq, true_or, or_true, not_true_eq_false, not_false_eq_true, false_and, and_false, true_implies, false_implies, not_false_eq_true, bqX9_thrown_0, blX9_thrown_0, aArgs, List.replicate, h.obj]
  exact hb.iret (nar_i _) ⟨rfl, rfl, rfl⟩ (by decide) (by decide)
end MP
