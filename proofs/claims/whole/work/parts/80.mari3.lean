/-! ===== the reference: exactly, whole, fromLong ===== -/
theorem lN_or16 {m c : Nat} (hm : m < 65536 ^ 3) (hc : c < 65536) : lN (m * 65536) ||| lN c = lN (m * 65536 + c) := by
  rw [Int64.or_comm, g_or' (k := 16) (p := 65536) rfl hc (by omega), Nat.add_comm]
theorem mrow_put {g : Nat → Nat} {x i c V : Nat} (hg : ∀ k, k < 80 → rg g x k < 65536) (hV : mV (rg g x) 80 = V) (hi : i < 80) (hz : rg g x i = 0) (hc : c < 65536) : rgS g (uN9 g (80 * x + i) c) x (V + c * 65536 ^ i) := by
  refine ⟨fun k hk => ?_, ?_, fun j hj => uN9_ne (by omega)⟩
  · rw [rg_up]
    by_cases e : k = i
    · rw [e, uN9_eq]; exact hc
    · rw [uN9_ne e]; exact hg k hk
  · rw [rg_up]
    have h1 := mV_tail (h := uN9 (rg g x) i c) (k := rg g x) (i := i + 1) (n := 80) (by omega) (fun j j1 j2 => uN9_ne (by omega))
    rw [mV_s (uN9 (rg g x) i c) i, mV_s (rg g x) i, mV_up, uN9_eq, hz, hV, Nat.zero_mul] at h1
    omega
section MA3
variable {l : Launch} {G : aG} {base tA : Nat} {Y ρ : Nat → Nat} {τ : Nat → Int32} {ex : Bool} {N : aN} {O0 O : aO} {A0 A : aA} {k i : Nat}
set_option maxHeartbeats 4000000 in
theorem m_exactly2 (h : mW Y ρ τ ex N O0 A0 O A) {s0 s1 : Bool} (t1 : τ 1 = sW s0 (ρ 0)) (t2 : τ 2 = sW s1 (ρ 2)) (hB : ∀ i, i < 4 → ρ i < 2 ^ 160) : aMet l G base tA yX9_exactly cX9_exactly 2 none rmM4 [.ref (Y 0), .int (nI 2)] O A (fun r O' A' => r = none ∧ oM Y τ ex N O0 A0 (zI (s0 != s1) (ρ 0 * ρ 2)) (ρ 1 * ρ 3) O' A') := by
  refine aMet_of (ini := false) (B := aLook bkX9_exactly) (by decide) (fun h => by first | rfl | cases h) (Nat.le_of_ble_eq_true rfl) boX9_exactly ?_
  intro E J hb
  have c0 := p80 (hB 0 (by decide)) (hB 2 (by decide))
  have c1 := p80 (hB 1 (by decide)) (hB 3 (by decide))
  refine hb.run (aCuts [12, 19, 45, 52, 73, 80, 86, 93, 100] J) 60 0 _ _ _ _ _ _ (aCuts_ok _) ?_
  simp only [↓wpi_isub, ↓wpi_lsub, ↓wpi_ineg, ↓wpi_lneg, ↓wpi_irem, ↓wpi_lrem, ↓wpi_iinc, wp1, wp, wpl, wpi, lget, lput1, lput2, ltail, lkill, aV, aVl, aNth, aPut, aFz, aC0, aC2, aSw, aCat1, aCuts, aSet_eq, List.take, List.drop, List.reverse_cons, List.reverse_nil, List.nil_append, List.cons_append, List.length_cons, List.length_nil, Option.toList, true_and, and_true, Nat.reduceAdd, Nat.reduceEqDiff, Nat.reduceLT, Nat.reduceLeDiff, Nat.zero_add, Nat.add_zero, if_true, if_false, ite_true, ite_false, reduceIte, reduceCtorEq, true_or, or_true, not_true_eq_false, not_false_eq_true, false_and, and_false, true_implies, false_implies, not_false_eq_true, bqX9_exactly_0, blX9_exactly_0, bqX9_exactly_5, blX9_exactly_5, bqX9_exactly_12, blX9_exactly_12, bqX9_exactly_19, blX9_exactly_19, bqX9_exactly_33, blX9_exactly_33, bqX9_exactly_38, blX9_exactly_38, bqX9_exactly_45, blX9_exactly_45, bqX9_exactly_52, blX9_exactly_52, bqX9_exactly_66, blX9_exactly_66, bqX9_exactly_73, blX9_exactly_73, bqX9_exactly_80, blX9_exactly_80, bqX9_exactly_86, blX9_exactly_86, bqX9_exactly_93, blX9_exactly_93, bqX9_exactly_100, blX9_exactly_100, aArgs, List.replicate]
  refine ⟨_, _, _, _, hb.callV lvX9_195 (m_product h (x := 0) (y := 2) (to := 4) (by decide) (by decide) (by decide) c0) rfl h.obj (by decide) (by decide) (by decide), ?_, fun _ _ _ h => h.elim⟩
  rintro _ O1 A1 ⟨rfl, w1, h1⟩
  have q1 : rU (rU ρ 10 w1) 4 (ρ 0 * ρ 2) 1 = ρ 1 := by rw [rU_ne (by decide), rU_ne (by decide)]
  have q3 : rU (rU ρ 10 w1) 4 (ρ 0 * ρ 2) 3 = ρ 3 := by rw [rU_ne (by decide), rU_ne (by decide)]
  refine hb.run (aCuts [12, 19, 45, 52, 73, 80, 86, 93, 100] J) 60 12 _ _ _ _ _ _ (aCuts_ok _) ?_
  simp only [↓wpi_isub, ↓wpi_lsub, ↓wpi_ineg, ↓wpi_lneg, ↓wpi_irem, ↓wpi_lrem, ↓wpi_iinc, wp1, wp, wpl, wpi, lget, lput1, lput2, ltail, lkill, aV, aVl, aNth, aPut, aFz, aC0, aC2, aSw, aCat1, aCuts, aSet_eq, List.take, List.drop, List.reverse_cons, List.reverse_nil, List.nil_append, List.cons_append, List.length_cons, List.length_nil, Option.toList, true_and, and_true, Nat.reduceAdd, Nat.reduceEqDiff, Nat.reduceLT, Nat.reduceLeDiff, Nat.zero_add, Nat.add_zero, if_true, if_false, ite_true, ite_false, reduceIte, reduceCtorEq, true_or, or_true, not_true_eq_false, not_false_eq_true, false_and, and_false, true_implies, false_implies, not_false_eq_true, bqX9_exactly_0, blX9_exactly_0, bqX9_exactly_5, blX9_exactly_5, bqX9_exactly_12, blX9_exactly_12, bqX9_exactly_19, blX9_exactly_19, bqX9_exactly_33, blX9_exactly_33, bqX9_exactly_38, blX9_exactly_38, bqX9_exactly_45, blX9_exactly_45, bqX9_exactly_52, blX9_exactly_52, bqX9_exactly_66, blX9_exactly_66, bqX9_exactly_73, blX9_exactly_73, bqX9_exactly_80, blX9_exactly_80, bqX9_exactly_86, blX9_exactly_86, bqX9_exactly_93, blX9_exactly_93, bqX9_exactly_100, blX9_exactly_100]
  refine ⟨_, _, _, _, hb.callV lvX9_195 (m_product h1 (x := 1) (y := 3) (to := 5) (by decide) (by decide) (by decide) (by rw [q1, q3]; exact c1)) rfl h1.obj (by decide) (by decide) (by decide), ?_, fun _ _ _ h => h.elim⟩
  rintro _ O2 A2 ⟨rfl, w2, h2⟩
  rw [q1, q3] at h2
  refine hb.run (aCuts [12, 19, 45, 52, 73, 80, 86, 93, 100] J) 60 19 _ _ _ _ _ _ (aCuts_ok _) ?_
  simp only [↓wpi_isub, ↓wpi_lsub, ↓wpi_ineg, ↓wpi_lneg, ↓wpi_irem, ↓wpi_lrem, ↓wpi_iinc, wp1, wp, wpl, wpi, lget, lput1, lput2, ltail, lkill, aV, aVl, aNth, aPut, aFz, aC0, aC2, aSw, aCat1, aCuts, aSet_eq, List.take, List.drop, List.reverse_cons, List.reverse_nil, List.nil_append, List.cons_append, List.length_cons, List.length_nil, Option.toList, true_and, and_true, Nat.reduceAdd, Nat.reduceEqDiff, Nat.reduceLT, Nat.reduceLeDiff, Nat.zero_add, Nat.add_zero, if_true, if_false, ite_true, ite_false, reduceIte, reduceCtorEq, true_or, or_true, not_true_eq_false, not_false_eq_true, false_and, and_false, true_implies, false_implies, not_false_eq_true, bqX9_exactly_0, blX9_exactly_0, bqX9_exactly_5, blX9_exactly_5, bqX9_exactly_12, blX9_exactly_12, bqX9_exactly_19, blX9_exactly_19, bqX9_exactly_33, blX9_exactly_33, bqX9_exactly_38, blX9_exactly_38, bqX9_exactly_45, blX9_exactly_45, bqX9_exactly_52, blX9_exactly_52, bqX9_exactly_66, blX9_exactly_66, bqX9_exactly_73, blX9_exactly_73, bqX9_exactly_80, blX9_exactly_80, bqX9_exactly_86, blX9_exactly_86, bqX9_exactly_93, blX9_exactly_93, bqX9_exactly_100, blX9_exactly_100, h2.obj]
  refine hb.vret ⟨rfl, _, τ 1 * τ 2, h2.fld (tU τ 3 (τ 1 * τ 2)) ex, ?_, rU_eq, fun hz => ?_⟩ (by decide) (by decide)
  · rw [rU_ne (by decide), rU_ne (by decide), rU_eq, zI_abs]
  · have hn : ρ 0 * ρ 2 ≠ 0 := fun e => hz (by rw [e]; cases (s0 != s1) <;> rfl)
    rw [t1, t2, sW_mul, zI_neg, decide_eq_true hn, Bool.and_true]; unfold sW; rw [if_neg hn]
set_option maxHeartbeats 4000000 in
theorem m_exactly3 (h : mW Y ρ τ ex N O0 A0 O A) {s0 s1 : Bool} (t1 : τ 1 = sW s0 (ρ 0)) (t2 : τ 2 = sW s1 (ρ 2)) (hB : ∀ i, i < 4 → ρ i < 2 ^ 160) (h20 : ρ 2 ≠ 0) : aMet l G base tA yX9_exactly cX9_exactly 2 none rmM4 [.ref (Y 0), .int (nI 3)] O A (fun r O' A' => r = none ∧ oM Y τ ex N O0 A0 (zI (s0 != s1) (ρ 0 * ρ 3)) (ρ 1 * ρ 2) O' A') := by
  refine aMet_of (ini := false) (B := aLook bkX9_exactly) (by decide) (fun h => by first | rfl | cases h) (Nat.le_of_ble_eq_true rfl) boX9_exactly ?_
  intro E J hb
  have c0 := p80 (hB 0 (by decide)) (hB 3 (by decide))
  have c1 := p80 (hB 1 (by decide)) (hB 2 (by decide))
  have e2 : (nI 3 = nI 2) = False := by rw [nI_c (by decide) (by decide)]; simp
  refine hb.run (aCuts [12, 19, 45, 52, 73, 80, 86, 93, 100] J) 60 0 _ _ _ _ _ _ (aCuts_ok _) ?_
  simp only [↓wpi_isub, ↓wpi_lsub, ↓wpi_ineg, ↓wpi_lneg, ↓wpi_irem, ↓wpi_lrem, ↓wpi_iinc, wp1, wp, wpl, wpi, lget, lput1, lput2, ltail, lkill, aV, aVl, aNth, aPut, aFz, aC0, aC2, aSw, aCat1, aCuts, aSet_eq, List.take, List.drop, List.reverse_cons, List.reverse_nil, List.nil_append, List.cons_append, List.length_cons, List.length_nil, Option.toList, true_and, and_true, Nat.reduceAdd, Nat.reduceEqDiff, Nat.reduceLT, Nat.reduceLeDiff, Nat.zero_add, Nat.add_zero, if_true, if_false, ite_true, ite_false, reduceIte, reduceCtorEq, true_or, or_true, not_true_eq_false, not_false_eq_true, false_and, and_false, true_implies, false_implies, not_false_eq_true, bqX9_exactly_0, blX9_exactly_0, bqX9_exactly_5, blX9_exactly_5, bqX9_exactly_12, blX9_exactly_12, bqX9_exactly_19, blX9_exactly_19, bqX9_exactly_33, blX9_exactly_33, bqX9_exactly_38, blX9_exactly_38, bqX9_exactly_45, blX9_exactly_45, bqX9_exactly_52, blX9_exactly_52, bqX9_exactly_66, blX9_exactly_66, bqX9_exactly_73, blX9_exactly_73, bqX9_exactly_80, blX9_exactly_80, bqX9_exactly_86, blX9_exactly_86, bqX9_exactly_93, blX9_exactly_93, bqX9_exactly_100, blX9_exactly_100, aArgs, List.replicate, e2]
  refine ⟨_, _, _, _, hb.callV lvX9_195 (m_product h (x := 0) (y := 3) (to := 4) (by decide) (by decide) (by decide) c0) rfl h.obj (by decide) (by decide) (by decide), ?_, fun _ _ _ h => h.elim⟩
  rintro _ O1 A1 ⟨rfl, w1, h1⟩
  have q1 : rU (rU ρ 10 w1) 4 (ρ 0 * ρ 3) 1 = ρ 1 := by rw [rU_ne (by decide), rU_ne (by decide)]
  have q3 : rU (rU ρ 10 w1) 4 (ρ 0 * ρ 3) 2 = ρ 2 := by rw [rU_ne (by decide), rU_ne (by decide)]
  refine hb.run (aCuts [12, 19, 45, 52, 73, 80, 86, 93, 100] J) 60 45 _ _ _ _ _ _ (aCuts_ok _) ?_
  simp only [↓wpi_isub, ↓wpi_lsub, ↓wpi_ineg, ↓wpi_lneg, ↓wpi_irem, ↓wpi_lrem, ↓wpi_iinc, wp1, wp, wpl, wpi, lget, lput1, lput2, ltail, lkill, aV, aVl, aNth, aPut, aFz, aC0, aC2, aSw, aCat1, aCuts, aSet_eq, List.take, List.drop, List.reverse_cons, List.reverse_nil, List.nil_append, List.cons_append, List.length_cons, List.length_nil, Option.toList, true_and, and_true, Nat.reduceAdd, Nat.reduceEqDiff, Nat.reduceLT, Nat.reduceLeDiff, Nat.zero_add, Nat.add_zero, if_true, if_false, ite_true, ite_false, reduceIte, reduceCtorEq, true_or, or_true, not_true_eq_false, not_false_eq_true, false_and, and_false, true_implies, false_implies, not_false_eq_true, bqX9_exactly_0, blX9_exactly_0, bqX9_exactly_5, blX9_exactly_5, bqX9_exactly_12, blX9_exactly_12, bqX9_exactly_19, blX9_exactly_19, bqX9_exactly_33, blX9_exactly_33, bqX9_exactly_38, blX9_exactly_38, bqX9_exactly_45, blX9_exactly_45, bqX9_exactly_52, blX9_exactly_52, bqX9_exactly_66, blX9_exactly_66, bqX9_exactly_73, blX9_exactly_73, bqX9_exactly_80, blX9_exactly_80, bqX9_exactly_86, blX9_exactly_86, bqX9_exactly_93, blX9_exactly_93, bqX9_exactly_100, blX9_exactly_100]
  refine ⟨_, _, _, _, hb.callV lvX9_195 (m_product h1 (x := 1) (y := 2) (to := 5) (by decide) (by decide) (by decide) (by rw [q1, q3]; exact c1)) rfl h1.obj (by decide) (by decide) (by decide), ?_, fun _ _ _ h => h.elim⟩
  rintro _ O2 A2 ⟨rfl, w2, h2⟩
  rw [q1, q3] at h2
  refine hb.run (aCuts [12, 19, 45, 52, 73, 80, 86, 93, 100] J) 60 52 _ _ _ _ _ _ (aCuts_ok _) ?_
  simp only [↓wpi_isub, ↓wpi_lsub, ↓wpi_ineg, ↓wpi_lneg, ↓wpi_irem, ↓wpi_lrem, ↓wpi_iinc, wp1, wp, wpl, wpi, lget, lput1, lput2, ltail, lkill, aV, aVl, aNth, aPut, aFz, aC0, aC2, aSw, aCat1, aCuts, aSet_eq, List.take, List.drop, List.reverse_cons, List.reverse_nil, List.nil_append, List.cons_append, List.length_cons, List.length_nil, Option.toList, true_and, and_true, Nat.reduceAdd, Nat.reduceEqDiff, Nat.reduceLT, Nat.reduceLeDiff, Nat.zero_add, Nat.add_zero, if_true, if_false, ite_true, ite_false, reduceIte, reduceCtorEq, true_or, or_true, not_true_eq_false, not_false_eq_true, false_and, and_false, true_implies, false_implies, not_false_eq_true, bqX9_exactly_0, blX9_exactly_0, bqX9_exactly_5, blX9_exactly_5, bqX9_exactly_12, blX9_exactly_12, bqX9_exactly_19, blX9_exactly_19, bqX9_exactly_33, blX9_exactly_33, bqX9_exactly_38, blX9_exactly_38, bqX9_exactly_45, blX9_exactly_45, bqX9_exactly_52, blX9_exactly_52, bqX9_exactly_66, blX9_exactly_66, bqX9_exactly_73, blX9_exactly_73, bqX9_exactly_80, blX9_exactly_80, bqX9_exactly_86, blX9_exactly_86, bqX9_exactly_93, blX9_exactly_93, bqX9_exactly_100, blX9_exactly_100, h2.obj]
  refine hb.vret ⟨rfl, _, τ 1 * τ 2, h2.fld (tU τ 3 (τ 1 * τ 2)) ex, ?_, rU_eq, fun hz => ?_⟩ (by decide) (by decide)
  · rw [rU_ne (by decide), rU_ne (by decide), rU_eq, zI_abs]
  · have hn : ρ 0 * ρ 3 ≠ 0 := fun e => hz (by rw [e]; cases (s0 != s1) <;> rfl)
    have hn0 : ρ 0 ≠ 0 := fun e => hn (by rw [e, Nat.zero_mul])
    rw [t1, t2, sW_mul, zI_neg, decide_eq_true hn, Bool.and_true]; unfold sW; rw [if_neg (Nat.mul_ne_zero hn0 h20)]
set_option maxHeartbeats 4000000 in
theorem m_exactly6 (h : mW Y ρ τ ex N O0 A0 O A) {s0 : Bool} (t1 : τ 1 = sW s0 (ρ 0)) (hB : ∀ i, i < 4 → ρ i < 2 ^ 160) (h20 : ρ 2 ≠ 0) (h10 : 0 < ρ 1) : aMet l G base tA yX9_exactly cX9_exactly 2 none rmM4 [.ref (Y 0), .int (nI 6)] O A (fun r O' A' => r = none ∧ oM Y τ ex N O0 A0 (zI s0 (ρ 0 * ρ 3 % (ρ 2 * ρ 1))) (ρ 1 * ρ 3) O' A') := by
  refine aMet_of (ini := false) (B := aLook bkX9_exactly) (by decide) (fun h => by first | rfl | cases h) (Nat.le_of_ble_eq_true rfl) boX9_exactly ?_
  intro E J hb
  have c0 := p80 (hB 0 (by decide)) (hB 3 (by decide))
  have c1 := p80 (hB 2 (by decide)) (hB 1 (by decide))
  have c2 := p80 (hB 1 (by decide)) (hB 3 (by decide))
  have d1 := p320 (hB 2 (by decide)) (hB 1 (by decide))
  have e2 : (nI 6 = nI 2) = False := by rw [nI_c (by decide) (by decide)]; simp
  have e3 : (nI 6 = nI 3) = False := by rw [nI_c (by decide) (by decide)]; simp
  refine hb.run (aCuts [12, 19, 45, 52, 73, 80, 86, 93, 100] J) 60 0 _ _ _ _ _ _ (aCuts_ok _) ?_
  simp only [↓wpi_isub, ↓wpi_lsub, ↓wpi_ineg, ↓wpi_lneg, ↓wpi_irem, ↓wpi_lrem, ↓wpi_iinc, wp1, wp, wpl, wpi, lget, lput1, lput2, ltail, lkill, aV, aVl, aNth, aPut, aFz, aC0, aC2, aSw, aCat1, aCuts, aSet_eq, List.take, List.drop, List.reverse_cons, List.reverse_nil, List.nil_append, List.cons_append, List.length_cons, List.length_nil, Option.toList, true_and, and_true, Nat.reduceAdd, Nat.reduceEqDiff, Nat.reduceLT, Nat.reduceLeDiff, Nat.zero_add, Nat.add_zero, if_true, if_false, ite_true, ite_false, reduceIte, reduceCtorEq, true_or, or_true, not_true_eq_false, not_false_eq_true, false_and, and_false, true_implies, false_implies, not_false_eq_true, bqX9_exactly_0, blX9_exactly_0, bqX9_exactly_5, blX9_exactly_5, bqX9_exactly_12, blX9_exactly_12, bqX9_exactly_19, blX9_exactly_19, bqX9_exactly_33, blX9_exactly_33, bqX9_exactly_38, blX9_exactly_38, bqX9_exactly_45, blX9_exactly_45, bqX9_exactly_52, blX9_exactly_52, bqX9_exactly_66, blX9_exactly_66, bqX9_exactly_73, blX9_exactly_73, bqX9_exactly_80, blX9_exactly_80, bqX9_exactly_86, blX9_exactly_86, bqX9_exactly_93, blX9_exactly_93, bqX9_exactly_100, blX9_exactly_100, aArgs, List.replicate, e2, e3]
  refine ⟨_, _, _, _, hb.callV lvX9_195 (m_product h (x := 0) (y := 3) (to := 4) (by decide) (by decide) (by decide) c0) rfl h.obj (by decide) (by decide) (by decide), ?_, fun _ _ _ h => h.elim⟩
  rintro _ O1 A1 ⟨rfl, w1, h1⟩
  have q2 : rU (rU ρ 10 w1) 4 (ρ 0 * ρ 3) 2 = ρ 2 := by rw [rU_ne (by decide), rU_ne (by decide)]
  have q1 : rU (rU ρ 10 w1) 4 (ρ 0 * ρ 3) 1 = ρ 1 := by rw [rU_ne (by decide), rU_ne (by decide)]
  refine hb.run (aCuts [12, 19, 45, 52, 73, 80, 86, 93, 100] J) 60 73 _ _ _ _ _ _ (aCuts_ok _) ?_
  simp only [↓wpi_isub, ↓wpi_lsub, ↓wpi_ineg, ↓wpi_lneg, ↓wpi_irem, ↓wpi_lrem, ↓wpi_iinc, wp1, wp, wpl, wpi, lget, lput1, lput2, ltail, lkill, aV, aVl, aNth, aPut, aFz, aC0, aC2, aSw, aCat1, aCuts, aSet_eq, List.take, List.drop, List.reverse_cons, List.reverse_nil, List.nil_append, List.cons_append, List.length_cons, List.length_nil, Option.toList, true_and, and_true, Nat.reduceAdd, Nat.reduceEqDiff, Nat.reduceLT, Nat.reduceLeDiff, Nat.zero_add, Nat.add_zero, if_true, if_false, ite_true, ite_false, reduceIte, reduceCtorEq, true_or, or_true, not_true_eq_false, not_false_eq_true, false_and, and_false, true_implies, false_implies, not_false_eq_true, bqX9_exactly_0, blX9_exactly_0, bqX9_exactly_5, blX9_exactly_5, bqX9_exactly_12, blX9_exactly_12, bqX9_exactly_19, blX9_exactly_19, bqX9_exactly_33, blX9_exactly_33, bqX9_exactly_38, blX9_exactly_38, bqX9_exactly_45, blX9_exactly_45, bqX9_exactly_52, blX9_exactly_52, bqX9_exactly_66, blX9_exactly_66, bqX9_exactly_73, blX9_exactly_73, bqX9_exactly_80, blX9_exactly_80, bqX9_exactly_86, blX9_exactly_86, bqX9_exactly_93, blX9_exactly_93, bqX9_exactly_100, blX9_exactly_100]
  refine ⟨_, _, _, _, hb.callV lvX9_195 (m_product h1 (x := 2) (y := 1) (to := 5) (by decide) (by decide) (by decide) (by rw [q1, q2]; exact c1)) rfl h1.obj (by decide) (by decide) (by decide), ?_, fun _ _ _ h => h.elim⟩
  rintro _ O2 A2 ⟨rfl, w2, h2⟩
  rw [q1, q2] at h2
  obtain ⟨ρ2, hρ2⟩ : ∃ ρ2, ρ2 = rU (rU (rU (rU ρ 10 w1) 4 (ρ 0 * ρ 3)) 10 w2) 5 (ρ 2 * ρ 1) := ⟨_, rfl⟩
  rw [← hρ2] at h2
  have e4 : ρ2 4 = ρ 0 * ρ 3 := by rw [hρ2, rU_ne (by decide), rU_ne (by decide), rU_eq]
  have e5 : ρ2 5 = ρ 2 * ρ 1 := by rw [hρ2, rU_eq]
  have f1 : ρ2 1 = ρ 1 := by rw [hρ2, rU_ne (by decide), rU_ne (by decide), rU_ne (by decide), rU_ne (by decide)]
  have f3 : ρ2 3 = ρ 3 := by rw [hρ2, rU_ne (by decide), rU_ne (by decide), rU_ne (by decide), rU_ne (by decide)]
  refine hb.run (aCuts [12, 19, 45, 52, 73, 80, 86, 93, 100] J) 60 80 _ _ _ _ _ _ (aCuts_ok _) ?_
  simp only [↓wpi_isub, ↓wpi_lsub, ↓wpi_ineg, ↓wpi_lneg, ↓wpi_irem, ↓wpi_lrem, ↓wpi_iinc, wp1, wp, wpl, wpi, lget, lput1, lput2, ltail, lkill, aV, aVl, aNth, aPut, aFz, aC0, aC2, aSw, aCat1, aCuts, aSet_eq, List.take, List.drop, List.reverse_cons, List.reverse_nil, List.nil_append, List.cons_append, List.length_cons, List.length_nil, Option.toList, true_and, and_true, Nat.reduceAdd, Nat.reduceEqDiff, Nat.reduceLT, Nat.reduceLeDiff, Nat.zero_add, Nat.add_zero, if_true, if_false, ite_true, ite_false, reduceIte, reduceCtorEq, true_or, or_true, not_true_eq_false, not_false_eq_true, false_and, and_false, true_implies, false_implies, not_false_eq_true, bqX9_exactly_0, blX9_exactly_0, bqX9_exactly_5, blX9_exactly_5, bqX9_exactly_12, blX9_exactly_12, bqX9_exactly_19, blX9_exactly_19, bqX9_exactly_33, blX9_exactly_33, bqX9_exactly_38, blX9_exactly_38, bqX9_exactly_45, blX9_exactly_45, bqX9_exactly_52, blX9_exactly_52, bqX9_exactly_66, blX9_exactly_66, bqX9_exactly_73, blX9_exactly_73, bqX9_exactly_80, blX9_exactly_80, bqX9_exactly_86, blX9_exactly_86, bqX9_exactly_93, blX9_exactly_93, bqX9_exactly_100, blX9_exactly_100]
  refine ⟨_, _, _, _, hb.callV lvX9_134 (m_divide h2 (x := 4) (y := 5) (by decide) (by decide) (by decide) (by decide) (by decide) (by decide) (by rw [e5]; exact Nat.mul_pos (by omega) h10) (by rw [e5]; exact Nat.lt_trans d1 B80.2.1)) rfl h2.obj (by decide) (by decide) (by decide), ?_, fun _ _ _ h => h.elim⟩
  rintro _ O3 A3 ⟨rfl, h3⟩
  rw [e4, e5] at h3
  refine hb.run (aCuts [12, 19, 45, 52, 73, 80, 86, 93, 100] J) 60 86 _ _ _ _ _ _ (aCuts_ok _) ?_
  simp only [↓wpi_isub, ↓wpi_lsub, ↓wpi_ineg, ↓wpi_lneg, ↓wpi_irem, ↓wpi_lrem, ↓wpi_iinc, wp1, wp, wpl, wpi, lget, lput1, lput2, ltail, lkill, aV, aVl, aNth, aPut, aFz, aC0, aC2, aSw, aCat1, aCuts, aSet_eq, List.take, List.drop, List.reverse_cons, List.reverse_nil, List.nil_append, List.cons_append, List.length_cons, List.length_nil, Option.toList, true_and, and_true, Nat.reduceAdd, Nat.reduceEqDiff, Nat.reduceLT, Nat.reduceLeDiff, Nat.zero_add, Nat.add_zero, if_true, if_false, ite_true, ite_false, reduceIte, reduceCtorEq, true_or, or_true, not_true_eq_false, not_false_eq_true, false_and, and_false, true_implies, false_implies, not_false_eq_true, bqX9_exactly_0, blX9_exactly_0, bqX9_exactly_5, blX9_exactly_5, bqX9_exactly_12, blX9_exactly_12, bqX9_exactly_19, blX9_exactly_19, bqX9_exactly_33, blX9_exactly_33, bqX9_exactly_38, blX9_exactly_38, bqX9_exactly_45, blX9_exactly_45, bqX9_exactly_52, blX9_exactly_52, bqX9_exactly_66, blX9_exactly_66, bqX9_exactly_73, blX9_exactly_73, bqX9_exactly_80, blX9_exactly_80, bqX9_exactly_86, blX9_exactly_86, bqX9_exactly_93, blX9_exactly_93, bqX9_exactly_100, blX9_exactly_100]
  refine ⟨_, _, _, _, hb.callV lvX9_47 (m_copy h3 (x := 7) (y := 4) (by decide) (by decide) (by decide)) rfl h3.obj (by decide) (by decide) (by decide), ?_, fun _ _ _ h => h.elim⟩
  rintro _ O4 A4 ⟨rfl, h4⟩
  rw [rU_eq] at h4
  obtain ⟨ρ4, hρ4⟩ : ∃ ρ4, ρ4 = rU (rU (rU ρ2 6 (ρ 0 * ρ 3 / (ρ 2 * ρ 1))) 7 (ρ 0 * ρ 3 % (ρ 2 * ρ 1))) 4 (ρ 0 * ρ 3 % (ρ 2 * ρ 1)) := ⟨_, rfl⟩
  rw [← hρ4] at h4
  have g1 : ρ4 1 = ρ 1 := by rw [hρ4, rU_ne (by decide), rU_ne (by decide), rU_ne (by decide), f1]
  have g3 : ρ4 3 = ρ 3 := by rw [hρ4, rU_ne (by decide), rU_ne (by decide), rU_ne (by decide), f3]
  have g4 : ρ4 4 = ρ 0 * ρ 3 % (ρ 2 * ρ 1) := by rw [hρ4, rU_eq]
  refine hb.run (aCuts [12, 19, 45, 52, 73, 80, 86, 93, 100] J) 60 93 _ _ _ _ _ _ (aCuts_ok _) ?_
  simp only [↓wpi_isub, ↓wpi_lsub, ↓wpi_ineg, ↓wpi_lneg, ↓wpi_irem, ↓wpi_lrem, ↓wpi_iinc, wp1, wp, wpl, wpi, lget, lput1, lput2, ltail, lkill, aV, aVl, aNth, aPut, aFz, aC0, aC2, aSw, aCat1, aCuts, aSet_eq, List.take, List.drop, List.reverse_cons, List.reverse_nil, List.nil_append, List.cons_append, List.length_cons, List.length_nil, Option.toList, true_and, and_true, Nat.reduceAdd, Nat.reduceEqDiff, Nat.reduceLT, Nat.reduceLeDiff, Nat.zero_add, Nat.add_zero, if_true, if_false, ite_true, ite_false, reduceIte, reduceCtorEq, true_or, or_true, not_true_eq_false, not_false_eq_true, false_and, and_false, true_implies, false_implies, not_false_eq_true, bqX9_exactly_0, blX9_exactly_0, bqX9_exactly_5, blX9_exactly_5, bqX9_exactly_12, blX9_exactly_12, bqX9_exactly_19, blX9_exactly_19, bqX9_exactly_33, blX9_exactly_33, bqX9_exactly_38, blX9_exactly_38, bqX9_exactly_45, blX9_exactly_45, bqX9_exactly_52, blX9_exactly_52, bqX9_exactly_66, blX9_exactly_66, bqX9_exactly_73, blX9_exactly_73, bqX9_exactly_80, blX9_exactly_80, bqX9_exactly_86, blX9_exactly_86, bqX9_exactly_93, blX9_exactly_93, bqX9_exactly_100, blX9_exactly_100]
  refine ⟨_, _, _, _, hb.callV lvX9_195 (m_product h4 (x := 1) (y := 3) (to := 5) (by decide) (by decide) (by decide) (by rw [g1, g3]; exact c2)) rfl h4.obj (by decide) (by decide) (by decide), ?_, fun _ _ _ h => h.elim⟩
  rintro _ O5 A5 ⟨rfl, w5, h5⟩
  rw [g1, g3] at h5
  refine hb.run (aCuts [12, 19, 45, 52, 73, 80, 86, 93, 100] J) 60 100 _ _ _ _ _ _ (aCuts_ok _) ?_
  simp only [↓wpi_isub, ↓wpi_lsub, ↓wpi_ineg, ↓wpi_lneg, ↓wpi_irem, ↓wpi_lrem, ↓wpi_iinc, wp1, wp, wpl, wpi, lget, lput1, lput2, ltail, lkill, aV, aVl, aNth, aPut, aFz, aC0, aC2, aSw, aCat1, aCuts, aSet_eq, List.take, List.drop, List.reverse_cons, List.reverse_nil, List.nil_append, List.cons_append, List.length_cons, List.length_nil, Option.toList, true_and, and_true, Nat.reduceAdd, Nat.reduceEqDiff, Nat.reduceLT, Nat.reduceLeDiff, Nat.zero_add, Nat.add_zero, if_true, if_false, ite_true, ite_false, reduceIte, reduceCtorEq, true_or, or_true, not_true_eq_false, not_false_eq_true, false_and, and_false, true_implies, false_implies, not_false_eq_true, bqX9_exactly_0, blX9_exactly_0, bqX9_exactly_5, blX9_exactly_5, bqX9_exactly_12, blX9_exactly_12, bqX9_exactly_19, blX9_exactly_19, bqX9_exactly_33, blX9_exactly_33, bqX9_exactly_38, blX9_exactly_38, bqX9_exactly_45, blX9_exactly_45, bqX9_exactly_52, blX9_exactly_52, bqX9_exactly_66, blX9_exactly_66, bqX9_exactly_73, blX9_exactly_73, bqX9_exactly_80, blX9_exactly_80, bqX9_exactly_86, blX9_exactly_86, bqX9_exactly_93, blX9_exactly_93, bqX9_exactly_100, blX9_exactly_100, h5.obj]
  refine hb.vret ⟨rfl, _, τ 1, h5.fld (tU τ 3 (τ 1)) ex, ?_, rU_eq, fun hz => ?_⟩ (by decide) (by decide)
  · rw [rU_ne (by decide), rU_ne (by decide), g4, zI_abs]
  · have hn : ρ 0 * ρ 3 % (ρ 2 * ρ 1) ≠ 0 := fun e => hz (by rw [e]; cases s0 <;> rfl)
    have hn0 : ρ 0 ≠ 0 := fun e => hn (by rw [e, Nat.zero_mul, Nat.zero_mod])
    rw [t1, zI_neg, decide_eq_true hn, Bool.and_true]; unfold sW; rw [if_neg hn0]
end MA3
