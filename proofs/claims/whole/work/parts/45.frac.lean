/-! ===== Fraction, a number's bytes, Reader's small methods ===== -/
theorem m1_ne0 : (-nI 1 = (0 : Int32)) = False := by simp only [eq_iff_iff, iff_false]; decide +kernel
theorem m1_eq : (-nI 1 = -nI 1) = True := by simp
theorem n0_m1 : (nI 0 = -nI 1) = False := by simp only [eq_iff_iff, iff_false]; decide +kernel
theorem n1_m1 : (nI 1 = -nI 1) = False := by simp only [eq_iff_iff, iff_false]; decide +kernel
theorem n0_0 : (nI 0 = (0 : Int32)) = True := by simp only [eq_iff_iff, iff_true]; decide +kernel
theorem n1_0 : (nI 1 = (0 : Int32)) = False := by simp only [eq_iff_iff, iff_false]; decide +kernel
theorem n1_1 : (nI 1 = (1 : Int32)) = True := by simp only [eq_iff_iff, iff_true]; decide +kernel
theorem bI_0 {P : Prop} [Decidable P] : (bI (decide P) = 0) = ¬ P := by
  by_cases h : P
  · rw [decide_eq_true h, bI_t, n1_0]; simp [h]
  · rw [decide_eq_false h, bI_f, n0_0]; simp [h]
theorem bI_T {P : Prop} [Decidable P] (h : P) : bI (decide P) = nI 1 := by rw [decide_eq_true h]; rfl
theorem bI_F {P : Prop} [Decidable P] (h : ¬ P) : bI (decide P) = nI 0 := by rw [decide_eq_false h]; rfl
theorem bI_0b {b : Bool} : (bI b = 0) = (b = false) := by
  cases b
  · rw [bI_f, n0_0]; simp
  · rw [bI_t, n1_0]; simp
theorem bI_01 (b : Bool) : bI b = 0 ∨ bI b = 1 := by cases b <;> decide +kernel
theorem bI_fz (b : Bool) : (bI b = 0 ∨ bI b = 1) = True := by simp [bI_01 b]
theorem bI_inj {a b : Bool} : (bI a = bI b) = (a = b) := by cases a <;> cases b <;> simp <;> decide +kernel
def sgI (s : Nat) : Int32 := if s = 0 then nI 0 else if s = 1 then nI 1 else -nI 1
def sgNib (n : Nat) : Nat := if n < 10 then 0 else if n = 11 ∨ n = 13 then 2 else 1
def sgOct (b p m : Nat) : Nat := if b = p then 1 else if b = m then 2 else 0
theorem sgNib_le (n : Nat) : sgNib n ≤ 2 := by unfold sgNib; repeat' split
                                               all_goals omega
theorem sgOct_le (n p m : Nat) : sgOct n p m ≤ 2 := by unfold sgOct; repeat' split
                                                       all_goals omega
section FRAC
variable {l : Launch} {G : aG} {base tA : Nat} {Z ρ : Nat → Nat} {sg : Nat → Bool} {N : aN} {O0 O : aO} {A0 A : aA} {i j k f : Nat}
theorem cW.szb (h : cW tA Z ρ sg N O0 A0 O A) (hk : k < N 0 0) : 1 ≤ N 5 k ∧ N 5 k ≤ 64 := by
  obtain ⟨h1, h2, h3, h4, h5, h6⟩ := h.bnd hk
  rw [h6]; exact ⟨szOf_lo h2, szOf_hi h3⟩
theorem cW.b8 (h : cW tA Z ρ sg N O0 A0 O A) (k i : Nat) : N (6 + k) i < 256 := (h.1.2.2.2 k i).1
theorem w_get (h : cW tA Z ρ sg N O0 A0 O A) (hk : k < N 0 0) (hi : i < N 5 k) : aMet l G base tA yX4_get cX4_get 2 (some .int) rmZ [.ref (Z (40 + 2 * k)), .int (nI i)] O A (fun r O' A' => r = some (.int (nI (N (6 + k) i))) ∧ O' = O ∧ A' = A) :=
  ct_X4_get (h.num hk) (h.byt hk) hi (h.szb hk).2 (h.b8 k i)
theorem w_nibble (h : cW tA Z ρ sg N O0 A0 O A) (hk : k < N 0 0) (hi : i < 2 * N 5 k) : aMet l G base tA yX4_nibble cX4_nibble 3 (some .int) rmA [.ref (Z (40 + 2 * k)), .int (nI i)] O A (fun r O' A' => r = some (.int (nI (nibOf (N (6 + k)) i))) ∧ O' = O ∧ A' = A) :=
  ct_X4_nibble (h.num hk) (h.byt hk) hi (h.szb hk).2 (h.b8 k _)
theorem w_put (h : cW tA Z ρ sg N O0 A0 O A) (hk : k < N 0 0) (hi : i < N 5 k) {w : Nat} (hw : w < 2 ^ 32) : aMet l G base tA yX4_put cX4_put 3 none rmZ [.ref (Z (40 + 2 * k)), .int (nI i), .int (nI w)] O A (fun r O' A' => r = none ∧ cW tA Z ρ sg (nU N (6 + k) i (w % 256)) O0 A0 O' A') := by
  refine (ct_X4_put (h.num hk) (h.byt hk) hi (h.szb hk).2).mono ?_
  rintro r O' A' ⟨rfl, rfl, rfl⟩
  refine ⟨rfl, ?_⟩
  rw [← by_mod hw]
  exact h.byU hk hi (Nat.mod_lt _ (by decide))
theorem w_putNibble (h : cW tA Z ρ sg N O0 A0 O A) (hk : k < N 0 0) (hi : i < 2 * N 5 k) {v : Nat} (hv : v < 16) : aMet l G base tA yX4_putNibble cX4_putNibble 4 none rmA [.ref (Z (40 + 2 * k)), .int (nI i), .int (nI v)] O A (fun r O' A' => r = none ∧ cW tA Z ρ sg (nU N (6 + k) (i / 2) (nibUp (N (6 + k) (i / 2)) i v)) O0 A0 O' A') := by
  refine (ct_X4_putNibble (h.num hk) (h.byt hk) hi (h.szb hk).2 hv (h.b8 k _)).mono ?_
  rintro r O' A' ⟨rfl, rfl, rfl⟩
  refine ⟨rfl, ?_⟩
  have := h.b8 k (i / 2)
  exact h.byU hk (by omega) (by unfold nibUp; split <;> omega)
theorem w_floating (h : cW tA Z ρ sg N O0 A0 O A) (hk : k < N 0 0) : aMet l G base tA yX4_floating cX4_floating 1 (some .boolean) rmZ [.ref (Z (40 + 2 * k))] O A (fun r O' A' => r = some (.int (bI (decide (N 1 k = 9 ∨ N 1 k = 10)))) ∧ O' = O ∧ A' = A) := ct_X4_floating (h.num hk) (h.bnd hk).1
theorem w_signless (h : cW tA Z ρ sg N O0 A0 O A) (hk : k < N 0 0) : aMet l G base tA yX4_signless cX4_signless 1 (some .boolean) rmZ [.ref (Z (40 + 2 * k))] O A (fun r O' A' => r = some (.int (bI (decide (N 1 k = 4 ∨ N 1 k = 6)))) ∧ O' = O ∧ A' = A) := ct_X4_signless (h.num hk) (h.bnd hk).1
set_option maxHeartbeats 1000000 in
theorem w_sign (h : cW tA Z ρ sg N O0 A0 O A) (hf : f < 3) (b : Bool) : aMet l G base tA yX2_sign cX2_sign 2 none { frames := 2, cells := 0, slots := 0, locals := 20 } [.ref (Z (30 + f)), .int (bI b)] O A (fun r O' A' => r = none ∧ cW tA Z ρ (bU sg f (b && decide (ρ (2 * f) ≠ 0))) N O0 A0 O' A') := by
  refine aMet_of (ini := false) (B := aLook bkX2_sign) (by decide) (fun h => by first | rfl | cases h) (Nat.le_of_ble_eq_true rfl) boX2_sign ?_
  intro E J hb
  have hF := h.frac hf
  refine hb.run (aCuts [12] J) 60 0 _ _ _ _ _ _ (aCuts_ok _) ?_
  cases b
  · simp only [↓wpi_isub, ↓wpi_lsub, ↓wpi_ineg, ↓wpi_lneg, ↓wpi_irem, ↓wpi_lrem, ↓wpi_iinc, wp1, wp, wpl, wpi, lget, lput1, lput2, ltail, lkill, aV, aVl, aNth, aPut, aFz, aC0, aC2, aSw, aCat1, aCuts, aSet_eq, List.take, List.drop, List.reverse_cons, List.reverse_nil, List.nil_append, List.cons_append, List.length_cons, List.length_nil, Option.toList, true_and, and_true, Nat.reduceAdd, Nat.reduceEqDiff, Nat.reduceLT, Nat.reduceLeDiff, Nat.zero_add, Nat.add_zero, if_true, if_false, ite_true, ite_false, reduceIte, reduceCtorEq, true_or, or_true, not_true_eq_false, not_false_eq_true, false_and, and_false, true_implies, false_implies, not_false_eq_true, bqX2_sign_0, blX2_sign_0, bqX2_sign_5, blX2_sign_5, bqX2_sign_12, blX2_sign_12, bqX2_sign_15, blX2_sign_15, bqX2_sign_19, blX2_sign_19, bqX2_sign_20, blX2_sign_20, aArgs, List.replicate, bI_f, n0_0, hF]
    exact hb.vret ⟨rfl, h.sgn (b := false) hf⟩ (by decide) (by decide)
  · simp only [↓wpi_isub, ↓wpi_lsub, ↓wpi_ineg, ↓wpi_lneg, ↓wpi_irem, ↓wpi_lrem, ↓wpi_iinc, wp1, wp, wpl, wpi, lget, lput1, lput2, ltail, lkill, aV, aVl, aNth, aPut, aFz, aC0, aC2, aSw, aCat1, aCuts, aSet_eq, List.take, List.drop, List.reverse_cons, List.reverse_nil, List.nil_append, List.cons_append, List.length_cons, List.length_nil, Option.toList, true_and, and_true, Nat.reduceAdd, Nat.reduceEqDiff, Nat.reduceLT, Nat.reduceLeDiff, Nat.zero_add, Nat.add_zero, if_true, if_false, ite_true, ite_false, reduceIte, reduceCtorEq, true_or, or_true, not_true_eq_false, not_false_eq_true, false_and, and_false, true_implies, false_implies, not_false_eq_true, bqX2_sign_0, blX2_sign_0, bqX2_sign_5, blX2_sign_5, bqX2_sign_12, blX2_sign_12, bqX2_sign_15, blX2_sign_15, bqX2_sign_19, blX2_sign_19, bqX2_sign_20, blX2_sign_20, aArgs, List.replicate, bI_t, n1_0, hF]
    refine ⟨_, _, _, _, hb.callW lvX2_19 (w_isZero h (i := 2 * f) (by omega)) rfl (h.rO (by omega)) (by decide) (by decide) (by decide), ?_, fun _ _ _ h => h.elim⟩
    rintro _ O' A' ⟨rfl, rfl, rfl⟩
    refine hb.run (aCuts [12] J) 60 12 _ _ _ _ _ _ (aCuts_ok _) ?_
    by_cases hz : ρ (2 * f) = 0
    · simp only [↓wpi_isub, ↓wpi_lsub, ↓wpi_ineg, ↓wpi_lneg, ↓wpi_irem, ↓wpi_lrem, ↓wpi_iinc, wp1, wp, wpl, wpi, lget, lput1, lput2, ltail, lkill, aV, aVl, aNth, aPut, aFz, aC0, aC2, aSw, aCat1, aCuts, aSet_eq, List.take, List.drop, List.reverse_cons, List.reverse_nil, List.nil_append, List.cons_append, List.length_cons, List.length_nil, Option.toList, true_and, and_true, Nat.reduceAdd, Nat.reduceEqDiff, Nat.reduceLT, Nat.reduceLeDiff, Nat.zero_add, Nat.add_zero, if_true, if_false, ite_true, ite_false, reduceIte, reduceCtorEq, true_or, or_true, not_true_eq_false, not_false_eq_true, false_and, and_false, true_implies, false_implies, not_false_eq_true, bqX2_sign_0, blX2_sign_0, bqX2_sign_5, blX2_sign_5, bqX2_sign_12, blX2_sign_12, bqX2_sign_15, blX2_sign_15, bqX2_sign_19, blX2_sign_19, bqX2_sign_20, blX2_sign_20, bI_T hz, n1_0, n0_0, hF]
      refine hb.vret ⟨rfl, ?_⟩ (by decide) (by decide)
      have := h.sgn (b := false) hf
      rw [decide_eq_false (fun q => q hz)]; exact this
    · simp only [↓wpi_isub, ↓wpi_lsub, ↓wpi_ineg, ↓wpi_lneg, ↓wpi_irem, ↓wpi_lrem, ↓wpi_iinc, wp1, wp, wpl, wpi, lget, lput1, lput2, ltail, lkill, aV, aVl, aNth, aPut, aFz, aC0, aC2, aSw, aCat1, aCuts, aSet_eq, List.take, List.drop, List.reverse_cons, List.reverse_nil, List.nil_append, List.cons_append, List.length_cons, List.length_nil, Option.toList, true_and, and_true, Nat.reduceAdd, Nat.reduceEqDiff, Nat.reduceLT, Nat.reduceLeDiff, Nat.zero_add, Nat.add_zero, if_true, if_false, ite_true, ite_false, reduceIte, reduceCtorEq, true_or, or_true, not_true_eq_false, not_false_eq_true, false_and, and_false, true_implies, false_implies, not_false_eq_true, bqX2_sign_0, blX2_sign_0, bqX2_sign_5, blX2_sign_5, bqX2_sign_12, blX2_sign_12, bqX2_sign_15, blX2_sign_15, bqX2_sign_19, blX2_sign_19, bqX2_sign_20, blX2_sign_20, bI_F hz, n0_0, n1_0, n1_1, hF]
      refine hb.vret ⟨rfl, ?_⟩ (by decide) (by decide)
      have := h.sgn (b := true) hf
      rw [decide_eq_true hz]; exact this
abbrev rmF : Room := { frames := 3, cells := 0, slots := 0, locals := 62 }
set_option maxHeartbeats 1000000 in
theorem w_becomeOver (h : cW tA Z ρ sg N O0 A0 O A) (hf : f < 3) (hj : j < 15) (hij : 2 * f ≠ j) (b : Bool) : aMet l G base tA yX2_becomeOver cX2_becomeOver 3 none rmF [.ref (Z (30 + f)), .ref (Z j), .int (bI b)] O A (fun r O' A' => r = none ∧ cW tA Z (rU ρ (2 * f) (ρ j)) (bU sg f (b && decide (ρ j ≠ 0))) N O0 A0 O' A') := by
  refine aMet_of (ini := false) (B := aLook bkX2_becomeOver) (by decide) (fun h => by first | rfl | cases h) (Nat.le_of_ble_eq_true rfl) boX2_becomeOver ?_
  intro E J hb
  have hF := h.frac hf
  refine hb.run (aCuts [8, 13] J) 60 0 _ _ _ _ _ _ (aCuts_ok _) ?_
  simp only [↓wpi_isub, ↓wpi_lsub, ↓wpi_ineg, ↓wpi_lneg, ↓wpi_irem, ↓wpi_lrem, ↓wpi_iinc, wp1, wp, wpl, wpi, lget, lput1, lput2, ltail, lkill, aV, aVl, aNth, aPut, aFz, aC0, aC2, aSw, aCat1, aCuts, aSet_eq, List.take, List.drop, List.reverse_cons, List.reverse_nil, List.nil_append, List.cons_append, List.length_cons, List.length_nil, Option.toList, true_and, and_true, Nat.reduceAdd, Nat.reduceEqDiff, Nat.reduceLT, Nat.reduceLeDiff, Nat.zero_add, Nat.add_zero, if_true, if_false, ite_true, ite_false, reduceIte, reduceCtorEq, true_or, or_true, not_true_eq_false, not_false_eq_true, false_and, and_false, true_implies, false_implies, not_false_eq_true, bqX2_becomeOver_0, blX2_becomeOver_0, bqX2_becomeOver_8, blX2_becomeOver_8, bqX2_becomeOver_13, blX2_becomeOver_13, aArgs, List.replicate, hF]
  refine ⟨_, _, _, _, hb.callW lvX2_27 (w_copy h (i := 2 * f) (j := j) (by omega) hj hij) rfl (h.rO (by omega)) (by decide) (by decide) (by decide), ?_, fun _ _ _ h => h.elim⟩
  rintro _ O1 A1 ⟨rfl, h1⟩
  refine hb.run (aCuts [8, 13] J) 60 8 _ _ _ _ _ _ (aCuts_ok _) ?_
  simp only [↓wpi_isub, ↓wpi_lsub, ↓wpi_ineg, ↓wpi_lneg, ↓wpi_irem, ↓wpi_lrem, ↓wpi_iinc, wp1, wp, wpl, wpi, lget, lput1, lput2, ltail, lkill, aV, aVl, aNth, aPut, aFz, aC0, aC2, aSw, aCat1, aCuts, aSet_eq, List.take, List.drop, List.reverse_cons, List.reverse_nil, List.nil_append, List.cons_append, List.length_cons, List.length_nil, Option.toList, true_and, and_true, Nat.reduceAdd, Nat.reduceEqDiff, Nat.reduceLT, Nat.reduceLeDiff, Nat.zero_add, Nat.add_zero, if_true, if_false, ite_true, ite_false, reduceIte, reduceCtorEq, true_or, or_true, not_true_eq_false, not_false_eq_true, false_and, and_false, true_implies, false_implies, not_false_eq_true, bqX2_becomeOver_0, blX2_becomeOver_0, bqX2_becomeOver_8, blX2_becomeOver_8, bqX2_becomeOver_13, blX2_becomeOver_13]
  refine ⟨_, _, _, _, hb.callV lvX2_31 (w_sign h1 hf b) rfl (h1.frac hf) (by decide) (by decide) (by decide), ?_, fun _ _ _ h => h.elim⟩
  rintro _ O2 A2 ⟨rfl, h2⟩
  refine hb.run (aCuts [8, 13] J) 60 13 _ _ _ _ _ _ (aCuts_ok _) ?_
  simp only [↓wpi_isub, ↓wpi_lsub, ↓wpi_ineg, ↓wpi_lneg, ↓wpi_irem, ↓wpi_lrem, ↓wpi_iinc, wp1, wp, wpl, wpi, lget, lput1, lput2, ltail, lkill, aV, aVl, aNth, aPut, aFz, aC0, aC2, aSw, aCat1, aCuts, aSet_eq, List.take, List.drop, List.reverse_cons, List.reverse_nil, List.nil_append, List.cons_append, List.length_cons, List.length_nil, Option.toList, true_and, and_true, Nat.reduceAdd, Nat.reduceEqDiff, Nat.reduceLT, Nat.reduceLeDiff, Nat.zero_add, Nat.add_zero, if_true, if_false, ite_true, ite_false, reduceIte, reduceCtorEq, true_or, or_true, not_true_eq_false, not_false_eq_true, false_and, and_false, true_implies, false_implies, not_false_eq_true, bqX2_becomeOver_0, blX2_becomeOver_0, bqX2_becomeOver_8, blX2_becomeOver_8, bqX2_becomeOver_13, blX2_becomeOver_13]
  rw [rU_eq] at h2
  exact hb.vret ⟨rfl, h2⟩ (by decide) (by decide)
theorem lZ_neg (z : Int) : lNeg (lZ z) = lZ (-z) := by rw [lNeg_eq]; exact (Int64.ofInt_neg z).symm
theorem lZ_abs {z : Int} (h : 0 ≤ z) : lZ z = lN z.natAbs := by rw [lN_Z]; congr 1; omega
set_option maxHeartbeats 2000000 in
theorem w_becomeWhole (h : cW tA Z ρ sg N O0 A0 O A) (hf : f < 3) {z : Int} (hz1 : -2 ^ 63 ≤ z) (hz2 : z < 2 ^ 63) : aMet l G base tA yX2_becomeWhole cX2_becomeWhole 3 none rmF [.ref (Z (30 + f)), .long (lZ z)] O A (fun r O' A' => r = none ∧ cW tA Z (rU (rU ρ (2 * f) z.natAbs) (2 * f + 1) 1) (bU sg f (decide (z < 0))) N O0 A0 O' A') := by
  refine aMet_of (ini := false) (B := aLook bkX2_becomeWhole) (by decide) (fun h => by first | rfl | cases h) (Nat.le_of_ble_eq_true rfl) boX2_becomeWhole ?_
  intro E J hb
  have hF := h.frac hf
  have hge := cmpZ_ge hz1 hz2 (show 0 < 2 ^ 63 by decide)
  have go : ∀ {O1 : aO} {A1 : aA}, cW tA Z (rU ρ (2 * f) z.natAbs) sg N O0 A0 O1 A1 → J 19 [some (.ref (Z (30 + f))), some (.long (lZ z)), none] [] O1 A1 0 0 := by
    intro O1 A1 h1
    refine hb.run (aCuts [19, 27, 42] J) 60 19 _ _ _ _ _ _ (aCuts_ok _) ?_
    simp only [↓wpi_isub, ↓wpi_lsub, ↓wpi_ineg, ↓wpi_lneg, ↓wpi_irem, ↓wpi_lrem, ↓wpi_iinc, wp1, wp, wpl, wpi, lget, lput1, lput2, ltail, lkill, aV, aVl, aNth, aPut, aFz, aC0, aC2, aSw, aCat1, aCuts, aSet_eq, List.take, List.drop, List.reverse_cons, List.reverse_nil, List.nil_append, List.cons_append, List.length_cons, List.length_nil, Option.toList, true_and, and_true, Nat.reduceAdd, Nat.reduceEqDiff, Nat.reduceLT, Nat.reduceLeDiff, Nat.zero_add, Nat.add_zero, if_true, if_false, ite_true, ite_false, reduceIte, reduceCtorEq, true_or, or_true, not_true_eq_false, not_false_eq_true, false_and, and_false, true_implies, false_implies, not_false_eq_true, bqX2_becomeWhole_0, blX2_becomeWhole_0, bqX2_becomeWhole_10, blX2_becomeWhole_10, bqX2_becomeWhole_15, blX2_becomeWhole_15, bqX2_becomeWhole_16, blX2_becomeWhole_16, bqX2_becomeWhole_19, blX2_becomeWhole_19, bqX2_becomeWhole_27, blX2_becomeWhole_27, bqX2_becomeWhole_34, blX2_becomeWhole_34, bqX2_becomeWhole_38, blX2_becomeWhole_38, bqX2_becomeWhole_39, blX2_becomeWhole_39, bqX2_becomeWhole_42, blX2_becomeWhole_42, h1.frac hf]
    refine ⟨_, _, _, _, hb.callW lvX2_35 (w_become h1 (i := 2 * f + 1) (w := 1) (by omega) (by decide)) rfl (h1.rO (by omega)) (by decide) (by decide) (by decide), ?_, fun _ _ _ h => h.elim⟩
    rintro _ O2 A2 ⟨rfl, h2⟩
    refine hb.run (aCuts [19, 27, 42] J) 60 27 _ _ _ _ _ _ (aCuts_ok _) ?_
    by_cases hz : (0 : Int) ≤ z
    · have e : ((((0 : Nat) : Int)) ≤ z) = True := by simp; exact hz
      simp only [↓wpi_isub, ↓wpi_lsub, ↓wpi_ineg, ↓wpi_lneg, ↓wpi_irem, ↓wpi_lrem, ↓wpi_iinc, wp1, wp, wpl, wpi, lget, lput1, lput2, ltail, lkill, aV, aVl, aNth, aPut, aFz, aC0, aC2, aSw, aCat1, aCuts, aSet_eq, List.take, List.drop, List.reverse_cons, List.reverse_nil, List.nil_append, List.cons_append, List.length_cons, List.length_nil, Option.toList, true_and, and_true, Nat.reduceAdd, Nat.reduceEqDiff, Nat.reduceLT, Nat.reduceLeDiff, Nat.zero_add, Nat.add_zero, if_true, if_false, ite_true, ite_false, reduceIte, reduceCtorEq, true_or, or_true, not_true_eq_false, not_false_eq_true, false_and, and_false, true_implies, false_implies, not_false_eq_true, bqX2_becomeWhole_0, blX2_becomeWhole_0, bqX2_becomeWhole_10, blX2_becomeWhole_10, bqX2_becomeWhole_15, blX2_becomeWhole_15, bqX2_becomeWhole_16, blX2_becomeWhole_16, bqX2_becomeWhole_19, blX2_becomeWhole_19, bqX2_becomeWhole_27, blX2_becomeWhole_27, bqX2_becomeWhole_34, blX2_becomeWhole_34, bqX2_becomeWhole_38, blX2_becomeWhole_38, bqX2_becomeWhole_39, blX2_becomeWhole_39, bqX2_becomeWhole_42, blX2_becomeWhole_42, hge, e]
      refine ⟨_, _, _, _, hb.callV lvX2_31 (w_sign h2 hf false) rfl (h2.frac hf) (by decide) (by decide) (by decide), ?_, fun _ _ _ h => h.elim⟩
      rintro _ O3 A3 ⟨rfl, h3⟩
      refine hb.run (aCuts [19, 27, 42] J) 60 42 _ _ _ _ _ _ (aCuts_ok _) ?_
      simp only [↓wpi_isub, ↓wpi_lsub, ↓wpi_ineg, ↓wpi_lneg, ↓wpi_irem, ↓wpi_lrem, ↓wpi_iinc, wp1, wp, wpl, wpi, lget, lput1, lput2, ltail, lkill, aV, aVl, aNth, aPut, aFz, aC0, aC2, aSw, aCat1, aCuts, aSet_eq, List.take, List.drop, List.reverse_cons, List.reverse_nil, List.nil_append, List.cons_append, List.length_cons, List.length_nil, Option.toList, true_and, and_true, Nat.reduceAdd, Nat.reduceEqDiff, Nat.reduceLT, Nat.reduceLeDiff, Nat.zero_add, Nat.add_zero, if_true, if_false, ite_true, ite_false, reduceIte, reduceCtorEq, true_or, or_true, not_true_eq_false, not_false_eq_true, false_and, and_false, true_implies, false_implies, not_false_eq_true, bqX2_becomeWhole_0, blX2_becomeWhole_0, bqX2_becomeWhole_10, blX2_becomeWhole_10, bqX2_becomeWhole_15, blX2_becomeWhole_15, bqX2_becomeWhole_16, blX2_becomeWhole_16, bqX2_becomeWhole_19, blX2_becomeWhole_19, bqX2_becomeWhole_27, blX2_becomeWhole_27, bqX2_becomeWhole_34, blX2_becomeWhole_34, bqX2_becomeWhole_38, blX2_becomeWhole_38, bqX2_becomeWhole_39, blX2_becomeWhole_39, bqX2_becomeWhole_42, blX2_becomeWhole_42]
      refine hb.vret ⟨rfl, ?_⟩ (by decide) (by decide)
      rw [decide_eq_false (by omega)]; exact h3
    · have e : ((((0 : Nat) : Int)) ≤ z) = False := by simp; omega
      simp only [↓wpi_isub, ↓wpi_lsub, ↓wpi_ineg, ↓wpi_lneg, ↓wpi_irem, ↓wpi_lrem, ↓wpi_iinc, wp1, wp, wpl, wpi, lget, lput1, lput2, ltail, lkill, aV, aVl, aNth, aPut, aFz, aC0, aC2, aSw, aCat1, aCuts, aSet_eq, List.take, List.drop, List.reverse_cons, List.reverse_nil, List.nil_append, List.cons_append, List.length_cons, List.length_nil, Option.toList, true_and, and_true, Nat.reduceAdd, Nat.reduceEqDiff, Nat.reduceLT, Nat.reduceLeDiff, Nat.zero_add, Nat.add_zero, if_true, if_false, ite_true, ite_false, reduceIte, reduceCtorEq, true_or, or_true, not_true_eq_false, not_false_eq_true, false_and, and_false, true_implies, false_implies, not_false_eq_true, bqX2_becomeWhole_0, blX2_becomeWhole_0, bqX2_becomeWhole_10, blX2_becomeWhole_10, bqX2_becomeWhole_15, blX2_becomeWhole_15, bqX2_becomeWhole_16, blX2_becomeWhole_16, bqX2_becomeWhole_19, blX2_becomeWhole_19, bqX2_becomeWhole_27, blX2_becomeWhole_27, bqX2_becomeWhole_34, blX2_becomeWhole_34, bqX2_becomeWhole_38, blX2_becomeWhole_38, bqX2_becomeWhole_39, blX2_becomeWhole_39, bqX2_becomeWhole_42, blX2_becomeWhole_42, hge, e]
      refine ⟨_, _, _, _, hb.callV lvX2_31 (w_sign h2 hf true) rfl (h2.frac hf) (by decide) (by decide) (by decide), ?_, fun _ _ _ h => h.elim⟩
      rintro _ O3 A3 ⟨rfl, h3⟩
      refine hb.run (aCuts [19, 27, 42] J) 60 42 _ _ _ _ _ _ (aCuts_ok _) ?_
      simp only [↓wpi_isub, ↓wpi_lsub, ↓wpi_ineg, ↓wpi_lneg, ↓wpi_irem, ↓wpi_lrem, ↓wpi_iinc, wp1, wp, wpl, wpi, lget, lput1, lput2, ltail, lkill, aV, aVl, aNth, aPut, aFz, aC0, aC2, aSw, aCat1, aCuts, aSet_eq, List.take, List.drop, List.reverse_cons, List.reverse_nil, List.nil_append, List.cons_append, List.length_cons, List.length_nil, Option.toList, true_and, and_true, Nat.reduceAdd, Nat.reduceEqDiff, Nat.reduceLT, Nat.reduceLeDiff, Nat.zero_add, Nat.add_zero, if_true, if_false, ite_true, ite_false, reduceIte, reduceCtorEq, true_or, or_true, not_true_eq_false, not_false_eq_true, false_and, and_false, true_implies, false_implies, not_false_eq_true, bqX2_becomeWhole_0, blX2_becomeWhole_0, bqX2_becomeWhole_10, blX2_becomeWhole_10, bqX2_becomeWhole_15, blX2_becomeWhole_15, bqX2_becomeWhole_16, blX2_becomeWhole_16, bqX2_becomeWhole_19, blX2_becomeWhole_19, bqX2_becomeWhole_27, blX2_becomeWhole_27, bqX2_becomeWhole_34, blX2_becomeWhole_34, bqX2_becomeWhole_38, blX2_becomeWhole_38, bqX2_becomeWhole_39, blX2_becomeWhole_39, bqX2_becomeWhole_42, blX2_becomeWhole_42]
      refine hb.vret ⟨rfl, ?_⟩ (by decide) (by decide)
      rw [rU_ne (by omega), rU_eq, decide_eq_true (show z.natAbs ≠ 0 by omega)] at h3
      rw [decide_eq_true (by omega)]; exact h3
  refine hb.run (aCuts [19, 27, 42] J) 60 0 _ _ _ _ _ _ (aCuts_ok _) ?_
  by_cases hz : (0 : Int) ≤ z
  · have e : ((((0 : Nat) : Int)) ≤ z) = True := by simp; exact hz
    simp only [↓wpi_isub, ↓wpi_lsub, ↓wpi_ineg, ↓wpi_lneg, ↓wpi_irem, ↓wpi_lrem, ↓wpi_iinc, wp1, wp, wpl, wpi, lget, lput1, lput2, ltail, lkill, aV, aVl, aNth, aPut, aFz, aC0, aC2, aSw, aCat1, aCuts, aSet_eq, List.take, List.drop, List.reverse_cons, List.reverse_nil, List.nil_append, List.cons_append, List.length_cons, List.length_nil, Option.toList, true_and, and_true, Nat.reduceAdd, Nat.reduceEqDiff, Nat.reduceLT, Nat.reduceLeDiff, Nat.zero_add, Nat.add_zero, if_true, if_false, ite_true, ite_false, reduceIte, reduceCtorEq, true_or, or_true, not_true_eq_false, not_false_eq_true, false_and, and_false, true_implies, false_implies, not_false_eq_true, bqX2_becomeWhole_0, blX2_becomeWhole_0, bqX2_becomeWhole_10, blX2_becomeWhole_10, bqX2_becomeWhole_15, blX2_becomeWhole_15, bqX2_becomeWhole_16, blX2_becomeWhole_16, bqX2_becomeWhole_19, blX2_becomeWhole_19, bqX2_becomeWhole_27, blX2_becomeWhole_27, bqX2_becomeWhole_34, blX2_becomeWhole_34, bqX2_becomeWhole_38, blX2_becomeWhole_38, bqX2_becomeWhole_39, blX2_becomeWhole_39, bqX2_becomeWhole_42, blX2_becomeWhole_42, aArgs, List.replicate, hF, hge, e]
    rw [show (Value.long (lZ z) : Value) = .long (lN z.natAbs) by rw [lZ_abs hz]]
    refine ⟨_, _, _, _, hb.callW lvX2_35 (w_become h (i := 2 * f) (w := z.natAbs) (by omega) (by omega)) rfl (h.rO (by omega)) (by decide) (by decide) (by decide), ?_, fun _ _ _ h => h.elim⟩
    rintro _ O1 A1 ⟨rfl, h1⟩
    rw [← lZ_abs hz]
    exact go h1
  · have e : ((((0 : Nat) : Int)) ≤ z) = False := by simp; omega
    simp only [↓wpi_isub, ↓wpi_lsub, ↓wpi_ineg, ↓wpi_lneg, ↓wpi_irem, ↓wpi_lrem, ↓wpi_iinc, wp1, wp, wpl, wpi, lget, lput1, lput2, ltail, lkill, aV, aVl, aNth, aPut, aFz, aC0, aC2, aSw, aCat1, aCuts, aSet_eq, List.take, List.drop, List.reverse_cons, List.reverse_nil, List.nil_append, List.cons_append, List.length_cons, List.length_nil, Option.toList, true_and, and_true, Nat.reduceAdd, Nat.reduceEqDiff, Nat.reduceLT, Nat.reduceLeDiff, Nat.zero_add, Nat.add_zero, if_true, if_false, ite_true, ite_false, reduceIte, reduceCtorEq, true_or, or_true, not_true_eq_false, not_false_eq_true, false_and, and_false, true_implies, false_implies, not_false_eq_true, bqX2_becomeWhole_0, blX2_becomeWhole_0, bqX2_becomeWhole_10, blX2_becomeWhole_10, bqX2_becomeWhole_15, blX2_becomeWhole_15, bqX2_becomeWhole_16, blX2_becomeWhole_16, bqX2_becomeWhole_19, blX2_becomeWhole_19, bqX2_becomeWhole_27, blX2_becomeWhole_27, bqX2_becomeWhole_34, blX2_becomeWhole_34, bqX2_becomeWhole_38, blX2_becomeWhole_38, bqX2_becomeWhole_39, blX2_becomeWhole_39, bqX2_becomeWhole_42, blX2_becomeWhole_42, aArgs, List.replicate, hF, hge, e, lZ_neg, lZ_abs (show 0 ≤ -z by omega), Int.natAbs_neg]
    refine ⟨_, _, _, _, hb.callW lvX2_35 (w_become h (i := 2 * f) (w := z.natAbs) (by omega) (by omega)) rfl (h.rO (by omega)) (by decide) (by decide) (by decide), ?_, fun _ _ _ h => h.elim⟩
    rintro _ O1 A1 ⟨rfl, h1⟩
    exact go h1
set_option maxHeartbeats 1000000 in
theorem w_appendDigit (h : cW tA Z ρ sg N O0 A0 O A) (hf : f < 3) {x : Nat} (hx : x < 16) (hmax : ρ (2 * f) * 10 + x < 2147483648 ^ 20) : aMet l G base tA yX5_appendDigit cX5_appendDigit 2 (some .boolean) { frames := 2, cells := 0, slots := 0, locals := 25 } [.int (nI x), .ref (Z (30 + f))] O A (fun r O' A' => (9 < x ∧ r = some (.int (nI 0)) ∧ O' = O ∧ A' = A) ∨ (x ≤ 9 ∧ r = some (.int (nI 1)) ∧ cW tA Z (rU ρ (2 * f) (ρ (2 * f) * 10 + x)) sg N O0 A0 O' A')) := by
  refine aMet_of (ini := false) (B := aLook bkX5_appendDigit) (by decide) (fun h => by first | rfl | cases h) (Nat.le_of_ble_eq_true rfl) boX5_appendDigit ?_
  intro E J hb
  have hF := h.frac hf
  refine hb.run (aCuts [18] J) 60 0 _ _ _ _ _ _ (aCuts_ok _) ?_
  by_cases hx9 : x ≤ 9
  · simp only [↓wpi_isub, ↓wpi_lsub, ↓wpi_ineg, ↓wpi_lneg, ↓wpi_irem, ↓wpi_lrem, ↓wpi_iinc, wp1, wp, wpl, wpi, lget, lput1, lput2, ltail, lkill, aV, aVl, aNth, aPut, aFz, aC0, aC2, aSw, aCat1, aCuts, aSet_eq, List.take, List.drop, List.reverse_cons, List.reverse_nil, List.nil_append, List.cons_append, List.length_cons, List.length_nil, Option.toList, true_and, and_true, Nat.reduceAdd, Nat.reduceEqDiff, Nat.reduceLT, Nat.reduceLeDiff, Nat.zero_add, Nat.add_zero, if_true, if_false, ite_true, ite_false, reduceIte, reduceCtorEq, true_or, or_true, not_true_eq_false, not_false_eq_true, false_and, and_false, true_implies, false_implies, not_false_eq_true, bqX5_appendDigit_0, blX5_appendDigit_0, bqX5_appendDigit_6, blX5_appendDigit_6, bqX5_appendDigit_8, blX5_appendDigit_8, bqX5_appendDigit_18, blX5_appendDigit_18, aArgs, List.replicate, hF, nI_leP (show x < 2 ^ 31 by omega) (show 9 < 2 ^ 31 by decide), hx9]
    refine ⟨_, _, _, _, hb.callW lvX5_122 (w_timesPlus h (i := 2 * f) (f := 10) (m := x) (by omega) (by decide) (by decide) (by omega) hmax) rfl (h.rO (by omega)) (by decide) (by decide) (by decide), ?_, fun _ _ _ h => h.elim⟩
    rintro _ O1 A1 ⟨rfl, h1⟩
    refine hb.run (aCuts [18] J) 60 18 _ _ _ _ _ _ (aCuts_ok _) ?_
    simp only [↓wpi_isub, ↓wpi_lsub, ↓wpi_ineg, ↓wpi_lneg, ↓wpi_irem, ↓wpi_lrem, ↓wpi_iinc, wp1, wp, wpl, wpi, lget, lput1, lput2, ltail, lkill, aV, aVl, aNth, aPut, aFz, aC0, aC2, aSw, aCat1, aCuts, aSet_eq, List.take, List.drop, List.reverse_cons, List.reverse_nil, List.nil_append, List.cons_append, List.length_cons, List.length_nil, Option.toList, true_and, and_true, Nat.reduceAdd, Nat.reduceEqDiff, Nat.reduceLT, Nat.reduceLeDiff, Nat.zero_add, Nat.add_zero, if_true, if_false, ite_true, ite_false, reduceIte, reduceCtorEq, true_or, or_true, not_true_eq_false, not_false_eq_true, false_and, and_false, true_implies, false_implies, not_false_eq_true, bqX5_appendDigit_0, blX5_appendDigit_0, bqX5_appendDigit_6, blX5_appendDigit_6, bqX5_appendDigit_8, blX5_appendDigit_8, bqX5_appendDigit_18, blX5_appendDigit_18]
    exact hb.iret nar_b1 (Or.inr ⟨hx9, rfl, h1⟩) (by decide) (by decide)
  · simp only [↓wpi_isub, ↓wpi_lsub, ↓wpi_ineg, ↓wpi_lneg, ↓wpi_irem, ↓wpi_lrem, ↓wpi_iinc, wp1, wp, wpl, wpi, lget, lput1, lput2, ltail, lkill, aV, aVl, aNth, aPut, aFz, aC0, aC2, aSw, aCat1, aCuts, aSet_eq, List.take, List.drop, List.reverse_cons, List.reverse_nil, List.nil_append, List.cons_append, List.length_cons, List.length_nil, Option.toList, true_and, and_true, Nat.reduceAdd, Nat.reduceEqDiff, Nat.reduceLT, Nat.reduceLeDiff, Nat.zero_add, Nat.add_zero, if_true, if_false, ite_true, ite_false, reduceIte, reduceCtorEq, true_or, or_true, not_true_eq_false, not_false_eq_true, false_and, and_false, true_implies, false_implies, not_false_eq_true, bqX5_appendDigit_0, blX5_appendDigit_0, bqX5_appendDigit_6, blX5_appendDigit_6, bqX5_appendDigit_8, blX5_appendDigit_8, bqX5_appendDigit_18, blX5_appendDigit_18, aArgs, List.replicate, hF, nI_leP (show x < 2 ^ 31 by omega) (show 9 < 2 ^ 31 by decide), hx9]
    exact hb.iret nar_b0 (Or.inl ⟨by omega, rfl, rfl, rfl⟩) (by decide) (by decide)
set_option maxHeartbeats 1000000 in
theorem w_takeSign (h : cW tA Z ρ sg N O0 A0 O A) (hf : f < 3) {s : Nat} (hs : s ≤ 2) : aMet l G base tA yX5_takeSign cX5_takeSign 2 (some .boolean) rmZ [.int (sgI s), .ref (Z (30 + f))] O A (fun r O' A' => r = some (.int (bI (decide (s ≠ 0)))) ∧ cW tA Z ρ (bU sg f (decide (s = 2))) N O0 A0 O' A') := by
  refine aMet_of (ini := false) (B := aLook bkX5_takeSign) (by decide) (fun h => by first | rfl | cases h) (Nat.le_of_ble_eq_true rfl) boX5_takeSign ?_
  intro E J hb
  have hF := h.frac hf
  refine hb.run (aCuts [] J) 60 0 _ _ _ _ _ _ (aCuts_ok _) ?_
  obtain rfl | rfl | rfl : s = 0 ∨ s = 1 ∨ s = 2 := by omega
  · have e : sgI 0 = nI 0 := rfl
    simp only [↓wpi_isub, ↓wpi_lsub, ↓wpi_ineg, ↓wpi_lneg, ↓wpi_irem, ↓wpi_lrem, ↓wpi_iinc, wp1, wp, wpl, wpi, lget, lput1, lput2, ltail, lkill, aV, aVl, aNth, aPut, aFz, aC0, aC2, aSw, aCat1, aCuts, aSet_eq, List.take, List.drop, List.reverse_cons, List.reverse_nil, List.nil_append, List.cons_append, List.length_cons, List.length_nil, Option.toList, true_and, and_true, Nat.reduceAdd, Nat.reduceEqDiff, Nat.reduceLT, Nat.reduceLeDiff, Nat.zero_add, Nat.add_zero, if_true, if_false, ite_true, ite_false, reduceIte, reduceCtorEq, true_or, or_true, not_true_eq_false, not_false_eq_true, false_and, and_false, true_implies, false_implies, not_false_eq_true, bqX5_takeSign_0, blX5_takeSign_0, bqX5_takeSign_6, blX5_takeSign_6, bqX5_takeSign_10, blX5_takeSign_10, bqX5_takeSign_11, blX5_takeSign_11, bqX5_takeSign_18, blX5_takeSign_18, bqX5_takeSign_22, blX5_takeSign_22, bqX5_takeSign_23, blX5_takeSign_23, aArgs, List.replicate, hF, e, n0_m1, n0_0]
    exact hb.iret nar_b0 ⟨rfl, h.sgn (b := false) hf⟩ (by decide) (by decide)
  · have e : sgI 1 = nI 1 := rfl
    simp only [↓wpi_isub, ↓wpi_lsub, ↓wpi_ineg, ↓wpi_lneg, ↓wpi_irem, ↓wpi_lrem, ↓wpi_iinc, wp1, wp, wpl, wpi, lget, lput1, lput2, ltail, lkill, aV, aVl, aNth, aPut, aFz, aC0, aC2, aSw, aCat1, aCuts, aSet_eq, List.take, List.drop, List.reverse_cons, List.reverse_nil, List.nil_append, List.cons_append, List.length_cons, List.length_nil, Option.toList, true_and, and_true, Nat.reduceAdd, Nat.reduceEqDiff, Nat.reduceLT, Nat.reduceLeDiff, Nat.zero_add, Nat.add_zero, if_true, if_false, ite_true, ite_false, reduceIte, reduceCtorEq, true_or, or_true, not_true_eq_false, not_false_eq_true, false_and, and_false, true_implies, false_implies, not_false_eq_true, bqX5_takeSign_0, blX5_takeSign_0, bqX5_takeSign_6, blX5_takeSign_6, bqX5_takeSign_10, blX5_takeSign_10, bqX5_takeSign_11, blX5_takeSign_11, bqX5_takeSign_18, blX5_takeSign_18, bqX5_takeSign_22, blX5_takeSign_22, bqX5_takeSign_23, blX5_takeSign_23, aArgs, List.replicate, hF, e, n1_m1, n0_0, n1_0]
    exact hb.iret nar_b1 ⟨rfl, h.sgn (b := false) hf⟩ (by decide) (by decide)
  · have e : sgI 2 = -nI 1 := rfl
    simp only [↓wpi_isub, ↓wpi_lsub, ↓wpi_ineg, ↓wpi_lneg, ↓wpi_irem, ↓wpi_lrem, ↓wpi_iinc, wp1, wp, wpl, wpi, lget, lput1, lput2, ltail, lkill, aV, aVl, aNth, aPut, aFz, aC0, aC2, aSw, aCat1, aCuts, aSet_eq, List.take, List.drop, List.reverse_cons, List.reverse_nil, List.nil_append, List.cons_append, List.length_cons, List.length_nil, Option.toList, true_and, and_true, Nat.reduceAdd, Nat.reduceEqDiff, Nat.reduceLT, Nat.reduceLeDiff, Nat.zero_add, Nat.add_zero, if_true, if_false, ite_true, ite_false, reduceIte, reduceCtorEq, true_or, or_true, not_true_eq_false, not_false_eq_true, false_and, and_false, true_implies, false_implies, not_false_eq_true, bqX5_takeSign_0, blX5_takeSign_0, bqX5_takeSign_6, blX5_takeSign_6, bqX5_takeSign_10, blX5_takeSign_10, bqX5_takeSign_11, blX5_takeSign_11, bqX5_takeSign_18, blX5_takeSign_18, bqX5_takeSign_22, blX5_takeSign_22, bqX5_takeSign_23, blX5_takeSign_23, aArgs, List.replicate, hF, e, m1_eq, m1_ne0, n1_0, n1_1]
    exact hb.iret nar_b1 ⟨rfl, h.sgn (b := true) hf⟩ (by decide) (by decide)
set_option maxHeartbeats 1000000 in
theorem ct_X5_signOfNibble {x : Nat} (hx : x < 16) : aMet l G base tA yX5_signOfNibble cX5_signOfNibble 1 (some .int) rmZ [.int (nI x)] O A (fun r O' A' => r = some (.int (sgI (sgNib x))) ∧ O' = O ∧ A' = A) := by
  refine aMet_of (ini := false) (B := aLook bkX5_signOfNibble) (by decide) (fun h => by first | rfl | cases h) (Nat.le_of_ble_eq_true rfl) boX5_signOfNibble ?_
  intro E J hb
  refine hb.run (aCuts [] J) 60 0 _ _ _ _ _ _ (aCuts_ok _) ?_
  simp only [↓wpi_isub, ↓wpi_lsub, ↓wpi_ineg, ↓wpi_lneg, ↓wpi_irem, ↓wpi_lrem, ↓wpi_iinc, wp1, wp, wpl, wpi, lget, lput1, lput2, ltail, lkill, aV, aVl, aNth, aPut, aFz, aC0, aC2, aSw, aCat1, aCuts, aSet_eq, List.take, List.drop, List.reverse_cons, List.reverse_nil, List.nil_append, List.cons_append, List.length_cons, List.length_nil, Option.toList, true_and, and_true, Nat.reduceAdd, Nat.reduceEqDiff, Nat.reduceLT, Nat.reduceLeDiff, Nat.zero_add, Nat.add_zero, if_true, if_false, ite_true, ite_false, reduceIte, reduceCtorEq, true_or, or_true, not_true_eq_false, not_false_eq_true, false_and, and_false, true_implies, false_implies, not_false_eq_true, bqX5_signOfNibble_0, blX5_signOfNibble_0, bqX5_signOfNibble_6, blX5_signOfNibble_6, bqX5_signOfNibble_8, blX5_signOfNibble_8, bqX5_signOfNibble_14, blX5_signOfNibble_14, bqX5_signOfNibble_20, blX5_signOfNibble_20, bqX5_signOfNibble_24, blX5_signOfNibble_24, bqX5_signOfNibble_25, blX5_signOfNibble_25, aArgs, List.replicate, nI_leP (show 10 < 2 ^ 31 by decide) (show x < 2 ^ 31 by omega), nI_c (show x < 2 ^ 31 by omega) (show 11 < 2 ^ 31 by decide), nI_c (show x < 2 ^ 31 by omega) (show 13 < 2 ^ 31 by decide)]
  have e : sgNib x = if x < 10 then 0 else if x = 11 ∨ x = 13 then 2 else 1 := rfl
  repeat' (apply And.intro <;> intro h)
  all_goals first | exact hb.iret (nar_i _) ⟨by rw [e, if_pos (by omega)]; rfl, rfl, rfl⟩ (by decide) (by decide) | exact hb.iret (nar_i _) ⟨by rw [e, if_neg (by omega), if_pos (by omega)]; rfl, rfl, rfl⟩ (by decide) (by decide) | exact hb.iret (nar_i _) ⟨by rw [e, if_neg (by omega), if_neg (by omega)]; rfl, rfl, rfl⟩ (by decide) (by decide)
set_option maxHeartbeats 1000000 in
theorem ct_X5_signOfByte {x p m : Nat} (hx : x < 256) (hp : p < 256) (hm : m < 256) : aMet l G base tA yX5_signOfByte cX5_signOfByte 3 (some .int) rmZ [.int (nI x), .int (nI p), .int (nI m)] O A (fun r O' A' => r = some (.int (sgI (sgOct x p m))) ∧ O' = O ∧ A' = A) := by
  refine aMet_of (ini := false) (B := aLook bkX5_signOfByte) (by decide) (fun h => by first | rfl | cases h) (Nat.le_of_ble_eq_true rfl) boX5_signOfByte ?_
  intro E J hb
  refine hb.run (aCuts [] J) 60 0 _ _ _ _ _ _ (aCuts_ok _) ?_
  simp only [↓wpi_isub, ↓wpi_lsub, ↓wpi_ineg, ↓wpi_lneg, ↓wpi_irem, ↓wpi_lrem, ↓wpi_iinc, wp1, wp, wpl, wpi, lget, lput1, lput2, ltail, lkill, aV, aVl, aNth, aPut, aFz, aC0, aC2, aSw, aCat1, aCuts, aSet_eq, List.take, List.drop, List.reverse_cons, List.reverse_nil, List.nil_append, List.cons_append, List.length_cons, List.length_nil, Option.toList, true_and, and_true, Nat.reduceAdd, Nat.reduceEqDiff, Nat.reduceLT, Nat.reduceLeDiff, Nat.zero_add, Nat.add_zero, if_true, if_false, ite_true, ite_false, reduceIte, reduceCtorEq, true_or, or_true, not_true_eq_false, not_false_eq_true, false_and, and_false, true_implies, false_implies, not_false_eq_true, bqX5_signOfByte_0, blX5_signOfByte_0, bqX5_signOfByte_5, blX5_signOfByte_5, bqX5_signOfByte_9, blX5_signOfByte_9, bqX5_signOfByte_14, blX5_signOfByte_14, bqX5_signOfByte_18, blX5_signOfByte_18, bqX5_signOfByte_19, blX5_signOfByte_19, aArgs, List.replicate, nI_c (show x < 2 ^ 31 by omega) (show p < 2 ^ 31 by omega), nI_c (show x < 2 ^ 31 by omega) (show m < 2 ^ 31 by omega)]
  have e : sgOct x p m = if x = p then 1 else if x = m then 2 else 0 := rfl
  repeat' (apply And.intro <;> intro h)
  all_goals first | exact hb.iret (nar_i _) ⟨by rw [e, if_pos (by omega)]; rfl, rfl, rfl⟩ (by decide) (by decide) | exact hb.iret (nar_i _) ⟨by rw [e, if_neg (by omega), if_pos (by omega)]; rfl, rfl, rfl⟩ (by decide) (by decide) | exact hb.iret (nar_i _) ⟨by rw [e, if_neg (by omega), if_neg (by omega)]; rfl, rfl, rfl⟩ (by decide) (by decide)
theorem p10_lt {d : Nat} (h : d ≤ 100) : 10 ^ d < 2147483648 ^ 20 := Nat.lt_of_le_of_lt (Nat.pow_le_pow_right (by decide) h) (by decide +kernel)
theorem cmpI_ge {x y : Nat} : (0 ≤ cmpI x y) = (y ≤ x) := cmpI_neg
set_option maxHeartbeats 1000000 in
theorem w_belowTenTo (h : cW tA Z ρ sg N O0 A0 O A) (hj : j < 15) (hj6 : j ≠ 6) {d : Nat} (hd : d ≤ 31) : aMet l G base tA yX5_belowTenTo cX5_belowTenTo 3 (some .boolean) { frames := 3, cells := 0, slots := 0, locals := 90 } [.ref (Z 33), .int (nI d), .ref (Z j)] O A (fun r O' A' => r = some (.int (bI (decide (ρ j < 10 ^ d)))) ∧ cW tA Z (rU ρ 6 (10 ^ d)) sg N O0 A0 O' A') := by
  refine aMet_of (ini := false) (B := aLook bkX5_belowTenTo) (by decide) (fun h => by first | rfl | cases h) (Nat.le_of_ble_eq_true rfl) boX5_belowTenTo ?_
  intro E J hb
  refine hb.run (aCuts [8, 16, 24] J) 60 0 _ _ _ _ _ _ (aCuts_ok _) ?_
  simp only [↓wpi_isub, ↓wpi_lsub, ↓wpi_ineg, ↓wpi_lneg, ↓wpi_irem, ↓wpi_lrem, ↓wpi_iinc, wp1, wp, wpl, wpi, lget, lput1, lput2, ltail, lkill, aV, aVl, aNth, aPut, aFz, aC0, aC2, aSw, aCat1, aCuts, aSet_eq, List.take, List.drop, List.reverse_cons, List.reverse_nil, List.nil_append, List.cons_append, List.length_cons, List.length_nil, Option.toList, true_and, and_true, Nat.reduceAdd, Nat.reduceEqDiff, Nat.reduceLT, Nat.reduceLeDiff, Nat.zero_add, Nat.add_zero, if_true, if_false, ite_true, ite_false, reduceIte, reduceCtorEq, true_or, or_true, not_true_eq_false, not_false_eq_true, false_and, and_false, true_implies, false_implies, not_false_eq_true, bqX5_belowTenTo_0, blX5_belowTenTo_0, bqX5_belowTenTo_8, blX5_belowTenTo_8, bqX5_belowTenTo_16, blX5_belowTenTo_16, bqX5_belowTenTo_24, blX5_belowTenTo_24, bqX5_belowTenTo_27, blX5_belowTenTo_27, bqX5_belowTenTo_31, blX5_belowTenTo_31, bqX5_belowTenTo_32, blX5_belowTenTo_32, aArgs, List.replicate, h.rdr]
  refine ⟨_, _, _, _, hb.callW lvX5_27 (w_become h (i := 6) (w := 1) (by decide) (by decide)) rfl (h.rO (by decide)) (by decide) (by decide) (by decide), ?_, fun _ _ _ h => h.elim⟩
  rintro _ O1 A1 ⟨rfl, h1⟩
  refine hb.run (aCuts [8, 16, 24] J) 60 8 _ _ _ _ _ _ (aCuts_ok _) ?_
  simp only [↓wpi_isub, ↓wpi_lsub, ↓wpi_ineg, ↓wpi_lneg, ↓wpi_irem, ↓wpi_lrem, ↓wpi_iinc, wp1, wp, wpl, wpi, lget, lput1, lput2, ltail, lkill, aV, aVl, aNth, aPut, aFz, aC0, aC2, aSw, aCat1, aCuts, aSet_eq, List.take, List.drop, List.reverse_cons, List.reverse_nil, List.nil_append, List.cons_append, List.length_cons, List.length_nil, Option.toList, true_and, and_true, Nat.reduceAdd, Nat.reduceEqDiff, Nat.reduceLT, Nat.reduceLeDiff, Nat.zero_add, Nat.add_zero, if_true, if_false, ite_true, ite_false, reduceIte, reduceCtorEq, true_or, or_true, not_true_eq_false, not_false_eq_true, false_and, and_false, true_implies, false_implies, not_false_eq_true, bqX5_belowTenTo_0, blX5_belowTenTo_0, bqX5_belowTenTo_8, blX5_belowTenTo_8, bqX5_belowTenTo_16, blX5_belowTenTo_16, bqX5_belowTenTo_24, blX5_belowTenTo_24, bqX5_belowTenTo_27, blX5_belowTenTo_27, bqX5_belowTenTo_31, blX5_belowTenTo_31, bqX5_belowTenTo_32, blX5_belowTenTo_32, h1.rdr]
  refine ⟨_, _, _, _, hb.callW lvX5_48 (w_timesTenTo h1 (i := 6) (p := d) (by decide) (by omega) (by rw [rU_eq, Nat.one_mul]; exact p10_lt (by omega))) rfl (h1.rO (by decide)) (by decide) (by decide) (by decide), ?_, fun _ _ _ h => h.elim⟩
  rintro _ O2 A2 ⟨rfl, h2⟩
  rw [rU_rU, rU_eq, Nat.one_mul] at h2
  refine hb.run (aCuts [8, 16, 24] J) 60 16 _ _ _ _ _ _ (aCuts_ok _) ?_
  simp only [↓wpi_isub, ↓wpi_lsub, ↓wpi_ineg, ↓wpi_lneg, ↓wpi_irem, ↓wpi_lrem, ↓wpi_iinc, wp1, wp, wpl, wpi, lget, lput1, lput2, ltail, lkill, aV, aVl, aNth, aPut, aFz, aC0, aC2, aSw, aCat1, aCuts, aSet_eq, List.take, List.drop, List.reverse_cons, List.reverse_nil, List.nil_append, List.cons_append, List.length_cons, List.length_nil, Option.toList, true_and, and_true, Nat.reduceAdd, Nat.reduceEqDiff, Nat.reduceLT, Nat.reduceLeDiff, Nat.zero_add, Nat.add_zero, if_true, if_false, ite_true, ite_false, reduceIte, reduceCtorEq, true_or, or_true, not_true_eq_false, not_false_eq_true, false_and, and_false, true_implies, false_implies, not_false_eq_true, bqX5_belowTenTo_0, blX5_belowTenTo_0, bqX5_belowTenTo_8, blX5_belowTenTo_8, bqX5_belowTenTo_16, blX5_belowTenTo_16, bqX5_belowTenTo_24, blX5_belowTenTo_24, bqX5_belowTenTo_27, blX5_belowTenTo_27, bqX5_belowTenTo_31, blX5_belowTenTo_31, bqX5_belowTenTo_32, blX5_belowTenTo_32, h2.rdr]
  refine ⟨_, _, _, _, hb.callW lvX5_151 (w_against h2 (i := j) (j := 6) hj (by decide)) rfl (h2.rO hj) (by decide) (by decide) (by decide), ?_, fun _ _ _ h => h.elim⟩
  rintro _ O3 A3 ⟨rfl, rfl, rfl⟩
  refine hb.run (aCuts [8, 16, 24] J) 60 24 _ _ _ _ _ _ (aCuts_ok _) ?_
  rw [rU_eq, rU_ne hj6]
  simp only [↓wpi_isub, ↓wpi_lsub, ↓wpi_ineg, ↓wpi_lneg, ↓wpi_irem, ↓wpi_lrem, ↓wpi_iinc, wp1, wp, wpl, wpi, lget, lput1, lput2, ltail, lkill, aV, aVl, aNth, aPut, aFz, aC0, aC2, aSw, aCat1, aCuts, aSet_eq, List.take, List.drop, List.reverse_cons, List.reverse_nil, List.nil_append, List.cons_append, List.length_cons, List.length_nil, Option.toList, true_and, and_true, Nat.reduceAdd, Nat.reduceEqDiff, Nat.reduceLT, Nat.reduceLeDiff, Nat.zero_add, Nat.add_zero, if_true, if_false, ite_true, ite_false, reduceIte, reduceCtorEq, true_or, or_true, not_true_eq_false, not_false_eq_true, false_and, and_false, true_implies, false_implies, not_false_eq_true, bqX5_belowTenTo_0, blX5_belowTenTo_0, bqX5_belowTenTo_8, blX5_belowTenTo_8, bqX5_belowTenTo_16, blX5_belowTenTo_16, bqX5_belowTenTo_24, blX5_belowTenTo_24, bqX5_belowTenTo_27, blX5_belowTenTo_27, bqX5_belowTenTo_31, blX5_belowTenTo_31, bqX5_belowTenTo_32, blX5_belowTenTo_32, cmpI_ge]
  repeat' (apply And.intro <;> intro h)
  all_goals first | exact hb.iret nar_b1 ⟨rB1 (by omega), h2⟩ (by decide) (by decide) | exact hb.iret nar_b0 ⟨rB0 (by omega), h2⟩ (by decide) (by decide)
end FRAC
