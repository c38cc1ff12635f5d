/-! ===== methods without loops: Numeral, Floating, Reader's signs ===== -/
theorem rB1 {P : Prop} [Decidable P] (h : P) : some (Value.int (nI 1)) = some (.int (bI (decide P))) := by rw [decide_eq_true h]; rfl
theorem rB0 {P : Prop} [Decidable P] (h : ¬ P) : some (Value.int (nI 0)) = some (.int (bI (decide P))) := by rw [decide_eq_false h]; rfl
theorem rI {a b : Nat} (h : a = b) : some (Value.int (nI a)) = some (.int (nI b)) := by rw [h]
theorem nI_c {u c : Nat} (hu : u < 2 ^ 31) (hc : c < 2 ^ 31) : (nI u = nI c) = (u = c) := propext (nI_eq hu hc)
theorem nI_c0 {u : Nat} (hu : u < 2 ^ 31) : (nI u = 0) = (u = 0) := propext (nI_z hu)
theorem nI_lt0 {u : Nat} (hu : u < 2 ^ 31) : (nI u < 0) = False := nI_nneg hu
theorem nI_leP {a b : Nat} (ha : a < 2 ^ 31) (hb : b < 2 ^ 31) : (nI a ≤ nI b) = (a ≤ b) := propext (nI_leI ha hb)
theorem nI_ltP {a b : Nat} (ha : a < 2 ^ 31) (hb : b < 2 ^ 31) : (nI a < nI b) = (a < b) := propext (nI_ltI ha hb)
theorem cmp_ge {a b : Nat} (ha : a < 2 ^ 63) (hb : b < 2 ^ 63) : (0 ≤ lg_cmp (lN a) (lN b)) = (b ≤ a) := by rw [eq_iff_iff, lg_cmp_ge, pk_lLE hb ha]
theorem cmp_lt {a b : Nat} (ha : a < 2 ^ 63) (hb : b < 2 ^ 63) : (lg_cmp (lN a) (lN b) < 0) = (a < b) := by rw [eq_iff_iff, lg_cmp_lt, pk_lLT ha hb]
theorem cmp_eq {a b : Nat} (ha : a < 2 ^ 63) (hb : b < 2 ^ 63) : (lg_cmp (lN a) (lN b) = 0) = (a = b) := propext (lg_cmp_z ha hb)
theorem iRem_n {a d : Nat} (ha : a < 2 ^ 31) (h0 : 0 < d) (hd : d < 2 ^ 31) : iRem (nI a) (nI d) = nI (a % d) := by rw [iRem_eq]; exact pk_rem ha h0 hd
theorem nar_by (z : Int32) : vp_nar .byte z = z.toInt8.toInt32 := rfl
theorem by_by (z : Int32) : z.toInt8.toInt32.toInt8.toInt32 = z.toInt8.toInt32 := by simp
theorem bF_255 {g : Nat → Nat} {i : Nat} (h : g i < 256) : bF g i &&& nI 255 = nI (g i) := by
  unfold bF
  rw [show nI 255 = 255 from by decide +kernel, bp_b, pk_andN (by omega) 8 (by decide +kernel), Nat.mod_eq_of_lt h]
theorem by_mod {w : Nat} (h : w < 2 ^ 32) : (nI (w % 256)).toInt8.toInt32 = (nI w).toInt8.toInt32 := by
  congr 1
  apply Int8.toBitVec_inj.mp
  apply BitVec.eq_of_toNat_eq
  simp [Int32.toBitVec_toInt8, BitVec.toNat_signExtend, nI]
section PURE
variable {l : Launch} {G : aG} {base tA : Nat} {O : aO} {A : aA} {a lb u d s ro sz : Nat} {g : Nat → Nat}
set_option maxHeartbeats 1000000 in
theorem ct_X4_floating {fs : List Value} (hO : O a = some (5, .int (nI u) :: fs)) (hu : u ≤ 11) : aMet l G base tA yX4_floating cX4_floating 1 (some .boolean) rmZ [.ref a] O A (fun r O' A' => r = some (.int (bI (decide (u = 9 ∨ u = 10)))) ∧ O' = O ∧ A' = A) := by
  refine aMet_of (ini := false) (B := aLook bkX4_floating) (by decide) (fun h => by first | rfl | cases h) (Nat.le_of_ble_eq_true rfl) boX4_floating ?_
  intro E J hb
  refine hb.run (aCuts [] J) 60 0 _ _ _ _ _ _ (aCuts_ok _) ?_
  simp only [↓wpi_isub, ↓wpi_lsub, ↓wpi_ineg, ↓wpi_lneg, ↓wpi_irem, ↓wpi_lrem, ↓wpi_iinc, wp1, wp, wpl, wpi, lget, lput1, lput2, ltail, lkill, aV, aVl, aNth, aPut, aFz, aC0, aC2, aSw, aCat1, aCuts, aSet_eq, List.take, List.drop, List.reverse_cons, List.reverse_nil, List.nil_append, List.cons_append, List.length_cons, List.length_nil, Option.toList, true_and, and_true, Nat.reduceAdd, Nat.reduceEqDiff, Nat.reduceLT, Nat.reduceLeDiff, Nat.zero_add, Nat.add_zero, if_true, if_false, ite_true, ite_false, reduceIte, reduceCtorEq, true_or, or_true, not_true_eq_false, not_false_eq_true, false_and, and_false, true_implies, false_implies, not_false_eq_true, bqX4_floating_0, blX4_floating_0, bqX4_floating_9, blX4_floating_9, bqX4_floating_18, blX4_floating_18, bqX4_floating_22, blX4_floating_22, bqX4_floating_23, blX4_floating_23, aArgs, List.replicate, hO, nI_c (show u < 2 ^ 31 by omega) (show 9 < 2 ^ 31 by decide), nI_c (show u < 2 ^ 31 by omega) (show 10 < 2 ^ 31 by decide)]
  repeat' (apply And.intro <;> intro h)
  all_goals first | exact hb.iret nar_b1 ⟨rB1 (by omega), rfl, rfl⟩ (by decide) (by decide) | exact hb.iret nar_b0 ⟨rB0 (by omega), rfl, rfl⟩ (by decide) (by decide)
set_option maxHeartbeats 1000000 in
theorem ct_X4_signless {fs : List Value} (hO : O a = some (5, .int (nI u) :: fs)) (hu : u ≤ 11) : aMet l G base tA yX4_signless cX4_signless 1 (some .boolean) rmZ [.ref a] O A (fun r O' A' => r = some (.int (bI (decide (u = 4 ∨ u = 6)))) ∧ O' = O ∧ A' = A) := by
  refine aMet_of (ini := false) (B := aLook bkX4_signless) (by decide) (fun h => by first | rfl | cases h) (Nat.le_of_ble_eq_true rfl) boX4_signless ?_
  intro E J hb
  refine hb.run (aCuts [] J) 60 0 _ _ _ _ _ _ (aCuts_ok _) ?_
  simp only [↓wpi_isub, ↓wpi_lsub, ↓wpi_ineg, ↓wpi_lneg, ↓wpi_irem, ↓wpi_lrem, ↓wpi_iinc, wp1, wp, wpl, wpi, lget, lput1, lput2, ltail, lkill, aV, aVl, aNth, aPut, aFz, aC0, aC2, aSw, aCat1, aCuts, aSet_eq, List.take, List.drop, List.reverse_cons, List.reverse_nil, List.nil_append, List.cons_append, List.length_cons, List.length_nil, Option.toList, true_and, and_true, Nat.reduceAdd, Nat.reduceEqDiff, Nat.reduceLT, Nat.reduceLeDiff, Nat.zero_add, Nat.add_zero, if_true, if_false, ite_true, ite_false, reduceIte, reduceCtorEq, true_or, or_true, not_true_eq_false, not_false_eq_true, false_and, and_false, true_implies, false_implies, not_false_eq_true, bqX4_signless_0, blX4_signless_0, bqX4_signless_8, blX4_signless_8, bqX4_signless_17, blX4_signless_17, bqX4_signless_21, blX4_signless_21, bqX4_signless_22, blX4_signless_22, aArgs, List.replicate, hO, nI_c (show u < 2 ^ 31 by omega) (show 4 < 2 ^ 31 by decide), nI_c (show u < 2 ^ 31 by omega) (show 6 < 2 ^ 31 by decide)]
  repeat' (apply And.intro <;> intro h)
  all_goals first | exact hb.iret nar_b1 ⟨rB1 (by omega), rfl, rfl⟩ (by decide) (by decide) | exact hb.iret nar_b0 ⟨rB0 (by omega), rfl, rfl⟩ (by decide) (by decide)
def sgDig (u d : Nat) : Int32 := if u = 0 then nI (d - 1) else if u = 1 then nI 0 else -nI 1
def sgByt (u d : Nat) : Int32 := if u = 2 then nI d else if u = 3 then nI 0 else -nI 1
set_option maxHeartbeats 1000000 in
theorem ct_X4_signedDigit {fs : List Value} (hO : O a = some (5, .int (nI u) :: .int (nI d) :: fs)) (hu : u ≤ 11) (hd : 1 ≤ d) : aMet l G base tA yX4_signedDigit cX4_signedDigit 1 (some .int) rmZ [.ref a] O A (fun r O' A' => r = some (.int (sgDig u d)) ∧ O' = O ∧ A' = A) := by
  refine aMet_of (ini := false) (B := aLook bkX4_signedDigit) (by decide) (fun h => by first | rfl | cases h) (Nat.le_of_ble_eq_true rfl) boX4_signedDigit ?_
  intro E J hb
  refine hb.run (aCuts [] J) 60 0 _ _ _ _ _ _ (aCuts_ok _) ?_
  simp only [↓wpi_isub, ↓wpi_lsub, ↓wpi_ineg, ↓wpi_lneg, ↓wpi_irem, ↓wpi_lrem, ↓wpi_iinc, wp1, wp, wpl, wpi, lget, lput1, lput2, ltail, lkill, aV, aVl, aNth, aPut, aFz, aC0, aC2, aSw, aCat1, aCuts, aSet_eq, List.take, List.drop, List.reverse_cons, List.reverse_nil, List.nil_append, List.cons_append, List.length_cons, List.length_nil, Option.toList, true_and, and_true, Nat.reduceAdd, Nat.reduceEqDiff, Nat.reduceLT, Nat.reduceLeDiff, Nat.zero_add, Nat.add_zero, if_true, if_false, ite_true, ite_false, reduceIte, reduceCtorEq, true_or, or_true, not_true_eq_false, not_false_eq_true, false_and, and_false, true_implies, false_implies, not_false_eq_true, bqX4_signedDigit_0, blX4_signedDigit_0, bqX4_signedDigit_7, blX4_signedDigit_7, bqX4_signedDigit_16, blX4_signedDigit_16, bqX4_signedDigit_24, blX4_signedDigit_24, bqX4_signedDigit_28, blX4_signedDigit_28, bqX4_signedDigit_29, blX4_signedDigit_29, aArgs, List.replicate, hO, nI_c0 (show u < 2 ^ 31 by omega), nI_c (show u < 2 ^ 31 by omega) (show 1 < 2 ^ 31 by decide), iSub_nn hd, sgDig]
  repeat' (apply And.intro <;> intro h)
  · exact hb.iret (nar_i _) ⟨by unfold sgDig; rw [if_neg (by assumption), if_neg (by assumption)], rfl, rfl⟩ (by decide) (by decide)
  · exact hb.iret (nar_i _) ⟨by unfold sgDig; rw [if_neg (by omega), if_pos (by omega)], rfl, rfl⟩ (by decide) (by decide)
  · exact hb.iret (nar_i _) ⟨by unfold sgDig; rw [if_pos (by omega)], rfl, rfl⟩ (by decide) (by decide)
set_option maxHeartbeats 1000000 in
theorem ct_X4_signByte {fs : List Value} (hO : O a = some (5, .int (nI u) :: .int (nI d) :: fs)) (hu : u ≤ 11) : aMet l G base tA yX4_signByte cX4_signByte 1 (some .int) rmZ [.ref a] O A (fun r O' A' => r = some (.int (sgByt u d)) ∧ O' = O ∧ A' = A) := by
  refine aMet_of (ini := false) (B := aLook bkX4_signByte) (by decide) (fun h => by first | rfl | cases h) (Nat.le_of_ble_eq_true rfl) boX4_signByte ?_
  intro E J hb
  refine hb.run (aCuts [] J) 60 0 _ _ _ _ _ _ (aCuts_ok _) ?_
  simp only [↓wpi_isub, ↓wpi_lsub, ↓wpi_ineg, ↓wpi_lneg, ↓wpi_irem, ↓wpi_lrem, ↓wpi_iinc, wp1, wp, wpl, wpi, lget, lput1, lput2, ltail, lkill, aV, aVl, aNth, aPut, aFz, aC0, aC2, aSw, aCat1, aCuts, aSet_eq, List.take, List.drop, List.reverse_cons, List.reverse_nil, List.nil_append, List.cons_append, List.length_cons, List.length_nil, Option.toList, true_and, and_true, Nat.reduceAdd, Nat.reduceEqDiff, Nat.reduceLT, Nat.reduceLeDiff, Nat.zero_add, Nat.add_zero, if_true, if_false, ite_true, ite_false, reduceIte, reduceCtorEq, true_or, or_true, not_true_eq_false, not_false_eq_true, false_and, and_false, true_implies, false_implies, not_false_eq_true, bqX4_signByte_0, blX4_signByte_0, bqX4_signByte_8, blX4_signByte_8, bqX4_signByte_15, blX4_signByte_15, bqX4_signByte_23, blX4_signByte_23, bqX4_signByte_27, blX4_signByte_27, bqX4_signByte_28, blX4_signByte_28, aArgs, List.replicate, hO, nI_c (show u < 2 ^ 31 by omega) (show 2 < 2 ^ 31 by decide), nI_c (show u < 2 ^ 31 by omega) (show 3 < 2 ^ 31 by decide), sgByt]
  repeat' (apply And.intro <;> intro h)
  · exact hb.iret (nar_i _) ⟨by unfold sgByt; rw [if_neg (by assumption), if_neg (by assumption)], rfl, rfl⟩ (by decide) (by decide)
  · exact hb.iret (nar_i _) ⟨by unfold sgByt; rw [if_neg (by omega), if_pos (by omega)], rfl, rfl⟩ (by decide) (by decide)
  · exact hb.iret (nar_i _) ⟨by unfold sgByt; rw [if_pos (by omega)], rfl, rfl⟩ (by decide) (by decide)
set_option maxHeartbeats 1000000 in
theorem ct_X4_firstZonedByte {fs : List Value} (hO : O a = some (5, .int (nI u) :: fs)) (hu : u ≤ 11) : aMet l G base tA yX4_firstZonedByte cX4_firstZonedByte 1 (some .int) rmZ [.ref a] O A (fun r O' A' => r = some (.int (nI (if u = 3 then 1 else 0))) ∧ O' = O ∧ A' = A) := by
  refine aMet_of (ini := false) (B := aLook bkX4_firstZonedByte) (by decide) (fun h => by first | rfl | cases h) (Nat.le_of_ble_eq_true rfl) boX4_firstZonedByte ?_
  intro E J hb
  refine hb.run (aCuts [] J) 60 0 _ _ _ _ _ _ (aCuts_ok _) ?_
  simp only [↓wpi_isub, ↓wpi_lsub, ↓wpi_ineg, ↓wpi_lneg, ↓wpi_irem, ↓wpi_lrem, ↓wpi_iinc, wp1, wp, wpl, wpi, lget, lput1, lput2, ltail, lkill, aV, aVl, aNth, aPut, aFz, aC0, aC2, aSw, aCat1, aCuts, aSet_eq, List.take, List.drop, List.reverse_cons, List.reverse_nil, List.nil_append, List.cons_append, List.length_cons, List.length_nil, Option.toList, true_and, and_true, Nat.reduceAdd, Nat.reduceEqDiff, Nat.reduceLT, Nat.reduceLeDiff, Nat.zero_add, Nat.add_zero, if_true, if_false, ite_true, ite_false, reduceIte, reduceCtorEq, true_or, or_true, not_true_eq_false, not_false_eq_true, false_and, and_false, true_implies, false_implies, not_false_eq_true, bqX4_firstZonedByte_0, blX4_firstZonedByte_0, bqX4_firstZonedByte_8, blX4_firstZonedByte_8, bqX4_firstZonedByte_12, blX4_firstZonedByte_12, bqX4_firstZonedByte_13, blX4_firstZonedByte_13, aArgs, List.replicate, hO, nI_c (show u < 2 ^ 31 by omega) (show 3 < 2 ^ 31 by decide)]
  repeat' (apply And.intro <;> intro h)
  all_goals first | exact hb.iret (nar_i _) ⟨by rw [if_neg (by omega)], rfl, rfl⟩ (by decide) (by decide) | exact hb.iret (nar_i _) ⟨by rw [if_pos (by omega)], rfl, rfl⟩ (by decide) (by decide)
theorem nI_2 : (nI 2 = 0) = False := by simp only [eq_iff_iff, iff_false]; decide +kernel
set_option maxHeartbeats 1000000 in
theorem ct_X4_packedLead {fs : List Value} (hO : O a = some (5, .int (nI u) :: .int (nI d) :: fs)) (hd : d ≤ 31) : aMet l G base tA yX4_packedLead cX4_packedLead 1 (some .int) rmZ [.ref a] O A (fun r O' A' => r = some (.int (nI (if d % 2 = 0 then 1 else 0))) ∧ O' = O ∧ A' = A) := by
  refine aMet_of (ini := false) (B := aLook bkX4_packedLead) (by decide) (fun h => by first | rfl | cases h) (Nat.le_of_ble_eq_true rfl) boX4_packedLead ?_
  intro E J hb
  refine hb.run (aCuts [] J) 60 0 _ _ _ _ _ _ (aCuts_ok _) ?_
  simp only [↓wpi_isub, ↓wpi_lsub, ↓wpi_ineg, ↓wpi_lneg, ↓wpi_irem, ↓wpi_lrem, ↓wpi_iinc, wp1, wp, wpl, wpi, lget, lput1, lput2, ltail, lkill, aV, aVl, aNth, aPut, aFz, aC0, aC2, aSw, aCat1, aCuts, aSet_eq, List.take, List.drop, List.reverse_cons, List.reverse_nil, List.nil_append, List.cons_append, List.length_cons, List.length_nil, Option.toList, true_and, and_true, Nat.reduceAdd, Nat.reduceEqDiff, Nat.reduceLT, Nat.reduceLeDiff, Nat.zero_add, Nat.add_zero, if_true, if_false, ite_true, ite_false, reduceIte, reduceCtorEq, true_or, or_true, not_true_eq_false, not_false_eq_true, false_and, and_false, true_implies, false_implies, not_false_eq_true, bqX4_packedLead_0, blX4_packedLead_0, bqX4_packedLead_9, blX4_packedLead_9, bqX4_packedLead_13, blX4_packedLead_13, bqX4_packedLead_14, blX4_packedLead_14, aArgs, List.replicate, hO, nI_2, iRem_n (show d < 2 ^ 31 by omega) (show 0 < 2 by decide) (show 2 < 2 ^ 31 by decide), nI_c0 (show d % 2 < 2 ^ 31 by omega)]
  repeat' (apply And.intro <;> intro h)
  all_goals first | exact hb.iret (nar_i _) ⟨by rw [if_neg (by omega)], rfl, rfl⟩ (by decide) (by decide) | exact hb.iret (nar_i _) ⟨by rw [if_pos (by omega)], rfl, rfl⟩ (by decide) (by decide)
set_option maxHeartbeats 1000000 in
theorem ct_X4_get {v0 v1 v2 : Value} {fs : List Value} (hO : O a = some (5, v0 :: v1 :: v2 :: .ref lb :: fs)) (hA : A lb = some (1, sz, .inl (bF g))) {i : Nat} (hi : i < sz) (hs : sz ≤ 64) (hg : g i < 256) : aMet l G base tA yX4_get cX4_get 2 (some .int) rmZ [.ref a, .int (nI i)] O A (fun r O' A' => r = some (.int (nI (g i))) ∧ O' = O ∧ A' = A) := by
  refine aMet_of (ini := false) (B := aLook bkX4_get) (by decide) (fun h => by first | rfl | cases h) (Nat.le_of_ble_eq_true rfl) boX4_get ?_
  intro E J hb
  refine hb.run (aCuts [] J) 60 0 _ _ _ _ _ _ (aCuts_ok _) ?_
  have e1 : (nI sz ≤ nI i) = False := by rw [nI_leP (by omega) (by omega)]; simp; omega
  have e2 : vp_in (nI i) sz := vp_in_nI hi (by omega)
  simp only [↓wpi_isub, ↓wpi_lsub, ↓wpi_ineg, ↓wpi_lneg, ↓wpi_irem, ↓wpi_lrem, ↓wpi_iinc, wp1, wp, wpl, wpi, lget, lput1, lput2, ltail, lkill, aV, aVl, aNth, aPut, aFz, aC0, aC2, aSw, aCat1, aCuts, aSet_eq, List.take, List.drop, List.reverse_cons, List.reverse_nil, List.nil_append, List.cons_append, List.length_cons, List.length_nil, Option.toList, true_and, and_true, Nat.reduceAdd, Nat.reduceEqDiff, Nat.reduceLT, Nat.reduceLeDiff, Nat.zero_add, Nat.add_zero, if_true, if_false, ite_true, ite_false, reduceIte, reduceCtorEq, true_or, or_true, not_true_eq_false, not_false_eq_true, false_and, and_false, true_implies, false_implies, not_false_eq_true, bqX4_get_0, blX4_get_0, bqX4_get_4, blX4_get_4, bqX4_get_13, blX4_get_13, bqX4_get_26, blX4_get_26, bqX4_get_27, blX4_get_27, aArgs, List.replicate, hO, hA, nI_lt0 (show i < 2 ^ 31 by omega), e1, e2, nI_clamp (show i < 2 ^ 31 by omega), bF_255 hg]
  exact hb.iret (nar_i _) ⟨rfl, rfl, rfl⟩ (by decide) (by decide)
set_option maxHeartbeats 1000000 in
theorem ct_X4_put {v0 v1 v2 : Value} {fs : List Value} (hO : O a = some (5, v0 :: v1 :: v2 :: .ref lb :: fs)) (hA : A lb = some (1, sz, .inl (bF g))) {i : Nat} {x : Int32} (hi : i < sz) (hs : sz ≤ 64) : aMet l G base tA yX4_put cX4_put 3 none rmZ [.ref a, .int (nI i), .int x] O A (fun r O' A' => r = none ∧ O' = O ∧ A' = aSet A lb (1, sz, .inl (upd (bF g) i x.toInt8.toInt32))) := by
  refine aMet_of (ini := false) (B := aLook bkX4_put) (by decide) (fun h => by first | rfl | cases h) (Nat.le_of_ble_eq_true rfl) boX4_put ?_
  intro E J hb
  refine hb.run (aCuts [] J) 60 0 _ _ _ _ _ _ (aCuts_ok _) ?_
  have e1 : (nI sz ≤ nI i) = False := by rw [nI_leP (by omega) (by omega)]; simp; omega
  have e2 : vp_in (nI i) sz := vp_in_nI hi (by omega)
  simp only [↓wpi_isub, ↓wpi_lsub, ↓wpi_ineg, ↓wpi_lneg, ↓wpi_irem, ↓wpi_lrem, ↓wpi_iinc, wp1, wp, wpl, wpi, lget, lput1, lput2, ltail, lkill, aV, aVl, aNth, aPut, aFz, aC0, aC2, aSw, aCat1, aCuts, aSet_eq, List.take, List.drop, List.reverse_cons, List.reverse_nil, List.nil_append, List.cons_append, List.length_cons, List.length_nil, Option.toList, true_and, and_true, Nat.reduceAdd, Nat.reduceEqDiff, Nat.reduceLT, Nat.reduceLeDiff, Nat.zero_add, Nat.add_zero, if_true, if_false, ite_true, ite_false, reduceIte, reduceCtorEq, true_or, or_true, not_true_eq_false, not_false_eq_true, false_and, and_false, true_implies, false_implies, not_false_eq_true, bqX4_put_0, blX4_put_0, bqX4_put_4, blX4_put_4, bqX4_put_13, blX4_put_13, bqX4_put_21, blX4_put_21, aArgs, List.replicate, hO, hA, nI_lt0 (show i < 2 ^ 31 by omega), e1, e2, nI_clamp (show i < 2 ^ 31 by omega), nar_by, by_by]
  exact hb.vret ⟨rfl, rfl, rfl⟩ (by decide) (by decide)
def nibOf (g : Nat → Nat) (i : Nat) : Nat := if i % 2 = 0 then g (i / 2) / 16 else g (i / 2) % 16
theorem shr4 {n : Nat} (h : n < 2 ^ 31) : nI n >>> (nI 4 &&& 31) = nI (n / 16) := pk_shrN h _ 4 (by decide +kernel)
theorem and15 {n : Nat} (h : n < 2 ^ 32) : nI n &&& nI 15 = nI (n % 16) := pk_andN h 4 (by decide +kernel)
set_option maxHeartbeats 1000000 in
theorem ct_X4_nibble {v0 v1 v2 : Value} {fs : List Value} (hO : O a = some (5, v0 :: v1 :: v2 :: .ref lb :: fs)) (hA : A lb = some (1, sz, .inl (bF g))) {i : Nat} (hi : i < 2 * sz) (hs : sz ≤ 64) (hg : g (i / 2) < 256) : aMet l G base tA yX4_nibble cX4_nibble 3 (some .int) rmA [.ref a, .int (nI i)] O A (fun r O' A' => r = some (.int (nI (nibOf g i))) ∧ O' = O ∧ A' = A) := by
  refine aMet_of (ini := false) (B := aLook bkX4_nibble) (by decide) (fun h => by first | rfl | cases h) (Nat.le_of_ble_eq_true rfl) boX4_nibble ?_
  intro E J hb
  refine hb.run (aCuts [7] J) 60 0 _ _ _ _ _ _ (aCuts_ok _) ?_
  simp only [↓wpi_isub, ↓wpi_lsub, ↓wpi_ineg, ↓wpi_lneg, ↓wpi_irem, ↓wpi_lrem, ↓wpi_iinc, wp1, wp, wpl, wpi, lget, lput1, lput2, ltail, lkill, aV, aVl, aNth, aPut, aFz, aC0, aC2, aSw, aCat1, aCuts, aSet_eq, List.take, List.drop, List.reverse_cons, List.reverse_nil, List.nil_append, List.cons_append, List.length_cons, List.length_nil, Option.toList, true_and, and_true, Nat.reduceAdd, Nat.reduceEqDiff, Nat.reduceLT, Nat.reduceLeDiff, Nat.zero_add, Nat.add_zero, if_true, if_false, ite_true, ite_false, reduceIte, reduceCtorEq, true_or, or_true, not_true_eq_false, not_false_eq_true, false_and, and_false, true_implies, false_implies, not_false_eq_true, bqX4_nibble_0, blX4_nibble_0, bqX4_nibble_7, blX4_nibble_7, bqX4_nibble_14, blX4_nibble_14, bqX4_nibble_20, blX4_nibble_20, bqX4_nibble_24, blX4_nibble_24, aArgs, List.replicate, nI_2, pk_div (show i < 2 ^ 31 by omega) (show 0 < 2 by decide) (show 2 < 2 ^ 31 by decide)]
  refine ⟨_, _, _, _, hb.callV lvX4_34 (ct_X4_get hO hA (i := i / 2) (by omega) hs hg) rfl hO (by decide) (by decide) (by decide), ?_, fun _ _ _ h => h.elim⟩
  rintro _ O' A' ⟨rfl, rfl, rfl⟩
  refine hb.run (aCuts [7] J) 60 7 _ _ _ _ _ _ (aCuts_ok _) ?_
  simp only [↓wpi_isub, ↓wpi_lsub, ↓wpi_ineg, ↓wpi_lneg, ↓wpi_irem, ↓wpi_lrem, ↓wpi_iinc, wp1, wp, wpl, wpi, lget, lput1, lput2, ltail, lkill, aV, aVl, aNth, aPut, aFz, aC0, aC2, aSw, aCat1, aCuts, aSet_eq, List.take, List.drop, List.reverse_cons, List.reverse_nil, List.nil_append, List.cons_append, List.length_cons, List.length_nil, Option.toList, true_and, and_true, Nat.reduceAdd, Nat.reduceEqDiff, Nat.reduceLT, Nat.reduceLeDiff, Nat.zero_add, Nat.add_zero, if_true, if_false, ite_true, ite_false, reduceIte, reduceCtorEq, true_or, or_true, not_true_eq_false, not_false_eq_true, false_and, and_false, true_implies, false_implies, not_false_eq_true, bqX4_nibble_0, blX4_nibble_0, bqX4_nibble_7, blX4_nibble_7, bqX4_nibble_14, blX4_nibble_14, bqX4_nibble_20, blX4_nibble_20, bqX4_nibble_24, blX4_nibble_24, nI_2, iRem_n (show i < 2 ^ 31 by omega) (show 0 < 2 by decide) (show 2 < 2 ^ 31 by decide), nI_c0 (show i % 2 < 2 ^ 31 by omega), shr4 (show g (i / 2) < 2 ^ 31 by omega), and15 (show g (i / 2) < 2 ^ 32 by omega), nibOf]
  repeat' (apply And.intro <;> intro h)
  · exact hb.iret (nar_i _) ⟨by unfold nibOf; rw [if_neg h], rfl, rfl⟩ (by decide) (by decide)
  · exact hb.iret (nar_i _) ⟨by unfold nibOf; rw [if_pos (by omega)], rfl, rfl⟩ (by decide) (by decide)
/-- a byte with one half changed -/
def nibUp (b i v : Nat) : Nat := if i % 2 = 0 then v * 16 + b % 16 else b / 16 * 16 + v
theorem or_nib {x y : Nat} (hx : x < 16) (hy : y < 16) : nI (x * 16) ||| nI y = nI (x * 16 + y) := by
  have : ∀ x, x < 16 → ∀ y, y < 16 → nI (x * 16) ||| nI y = nI (x * 16 + y) := by decide +kernel
  exact this x hx y hy
theorem and240 {n : Nat} (h : n < 256) : nI n &&& nI 240 = nI (n / 16 * 16) := by
  have : ∀ n, n < 256 → nI n &&& nI 240 = nI (n / 16 * 16) := by decide +kernel
  exact this n h
theorem shl4 {n : Nat} (h : n < 16) : nI n <<< (nI 4 &&& 31) = nI (n * 16) := pk_shlN _ 4 (by decide +kernel) (by omega)
set_option maxHeartbeats 1000000 in
theorem ct_X4_putNibble {v0 v1 v2 : Value} {fs : List Value} (hO : O a = some (5, v0 :: v1 :: v2 :: .ref lb :: fs)) (hA : A lb = some (1, sz, .inl (bF g))) {i v : Nat} (hi : i < 2 * sz) (hs : sz ≤ 64) (hv : v < 16) (hg : g (i / 2) < 256) : aMet l G base tA yX4_putNibble cX4_putNibble 4 none rmA [.ref a, .int (nI i), .int (nI v)] O A (fun r O' A' => r = none ∧ O' = O ∧ A' = aSet A lb (1, sz, .inl (upd (bF g) (i / 2) (nI (nibUp (g (i / 2)) i v)).toInt8.toInt32))) := by
  refine aMet_of (ini := false) (B := aLook bkX4_putNibble) (by decide) (fun h => by first | rfl | cases h) (Nat.le_of_ble_eq_true rfl) boX4_putNibble ?_
  intro E J hb
  refine hb.run (aCuts [7, 39] J) 60 0 _ _ _ _ _ _ (aCuts_ok _) ?_
  simp only [↓wpi_isub, ↓wpi_lsub, ↓wpi_ineg, ↓wpi_lneg, ↓wpi_irem, ↓wpi_lrem, ↓wpi_iinc, wp1, wp, wpl, wpi, lget, lput1, lput2, ltail, lkill, aV, aVl, aNth, aPut, aFz, aC0, aC2, aSw, aCat1, aCuts, aSet_eq, List.take, List.drop, List.reverse_cons, List.reverse_nil, List.nil_append, List.cons_append, List.length_cons, List.length_nil, Option.toList, true_and, and_true, Nat.reduceAdd, Nat.reduceEqDiff, Nat.reduceLT, Nat.reduceLeDiff, Nat.zero_add, Nat.add_zero, if_true, if_false, ite_true, ite_false, reduceIte, reduceCtorEq, true_or, or_true, not_true_eq_false, not_false_eq_true, false_and, and_false, true_implies, false_implies, not_false_eq_true, bqX4_putNibble_0, blX4_putNibble_0, bqX4_putNibble_7, blX4_putNibble_7, bqX4_putNibble_18, blX4_putNibble_18, bqX4_putNibble_29, blX4_putNibble_29, bqX4_putNibble_36, blX4_putNibble_36, bqX4_putNibble_39, blX4_putNibble_39, aArgs, List.replicate, nI_2, pk_div (show i < 2 ^ 31 by omega) (show 0 < 2 by decide) (show 2 < 2 ^ 31 by decide)]
  refine ⟨_, _, _, _, hb.callV lvX4_34 (ct_X4_get hO hA (i := i / 2) (by omega) hs hg) rfl hO (by decide) (by decide) (by decide), ?_, fun _ _ _ h => h.elim⟩
  rintro _ O' A' ⟨rfl, rfl, rfl⟩
  refine hb.run (aCuts [7, 39] J) 60 7 _ _ _ _ _ _ (aCuts_ok _) ?_
  simp only [↓wpi_isub, ↓wpi_lsub, ↓wpi_ineg, ↓wpi_lneg, ↓wpi_irem, ↓wpi_lrem, ↓wpi_iinc, wp1, wp, wpl, wpi, lget, lput1, lput2, ltail, lkill, aV, aVl, aNth, aPut, aFz, aC0, aC2, aSw, aCat1, aCuts, aSet_eq, List.take, List.drop, List.reverse_cons, List.reverse_nil, List.nil_append, List.cons_append, List.length_cons, List.length_nil, Option.toList, true_and, and_true, Nat.reduceAdd, Nat.reduceEqDiff, Nat.reduceLT, Nat.reduceLeDiff, Nat.zero_add, Nat.add_zero, if_true, if_false, ite_true, ite_false, reduceIte, reduceCtorEq, true_or, or_true, not_true_eq_false, not_false_eq_true, false_and, and_false, true_implies, false_implies, not_false_eq_true, bqX4_putNibble_0, blX4_putNibble_0, bqX4_putNibble_7, blX4_putNibble_7, bqX4_putNibble_18, blX4_putNibble_18, bqX4_putNibble_29, blX4_putNibble_29, bqX4_putNibble_36, blX4_putNibble_36, bqX4_putNibble_39, blX4_putNibble_39, nI_2, pk_div (show i < 2 ^ 31 by omega) (show 0 < 2 by decide) (show 2 < 2 ^ 31 by decide), iRem_n (show i < 2 ^ 31 by omega) (show 0 < 2 by decide) (show 2 < 2 ^ 31 by decide), nI_c0 (show i % 2 < 2 ^ 31 by omega), shl4 hv, and15 (show g (i / 2) < 2 ^ 32 by omega), and240 hg, or_nib hv (show g (i / 2) % 16 < 16 by omega), or_nib (show g (i / 2) / 16 < 16 by omega) hv]
  repeat' (apply And.intro <;> intro h)
  · refine ⟨_, _, _, _, hb.callV lvX4_38 (ct_X4_put hO hA (i := i / 2) (by omega) hs) rfl hO (by decide) (by decide) (by decide), ?_, fun _ _ _ h => h.elim⟩
    rintro _ O' A' ⟨rfl, rfl, rfl⟩
    refine hb.run (aCuts [7, 39] J) 60 39 _ _ _ _ _ _ (aCuts_ok _) ?_
    simp only [↓wpi_isub, ↓wpi_lsub, ↓wpi_ineg, ↓wpi_lneg, ↓wpi_irem, ↓wpi_lrem, ↓wpi_iinc, wp1, wp, wpl, wpi, lget, lput1, lput2, ltail, lkill, aV, aVl, aNth, aPut, aFz, aC0, aC2, aSw, aCat1, aCuts, aSet_eq, List.take, List.drop, List.reverse_cons, List.reverse_nil, List.nil_append, List.cons_append, List.length_cons, List.length_nil, Option.toList, true_and, and_true, Nat.reduceAdd, Nat.reduceEqDiff, Nat.reduceLT, Nat.reduceLeDiff, Nat.zero_add, Nat.add_zero, if_true, if_false, ite_true, ite_false, reduceIte, reduceCtorEq, true_or, or_true, not_true_eq_false, not_false_eq_true, false_and, and_false, true_implies, false_implies, not_false_eq_true, bqX4_putNibble_0, blX4_putNibble_0, bqX4_putNibble_7, blX4_putNibble_7, bqX4_putNibble_18, blX4_putNibble_18, bqX4_putNibble_29, blX4_putNibble_29, bqX4_putNibble_36, blX4_putNibble_36, bqX4_putNibble_39, blX4_putNibble_39]
    exact hb.vret ⟨rfl, rfl, by unfold nibUp; rw [if_neg h]⟩ (by decide) (by decide)
  · refine ⟨_, _, _, _, hb.callV lvX4_38 (ct_X4_put hO hA (i := i / 2) (by omega) hs) rfl hO (by decide) (by decide) (by decide), ?_, fun _ _ _ h => h.elim⟩
    rintro _ O' A' ⟨rfl, rfl, rfl⟩
    refine hb.run (aCuts [7, 39] J) 60 39 _ _ _ _ _ _ (aCuts_ok _) ?_
    simp only [↓wpi_isub, ↓wpi_lsub, ↓wpi_ineg, ↓wpi_lneg, ↓wpi_irem, ↓wpi_lrem, ↓wpi_iinc, wp1, wp, wpl, wpi, lget, lput1, lput2, ltail, lkill, aV, aVl, aNth, aPut, aFz, aC0, aC2, aSw, aCat1, aCuts, aSet_eq, List.take, List.drop, List.reverse_cons, List.reverse_nil, List.nil_append, List.cons_append, List.length_cons, List.length_nil, Option.toList, true_and, and_true, Nat.reduceAdd, Nat.reduceEqDiff, Nat.reduceLT, Nat.reduceLeDiff, Nat.zero_add, Nat.add_zero, if_true, if_false, ite_true, ite_false, reduceIte, reduceCtorEq, true_or, or_true, not_true_eq_false, not_false_eq_true, false_and, and_false, true_implies, false_implies, not_false_eq_true, bqX4_putNibble_0, blX4_putNibble_0, bqX4_putNibble_7, blX4_putNibble_7, bqX4_putNibble_18, blX4_putNibble_18, bqX4_putNibble_29, blX4_putNibble_29, bqX4_putNibble_36, blX4_putNibble_36, bqX4_putNibble_39, blX4_putNibble_39]
    exact hb.vret ⟨rfl, rfl, by unfold nibUp; rw [if_pos (by omega)]⟩ (by decide) (by decide)
def fPrec (u : Nat) : Nat := if u = 9 then 24 else 53
def fBias (u : Nat) : Nat := if u = 9 then 127 else 1023
def fLeast (u : Nat) : Nat := if u = 9 then 201445044 else 4143375250170144896
def fEnd (u : Nat) : Nat := if u = 9 then 1929146237 else 5070927765361438757
set_option maxHeartbeats 1000000 in
theorem ct_X1_precision {fs : List Value} (hO : O a = some (5, .int (nI u) :: fs)) (hu : u ≤ 11) : aMet l G base tA yX1_precision cX1_precision 1 (some .int) rmZ [.ref a] O A (fun r O' A' => r = some (.int (nI (fPrec u))) ∧ O' = O ∧ A' = A) := by
  refine aMet_of (ini := false) (B := aLook bkX1_precision) (by decide) (fun h => by first | rfl | cases h) (Nat.le_of_ble_eq_true rfl) boX1_precision ?_
  intro E J hb
  refine hb.run (aCuts [] J) 60 0 _ _ _ _ _ _ (aCuts_ok _) ?_
  simp only [↓wpi_isub, ↓wpi_lsub, ↓wpi_ineg, ↓wpi_lneg, ↓wpi_irem, ↓wpi_lrem, ↓wpi_iinc, wp1, wp, wpl, wpi, lget, lput1, lput2, ltail, lkill, aV, aVl, aNth, aPut, aFz, aC0, aC2, aSw, aCat1, aCuts, aSet_eq, List.take, List.drop, List.reverse_cons, List.reverse_nil, List.nil_append, List.cons_append, List.length_cons, List.length_nil, Option.toList, true_and, and_true, Nat.reduceAdd, Nat.reduceEqDiff, Nat.reduceLT, Nat.reduceLeDiff, Nat.zero_add, Nat.add_zero, if_true, if_false, ite_true, ite_false, reduceIte, reduceCtorEq, true_or, or_true, not_true_eq_false, not_false_eq_true, false_and, and_false, true_implies, false_implies, not_false_eq_true, bqX1_precision_0, blX1_precision_0, bqX1_precision_9, blX1_precision_9, bqX1_precision_14, blX1_precision_14, bqX1_precision_16, blX1_precision_16, aArgs, List.replicate, hO, nI_c (show u < 2 ^ 31 by omega) (show 9 < 2 ^ 31 by decide), fPrec]
  repeat' (apply And.intro <;> intro h)
  all_goals first | exact hb.iret (nar_i _) ⟨by unfold fPrec; rw [if_neg (by omega)], rfl, rfl⟩ (by decide) (by decide) | exact hb.iret (nar_i _) ⟨by unfold fPrec; rw [if_pos (by omega)], rfl, rfl⟩ (by decide) (by decide)
set_option maxHeartbeats 1000000 in
theorem ct_X1_bias {fs : List Value} (hO : O a = some (5, .int (nI u) :: fs)) (hu : u ≤ 11) : aMet l G base tA yX1_bias cX1_bias 1 (some .int) rmZ [.ref a] O A (fun r O' A' => r = some (.int (nI (fBias u))) ∧ O' = O ∧ A' = A) := by
  refine aMet_of (ini := false) (B := aLook bkX1_bias) (by decide) (fun h => by first | rfl | cases h) (Nat.le_of_ble_eq_true rfl) boX1_bias ?_
  intro E J hb
  refine hb.run (aCuts [] J) 60 0 _ _ _ _ _ _ (aCuts_ok _) ?_
  simp only [↓wpi_isub, ↓wpi_lsub, ↓wpi_ineg, ↓wpi_lneg, ↓wpi_irem, ↓wpi_lrem, ↓wpi_iinc, wp1, wp, wpl, wpi, lget, lput1, lput2, ltail, lkill, aV, aVl, aNth, aPut, aFz, aC0, aC2, aSw, aCat1, aCuts, aSet_eq, List.take, List.drop, List.reverse_cons, List.reverse_nil, List.nil_append, List.cons_append, List.length_cons, List.length_nil, Option.toList, true_and, and_true, Nat.reduceAdd, Nat.reduceEqDiff, Nat.reduceLT, Nat.reduceLeDiff, Nat.zero_add, Nat.add_zero, if_true, if_false, ite_true, ite_false, reduceIte, reduceCtorEq, true_or, or_true, not_true_eq_false, not_false_eq_true, false_and, and_false, true_implies, false_implies, not_false_eq_true, bqX1_bias_0, blX1_bias_0, bqX1_bias_9, blX1_bias_9, bqX1_bias_14, blX1_bias_14, bqX1_bias_17, blX1_bias_17, aArgs, List.replicate, hO, nI_c (show u < 2 ^ 31 by omega) (show 9 < 2 ^ 31 by decide), fBias]
  repeat' (apply And.intro <;> intro h)
  all_goals first | exact hb.iret (nar_i _) ⟨by unfold fBias; rw [if_neg (by omega)], rfl, rfl⟩ (by decide) (by decide) | exact hb.iret (nar_i _) ⟨by unfold fBias; rw [if_pos (by omega)], rfl, rfl⟩ (by decide) (by decide)
/-- a long that may be below 0, held against a natural number -/
theorem cmpZ_ge {z : Int} {b : Nat} (h1 : -2 ^ 63 ≤ z) (h2 : z < 2 ^ 63) (hb : b < 2 ^ 63) : (0 ≤ lg_cmp (lZ z) (lN b)) = ((b : Int) ≤ z) := by
  rw [eq_iff_iff, lg_cmp_ge, Int64.le_iff_toInt_le, lZ_toInt h1 h2, pf_lI hb]
theorem cmpZ_lt {z : Int} {b : Nat} (h1 : -2 ^ 63 ≤ z) (h2 : z < 2 ^ 63) (hb : b < 2 ^ 63) : (lg_cmp (lZ z) (lN b) < 0) = (z < (b : Int)) := by
  rw [eq_iff_iff, lg_cmp_lt, Int64.lt_iff_toInt_lt, lZ_toInt h1 h2, pf_lI hb]
set_option maxHeartbeats 1000000 in
theorem ct_X1_tooSmall {fs : List Value} (hO : O a = some (5, .int (nI u) :: fs)) (hu : u ≤ 11) {z : Int} (h1 : -2 ^ 63 ≤ z) (h2 : z < 2 ^ 63) : aMet l G base tA yX1_tooSmall cX1_tooSmall 3 (some .boolean) rmZ [.ref a, .long (lZ z)] O A (fun r O' A' => r = some (.int (bI (decide (z < (fLeast u : Nat))))) ∧ O' = O ∧ A' = A) := by
  refine aMet_of (ini := false) (B := aLook bkX1_tooSmall) (by decide) (fun h => by first | rfl | cases h) (Nat.le_of_ble_eq_true rfl) boX1_tooSmall ?_
  intro E J hb
  refine hb.run (aCuts [] J) 60 0 _ _ _ _ _ _ (aCuts_ok _) ?_
  simp only [↓wpi_isub, ↓wpi_lsub, ↓wpi_ineg, ↓wpi_lneg, ↓wpi_irem, ↓wpi_lrem, ↓wpi_iinc, wp1, wp, wpl, wpi, lget, lput1, lput2, ltail, lkill, aV, aVl, aNth, aPut, aFz, aC0, aC2, aSw, aCat1, aCuts, aSet_eq, List.take, List.drop, List.reverse_cons, List.reverse_nil, List.nil_append, List.cons_append, List.length_cons, List.length_nil, Option.toList, true_and, and_true, Nat.reduceAdd, Nat.reduceEqDiff, Nat.reduceLT, Nat.reduceLeDiff, Nat.zero_add, Nat.add_zero, if_true, if_false, ite_true, ite_false, reduceIte, reduceCtorEq, true_or, or_true, not_true_eq_false, not_false_eq_true, false_and, and_false, true_implies, false_implies, not_false_eq_true, bqX1_tooSmall_0, blX1_tooSmall_0, bqX1_tooSmall_10, blX1_tooSmall_10, bqX1_tooSmall_16, blX1_tooSmall_16, bqX1_tooSmall_19, blX1_tooSmall_19, bqX1_tooSmall_23, blX1_tooSmall_23, bqX1_tooSmall_27, blX1_tooSmall_27, bqX1_tooSmall_28, blX1_tooSmall_28, aArgs, List.replicate, hO, nI_c (show u < 2 ^ 31 by omega) (show 9 < 2 ^ 31 by decide), cmpZ_ge h1 h2 (show 201445044 < 2 ^ 63 by decide), cmpZ_ge h1 h2 (show 4143375250170144896 < 2 ^ 63 by decide), fLeast]
  repeat' (apply And.intro <;> intro h)
  all_goals first | exact hb.iret nar_b1 ⟨rB1 (by unfold fLeast; split <;> omega), rfl, rfl⟩ (by decide) (by decide) | exact hb.iret nar_b0 ⟨rB0 (by unfold fLeast; split <;> omega), rfl, rfl⟩ (by decide) (by decide)
set_option maxHeartbeats 1000000 in
theorem ct_X1_tooGreat {fs : List Value} (hO : O a = some (5, .int (nI u) :: fs)) (hu : u ≤ 11) {z : Int} (h1 : -2 ^ 63 ≤ z) (h2 : z < 2 ^ 63) : aMet l G base tA yX1_tooGreat cX1_tooGreat 3 (some .boolean) rmZ [.ref a, .long (lZ z)] O A (fun r O' A' => r = some (.int (bI (decide (((fEnd u : Nat) : Int) ≤ z)))) ∧ O' = O ∧ A' = A) := by
  refine aMet_of (ini := false) (B := aLook bkX1_tooGreat) (by decide) (fun h => by first | rfl | cases h) (Nat.le_of_ble_eq_true rfl) boX1_tooGreat ?_
  intro E J hb
  refine hb.run (aCuts [] J) 60 0 _ _ _ _ _ _ (aCuts_ok _) ?_
  simp only [↓wpi_isub, ↓wpi_lsub, ↓wpi_ineg, ↓wpi_lneg, ↓wpi_irem, ↓wpi_lrem, ↓wpi_iinc, wp1, wp, wpl, wpi, lget, lput1, lput2, ltail, lkill, aV, aVl, aNth, aPut, aFz, aC0, aC2, aSw, aCat1, aCuts, aSet_eq, List.take, List.drop, List.reverse_cons, List.reverse_nil, List.nil_append, List.cons_append, List.length_cons, List.length_nil, Option.toList, true_and, and_true, Nat.reduceAdd, Nat.reduceEqDiff, Nat.reduceLT, Nat.reduceLeDiff, Nat.zero_add, Nat.add_zero, if_true, if_false, ite_true, ite_false, reduceIte, reduceCtorEq, true_or, or_true, not_true_eq_false, not_false_eq_true, false_and, and_false, true_implies, false_implies, not_false_eq_true, bqX1_tooGreat_0, blX1_tooGreat_0, bqX1_tooGreat_10, blX1_tooGreat_10, bqX1_tooGreat_16, blX1_tooGreat_16, bqX1_tooGreat_19, blX1_tooGreat_19, bqX1_tooGreat_23, blX1_tooGreat_23, bqX1_tooGreat_27, blX1_tooGreat_27, bqX1_tooGreat_28, blX1_tooGreat_28, aArgs, List.replicate, hO, nI_c (show u < 2 ^ 31 by omega) (show 9 < 2 ^ 31 by decide), cmpZ_lt h1 h2 (show 1929146237 < 2 ^ 63 by decide), cmpZ_lt h1 h2 (show 5070927765361438757 < 2 ^ 63 by decide), fEnd]
  repeat' (apply And.intro <;> intro h)
  all_goals first | exact hb.iret nar_b1 ⟨rB1 (by unfold fEnd; split <;> omega), rfl, rfl⟩ (by decide) (by decide) | exact hb.iret nar_b0 ⟨rB0 (by unfold fEnd; split <;> omega), rfl, rfl⟩ (by decide) (by decide)
end PURE
