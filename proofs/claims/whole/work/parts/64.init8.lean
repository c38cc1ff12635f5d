/-! ===== the object's constructor ===== -/
theorem bI_f0 : bI false = 0 := by decide +kernel
def zCode : List Nat := [24, 26, 29, 31, 34, 36, 2, 5, 7, 9, 11, 15, 17, 19, 21, 25, 27, 30, 32, 35, 37, 3, 6, 8, 10, 12, 16, 18, 20, 22, 23, 28, 33, 1, 4, 13, 14, 38, 0, 39]
def zVal (a t : Nat) (Q : Nat → Nat) (c : Nat) : Nat := if c < 38 then Q c else if c = 38 then a else t
def zZ (a t : Nat) (Q : Nat → Nat) (i : Nat) : Nat := zVal a t Q (zCode.getD i 0)
theorem zCode_inj : ∀ i, i < 40 → ∀ j, j < 40 → zCode.getD i 0 = zCode.getD j 0 → i = j := by decide
theorem zCode_lt : ∀ i, i < 40 → zCode.getD i 0 < 40 := by decide
theorem zCode_sur : ∀ c, c < 39 → ∃ i, i < 40 ∧ zCode.getD i 0 = c := by decide
theorem zVal_inj {a t : Nat} {Q : Nat → Nat} (h1 : ∀ i j, i < j → j < 38 → Q i < Q j) (h2 : ∀ i, i < 38 → a < Q i) (h3 : ∀ i, i < 38 → t < Q i) (h4 : t ≠ a) {c d : Nat} (hc : c < 40) (hd : d < 40) (e : zVal a t Q c = zVal a t Q d) : c = d := by
  unfold zVal at e
  by_cases c1 : c < 38
  · rw [if_pos c1] at e
    by_cases d1 : d < 38
    · rw [if_pos d1] at e
      rcases Nat.lt_trichotomy c d with q | q | q
      · have := h1 c d q d1; omega
      · exact q
      · have := h1 d c q c1; omega
    · rw [if_neg d1] at e
      have := h2 c c1; have := h3 c c1
      split at e <;> omega
  · rw [if_neg c1] at e
    by_cases d1 : d < 38
    · rw [if_pos d1] at e
      have := h2 d d1; have := h3 d d1
      split at e <;> omega
    · rw [if_neg d1] at e
      split at e <;> split at e <;> omega
theorem wfN0 : wfN (fun _ _ => 0) := ⟨by decide, fun k hk => absurd hk (Nat.not_lt_zero k), fun _ _ => ⟨rfl, rfl, rfl, rfl, rfl⟩, fun _ _ => ⟨(by decide : 0 < 256), fun _ => rfl⟩⟩
section INI8
variable {l : Launch} {G : aG} {base tA : Nat} {O0 : aO} {A : aA} {a : Nat}
abbrev rmN8 : Room := { frames := 4, cells := 40, slots := 420, locals := 120 }
set_option maxHeartbeats 16000000 in
theorem ct_X8_init {tf : Nat → Int32} (ht : A tA = some (4, 10, .inl tf)) (htf : ∀ k, k < 10 → tf k = nI (10 ^ k)) (hta : tA ≠ a) : aMet l G base tA yX8_init cX8_init 1 none rmN8 [.ref a] (aSet O0 a (9, [.null, .int 0, .null, .null, .null, .null, .null, .null])) A (fun r O' A' => r = none ∧ ∃ Z, Z 37 = a ∧ Z 39 = tA ∧ (∀ i, i < 40 → i ≠ 37 → i ≠ 39 → ∀ x, usd (aSet O0 a (9, [.null, .int 0, .null, .null, .null, .null, .null, .null])) A x → x < Z i) ∧ cW tA Z (fun _ => 0) (fun _ => false) (fun _ _ => 0) O0 A O' A') := by
  refine aMet_of (ini := true) (B := aLook bkX8_init) (by decide) (fun h => by first | rfl | cases h) (Nat.le_of_ble_eq_true rfl) boX8_init ?_
  intro E J hb
  obtain ⟨O, hO9⟩ : ∃ O, O = aSet O0 a (9, [.null, .int 0, .null, .null, .null, .null, .null, .null]) := ⟨_, rfl⟩
  have hO : O a = some (9, [.null, .int 0, .null, .null, .null, .null, .null, .null]) := by rw [hO9]; exact aSet_eq
  rw [← hO9]
  refine hb.run (aCuts [4, 21, 32, 43, 54, 65, 76] J) 60 0 _ _ _ _ _ _ (aCuts_ok _) ?_
  simp only [↓wpi_isub, ↓wpi_lsub, ↓wpi_ineg, ↓wpi_lneg, ↓wpi_irem, ↓wpi_lrem, ↓wpi_iinc, wp1, wp, wpl, wpi, lget, lput1, lput2, ltail, lkill, aV, aVl, aNth, aPut, aFz, aC0, aC2, aSw, aCat1, aCuts, aSet_eq, List.take, List.drop, List.reverse_cons, List.reverse_nil, List.nil_append, List.cons_append, List.length_cons, List.length_nil, Option.toList, true_and, and_true, Nat.reduceAdd, Nat.reduceEqDiff, Nat.reduceLT, Nat.reduceLeDiff, Nat.zero_add, Nat.add_zero, if_true, if_false, ite_true, ite_false, reduceIte, reduceCtorEq, true_or, or_true, not_true_eq_false, not_false_eq_true, false_and, and_false, true_implies, false_implies, not_false_eq_true, bqX8_init_0, blX8_init_0, bqX8_init_4, blX8_init_4, bqX8_init_21, blX8_init_21, bqX8_init_32, blX8_init_32, bqX8_init_43, blX8_init_43, bqX8_init_54, blX8_init_54, bqX8_init_65, blX8_init_65, bqX8_init_76, blX8_init_76, aArgs, List.replicate]
  refine ⟨_, _, _, _, hb.objInit loX8_1 (by decide) (by decide), ?_, fun _ _ _ h => h.elim⟩
  rintro _ O' A' ⟨rfl, e1, e2⟩
  rw [e1, e2]
  refine hb.run (aCuts [4, 21, 32, 43, 54, 65, 76] J) 60 4 _ _ _ _ _ _ (aCuts_ok _) ?_
  simp only [↓wpi_isub, ↓wpi_lsub, ↓wpi_ineg, ↓wpi_lneg, ↓wpi_irem, ↓wpi_lrem, ↓wpi_iinc, wp1, wp, wpl, wpi, lget, lput1, lput2, ltail, lkill, aV, aVl, aNth, aPut, aFz, aC0, aC2, aSw, aCat1, aCuts, aSet_eq, List.take, List.drop, List.reverse_cons, List.reverse_nil, List.nil_append, List.cons_append, List.length_cons, List.length_nil, Option.toList, true_and, and_true, Nat.reduceAdd, Nat.reduceEqDiff, Nat.reduceLT, Nat.reduceLeDiff, Nat.zero_add, Nat.add_zero, if_true, if_false, ite_true, ite_false, reduceIte, reduceCtorEq, true_or, or_true, not_true_eq_false, not_false_eq_true, false_and, and_false, true_implies, false_implies, not_false_eq_true, bqX8_init_0, blX8_init_0, bqX8_init_4, blX8_init_4, bqX8_init_21, blX8_init_21, bqX8_init_32, blX8_init_32, bqX8_init_43, blX8_init_43, bqX8_init_54, blX8_init_54, bqX8_init_65, blX8_init_65, bqX8_init_76, blX8_init_76, hb.rc, hb.rs, aBl, hO]
  refine ⟨64, rfl, by decide, by decide, ?_⟩
  intro pA fA gA
  have hA9 : a ≠ pA := by have := fA a (by rw [hO]; simp); omega
  have W0 : nwP a 1 (fun _ => pA) O A (aSet O a (9, [.ref pA, .int 0, .null, .null, .null, .null, .null, .null])) (aSet A pA (3, 64, .inr (.inr (.inr (.inr fun _ => none))))) := ⟨fun x i hi hu => hu.elim (fA x) (gA x), fun i j _ hj => by omega, fun x hx hn => ⟨aSet_ne hx, aSet_ne (hn 0 (by omega))⟩⟩
  have k0 : aSet A pA (3, 64, .inr (.inr (.inr (.inr fun _ => (none : Option Nat))))) pA = some (3, 64, .inr (.inr (.inr (.inr fun _ => none)))) := aSet_eq
  repeat (refine And.intro (by decide) ?_)
  intro p1 f1 g1
  have ha1 : a ≠ p1 := by have := f1 a (by rw [aSet_eq]; simp); omega
  refine ⟨_, _, _, _, hb.callI liX8_17 (ct_X5_init (a := p1) aSet_eq) rfl (by decide) (by decide) (by decide), ?_, fun _ _ _ h => h.elim⟩
  rintro _ O1 A1 ⟨rfl, r1, w1, bA1, bN1⟩
  have hO1 : O1 a = some (9, [.ref pA, .int 0, .null, .null, .null, .null, .null, .null]) := w1.kO (by rw [aSet_ne ha1]; exact aSet_eq) ha1
  have fr1 : ∀ i, i < 2 → r1 i ≠ a := fun i hi e => by
    have h1 := w1.1 p1 i hi (Or.inl (by rw [aSet_eq]; simp))
    have h2 := f1 a (by rw [aSet_eq]; simp)
    omega
  refine hb.run (aCuts [4, 21, 32, 43, 54, 65, 76] J) 60 21 _ _ _ _ _ _ (aCuts_ok _) ?_
  simp only [↓wpi_isub, ↓wpi_lsub, ↓wpi_ineg, ↓wpi_lneg, ↓wpi_irem, ↓wpi_lrem, ↓wpi_iinc, wp1, wp, wpl, wpi, lget, lput1, lput2, ltail, lkill, aV, aVl, aNth, aPut, aFz, aC0, aC2, aSw, aCat1, aCuts, aSet_eq, List.take, List.drop, List.reverse_cons, List.reverse_nil, List.nil_append, List.cons_append, List.length_cons, List.length_nil, Option.toList, true_and, and_true, Nat.reduceAdd, Nat.reduceEqDiff, Nat.reduceLT, Nat.reduceLeDiff, Nat.zero_add, Nat.add_zero, if_true, if_false, ite_true, ite_false, reduceIte, reduceCtorEq, true_or, or_true, not_true_eq_false, not_false_eq_true, false_and, and_false, true_implies, false_implies, not_false_eq_true, bqX8_init_0, blX8_init_0, bqX8_init_4, blX8_init_4, bqX8_init_21, blX8_init_21, bqX8_init_32, blX8_init_32, bqX8_init_43, blX8_init_43, bqX8_init_54, blX8_init_54, bqX8_init_65, blX8_init_65, bqX8_init_76, blX8_init_76, hb.rc, hb.rs, aBl, hO1]
  have W1 := nwP.obj (e' := (9, [.ref pA, .int 0, .ref p1, .null, .null, .null, .null, .null])) f1 g1 w1 (by rw [aSet_eq]; simp)
  have c1 := (aSet_ne (f := O1) (a := a) (e := (9, [.ref pA, .int 0, .ref p1, .null, .null, .null, .null, .null])) (Ne.symm ha1)).trans bA1
  have mbN1 := bN1.set (a := a) (e := (9, [.ref pA, .int 0, .ref p1, .null, .null, .null, .null, .null])) (fr1 0 (by decide))
  have u1 : ∀ i, i < 2 + 1 → usd (aSet O1 a (9, [.ref pA, .int 0, .ref p1, .null, .null, .null, .null, .null])) A1 (if i = 0 then p1 else r1 (i - 1)) := by
    intro i hi
    obtain rfl | rfl | rfl : i = 0 ∨ i = 1 ∨ i = 2 := by omega
    · exact Or.inl (by rw [show (if (0 : Nat) = 0 then p1 else r1 (0 - 1)) = p1 from rfl, c1]; simp)
    · exact mbN1.uO
    · exact mbN1.uA
  repeat (refine And.intro (by decide) ?_)
  intro p2 f2 g2
  have ha2 : a ≠ p2 := by have := f2 a (by rw [aSet_eq]; simp); omega
  refine ⟨_, _, _, _, hb.callI liX8_24 (ct_X0_init (a := p2) aSet_eq) rfl (by decide) (by decide) (by decide), ?_, fun _ _ _ h => h.elim⟩
  rintro _ O2 A2 ⟨rfl, r2, w2, bA2, bN21, bN22, bN23, bN24⟩
  have hO2 : O2 a = some (9, [.ref pA, .int 0, .ref p1, .null, .null, .null, .null, .null]) := w2.kO (by rw [aSet_ne ha2]; exact aSet_eq) ha2
  have fr2 : ∀ i, i < 8 → r2 i ≠ a := fun i hi e => by
    have h1 := w2.1 p2 i hi (Or.inl (by rw [aSet_eq]; simp))
    have h2 := f2 a (by rw [aSet_eq]; simp)
    omega
  refine hb.run (aCuts [4, 21, 32, 43, 54, 65, 76] J) 60 32 _ _ _ _ _ _ (aCuts_ok _) ?_
  simp only [↓wpi_isub, ↓wpi_lsub, ↓wpi_ineg, ↓wpi_lneg, ↓wpi_irem, ↓wpi_lrem, ↓wpi_iinc, wp1, wp, wpl, wpi, lget, lput1, lput2, ltail, lkill, aV, aVl, aNth, aPut, aFz, aC0, aC2, aSw, aCat1, aCuts, aSet_eq, List.take, List.drop, List.reverse_cons, List.reverse_nil, List.nil_append, List.cons_append, List.length_cons, List.length_nil, Option.toList, true_and, and_true, Nat.reduceAdd, Nat.reduceEqDiff, Nat.reduceLT, Nat.reduceLeDiff, Nat.zero_add, Nat.add_zero, if_true, if_false, ite_true, ite_false, reduceIte, reduceCtorEq, true_or, or_true, not_true_eq_false, not_false_eq_true, false_and, and_false, true_implies, false_implies, not_false_eq_true, bqX8_init_0, blX8_init_0, bqX8_init_4, blX8_init_4, bqX8_init_21, blX8_init_21, bqX8_init_32, blX8_init_32, bqX8_init_43, blX8_init_43, bqX8_init_54, blX8_init_54, bqX8_init_65, blX8_init_65, bqX8_init_76, blX8_init_76, hb.rc, hb.rs, aBl, hO2]
  have W2 := nwP.obj (e' := (9, [.ref pA, .int 0, .ref p1, .ref p2, .null, .null, .null, .null])) f2 g2 w2 (by rw [aSet_eq]; simp)
  have c2 := (aSet_ne (f := O2) (a := a) (e := (9, [.ref pA, .int 0, .ref p1, .ref p2, .null, .null, .null, .null])) (Ne.symm ha2)).trans bA2
  have mbN21 := bN21.set (a := a) (e := (9, [.ref pA, .int 0, .ref p1, .ref p2, .null, .null, .null, .null])) (fr2 0 (by decide))
  have mbN22 := bN22.set (a := a) (e := (9, [.ref pA, .int 0, .ref p1, .ref p2, .null, .null, .null, .null])) (fr2 2 (by decide))
  have mbN23 := bN23.set (a := a) (e := (9, [.ref pA, .int 0, .ref p1, .ref p2, .null, .null, .null, .null])) (fr2 4 (by decide))
  have mbN24 := bN24.set (a := a) (e := (9, [.ref pA, .int 0, .ref p1, .ref p2, .null, .null, .null, .null])) (fr2 6 (by decide))
  have u2 : ∀ i, i < 8 + 1 → usd (aSet O2 a (9, [.ref pA, .int 0, .ref p1, .ref p2, .null, .null, .null, .null])) A2 (if i = 0 then p2 else r2 (i - 1)) := by
    intro i hi
    obtain rfl | rfl | rfl | rfl | rfl | rfl | rfl | rfl | rfl : i = 0 ∨ i = 1 ∨ i = 2 ∨ i = 3 ∨ i = 4 ∨ i = 5 ∨ i = 6 ∨ i = 7 ∨ i = 8 := by omega
    · exact Or.inl (by rw [show (if (0 : Nat) = 0 then p2 else r2 (0 - 1)) = p2 from rfl, c2]; simp)
    · exact mbN21.uO
    · exact mbN21.uA
    · exact mbN22.uO
    · exact mbN22.uA
    · exact mbN23.uO
    · exact mbN23.uA
    · exact mbN24.uO
    · exact mbN24.uA
  repeat (refine And.intro (by decide) ?_)
  intro p3 f3 g3
  have ha3 : a ≠ p3 := by have := f3 a (by rw [aSet_eq]; simp); omega
  refine ⟨_, _, _, _, hb.callI liX8_31 (ct_X6_init (a := p3) aSet_eq) rfl (by decide) (by decide) (by decide), ?_, fun _ _ _ h => h.elim⟩
  rintro _ O3 A3 ⟨rfl, r3, w3, bA3, bW3, bN31, bN32, bN33, bN34⟩
  have hO3 : O3 a = some (9, [.ref pA, .int 0, .ref p1, .ref p2, .null, .null, .null, .null]) := w3.kO (by rw [aSet_ne ha3]; exact aSet_eq) ha3
  have fr3 : ∀ i, i < 9 → r3 i ≠ a := fun i hi e => by
    have h1 := w3.1 p3 i hi (Or.inl (by rw [aSet_eq]; simp))
    have h2 := f3 a (by rw [aSet_eq]; simp)
    omega
  refine hb.run (aCuts [4, 21, 32, 43, 54, 65, 76] J) 60 43 _ _ _ _ _ _ (aCuts_ok _) ?_
  simp only [↓wpi_isub, ↓wpi_lsub, ↓wpi_ineg, ↓wpi_lneg, ↓wpi_irem, ↓wpi_lrem, ↓wpi_iinc, wp1, wp, wpl, wpi, lget, lput1, lput2, ltail, lkill, aV, aVl, aNth, aPut, aFz, aC0, aC2, aSw, aCat1, aCuts, aSet_eq, List.take, List.drop, List.reverse_cons, List.reverse_nil, List.nil_append, List.cons_append, List.length_cons, List.length_nil, Option.toList, true_and, and_true, Nat.reduceAdd, Nat.reduceEqDiff, Nat.reduceLT, Nat.reduceLeDiff, Nat.zero_add, Nat.add_zero, if_true, if_false, ite_true, ite_false, reduceIte, reduceCtorEq, true_or, or_true, not_true_eq_false, not_false_eq_true, false_and, and_false, true_implies, false_implies, not_false_eq_true, bqX8_init_0, blX8_init_0, bqX8_init_4, blX8_init_4, bqX8_init_21, blX8_init_21, bqX8_init_32, blX8_init_32, bqX8_init_43, blX8_init_43, bqX8_init_54, blX8_init_54, bqX8_init_65, blX8_init_65, bqX8_init_76, blX8_init_76, hb.rc, hb.rs, aBl, hO3]
  have W3 := nwP.obj (e' := (9, [.ref pA, .int 0, .ref p1, .ref p2, .ref p3, .null, .null, .null])) f3 g3 w3 (by rw [aSet_eq]; simp)
  have c3 := (aSet_ne (f := O3) (a := a) (e := (9, [.ref pA, .int 0, .ref p1, .ref p2, .ref p3, .null, .null, .null])) (Ne.symm ha3)).trans bA3
  have cw3 : aSet O3 a (9, [.ref pA, .int 0, .ref p1, .ref p2, .ref p3, .null, .null, .null]) (r3 0) = some (8, []) := by rw [aSet_ne (fr3 0 (by decide))]; exact bW3
  have mbN31 := bN31.set (a := a) (e := (9, [.ref pA, .int 0, .ref p1, .ref p2, .ref p3, .null, .null, .null])) (fr3 1 (by decide))
  have mbN32 := bN32.set (a := a) (e := (9, [.ref pA, .int 0, .ref p1, .ref p2, .ref p3, .null, .null, .null])) (fr3 3 (by decide))
  have mbN33 := bN33.set (a := a) (e := (9, [.ref pA, .int 0, .ref p1, .ref p2, .ref p3, .null, .null, .null])) (fr3 5 (by decide))
  have mbN34 := bN34.set (a := a) (e := (9, [.ref pA, .int 0, .ref p1, .ref p2, .ref p3, .null, .null, .null])) (fr3 7 (by decide))
  have u3 : ∀ i, i < 9 + 1 → usd (aSet O3 a (9, [.ref pA, .int 0, .ref p1, .ref p2, .ref p3, .null, .null, .null])) A3 (if i = 0 then p3 else r3 (i - 1)) := by
    intro i hi
    obtain rfl | rfl | rfl | rfl | rfl | rfl | rfl | rfl | rfl | rfl : i = 0 ∨ i = 1 ∨ i = 2 ∨ i = 3 ∨ i = 4 ∨ i = 5 ∨ i = 6 ∨ i = 7 ∨ i = 8 ∨ i = 9 := by omega
    · exact Or.inl (by rw [show (if (0 : Nat) = 0 then p3 else r3 (0 - 1)) = p3 from rfl, c3]; simp)
    · exact Or.inl (by rw [show (if (1 : Nat) = 0 then p3 else r3 (1 - 1)) = r3 0 from rfl, cw3]; simp)
    · exact mbN31.uO
    · exact mbN31.uA
    · exact mbN32.uO
    · exact mbN32.uA
    · exact mbN33.uO
    · exact mbN33.uA
    · exact mbN34.uO
    · exact mbN34.uA
  repeat (refine And.intro (by decide) ?_)
  intro p4 f4 g4
  have ha4 : a ≠ p4 := by have := f4 a (by rw [aSet_eq]; simp); omega
  refine ⟨_, _, _, _, hb.callI liX8_38 (ct_X2_init (a := p4) aSet_eq) rfl (by decide) (by decide) (by decide), ?_, fun _ _ _ h => h.elim⟩
  rintro _ O4 A4 ⟨rfl, r4, w4, bA4, bN41, bN42⟩
  have hO4 : O4 a = some (9, [.ref pA, .int 0, .ref p1, .ref p2, .ref p3, .null, .null, .null]) := w4.kO (by rw [aSet_ne ha4]; exact aSet_eq) ha4
  have fr4 : ∀ i, i < 4 → r4 i ≠ a := fun i hi e => by
    have h1 := w4.1 p4 i hi (Or.inl (by rw [aSet_eq]; simp))
    have h2 := f4 a (by rw [aSet_eq]; simp)
    omega
  refine hb.run (aCuts [4, 21, 32, 43, 54, 65, 76] J) 60 54 _ _ _ _ _ _ (aCuts_ok _) ?_
  simp only [↓wpi_isub, ↓wpi_lsub, ↓wpi_ineg, ↓wpi_lneg, ↓wpi_irem, ↓wpi_lrem, ↓wpi_iinc, wp1, wp, wpl, wpi, lget, lput1, lput2, ltail, lkill, aV, aVl, aNth, aPut, aFz, aC0, aC2, aSw, aCat1, aCuts, aSet_eq, List.take, List.drop, List.reverse_cons, List.reverse_nil, List.nil_append, List.cons_append, List.length_cons, List.length_nil, Option.toList, true_and, and_true, Nat.reduceAdd, Nat.reduceEqDiff, Nat.reduceLT, Nat.reduceLeDiff, Nat.zero_add, Nat.add_zero, if_true, if_false, ite_true, ite_false, reduceIte, reduceCtorEq, true_or, or_true, not_true_eq_false, not_false_eq_true, false_and, and_false, true_implies, false_implies, not_false_eq_true, bqX8_init_0, blX8_init_0, bqX8_init_4, blX8_init_4, bqX8_init_21, blX8_init_21, bqX8_init_32, blX8_init_32, bqX8_init_43, blX8_init_43, bqX8_init_54, blX8_init_54, bqX8_init_65, blX8_init_65, bqX8_init_76, blX8_init_76, hb.rc, hb.rs, aBl, hO4]
  have W4 := nwP.obj (e' := (9, [.ref pA, .int 0, .ref p1, .ref p2, .ref p3, .ref p4, .null, .null])) f4 g4 w4 (by rw [aSet_eq]; simp)
  have c4 := (aSet_ne (f := O4) (a := a) (e := (9, [.ref pA, .int 0, .ref p1, .ref p2, .ref p3, .ref p4, .null, .null])) (Ne.symm ha4)).trans bA4
  have mbN41 := bN41.set (a := a) (e := (9, [.ref pA, .int 0, .ref p1, .ref p2, .ref p3, .ref p4, .null, .null])) (fr4 0 (by decide))
  have mbN42 := bN42.set (a := a) (e := (9, [.ref pA, .int 0, .ref p1, .ref p2, .ref p3, .ref p4, .null, .null])) (fr4 2 (by decide))
  have u4 : ∀ i, i < 4 + 1 → usd (aSet O4 a (9, [.ref pA, .int 0, .ref p1, .ref p2, .ref p3, .ref p4, .null, .null])) A4 (if i = 0 then p4 else r4 (i - 1)) := by
    intro i hi
    obtain rfl | rfl | rfl | rfl | rfl : i = 0 ∨ i = 1 ∨ i = 2 ∨ i = 3 ∨ i = 4 := by omega
    · exact Or.inl (by rw [show (if (0 : Nat) = 0 then p4 else r4 (0 - 1)) = p4 from rfl, c4]; simp)
    · exact mbN41.uO
    · exact mbN41.uA
    · exact mbN42.uO
    · exact mbN42.uA
  repeat (refine And.intro (by decide) ?_)
  intro p5 f5 g5
  have ha5 : a ≠ p5 := by have := f5 a (by rw [aSet_eq]; simp); omega
  refine ⟨_, _, _, _, hb.callI liX8_38 (ct_X2_init (a := p5) aSet_eq) rfl (by decide) (by decide) (by decide), ?_, fun _ _ _ h => h.elim⟩
  rintro _ O5 A5 ⟨rfl, r5, w5, bA5, bN51, bN52⟩
  have hO5 : O5 a = some (9, [.ref pA, .int 0, .ref p1, .ref p2, .ref p3, .ref p4, .null, .null]) := w5.kO (by rw [aSet_ne ha5]; exact aSet_eq) ha5
  have fr5 : ∀ i, i < 4 → r5 i ≠ a := fun i hi e => by
    have h1 := w5.1 p5 i hi (Or.inl (by rw [aSet_eq]; simp))
    have h2 := f5 a (by rw [aSet_eq]; simp)
    omega
  refine hb.run (aCuts [4, 21, 32, 43, 54, 65, 76] J) 60 65 _ _ _ _ _ _ (aCuts_ok _) ?_
  simp only [↓wpi_isub, ↓wpi_lsub, ↓wpi_ineg, ↓wpi_lneg, ↓wpi_irem, ↓wpi_lrem, ↓wpi_iinc, wp1, wp, wpl, wpi, lget, lput1, lput2, ltail, lkill, aV, aVl, aNth, aPut, aFz, aC0, aC2, aSw, aCat1, aCuts, aSet_eq, List.take, List.drop, List.reverse_cons, List.reverse_nil, List.nil_append, List.cons_append, List.length_cons, List.length_nil, Option.toList, true_and, and_true, Nat.reduceAdd, Nat.reduceEqDiff, Nat.reduceLT, Nat.reduceLeDiff, Nat.zero_add, Nat.add_zero, if_true, if_false, ite_true, ite_false, reduceIte, reduceCtorEq, true_or, or_true, not_true_eq_false, not_false_eq_true, false_and, and_false, true_implies, false_implies, not_false_eq_true, bqX8_init_0, blX8_init_0, bqX8_init_4, blX8_init_4, bqX8_init_21, blX8_init_21, bqX8_init_32, blX8_init_32, bqX8_init_43, blX8_init_43, bqX8_init_54, blX8_init_54, bqX8_init_65, blX8_init_65, bqX8_init_76, blX8_init_76, hb.rc, hb.rs, aBl, hO5]
  have W5 := nwP.obj (e' := (9, [.ref pA, .int 0, .ref p1, .ref p2, .ref p3, .ref p4, .ref p5, .null])) f5 g5 w5 (by rw [aSet_eq]; simp)
  have c5 := (aSet_ne (f := O5) (a := a) (e := (9, [.ref pA, .int 0, .ref p1, .ref p2, .ref p3, .ref p4, .ref p5, .null])) (Ne.symm ha5)).trans bA5
  have mbN51 := bN51.set (a := a) (e := (9, [.ref pA, .int 0, .ref p1, .ref p2, .ref p3, .ref p4, .ref p5, .null])) (fr5 0 (by decide))
  have mbN52 := bN52.set (a := a) (e := (9, [.ref pA, .int 0, .ref p1, .ref p2, .ref p3, .ref p4, .ref p5, .null])) (fr5 2 (by decide))
  have u5 : ∀ i, i < 4 + 1 → usd (aSet O5 a (9, [.ref pA, .int 0, .ref p1, .ref p2, .ref p3, .ref p4, .ref p5, .null])) A5 (if i = 0 then p5 else r5 (i - 1)) := by
    intro i hi
    obtain rfl | rfl | rfl | rfl | rfl : i = 0 ∨ i = 1 ∨ i = 2 ∨ i = 3 ∨ i = 4 := by omega
    · exact Or.inl (by rw [show (if (0 : Nat) = 0 then p5 else r5 (0 - 1)) = p5 from rfl, c5]; simp)
    · exact mbN51.uO
    · exact mbN51.uA
    · exact mbN52.uO
    · exact mbN52.uA
  repeat (refine And.intro (by decide) ?_)
  intro p6 f6 g6
  have ha6 : a ≠ p6 := by have := f6 a (by rw [aSet_eq]; simp); omega
  refine ⟨_, _, _, _, hb.callI liX8_38 (ct_X2_init (a := p6) aSet_eq) rfl (by decide) (by decide) (by decide), ?_, fun _ _ _ h => h.elim⟩
  rintro _ O6 A6 ⟨rfl, r6, w6, bA6, bN61, bN62⟩
  have hO6 : O6 a = some (9, [.ref pA, .int 0, .ref p1, .ref p2, .ref p3, .ref p4, .ref p5, .null]) := w6.kO (by rw [aSet_ne ha6]; exact aSet_eq) ha6
  have fr6 : ∀ i, i < 4 → r6 i ≠ a := fun i hi e => by
    have h1 := w6.1 p6 i hi (Or.inl (by rw [aSet_eq]; simp))
    have h2 := f6 a (by rw [aSet_eq]; simp)
    omega
  refine hb.run (aCuts [4, 21, 32, 43, 54, 65, 76] J) 60 76 _ _ _ _ _ _ (aCuts_ok _) ?_
  simp only [↓wpi_isub, ↓wpi_lsub, ↓wpi_ineg, ↓wpi_lneg, ↓wpi_irem, ↓wpi_lrem, ↓wpi_iinc, wp1, wp, wpl, wpi, lget, lput1, lput2, ltail, lkill, aV, aVl, aNth, aPut, aFz, aC0, aC2, aSw, aCat1, aCuts, aSet_eq, List.take, List.drop, List.reverse_cons, List.reverse_nil, List.nil_append, List.cons_append, List.length_cons, List.length_nil, Option.toList, true_and, and_true, Nat.reduceAdd, Nat.reduceEqDiff, Nat.reduceLT, Nat.reduceLeDiff, Nat.zero_add, Nat.add_zero, if_true, if_false, ite_true, ite_false, reduceIte, reduceCtorEq, true_or, or_true, not_true_eq_false, not_false_eq_true, false_and, and_false, true_implies, false_implies, not_false_eq_true, bqX8_init_0, blX8_init_0, bqX8_init_4, blX8_init_4, bqX8_init_21, blX8_init_21, bqX8_init_32, blX8_init_32, bqX8_init_43, blX8_init_43, bqX8_init_54, blX8_init_54, bqX8_init_65, blX8_init_65, bqX8_init_76, blX8_init_76, hb.rc, hb.rs, aBl, hO6]
  have W6 := nwP.obj (e' := (9, [.ref pA, .int 0, .ref p1, .ref p2, .ref p3, .ref p4, .ref p5, .ref p6])) f6 g6 w6 (by rw [aSet_eq]; simp)
  have c6 := (aSet_ne (f := O6) (a := a) (e := (9, [.ref pA, .int 0, .ref p1, .ref p2, .ref p3, .ref p4, .ref p5, .ref p6])) (Ne.symm ha6)).trans bA6
  have mbN61 := bN61.set (a := a) (e := (9, [.ref pA, .int 0, .ref p1, .ref p2, .ref p3, .ref p4, .ref p5, .ref p6])) (fr6 0 (by decide))
  have mbN62 := bN62.set (a := a) (e := (9, [.ref pA, .int 0, .ref p1, .ref p2, .ref p3, .ref p4, .ref p5, .ref p6])) (fr6 2 (by decide))
  have u6 : ∀ i, i < 4 + 1 → usd (aSet O6 a (9, [.ref pA, .int 0, .ref p1, .ref p2, .ref p3, .ref p4, .ref p5, .ref p6])) A6 (if i = 0 then p6 else r6 (i - 1)) := by
    intro i hi
    obtain rfl | rfl | rfl | rfl | rfl : i = 0 ∨ i = 1 ∨ i = 2 ∨ i = 3 ∨ i = 4 := by omega
    · exact Or.inl (by rw [show (if (0 : Nat) = 0 then p6 else r6 (0 - 1)) = p6 from rfl, c6]; simp)
    · exact mbN61.uO
    · exact mbN61.uA
    · exact mbN62.uO
    · exact mbN62.uA
  have T5 := W5.app W6 (Or.inl (by rw [aSet_eq]; simp)) u5
  have T4 := W4.app T5 (Or.inl (by rw [aSet_eq]; simp)) u4
  have T3 := W3.app T4 (Or.inl (by rw [aSet_eq]; simp)) u3
  have T2 := W2.app T3 (Or.inl (by rw [aSet_eq]; simp)) u2
  have T1 := W1.app T2 (Or.inl (by rw [aSet_eq]; simp)) u1
  have T0 := W0.app T1 (Or.inl (by rw [aSet_eq]; simp)) (fun i hi => Or.inr (by rw [k0]; simp))
  obtain ⟨Q, hQ⟩ : ∃ Q, Q = qApp 1 (fun _ => pA) (qApp (2 + 1) (fun i => if i = 0 then p1 else r1 (i - 1)) (qApp (8 + 1) (fun i => if i = 0 then p2 else r2 (i - 1)) (qApp (9 + 1) (fun i => if i = 0 then p3 else r3 (i - 1)) (qApp (4 + 1) (fun i => if i = 0 then p4 else r4 (i - 1)) (qApp (4 + 1) (fun i => if i = 0 then p5 else r5 (i - 1)) (fun i => if i = 0 then p6 else r6 (i - 1))))))) := ⟨_, rfl⟩
  have T : nwP a 38 Q O A (aSet O6 a (9, [.ref pA, .int 0, .ref p1, .ref p2, .ref p3, .ref p4, .ref p5, .ref p6])) A6 := by rw [hQ]; exact T0
  have hua : usd O A a := Or.inl (by rw [hO]; simp)
  have hut : usd O A tA := Or.inr (by rw [ht]; simp)
  obtain ⟨Z, hZ⟩ : ∃ Z, Z = zZ a tA Q := ⟨_, rfl⟩
  have z0 : Z 0 = r4 0 := by rw [hZ, hQ]; rfl
  have z1 : Z 1 = r4 2 := by rw [hZ, hQ]; rfl
  have z2 : Z 2 = r5 0 := by rw [hZ, hQ]; rfl
  have z3 : Z 3 = r5 2 := by rw [hZ, hQ]; rfl
  have z4 : Z 4 = r6 0 := by rw [hZ, hQ]; rfl
  have z5 : Z 5 = r6 2 := by rw [hZ, hQ]; rfl
  have z6 : Z 6 = r1 0 := by rw [hZ, hQ]; rfl
  have z7 : Z 7 = r2 0 := by rw [hZ, hQ]; rfl
  have z8 : Z 8 = r2 2 := by rw [hZ, hQ]; rfl
  have z9 : Z 9 = r2 4 := by rw [hZ, hQ]; rfl
  have z10 : Z 10 = r2 6 := by rw [hZ, hQ]; rfl
  have z11 : Z 11 = r3 1 := by rw [hZ, hQ]; rfl
  have z12 : Z 12 = r3 3 := by rw [hZ, hQ]; rfl
  have z13 : Z 13 = r3 5 := by rw [hZ, hQ]; rfl
  have z14 : Z 14 = r3 7 := by rw [hZ, hQ]; rfl
  have z15 : Z 15 = r4 1 := by rw [hZ, hQ]; rfl
  have z16 : Z 16 = r4 3 := by rw [hZ, hQ]; rfl
  have z17 : Z 17 = r5 1 := by rw [hZ, hQ]; rfl
  have z18 : Z 18 = r5 3 := by rw [hZ, hQ]; rfl
  have z19 : Z 19 = r6 1 := by rw [hZ, hQ]; rfl
  have z20 : Z 20 = r6 3 := by rw [hZ, hQ]; rfl
  have z21 : Z 21 = r1 1 := by rw [hZ, hQ]; rfl
  have z22 : Z 22 = r2 1 := by rw [hZ, hQ]; rfl
  have z23 : Z 23 = r2 3 := by rw [hZ, hQ]; rfl
  have z24 : Z 24 = r2 5 := by rw [hZ, hQ]; rfl
  have z25 : Z 25 = r2 7 := by rw [hZ, hQ]; rfl
  have z26 : Z 26 = r3 2 := by rw [hZ, hQ]; rfl
  have z27 : Z 27 = r3 4 := by rw [hZ, hQ]; rfl
  have z28 : Z 28 = r3 6 := by rw [hZ, hQ]; rfl
  have z29 : Z 29 = r3 8 := by rw [hZ, hQ]; rfl
  have z30 : Z 30 = p4 := by rw [hZ, hQ]; rfl
  have z31 : Z 31 = p5 := by rw [hZ, hQ]; rfl
  have z32 : Z 32 = p6 := by rw [hZ, hQ]; rfl
  have z33 : Z 33 = p1 := by rw [hZ, hQ]; rfl
  have z34 : Z 34 = p2 := by rw [hZ, hQ]; rfl
  have z35 : Z 35 = p3 := by rw [hZ, hQ]; rfl
  have z36 : Z 36 = r3 0 := by rw [hZ, hQ]; rfl
  have z37 : Z 37 = a := by rw [hZ, hQ]; rfl
  have z38 : Z 38 = pA := by rw [hZ, hQ]; rfl
  have z39 : Z 39 = tA := by rw [hZ, hQ]; rfl
  have hinj : ∀ i j, i < 40 → j < 40 → Z i = Z j → i = j := by
    intro i j hi hj e
    rw [hZ] at e
    exact zCode_inj i hi j hj (zVal_inj T.2.1 (fun i hi => T.1 a i hi hua) (fun i hi => T.1 tA i hi hut) hta (zCode_lt i hi) (zCode_lt j hj) e)
  refine hb.vret ⟨rfl, Z, z37, z39, ?_, wfN0, hinj, ?_, ?_, ⟨?_, ?_, ?_, ?_, ?_⟩, fun k hk => absurd hk (Nat.not_lt_zero k), ?_, ⟨tf, T.kA ht hta, htf⟩, ?_⟩ (by decide) (by decide)
  · intro i hi h37 h39 x hx
    rw [← hO9] at hx
    have hlt : zCode.getD i 0 < 38 := by
      have : ∀ i, i < 40 → i ≠ 37 → i ≠ 39 → zCode.getD i 0 < 38 := by decide
      exact this i hi h37 h39
    rw [hZ]; unfold zZ zVal; rw [if_pos hlt]; exact T.1 x _ hlt hx
  · intro i hi
    obtain rfl | rfl | rfl | rfl | rfl | rfl | rfl | rfl | rfl | rfl | rfl | rfl | rfl | rfl | rfl : i = 0 ∨ i = 1 ∨ i = 2 ∨ i = 3 ∨ i = 4 ∨ i = 5 ∨ i = 6 ∨ i = 7 ∨ i = 8 ∨ i = 9 ∨ i = 10 ∨ i = 11 ∨ i = 12 ∨ i = 13 ∨ i = 14 := by omega
    · rw [z0, show Z (15 + 0) = _ from z15]; exact T5.kN mbN41 (fr4 0 (by decide)) (fr4 1 (by decide))
    · rw [z1, show Z (15 + 1) = _ from z16]; exact T5.kN mbN42 (fr4 2 (by decide)) (fr4 3 (by decide))
    · rw [z2, show Z (15 + 2) = _ from z17]; exact W6.kN mbN51 (fr5 0 (by decide)) (fr5 1 (by decide))
    · rw [z3, show Z (15 + 3) = _ from z18]; exact W6.kN mbN52 (fr5 2 (by decide)) (fr5 3 (by decide))
    · rw [z4, show Z (15 + 4) = _ from z19]; exact mbN61
    · rw [z5, show Z (15 + 5) = _ from z20]; exact mbN62
    · rw [z6, show Z (15 + 6) = _ from z21]; exact T2.kN mbN1 (fr1 0 (by decide)) (fr1 1 (by decide))
    · rw [z7, show Z (15 + 7) = _ from z22]; exact T3.kN mbN21 (fr2 0 (by decide)) (fr2 1 (by decide))
    · rw [z8, show Z (15 + 8) = _ from z23]; exact T3.kN mbN22 (fr2 2 (by decide)) (fr2 3 (by decide))
    · rw [z9, show Z (15 + 9) = _ from z24]; exact T3.kN mbN23 (fr2 4 (by decide)) (fr2 5 (by decide))
    · rw [z10, show Z (15 + 10) = _ from z25]; exact T3.kN mbN24 (fr2 6 (by decide)) (fr2 7 (by decide))
    · rw [z11, show Z (15 + 11) = _ from z26]; exact T4.kN mbN31 (fr3 1 (by decide)) (fr3 2 (by decide))
    · rw [z12, show Z (15 + 12) = _ from z27]; exact T4.kN mbN32 (fr3 3 (by decide)) (fr3 4 (by decide))
    · rw [z13, show Z (15 + 13) = _ from z28]; exact T4.kN mbN33 (fr3 5 (by decide)) (fr3 6 (by decide))
    · rw [z14, show Z (15 + 14) = _ from z29]; exact T4.kN mbN34 (fr3 7 (by decide)) (fr3 8 (by decide))
  · intro f hf
    obtain rfl | rfl | rfl : f = 0 ∨ f = 1 ∨ f = 2 := by omega
    · rw [show Z (30 + 0) = _ from z30, show Z (2 * 0) = _ from z0, show Z (2 * 0 + 1) = _ from z1, bI_f0]; exact T5.kO c4 (Ne.symm ha4)
    · rw [show Z (30 + 1) = _ from z31, show Z (2 * 1) = _ from z2, show Z (2 * 1 + 1) = _ from z3, bI_f0]; exact W6.kO c5 (Ne.symm ha5)
    · rw [show Z (30 + 2) = _ from z32, show Z (2 * 2) = _ from z4, show Z (2 * 2 + 1) = _ from z5, bI_f0]; exact c6
  · rw [z33, z6]; exact T2.kO c1 (Ne.symm ha1)
  · rw [z34, z7, z8, z9, z10]; exact T3.kO c2 (Ne.symm ha2)
  · rw [z35, z36, z11, z12, z13, z14, bI_f0]; exact T4.kO c3 (Ne.symm ha3)
  · rw [z36]; exact T4.kO cw3 (fr3 0 (by decide))
  · rw [z37, z38, z33, z34, z35, z30, z31, z32, nI_0]; exact aSet_eq
  · rw [z38]
    have : nmF Z (fun _ _ => 0) = fun _ => none := by funext k; unfold nmF; rw [if_neg (Nat.not_lt_zero k)]
    rw [this]; exact T1.kA k0 (Ne.symm hA9)
  · intro x hx
    have hxa : x ≠ a := fun e => hx 37 (by decide) (z37.trans e.symm)
    obtain ⟨e3, e4⟩ := T.2.2 x hxa fun c hc e => by
      obtain ⟨i, hi, hic⟩ := zCode_sur c (by omega)
      refine hx i hi ?_
      rw [hZ, e]; unfold zZ zVal; rw [hic, if_pos hc]
    have e5 : O x = O0 x := by rw [hO9, aSet_ne hxa]
    exact ⟨e3.trans e5, e4⟩
end INI8
