/-! ===== constructors ===== -/
def usd (O : aO) (A : aA) (x : Nat) : Prop := O x ≠ none ∨ A x ≠ none
/-- from O, A to O', A': only a is changed, and q 0 .. q (n - 1) are made, each higher than all before -/
def nwP (a n : Nat) (q : Nat → Nat) (O : aO) (A : aA) (O' : aO) (A' : aA) : Prop :=
  (∀ x i, i < n → usd O A x → x < q i) ∧ (∀ i j, i < j → j < n → q i < q j) ∧ (∀ x, x ≠ a → (∀ i, i < n → x ≠ q i) → O' x = O x ∧ A' x = A x)
def zAr : Nat × vp_A := (0, 20, .inl (nF (fun _ => 0)))
theorem nRep0 : nRep (fun _ => 0) 0 0 := ⟨by decide, fun _ _ => (by decide : 0 < 2147483648), fun _ _ _ => rfl, fun h => by omega, rfl⟩
/-- what is used keeps its value but for a -/
theorem nwP.kp {a n : Nat} {q : Nat → Nat} {O : aO} {A : aA} {O' : aO} {A' : aA} (h : nwP a n q O A O' A') {x : Nat} (hu : usd O A x) (hx : x ≠ a) : O' x = O x ∧ A' x = A x :=
  h.2.2 x hx fun i hi e => by have := h.1 x i hi hu; omega
theorem nwP.kO {a n : Nat} {q : Nat → Nat} {O : aO} {A : aA} {O' : aO} {A' : aA} (h : nwP a n q O A O' A') {x : Nat} {v : Nat × List Value} (hv : O x = some v) (hx : x ≠ a) : O' x = some v := by
  rw [(h.kp (Or.inl (by rw [hv]; simp)) hx).1]; exact hv
theorem nwP.kA {a n : Nat} {q : Nat → Nat} {O : aO} {A : aA} {O' : aO} {A' : aA} (h : nwP a n q O A O' A') {x : Nat} {v : Nat × vp_A} (hv : A x = some v) (hx : x ≠ a) : A' x = some v := by
  rw [(h.kp (Or.inr (by rw [hv]; simp)) hx).2]; exact hv
theorem nwP.kN {a n : Nat} {q : Nat → Nat} {O : aO} {A : aA} {O' : aO} {A' : aA} (h : nwP a n q O A O' A') {x lx v : Nat} (hv : natAt O A x lx v) (hx : x ≠ a) (hl : lx ≠ a) : natAt O' A' x lx v := by
  obtain ⟨g, u, h1, h2, h3⟩ := hv
  exact ⟨g, u, h1, h.kO h2 hx, h.kA h3 hl⟩
/-- used afterwards: what was used, a, what was made -/
theorem nwP.us {a n : Nat} {q : Nat → Nat} {O : aO} {A : aA} {O' : aO} {A' : aA} (h : nwP a n q O A O' A') {x : Nat} (hu : usd O' A' x) : usd O A x ∨ x = a ∨ ∃ i, i < n ∧ x = q i := by
  by_cases h1 : x = a
  · exact Or.inr (Or.inl h1)
  · by_cases h2 : ∃ i, i < n ∧ x = q i
    · exact Or.inr (Or.inr h2)
    · obtain ⟨e1, e2⟩ := h.2.2 x h1 fun i hi e => h2 ⟨i, hi, e⟩
      left; unfold usd at hu ⊢; rw [e1, e2] at hu; exact hu
/-- one step behind another, at the same a -/
def qApp (m : Nat) (q r : Nat → Nat) : Nat → Nat := fun i => if i < m then q i else r (i - m)
theorem nwP.app {a m n : Nat} {q r : Nat → Nat} {O O1 O2 : aO} {A A1 A2 : aA} (h1 : nwP a m q O A O1 A1) (h2 : nwP a n r O1 A1 O2 A2) (ha : usd O1 A1 a) (hq : ∀ i, i < m → usd O1 A1 (q i)) : nwP a (m + n) (qApp m q r) O A O2 A2 := by
  have hr : ∀ x i, i < n → usd O A x → x < r i := by
    intro x i hi hu
    by_cases hx : x = a
    · rw [hx]; exact h2.1 a i hi ha
    · have := h1.kp hu hx
      exact h2.1 x i hi (by unfold usd at hu ⊢; rw [this.1, this.2]; exact hu)
  refine ⟨fun x i hi hu => ?_, fun i j hij hj => ?_, fun x hx hn => ?_⟩
  · unfold qApp; split
    · exact h1.1 x i (by omega) hu
    · exact hr x _ (by omega) hu
  · unfold qApp
    by_cases c1 : j < m
    · rw [if_pos (by omega), if_pos c1]; exact h1.2.1 i j hij c1
    · by_cases c2 : i < m
      · rw [if_pos c2, if_neg c1]; exact h2.1 _ _ (by omega) (hq i c2)
      · rw [if_neg c2, if_neg c1]; exact h2.2.1 _ _ (by omega) (by omega)
  · have e1 := h1.2.2 x hx fun i hi e => hn i (by omega) (by unfold qApp; rw [if_pos hi]; exact e)
    have e2 := h2.2.2 x hx fun i hi e => hn (m + i) (by omega) (by unfold qApp; rw [if_neg (by omega), show m + i - m = i by omega]; exact e)
    exact ⟨e2.1.trans e1.1, e2.2.trans e1.2⟩
/-- an object made, built, and laid into a field of a -/
theorem nwP.obj {a n q0 : Nat} {r : Nat → Nat} {O O2 : aO} {A A2 : aA} {e e' : Nat × List Value} (f1 : ∀ x, O x ≠ none → x < q0) (f2 : ∀ x, A x ≠ none → x < q0) (h : nwP q0 n r (aSet O q0 e) A O2 A2) (ha : O a ≠ none) : nwP a (n + 1) (fun i => if i = 0 then q0 else r (i - 1)) O A (aSet O2 a e') A2 := by
  have hu0 : ∀ x, usd O A x → x < q0 := fun x hx => hx.elim (f1 x) (f2 x)
  have hq0 : usd (aSet O q0 e) A q0 := Or.inl (by rw [aSet_eq]; simp)
  refine ⟨fun x i hi hu => ?_, fun i j hij hj => ?_, fun x hx hn => ?_⟩
  · have := hu0 x hu
    by_cases h0 : i = 0
    · simp only [h0, if_true]; exact this
    · simp only [h0, if_false]
      have := h.1 q0 (i - 1) (by omega) hq0
      omega
  · by_cases h0 : i = 0
    · simp only [h0, if_true, show j ≠ 0 by omega, if_false]
      exact h.1 q0 (j - 1) (by omega) hq0
    · simp only [h0, if_false, show j ≠ 0 by omega]
      exact h.2.1 _ _ (by omega) (by omega)
  · have hx0 : x ≠ q0 := fun e => hn 0 (by omega) (by simp [e])
    obtain ⟨e1, e2⟩ := h.2.2 x hx0 fun i hi e => hn (i + 1) (by omega) (by simp [e])
    rw [aSet_ne hx0] at e1
    exact ⟨by rw [aSet_ne hx]; exact e1, e2⟩
theorem nwP.put {a n : Nat} {q : Nat → Nat} {O O' : aO} {A A' : aA} {e : Nat × List Value} (h : nwP a n q O A O' A') : nwP a n q O A (aSet O' a e) A' :=
  ⟨h.1, h.2.1, fun x hx hn => by rw [aSet_ne hx]; exact h.2.2 x hx hn⟩
theorem natAt.set {O : aO} {A : aA} {x lx v a : Nat} {e : Nat × List Value} (h : natAt O A x lx v) (hx : x ≠ a) : natAt (aSet O a e) A x lx v := by
  obtain ⟨g, u, h1, h2, h3⟩ := h
  exact ⟨g, u, h1, by rw [aSet_ne hx]; exact h2, h3⟩
theorem natAt.uO {O : aO} {A : aA} {x lx v : Nat} (h : natAt O A x lx v) : usd O A x := by
  obtain ⟨g, u, h1, h2, h3⟩ := h
  exact Or.inl (by rw [h2]; simp)
theorem natAt.uA {O : aO} {A : aA} {x lx v : Nat} (h : natAt O A x lx v) : usd O A lx := by
  obtain ⟨g, u, h1, h2, h3⟩ := h
  exact Or.inr (by rw [h3]; simp)
theorem two_us {O : aO} {A : aA} {x v : Nat} {r : Nat → Nat} (h : natAt O A x (r 0) v) : ∀ i, i < 1 + 1 → usd O A (if i = 0 then x else r (i - 1)) := by
  intro i hi
  obtain rfl | rfl : i = 0 ∨ i = 1 := by omega
  · exact h.uO
  · exact h.uA
theorem nul0 : ([Value.null, Value.int 0] : List Value) = [.null, .int (nI 0)] := by rw [nI_0]
section INI
variable {l : Launch} {G : aG} {base tA : Nat} {O : aO} {A : aA} {a : Nat}
abbrev rmN0 : Room := { frames := 1, cells := 1, slots := 20, locals := 20 }
set_option maxHeartbeats 1000000 in
theorem ct_X3_init (hO : O a = some (4, [.null, .int 0])) : aMet l G base tA yX3_init cX3_init 1 none rmN0 [.ref a] O A (fun r O' A' => r = none ∧ ∃ q, nwP a 1 q O A O' A' ∧ natAt O' A' a (q 0) 0) := by
  refine aMet_of (ini := true) (B := aLook bkX3_init) (by decide) (fun h => by first | rfl | cases h) (Nat.le_of_ble_eq_true rfl) boX3_init ?_
  intro E J hb
  refine hb.run (aCuts [4] J) 60 0 _ _ _ _ _ _ (aCuts_ok _) ?_
  simp only [↓wpi_isub, ↓wpi_lsub, ↓wpi_ineg, ↓wpi_lneg, ↓wpi_irem, ↓wpi_lrem, ↓wpi_iinc, wp1, wp, wpl, wpi, lget, lput1, lput2, ltail, lkill, aV, aVl, aNth, aPut, aFz, aC0, aC2, aSw, aCat1, aCuts, aSet_eq, List.take, List.drop, List.reverse_cons, List.reverse_nil, List.nil_append, List.cons_append, List.length_cons, List.length_nil, Option.toList, true_and, and_true, Nat.reduceAdd, Nat.reduceEqDiff, Nat.reduceLT, Nat.reduceLeDiff, Nat.zero_add, Nat.add_zero, if_true, if_false, ite_true, ite_false, reduceIte, reduceCtorEq, true_or, or_true, not_true_eq_false, not_false_eq_true, false_and, and_false, true_implies, false_implies, not_false_eq_true, bqX3_init_0, blX3_init_0, bqX3_init_4, blX3_init_4, aArgs, List.replicate]
  refine ⟨_, _, _, _, hb.objInit loX3_1 (by decide) (by decide), ?_, fun _ _ _ h => h.elim⟩
  rintro _ O A ⟨rfl, rfl, rfl⟩
  refine hb.run (aCuts [4] J) 60 4 _ _ _ _ _ _ (aCuts_ok _) ?_
  simp only [↓wpi_isub, ↓wpi_lsub, ↓wpi_ineg, ↓wpi_lneg, ↓wpi_irem, ↓wpi_lrem, ↓wpi_iinc, wp1, wp, wpl, wpi, lget, lput1, lput2, ltail, lkill, aV, aVl, aNth, aPut, aFz, aC0, aC2, aSw, aCat1, aCuts, aSet_eq, List.take, List.drop, List.reverse_cons, List.reverse_nil, List.nil_append, List.cons_append, List.length_cons, List.length_nil, Option.toList, true_and, and_true, Nat.reduceAdd, Nat.reduceEqDiff, Nat.reduceLT, Nat.reduceLeDiff, Nat.zero_add, Nat.add_zero, if_true, if_false, ite_true, ite_false, reduceIte, reduceCtorEq, true_or, or_true, not_true_eq_false, not_false_eq_true, false_and, and_false, true_implies, false_implies, not_false_eq_true, bqX3_init_0, blX3_init_0, bqX3_init_4, blX3_init_4, hb.rc, hb.rs, hO]
  refine ⟨20, rfl, by decide, by decide, fun q f1 f2 => hb.vret ⟨rfl, fun _ => q, ?_, ?_⟩ (by decide) (by decide)⟩
  · refine ⟨fun x i hi hu => hu.elim (f1 x) (f2 x), fun i j hij hj => by omega, fun x hx hn => ?_⟩
    exact ⟨aSet_ne hx, aSet_ne (hn 0 (by omega))⟩
  · refine ⟨_, 0, nRep0, ?_, ?_⟩
    · rw [aSet_eq, nI_0]
    · rw [aSet_eq, ← nF_0]
abbrev rmN1 : Room := { frames := 2, cells := 4, slots := 44, locals := 40 }
set_option maxHeartbeats 4000000 in
theorem ct_X2_init (hO : O a = some (3, [.int 0, .null, .null])) : aMet l G base tA yX2_init cX2_init 1 none rmN1 [.ref a] O A (fun r O' A' => r = none ∧ ∃ q, nwP a 4 q O A O' A' ∧ O' a = some (3, [.int 0, .ref (q 0), .ref (q 2)]) ∧ natAt O' A' (q 0) (q 1) 0 ∧ natAt O' A' (q 2) (q 3) 0) := by
  refine aMet_of (ini := true) (B := aLook bkX2_init) (by decide) (fun h => by first | rfl | cases h) (Nat.le_of_ble_eq_true rfl) boX2_init ?_
  intro E J hb
  refine hb.run (aCuts [4, 12, 23] J) 60 0 _ _ _ _ _ _ (aCuts_ok _) ?_
  simp only [↓wpi_isub, ↓wpi_lsub, ↓wpi_ineg, ↓wpi_lneg, ↓wpi_irem, ↓wpi_lrem, ↓wpi_iinc, wp1, wp, wpl, wpi, lget, lput1, lput2, ltail, lkill, aV, aVl, aNth, aPut, aFz, aC0, aC2, aSw, aCat1, aCuts, aSet_eq, List.take, List.drop, List.reverse_cons, List.reverse_nil, List.nil_append, List.cons_append, List.length_cons, List.length_nil, Option.toList, true_and, and_true, Nat.reduceAdd, Nat.reduceEqDiff, Nat.reduceLT, Nat.reduceLeDiff, Nat.zero_add, Nat.add_zero, if_true, if_false, ite_true, ite_false, reduceIte, reduceCtorEq, true_or, or_true, not_true_eq_false, not_false_eq_true, false_and, and_false, true_implies, false_implies, not_false_eq_true, bqX2_init_0, blX2_init_0, bqX2_init_4, blX2_init_4, bqX2_init_12, blX2_init_12, bqX2_init_23, blX2_init_23, aArgs, List.replicate]
  refine ⟨_, _, _, _, hb.objInit loX2_1 (by decide) (by decide), ?_, fun _ _ _ h => h.elim⟩
  rintro _ O A ⟨rfl, rfl, rfl⟩
  refine hb.run (aCuts [4, 12, 23] J) 60 4 _ _ _ _ _ _ (aCuts_ok _) ?_
  simp only [↓wpi_isub, ↓wpi_lsub, ↓wpi_ineg, ↓wpi_lneg, ↓wpi_irem, ↓wpi_lrem, ↓wpi_iinc, wp1, wp, wpl, wpi, lget, lput1, lput2, ltail, lkill, aV, aVl, aNth, aPut, aFz, aC0, aC2, aSw, aCat1, aCuts, aSet_eq, List.take, List.drop, List.reverse_cons, List.reverse_nil, List.nil_append, List.cons_append, List.length_cons, List.length_nil, Option.toList, true_and, and_true, Nat.reduceAdd, Nat.reduceEqDiff, Nat.reduceLT, Nat.reduceLeDiff, Nat.zero_add, Nat.add_zero, if_true, if_false, ite_true, ite_false, reduceIte, reduceCtorEq, true_or, or_true, not_true_eq_false, not_false_eq_true, false_and, and_false, true_implies, false_implies, not_false_eq_true, bqX2_init_0, blX2_init_0, bqX2_init_4, blX2_init_4, bqX2_init_12, blX2_init_12, bqX2_init_23, blX2_init_23, hb.rc, hb.rs, aBl]
  intro q0 f1 f2
  have ha0 : a ≠ q0 := by have := f1 a (by rw [hO]; simp); omega
  refine ⟨_, _, _, _, hb.callI liX2_9 (ct_X3_init (a := q0) aSet_eq) rfl (by decide) (by decide) (by decide), ?_, fun _ _ _ h => h.elim⟩
  rintro _ O1 A1 ⟨rfl, r, w1, n1⟩
  have hO1 : O1 a = some (3, [.int 0, .null, .null]) := w1.kO (by rw [aSet_ne ha0]; exact hO) ha0
  refine hb.run (aCuts [4, 12, 23] J) 60 12 _ _ _ _ _ _ (aCuts_ok _) ?_
  simp only [↓wpi_isub, ↓wpi_lsub, ↓wpi_ineg, ↓wpi_lneg, ↓wpi_irem, ↓wpi_lrem, ↓wpi_iinc, wp1, wp, wpl, wpi, lget, lput1, lput2, ltail, lkill, aV, aVl, aNth, aPut, aFz, aC0, aC2, aSw, aCat1, aCuts, aSet_eq, List.take, List.drop, List.reverse_cons, List.reverse_nil, List.nil_append, List.cons_append, List.length_cons, List.length_nil, Option.toList, true_and, and_true, Nat.reduceAdd, Nat.reduceEqDiff, Nat.reduceLT, Nat.reduceLeDiff, Nat.zero_add, Nat.add_zero, if_true, if_false, ite_true, ite_false, reduceIte, reduceCtorEq, true_or, or_true, not_true_eq_false, not_false_eq_true, false_and, and_false, true_implies, false_implies, not_false_eq_true, bqX2_init_0, blX2_init_0, bqX2_init_4, blX2_init_4, bqX2_init_12, blX2_init_12, bqX2_init_23, blX2_init_23, hb.rc, hb.rs, aBl, hO1]
  have W1 := nwP.obj (e' := (3, [.int 0, .ref q0, .null])) f1 f2 w1 (by rw [hO]; simp)
  have m1 := n1.set (a := a) (e := (3, [.int 0, .ref q0, .null])) (Ne.symm ha0)
  intro q2 g1 g2
  have ha2 : a ≠ q2 := by have := g1 a (by rw [aSet_eq]; simp); omega
  refine ⟨_, _, _, _, hb.callI liX2_9 (ct_X3_init (a := q2) aSet_eq) rfl (by decide) (by decide) (by decide), ?_, fun _ _ _ h => h.elim⟩
  rintro _ O2 A2 ⟨rfl, r2, w2, n2⟩
  have hO2 : O2 a = some (3, [.int 0, .ref q0, .null]) := w2.kO (by rw [aSet_ne ha2]; exact aSet_eq) ha2
  refine hb.run (aCuts [4, 12, 23] J) 60 23 _ _ _ _ _ _ (aCuts_ok _) ?_
  simp only [↓wpi_isub, ↓wpi_lsub, ↓wpi_ineg, ↓wpi_lneg, ↓wpi_irem, ↓wpi_lrem, ↓wpi_iinc, wp1, wp, wpl, wpi, lget, lput1, lput2, ltail, lkill, aV, aVl, aNth, aPut, aFz, aC0, aC2, aSw, aCat1, aCuts, aSet_eq, List.take, List.drop, List.reverse_cons, List.reverse_nil, List.nil_append, List.cons_append, List.length_cons, List.length_nil, Option.toList, true_and, and_true, Nat.reduceAdd, Nat.reduceEqDiff, Nat.reduceLT, Nat.reduceLeDiff, Nat.zero_add, Nat.add_zero, if_true, if_false, ite_true, ite_false, reduceIte, reduceCtorEq, true_or, or_true, not_true_eq_false, not_false_eq_true, false_and, and_false, true_implies, false_implies, not_false_eq_true, bqX2_init_0, blX2_init_0, bqX2_init_4, blX2_init_4, bqX2_init_12, blX2_init_12, bqX2_init_23, blX2_init_23, hO2]
  have W2 := nwP.obj (e' := (3, [.int 0, .ref q0, .ref q2])) g1 g2 w2 (by rw [aSet_eq]; simp)
  have m2 := n2.set (a := a) (e := (3, [.int 0, .ref q0, .ref q2])) (Ne.symm ha2)
  have hl1 : r 0 ≠ a := by have := W1.1 a 1 (by decide) (Or.inl (by rw [hO]; simp)); simp at this; omega
  have m1' := W2.kN m1 (Ne.symm ha0) hl1
  refine hb.vret ⟨rfl, _, W1.app W2 (Or.inl (by rw [aSet_eq]; simp)) ?_, aSet_eq, m1', m2⟩ (by decide) (by decide)
  intro i hi
  obtain rfl | rfl : i = 0 ∨ i = 1 := by omega
  · exact m1.uO
  · exact m1.uA
abbrev rmN2 : Room := { frames := 2, cells := 2, slots := 22, locals := 40 }
set_option maxHeartbeats 4000000 in
theorem ct_X5_init (hO : O a = some (6, [.null])) : aMet l G base tA yX5_init cX5_init 1 none rmN2 [.ref a] O A (fun r O' A' => r = none ∧ ∃ q, nwP a 2 q O A O' A' ∧ O' a = some (6, [.ref (q 0)]) ∧ natAt O' A' (q 0) (q 1) 0) := by
  refine aMet_of (ini := true) (B := aLook bkX5_init) (by decide) (fun h => by first | rfl | cases h) (Nat.le_of_ble_eq_true rfl) boX5_init ?_
  intro E J hb
  refine hb.run (aCuts [4, 12] J) 60 0 _ _ _ _ _ _ (aCuts_ok _) ?_
  simp only [↓wpi_isub, ↓wpi_lsub, ↓wpi_ineg, ↓wpi_lneg, ↓wpi_irem, ↓wpi_lrem, ↓wpi_iinc, wp1, wp, wpl, wpi, lget, lput1, lput2, ltail, lkill, aV, aVl, aNth, aPut, aFz, aC0, aC2, aSw, aCat1, aCuts, aSet_eq, List.take, List.drop, List.reverse_cons, List.reverse_nil, List.nil_append, List.cons_append, List.length_cons, List.length_nil, Option.toList, true_and, and_true, Nat.reduceAdd, Nat.reduceEqDiff, Nat.reduceLT, Nat.reduceLeDiff, Nat.zero_add, Nat.add_zero, if_true, if_false, ite_true, ite_false, reduceIte, reduceCtorEq, true_or, or_true, not_true_eq_false, not_false_eq_true, false_and, and_false, true_implies, false_implies, not_false_eq_true, bqX5_init_0, blX5_init_0, bqX5_init_4, blX5_init_4, bqX5_init_12, blX5_init_12, aArgs, List.replicate]
  refine ⟨_, _, _, _, hb.objInit loX5_3 (by decide) (by decide), ?_, fun _ _ _ h => h.elim⟩
  rintro _ O A ⟨rfl, rfl, rfl⟩
  refine hb.run (aCuts [4, 12] J) 60 4 _ _ _ _ _ _ (aCuts_ok _) ?_
  simp only [↓wpi_isub, ↓wpi_lsub, ↓wpi_ineg, ↓wpi_lneg, ↓wpi_irem, ↓wpi_lrem, ↓wpi_iinc, wp1, wp, wpl, wpi, lget, lput1, lput2, ltail, lkill, aV, aVl, aNth, aPut, aFz, aC0, aC2, aSw, aCat1, aCuts, aSet_eq, List.take, List.drop, List.reverse_cons, List.reverse_nil, List.nil_append, List.cons_append, List.length_cons, List.length_nil, Option.toList, true_and, and_true, Nat.reduceAdd, Nat.reduceEqDiff, Nat.reduceLT, Nat.reduceLeDiff, Nat.zero_add, Nat.add_zero, if_true, if_false, ite_true, ite_false, reduceIte, reduceCtorEq, true_or, or_true, not_true_eq_false, not_false_eq_true, false_and, and_false, true_implies, false_implies, not_false_eq_true, bqX5_init_0, blX5_init_0, bqX5_init_4, blX5_init_4, bqX5_init_12, blX5_init_12, hb.rc, hb.rs, aBl]
  intro q0 f1 f2
  have ha0 : a ≠ q0 := by have := f1 a (by rw [hO]; simp); omega
  refine ⟨_, _, _, _, hb.callI liX5_11 (ct_X3_init (a := q0) aSet_eq) rfl (by decide) (by decide) (by decide), ?_, fun _ _ _ h => h.elim⟩
  rintro _ O1 A1 ⟨rfl, r, w1, n1⟩
  have hO1 : O1 a = some (6, [.null]) := w1.kO (by rw [aSet_ne ha0]; exact hO) ha0
  refine hb.run (aCuts [4, 12] J) 60 12 _ _ _ _ _ _ (aCuts_ok _) ?_
  simp only [↓wpi_isub, ↓wpi_lsub, ↓wpi_ineg, ↓wpi_lneg, ↓wpi_irem, ↓wpi_lrem, ↓wpi_iinc, wp1, wp, wpl, wpi, lget, lput1, lput2, ltail, lkill, aV, aVl, aNth, aPut, aFz, aC0, aC2, aSw, aCat1, aCuts, aSet_eq, List.take, List.drop, List.reverse_cons, List.reverse_nil, List.nil_append, List.cons_append, List.length_cons, List.length_nil, Option.toList, true_and, and_true, Nat.reduceAdd, Nat.reduceEqDiff, Nat.reduceLT, Nat.reduceLeDiff, Nat.zero_add, Nat.add_zero, if_true, if_false, ite_true, ite_false, reduceIte, reduceCtorEq, true_or, or_true, not_true_eq_false, not_false_eq_true, false_and, and_false, true_implies, false_implies, not_false_eq_true, bqX5_init_0, blX5_init_0, bqX5_init_4, blX5_init_4, bqX5_init_12, blX5_init_12, hO1]
  have W1 := nwP.obj (e' := (6, [.ref q0])) f1 f2 w1 (by rw [hO]; simp)
  exact hb.vret ⟨rfl, _, W1, aSet_eq, n1.set (Ne.symm ha0)⟩ (by decide) (by decide)
/-- four Naturals of a: the steps behind each other -/
theorem nat_far {a m : Nat} {q : Nat → Nat} {O O' : aO} {A A' : aA} (h : nwP a m q O A O' A') (ha : usd O A a) {i : Nat} (hi : i < m) : q i ≠ a := by
  have := h.1 a i hi ha; omega
abbrev rmN3 : Room := { frames := 2, cells := 8, slots := 88, locals := 40 }
set_option maxHeartbeats 8000000 in
theorem ct_X0_init (hO : O a = some (2, [.null, .null, .null, .null])) : aMet l G base tA yX0_init cX0_init 1 none rmN3 [.ref a] O A (fun r O' A' => r = none ∧ ∃ q, nwP a 8 q O A O' A' ∧ O' a = some (2, [.ref (q 0), .ref (q 2), .ref (q 4), .ref (q 6)]) ∧ natAt O' A' (q 0) (q 1) 0 ∧ natAt O' A' (q 2) (q 3) 0 ∧ natAt O' A' (q 4) (q 5) 0 ∧ natAt O' A' (q 6) (q 7) 0) := by
  refine aMet_of (ini := true) (B := aLook bkX0_init) (by decide) (fun h => by first | rfl | cases h) (Nat.le_of_ble_eq_true rfl) boX0_init ?_
  intro E J hb
  refine hb.run (aCuts [4, 12, 23, 34, 45] J) 60 0 _ _ _ _ _ _ (aCuts_ok _) ?_
  simp only [↓wpi_isub, ↓wpi_lsub, ↓wpi_ineg, ↓wpi_lneg, ↓wpi_irem, ↓wpi_lrem, ↓wpi_iinc, wp1, wp, wpl, wpi, lget, lput1, lput2, ltail, lkill, aV, aVl, aNth, aPut, aFz, aC0, aC2, aSw, aCat1, aCuts, aSet_eq, List.take, List.drop, List.reverse_cons, List.reverse_nil, List.nil_append, List.cons_append, List.length_cons, List.length_nil, Option.toList, true_and, and_true, Nat.reduceAdd, Nat.reduceEqDiff, Nat.reduceLT, Nat.reduceLeDiff, Nat.zero_add, Nat.add_zero, if_true, if_false, ite_true, ite_false, reduceIte, reduceCtorEq, true_or, or_true, not_true_eq_false, not_false_eq_true, false_and, and_false, true_implies, false_implies, not_false_eq_true, bqX0_init_0, blX0_init_0, bqX0_init_4, blX0_init_4, bqX0_init_12, blX0_init_12, bqX0_init_23, blX0_init_23, bqX0_init_34, blX0_init_34, bqX0_init_45, blX0_init_45, aArgs, List.replicate]
  refine ⟨_, _, _, _, hb.objInit loX0_1 (by decide) (by decide), ?_, fun _ _ _ h => h.elim⟩
  rintro _ O A ⟨rfl, rfl, rfl⟩
  refine hb.run (aCuts [4, 12, 23, 34, 45] J) 60 4 _ _ _ _ _ _ (aCuts_ok _) ?_
  simp only [↓wpi_isub, ↓wpi_lsub, ↓wpi_ineg, ↓wpi_lneg, ↓wpi_irem, ↓wpi_lrem, ↓wpi_iinc, wp1, wp, wpl, wpi, lget, lput1, lput2, ltail, lkill, aV, aVl, aNth, aPut, aFz, aC0, aC2, aSw, aCat1, aCuts, aSet_eq, List.take, List.drop, List.reverse_cons, List.reverse_nil, List.nil_append, List.cons_append, List.length_cons, List.length_nil, Option.toList, true_and, and_true, Nat.reduceAdd, Nat.reduceEqDiff, Nat.reduceLT, Nat.reduceLeDiff, Nat.zero_add, Nat.add_zero, if_true, if_false, ite_true, ite_false, reduceIte, reduceCtorEq, true_or, or_true, not_true_eq_false, not_false_eq_true, false_and, and_false, true_implies, false_implies, not_false_eq_true, bqX0_init_0, blX0_init_0, bqX0_init_4, blX0_init_4, bqX0_init_12, blX0_init_12, bqX0_init_23, blX0_init_23, bqX0_init_34, blX0_init_34, bqX0_init_45, blX0_init_45, hb.rc, hb.rs, aBl]
  intro p0 f0 g0
  have ha0 : a ≠ p0 := by have := f0 a (by rw [hO]; simp); omega
  refine ⟨_, _, _, _, hb.callI liX0_9 (ct_X3_init (a := p0) aSet_eq) rfl (by decide) (by decide) (by decide), ?_, fun _ _ _ h => h.elim⟩
  rintro _ O1 A1 ⟨rfl, r0, w0, n0⟩
  have hO0 : O1 a = some (2, [.null, .null, .null, .null]) := w0.kO (by rw [aSet_ne ha0]; exact hO) ha0
  refine hb.run (aCuts [4, 12, 23, 34, 45] J) 60 12 _ _ _ _ _ _ (aCuts_ok _) ?_
  simp only [↓wpi_isub, ↓wpi_lsub, ↓wpi_ineg, ↓wpi_lneg, ↓wpi_irem, ↓wpi_lrem, ↓wpi_iinc, wp1, wp, wpl, wpi, lget, lput1, lput2, ltail, lkill, aV, aVl, aNth, aPut, aFz, aC0, aC2, aSw, aCat1, aCuts, aSet_eq, List.take, List.drop, List.reverse_cons, List.reverse_nil, List.nil_append, List.cons_append, List.length_cons, List.length_nil, Option.toList, true_and, and_true, Nat.reduceAdd, Nat.reduceEqDiff, Nat.reduceLT, Nat.reduceLeDiff, Nat.zero_add, Nat.add_zero, if_true, if_false, ite_true, ite_false, reduceIte, reduceCtorEq, true_or, or_true, not_true_eq_false, not_false_eq_true, false_and, and_false, true_implies, false_implies, not_false_eq_true, bqX0_init_0, blX0_init_0, bqX0_init_4, blX0_init_4, bqX0_init_12, blX0_init_12, bqX0_init_23, blX0_init_23, bqX0_init_34, blX0_init_34, bqX0_init_45, blX0_init_45, hb.rc, hb.rs, aBl, hO0]
  have W0 := nwP.obj (e' := (2, [.ref p0, .null, .null, .null])) f0 g0 w0 (by rw [hO]; simp)
  have m0 := n0.set (a := a) (e := (2, [.ref p0, .null, .null, .null])) (Ne.symm ha0)
  have l0 : r0 0 ≠ a := nat_far W0 (Or.inl (by rw [hO]; simp)) (i := 1) (by decide)
  intro p1 f1 g1
  have ha1 : a ≠ p1 := by have := f1 a (by rw [aSet_eq]; simp); omega
  refine ⟨_, _, _, _, hb.callI liX0_9 (ct_X3_init (a := p1) aSet_eq) rfl (by decide) (by decide) (by decide), ?_, fun _ _ _ h => h.elim⟩
  rintro _ O2 A2 ⟨rfl, r1, w1, n1⟩
  have hO1 : O2 a = some (2, [.ref p0, .null, .null, .null]) := w1.kO (by rw [aSet_ne ha1]; exact aSet_eq) ha1
  refine hb.run (aCuts [4, 12, 23, 34, 45] J) 60 23 _ _ _ _ _ _ (aCuts_ok _) ?_
  simp only [↓wpi_isub, ↓wpi_lsub, ↓wpi_ineg, ↓wpi_lneg, ↓wpi_irem, ↓wpi_lrem, ↓wpi_iinc, wp1, wp, wpl, wpi, lget, lput1, lput2, ltail, lkill, aV, aVl, aNth, aPut, aFz, aC0, aC2, aSw, aCat1, aCuts, aSet_eq, List.take, List.drop, List.reverse_cons, List.reverse_nil, List.nil_append, List.cons_append, List.length_cons, List.length_nil, Option.toList, true_and, and_true, Nat.reduceAdd, Nat.reduceEqDiff, Nat.reduceLT, Nat.reduceLeDiff, Nat.zero_add, Nat.add_zero, if_true, if_false, ite_true, ite_false, reduceIte, reduceCtorEq, true_or, or_true, not_true_eq_false, not_false_eq_true, false_and, and_false, true_implies, false_implies, not_false_eq_true, bqX0_init_0, blX0_init_0, bqX0_init_4, blX0_init_4, bqX0_init_12, blX0_init_12, bqX0_init_23, blX0_init_23, bqX0_init_34, blX0_init_34, bqX0_init_45, blX0_init_45, hb.rc, hb.rs, aBl, hO1]
  have W1 := nwP.obj (e' := (2, [.ref p0, .ref p1, .null, .null])) f1 g1 w1 (by rw [aSet_eq]; simp)
  have m1 := n1.set (a := a) (e := (2, [.ref p0, .ref p1, .null, .null])) (Ne.symm ha1)
  have l1 : r1 0 ≠ a := nat_far W1 (Or.inl (by rw [aSet_eq]; simp)) (i := 1) (by decide)
  intro p2 f2 g2
  have ha2 : a ≠ p2 := by have := f2 a (by rw [aSet_eq]; simp); omega
  refine ⟨_, _, _, _, hb.callI liX0_9 (ct_X3_init (a := p2) aSet_eq) rfl (by decide) (by decide) (by decide), ?_, fun _ _ _ h => h.elim⟩
  rintro _ O3 A3 ⟨rfl, r2, w2, n2⟩
  have hO2 : O3 a = some (2, [.ref p0, .ref p1, .null, .null]) := w2.kO (by rw [aSet_ne ha2]; exact aSet_eq) ha2
  refine hb.run (aCuts [4, 12, 23, 34, 45] J) 60 34 _ _ _ _ _ _ (aCuts_ok _) ?_
  simp only [↓wpi_isub, ↓wpi_lsub, ↓wpi_ineg, ↓wpi_lneg, ↓wpi_irem, ↓wpi_lrem, ↓wpi_iinc, wp1, wp, wpl, wpi, lget, lput1, lput2, ltail, lkill, aV, aVl, aNth, aPut, aFz, aC0, aC2, aSw, aCat1, aCuts, aSet_eq, List.take, List.drop, List.reverse_cons, List.reverse_nil, List.nil_append, List.cons_append, List.length_cons, List.length_nil, Option.toList, true_and, and_true, Nat.reduceAdd, Nat.reduceEqDiff, Nat.reduceLT, Nat.reduceLeDiff, Nat.zero_add, Nat.add_zero, if_true, if_false, ite_true, ite_false, reduceIte, reduceCtorEq, true_or, or_true, not_true_eq_false, not_false_eq_true, false_and, and_false, true_implies, false_implies, not_false_eq_true, bqX0_init_0, blX0_init_0, bqX0_init_4, blX0_init_4, bqX0_init_12, blX0_init_12, bqX0_init_23, blX0_init_23, bqX0_init_34, blX0_init_34, bqX0_init_45, blX0_init_45, hb.rc, hb.rs, aBl, hO2]
  have W2 := nwP.obj (e' := (2, [.ref p0, .ref p1, .ref p2, .null])) f2 g2 w2 (by rw [aSet_eq]; simp)
  have m2 := n2.set (a := a) (e := (2, [.ref p0, .ref p1, .ref p2, .null])) (Ne.symm ha2)
  have l2 : r2 0 ≠ a := nat_far W2 (Or.inl (by rw [aSet_eq]; simp)) (i := 1) (by decide)
  intro p3 f3 g3
  have ha3 : a ≠ p3 := by have := f3 a (by rw [aSet_eq]; simp); omega
  refine ⟨_, _, _, _, hb.callI liX0_9 (ct_X3_init (a := p3) aSet_eq) rfl (by decide) (by decide) (by decide), ?_, fun _ _ _ h => h.elim⟩
  rintro _ O4 A4 ⟨rfl, r3, w3, n3⟩
  have hO3 : O4 a = some (2, [.ref p0, .ref p1, .ref p2, .null]) := w3.kO (by rw [aSet_ne ha3]; exact aSet_eq) ha3
  refine hb.run (aCuts [4, 12, 23, 34, 45] J) 60 45 _ _ _ _ _ _ (aCuts_ok _) ?_
  simp only [↓wpi_isub, ↓wpi_lsub, ↓wpi_ineg, ↓wpi_lneg, ↓wpi_irem, ↓wpi_lrem, ↓wpi_iinc, wp1, wp, wpl, wpi, lget, lput1, lput2, ltail, lkill, aV, aVl, aNth, aPut, aFz, aC0, aC2, aSw, aCat1, aCuts, aSet_eq, List.take, List.drop, List.reverse_cons, List.reverse_nil, List.nil_append, List.cons_append, List.length_cons, List.length_nil, Option.toList, true_and, and_true, Nat.reduceAdd, Nat.reduceEqDiff, Nat.reduceLT, Nat.reduceLeDiff, Nat.zero_add, Nat.add_zero, if_true, if_false, ite_true, ite_false, reduceIte, reduceCtorEq, true_or, or_true, not_true_eq_false, not_false_eq_true, false_and, and_false, true_implies, false_implies, not_false_eq_true, bqX0_init_0, blX0_init_0, bqX0_init_4, blX0_init_4, bqX0_init_12, blX0_init_12, bqX0_init_23, blX0_init_23, bqX0_init_34, blX0_init_34, bqX0_init_45, blX0_init_45, hb.rc, hb.rs, aBl, hO3]
  have W3 := nwP.obj (e' := (2, [.ref p0, .ref p1, .ref p2, .ref p3])) f3 g3 w3 (by rw [aSet_eq]; simp)
  have m3 := n3.set (a := a) (e := (2, [.ref p0, .ref p1, .ref p2, .ref p3])) (Ne.symm ha3)
  have l3 : r3 0 ≠ a := nat_far W3 (Or.inl (by rw [aSet_eq]; simp)) (i := 1) (by decide)
  have X1 := W0.app W1 (Or.inl (by rw [aSet_eq]; simp)) (two_us m0)
  have X2 := W2.app W3 (Or.inl (by rw [aSet_eq]; simp)) (two_us m2)
  have k0 := W1.kN m0 (Ne.symm ha0) l0
  refine hb.vret ⟨rfl, _, X1.app X2 (Or.inl (by rw [aSet_eq]; simp)) ?_, aSet_eq, X2.kN k0 (Ne.symm ha0) l0, X2.kN m1 (Ne.symm ha1) l1, W3.kN m2 (Ne.symm ha2) l2, m3⟩ (by decide) (by decide)
  intro i hi
  obtain rfl | rfl | rfl | rfl : i = 0 ∨ i = 1 ∨ i = 2 ∨ i = 3 := by omega
  · exact k0.uO
  · exact k0.uA
  · exact m1.uO
  · exact m1.uA
set_option maxHeartbeats 1000000 in
theorem ct_X7_init : aMet l G base tA yX7_init cX7_init 1 none { frames := 1, cells := 0, slots := 0, locals := 20 } [.ref a] O A (fun r O' A' => r = none ∧ O' = O ∧ A' = A) := by
  refine aMet_of (ini := true) (B := aLook bkX7_init) (by decide) (fun h => by first | rfl | cases h) (Nat.le_of_ble_eq_true rfl) boX7_init ?_
  intro E J hb
  refine hb.run (aCuts [4] J) 60 0 _ _ _ _ _ _ (aCuts_ok _) ?_
  simp only [↓wpi_isub, ↓wpi_lsub, ↓wpi_ineg, ↓wpi_lneg, ↓wpi_irem, ↓wpi_lrem, ↓wpi_iinc, wp1, wp, wpl, wpi, lget, lput1, lput2, ltail, lkill, aV, aVl, aNth, aPut, aFz, aC0, aC2, aSw, aCat1, aCuts, aSet_eq, List.take, List.drop, List.reverse_cons, List.reverse_nil, List.nil_append, List.cons_append, List.length_cons, List.length_nil, Option.toList, true_and, and_true, Nat.reduceAdd, Nat.reduceEqDiff, Nat.reduceLT, Nat.reduceLeDiff, Nat.zero_add, Nat.add_zero, if_true, if_false, ite_true, ite_false, reduceIte, reduceCtorEq, true_or, or_true, not_true_eq_false, not_false_eq_true, false_and, and_false, true_implies, false_implies, not_false_eq_true, bqX7_init_0, blX7_init_0, bqX7_init_4, blX7_init_4, aArgs, List.replicate]
  refine ⟨_, _, _, _, hb.objInit loX7_3 (by decide) (by decide), ?_, fun _ _ _ h => h.elim⟩
  rintro _ O A ⟨rfl, rfl, rfl⟩
  refine hb.run (aCuts [4] J) 60 4 _ _ _ _ _ _ (aCuts_ok _) ?_
  simp only [↓wpi_isub, ↓wpi_lsub, ↓wpi_ineg, ↓wpi_lneg, ↓wpi_irem, ↓wpi_lrem, ↓wpi_iinc, wp1, wp, wpl, wpi, lget, lput1, lput2, ltail, lkill, aV, aVl, aNth, aPut, aFz, aC0, aC2, aSw, aCat1, aCuts, aSet_eq, List.take, List.drop, List.reverse_cons, List.reverse_nil, List.nil_append, List.cons_append, List.length_cons, List.length_nil, Option.toList, true_and, and_true, Nat.reduceAdd, Nat.reduceEqDiff, Nat.reduceLT, Nat.reduceLeDiff, Nat.zero_add, Nat.add_zero, if_true, if_false, ite_true, ite_false, reduceIte, reduceCtorEq, true_or, or_true, not_true_eq_false, not_false_eq_true, false_and, and_false, true_implies, false_implies, not_false_eq_true, bqX7_init_0, blX7_init_0, bqX7_init_4, blX7_init_4]
  exact hb.vret ⟨rfl, rfl, rfl⟩ (by decide) (by decide)
abbrev rmN4 : Room := { frames := 2, cells := 9, slots := 88, locals := 40 }
set_option maxHeartbeats 8000000 in
theorem ct_X6_init (hO : O a = some (7, [.null, .null, .null, .null, .null, .int 0])) : aMet l G base tA yX6_init cX6_init 1 none rmN4 [.ref a] O A (fun r O' A' => r = none ∧ ∃ q, nwP a 9 q O A O' A' ∧ O' a = some (7, [.ref (q 0), .ref (q 1), .ref (q 3), .ref (q 5), .ref (q 7), .int 0]) ∧ O' (q 0) = some (8, []) ∧ natAt O' A' (q 1) (q 2) 0 ∧ natAt O' A' (q 3) (q 4) 0 ∧ natAt O' A' (q 5) (q 6) 0 ∧ natAt O' A' (q 7) (q 8) 0) := by
  refine aMet_of (ini := true) (B := aLook bkX6_init) (by decide) (fun h => by first | rfl | cases h) (Nat.le_of_ble_eq_true rfl) boX6_init ?_
  intro E J hb
  refine hb.run (aCuts [4, 12, 23, 34, 45, 56] J) 60 0 _ _ _ _ _ _ (aCuts_ok _) ?_
  simp only [↓wpi_isub, ↓wpi_lsub, ↓wpi_ineg, ↓wpi_lneg, ↓wpi_irem, ↓wpi_lrem, ↓wpi_iinc, wp1, wp, wpl, wpi, lget, lput1, lput2, ltail, lkill, aV, aVl, aNth, aPut, aFz, aC0, aC2, aSw, aCat1, aCuts, aSet_eq, List.take, List.drop, List.reverse_cons, List.reverse_nil, List.nil_append, List.cons_append, List.length_cons, List.length_nil, Option.toList, true_and, and_true, Nat.reduceAdd, Nat.reduceEqDiff, Nat.reduceLT, Nat.reduceLeDiff, Nat.zero_add, Nat.add_zero, if_true, if_false, ite_true, ite_false, reduceIte, reduceCtorEq, true_or, or_true, not_true_eq_false, not_false_eq_true, false_and, and_false, true_implies, false_implies, not_false_eq_true, bqX6_init_0, blX6_init_0, bqX6_init_4, blX6_init_4, bqX6_init_12, blX6_init_12, bqX6_init_23, blX6_init_23, bqX6_init_34, blX6_init_34, bqX6_init_45, blX6_init_45, bqX6_init_56, blX6_init_56, aArgs, List.replicate]
  refine ⟨_, _, _, _, hb.objInit loX6_3 (by decide) (by decide), ?_, fun _ _ _ h => h.elim⟩
  rintro _ O A ⟨rfl, rfl, rfl⟩
  refine hb.run (aCuts [4, 12, 23, 34, 45, 56] J) 60 4 _ _ _ _ _ _ (aCuts_ok _) ?_
  simp only [↓wpi_isub, ↓wpi_lsub, ↓wpi_ineg, ↓wpi_lneg, ↓wpi_irem, ↓wpi_lrem, ↓wpi_iinc, wp1, wp, wpl, wpi, lget, lput1, lput2, ltail, lkill, aV, aVl, aNth, aPut, aFz, aC0, aC2, aSw, aCat1, aCuts, aSet_eq, List.take, List.drop, List.reverse_cons, List.reverse_nil, List.nil_append, List.cons_append, List.length_cons, List.length_nil, Option.toList, true_and, and_true, Nat.reduceAdd, Nat.reduceEqDiff, Nat.reduceLT, Nat.reduceLeDiff, Nat.zero_add, Nat.add_zero, if_true, if_false, ite_true, ite_false, reduceIte, reduceCtorEq, true_or, or_true, not_true_eq_false, not_false_eq_true, false_and, and_false, true_implies, false_implies, not_false_eq_true, bqX6_init_0, blX6_init_0, bqX6_init_4, blX6_init_4, bqX6_init_12, blX6_init_12, bqX6_init_23, blX6_init_23, bqX6_init_34, blX6_init_34, bqX6_init_45, blX6_init_45, bqX6_init_56, blX6_init_56, hb.rc, hb.rs, aBl]
  intro wr fw gw
  have hw : a ≠ wr := by have := fw a (by rw [hO]; simp); omega
  refine ⟨_, _, _, _, hb.callI liX6_11 (ct_X7_init (a := wr)) rfl (by decide) (by decide) (by decide), ?_, fun _ _ _ h => h.elim⟩
  rintro _ O' A' ⟨rfl, rfl, rfl⟩
  have hOw : aSet O wr (8, []) a = some (7, [.null, .null, .null, .null, .null, .int 0]) := by rw [aSet_ne hw]; exact hO
  refine hb.run (aCuts [4, 12, 23, 34, 45, 56] J) 60 12 _ _ _ _ _ _ (aCuts_ok _) ?_
  simp only [↓wpi_isub, ↓wpi_lsub, ↓wpi_ineg, ↓wpi_lneg, ↓wpi_irem, ↓wpi_lrem, ↓wpi_iinc, wp1, wp, wpl, wpi, lget, lput1, lput2, ltail, lkill, aV, aVl, aNth, aPut, aFz, aC0, aC2, aSw, aCat1, aCuts, aSet_eq, List.take, List.drop, List.reverse_cons, List.reverse_nil, List.nil_append, List.cons_append, List.length_cons, List.length_nil, Option.toList, true_and, and_true, Nat.reduceAdd, Nat.reduceEqDiff, Nat.reduceLT, Nat.reduceLeDiff, Nat.zero_add, Nat.add_zero, if_true, if_false, ite_true, ite_false, reduceIte, reduceCtorEq, true_or, or_true, not_true_eq_false, not_false_eq_true, false_and, and_false, true_implies, false_implies, not_false_eq_true, bqX6_init_0, blX6_init_0, bqX6_init_4, blX6_init_4, bqX6_init_12, blX6_init_12, bqX6_init_23, blX6_init_23, bqX6_init_34, blX6_init_34, bqX6_init_45, blX6_init_45, bqX6_init_56, blX6_init_56, hb.rc, hb.rs, aBl, hOw]
  have hW : nwP wr 0 (fun _ => 0) (aSet O wr (8, [])) A' (aSet O wr (8, [])) A' := ⟨fun x i hi => by omega, fun i j _ hj => by omega, fun x _ _ => ⟨rfl, rfl⟩⟩
  have Ww := nwP.obj (e' := (7, [.ref wr, .null, .null, .null, .null, .int 0])) fw gw hW (by rw [hO]; simp)
  have ow : aSet (aSet O wr (8, [])) a (7, [.ref wr, .null, .null, .null, .null, .int 0]) wr = some (8, []) := by rw [aSet_ne (Ne.symm hw)]; exact aSet_eq
  intro p0 f0 g0
  have ha0 : a ≠ p0 := by have := f0 a (by rw [aSet_eq]; simp); omega
  refine ⟨_, _, _, _, hb.callI liX6_20 (ct_X3_init (a := p0) aSet_eq) rfl (by decide) (by decide) (by decide), ?_, fun _ _ _ h => h.elim⟩
  rintro _ O1 A1 ⟨rfl, r0, w0, n0⟩
  have hO0 : O1 a = some (7, [.ref wr, .null, .null, .null, .null, .int 0]) := w0.kO (by rw [aSet_ne ha0]; exact aSet_eq) ha0
  refine hb.run (aCuts [4, 12, 23, 34, 45, 56] J) 60 23 _ _ _ _ _ _ (aCuts_ok _) ?_
  simp only [↓wpi_isub, ↓wpi_lsub, ↓wpi_ineg, ↓wpi_lneg, ↓wpi_irem, ↓wpi_lrem, ↓wpi_iinc, wp1, wp, wpl, wpi, lget, lput1, lput2, ltail, lkill, aV, aVl, aNth, aPut, aFz, aC0, aC2, aSw, aCat1, aCuts, aSet_eq, List.take, List.drop, List.reverse_cons, List.reverse_nil, List.nil_append, List.cons_append, List.length_cons, List.length_nil, Option.toList, true_and, and_true, Nat.reduceAdd, Nat.reduceEqDiff, Nat.reduceLT, Nat.reduceLeDiff, Nat.zero_add, Nat.add_zero, if_true, if_false, ite_true, ite_false, reduceIte, reduceCtorEq, true_or, or_true, not_true_eq_false, not_false_eq_true, false_and, and_false, true_implies, false_implies, not_false_eq_true, bqX6_init_0, blX6_init_0, bqX6_init_4, blX6_init_4, bqX6_init_12, blX6_init_12, bqX6_init_23, blX6_init_23, bqX6_init_34, blX6_init_34, bqX6_init_45, blX6_init_45, bqX6_init_56, blX6_init_56, hb.rc, hb.rs, aBl, hO0]
  have W0 := nwP.obj (e' := (7, [.ref wr, .ref p0, .null, .null, .null, .int 0])) f0 g0 w0 (by rw [aSet_eq]; simp)
  have m0 := n0.set (a := a) (e := (7, [.ref wr, .ref p0, .null, .null, .null, .int 0])) (Ne.symm ha0)
  have l0 : r0 0 ≠ a := nat_far W0 (Or.inl (by rw [aSet_eq]; simp)) (i := 1) (by decide)
  intro p1 f1 g1
  have ha1 : a ≠ p1 := by have := f1 a (by rw [aSet_eq]; simp); omega
  refine ⟨_, _, _, _, hb.callI liX6_20 (ct_X3_init (a := p1) aSet_eq) rfl (by decide) (by decide) (by decide), ?_, fun _ _ _ h => h.elim⟩
  rintro _ O2 A2 ⟨rfl, r1, w1, n1⟩
  have hO1 : O2 a = some (7, [.ref wr, .ref p0, .null, .null, .null, .int 0]) := w1.kO (by rw [aSet_ne ha1]; exact aSet_eq) ha1
  refine hb.run (aCuts [4, 12, 23, 34, 45, 56] J) 60 34 _ _ _ _ _ _ (aCuts_ok _) ?_
  simp only [↓wpi_isub, ↓wpi_lsub, ↓wpi_ineg, ↓wpi_lneg, ↓wpi_irem, ↓wpi_lrem, ↓wpi_iinc, wp1, wp, wpl, wpi, lget, lput1, lput2, ltail, lkill, aV, aVl, aNth, aPut, aFz, aC0, aC2, aSw, aCat1, aCuts, aSet_eq, List.take, List.drop, List.reverse_cons, List.reverse_nil, List.nil_append, List.cons_append, List.length_cons, List.length_nil, Option.toList, true_and, and_true, Nat.reduceAdd, Nat.reduceEqDiff, Nat.reduceLT, Nat.reduceLeDiff, Nat.zero_add, Nat.add_zero, if_true, if_false, ite_true, ite_false, reduceIte, reduceCtorEq, true_or, or_true, not_true_eq_false, not_false_eq_true, false_and, and_false, true_implies, false_implies, not_false_eq_true, bqX6_init_0, blX6_init_0, bqX6_init_4, blX6_init_4, bqX6_init_12, blX6_init_12, bqX6_init_23, blX6_init_23, bqX6_init_34, blX6_init_34, bqX6_init_45, blX6_init_45, bqX6_init_56, blX6_init_56, hb.rc, hb.rs, aBl, hO1]
  have W1 := nwP.obj (e' := (7, [.ref wr, .ref p0, .ref p1, .null, .null, .int 0])) f1 g1 w1 (by rw [aSet_eq]; simp)
  have m1 := n1.set (a := a) (e := (7, [.ref wr, .ref p0, .ref p1, .null, .null, .int 0])) (Ne.symm ha1)
  have l1 : r1 0 ≠ a := nat_far W1 (Or.inl (by rw [aSet_eq]; simp)) (i := 1) (by decide)
  intro p2 f2 g2
  have ha2 : a ≠ p2 := by have := f2 a (by rw [aSet_eq]; simp); omega
  refine ⟨_, _, _, _, hb.callI liX6_20 (ct_X3_init (a := p2) aSet_eq) rfl (by decide) (by decide) (by decide), ?_, fun _ _ _ h => h.elim⟩
  rintro _ O3 A3 ⟨rfl, r2, w2, n2⟩
  have hO2 : O3 a = some (7, [.ref wr, .ref p0, .ref p1, .null, .null, .int 0]) := w2.kO (by rw [aSet_ne ha2]; exact aSet_eq) ha2
  refine hb.run (aCuts [4, 12, 23, 34, 45, 56] J) 60 45 _ _ _ _ _ _ (aCuts_ok _) ?_
  simp only [↓wpi_isub, ↓wpi_lsub, ↓wpi_ineg, ↓wpi_lneg, ↓wpi_irem, ↓wpi_lrem, ↓wpi_iinc, wp1, wp, wpl, wpi, lget, lput1, lput2, ltail, lkill, aV, aVl, aNth, aPut, aFz, aC0, aC2, aSw, aCat1, aCuts, aSet_eq, List.take, List.drop, List.reverse_cons, List.reverse_nil, List.nil_append, List.cons_append, List.length_cons, List.length_nil, Option.toList, true_and, and_true, Nat.reduceAdd, Nat.reduceEqDiff, Nat.reduceLT, Nat.reduceLeDiff, Nat.zero_add, Nat.add_zero, if_true, if_false, ite_true, ite_false, reduceIte, reduceCtorEq, true_or, or_true, not_true_eq_false, not_false_eq_true, false_and, and_false, true_implies, false_implies, not_false_eq_true, bqX6_init_0, blX6_init_0, bqX6_init_4, blX6_init_4, bqX6_init_12, blX6_init_12, bqX6_init_23, blX6_init_23, bqX6_init_34, blX6_init_34, bqX6_init_45, blX6_init_45, bqX6_init_56, blX6_init_56, hb.rc, hb.rs, aBl, hO2]
  have W2 := nwP.obj (e' := (7, [.ref wr, .ref p0, .ref p1, .ref p2, .null, .int 0])) f2 g2 w2 (by rw [aSet_eq]; simp)
  have m2 := n2.set (a := a) (e := (7, [.ref wr, .ref p0, .ref p1, .ref p2, .null, .int 0])) (Ne.symm ha2)
  have l2 : r2 0 ≠ a := nat_far W2 (Or.inl (by rw [aSet_eq]; simp)) (i := 1) (by decide)
  intro p3 f3 g3
  have ha3 : a ≠ p3 := by have := f3 a (by rw [aSet_eq]; simp); omega
  refine ⟨_, _, _, _, hb.callI liX6_20 (ct_X3_init (a := p3) aSet_eq) rfl (by decide) (by decide) (by decide), ?_, fun _ _ _ h => h.elim⟩
  rintro _ O4 A4 ⟨rfl, r3, w3, n3⟩
  have hO3 : O4 a = some (7, [.ref wr, .ref p0, .ref p1, .ref p2, .null, .int 0]) := w3.kO (by rw [aSet_ne ha3]; exact aSet_eq) ha3
  refine hb.run (aCuts [4, 12, 23, 34, 45, 56] J) 60 56 _ _ _ _ _ _ (aCuts_ok _) ?_
  simp only [↓wpi_isub, ↓wpi_lsub, ↓wpi_ineg, ↓wpi_lneg, ↓wpi_irem, ↓wpi_lrem, ↓wpi_iinc, wp1, wp, wpl, wpi, lget, lput1, lput2, ltail, lkill, aV, aVl, aNth, aPut, aFz, aC0, aC2, aSw, aCat1, aCuts, aSet_eq, List.take, List.drop, List.reverse_cons, List.reverse_nil, List.nil_append, List.cons_append, List.length_cons, List.length_nil, Option.toList, true_and, and_true, Nat.reduceAdd, Nat.reduceEqDiff, Nat.reduceLT, Nat.reduceLeDiff, Nat.zero_add, Nat.add_zero, if_true, if_false, ite_true, ite_false, reduceIte, reduceCtorEq, true_or, or_true, not_true_eq_false, not_false_eq_true, false_and, and_false, true_implies, false_implies, not_false_eq_true, bqX6_init_0, blX6_init_0, bqX6_init_4, blX6_init_4, bqX6_init_12, blX6_init_12, bqX6_init_23, blX6_init_23, bqX6_init_34, blX6_init_34, bqX6_init_45, blX6_init_45, bqX6_init_56, blX6_init_56, hb.rc, hb.rs, aBl, hO3]
  have W3 := nwP.obj (e' := (7, [.ref wr, .ref p0, .ref p1, .ref p2, .ref p3, .int 0])) f3 g3 w3 (by rw [aSet_eq]; simp)
  have m3 := n3.set (a := a) (e := (7, [.ref wr, .ref p0, .ref p1, .ref p2, .ref p3, .int 0])) (Ne.symm ha3)
  have l3 : r3 0 ≠ a := nat_far W3 (Or.inl (by rw [aSet_eq]; simp)) (i := 1) (by decide)
  have X1 := W0.app W1 (Or.inl (by rw [aSet_eq]; simp)) (two_us m0)
  have X2 := W2.app W3 (Or.inl (by rw [aSet_eq]; simp)) (two_us m2)
  have k0 := W1.kN m0 (Ne.symm ha0) l0
  have X3 := X1.app X2 (Or.inl (by rw [aSet_eq]; simp)) (by
    intro i hi
    obtain rfl | rfl | rfl | rfl : i = 0 ∨ i = 1 ∨ i = 2 ∨ i = 3 := by omega
    · exact k0.uO
    · exact k0.uA
    · exact m1.uO
    · exact m1.uA)
  refine hb.vret ⟨rfl, _, Ww.app X3 (Or.inl (by rw [aSet_eq]; simp)) ?_, aSet_eq, X3.kO ow (Ne.symm hw), X2.kN k0 (Ne.symm ha0) l0, X2.kN m1 (Ne.symm ha1) l1, W3.kN m2 (Ne.symm ha2) l2, m3⟩ (by decide) (by decide)
  intro i hi
  obtain rfl : i = 0 := by omega
  exact Or.inl (by rw [show (if (0 : Nat) = 0 then wr else (0 : Nat)) = wr from rfl, ow]; simp)
end INI
