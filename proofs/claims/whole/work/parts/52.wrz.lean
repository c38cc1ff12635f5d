/-! ===== Writer: zoned ===== -/
/-- the bytes of number k become g -/
def nBy (N : aN) (k : Nat) (g : Nat → Nat) : aN := fun r i => if r = 6 + k then (if i < N 5 k then g i else 0) else N r i
def nSame (N N' : aN) (k : Nat) : Prop := ∀ r i, r ≠ 6 + k → N' r i = N r i
def dgt (q n : Nat) : Nat := q / 10 ^ n % 10
def zWn (u d : Nat) (neg : Bool) (i : Nat) : Nat := if (u = 0 ∧ i + 1 = d) ∨ (u = 1 ∧ i = 0) then (if neg then 13 else 12) else 15
/-- the byte at place p of a zoned number -/
def zW (u d q : Nat) (neg : Bool) (p : Nat) : Nat := if u = 2 ∧ p = d ∨ u = 3 ∧ p = 0 then (if neg then 96 else 78) else zWn u d neg (p - zSt u) * 16 + dgt q (d - 1 - (p - zSt u))
theorem dgt_lt (q n : Nat) : dgt q n < 10 := Nat.mod_lt _ (by decide)
theorem zWn_lt (u d : Nat) (neg : Bool) (i : Nat) : zWn u d neg i < 16 := by unfold zWn; repeat' split
                                                                             all_goals decide
theorem dgt_div (q a b : Nat) : q / 10 ^ a / 10 ^ b = q / 10 ^ (a + b) := by rw [Nat.div_div_eq_div_mul, ← Nat.pow_add]
theorem dgt_step (q a : Nat) : q / 10 ^ a / 10 = q / 10 ^ (a + 1) := by rw [Nat.div_div_eq_div_mul, ← Nat.pow_succ]
section WRZ
variable {l : Launch} {G : aG} {base tA : Nat} {Z ρ : Nat → Nat} {sg : Nat → Bool} {N N' : aN} {O0 O : aO} {A0 A : aA} {k i : Nat}
theorem nSame.rf : nSame N N k := fun _ _ _ => rfl
theorem nSame.put {i v : Nat} (h : nSame N N' k) : nSame N (nU N' (6 + k) i v) k := fun r j hr => by rw [nU_ne (Or.inl hr)]; exact h r j hr
theorem cW.numS (h : cW tA Z ρ sg N' O0 A0 O A) (hs : nSame N N' k) (hk : k < N 0 0) : O (Z (40 + 2 * k)) = some (5, [.int (nI (N 1 k)), .int (nI (N 2 k)), .int (nI (N 3 k)), .ref (Z (41 + 2 * k)), .int (nI (N 4 k))]) := by
  have := h.num (k := k) (by rw [hs 0 0 (by omega)]; exact hk)
  rw [hs 1 k (by omega), hs 2 k (by omega), hs 3 k (by omega), hs 4 k (by omega)] at this
  exact this
theorem cW.bytS (h : cW tA Z ρ sg N' O0 A0 O A) (hs : nSame N N' k) (hk : k < N 0 0) : A (Z (41 + 2 * k)) = some (1, N 5 k, .inl (bF (N' (6 + k)))) := by
  have := h.byt (k := k) (by rw [hs 0 0 (by omega)]; exact hk)
  rw [hs 5 k (by omega)] at this
  exact this
theorem w_putS (h : cW tA Z ρ sg N' O0 A0 O A) (hs : nSame N N' k) (hk : k < N 0 0) (hi : i < N 5 k) {w : Nat} (hw : w < 2 ^ 32) : aMet l G base tA yX4_put cX4_put 3 none rmZ [.ref (Z (40 + 2 * k)), .int (nI i), .int (nI w)] O A (fun r O' A' => r = none ∧ cW tA Z ρ sg (nU N' (6 + k) i (w % 256)) O0 A0 O' A') :=
  w_put h (by rw [hs 0 0 (by omega)]; exact hk) (by rw [hs 5 k (by omega)]; exact hi) hw
theorem w_putNibbleS (h : cW tA Z ρ sg N' O0 A0 O A) (hs : nSame N N' k) (hk : k < N 0 0) (hi : i < 2 * N 5 k) {v : Nat} (hv : v < 16) : aMet l G base tA yX4_putNibble cX4_putNibble 4 none rmA [.ref (Z (40 + 2 * k)), .int (nI i), .int (nI v)] O A (fun r O' A' => r = none ∧ cW tA Z ρ sg (nU N' (6 + k) (i / 2) (nibUp (N' (6 + k) (i / 2)) i v)) O0 A0 O' A') :=
  w_putNibble h (by rw [hs 0 0 (by omega)]; exact hk) (by rw [hs 5 k (by omega)]; exact hi) hv
theorem w_getS (h : cW tA Z ρ sg N' O0 A0 O A) (hs : nSame N N' k) (hk : k < N 0 0) (hi : i < N 5 k) : aMet l G base tA yX4_get cX4_get 2 (some .int) rmZ [.ref (Z (40 + 2 * k)), .int (nI i)] O A (fun r O' A' => r = some (.int (nI (N' (6 + k) i))) ∧ O' = O ∧ A' = A) :=
  w_get h (by rw [hs 0 0 (by omega)]; exact hk) (by rw [hs 5 k (by omega)]; exact hi)
theorem nBy_of {g : Nat → Nat} (h : cW tA Z ρ sg N' O0 A0 O A) (hs : nSame N N' k) (hg : ∀ i, i < N 5 k → N' (6 + k) i = g i) : cW tA Z ρ sg (nBy N k g) O0 A0 O A := by
  have : N' = nBy N k g := by
    funext r i
    unfold nBy
    split
    · rename_i e
      subst e
      split
      · rename_i e; exact hg i e
      · rename_i e
        exact (h.1.2.2.2 k i).2 (by rw [hs 5 k (by omega)]; omega)
    · rename_i e; exact hs r i e
  rw [← this]; exact h
set_option maxHeartbeats 1000000 in
theorem ct_X7_signNibble {neg : Bool} : aMet l G base tA yX7_signNibble cX7_signNibble 1 (some .int) rmZ [.int (bI neg)] O A (fun r O' A' => r = some (.int (nI (if neg then 13 else 12))) ∧ O' = O ∧ A' = A) := by
  refine aMet_of (ini := false) (B := aLook bkX7_signNibble) (by decide) (fun h => by first | rfl | cases h) (Nat.le_of_ble_eq_true rfl) boX7_signNibble ?_
  intro E J hb
  refine hb.run (aCuts [] J) 60 0 _ _ _ _ _ _ (aCuts_ok _) ?_
  cases neg
  · simp only [↓wpi_isub, ↓wpi_lsub, ↓wpi_ineg, ↓wpi_lneg, ↓wpi_irem, ↓wpi_lrem, ↓wpi_iinc, wp1, wp, wpl, wpi, lget, lput1, lput2, ltail, lkill, aV, aVl, aNth, aPut, aFz, aC0, aC2, aSw, aCat1, aCuts, aSet_eq, List.take, List.drop, List.reverse_cons, List.reverse_nil, List.nil_append, List.cons_append, List.length_cons, List.length_nil, Option.toList, true_and, and_true, Nat.reduceAdd, Nat.reduceEqDiff, Nat.reduceLT, Nat.reduceLeDiff, Nat.zero_add, Nat.add_zero, if_true, if_false, ite_true, ite_false, reduceIte, reduceCtorEq, true_or, or_true, not_true_eq_false, not_false_eq_true, false_and, and_false, true_implies, false_implies, not_false_eq_true, bqX7_signNibble_0, blX7_signNibble_0, bqX7_signNibble_4, blX7_signNibble_4, bqX7_signNibble_9, blX7_signNibble_9, bqX7_signNibble_11, blX7_signNibble_11, aArgs, List.replicate, bI_f, n0_0]
    exact hb.iret (nar_i _) ⟨rfl, rfl, rfl⟩ (by decide) (by decide)
  · simp only [↓wpi_isub, ↓wpi_lsub, ↓wpi_ineg, ↓wpi_lneg, ↓wpi_irem, ↓wpi_lrem, ↓wpi_iinc, wp1, wp, wpl, wpi, lget, lput1, lput2, ltail, lkill, aV, aVl, aNth, aPut, aFz, aC0, aC2, aSw, aCat1, aCuts, aSet_eq, List.take, List.drop, List.reverse_cons, List.reverse_nil, List.nil_append, List.cons_append, List.length_cons, List.length_nil, Option.toList, true_and, and_true, Nat.reduceAdd, Nat.reduceEqDiff, Nat.reduceLT, Nat.reduceLeDiff, Nat.zero_add, Nat.add_zero, if_true, if_false, ite_true, ite_false, reduceIte, reduceCtorEq, true_or, or_true, not_true_eq_false, not_false_eq_true, false_and, and_false, true_implies, false_implies, not_false_eq_true, bqX7_signNibble_0, blX7_signNibble_0, bqX7_signNibble_4, blX7_signNibble_4, bqX7_signNibble_9, blX7_signNibble_9, bqX7_signNibble_11, blX7_signNibble_11, aArgs, List.replicate, bI_t, n1_0]
    exact hb.iret (nar_i _) ⟨rfl, rfl, rfl⟩ (by decide) (by decide)
abbrev rmW : Room := { frames := 4, cells := 0, slots := 0, locals := 110 }
set_option maxHeartbeats 8000000 in
theorem w_writeZoned (h : cW tA Z ρ sg N O0 A0 O A) (hk : k < N 0 0) (hu : N 1 k ≤ 4) (neg : Bool) : aMet l G base tA yX7_writeZoned cX7_writeZoned 8 none rmW [.ref (Z 36), .ref (Z (40 + 2 * k)), .ref (Z 11), .int (bI neg)] O A (fun r O' A' => r = none ∧ ∃ x, cW tA Z (rU ρ 11 x) sg (nBy N k (zW (N 1 k) (N 2 k) (ρ 11) neg)) O0 A0 O' A') := by
  refine aMet_of (ini := false) (B := aLook bkX7_writeZoned) (by decide) (fun h => by first | rfl | cases h) (Nat.le_of_ble_eq_true rfl) boX7_writeZoned ?_
  intro E J hb
  obtain ⟨b1, b2, b3, b4, b5, b6⟩ := h.bnd hk
  obtain ⟨s1, s2⟩ := h.szb hk
  have hsz : N 5 k = if N 1 k = 2 ∨ N 1 k = 3 then N 2 k + 1 else N 2 k := by
    rw [b6]; unfold szOf
    repeat' split
    all_goals omega
  have hst : zSt (N 1 k) = if N 1 k = 3 then 1 else 0 := rfl
  have hse : zSt (N 1 k) + N 2 k ≤ N 5 k := by
    rw [hsz, hst]
    repeat' split
    all_goals omega
  obtain ⟨q, hq⟩ : ∃ q, q = ρ 11 := ⟨_, rfl⟩
  rw [← hq] at hb
  have loop : ∀ (j : Nat) (x7 : Option Value) (N1 : aN) (O1 : aO) (A1 : aA), j ≤ N 2 k → nSame N N1 k → (∀ i, j ≤ i → i < N 2 k → N1 (6 + k) (zSt (N 1 k) + i) = zWn (N 1 k) (N 2 k) neg i * 16 + dgt q (N 2 k - 1 - i)) → cW tA Z (rU ρ 11 (q / 10 ^ (N 2 k - j))) sg N1 O0 A0 O1 A1 →
      J 20 [some (.ref (Z 36)), some (.ref (Z (40 + 2 * k))), some (.ref (Z 11)), some (.int (bI neg)), some (.int (nI (zSt (N 1 k)))), some (.int (sgDig (N 1 k) (N 2 k))), some (.int (iSub (nI j) (nI 1))), x7] [] O1 A1 0 0 := by
    intro j
    induction j with
    | zero =>
      intro x7 N1 O1 A1 hj hs hd h1
      refine hb.run (aCuts [4, 10, 20, 36, 57, 61, 71, 96] J) 60 20 _ _ _ _ _ _ (aCuts_ok _) ?_
      simp only [↓wpi_isub, ↓wpi_lsub, ↓wpi_ineg, ↓wpi_lneg, ↓wpi_irem, ↓wpi_lrem, ↓wpi_iinc, wp1, wp, wpl, wpi, lget, lput1, lput2, ltail, lkill, aV, aVl, aNth, aPut, aFz, aC0, aC2, aSw, aCat1, aCuts, aSet_eq, List.take, List.drop, List.reverse_cons, List.reverse_nil, List.nil_append, List.cons_append, List.length_cons, List.length_nil, Option.toList, true_and, and_true, Nat.reduceAdd, Nat.reduceEqDiff, Nat.reduceLT, Nat.reduceLeDiff, Nat.zero_add, Nat.add_zero, if_true, if_false, ite_true, ite_false, reduceIte, reduceCtorEq, true_or, or_true, not_true_eq_false, not_false_eq_true, false_and, and_false, true_implies, false_implies, not_false_eq_true, bqX7_writeZoned_0, blX7_writeZoned_0, bqX7_writeZoned_4, blX7_writeZoned_4, bqX7_writeZoned_10, blX7_writeZoned_10, bqX7_writeZoned_20, blX7_writeZoned_20, bqX7_writeZoned_25, blX7_writeZoned_25, bqX7_writeZoned_32, blX7_writeZoned_32, bqX7_writeZoned_36, blX7_writeZoned_36, bqX7_writeZoned_39, blX7_writeZoned_39, bqX7_writeZoned_41, blX7_writeZoned_41, bqX7_writeZoned_57, blX7_writeZoned_57, bqX7_writeZoned_61, blX7_writeZoned_61, bqX7_writeZoned_67, blX7_writeZoned_67, bqX7_writeZoned_71, blX7_writeZoned_71, bqX7_writeZoned_79, blX7_writeZoned_79, bqX7_writeZoned_86, blX7_writeZoned_86, bqX7_writeZoned_91, blX7_writeZoned_91, bqX7_writeZoned_93, blX7_writeZoned_93, bqX7_writeZoned_96, blX7_writeZoned_96, iSub_n1]
      refine ⟨_, _, _, _, hb.callV lvX7_53 (ct_X4_signByte (h1.numS hs hk) b1) rfl (h1.numS hs hk) (by decide) (by decide) (by decide), ?_, fun _ _ _ h => h.elim⟩
      rintro _ O1 A1 ⟨rfl, rfl, rfl⟩
      refine hb.run (aCuts [4, 10, 20, 36, 57, 61, 71, 96] J) 60 71 _ _ _ _ _ _ (aCuts_ok _) ?_
      by_cases hp : N 1 k = 2 ∨ N 1 k = 3
      · obtain ⟨p, hpp⟩ : ∃ p, p = if N 1 k = 2 then N 2 k else 0 := ⟨_, rfl⟩
        have hp2 : p < N 5 k := by rw [hsz, if_pos hp, hpp]; split <;> omega
        have e3 : sgByt (N 1 k) (N 2 k) = nI p := by
          unfold sgByt; rw [hpp]; split
          · rfl
          · rw [if_pos (by omega)]
        have fin : ∀ {O1 : aO} {A1 : aA} {w : Nat}, w = (if neg then 96 else 78) → cW tA Z (rU ρ 11 (q / 10 ^ (N 2 k - 0))) sg (nU N1 (6 + k) p (w % 256)) O0 A0 O1 A1 → J 96 [some (.ref (Z 36)), some (.ref (Z (40 + 2 * k))), some (.ref (Z 11)), some (.int (bI neg)), some (.int (nI (zSt (N 1 k)))), some (.int (sgDig (N 1 k) (N 2 k))), some (.int (nI p)), x7] [] O1 A1 0 0 := by
          intro O1 A1 w hw h2
          refine hb.run (aCuts [4, 10, 20, 36, 57, 61, 71, 96] J) 60 96 _ _ _ _ _ _ (aCuts_ok _) ?_
          simp only [↓wpi_isub, ↓wpi_lsub, ↓wpi_ineg, ↓wpi_lneg, ↓wpi_irem, ↓wpi_lrem, ↓wpi_iinc, wp1, wp, wpl, wpi, lget, lput1, lput2, ltail, lkill, aV, aVl, aNth, aPut, aFz, aC0, aC2, aSw, aCat1, aCuts, aSet_eq, List.take, List.drop, List.reverse_cons, List.reverse_nil, List.nil_append, List.cons_append, List.length_cons, List.length_nil, Option.toList, true_and, and_true, Nat.reduceAdd, Nat.reduceEqDiff, Nat.reduceLT, Nat.reduceLeDiff, Nat.zero_add, Nat.add_zero, if_true, if_false, ite_true, ite_false, reduceIte, reduceCtorEq, true_or, or_true, not_true_eq_false, not_false_eq_true, false_and, and_false, true_implies, false_implies, not_false_eq_true, bqX7_writeZoned_0, blX7_writeZoned_0, bqX7_writeZoned_4, blX7_writeZoned_4, bqX7_writeZoned_10, blX7_writeZoned_10, bqX7_writeZoned_20, blX7_writeZoned_20, bqX7_writeZoned_25, blX7_writeZoned_25, bqX7_writeZoned_32, blX7_writeZoned_32, bqX7_writeZoned_36, blX7_writeZoned_36, bqX7_writeZoned_39, blX7_writeZoned_39, bqX7_writeZoned_41, blX7_writeZoned_41, bqX7_writeZoned_57, blX7_writeZoned_57, bqX7_writeZoned_61, blX7_writeZoned_61, bqX7_writeZoned_67, blX7_writeZoned_67, bqX7_writeZoned_71, blX7_writeZoned_71, bqX7_writeZoned_79, blX7_writeZoned_79, bqX7_writeZoned_86, blX7_writeZoned_86, bqX7_writeZoned_91, blX7_writeZoned_91, bqX7_writeZoned_93, blX7_writeZoned_93, bqX7_writeZoned_96, blX7_writeZoned_96]
          refine hb.vret ⟨rfl, _, nBy_of h2 hs.put fun i hi => ?_⟩ (by decide) (by decide)
          have hw2 : w % 256 = if neg then 96 else 78 := by rw [hw]; split <;> rfl
          unfold zW
          by_cases hip : i = p
          · subst hip
            rw [nU_eq, if_pos (by rw [hpp]; split <;> omega), hw2]
          · rw [nU_ne (Or.inr hip)]
            rw [hpp] at hip
            rw [hsz, if_pos hp] at hi
            have hii : zSt (N 1 k) ≤ i ∧ i - zSt (N 1 k) < N 2 k := by
              rw [hst]; revert hip; repeat' split
              all_goals omega
            rw [if_neg (by revert hip; split <;> omega)]
            have := hd (i - zSt (N 1 k)) (by omega) hii.2
            rw [show zSt (N 1 k) + (i - zSt (N 1 k)) = i by omega] at this
            exact this
        rw [e3]
        cases neg
        · simp only [↓wpi_isub, ↓wpi_lsub, ↓wpi_ineg, ↓wpi_lneg, ↓wpi_irem, ↓wpi_lrem, ↓wpi_iinc, wp1, wp, wpl, wpi, lget, lput1, lput2, ltail, lkill, aV, aVl, aNth, aPut, aFz, aC0, aC2, aSw, aCat1, aCuts, aSet_eq, List.take, List.drop, List.reverse_cons, List.reverse_nil, List.nil_append, List.cons_append, List.length_cons, List.length_nil, Option.toList, true_and, and_true, Nat.reduceAdd, Nat.reduceEqDiff, Nat.reduceLT, Nat.reduceLeDiff, Nat.zero_add, Nat.add_zero, if_true, if_false, ite_true, ite_false, reduceIte, reduceCtorEq, true_or, or_true, not_true_eq_false, not_false_eq_true, false_and, and_false, true_implies, false_implies, not_false_eq_true, bqX7_writeZoned_0, blX7_writeZoned_0, bqX7_writeZoned_4, blX7_writeZoned_4, bqX7_writeZoned_10, blX7_writeZoned_10, bqX7_writeZoned_20, blX7_writeZoned_20, bqX7_writeZoned_25, blX7_writeZoned_25, bqX7_writeZoned_32, blX7_writeZoned_32, bqX7_writeZoned_36, blX7_writeZoned_36, bqX7_writeZoned_39, blX7_writeZoned_39, bqX7_writeZoned_41, blX7_writeZoned_41, bqX7_writeZoned_57, blX7_writeZoned_57, bqX7_writeZoned_61, blX7_writeZoned_61, bqX7_writeZoned_67, blX7_writeZoned_67, bqX7_writeZoned_71, blX7_writeZoned_71, bqX7_writeZoned_79, blX7_writeZoned_79, bqX7_writeZoned_86, blX7_writeZoned_86, bqX7_writeZoned_91, blX7_writeZoned_91, bqX7_writeZoned_93, blX7_writeZoned_93, bqX7_writeZoned_96, blX7_writeZoned_96, nI_m1 (show p < 2 ^ 31 by omega), bI_f, n0_0]
          refine ⟨_, _, _, _, hb.callV lvX7_49 (w_putS h1 hs hk (i := p) (w := 78) hp2 (by decide)) rfl (h1.numS hs hk) (by decide) (by decide) (by decide), ?_, fun _ _ _ h => h.elim⟩
          rintro _ O2 A2 ⟨rfl, h2⟩
          exact fin rfl h2
        · simp only [↓wpi_isub, ↓wpi_lsub, ↓wpi_ineg, ↓wpi_lneg, ↓wpi_irem, ↓wpi_lrem, ↓wpi_iinc, wp1, wp, wpl, wpi, lget, lput1, lput2, ltail, lkill, aV, aVl, aNth, aPut, aFz, aC0, aC2, aSw, aCat1, aCuts, aSet_eq, List.take, List.drop, List.reverse_cons, List.reverse_nil, List.nil_append, List.cons_append, List.length_cons, List.length_nil, Option.toList, true_and, and_true, Nat.reduceAdd, Nat.reduceEqDiff, Nat.reduceLT, Nat.reduceLeDiff, Nat.zero_add, Nat.add_zero, if_true, if_false, ite_true, ite_false, reduceIte, reduceCtorEq, true_or, or_true, not_true_eq_false, not_false_eq_true, false_and, and_false, true_implies, false_implies, not_false_eq_true, bqX7_writeZoned_0, blX7_writeZoned_0, bqX7_writeZoned_4, blX7_writeZoned_4, bqX7_writeZoned_10, blX7_writeZoned_10, bqX7_writeZoned_20, blX7_writeZoned_20, bqX7_writeZoned_25, blX7_writeZoned_25, bqX7_writeZoned_32, blX7_writeZoned_32, bqX7_writeZoned_36, blX7_writeZoned_36, bqX7_writeZoned_39, blX7_writeZoned_39, bqX7_writeZoned_41, blX7_writeZoned_41, bqX7_writeZoned_57, blX7_writeZoned_57, bqX7_writeZoned_61, blX7_writeZoned_61, bqX7_writeZoned_67, blX7_writeZoned_67, bqX7_writeZoned_71, blX7_writeZoned_71, bqX7_writeZoned_79, blX7_writeZoned_79, bqX7_writeZoned_86, blX7_writeZoned_86, bqX7_writeZoned_91, blX7_writeZoned_91, bqX7_writeZoned_93, blX7_writeZoned_93, bqX7_writeZoned_96, blX7_writeZoned_96, nI_m1 (show p < 2 ^ 31 by omega), bI_t, n1_0]
          refine ⟨_, _, _, _, hb.callV lvX7_49 (w_putS h1 hs hk (i := p) (w := 96) hp2 (by decide)) rfl (h1.numS hs hk) (by decide) (by decide) (by decide), ?_, fun _ _ _ h => h.elim⟩
          rintro _ O2 A2 ⟨rfl, h2⟩
          exact fin rfl h2
      · have e3 : sgByt (N 1 k) (N 2 k) = -nI 1 := by
          unfold sgByt; rw [if_neg (by omega), if_neg (by omega)]
        rw [e3]
        simp only [↓wpi_isub, ↓wpi_lsub, ↓wpi_ineg, ↓wpi_lneg, ↓wpi_irem, ↓wpi_lrem, ↓wpi_iinc, wp1, wp, wpl, wpi, lget, lput1, lput2, ltail, lkill, aV, aVl, aNth, aPut, aFz, aC0, aC2, aSw, aCat1, aCuts, aSet_eq, List.take, List.drop, List.reverse_cons, List.reverse_nil, List.nil_append, List.cons_append, List.length_cons, List.length_nil, Option.toList, true_and, and_true, Nat.reduceAdd, Nat.reduceEqDiff, Nat.reduceLT, Nat.reduceLeDiff, Nat.zero_add, Nat.add_zero, if_true, if_false, ite_true, ite_false, reduceIte, reduceCtorEq, true_or, or_true, not_true_eq_false, not_false_eq_true, false_and, and_false, true_implies, false_implies, not_false_eq_true, bqX7_writeZoned_0, blX7_writeZoned_0, bqX7_writeZoned_4, blX7_writeZoned_4, bqX7_writeZoned_10, blX7_writeZoned_10, bqX7_writeZoned_20, blX7_writeZoned_20, bqX7_writeZoned_25, blX7_writeZoned_25, bqX7_writeZoned_32, blX7_writeZoned_32, bqX7_writeZoned_36, blX7_writeZoned_36, bqX7_writeZoned_39, blX7_writeZoned_39, bqX7_writeZoned_41, blX7_writeZoned_41, bqX7_writeZoned_57, blX7_writeZoned_57, bqX7_writeZoned_61, blX7_writeZoned_61, bqX7_writeZoned_67, blX7_writeZoned_67, bqX7_writeZoned_71, blX7_writeZoned_71, bqX7_writeZoned_79, blX7_writeZoned_79, bqX7_writeZoned_86, blX7_writeZoned_86, bqX7_writeZoned_91, blX7_writeZoned_91, bqX7_writeZoned_93, blX7_writeZoned_93, bqX7_writeZoned_96, blX7_writeZoned_96, m1_eq]
        refine hb.run (aCuts [4, 10, 20, 36, 57, 61, 71, 96] J) 60 96 _ _ _ _ _ _ (aCuts_ok _) ?_
        simp only [↓wpi_isub, ↓wpi_lsub, ↓wpi_ineg, ↓wpi_lneg, ↓wpi_irem, ↓wpi_lrem, ↓wpi_iinc, wp1, wp, wpl, wpi, lget, lput1, lput2, ltail, lkill, aV, aVl, aNth, aPut, aFz, aC0, aC2, aSw, aCat1, aCuts, aSet_eq, List.take, List.drop, List.reverse_cons, List.reverse_nil, List.nil_append, List.cons_append, List.length_cons, List.length_nil, Option.toList, true_and, and_true, Nat.reduceAdd, Nat.reduceEqDiff, Nat.reduceLT, Nat.reduceLeDiff, Nat.zero_add, Nat.add_zero, if_true, if_false, ite_true, ite_false, reduceIte, reduceCtorEq, true_or, or_true, not_true_eq_false, not_false_eq_true, false_and, and_false, true_implies, false_implies, not_false_eq_true, bqX7_writeZoned_0, blX7_writeZoned_0, bqX7_writeZoned_4, blX7_writeZoned_4, bqX7_writeZoned_10, blX7_writeZoned_10, bqX7_writeZoned_20, blX7_writeZoned_20, bqX7_writeZoned_25, blX7_writeZoned_25, bqX7_writeZoned_32, blX7_writeZoned_32, bqX7_writeZoned_36, blX7_writeZoned_36, bqX7_writeZoned_39, blX7_writeZoned_39, bqX7_writeZoned_41, blX7_writeZoned_41, bqX7_writeZoned_57, blX7_writeZoned_57, bqX7_writeZoned_61, blX7_writeZoned_61, bqX7_writeZoned_67, blX7_writeZoned_67, bqX7_writeZoned_71, blX7_writeZoned_71, bqX7_writeZoned_79, blX7_writeZoned_79, bqX7_writeZoned_86, blX7_writeZoned_86, bqX7_writeZoned_91, blX7_writeZoned_91, bqX7_writeZoned_93, blX7_writeZoned_93, bqX7_writeZoned_96, blX7_writeZoned_96]
        refine hb.vret ⟨rfl, _, nBy_of h1 hs fun i hi => ?_⟩ (by decide) (by decide)
        rw [hsz, if_neg hp] at hi
        have hs0 : zSt (N 1 k) = 0 := by rw [hst, if_neg (by omega)]
        unfold zW
        rw [if_neg (by omega), hs0, Nat.sub_zero]
        have := hd i (by omega) hi
        rw [hs0, Nat.zero_add] at this
        exact this
    | succ i ih =>
      intro x7 N1 O1 A1 hj hs hd h1
      rw [iSub_nn (show 1 ≤ i + 1 by omega), Nat.add_sub_cancel]
      have h41 : ∀ {z : Nat}, z = zWn (N 1 k) (N 2 k) neg i → ∀ {O1 : aO} {A1 : aA}, cW tA Z (rU ρ 11 (q / 10 ^ (N 2 k - (i + 1)))) sg N1 O0 A0 O1 A1 → J 41 [some (.ref (Z 36)), some (.ref (Z (40 + 2 * k))), some (.ref (Z 11)), some (.int (bI neg)), some (.int (nI (zSt (N 1 k)))), some (.int (sgDig (N 1 k) (N 2 k))), some (.int (nI i)), x7] [.int (nI z)] O1 A1 0 0 := by
        intro z hz O1 A1 h1
        have hz16 : z < 16 := by rw [hz]; exact zWn_lt _ _ _ _
        refine hb.run (aCuts [4, 10, 20, 36, 57, 61, 71, 96] J) 60 41 _ _ _ _ _ _ (aCuts_ok _) ?_
        simp only [↓wpi_isub, ↓wpi_lsub, ↓wpi_ineg, ↓wpi_lneg, ↓wpi_irem, ↓wpi_lrem, ↓wpi_iinc, wp1, wp, wpl, wpi, lget, lput1, lput2, ltail, lkill, aV, aVl, aNth, aPut, aFz, aC0, aC2, aSw, aCat1, aCuts, aSet_eq, List.take, List.drop, List.reverse_cons, List.reverse_nil, List.nil_append, List.cons_append, List.length_cons, List.length_nil, Option.toList, true_and, and_true, Nat.reduceAdd, Nat.reduceEqDiff, Nat.reduceLT, Nat.reduceLeDiff, Nat.zero_add, Nat.add_zero, if_true, if_false, ite_true, ite_false, reduceIte, reduceCtorEq, true_or, or_true, not_true_eq_false, not_false_eq_true, false_and, and_false, true_implies, false_implies, not_false_eq_true, bqX7_writeZoned_0, blX7_writeZoned_0, bqX7_writeZoned_4, blX7_writeZoned_4, bqX7_writeZoned_10, blX7_writeZoned_10, bqX7_writeZoned_20, blX7_writeZoned_20, bqX7_writeZoned_25, blX7_writeZoned_25, bqX7_writeZoned_32, blX7_writeZoned_32, bqX7_writeZoned_36, blX7_writeZoned_36, bqX7_writeZoned_39, blX7_writeZoned_39, bqX7_writeZoned_41, blX7_writeZoned_41, bqX7_writeZoned_57, blX7_writeZoned_57, bqX7_writeZoned_61, blX7_writeZoned_61, bqX7_writeZoned_67, blX7_writeZoned_67, bqX7_writeZoned_71, blX7_writeZoned_71, bqX7_writeZoned_79, blX7_writeZoned_79, bqX7_writeZoned_86, blX7_writeZoned_86, bqX7_writeZoned_91, blX7_writeZoned_91, bqX7_writeZoned_93, blX7_writeZoned_93, bqX7_writeZoned_96, blX7_writeZoned_96, nI_add, shl4 hz16]
        refine ⟨_, _, _, _, hb.callW lvX7_44 (w_takeDigit h1 (i := 11) (by decide)) rfl (h1.rO (by decide)) (by decide) (by decide) (by decide), ?_, fun _ _ _ h => h.elim⟩
        rintro _ O2 A2 ⟨rfl, h2⟩
        rw [rU_rU, rU_eq, dgt_step] at h2
        have hdg : rU ρ 11 (q / 10 ^ (N 2 k - (i + 1))) 11 % 10 = dgt q (N 2 k - 1 - i) := by
          rw [rU_eq]; unfold dgt; rw [show N 2 k - (i + 1) = N 2 k - 1 - i by omega]
        rw [hdg]
        have hdl := dgt_lt q (N 2 k - 1 - i)
        refine hb.run (aCuts [4, 10, 20, 36, 57, 61, 71, 96] J) 60 57 _ _ _ _ _ _ (aCuts_ok _) ?_
        simp only [↓wpi_isub, ↓wpi_lsub, ↓wpi_ineg, ↓wpi_lneg, ↓wpi_irem, ↓wpi_lrem, ↓wpi_iinc, wp1, wp, wpl, wpi, lget, lput1, lput2, ltail, lkill, aV, aVl, aNth, aPut, aFz, aC0, aC2, aSw, aCat1, aCuts, aSet_eq, List.take, List.drop, List.reverse_cons, List.reverse_nil, List.nil_append, List.cons_append, List.length_cons, List.length_nil, Option.toList, true_and, and_true, Nat.reduceAdd, Nat.reduceEqDiff, Nat.reduceLT, Nat.reduceLeDiff, Nat.zero_add, Nat.add_zero, if_true, if_false, ite_true, ite_false, reduceIte, reduceCtorEq, true_or, or_true, not_true_eq_false, not_false_eq_true, false_and, and_false, true_implies, false_implies, not_false_eq_true, bqX7_writeZoned_0, blX7_writeZoned_0, bqX7_writeZoned_4, blX7_writeZoned_4, bqX7_writeZoned_10, blX7_writeZoned_10, bqX7_writeZoned_20, blX7_writeZoned_20, bqX7_writeZoned_25, blX7_writeZoned_25, bqX7_writeZoned_32, blX7_writeZoned_32, bqX7_writeZoned_36, blX7_writeZoned_36, bqX7_writeZoned_39, blX7_writeZoned_39, bqX7_writeZoned_41, blX7_writeZoned_41, bqX7_writeZoned_57, blX7_writeZoned_57, bqX7_writeZoned_61, blX7_writeZoned_61, bqX7_writeZoned_67, blX7_writeZoned_67, bqX7_writeZoned_71, blX7_writeZoned_71, bqX7_writeZoned_79, blX7_writeZoned_79, bqX7_writeZoned_86, blX7_writeZoned_86, bqX7_writeZoned_91, blX7_writeZoned_91, bqX7_writeZoned_93, blX7_writeZoned_93, bqX7_writeZoned_96, blX7_writeZoned_96, or_nib hz16 (show dgt q (N 2 k - 1 - i) < 16 by omega)]
        refine ⟨_, _, _, _, hb.callV lvX7_49 (w_putS h2 hs hk (i := zSt (N 1 k) + i) (w := z * 16 + dgt q (N 2 k - 1 - i)) (by omega) (by omega)) rfl (h2.numS hs hk) (by decide) (by decide) (by decide), ?_, fun _ _ _ h => h.elim⟩
        rintro _ O3 A3 ⟨rfl, h3⟩
        rw [Nat.mod_eq_of_lt (show z * 16 + dgt q (N 2 k - 1 - i) < 256 by omega)] at h3
        refine hb.run (aCuts [4, 10, 20, 36, 57, 61, 71, 96] J) 60 61 _ _ _ _ _ _ (aCuts_ok _) ?_
        simp only [↓wpi_isub, ↓wpi_lsub, ↓wpi_ineg, ↓wpi_lneg, ↓wpi_irem, ↓wpi_lrem, ↓wpi_iinc, wp1, wp, wpl, wpi, lget, lput1, lput2, ltail, lkill, aV, aVl, aNth, aPut, aFz, aC0, aC2, aSw, aCat1, aCuts, aSet_eq, List.take, List.drop, List.reverse_cons, List.reverse_nil, List.nil_append, List.cons_append, List.length_cons, List.length_nil, Option.toList, true_and, and_true, Nat.reduceAdd, Nat.reduceEqDiff, Nat.reduceLT, Nat.reduceLeDiff, Nat.zero_add, Nat.add_zero, if_true, if_false, ite_true, ite_false, reduceIte, reduceCtorEq, true_or, or_true, not_true_eq_false, not_false_eq_true, false_and, and_false, true_implies, false_implies, not_false_eq_true, bqX7_writeZoned_0, blX7_writeZoned_0, bqX7_writeZoned_4, blX7_writeZoned_4, bqX7_writeZoned_10, blX7_writeZoned_10, bqX7_writeZoned_20, blX7_writeZoned_20, bqX7_writeZoned_25, blX7_writeZoned_25, bqX7_writeZoned_32, blX7_writeZoned_32, bqX7_writeZoned_36, blX7_writeZoned_36, bqX7_writeZoned_39, blX7_writeZoned_39, bqX7_writeZoned_41, blX7_writeZoned_41, bqX7_writeZoned_57, blX7_writeZoned_57, bqX7_writeZoned_61, blX7_writeZoned_61, bqX7_writeZoned_67, blX7_writeZoned_67, bqX7_writeZoned_71, blX7_writeZoned_71, bqX7_writeZoned_79, blX7_writeZoned_79, bqX7_writeZoned_86, blX7_writeZoned_86, bqX7_writeZoned_91, blX7_writeZoned_91, bqX7_writeZoned_93, blX7_writeZoned_93, bqX7_writeZoned_96, blX7_writeZoned_96, iInc_m1]
        refine ih _ _ _ _ (by omega) hs.put (fun i' i1 i2 => ?_) (by rw [show N 2 k - i = N 2 k - (i + 1) + 1 by omega]; exact h3)
        by_cases hii : i' = i
        · rw [hii, nU_eq, hz]
        · rw [nU_ne (Or.inr (by omega))]; exact hd i' (by omega) i2
      refine hb.run (aCuts [36, 41] J) 60 20 _ _ _ _ _ _ (aCuts_ok _) ?_
      by_cases hsg : zSg (N 1 k) (N 2 k) i
      · have e2 : (nI i = sgDig (N 1 k) (N 2 k)) = True := by rw [sgDig_eq b2 b3 (by omega)]; simp [hsg]
        simp only [↓wpi_isub, ↓wpi_lsub, ↓wpi_ineg, ↓wpi_lneg, ↓wpi_irem, ↓wpi_lrem, ↓wpi_iinc, wp1, wp, wpl, wpi, lget, lput1, lput2, ltail, lkill, aV, aVl, aNth, aPut, aFz, aC0, aC2, aSw, aCat1, aCuts, aSet_eq, List.take, List.drop, List.reverse_cons, List.reverse_nil, List.nil_append, List.cons_append, List.length_cons, List.length_nil, Option.toList, true_and, and_true, Nat.reduceAdd, Nat.reduceEqDiff, Nat.reduceLT, Nat.reduceLeDiff, Nat.zero_add, Nat.add_zero, if_true, if_false, ite_true, ite_false, reduceIte, reduceCtorEq, true_or, or_true, not_true_eq_false, not_false_eq_true, false_and, and_false, true_implies, false_implies, not_false_eq_true, bqX7_writeZoned_0, blX7_writeZoned_0, bqX7_writeZoned_4, blX7_writeZoned_4, bqX7_writeZoned_10, blX7_writeZoned_10, bqX7_writeZoned_20, blX7_writeZoned_20, bqX7_writeZoned_25, blX7_writeZoned_25, bqX7_writeZoned_32, blX7_writeZoned_32, bqX7_writeZoned_36, blX7_writeZoned_36, bqX7_writeZoned_39, blX7_writeZoned_39, bqX7_writeZoned_41, blX7_writeZoned_41, bqX7_writeZoned_57, blX7_writeZoned_57, bqX7_writeZoned_61, blX7_writeZoned_61, bqX7_writeZoned_67, blX7_writeZoned_67, bqX7_writeZoned_71, blX7_writeZoned_71, bqX7_writeZoned_79, blX7_writeZoned_79, bqX7_writeZoned_86, blX7_writeZoned_86, bqX7_writeZoned_91, blX7_writeZoned_91, bqX7_writeZoned_93, blX7_writeZoned_93, bqX7_writeZoned_96, blX7_writeZoned_96, nI_lt0 (show i < 2 ^ 31 by omega), e2]
        refine ⟨_, _, _, _, hb.callS lsX7_40 (ct_X7_signNibble (neg := neg)) rfl (by decide) (by decide) (by decide), ?_, fun _ _ _ h => h.elim⟩
        rintro _ O1 A1 ⟨rfl, rfl, rfl⟩
        refine hb.run (aCuts [41] J) 60 36 _ _ _ _ _ _ (aCuts_ok _) ?_
        simp only [↓wpi_isub, ↓wpi_lsub, ↓wpi_ineg, ↓wpi_lneg, ↓wpi_irem, ↓wpi_lrem, ↓wpi_iinc, wp1, wp, wpl, wpi, lget, lput1, lput2, ltail, lkill, aV, aVl, aNth, aPut, aFz, aC0, aC2, aSw, aCat1, aCuts, aSet_eq, List.take, List.drop, List.reverse_cons, List.reverse_nil, List.nil_append, List.cons_append, List.length_cons, List.length_nil, Option.toList, true_and, and_true, Nat.reduceAdd, Nat.reduceEqDiff, Nat.reduceLT, Nat.reduceLeDiff, Nat.zero_add, Nat.add_zero, if_true, if_false, ite_true, ite_false, reduceIte, reduceCtorEq, true_or, or_true, not_true_eq_false, not_false_eq_true, false_and, and_false, true_implies, false_implies, not_false_eq_true, bqX7_writeZoned_0, blX7_writeZoned_0, bqX7_writeZoned_4, blX7_writeZoned_4, bqX7_writeZoned_10, blX7_writeZoned_10, bqX7_writeZoned_20, blX7_writeZoned_20, bqX7_writeZoned_25, blX7_writeZoned_25, bqX7_writeZoned_32, blX7_writeZoned_32, bqX7_writeZoned_36, blX7_writeZoned_36, bqX7_writeZoned_39, blX7_writeZoned_39, bqX7_writeZoned_41, blX7_writeZoned_41, bqX7_writeZoned_57, blX7_writeZoned_57, bqX7_writeZoned_61, blX7_writeZoned_61, bqX7_writeZoned_67, blX7_writeZoned_67, bqX7_writeZoned_71, blX7_writeZoned_71, bqX7_writeZoned_79, blX7_writeZoned_79, bqX7_writeZoned_86, blX7_writeZoned_86, bqX7_writeZoned_91, blX7_writeZoned_91, bqX7_writeZoned_93, blX7_writeZoned_93, bqX7_writeZoned_96, blX7_writeZoned_96]
        exact h41 (by unfold zWn; exact (if_pos hsg).symm) h1
      · have e2 : (nI i = sgDig (N 1 k) (N 2 k)) = False := by rw [sgDig_eq b2 b3 (by omega)]; simp [hsg]
        simp only [↓wpi_isub, ↓wpi_lsub, ↓wpi_ineg, ↓wpi_lneg, ↓wpi_irem, ↓wpi_lrem, ↓wpi_iinc, wp1, wp, wpl, wpi, lget, lput1, lput2, ltail, lkill, aV, aVl, aNth, aPut, aFz, aC0, aC2, aSw, aCat1, aCuts, aSet_eq, List.take, List.drop, List.reverse_cons, List.reverse_nil, List.nil_append, List.cons_append, List.length_cons, List.length_nil, Option.toList, true_and, and_true, Nat.reduceAdd, Nat.reduceEqDiff, Nat.reduceLT, Nat.reduceLeDiff, Nat.zero_add, Nat.add_zero, if_true, if_false, ite_true, ite_false, reduceIte, reduceCtorEq, true_or, or_true, not_true_eq_false, not_false_eq_true, false_and, and_false, true_implies, false_implies, not_false_eq_true, bqX7_writeZoned_0, blX7_writeZoned_0, bqX7_writeZoned_4, blX7_writeZoned_4, bqX7_writeZoned_10, blX7_writeZoned_10, bqX7_writeZoned_20, blX7_writeZoned_20, bqX7_writeZoned_25, blX7_writeZoned_25, bqX7_writeZoned_32, blX7_writeZoned_32, bqX7_writeZoned_36, blX7_writeZoned_36, bqX7_writeZoned_39, blX7_writeZoned_39, bqX7_writeZoned_41, blX7_writeZoned_41, bqX7_writeZoned_57, blX7_writeZoned_57, bqX7_writeZoned_61, blX7_writeZoned_61, bqX7_writeZoned_67, blX7_writeZoned_67, bqX7_writeZoned_71, blX7_writeZoned_71, bqX7_writeZoned_79, blX7_writeZoned_79, bqX7_writeZoned_86, blX7_writeZoned_86, bqX7_writeZoned_91, blX7_writeZoned_91, bqX7_writeZoned_93, blX7_writeZoned_93, bqX7_writeZoned_96, blX7_writeZoned_96, nI_lt0 (show i < 2 ^ 31 by omega), e2]
        exact h41 (by unfold zWn; exact (if_neg hsg).symm) h1
  refine hb.run (aCuts [4, 10, 20, 36, 57, 61, 71, 96] J) 60 0 _ _ _ _ _ _ (aCuts_ok _) ?_
  simp only [↓wpi_isub, ↓wpi_lsub, ↓wpi_ineg, ↓wpi_lneg, ↓wpi_irem, ↓wpi_lrem, ↓wpi_iinc, wp1, wp, wpl, wpi, lget, lput1, lput2, ltail, lkill, aV, aVl, aNth, aPut, aFz, aC0, aC2, aSw, aCat1, aCuts, aSet_eq, List.take, List.drop, List.reverse_cons, List.reverse_nil, List.nil_append, List.cons_append, List.length_cons, List.length_nil, Option.toList, true_and, and_true, Nat.reduceAdd, Nat.reduceEqDiff, Nat.reduceLT, Nat.reduceLeDiff, Nat.zero_add, Nat.add_zero, if_true, if_false, ite_true, ite_false, reduceIte, reduceCtorEq, true_or, or_true, not_true_eq_false, not_false_eq_true, false_and, and_false, true_implies, false_implies, not_false_eq_true, bqX7_writeZoned_0, blX7_writeZoned_0, bqX7_writeZoned_4, blX7_writeZoned_4, bqX7_writeZoned_10, blX7_writeZoned_10, bqX7_writeZoned_20, blX7_writeZoned_20, bqX7_writeZoned_25, blX7_writeZoned_25, bqX7_writeZoned_32, blX7_writeZoned_32, bqX7_writeZoned_36, blX7_writeZoned_36, bqX7_writeZoned_39, blX7_writeZoned_39, bqX7_writeZoned_41, blX7_writeZoned_41, bqX7_writeZoned_57, blX7_writeZoned_57, bqX7_writeZoned_61, blX7_writeZoned_61, bqX7_writeZoned_67, blX7_writeZoned_67, bqX7_writeZoned_71, blX7_writeZoned_71, bqX7_writeZoned_79, blX7_writeZoned_79, bqX7_writeZoned_86, blX7_writeZoned_86, bqX7_writeZoned_91, blX7_writeZoned_91, bqX7_writeZoned_93, blX7_writeZoned_93, bqX7_writeZoned_96, blX7_writeZoned_96, aArgs, List.replicate]
  refine ⟨_, _, _, _, hb.callV lvX7_30 (ct_X4_firstZonedByte (h.num hk) b1) rfl (h.num hk) (by decide) (by decide) (by decide), ?_, fun _ _ _ h => h.elim⟩
  rintro _ O A ⟨rfl, rfl, rfl⟩
  refine hb.run (aCuts [4, 10, 20, 36, 57, 61, 71, 96] J) 60 4 _ _ _ _ _ _ (aCuts_ok _) ?_
  simp only [↓wpi_isub, ↓wpi_lsub, ↓wpi_ineg, ↓wpi_lneg, ↓wpi_irem, ↓wpi_lrem, ↓wpi_iinc, wp1, wp, wpl, wpi, lget, lput1, lput2, ltail, lkill, aV, aVl, aNth, aPut, aFz, aC0, aC2, aSw, aCat1, aCuts, aSet_eq, List.take, List.drop, List.reverse_cons, List.reverse_nil, List.nil_append, List.cons_append, List.length_cons, List.length_nil, Option.toList, true_and, and_true, Nat.reduceAdd, Nat.reduceEqDiff, Nat.reduceLT, Nat.reduceLeDiff, Nat.zero_add, Nat.add_zero, if_true, if_false, ite_true, ite_false, reduceIte, reduceCtorEq, true_or, or_true, not_true_eq_false, not_false_eq_true, false_and, and_false, true_implies, false_implies, not_false_eq_true, bqX7_writeZoned_0, blX7_writeZoned_0, bqX7_writeZoned_4, blX7_writeZoned_4, bqX7_writeZoned_10, blX7_writeZoned_10, bqX7_writeZoned_20, blX7_writeZoned_20, bqX7_writeZoned_25, blX7_writeZoned_25, bqX7_writeZoned_32, blX7_writeZoned_32, bqX7_writeZoned_36, blX7_writeZoned_36, bqX7_writeZoned_39, blX7_writeZoned_39, bqX7_writeZoned_41, blX7_writeZoned_41, bqX7_writeZoned_57, blX7_writeZoned_57, bqX7_writeZoned_61, blX7_writeZoned_61, bqX7_writeZoned_67, blX7_writeZoned_67, bqX7_writeZoned_71, blX7_writeZoned_71, bqX7_writeZoned_79, blX7_writeZoned_79, bqX7_writeZoned_86, blX7_writeZoned_86, bqX7_writeZoned_91, blX7_writeZoned_91, bqX7_writeZoned_93, blX7_writeZoned_93, bqX7_writeZoned_96, blX7_writeZoned_96]
  refine ⟨_, _, _, _, hb.callV lvX7_34 (ct_X4_signedDigit (h.num hk) b1 b2) rfl (h.num hk) (by decide) (by decide) (by decide), ?_, fun _ _ _ h => h.elim⟩
  rintro _ O A ⟨rfl, rfl, rfl⟩
  refine hb.run (aCuts [4, 10, 20, 36, 57, 61, 71, 96] J) 60 10 _ _ _ _ _ _ (aCuts_ok _) ?_
  simp only [↓wpi_isub, ↓wpi_lsub, ↓wpi_ineg, ↓wpi_lneg, ↓wpi_irem, ↓wpi_lrem, ↓wpi_iinc, wp1, wp, wpl, wpi, lget, lput1, lput2, ltail, lkill, aV, aVl, aNth, aPut, aFz, aC0, aC2, aSw, aCat1, aCuts, aSet_eq, List.take, List.drop, List.reverse_cons, List.reverse_nil, List.nil_append, List.cons_append, List.length_cons, List.length_nil, Option.toList, true_and, and_true, Nat.reduceAdd, Nat.reduceEqDiff, Nat.reduceLT, Nat.reduceLeDiff, Nat.zero_add, Nat.add_zero, if_true, if_false, ite_true, ite_false, reduceIte, reduceCtorEq, true_or, or_true, not_true_eq_false, not_false_eq_true, false_and, and_false, true_implies, false_implies, not_false_eq_true, bqX7_writeZoned_0, blX7_writeZoned_0, bqX7_writeZoned_4, blX7_writeZoned_4, bqX7_writeZoned_10, blX7_writeZoned_10, bqX7_writeZoned_20, blX7_writeZoned_20, bqX7_writeZoned_25, blX7_writeZoned_25, bqX7_writeZoned_32, blX7_writeZoned_32, bqX7_writeZoned_36, blX7_writeZoned_36, bqX7_writeZoned_39, blX7_writeZoned_39, bqX7_writeZoned_41, blX7_writeZoned_41, bqX7_writeZoned_57, blX7_writeZoned_57, bqX7_writeZoned_61, blX7_writeZoned_61, bqX7_writeZoned_67, blX7_writeZoned_67, bqX7_writeZoned_71, blX7_writeZoned_71, bqX7_writeZoned_79, blX7_writeZoned_79, bqX7_writeZoned_86, blX7_writeZoned_86, bqX7_writeZoned_91, blX7_writeZoned_91, bqX7_writeZoned_93, blX7_writeZoned_93, bqX7_writeZoned_96, blX7_writeZoned_96, h.num hk]
  refine loop (N 2 k) _ N _ _ (by omega) nSame.rf (fun i i1 i2 => by omega) ?_
  rw [Nat.sub_self, Nat.pow_zero, Nat.div_one, hq, rU_id]; exact h
end WRZ
