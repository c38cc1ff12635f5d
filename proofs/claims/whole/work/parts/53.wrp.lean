/-! ===== Writer: packed, national, binary, floating ===== -/
theorem nibUp_at {g : Nat → Nat} {N' : aN} {k i v : Nat} (hv : v < 16) (hb : N' (6 + k) (i / 2) < 256) : nibOf (nU N' (6 + k) (i / 2) (nibUp (N' (6 + k) (i / 2)) i v) (6 + k)) i = v := by
  unfold nibOf; rw [nU_eq]; unfold nibUp
  split <;> omega
theorem nibUp_ne {N' : aN} {k i v n : Nat} (hv : v < 16) (hb : N' (6 + k) (i / 2) < 256) (hn : n ≠ i) : nibOf (nU N' (6 + k) (i / 2) (nibUp (N' (6 + k) (i / 2)) i v) (6 + k)) n = nibOf (N' (6 + k)) n := by
  unfold nibOf
  by_cases e : n / 2 = i / 2
  · rw [e, nU_eq]; unfold nibUp
    split <;> split <;> omega
  · rw [nU_ne (Or.inr e)]
def pNb (u d q : Nat) (neg : Bool) (n : Nat) : Nat := if n = pLd d + d then (if u = 6 then 15 else if neg then 13 else 12) else if n < pLd d then 0 else dgt q (d - 1 - (n - pLd d))
def pW (u d q : Nat) (neg : Bool) (p : Nat) : Nat := pNb u d q neg (2 * p) * 16 + pNb u d q neg (2 * p + 1)
def oW (d q : Nat) (neg : Bool) (p : Nat) : Nat := if p % 2 = 0 then 0 else if p = 2 * d + 1 then (if neg then 45 else 43) else 48 + dgt q (d - 1 - p / 2)
def oct (q m : Nat) : Nat := q / 256 ^ m % 256
def xC (q : Nat) : Nat → Nat
  | 0 => 1
  | m + 1 => (255 - oct q m + xC q m) / 256
def xW (sz q : Nat) (neg : Bool) (p : Nat) : Nat := if neg then (255 - oct q (sz - 1 - p) + xC q (sz - 1 - p)) % 256 else oct q (sz - 1 - p)
def fW (sz w : Nat) (neg : Bool) (p : Nat) : Nat := oct w (sz - 1 - p) + (if neg ∧ p = 0 then 128 else 0)
theorem oct_lt (q m : Nat) : oct q m < 256 := Nat.mod_lt _ (by decide)
theorem oct_step (q a : Nat) : q / 256 ^ a / 256 = q / 256 ^ (a + 1) := by rw [Nat.div_div_eq_div_mul, ← Nat.pow_succ]
theorem xC_le (q : Nat) : ∀ m, xC q m ≤ 1
  | 0 => by simp [xC]
  | m + 1 => by
    have h1 := xC_le q m
    have h2 := oct_lt q m
    simp only [xC]; omega
theorem or48 {x : Nat} (h : x < 10) : nI 48 ||| nI x = nI (48 + x) := or_nib (x := 3) (by decide) (by omega)
section WRP
variable {l : Launch} {G : aG} {base tA : Nat} {Z ρ : Nat → Nat} {sg : Nat → Bool} {N : aN} {O0 O : aO} {A0 A : aA} {k : Nat}
set_option maxHeartbeats 8000000 in
theorem w_writePacked (h : cW tA Z ρ sg N O0 A0 O A) (hk : k < N 0 0) (hu : N 1 k = 5 ∨ N 1 k = 6) (neg : Bool) : aMet l G base tA yX7_writePacked cX7_writePacked 6 none rmW [.ref (Z 36), .ref (Z (40 + 2 * k)), .ref (Z 11), .int (bI neg)] O A (fun r O' A' => r = none ∧ ∃ x, cW tA Z (rU ρ 11 x) sg (nBy N k (pW (N 1 k) (N 2 k) (ρ 11) neg)) O0 A0 O' A') := by
  refine aMet_of (ini := false) (B := aLook bkX7_writePacked) (by decide) (fun h => by first | rfl | cases h) (Nat.le_of_ble_eq_true rfl) boX7_writePacked ?_
  intro E J hb
  obtain ⟨b1, b2, b3, b4, b5, b6⟩ := h.bnd hk
  have hsz : pLd (N 2 k) + N 2 k + 1 = 2 * N 5 k ∧ pLd (N 2 k) ≤ 1 := by
    have : szOf (N 1 k) (N 2 k) = N 2 k / 2 + 1 := by
      unfold szOf; rcases hu with e | e <;> rw [e] <;> simp
    rw [b6, this]; unfold pLd
    split <;> omega
  obtain ⟨q, hq⟩ : ∃ q, q = ρ 11 := ⟨_, rfl⟩
  rw [← hq] at hb
  have loop : ∀ (j : Nat) (N1 : aN) (O1 : aO) (A1 : aA), j ≤ N 2 k → nSame N N1 k → (∀ n, n < pLd (N 2 k) ∨ (pLd (N 2 k) + j ≤ n ∧ n < pLd (N 2 k) + N 2 k) → nibOf (N1 (6 + k)) n = pNb (N 1 k) (N 2 k) q neg n) → cW tA Z (rU ρ 11 (q / 10 ^ (N 2 k - j))) sg N1 O0 A0 O1 A1 →
      J 26 [some (.ref (Z 36)), some (.ref (Z (40 + 2 * k))), some (.ref (Z 11)), some (.int (bI neg)), some (.int (nI (pLd (N 2 k)))), some (.int (iSub (nI j) (nI 1)))] [] O1 A1 0 0 := by
    intro j
    induction j with
    | zero =>
      intro N1 O1 A1 hj hs hd h1
      refine hb.run (aCuts [4, 18, 26, 41, 44, 62, 74, 77] J) 60 26 _ _ _ _ _ _ (aCuts_ok _) ?_
      simp only [↓wpi_isub, ↓wpi_lsub, ↓wpi_ineg, ↓wpi_lneg, ↓wpi_irem, ↓wpi_lrem, ↓wpi_iinc, wp1, wp, wpl, wpi, lget, lput1, lput2, ltail, lkill, aV, aVl, aNth, aPut, aFz, aC0, aC2, aSw, aCat1, aCuts, aSet_eq, List.take, List.drop, List.reverse_cons, List.reverse_nil, List.nil_append, List.cons_append, List.length_cons, List.length_nil, Option.toList, true_and, and_true, Nat.reduceAdd, Nat.reduceEqDiff, Nat.reduceLT, Nat.reduceLeDiff, Nat.zero_add, Nat.add_zero, if_true, if_false, ite_true, ite_false, reduceIte, reduceCtorEq, true_or, or_true, not_true_eq_false, not_false_eq_true, false_and, and_false, true_implies, false_implies, not_false_eq_true, bqX7_writePacked_0, blX7_writePacked_0, bqX7_writePacked_4, blX7_writePacked_4, bqX7_writePacked_12, blX7_writePacked_12, bqX7_writePacked_18, blX7_writePacked_18, bqX7_writePacked_26, blX7_writePacked_26, bqX7_writePacked_31, blX7_writePacked_31, bqX7_writePacked_41, blX7_writePacked_41, bqX7_writePacked_44, blX7_writePacked_44, bqX7_writePacked_50, blX7_writePacked_50, bqX7_writePacked_62, blX7_writePacked_62, bqX7_writePacked_65, blX7_writePacked_65, bqX7_writePacked_70, blX7_writePacked_70, bqX7_writePacked_74, blX7_writePacked_74, bqX7_writePacked_77, blX7_writePacked_77, iSub_n1, h1.numS hs hk, nI_add]
      refine ⟨_, _, _, _, hb.callV lvX7_62 (ct_X4_signless (h1.numS hs hk) b1) rfl (h1.numS hs hk) (by decide) (by decide) (by decide), ?_, fun _ _ _ h => h.elim⟩
      rintro _ O1 A1 ⟨rfl, rfl, rfl⟩
      have fin : ∀ {v : Nat} {O1 : aO} {A1 : aA}, v = pNb (N 1 k) (N 2 k) q neg (pLd (N 2 k) + N 2 k) → v < 16 → cW tA Z (rU ρ 11 (q / 10 ^ (N 2 k - 0))) sg N1 O0 A0 O1 A1 → J 74 [some (.ref (Z 36)), some (.ref (Z (40 + 2 * k))), some (.ref (Z 11)), some (.int (bI neg)), some (.int (nI (pLd (N 2 k)))), some (.int (iSub (nI 0) (nI 1)))] [.int (nI v), .int (nI (pLd (N 2 k) + N 2 k)), .ref (Z (40 + 2 * k))] O1 A1 0 0 := by
        intro v O1 A1 hv hv16 h1
        refine hb.run (aCuts [4, 18, 26, 41, 44, 62, 74, 77] J) 60 74 _ _ _ _ _ _ (aCuts_ok _) ?_
        simp only [↓wpi_isub, ↓wpi_lsub, ↓wpi_ineg, ↓wpi_lneg, ↓wpi_irem, ↓wpi_lrem, ↓wpi_iinc, wp1, wp, wpl, wpi, lget, lput1, lput2, ltail, lkill, aV, aVl, aNth, aPut, aFz, aC0, aC2, aSw, aCat1, aCuts, aSet_eq, List.take, List.drop, List.reverse_cons, List.reverse_nil, List.nil_append, List.cons_append, List.length_cons, List.length_nil, Option.toList, true_and, and_true, Nat.reduceAdd, Nat.reduceEqDiff, Nat.reduceLT, Nat.reduceLeDiff, Nat.zero_add, Nat.add_zero, if_true, if_false, ite_true, ite_false, reduceIte, reduceCtorEq, true_or, or_true, not_true_eq_false, not_false_eq_true, false_and, and_false, true_implies, false_implies, not_false_eq_true, bqX7_writePacked_0, blX7_writePacked_0, bqX7_writePacked_4, blX7_writePacked_4, bqX7_writePacked_12, blX7_writePacked_12, bqX7_writePacked_18, blX7_writePacked_18, bqX7_writePacked_26, blX7_writePacked_26, bqX7_writePacked_31, blX7_writePacked_31, bqX7_writePacked_41, blX7_writePacked_41, bqX7_writePacked_44, blX7_writePacked_44, bqX7_writePacked_50, blX7_writePacked_50, bqX7_writePacked_62, blX7_writePacked_62, bqX7_writePacked_65, blX7_writePacked_65, bqX7_writePacked_70, blX7_writePacked_70, bqX7_writePacked_74, blX7_writePacked_74, bqX7_writePacked_77, blX7_writePacked_77]
        refine ⟨_, _, _, _, hb.callV lvX7_59 (w_putNibbleS h1 hs hk (i := pLd (N 2 k) + N 2 k) (v := v) (by omega) hv16) rfl (h1.numS hs hk) (by decide) (by decide) (by decide), ?_, fun _ _ _ h => h.elim⟩
        rintro _ O2 A2 ⟨rfl, h2⟩
        refine hb.run (aCuts [4, 18, 26, 41, 44, 62, 74, 77] J) 60 77 _ _ _ _ _ _ (aCuts_ok _) ?_
        simp only [↓wpi_isub, ↓wpi_lsub, ↓wpi_ineg, ↓wpi_lneg, ↓wpi_irem, ↓wpi_lrem, ↓wpi_iinc, wp1, wp, wpl, wpi, lget, lput1, lput2, ltail, lkill, aV, aVl, aNth, aPut, aFz, aC0, aC2, aSw, aCat1, aCuts, aSet_eq, List.take, List.drop, List.reverse_cons, List.reverse_nil, List.nil_append, List.cons_append, List.length_cons, List.length_nil, Option.toList, true_and, and_true, Nat.reduceAdd, Nat.reduceEqDiff, Nat.reduceLT, Nat.reduceLeDiff, Nat.zero_add, Nat.add_zero, if_true, if_false, ite_true, ite_false, reduceIte, reduceCtorEq, true_or, or_true, not_true_eq_false, not_false_eq_true, false_and, and_false, true_implies, false_implies, not_false_eq_true, bqX7_writePacked_0, blX7_writePacked_0, bqX7_writePacked_4, blX7_writePacked_4, bqX7_writePacked_12, blX7_writePacked_12, bqX7_writePacked_18, blX7_writePacked_18, bqX7_writePacked_26, blX7_writePacked_26, bqX7_writePacked_31, blX7_writePacked_31, bqX7_writePacked_41, blX7_writePacked_41, bqX7_writePacked_44, blX7_writePacked_44, bqX7_writePacked_50, blX7_writePacked_50, bqX7_writePacked_62, blX7_writePacked_62, bqX7_writePacked_65, blX7_writePacked_65, bqX7_writePacked_70, blX7_writePacked_70, bqX7_writePacked_74, blX7_writePacked_74, bqX7_writePacked_77, blX7_writePacked_77]
        have hb8 := h1.b8 k ((pLd (N 2 k) + N 2 k) / 2)
        have hall : ∀ n, n < 2 * N 5 k → nibOf (nU N1 (6 + k) ((pLd (N 2 k) + N 2 k) / 2) (nibUp (N1 (6 + k) ((pLd (N 2 k) + N 2 k) / 2)) (pLd (N 2 k) + N 2 k) v) (6 + k)) n = pNb (N 1 k) (N 2 k) q neg n := by
          intro n hn
          by_cases e : n = pLd (N 2 k) + N 2 k
          · rw [e, nibUp_at (g := fun _ => 0) hv16 hb8, hv]
          · rw [nibUp_ne hv16 hb8 e]
            exact hd n (by omega)
        refine hb.vret ⟨rfl, _, nBy_of h2 hs.put fun i hi => ?_⟩ (by decide) (by decide)
        have a1 := hall (2 * i) (by omega)
        have a2 := hall (2 * i + 1) (by omega)
        unfold nibOf at a1 a2
        rw [if_pos (by omega), show 2 * i / 2 = i by omega] at a1
        rw [if_neg (by omega), show (2 * i + 1) / 2 = i by omega] at a2
        unfold pW
        rw [← a1, ← a2]
        omega
      refine hb.run (aCuts [4, 18, 26, 41, 44, 62, 74, 77] J) 60 62 _ _ _ _ _ _ (aCuts_ok _) ?_
      by_cases h6 : N 1 k = 6
      · simp only [↓wpi_isub, ↓wpi_lsub, ↓wpi_ineg, ↓wpi_lneg, ↓wpi_irem, ↓wpi_lrem, ↓wpi_iinc, wp1, wp, wpl, wpi, lget, lput1, lput2, ltail, lkill, aV, aVl, aNth, aPut, aFz, aC0, aC2, aSw, aCat1, aCuts, aSet_eq, List.take, List.drop, List.reverse_cons, List.reverse_nil, List.nil_append, List.cons_append, List.length_cons, List.length_nil, Option.toList, true_and, and_true, Nat.reduceAdd, Nat.reduceEqDiff, Nat.reduceLT, Nat.reduceLeDiff, Nat.zero_add, Nat.add_zero, if_true, if_false, ite_true, ite_false, reduceIte, reduceCtorEq, true_or, or_true, not_true_eq_false, not_false_eq_true, false_and, and_false, true_implies, false_implies, not_false_eq_true, bqX7_writePacked_0, blX7_writePacked_0, bqX7_writePacked_4, blX7_writePacked_4, bqX7_writePacked_12, blX7_writePacked_12, bqX7_writePacked_18, blX7_writePacked_18, bqX7_writePacked_26, blX7_writePacked_26, bqX7_writePacked_31, blX7_writePacked_31, bqX7_writePacked_41, blX7_writePacked_41, bqX7_writePacked_44, blX7_writePacked_44, bqX7_writePacked_50, blX7_writePacked_50, bqX7_writePacked_62, blX7_writePacked_62, bqX7_writePacked_65, blX7_writePacked_65, bqX7_writePacked_70, blX7_writePacked_70, bqX7_writePacked_74, blX7_writePacked_74, bqX7_writePacked_77, blX7_writePacked_77, bI_T (show N 1 k = 4 ∨ N 1 k = 6 by omega), n1_0]
        exact fin (v := 15) (by unfold pNb; rw [if_pos rfl, if_pos h6]) (by decide) h1
      · simp only [↓wpi_isub, ↓wpi_lsub, ↓wpi_ineg, ↓wpi_lneg, ↓wpi_irem, ↓wpi_lrem, ↓wpi_iinc, wp1, wp, wpl, wpi, lget, lput1, lput2, ltail, lkill, aV, aVl, aNth, aPut, aFz, aC0, aC2, aSw, aCat1, aCuts, aSet_eq, List.take, List.drop, List.reverse_cons, List.reverse_nil, List.nil_append, List.cons_append, List.length_cons, List.length_nil, Option.toList, true_and, and_true, Nat.reduceAdd, Nat.reduceEqDiff, Nat.reduceLT, Nat.reduceLeDiff, Nat.zero_add, Nat.add_zero, if_true, if_false, ite_true, ite_false, reduceIte, reduceCtorEq, true_or, or_true, not_true_eq_false, not_false_eq_true, false_and, and_false, true_implies, false_implies, not_false_eq_true, bqX7_writePacked_0, blX7_writePacked_0, bqX7_writePacked_4, blX7_writePacked_4, bqX7_writePacked_12, blX7_writePacked_12, bqX7_writePacked_18, blX7_writePacked_18, bqX7_writePacked_26, blX7_writePacked_26, bqX7_writePacked_31, blX7_writePacked_31, bqX7_writePacked_41, blX7_writePacked_41, bqX7_writePacked_44, blX7_writePacked_44, bqX7_writePacked_50, blX7_writePacked_50, bqX7_writePacked_62, blX7_writePacked_62, bqX7_writePacked_65, blX7_writePacked_65, bqX7_writePacked_70, blX7_writePacked_70, bqX7_writePacked_74, blX7_writePacked_74, bqX7_writePacked_77, blX7_writePacked_77, bI_F (show ¬ (N 1 k = 4 ∨ N 1 k = 6) by omega), n0_0]
        refine ⟨_, _, _, _, hb.callS lsX7_40 (ct_X7_signNibble (neg := neg)) rfl (by decide) (by decide) (by decide), ?_, fun _ _ _ h => h.elim⟩
        rintro _ O1 A1 ⟨rfl, rfl, rfl⟩
        exact fin (by unfold pNb; rw [if_pos rfl, if_neg h6]) (by split <;> decide) h1
    | succ i ih =>
      intro N1 O1 A1 hj hs hd h1
      rw [iSub_nn (show 1 ≤ i + 1 by omega), Nat.add_sub_cancel]
      refine hb.run (aCuts [4, 18, 26, 41, 44, 62, 74, 77] J) 60 26 _ _ _ _ _ _ (aCuts_ok _) ?_
      simp only [↓wpi_isub, ↓wpi_lsub, ↓wpi_ineg, ↓wpi_lneg, ↓wpi_irem, ↓wpi_lrem, ↓wpi_iinc, wp1, wp, wpl, wpi, lget, lput1, lput2, ltail, lkill, aV, aVl, aNth, aPut, aFz, aC0, aC2, aSw, aCat1, aCuts, aSet_eq, List.take, List.drop, List.reverse_cons, List.reverse_nil, List.nil_append, List.cons_append, List.length_cons, List.length_nil, Option.toList, true_and, and_true, Nat.reduceAdd, Nat.reduceEqDiff, Nat.reduceLT, Nat.reduceLeDiff, Nat.zero_add, Nat.add_zero, if_true, if_false, ite_true, ite_false, reduceIte, reduceCtorEq, true_or, or_true, not_true_eq_false, not_false_eq_true, false_and, and_false, true_implies, false_implies, not_false_eq_true, bqX7_writePacked_0, blX7_writePacked_0, bqX7_writePacked_4, blX7_writePacked_4, bqX7_writePacked_12, blX7_writePacked_12, bqX7_writePacked_18, blX7_writePacked_18, bqX7_writePacked_26, blX7_writePacked_26, bqX7_writePacked_31, blX7_writePacked_31, bqX7_writePacked_41, blX7_writePacked_41, bqX7_writePacked_44, blX7_writePacked_44, bqX7_writePacked_50, blX7_writePacked_50, bqX7_writePacked_62, blX7_writePacked_62, bqX7_writePacked_65, blX7_writePacked_65, bqX7_writePacked_70, blX7_writePacked_70, bqX7_writePacked_74, blX7_writePacked_74, bqX7_writePacked_77, blX7_writePacked_77, nI_lt0 (show i < 2 ^ 31 by omega), nI_add]
      refine ⟨_, _, _, _, hb.callW lvX7_44 (w_takeDigit h1 (i := 11) (by decide)) rfl (h1.rO (by decide)) (by decide) (by decide) (by decide), ?_, fun _ _ _ h => h.elim⟩
      rintro _ O2 A2 ⟨rfl, h2⟩
      rw [rU_rU, rU_eq, dgt_step] at h2
      have hdg : rU ρ 11 (q / 10 ^ (N 2 k - (i + 1))) 11 % 10 = dgt q (N 2 k - 1 - i) := by
        rw [rU_eq]; unfold dgt; rw [show N 2 k - (i + 1) = N 2 k - 1 - i by omega]
      rw [hdg]
      have hdl := dgt_lt q (N 2 k - 1 - i)
      refine hb.run (aCuts [4, 18, 26, 41, 44, 62, 74, 77] J) 60 41 _ _ _ _ _ _ (aCuts_ok _) ?_
      simp only [↓wpi_isub, ↓wpi_lsub, ↓wpi_ineg, ↓wpi_lneg, ↓wpi_irem, ↓wpi_lrem, ↓wpi_iinc, wp1, wp, wpl, wpi, lget, lput1, lput2, ltail, lkill, aV, aVl, aNth, aPut, aFz, aC0, aC2, aSw, aCat1, aCuts, aSet_eq, List.take, List.drop, List.reverse_cons, List.reverse_nil, List.nil_append, List.cons_append, List.length_cons, List.length_nil, Option.toList, true_and, and_true, Nat.reduceAdd, Nat.reduceEqDiff, Nat.reduceLT, Nat.reduceLeDiff, Nat.zero_add, Nat.add_zero, if_true, if_false, ite_true, ite_false, reduceIte, reduceCtorEq, true_or, or_true, not_true_eq_false, not_false_eq_true, false_and, and_false, true_implies, false_implies, not_false_eq_true, bqX7_writePacked_0, blX7_writePacked_0, bqX7_writePacked_4, blX7_writePacked_4, bqX7_writePacked_12, blX7_writePacked_12, bqX7_writePacked_18, blX7_writePacked_18, bqX7_writePacked_26, blX7_writePacked_26, bqX7_writePacked_31, blX7_writePacked_31, bqX7_writePacked_41, blX7_writePacked_41, bqX7_writePacked_44, blX7_writePacked_44, bqX7_writePacked_50, blX7_writePacked_50, bqX7_writePacked_62, blX7_writePacked_62, bqX7_writePacked_65, blX7_writePacked_65, bqX7_writePacked_70, blX7_writePacked_70, bqX7_writePacked_74, blX7_writePacked_74, bqX7_writePacked_77, blX7_writePacked_77]
      refine ⟨_, _, _, _, hb.callV lvX7_59 (w_putNibbleS h2 hs hk (i := pLd (N 2 k) + i) (v := dgt q (N 2 k - 1 - i)) (by omega) (by omega)) rfl (h2.numS hs hk) (by decide) (by decide) (by decide), ?_, fun _ _ _ h => h.elim⟩
      rintro _ O3 A3 ⟨rfl, h3⟩
      refine hb.run (aCuts [4, 18, 26, 41, 44, 62, 74, 77] J) 60 44 _ _ _ _ _ _ (aCuts_ok _) ?_
      simp only [↓wpi_isub, ↓wpi_lsub, ↓wpi_ineg, ↓wpi_lneg, ↓wpi_irem, ↓wpi_lrem, ↓wpi_iinc, wp1, wp, wpl, wpi, lget, lput1, lput2, ltail, lkill, aV, aVl, aNth, aPut, aFz, aC0, aC2, aSw, aCat1, aCuts, aSet_eq, List.take, List.drop, List.reverse_cons, List.reverse_nil, List.nil_append, List.cons_append, List.length_cons, List.length_nil, Option.toList, true_and, and_true, Nat.reduceAdd, Nat.reduceEqDiff, Nat.reduceLT, Nat.reduceLeDiff, Nat.zero_add, Nat.add_zero, if_true, if_false, ite_true, ite_false, reduceIte, reduceCtorEq, true_or, or_true, not_true_eq_false, not_false_eq_true, false_and, and_false, true_implies, false_implies, not_false_eq_true, bqX7_writePacked_0, blX7_writePacked_0, bqX7_writePacked_4, blX7_writePacked_4, bqX7_writePacked_12, blX7_writePacked_12, bqX7_writePacked_18, blX7_writePacked_18, bqX7_writePacked_26, blX7_writePacked_26, bqX7_writePacked_31, blX7_writePacked_31, bqX7_writePacked_41, blX7_writePacked_41, bqX7_writePacked_44, blX7_writePacked_44, bqX7_writePacked_50, blX7_writePacked_50, bqX7_writePacked_62, blX7_writePacked_62, bqX7_writePacked_65, blX7_writePacked_65, bqX7_writePacked_70, blX7_writePacked_70, bqX7_writePacked_74, blX7_writePacked_74, bqX7_writePacked_77, blX7_writePacked_77, iInc_m1]
      have hb8 := h1.b8 k ((pLd (N 2 k) + i) / 2)
      refine ih _ _ _ (by omega) hs.put (fun n hn => ?_) (by rw [show N 2 k - i = N 2 k - (i + 1) + 1 by omega]; exact h3)
      by_cases e : n = pLd (N 2 k) + i
      · rw [e, nibUp_at (g := fun _ => 0) (by omega) hb8]
        unfold pNb
        rw [if_neg (by omega), if_neg (by omega), show pLd (N 2 k) + i - pLd (N 2 k) = i by omega]
      · rw [nibUp_ne (by omega) hb8 e]
        exact hd n (by omega)
  have start : ∀ {N1 : aN} {O1 : aO} {A1 : aA}, nSame N N1 k → (∀ n, n < pLd (N 2 k) → nibOf (N1 (6 + k)) n = 0) → cW tA Z ρ sg N1 O0 A0 O1 A1 → J 18 [some (.ref (Z 36)), some (.ref (Z (40 + 2 * k))), some (.ref (Z 11)), some (.int (bI neg)), some (.int (nI (pLd (N 2 k)))), none] [] O1 A1 0 0 := by
    intro N1 O1 A1 hs h0 h1
    refine hb.run (aCuts [4, 18, 26, 41, 44, 62, 74, 77] J) 60 18 _ _ _ _ _ _ (aCuts_ok _) ?_
    simp only [↓wpi_isub, ↓wpi_lsub, ↓wpi_ineg, ↓wpi_lneg, ↓wpi_irem, ↓wpi_lrem, ↓wpi_iinc, wp1, wp, wpl, wpi, lget, lput1, lput2, ltail, lkill, aV, aVl, aNth, aPut, aFz, aC0, aC2, aSw, aCat1, aCuts, aSet_eq, List.take, List.drop, List.reverse_cons, List.reverse_nil, List.nil_append, List.cons_append, List.length_cons, List.length_nil, Option.toList, true_and, and_true, Nat.reduceAdd, Nat.reduceEqDiff, Nat.reduceLT, Nat.reduceLeDiff, Nat.zero_add, Nat.add_zero, if_true, if_false, ite_true, ite_false, reduceIte, reduceCtorEq, true_or, or_true, not_true_eq_false, not_false_eq_true, false_and, and_false, true_implies, false_implies, not_false_eq_true, bqX7_writePacked_0, blX7_writePacked_0, bqX7_writePacked_4, blX7_writePacked_4, bqX7_writePacked_12, blX7_writePacked_12, bqX7_writePacked_18, blX7_writePacked_18, bqX7_writePacked_26, blX7_writePacked_26, bqX7_writePacked_31, blX7_writePacked_31, bqX7_writePacked_41, blX7_writePacked_41, bqX7_writePacked_44, blX7_writePacked_44, bqX7_writePacked_50, blX7_writePacked_50, bqX7_writePacked_62, blX7_writePacked_62, bqX7_writePacked_65, blX7_writePacked_65, bqX7_writePacked_70, blX7_writePacked_70, bqX7_writePacked_74, blX7_writePacked_74, bqX7_writePacked_77, blX7_writePacked_77, h1.numS hs hk]
    refine loop (N 2 k) N1 _ _ (by omega) hs (fun n hn => ?_) ?_
    · rw [h0 n (by omega)]
      unfold pNb
      rw [if_neg (by omega), if_pos (by omega)]
    · rw [Nat.sub_self, Nat.pow_zero, Nat.div_one, hq, rU_id]; exact h1
  refine hb.run (aCuts [4, 18, 26, 41, 44, 62, 74, 77] J) 60 0 _ _ _ _ _ _ (aCuts_ok _) ?_
  simp only [↓wpi_isub, ↓wpi_lsub, ↓wpi_ineg, ↓wpi_lneg, ↓wpi_irem, ↓wpi_lrem, ↓wpi_iinc, wp1, wp, wpl, wpi, lget, lput1, lput2, ltail, lkill, aV, aVl, aNth, aPut, aFz, aC0, aC2, aSw, aCat1, aCuts, aSet_eq, List.take, List.drop, List.reverse_cons, List.reverse_nil, List.nil_append, List.cons_append, List.length_cons, List.length_nil, Option.toList, true_and, and_true, Nat.reduceAdd, Nat.reduceEqDiff, Nat.reduceLT, Nat.reduceLeDiff, Nat.zero_add, Nat.add_zero, if_true, if_false, ite_true, ite_false, reduceIte, reduceCtorEq, true_or, or_true, not_true_eq_false, not_false_eq_true, false_and, and_false, true_implies, false_implies, not_false_eq_true, bqX7_writePacked_0, blX7_writePacked_0, bqX7_writePacked_4, blX7_writePacked_4, bqX7_writePacked_12, blX7_writePacked_12, bqX7_writePacked_18, blX7_writePacked_18, bqX7_writePacked_26, blX7_writePacked_26, bqX7_writePacked_31, blX7_writePacked_31, bqX7_writePacked_41, blX7_writePacked_41, bqX7_writePacked_44, blX7_writePacked_44, bqX7_writePacked_50, blX7_writePacked_50, bqX7_writePacked_62, blX7_writePacked_62, bqX7_writePacked_65, blX7_writePacked_65, bqX7_writePacked_70, blX7_writePacked_70, bqX7_writePacked_74, blX7_writePacked_74, bqX7_writePacked_77, blX7_writePacked_77, aArgs, List.replicate]
  refine ⟨_, _, _, _, hb.callV lvX7_56 (ct_X4_packedLead (h.num hk) b3) rfl (h.num hk) (by decide) (by decide) (by decide), ?_, fun _ _ _ h => h.elim⟩
  rintro _ O A ⟨rfl, rfl, rfl⟩
  rw [show (if N 2 k % 2 = 0 then 1 else 0) = pLd (N 2 k) from rfl]
  refine hb.run (aCuts [4, 18, 26, 41, 44, 62, 74, 77] J) 60 4 _ _ _ _ _ _ (aCuts_ok _) ?_
  by_cases hp : pLd (N 2 k) = 1
  · have e1 : (nI (pLd (N 2 k)) = nI 1) = True := by rw [hp]; simp
    simp only [↓wpi_isub, ↓wpi_lsub, ↓wpi_ineg, ↓wpi_lneg, ↓wpi_irem, ↓wpi_lrem, ↓wpi_iinc, wp1, wp, wpl, wpi, lget, lput1, lput2, ltail, lkill, aV, aVl, aNth, aPut, aFz, aC0, aC2, aSw, aCat1, aCuts, aSet_eq, List.take, List.drop, List.reverse_cons, List.reverse_nil, List.nil_append, List.cons_append, List.length_cons, List.length_nil, Option.toList, true_and, and_true, Nat.reduceAdd, Nat.reduceEqDiff, Nat.reduceLT, Nat.reduceLeDiff, Nat.zero_add, Nat.add_zero, if_true, if_false, ite_true, ite_false, reduceIte, reduceCtorEq, true_or, or_true, not_true_eq_false, not_false_eq_true, false_and, and_false, true_implies, false_implies, not_false_eq_true, bqX7_writePacked_0, blX7_writePacked_0, bqX7_writePacked_4, blX7_writePacked_4, bqX7_writePacked_12, blX7_writePacked_12, bqX7_writePacked_18, blX7_writePacked_18, bqX7_writePacked_26, blX7_writePacked_26, bqX7_writePacked_31, blX7_writePacked_31, bqX7_writePacked_41, blX7_writePacked_41, bqX7_writePacked_44, blX7_writePacked_44, bqX7_writePacked_50, blX7_writePacked_50, bqX7_writePacked_62, blX7_writePacked_62, bqX7_writePacked_65, blX7_writePacked_65, bqX7_writePacked_70, blX7_writePacked_70, bqX7_writePacked_74, blX7_writePacked_74, bqX7_writePacked_77, blX7_writePacked_77, e1]
    refine ⟨_, _, _, _, hb.callV lvX7_59 (w_putNibbleS h nSame.rf hk (i := 0) (v := 0) (by omega) (by decide)) rfl (h.num hk) (by decide) (by decide) (by decide), ?_, fun _ _ _ h => h.elim⟩
    rintro _ O1 A1 ⟨rfl, h1⟩
    refine start nSame.rf.put (fun n hn => ?_) h1
    obtain rfl : n = 0 := by omega
    exact nibUp_at (g := fun _ => 0) (by decide) (h.b8 k _)
  · have e1 : (nI (pLd (N 2 k)) = nI 1) = False := by rw [nI_c (by omega) (by decide)]; simp [hp]
    simp only [↓wpi_isub, ↓wpi_lsub, ↓wpi_ineg, ↓wpi_lneg, ↓wpi_irem, ↓wpi_lrem, ↓wpi_iinc, wp1, wp, wpl, wpi, lget, lput1, lput2, ltail, lkill, aV, aVl, aNth, aPut, aFz, aC0, aC2, aSw, aCat1, aCuts, aSet_eq, List.take, List.drop, List.reverse_cons, List.reverse_nil, List.nil_append, List.cons_append, List.length_cons, List.length_nil, Option.toList, true_and, and_true, Nat.reduceAdd, Nat.reduceEqDiff, Nat.reduceLT, Nat.reduceLeDiff, Nat.zero_add, Nat.add_zero, if_true, if_false, ite_true, ite_false, reduceIte, reduceCtorEq, true_or, or_true, not_true_eq_false, not_false_eq_true, false_and, and_false, true_implies, false_implies, not_false_eq_true, bqX7_writePacked_0, blX7_writePacked_0, bqX7_writePacked_4, blX7_writePacked_4, bqX7_writePacked_12, blX7_writePacked_12, bqX7_writePacked_18, blX7_writePacked_18, bqX7_writePacked_26, blX7_writePacked_26, bqX7_writePacked_31, blX7_writePacked_31, bqX7_writePacked_41, blX7_writePacked_41, bqX7_writePacked_44, blX7_writePacked_44, bqX7_writePacked_50, blX7_writePacked_50, bqX7_writePacked_62, blX7_writePacked_62, bqX7_writePacked_65, blX7_writePacked_65, bqX7_writePacked_70, blX7_writePacked_70, bqX7_writePacked_74, blX7_writePacked_74, bqX7_writePacked_77, blX7_writePacked_77, e1]
    exact start nSame.rf (fun n hn => by omega) h
set_option maxHeartbeats 8000000 in
theorem w_writeNational (h : cW tA Z ρ sg N O0 A0 O A) (hk : k < N 0 0) (hu : N 1 k = 11) (neg : Bool) : aMet l G base tA yX7_writeNational cX7_writeNational 5 none rmW [.ref (Z 36), .ref (Z (40 + 2 * k)), .ref (Z 11), .int (bI neg)] O A (fun r O' A' => r = none ∧ ∃ x, cW tA Z (rU ρ 11 x) sg (nBy N k (oW (N 2 k) (ρ 11) neg)) O0 A0 O' A') := by
  refine aMet_of (ini := false) (B := aLook bkX7_writeNational) (by decide) (fun h => by first | rfl | cases h) (Nat.le_of_ble_eq_true rfl) boX7_writeNational ?_
  intro E J hb
  obtain ⟨b1, b2, b3, b4, b5, b6⟩ := h.bnd hk
  have hsz : 2 * N 2 k + 2 = N 5 k := by rw [b6, hu]; rfl
  obtain ⟨q, hq⟩ : ∃ q, q = ρ 11 := ⟨_, rfl⟩
  rw [← hq] at hb
  have loop : ∀ (j : Nat) (N1 : aN) (O1 : aO) (A1 : aA), j ≤ N 2 k → nSame N N1 k → (∀ p, 2 * j ≤ p → p < 2 * N 2 k → N1 (6 + k) p = oW (N 2 k) q neg p) → cW tA Z (rU ρ 11 (q / 10 ^ (N 2 k - j))) sg N1 O0 A0 O1 A1 →
      J 8 [some (.ref (Z 36)), some (.ref (Z (40 + 2 * k))), some (.ref (Z 11)), some (.int (bI neg)), some (.int (iSub (nI j) (nI 1)))] [] O1 A1 0 0 := by
    intro j
    induction j with
    | zero =>
      intro N1 O1 A1 hj hs hd h1
      refine hb.run (aCuts [8, 22, 35, 39, 56, 79] J) 60 8 _ _ _ _ _ _ (aCuts_ok _) ?_
      simp only [↓wpi_isub, ↓wpi_lsub, ↓wpi_ineg, ↓wpi_lneg, ↓wpi_irem, ↓wpi_lrem, ↓wpi_iinc, wp1, wp, wpl, wpi, lget, lput1, lput2, ltail, lkill, aV, aVl, aNth, aPut, aFz, aC0, aC2, aSw, aCat1, aCuts, aSet_eq, List.take, List.drop, List.reverse_cons, List.reverse_nil, List.nil_append, List.cons_append, List.length_cons, List.length_nil, Option.toList, true_and, and_true, Nat.reduceAdd, Nat.reduceEqDiff, Nat.reduceLT, Nat.reduceLeDiff, Nat.zero_add, Nat.add_zero, if_true, if_false, ite_true, ite_false, reduceIte, reduceCtorEq, true_or, or_true, not_true_eq_false, not_false_eq_true, false_and, and_false, true_implies, false_implies, not_false_eq_true, bqX7_writeNational_0, blX7_writeNational_0, bqX7_writeNational_8, blX7_writeNational_8, bqX7_writeNational_13, blX7_writeNational_13, bqX7_writeNational_22, blX7_writeNational_22, bqX7_writeNational_35, blX7_writeNational_35, bqX7_writeNational_39, blX7_writeNational_39, bqX7_writeNational_45, blX7_writeNational_45, bqX7_writeNational_56, blX7_writeNational_56, bqX7_writeNational_69, blX7_writeNational_69, bqX7_writeNational_74, blX7_writeNational_74, bqX7_writeNational_76, blX7_writeNational_76, bqX7_writeNational_79, blX7_writeNational_79, iSub_n1, h1.numS hs hk, pk_mul]
      refine ⟨_, _, _, _, hb.callV lvX7_49 (w_putS h1 hs hk (i := 2 * N 2 k) (w := 0) (by omega) (by decide)) rfl (h1.numS hs hk) (by decide) (by decide) (by decide), ?_, fun _ _ _ h => h.elim⟩
      rintro _ O2 A2 ⟨rfl, h2⟩
      have fin : ∀ {w : Nat} {O3 : aO} {A3 : aA}, w = (if neg then 45 else 43) → cW tA Z (rU ρ 11 (q / 10 ^ (N 2 k - 0))) sg (nU (nU N1 (6 + k) (2 * N 2 k) (0 % 256)) (6 + k) (2 * N 2 k + 1) (w % 256)) O0 A0 O3 A3 → J 79 [some (.ref (Z 36)), some (.ref (Z (40 + 2 * k))), some (.ref (Z 11)), some (.int (bI neg)), some (.int (iSub (nI 0) (nI 1)))] [] O3 A3 0 0 := by
        intro w O3 A3 hw h3
        refine hb.run (aCuts [8, 22, 35, 39, 56, 79] J) 60 79 _ _ _ _ _ _ (aCuts_ok _) ?_
        simp only [↓wpi_isub, ↓wpi_lsub, ↓wpi_ineg, ↓wpi_lneg, ↓wpi_irem, ↓wpi_lrem, ↓wpi_iinc, wp1, wp, wpl, wpi, lget, lput1, lput2, ltail, lkill, aV, aVl, aNth, aPut, aFz, aC0, aC2, aSw, aCat1, aCuts, aSet_eq, List.take, List.drop, List.reverse_cons, List.reverse_nil, List.nil_append, List.cons_append, List.length_cons, List.length_nil, Option.toList, true_and, and_true, Nat.reduceAdd, Nat.reduceEqDiff, Nat.reduceLT, Nat.reduceLeDiff, Nat.zero_add, Nat.add_zero, if_true, if_false, ite_true, ite_false, reduceIte, reduceCtorEq, true_or, or_true, not_true_eq_false, not_false_eq_true, false_and, and_false, true_implies, false_implies, not_false_eq_true, bqX7_writeNational_0, blX7_writeNational_0, bqX7_writeNational_8, blX7_writeNational_8, bqX7_writeNational_13, blX7_writeNational_13, bqX7_writeNational_22, blX7_writeNational_22, bqX7_writeNational_35, blX7_writeNational_35, bqX7_writeNational_39, blX7_writeNational_39, bqX7_writeNational_45, blX7_writeNational_45, bqX7_writeNational_56, blX7_writeNational_56, bqX7_writeNational_69, blX7_writeNational_69, bqX7_writeNational_74, blX7_writeNational_74, bqX7_writeNational_76, blX7_writeNational_76, bqX7_writeNational_79, blX7_writeNational_79]
        refine hb.vret ⟨rfl, _, nBy_of h3 hs.put.put fun i hi => ?_⟩ (by decide) (by decide)
        have hw2 : w % 256 = if neg then 45 else 43 := by rw [hw]; split <;> rfl
        by_cases e1 : i = 2 * N 2 k + 1
        · subst e1
          rw [nU_eq, hw2]; unfold oW; rw [if_neg (show ¬ (2 * N 2 k + 1) % 2 = 0 by omega), if_pos rfl]
        · rw [nU_ne (Or.inr e1)]
          by_cases e2 : i = 2 * N 2 k
          · subst e2
            rw [nU_eq]; unfold oW; rw [if_pos (by omega)]
          · rw [nU_ne (Or.inr e2)]
            exact hd i (by omega) (by omega)
      refine hb.run (aCuts [8, 22, 35, 39, 56, 79] J) 60 56 _ _ _ _ _ _ (aCuts_ok _) ?_
      cases neg
      · simp only [↓wpi_isub, ↓wpi_lsub, ↓wpi_ineg, ↓wpi_lneg, ↓wpi_irem, ↓wpi_lrem, ↓wpi_iinc, wp1, wp, wpl, wpi, lget, lput1, lput2, ltail, lkill, aV, aVl, aNth, aPut, aFz, aC0, aC2, aSw, aCat1, aCuts, aSet_eq, List.take, List.drop, List.reverse_cons, List.reverse_nil, List.nil_append, List.cons_append, List.length_cons, List.length_nil, Option.toList, true_and, and_true, Nat.reduceAdd, Nat.reduceEqDiff, Nat.reduceLT, Nat.reduceLeDiff, Nat.zero_add, Nat.add_zero, if_true, if_false, ite_true, ite_false, reduceIte, reduceCtorEq, true_or, or_true, not_true_eq_false, not_false_eq_true, false_and, and_false, true_implies, false_implies, not_false_eq_true, bqX7_writeNational_0, blX7_writeNational_0, bqX7_writeNational_8, blX7_writeNational_8, bqX7_writeNational_13, blX7_writeNational_13, bqX7_writeNational_22, blX7_writeNational_22, bqX7_writeNational_35, blX7_writeNational_35, bqX7_writeNational_39, blX7_writeNational_39, bqX7_writeNational_45, blX7_writeNational_45, bqX7_writeNational_56, blX7_writeNational_56, bqX7_writeNational_69, blX7_writeNational_69, bqX7_writeNational_74, blX7_writeNational_74, bqX7_writeNational_76, blX7_writeNational_76, bqX7_writeNational_79, blX7_writeNational_79, h2.numS hs.put hk, pk_mul, nI_add, bI_f, n0_0]
        refine ⟨_, _, _, _, hb.callV lvX7_49 (w_putS h2 hs.put hk (i := 2 * N 2 k + 1) (w := 43) (by omega) (by decide)) rfl (h2.numS hs.put hk) (by decide) (by decide) (by decide), ?_, fun _ _ _ h => h.elim⟩
        rintro _ O3 A3 ⟨rfl, h3⟩
        exact fin rfl h3
      · simp only [↓wpi_isub, ↓wpi_lsub, ↓wpi_ineg, ↓wpi_lneg, ↓wpi_irem, ↓wpi_lrem, ↓wpi_iinc, wp1, wp, wpl, wpi, lget, lput1, lput2, ltail, lkill, aV, aVl, aNth, aPut, aFz, aC0, aC2, aSw, aCat1, aCuts, aSet_eq, List.take, List.drop, List.reverse_cons, List.reverse_nil, List.nil_append, List.cons_append, List.length_cons, List.length_nil, Option.toList, true_and, and_true, Nat.reduceAdd, Nat.reduceEqDiff, Nat.reduceLT, Nat.reduceLeDiff, Nat.zero_add, Nat.add_zero, if_true, if_false, ite_true, ite_false, reduceIte, reduceCtorEq, true_or, or_true, not_true_eq_false, not_false_eq_true, false_and, and_false, true_implies, false_implies, not_false_eq_true, bqX7_writeNational_0, blX7_writeNational_0, bqX7_writeNational_8, blX7_writeNational_8, bqX7_writeNational_13, blX7_writeNational_13, bqX7_writeNational_22, blX7_writeNational_22, bqX7_writeNational_35, blX7_writeNational_35, bqX7_writeNational_39, blX7_writeNational_39, bqX7_writeNational_45, blX7_writeNational_45, bqX7_writeNational_56, blX7_writeNational_56, bqX7_writeNational_69, blX7_writeNational_69, bqX7_writeNational_74, blX7_writeNational_74, bqX7_writeNational_76, blX7_writeNational_76, bqX7_writeNational_79, blX7_writeNational_79, h2.numS hs.put hk, pk_mul, nI_add, bI_t, n1_0]
        refine ⟨_, _, _, _, hb.callV lvX7_49 (w_putS h2 hs.put hk (i := 2 * N 2 k + 1) (w := 45) (by omega) (by decide)) rfl (h2.numS hs.put hk) (by decide) (by decide) (by decide), ?_, fun _ _ _ h => h.elim⟩
        rintro _ O3 A3 ⟨rfl, h3⟩
        exact fin rfl h3
    | succ i ih =>
      intro N1 O1 A1 hj hs hd h1
      rw [iSub_nn (show 1 ≤ i + 1 by omega), Nat.add_sub_cancel]
      refine hb.run (aCuts [8, 22, 35, 39, 56, 79] J) 60 8 _ _ _ _ _ _ (aCuts_ok _) ?_
      simp only [↓wpi_isub, ↓wpi_lsub, ↓wpi_ineg, ↓wpi_lneg, ↓wpi_irem, ↓wpi_lrem, ↓wpi_iinc, wp1, wp, wpl, wpi, lget, lput1, lput2, ltail, lkill, aV, aVl, aNth, aPut, aFz, aC0, aC2, aSw, aCat1, aCuts, aSet_eq, List.take, List.drop, List.reverse_cons, List.reverse_nil, List.nil_append, List.cons_append, List.length_cons, List.length_nil, Option.toList, true_and, and_true, Nat.reduceAdd, Nat.reduceEqDiff, Nat.reduceLT, Nat.reduceLeDiff, Nat.zero_add, Nat.add_zero, if_true, if_false, ite_true, ite_false, reduceIte, reduceCtorEq, true_or, or_true, not_true_eq_false, not_false_eq_true, false_and, and_false, true_implies, false_implies, not_false_eq_true, bqX7_writeNational_0, blX7_writeNational_0, bqX7_writeNational_8, blX7_writeNational_8, bqX7_writeNational_13, blX7_writeNational_13, bqX7_writeNational_22, blX7_writeNational_22, bqX7_writeNational_35, blX7_writeNational_35, bqX7_writeNational_39, blX7_writeNational_39, bqX7_writeNational_45, blX7_writeNational_45, bqX7_writeNational_56, blX7_writeNational_56, bqX7_writeNational_69, blX7_writeNational_69, bqX7_writeNational_74, blX7_writeNational_74, bqX7_writeNational_76, blX7_writeNational_76, bqX7_writeNational_79, blX7_writeNational_79, nI_lt0 (show i < 2 ^ 31 by omega), pk_mul]
      refine ⟨_, _, _, _, hb.callV lvX7_49 (w_putS h1 hs hk (i := 2 * i) (w := 0) (by omega) (by decide)) rfl (h1.numS hs hk) (by decide) (by decide) (by decide), ?_, fun _ _ _ h => h.elim⟩
      rintro _ O2 A2 ⟨rfl, h2⟩
      refine hb.run (aCuts [8, 22, 35, 39, 56, 79] J) 60 22 _ _ _ _ _ _ (aCuts_ok _) ?_
      simp only [↓wpi_isub, ↓wpi_lsub, ↓wpi_ineg, ↓wpi_lneg, ↓wpi_irem, ↓wpi_lrem, ↓wpi_iinc, wp1, wp, wpl, wpi, lget, lput1, lput2, ltail, lkill, aV, aVl, aNth, aPut, aFz, aC0, aC2, aSw, aCat1, aCuts, aSet_eq, List.take, List.drop, List.reverse_cons, List.reverse_nil, List.nil_append, List.cons_append, List.length_cons, List.length_nil, Option.toList, true_and, and_true, Nat.reduceAdd, Nat.reduceEqDiff, Nat.reduceLT, Nat.reduceLeDiff, Nat.zero_add, Nat.add_zero, if_true, if_false, ite_true, ite_false, reduceIte, reduceCtorEq, true_or, or_true, not_true_eq_false, not_false_eq_true, false_and, and_false, true_implies, false_implies, not_false_eq_true, bqX7_writeNational_0, blX7_writeNational_0, bqX7_writeNational_8, blX7_writeNational_8, bqX7_writeNational_13, blX7_writeNational_13, bqX7_writeNational_22, blX7_writeNational_22, bqX7_writeNational_35, blX7_writeNational_35, bqX7_writeNational_39, blX7_writeNational_39, bqX7_writeNational_45, blX7_writeNational_45, bqX7_writeNational_56, blX7_writeNational_56, bqX7_writeNational_69, blX7_writeNational_69, bqX7_writeNational_74, blX7_writeNational_74, bqX7_writeNational_76, blX7_writeNational_76, bqX7_writeNational_79, blX7_writeNational_79, pk_mul, nI_add]
      refine ⟨_, _, _, _, hb.callW lvX7_44 (w_takeDigit h2 (i := 11) (by decide)) rfl (h2.rO (by decide)) (by decide) (by decide) (by decide), ?_, fun _ _ _ h => h.elim⟩
      rintro _ O3 A3 ⟨rfl, h3⟩
      rw [rU_rU, rU_eq, dgt_step] at h3
      have hdg : rU ρ 11 (q / 10 ^ (N 2 k - (i + 1))) 11 % 10 = dgt q (N 2 k - 1 - i) := by
        rw [rU_eq]; unfold dgt; rw [show N 2 k - (i + 1) = N 2 k - 1 - i by omega]
      rw [hdg]
      have hdl := dgt_lt q (N 2 k - 1 - i)
      refine hb.run (aCuts [8, 22, 35, 39, 56, 79] J) 60 35 _ _ _ _ _ _ (aCuts_ok _) ?_
      simp only [↓wpi_isub, ↓wpi_lsub, ↓wpi_ineg, ↓wpi_lneg, ↓wpi_irem, ↓wpi_lrem, ↓wpi_iinc, wp1, wp, wpl, wpi, lget, lput1, lput2, ltail, lkill, aV, aVl, aNth, aPut, aFz, aC0, aC2, aSw, aCat1, aCuts, aSet_eq, List.take, List.drop, List.reverse_cons, List.reverse_nil, List.nil_append, List.cons_append, List.length_cons, List.length_nil, Option.toList, true_and, and_true, Nat.reduceAdd, Nat.reduceEqDiff, Nat.reduceLT, Nat.reduceLeDiff, Nat.zero_add, Nat.add_zero, if_true, if_false, ite_true, ite_false, reduceIte, reduceCtorEq, true_or, or_true, not_true_eq_false, not_false_eq_true, false_and, and_false, true_implies, false_implies, not_false_eq_true, bqX7_writeNational_0, blX7_writeNational_0, bqX7_writeNational_8, blX7_writeNational_8, bqX7_writeNational_13, blX7_writeNational_13, bqX7_writeNational_22, blX7_writeNational_22, bqX7_writeNational_35, blX7_writeNational_35, bqX7_writeNational_39, blX7_writeNational_39, bqX7_writeNational_45, blX7_writeNational_45, bqX7_writeNational_56, blX7_writeNational_56, bqX7_writeNational_69, blX7_writeNational_69, bqX7_writeNational_74, blX7_writeNational_74, bqX7_writeNational_76, blX7_writeNational_76, bqX7_writeNational_79, blX7_writeNational_79, or48 hdl]
      refine ⟨_, _, _, _, hb.callV lvX7_49 (w_putS h3 hs.put hk (i := 2 * i + 1) (w := 48 + dgt q (N 2 k - 1 - i)) (by omega) (by omega)) rfl (h3.numS hs.put hk) (by decide) (by decide) (by decide), ?_, fun _ _ _ h => h.elim⟩
      rintro _ O4 A4 ⟨rfl, h4⟩
      rw [Nat.mod_eq_of_lt (show 48 + dgt q (N 2 k - 1 - i) < 256 by omega)] at h4
      refine hb.run (aCuts [8, 22, 35, 39, 56, 79] J) 60 39 _ _ _ _ _ _ (aCuts_ok _) ?_
      simp only [↓wpi_isub, ↓wpi_lsub, ↓wpi_ineg, ↓wpi_lneg, ↓wpi_irem, ↓wpi_lrem, ↓wpi_iinc, wp1, wp, wpl, wpi, lget, lput1, lput2, ltail, lkill, aV, aVl, aNth, aPut, aFz, aC0, aC2, aSw, aCat1, aCuts, aSet_eq, List.take, List.drop, List.reverse_cons, List.reverse_nil, List.nil_append, List.cons_append, List.length_cons, List.length_nil, Option.toList, true_and, and_true, Nat.reduceAdd, Nat.reduceEqDiff, Nat.reduceLT, Nat.reduceLeDiff, Nat.zero_add, Nat.add_zero, if_true, if_false, ite_true, ite_false, reduceIte, reduceCtorEq, true_or, or_true, not_true_eq_false, not_false_eq_true, false_and, and_false, true_implies, false_implies, not_false_eq_true, bqX7_writeNational_0, blX7_writeNational_0, bqX7_writeNational_8, blX7_writeNational_8, bqX7_writeNational_13, blX7_writeNational_13, bqX7_writeNational_22, blX7_writeNational_22, bqX7_writeNational_35, blX7_writeNational_35, bqX7_writeNational_39, blX7_writeNational_39, bqX7_writeNational_45, blX7_writeNational_45, bqX7_writeNational_56, blX7_writeNational_56, bqX7_writeNational_69, blX7_writeNational_69, bqX7_writeNational_74, blX7_writeNational_74, bqX7_writeNational_76, blX7_writeNational_76, bqX7_writeNational_79, blX7_writeNational_79, iInc_m1]
      refine ih _ _ _ (by omega) hs.put.put (fun p p1 p2 => ?_) (by rw [show N 2 k - i = N 2 k - (i + 1) + 1 by omega]; exact h4)
      by_cases e1 : p = 2 * i + 1
      · subst e1
        rw [nU_eq]; unfold oW; rw [if_neg (by omega), if_neg (by omega), show (2 * i + 1) / 2 = i by omega]
      · rw [nU_ne (Or.inr e1)]
        by_cases e2 : p = 2 * i
        · subst e2
          rw [nU_eq]; unfold oW; rw [if_pos (by omega)]
        · rw [nU_ne (Or.inr e2)]
          exact hd p (by omega) p2
  refine hb.run (aCuts [8, 22, 35, 39, 56, 79] J) 60 0 _ _ _ _ _ _ (aCuts_ok _) ?_
  simp only [↓wpi_isub, ↓wpi_lsub, ↓wpi_ineg, ↓wpi_lneg, ↓wpi_irem, ↓wpi_lrem, ↓wpi_iinc, wp1, wp, wpl, wpi, lget, lput1, lput2, ltail, lkill, aV, aVl, aNth, aPut, aFz, aC0, aC2, aSw, aCat1, aCuts, aSet_eq, List.take, List.drop, List.reverse_cons, List.reverse_nil, List.nil_append, List.cons_append, List.length_cons, List.length_nil, Option.toList, true_and, and_true, Nat.reduceAdd, Nat.reduceEqDiff, Nat.reduceLT, Nat.reduceLeDiff, Nat.zero_add, Nat.add_zero, if_true, if_false, ite_true, ite_false, reduceIte, reduceCtorEq, true_or, or_true, not_true_eq_false, not_false_eq_true, false_and, and_false, true_implies, false_implies, not_false_eq_true, bqX7_writeNational_0, blX7_writeNational_0, bqX7_writeNational_8, blX7_writeNational_8, bqX7_writeNational_13, blX7_writeNational_13, bqX7_writeNational_22, blX7_writeNational_22, bqX7_writeNational_35, blX7_writeNational_35, bqX7_writeNational_39, blX7_writeNational_39, bqX7_writeNational_45, blX7_writeNational_45, bqX7_writeNational_56, blX7_writeNational_56, bqX7_writeNational_69, blX7_writeNational_69, bqX7_writeNational_74, blX7_writeNational_74, bqX7_writeNational_76, blX7_writeNational_76, bqX7_writeNational_79, blX7_writeNational_79, aArgs, List.replicate, h.num hk]
  refine loop (N 2 k) N _ _ (by omega) nSame.rf (fun i i1 i2 => by omega) ?_
  rw [Nat.sub_self, Nat.pow_zero, Nat.div_one, hq, rU_id]; exact h
theorem shr8 {n : Nat} (h : n < 2 ^ 31) : nI n >>> (nI 8 &&& 31) = nI (n / 256) := pk_shrN h _ 8 (by decide +kernel)
set_option maxHeartbeats 8000000 in
theorem w_writeBinary (h : cW tA Z ρ sg N O0 A0 O A) (hk : k < N 0 0) (neg : Bool) : aMet l G base tA yX7_writeBinary cX7_writeBinary 7 none rmW [.ref (Z 36), .ref (Z (40 + 2 * k)), .ref (Z 11), .int (bI neg)] O A (fun r O' A' => r = none ∧ ∃ x, cW tA Z (rU ρ 11 x) sg (nBy N k (xW (N 5 k) (ρ 11) neg)) O0 A0 O' A') := by
  refine aMet_of (ini := false) (B := aLook bkX7_writeBinary) (by decide) (fun h => by first | rfl | cases h) (Nat.le_of_ble_eq_true rfl) boX7_writeBinary ?_
  intro E J hb
  obtain ⟨s1, s2⟩ := h.szb hk
  obtain ⟨q, hq⟩ : ∃ q, q = ρ 11 := ⟨_, rfl⟩
  rw [← hq] at hb
  have loop : ∀ (j c : Nat) (x6 : Option Value) (N1 : aN) (O1 : aO) (A1 : aA), j ≤ N 5 k → c ≤ 1 → (neg = true → c = xC q (N 5 k - j)) → nSame N N1 k → (∀ p, j ≤ p → p < N 5 k → N1 (6 + k) p = xW (N 5 k) q neg p) → cW tA Z (rU ρ 11 (q / 256 ^ (N 5 k - j))) sg N1 O0 A0 O1 A1 →
      J 12 [some (.ref (Z 36)), some (.ref (Z (40 + 2 * k))), some (.ref (Z 11)), some (.int (bI neg)), some (.int (nI c)), some (.int (iSub (nI j) (nI 1))), x6] [] O1 A1 0 0 := by
    intro j
    induction j with
    | zero =>
      intro c x6 N1 O1 A1 hj hc hcn hs hd h1
      refine hb.run (aCuts [12, 21, 53] J) 60 12 _ _ _ _ _ _ (aCuts_ok _) ?_
      simp only [↓wpi_isub, ↓wpi_lsub, ↓wpi_ineg, ↓wpi_lneg, ↓wpi_irem, ↓wpi_lrem, ↓wpi_iinc, wp1, wp, wpl, wpi, lget, lput1, lput2, ltail, lkill, aV, aVl, aNth, aPut, aFz, aC0, aC2, aSw, aCat1, aCuts, aSet_eq, List.take, List.drop, List.reverse_cons, List.reverse_nil, List.nil_append, List.cons_append, List.length_cons, List.length_nil, Option.toList, true_and, and_true, Nat.reduceAdd, Nat.reduceEqDiff, Nat.reduceLT, Nat.reduceLeDiff, Nat.zero_add, Nat.add_zero, if_true, if_false, ite_true, ite_false, reduceIte, reduceCtorEq, true_or, or_true, not_true_eq_false, not_false_eq_true, false_and, and_false, true_implies, false_implies, not_false_eq_true, bqX7_writeBinary_0, blX7_writeBinary_0, bqX7_writeBinary_12, blX7_writeBinary_12, bqX7_writeBinary_17, blX7_writeBinary_17, bqX7_writeBinary_21, blX7_writeBinary_21, bqX7_writeBinary_27, blX7_writeBinary_27, bqX7_writeBinary_45, blX7_writeBinary_45, bqX7_writeBinary_53, blX7_writeBinary_53, bqX7_writeBinary_59, blX7_writeBinary_59, iSub_n1]
      exact hb.vret ⟨rfl, _, nBy_of h1 hs fun i hi => hd i (by omega) hi⟩ (by decide) (by decide)
    | succ i ih =>
      intro c x6 N1 O1 A1 hj hc hcn hs hd h1
      rw [iSub_nn (show 1 ≤ i + 1 by omega), Nat.add_sub_cancel]
      refine hb.run (aCuts [12, 21, 53] J) 60 12 _ _ _ _ _ _ (aCuts_ok _) ?_
      simp only [↓wpi_isub, ↓wpi_lsub, ↓wpi_ineg, ↓wpi_lneg, ↓wpi_irem, ↓wpi_lrem, ↓wpi_iinc, wp1, wp, wpl, wpi, lget, lput1, lput2, ltail, lkill, aV, aVl, aNth, aPut, aFz, aC0, aC2, aSw, aCat1, aCuts, aSet_eq, List.take, List.drop, List.reverse_cons, List.reverse_nil, List.nil_append, List.cons_append, List.length_cons, List.length_nil, Option.toList, true_and, and_true, Nat.reduceAdd, Nat.reduceEqDiff, Nat.reduceLT, Nat.reduceLeDiff, Nat.zero_add, Nat.add_zero, if_true, if_false, ite_true, ite_false, reduceIte, reduceCtorEq, true_or, or_true, not_true_eq_false, not_false_eq_true, false_and, and_false, true_implies, false_implies, not_false_eq_true, bqX7_writeBinary_0, blX7_writeBinary_0, bqX7_writeBinary_12, blX7_writeBinary_12, bqX7_writeBinary_17, blX7_writeBinary_17, bqX7_writeBinary_21, blX7_writeBinary_21, bqX7_writeBinary_27, blX7_writeBinary_27, bqX7_writeBinary_45, blX7_writeBinary_45, bqX7_writeBinary_53, blX7_writeBinary_53, bqX7_writeBinary_59, blX7_writeBinary_59, nI_lt0 (show i < 2 ^ 31 by omega)]
      refine ⟨_, _, _, _, hb.callW lvX7_70 (w_takeOctet h1 (i := 11) (by decide)) rfl (h1.rO (by decide)) (by decide) (by decide) (by decide), ?_, fun _ _ _ h => h.elim⟩
      rintro _ O2 A2 ⟨rfl, h2⟩
      rw [rU_rU, rU_eq, oct_step] at h2
      have hdg : rU ρ 11 (q / 256 ^ (N 5 k - (i + 1))) 11 % 256 = oct q (N 5 k - 1 - i) := by
        rw [rU_eq]; unfold oct; rw [show N 5 k - (i + 1) = N 5 k - 1 - i by omega]
      rw [hdg]
      have hol := oct_lt q (N 5 k - 1 - i)
      have hrest : cW tA Z (rU ρ 11 (q / 256 ^ (N 5 k - i))) sg N1 O0 A0 O2 A2 := by
        rw [show N 5 k - i = N 5 k - (i + 1) + 1 by omega]; exact h2
      refine hb.run (aCuts [12, 21, 53] J) 60 21 _ _ _ _ _ _ (aCuts_ok _) ?_
      cases neg
      · simp only [↓wpi_isub, ↓wpi_lsub, ↓wpi_ineg, ↓wpi_lneg, ↓wpi_irem, ↓wpi_lrem, ↓wpi_iinc, wp1, wp, wpl, wpi, lget, lput1, lput2, ltail, lkill, aV, aVl, aNth, aPut, aFz, aC0, aC2, aSw, aCat1, aCuts, aSet_eq, List.take, List.drop, List.reverse_cons, List.reverse_nil, List.nil_append, List.cons_append, List.length_cons, List.length_nil, Option.toList, true_and, and_true, Nat.reduceAdd, Nat.reduceEqDiff, Nat.reduceLT, Nat.reduceLeDiff, Nat.zero_add, Nat.add_zero, if_true, if_false, ite_true, ite_false, reduceIte, reduceCtorEq, true_or, or_true, not_true_eq_false, not_false_eq_true, false_and, and_false, true_implies, false_implies, not_false_eq_true, bqX7_writeBinary_0, blX7_writeBinary_0, bqX7_writeBinary_12, blX7_writeBinary_12, bqX7_writeBinary_17, blX7_writeBinary_17, bqX7_writeBinary_21, blX7_writeBinary_21, bqX7_writeBinary_27, blX7_writeBinary_27, bqX7_writeBinary_45, blX7_writeBinary_45, bqX7_writeBinary_53, blX7_writeBinary_53, bqX7_writeBinary_59, blX7_writeBinary_59, bI_f, n0_0]
        refine ⟨_, _, _, _, hb.callV lvX7_49 (w_putS hrest hs hk (i := i) (w := oct q (N 5 k - 1 - i)) (by omega) (by omega)) rfl (hrest.numS hs hk) (by decide) (by decide) (by decide), ?_, fun _ _ _ h => h.elim⟩
        rintro _ O3 A3 ⟨rfl, h3⟩
        rw [Nat.mod_eq_of_lt hol] at h3
        refine hb.run (aCuts [12, 21, 53] J) 60 53 _ _ _ _ _ _ (aCuts_ok _) ?_
        simp only [↓wpi_isub, ↓wpi_lsub, ↓wpi_ineg, ↓wpi_lneg, ↓wpi_irem, ↓wpi_lrem, ↓wpi_iinc, wp1, wp, wpl, wpi, lget, lput1, lput2, ltail, lkill, aV, aVl, aNth, aPut, aFz, aC0, aC2, aSw, aCat1, aCuts, aSet_eq, List.take, List.drop, List.reverse_cons, List.reverse_nil, List.nil_append, List.cons_append, List.length_cons, List.length_nil, Option.toList, true_and, and_true, Nat.reduceAdd, Nat.reduceEqDiff, Nat.reduceLT, Nat.reduceLeDiff, Nat.zero_add, Nat.add_zero, if_true, if_false, ite_true, ite_false, reduceIte, reduceCtorEq, true_or, or_true, not_true_eq_false, not_false_eq_true, false_and, and_false, true_implies, false_implies, not_false_eq_true, bqX7_writeBinary_0, blX7_writeBinary_0, bqX7_writeBinary_12, blX7_writeBinary_12, bqX7_writeBinary_17, blX7_writeBinary_17, bqX7_writeBinary_21, blX7_writeBinary_21, bqX7_writeBinary_27, blX7_writeBinary_27, bqX7_writeBinary_45, blX7_writeBinary_45, bqX7_writeBinary_53, blX7_writeBinary_53, bqX7_writeBinary_59, blX7_writeBinary_59, iInc_m1]
        refine ih _ _ _ _ _ (by omega) hc (fun q => by cases q) hs.put (fun p p1 p2 => ?_) h3
        by_cases e : p = i
        · subst e; rw [nU_eq]; rfl
        · rw [nU_ne (Or.inr e)]; exact hd p (by omega) p2
      · have hcx := hcn rfl
        simp only [↓wpi_isub, ↓wpi_lsub, ↓wpi_ineg, ↓wpi_lneg, ↓wpi_irem, ↓wpi_lrem, ↓wpi_iinc, wp1, wp, wpl, wpi, lget, lput1, lput2, ltail, lkill, aV, aVl, aNth, aPut, aFz, aC0, aC2, aSw, aCat1, aCuts, aSet_eq, List.take, List.drop, List.reverse_cons, List.reverse_nil, List.nil_append, List.cons_append, List.length_cons, List.length_nil, Option.toList, true_and, and_true, Nat.reduceAdd, Nat.reduceEqDiff, Nat.reduceLT, Nat.reduceLeDiff, Nat.zero_add, Nat.add_zero, if_true, if_false, ite_true, ite_false, reduceIte, reduceCtorEq, true_or, or_true, not_true_eq_false, not_false_eq_true, false_and, and_false, true_implies, false_implies, not_false_eq_true, bqX7_writeBinary_0, blX7_writeBinary_0, bqX7_writeBinary_12, blX7_writeBinary_12, bqX7_writeBinary_17, blX7_writeBinary_17, bqX7_writeBinary_21, blX7_writeBinary_21, bqX7_writeBinary_27, blX7_writeBinary_27, bqX7_writeBinary_45, blX7_writeBinary_45, bqX7_writeBinary_53, blX7_writeBinary_53, bqX7_writeBinary_59, blX7_writeBinary_59, bI_t, n1_0, iSub_nn (show oct q (N 5 k - 1 - i) ≤ 255 by omega), nI_add, shr8 (show 255 - oct q (N 5 k - 1 - i) + c < 2 ^ 31 by omega)]
        refine ⟨_, _, _, _, hb.callV lvX7_49 (w_putS hrest hs hk (i := i) (w := 255 - oct q (N 5 k - 1 - i) + c) (by omega) (by omega)) rfl (hrest.numS hs hk) (by decide) (by decide) (by decide), ?_, fun _ _ _ h => h.elim⟩
        rintro _ O3 A3 ⟨rfl, h3⟩
        refine hb.run (aCuts [12, 21, 53] J) 60 53 _ _ _ _ _ _ (aCuts_ok _) ?_
        simp only [↓wpi_isub, ↓wpi_lsub, ↓wpi_ineg, ↓wpi_lneg, ↓wpi_irem, ↓wpi_lrem, ↓wpi_iinc, wp1, wp, wpl, wpi, lget, lput1, lput2, ltail, lkill, aV, aVl, aNth, aPut, aFz, aC0, aC2, aSw, aCat1, aCuts, aSet_eq, List.take, List.drop, List.reverse_cons, List.reverse_nil, List.nil_append, List.cons_append, List.length_cons, List.length_nil, Option.toList, true_and, and_true, Nat.reduceAdd, Nat.reduceEqDiff, Nat.reduceLT, Nat.reduceLeDiff, Nat.zero_add, Nat.add_zero, if_true, if_false, ite_true, ite_false, reduceIte, reduceCtorEq, true_or, or_true, not_true_eq_false, not_false_eq_true, false_and, and_false, true_implies, false_implies, not_false_eq_true, bqX7_writeBinary_0, blX7_writeBinary_0, bqX7_writeBinary_12, blX7_writeBinary_12, bqX7_writeBinary_17, blX7_writeBinary_17, bqX7_writeBinary_21, blX7_writeBinary_21, bqX7_writeBinary_27, blX7_writeBinary_27, bqX7_writeBinary_45, blX7_writeBinary_45, bqX7_writeBinary_53, blX7_writeBinary_53, bqX7_writeBinary_59, blX7_writeBinary_59, iInc_m1]
        have hk1 : N 5 k - (i + 1) = N 5 k - 1 - i := by omega
        refine ih _ _ _ _ _ (by omega) (by omega) (fun _ => ?_) hs.put (fun p p1 p2 => ?_) h3
        · rw [show N 5 k - i = N 5 k - 1 - i + 1 by omega, hcx, hk1]; rfl
        · by_cases e : p = i
          · subst e; rw [nU_eq, hcx, hk1]; rfl
          · rw [nU_ne (Or.inr e)]; exact hd p (by omega) p2
  refine hb.run (aCuts [12, 21, 53] J) 60 0 _ _ _ _ _ _ (aCuts_ok _) ?_
  simp only [↓wpi_isub, ↓wpi_lsub, ↓wpi_ineg, ↓wpi_lneg, ↓wpi_irem, ↓wpi_lrem, ↓wpi_iinc, wp1, wp, wpl, wpi, lget, lput1, lput2, ltail, lkill, aV, aVl, aNth, aPut, aFz, aC0, aC2, aSw, aCat1, aCuts, aSet_eq, List.take, List.drop, List.reverse_cons, List.reverse_nil, List.nil_append, List.cons_append, List.length_cons, List.length_nil, Option.toList, true_and, and_true, Nat.reduceAdd, Nat.reduceEqDiff, Nat.reduceLT, Nat.reduceLeDiff, Nat.zero_add, Nat.add_zero, if_true, if_false, ite_true, ite_false, reduceIte, reduceCtorEq, true_or, or_true, not_true_eq_false, not_false_eq_true, false_and, and_false, true_implies, false_implies, not_false_eq_true, bqX7_writeBinary_0, blX7_writeBinary_0, bqX7_writeBinary_12, blX7_writeBinary_12, bqX7_writeBinary_17, blX7_writeBinary_17, bqX7_writeBinary_21, blX7_writeBinary_21, bqX7_writeBinary_27, blX7_writeBinary_27, bqX7_writeBinary_45, blX7_writeBinary_45, bqX7_writeBinary_53, blX7_writeBinary_53, bqX7_writeBinary_59, blX7_writeBinary_59, aArgs, List.replicate, h.num hk, h.byt hk]
  refine loop (N 5 k) 1 _ N _ _ (by omega) (by omega) (fun _ => by rw [Nat.sub_self]; rfl) nSame.rf (fun i i1 i2 => by omega) ?_
  rw [Nat.sub_self, Nat.pow_zero, Nat.div_one, hq, rU_id]; exact h
theorem or128 {x : Nat} (h : x < 128) : nI x ||| nI 128 = nI (x + 128) := by
  have : ∀ x, x < 128 → nI x ||| nI 128 = nI (x + 128) := by decide +kernel
  exact this x h
set_option maxHeartbeats 8000000 in
theorem w_writeFloating (h : cW tA Z ρ sg N O0 A0 O A) (hk : k < N 0 0) {w : Nat} (hw : w < 2 ^ 63) (hw2 : w < 128 * 256 ^ (N 5 k - 1)) (neg : Bool) : aMet l G base tA yX7_writeFloating cX7_writeFloating 8 none rmW [.ref (Z 36), .ref (Z (40 + 2 * k)), .long (lN w), .int (bI neg)] O A (fun r O' A' => r = none ∧ cW tA Z ρ sg (nBy N k (fW (N 5 k) w neg)) O0 A0 O' A') := by
  refine aMet_of (ini := false) (B := aLook bkX7_writeFloating) (by decide) (fun h => by first | rfl | cases h) (Nat.le_of_ble_eq_true rfl) boX7_writeFloating ?_
  intro E J hb
  obtain ⟨s1, s2⟩ := h.szb hk
  have ht : oct w (N 5 k - 1) < 128 := by
    unfold oct
    have : w / 256 ^ (N 5 k - 1) < 128 := by
      rw [Nat.div_lt_iff_lt_mul (Nat.pow_pos (by decide))]; exact hw2
    exact Nat.lt_of_le_of_lt (Nat.mod_le _ _) this
  have loop : ∀ (j : Nat) (N1 : aN) (O1 : aO) (A1 : aA), j ≤ N 5 k → nSame N N1 k → (∀ p, j ≤ p → p < N 5 k → N1 (6 + k) p = oct w (N 5 k - 1 - p)) → cW tA Z ρ sg N1 O0 A0 O1 A1 →
      J 12 [some (.ref (Z 36)), some (.ref (Z (40 + 2 * k))), some (.long (lN w)), none, some (.int (bI neg)), some (.long (lN (w / 256 ^ (N 5 k - j)))), none, some (.int (iSub (nI j) (nI 1)))] [] O1 A1 0 0 := by
    intro j
    induction j with
    | zero =>
      intro N1 O1 A1 hj hs hd h1
      refine hb.run (aCuts [12, 30, 55, 62] J) 60 12 _ _ _ _ _ _ (aCuts_ok _) ?_
      cases neg
      · simp only [↓wpi_isub, ↓wpi_lsub, ↓wpi_ineg, ↓wpi_lneg, ↓wpi_irem, ↓wpi_lrem, ↓wpi_iinc, wp1, wp, wpl, wpi, lget, lput1, lput2, ltail, lkill, aV, aVl, aNth, aPut, aFz, aC0, aC2, aSw, aCat1, aCuts, aSet_eq, List.take, List.drop, List.reverse_cons, List.reverse_nil, List.nil_append, List.cons_append, List.length_cons, List.length_nil, Option.toList, true_and, and_true, Nat.reduceAdd, Nat.reduceEqDiff, Nat.reduceLT, Nat.reduceLeDiff, Nat.zero_add, Nat.add_zero, if_true, if_false, ite_true, ite_false, reduceIte, reduceCtorEq, true_or, or_true, not_true_eq_false, not_false_eq_true, false_and, and_false, true_implies, false_implies, not_false_eq_true, bqX7_writeFloating_0, blX7_writeFloating_0, bqX7_writeFloating_12, blX7_writeFloating_12, bqX7_writeFloating_17, blX7_writeFloating_17, bqX7_writeFloating_30, blX7_writeFloating_30, bqX7_writeFloating_43, blX7_writeFloating_43, bqX7_writeFloating_48, blX7_writeFloating_48, bqX7_writeFloating_55, blX7_writeFloating_55, bqX7_writeFloating_62, blX7_writeFloating_62, iSub_n1, bI_f, n0_0]
        refine hb.run (aCuts [12, 30, 55, 62] J) 60 62 _ _ _ _ _ _ (aCuts_ok _) ?_
        simp only [↓wpi_isub, ↓wpi_lsub, ↓wpi_ineg, ↓wpi_lneg, ↓wpi_irem, ↓wpi_lrem, ↓wpi_iinc, wp1, wp, wpl, wpi, lget, lput1, lput2, ltail, lkill, aV, aVl, aNth, aPut, aFz, aC0, aC2, aSw, aCat1, aCuts, aSet_eq, List.take, List.drop, List.reverse_cons, List.reverse_nil, List.nil_append, List.cons_append, List.length_cons, List.length_nil, Option.toList, true_and, and_true, Nat.reduceAdd, Nat.reduceEqDiff, Nat.reduceLT, Nat.reduceLeDiff, Nat.zero_add, Nat.add_zero, if_true, if_false, ite_true, ite_false, reduceIte, reduceCtorEq, true_or, or_true, not_true_eq_false, not_false_eq_true, false_and, and_false, true_implies, false_implies, not_false_eq_true, bqX7_writeFloating_0, blX7_writeFloating_0, bqX7_writeFloating_12, blX7_writeFloating_12, bqX7_writeFloating_17, blX7_writeFloating_17, bqX7_writeFloating_30, blX7_writeFloating_30, bqX7_writeFloating_43, blX7_writeFloating_43, bqX7_writeFloating_48, blX7_writeFloating_48, bqX7_writeFloating_55, blX7_writeFloating_55, bqX7_writeFloating_62, blX7_writeFloating_62]
        refine hb.vret ⟨rfl, nBy_of h1 hs fun i hi => ?_⟩ (by decide) (by decide)
        rw [hd i (by omega) hi]; unfold fW; rw [if_neg (by simp)]; rfl
      · simp only [↓wpi_isub, ↓wpi_lsub, ↓wpi_ineg, ↓wpi_lneg, ↓wpi_irem, ↓wpi_lrem, ↓wpi_iinc, wp1, wp, wpl, wpi, lget, lput1, lput2, ltail, lkill, aV, aVl, aNth, aPut, aFz, aC0, aC2, aSw, aCat1, aCuts, aSet_eq, List.take, List.drop, List.reverse_cons, List.reverse_nil, List.nil_append, List.cons_append, List.length_cons, List.length_nil, Option.toList, true_and, and_true, Nat.reduceAdd, Nat.reduceEqDiff, Nat.reduceLT, Nat.reduceLeDiff, Nat.zero_add, Nat.add_zero, if_true, if_false, ite_true, ite_false, reduceIte, reduceCtorEq, true_or, or_true, not_true_eq_false, not_false_eq_true, false_and, and_false, true_implies, false_implies, not_false_eq_true, bqX7_writeFloating_0, blX7_writeFloating_0, bqX7_writeFloating_12, blX7_writeFloating_12, bqX7_writeFloating_17, blX7_writeFloating_17, bqX7_writeFloating_30, blX7_writeFloating_30, bqX7_writeFloating_43, blX7_writeFloating_43, bqX7_writeFloating_48, blX7_writeFloating_48, bqX7_writeFloating_55, blX7_writeFloating_55, bqX7_writeFloating_62, blX7_writeFloating_62, iSub_n1, bI_t, n1_0]
        refine ⟨_, _, _, _, hb.callV lvX7_75 (w_getS h1 hs hk (i := 0) (by omega)) rfl (h1.numS hs hk) (by decide) (by decide) (by decide), ?_, fun _ _ _ h => h.elim⟩
        rintro _ O1 A1 ⟨rfl, rfl, rfl⟩
        have e0 : N1 (6 + k) 0 = oct w (N 5 k - 1) := by
          rw [hd 0 (by omega) (by omega)]; rfl
        rw [e0]
        refine hb.run (aCuts [12, 30, 55, 62] J) 60 55 _ _ _ _ _ _ (aCuts_ok _) ?_
        simp only [↓wpi_isub, ↓wpi_lsub, ↓wpi_ineg, ↓wpi_lneg, ↓wpi_irem, ↓wpi_lrem, ↓wpi_iinc, wp1, wp, wpl, wpi, lget, lput1, lput2, ltail, lkill, aV, aVl, aNth, aPut, aFz, aC0, aC2, aSw, aCat1, aCuts, aSet_eq, List.take, List.drop, List.reverse_cons, List.reverse_nil, List.nil_append, List.cons_append, List.length_cons, List.length_nil, Option.toList, true_and, and_true, Nat.reduceAdd, Nat.reduceEqDiff, Nat.reduceLT, Nat.reduceLeDiff, Nat.zero_add, Nat.add_zero, if_true, if_false, ite_true, ite_false, reduceIte, reduceCtorEq, true_or, or_true, not_true_eq_false, not_false_eq_true, false_and, and_false, true_implies, false_implies, not_false_eq_true, bqX7_writeFloating_0, blX7_writeFloating_0, bqX7_writeFloating_12, blX7_writeFloating_12, bqX7_writeFloating_17, blX7_writeFloating_17, bqX7_writeFloating_30, blX7_writeFloating_30, bqX7_writeFloating_43, blX7_writeFloating_43, bqX7_writeFloating_48, blX7_writeFloating_48, bqX7_writeFloating_55, blX7_writeFloating_55, bqX7_writeFloating_62, blX7_writeFloating_62, or128 ht]
        refine ⟨_, _, _, _, hb.callV lvX7_49 (w_putS h1 hs hk (i := 0) (w := oct w (N 5 k - 1) + 128) (by omega) (by omega)) rfl (h1.numS hs hk) (by decide) (by decide) (by decide), ?_, fun _ _ _ h => h.elim⟩
        rintro _ O2 A2 ⟨rfl, h2⟩
        refine hb.run (aCuts [12, 30, 55, 62] J) 60 62 _ _ _ _ _ _ (aCuts_ok _) ?_
        simp only [↓wpi_isub, ↓wpi_lsub, ↓wpi_ineg, ↓wpi_lneg, ↓wpi_irem, ↓wpi_lrem, ↓wpi_iinc, wp1, wp, wpl, wpi, lget, lput1, lput2, ltail, lkill, aV, aVl, aNth, aPut, aFz, aC0, aC2, aSw, aCat1, aCuts, aSet_eq, List.take, List.drop, List.reverse_cons, List.reverse_nil, List.nil_append, List.cons_append, List.length_cons, List.length_nil, Option.toList, true_and, and_true, Nat.reduceAdd, Nat.reduceEqDiff, Nat.reduceLT, Nat.reduceLeDiff, Nat.zero_add, Nat.add_zero, if_true, if_false, ite_true, ite_false, reduceIte, reduceCtorEq, true_or, or_true, not_true_eq_false, not_false_eq_true, false_and, and_false, true_implies, false_implies, not_false_eq_true, bqX7_writeFloating_0, blX7_writeFloating_0, bqX7_writeFloating_12, blX7_writeFloating_12, bqX7_writeFloating_17, blX7_writeFloating_17, bqX7_writeFloating_30, blX7_writeFloating_30, bqX7_writeFloating_43, blX7_writeFloating_43, bqX7_writeFloating_48, blX7_writeFloating_48, bqX7_writeFloating_55, blX7_writeFloating_55, bqX7_writeFloating_62, blX7_writeFloating_62]
        refine hb.vret ⟨rfl, nBy_of h2 hs.put fun i hi => ?_⟩ (by decide) (by decide)
        unfold fW
        by_cases e : i = 0
        · subst e; rw [nU_eq, if_pos ⟨rfl, rfl⟩, Nat.sub_zero, Nat.mod_eq_of_lt (by omega)]
        · rw [nU_ne (Or.inr e), hd i (by omega) hi, if_neg (fun q => e q.2)]; rfl
    | succ i ih =>
      intro N1 O1 A1 hj hs hd h1
      rw [iSub_nn (show 1 ≤ i + 1 by omega), Nat.add_sub_cancel]
      have hl : w / 256 ^ (N 5 k - (i + 1)) < 2 ^ 63 := Nat.lt_of_le_of_lt (Nat.div_le_self _ _) hw
      have e1 : lN (w / 256 ^ (N 5 k - (i + 1))) &&& lN 255 = lN (w / 256 ^ (N 5 k - (i + 1)) % 256) := g_mask (s := 8) (p := 256) rfl (by decide) (by omega)
      have e2 : w / 256 ^ (N 5 k - (i + 1)) % 256 = oct w (N 5 k - 1 - i) := by unfold oct; rw [show N 5 k - (i + 1) = N 5 k - 1 - i by omega]
      have e3 : w / 256 ^ (N 5 k - (i + 1)) / 2 ^ 8 = w / 256 ^ (N 5 k - i) := by
        rw [show (2 : Nat) ^ 8 = 256 from rfl, oct_step, show N 5 k - (i + 1) + 1 = N 5 k - i by omega]
      have hol := oct_lt w (N 5 k - 1 - i)
      refine hb.run (aCuts [12, 30, 55, 62] J) 60 12 _ _ _ _ _ _ (aCuts_ok _) ?_
      simp only [↓wpi_isub, ↓wpi_lsub, ↓wpi_ineg, ↓wpi_lneg, ↓wpi_irem, ↓wpi_lrem, ↓wpi_iinc, wp1, wp, wpl, wpi, lget, lput1, lput2, ltail, lkill, aV, aVl, aNth, aPut, aFz, aC0, aC2, aSw, aCat1, aCuts, aSet_eq, List.take, List.drop, List.reverse_cons, List.reverse_nil, List.nil_append, List.cons_append, List.length_cons, List.length_nil, Option.toList, true_and, and_true, Nat.reduceAdd, Nat.reduceEqDiff, Nat.reduceLT, Nat.reduceLeDiff, Nat.zero_add, Nat.add_zero, if_true, if_false, ite_true, ite_false, reduceIte, reduceCtorEq, true_or, or_true, not_true_eq_false, not_false_eq_true, false_and, and_false, true_implies, false_implies, not_false_eq_true, bqX7_writeFloating_0, blX7_writeFloating_0, bqX7_writeFloating_12, blX7_writeFloating_12, bqX7_writeFloating_17, blX7_writeFloating_17, bqX7_writeFloating_30, blX7_writeFloating_30, bqX7_writeFloating_43, blX7_writeFloating_43, bqX7_writeFloating_48, blX7_writeFloating_48, bqX7_writeFloating_55, blX7_writeFloating_55, bqX7_writeFloating_62, blX7_writeFloating_62, nI_lt0 (show i < 2 ^ 31 by omega), e1, lN_i, e2]
      refine ⟨_, _, _, _, hb.callV lvX7_49 (w_putS h1 hs hk (i := i) (w := oct w (N 5 k - 1 - i)) (by omega) (by omega)) rfl (h1.numS hs hk) (by decide) (by decide) (by decide), ?_, fun _ _ _ h => h.elim⟩
      rintro _ O3 A3 ⟨rfl, h3⟩
      rw [Nat.mod_eq_of_lt hol] at h3
      refine hb.run (aCuts [12, 30, 55, 62] J) 60 30 _ _ _ _ _ _ (aCuts_ok _) ?_
      simp only [↓wpi_isub, ↓wpi_lsub, ↓wpi_ineg, ↓wpi_lneg, ↓wpi_irem, ↓wpi_lrem, ↓wpi_iinc, wp1, wp, wpl, wpi, lget, lput1, lput2, ltail, lkill, aV, aVl, aNth, aPut, aFz, aC0, aC2, aSw, aCat1, aCuts, aSet_eq, List.take, List.drop, List.reverse_cons, List.reverse_nil, List.nil_append, List.cons_append, List.length_cons, List.length_nil, Option.toList, true_and, and_true, Nat.reduceAdd, Nat.reduceEqDiff, Nat.reduceLT, Nat.reduceLeDiff, Nat.zero_add, Nat.add_zero, if_true, if_false, ite_true, ite_false, reduceIte, reduceCtorEq, true_or, or_true, not_true_eq_false, not_false_eq_true, false_and, and_false, true_implies, false_implies, not_false_eq_true, bqX7_writeFloating_0, blX7_writeFloating_0, bqX7_writeFloating_12, blX7_writeFloating_12, bqX7_writeFloating_17, blX7_writeFloating_17, bqX7_writeFloating_30, blX7_writeFloating_30, bqX7_writeFloating_43, blX7_writeFloating_43, bqX7_writeFloating_48, blX7_writeFloating_48, bqX7_writeFloating_55, blX7_writeFloating_55, bqX7_writeFloating_62, blX7_writeFloating_62, lN_sar3 hl (show 8 < 64 by decide), iInc_m1, e3]
      refine ih _ _ _ (by omega) hs.put (fun p p1 p2 => ?_) h3
      by_cases e : p = i
      · subst e; rw [nU_eq]
      · rw [nU_ne (Or.inr e)]; exact hd p (by omega) p2
  refine hb.run (aCuts [12, 30, 55, 62] J) 60 0 _ _ _ _ _ _ (aCuts_ok _) ?_
  simp only [↓wpi_isub, ↓wpi_lsub, ↓wpi_ineg, ↓wpi_lneg, ↓wpi_irem, ↓wpi_lrem, ↓wpi_iinc, wp1, wp, wpl, wpi, lget, lput1, lput2, ltail, lkill, aV, aVl, aNth, aPut, aFz, aC0, aC2, aSw, aCat1, aCuts, aSet_eq, List.take, List.drop, List.reverse_cons, List.reverse_nil, List.nil_append, List.cons_append, List.length_cons, List.length_nil, Option.toList, true_and, and_true, Nat.reduceAdd, Nat.reduceEqDiff, Nat.reduceLT, Nat.reduceLeDiff, Nat.zero_add, Nat.add_zero, if_true, if_false, ite_true, ite_false, reduceIte, reduceCtorEq, true_or, or_true, not_true_eq_false, not_false_eq_true, false_and, and_false, true_implies, false_implies, not_false_eq_true, bqX7_writeFloating_0, blX7_writeFloating_0, bqX7_writeFloating_12, blX7_writeFloating_12, bqX7_writeFloating_17, blX7_writeFloating_17, bqX7_writeFloating_30, blX7_writeFloating_30, bqX7_writeFloating_43, blX7_writeFloating_43, bqX7_writeFloating_48, blX7_writeFloating_48, bqX7_writeFloating_55, blX7_writeFloating_55, bqX7_writeFloating_62, blX7_writeFloating_62, aArgs, List.replicate, h.num hk, h.byt hk]
  have := loop (N 5 k) N _ _ (by omega) nSame.rf (fun i i1 i2 => by omega) h
  rw [Nat.sub_self, Nat.pow_zero, Nat.div_one] at this
  exact this
end WRP
