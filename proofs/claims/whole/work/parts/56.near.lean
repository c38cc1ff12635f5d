/-! ===== Storage: the nearest floating number ===== -/
def nE (p x y : Nat) : Int := (blen x : Int) - blen y - (p + 1 : Nat)
def nA (p x y : Nat) : Nat := x * 2 ^ (-nE p x y).toNat
def nD (p x y : Nat) : Nat := y * 2 ^ (nE p x y).toNat
def nQ (p x y : Nat) : Nat := nA p x y / nD p x y
def nR (p x y : Nat) : Nat := nA p x y % nD p x y
def nX (p x y : Nat) : Nat := blen (nQ p x y) - p
/-- W without its lowest e bits, to the nearest, R being what is left -/
def nK (w r e : Nat) : Nat := if 2 ^ (e - 1) < w % 2 ^ e ∨ (w % 2 ^ e = 2 ^ (e - 1) ∧ (r ≠ 0 ∨ w / 2 ^ e % 2 = 1)) then w / 2 ^ e + 1 else w / 2 ^ e
def nXa (w r e : Nat) : Bool := decide (w % 2 ^ e = 0 ∧ r = 0)
def nB (u x y : Nat) : Int := (nE (fPrec u) x y + nX (fPrec u) x y + fPrec u - 1 + fBias u) * 2 ^ (fPrec u - 1) + nK (nQ (fPrec u) x y) (nR (fPrec u) x y) (nX (fPrec u) x y) - 2 ^ (fPrec u - 1)
def nRes (u x y : Nat) : Option (Nat × Bool) := if x = 0 then some (0, true) else if (fEnd u : Int) ≤ nB u x y then none else if nB u x y < (fLeast u : Int) then some (0, false) else some ((nB u x y).toNat, nXa (nQ (fPrec u) x y) (nR (fPrec u) x y) (nX (fPrec u) x y))
theorem p2m (a b : Nat) : 2 ^ a * 2 ^ b = 2 ^ (a + b) := (Nat.pow_add 2 a b).symm
theorem p2le {a b : Nat} (h : a ≤ b) : 2 ^ a ≤ 2 ^ b := Nat.pow_le_pow_right (by decide) h
/-- the quotient has one or two bits more than p -/
theorem nQ_bits {p x y : Nat} (hx : x ≠ 0) (hy : y ≠ 0) : 2 ^ p ≤ nQ p x y ∧ nQ p x y < 2 ^ (p + 2) ∧ (∀ B, blen x ≤ B → blen y + p + 1 ≤ B → nA p x y < 2 ^ B) ∧ (∀ B, blen x ≤ B → blen y + p + 1 ≤ B → nD p x y < 2 ^ B) ∧ 0 < nD p x y := by
  obtain ⟨x1, x2, x3⟩ := blen_pos hx
  obtain ⟨y1, y2, y3⟩ := blen_pos hy
  obtain ⟨bx, hbx⟩ : ∃ bx, bx = blen x := ⟨_, rfl⟩
  obtain ⟨b, hbb⟩ : ∃ b, b = blen y := ⟨_, rfl⟩
  have hE : nE p x y = (bx : Int) - b - (p + 1 : Nat) := by unfold nE; rw [hbx, hbb]
  rw [← hbx] at x1 x2 x3 ⊢
  rw [← hbb] at y1 y2 y3 ⊢
  have hD0 : 0 < nD p x y := Nat.mul_pos (by omega) (Nat.two_pow_pos _)
  unfold nQ
  rw [Nat.le_div_iff_mul_le hD0, Nat.div_lt_iff_lt_mul hD0]
  unfold nA nD at *
  rw [hE] at hD0 ⊢
  by_cases hs : b + p + 1 ≤ bx
  · obtain ⟨m, hm⟩ : ∃ m, bx = b + p + 1 + m := ⟨bx - (b + p + 1), by omega⟩
    have e1 : (-((bx : Int) - b - (p + 1 : Nat))).toNat = 0 := by omega
    have e2 : ((bx : Int) - b - (p + 1 : Nat)).toNat = m := by omega
    rw [e1, e2, Nat.pow_zero, Nat.mul_one]
    have a1 : y * 2 ^ m < 2 ^ b * 2 ^ m := Nat.mul_lt_mul_of_pos_right y2 (Nat.two_pow_pos _)
    have a2 : 2 ^ (b - 1) * 2 ^ m ≤ y * 2 ^ m := Nat.mul_le_mul_right _ y1
    rw [p2m] at a1 a2
    refine ⟨?_, ?_, ?_, ?_, Nat.mul_pos (by omega) (Nat.two_pow_pos _)⟩
    · have := Nat.mul_le_mul_left (2 ^ p) (Nat.le_of_lt a1)
      rw [p2m] at this
      exact Nat.le_trans this (Nat.le_trans (p2le (by omega)) x1)
    · have := Nat.mul_le_mul_left (2 ^ (p + 2)) a2
      rw [p2m] at this
      exact Nat.lt_of_lt_of_le x2 (Nat.le_trans (p2le (by omega)) this)
    · intro B h1 h2; exact Nat.lt_of_lt_of_le x2 (p2le (by omega))
    · intro B h1 h2; exact Nat.lt_of_lt_of_le a1 (p2le (by omega))
  · obtain ⟨m, hm⟩ : ∃ m, bx + m = b + p + 1 := ⟨b + p + 1 - bx, by omega⟩
    have e1 : (-((bx : Int) - b - (p + 1 : Nat))).toNat = m := by omega
    have e2 : ((bx : Int) - b - (p + 1 : Nat)).toNat = 0 := by omega
    rw [e1, e2, Nat.pow_zero, Nat.mul_one]
    have a1 : x * 2 ^ m < 2 ^ bx * 2 ^ m := Nat.mul_lt_mul_of_pos_right x2 (Nat.two_pow_pos _)
    have a2 : 2 ^ (bx - 1) * 2 ^ m ≤ x * 2 ^ m := Nat.mul_le_mul_right _ x1
    rw [p2m] at a1 a2
    refine ⟨?_, ?_, ?_, ?_, by omega⟩
    · have := Nat.mul_le_mul_left (2 ^ p) (Nat.le_of_lt y2)
      rw [p2m] at this
      exact Nat.le_trans this (Nat.le_trans (p2le (by omega)) a2)
    · have := Nat.mul_le_mul_left (2 ^ (p + 2)) y1
      rw [p2m] at this
      exact Nat.lt_of_lt_of_le a1 (Nat.le_trans (p2le (by omega)) this)
    · intro B h1 h2; exact Nat.lt_of_lt_of_le a1 (p2le (by omega))
    · intro B h1 h2; exact Nat.lt_of_lt_of_le y2 (p2le (by omega))
theorem nX_12 {p x y : Nat} (hx : x ≠ 0) (hy : y ≠ 0) : blen (nQ p x y) = p + nX p x y ∧ (nX p x y = 1 ∨ nX p x y = 2) := by
  obtain ⟨h1, h2, -⟩ := nQ_bits (p := p) hx hy
  have : blen (nQ p x y) = p + 1 ∨ blen (nQ p x y) = p + 2 := by
    rcases Nat.lt_or_ge (nQ p x y) (2 ^ (p + 1)) with q | q
    · left; exact blen_of h1 q
    · right; exact blen_of q h2
  unfold nX
  omega
theorem nK_le {w r e p : Nat} (hw : w < 2 ^ (p + e)) : nK w r e ≤ 2 ^ p := by
  have : w / 2 ^ e < 2 ^ p := by
    rw [Nat.div_lt_iff_lt_mul (Nat.two_pow_pos _), p2m]; exact hw
  unfold nK; split <;> omega
theorem lkX6_max : Cond.methodLink RX6 170 Lib.Math.max.name ∈ aT := lsX6_170.1
theorem lZ_shl (z : Int) {k : Nat} (hk : k < 64) : lZ z <<< ((nI k).toInt64 &&& 63) = lZ (z * 2 ^ k) := by
  have e : lZ (z * 2 ^ k) = lZ z * lN (2 ^ k) := by rw [← lZ_mul, lN_Z]; congr 2
  obtain ⟨n, hn, hz⟩ := wb_of (lZ z)
  rw [e, hz, wb_shl n hk, lN_mul]
theorem iZ_add (a b : Int) : iZ a + iZ b = iZ (a + b) := (Int32.ofInt_add a b).symm
theorem iZ_l {z : Int} (h1 : -2 ^ 31 ≤ z) (h2 : z < 2 ^ 31) : (iZ z).toInt64 = lZ z := by
  apply Int64.toInt_inj.mp
  rw [Int32.toInt_toInt64, iZ_toInt h1 h2, lZ_toInt (by omega) (by omega)]
section NEAR
variable {l : Launch} {G : aG} {base tA : Nat} {Z ρ : Nat → Nat} {sg : Nat → Bool} {N : aN} {O0 O : aO} {A0 A : aA} {k f : Nat}
theorem blen_le400 {x : Nat} (h : x < 2 ^ 400) : blen x ≤ 400 := blen_lt h
set_option maxHeartbeats 8000000 in
theorem w_scaleTo (h : cW tA Z ρ sg N O0 A0 O A) (hf : f < 3) {p : Nat} (hp : p ≤ 53) (hx : ρ (2 * f) ≠ 0) (hy : ρ (2 * f + 1) ≠ 0) (hBx : ρ (2 * f) < 2 ^ 400) (hBy : ρ (2 * f + 1) < 2 ^ 400) : aMet l G base tA yX6_scaleTo cX6_scaleTo 4 (some .int) rmY [.ref (Z 35), .int (nI (p + 1)), .ref (Z (30 + f))] O A (fun r O' A' => r = some (.int (iZ (nE p (ρ (2 * f)) (ρ (2 * f + 1))))) ∧ ∃ ρ', cW tA Z ρ' sg N O0 A0 O' A' ∧ ρ' 11 = nQ p (ρ (2 * f)) (ρ (2 * f + 1)) ∧ ρ' 12 = nR p (ρ (2 * f)) (ρ (2 * f + 1)) ∧ ∀ i, i < 11 → ρ' i = ρ i) := by
  refine aMet_of2 (ini := false) (B := aLook bkX6_scaleTo) (by decide) (fun h => by first | rfl | cases h) (Nat.le_of_ble_eq_true rfl) boX6_scaleTo ?_
  intro E J hb
  obtain ⟨x, ex⟩ : ∃ x, x = ρ (2 * f) := ⟨_, rfl⟩
  obtain ⟨y, ey⟩ : ∃ y, y = ρ (2 * f + 1) := ⟨_, rfl⟩
  rw [← ex, ← ey] at hb
  rw [← ex] at hx hBx
  rw [← ey] at hy hBy
  obtain ⟨q1, q2, q3, q4, q5⟩ := nQ_bits (p := p) hx hy
  have lx : blen x ≤ 400 := blen_lt hBx
  have ly : blen y ≤ 400 := blen_lt hBy
  have q3 := q3 500 (by omega) (by omega)
  have q4 := q4 500 (by omega) (by omega)
  have a19 := B18
  have b19 : 2147483648 ^ 18 < 2147483648 ^ 19 := by decide +kernel
  have hEr : nE p x y = (blen x : Int) - blen y - (p + 1 : Nat) := rfl
  obtain ⟨e0, he0⟩ : ∃ e0, e0 = nE p x y := ⟨_, rfl⟩
  have hA : nA p x y = x * 2 ^ (-e0).toNat := by rw [he0]; rfl
  have hD : nD p x y = y * 2 ^ e0.toNat := by rw [he0]; rfl
  rw [← he0] at hb hEr
  refine hb.1.run (aCuts [11, 22, 29, 36, 50, 53, 62, 65, 84] J) 60 0 _ _ _ _ _ _ (aCuts_ok _) ?_
  simp only [↓wpi_isub, ↓wpi_lsub, ↓wpi_ineg, ↓wpi_lneg, ↓wpi_irem, ↓wpi_lrem, ↓wpi_iinc, wp1, wp, wpl, wpi, lget, lput1, lput2, ltail, lkill, aV, aVl, aNth, aPut, aFz, aC0, aC2, aSw, aCat1, aCuts, aSet_eq, List.take, List.drop, List.reverse_cons, List.reverse_nil, List.nil_append, List.cons_append, List.length_cons, List.length_nil, Option.toList, true_and, and_true, Nat.reduceAdd, Nat.reduceEqDiff, Nat.reduceLT, Nat.reduceLeDiff, Nat.zero_add, Nat.add_zero, if_true, if_false, ite_true, ite_false, reduceIte, reduceCtorEq, true_or, or_true, not_true_eq_false, not_false_eq_true, false_and, and_false, true_implies, false_implies, not_false_eq_true, bqX6_scaleTo_0, blX6_scaleTo_0, bqX6_scaleTo_11, blX6_scaleTo_11, bqX6_scaleTo_22, blX6_scaleTo_22, bqX6_scaleTo_29, blX6_scaleTo_29, bqX6_scaleTo_36, blX6_scaleTo_36, bqX6_scaleTo_50, blX6_scaleTo_50, bqX6_scaleTo_53, blX6_scaleTo_53, bqX6_scaleTo_62, blX6_scaleTo_62, bqX6_scaleTo_65, blX6_scaleTo_65, bqX6_scaleTo_84, blX6_scaleTo_84, aArgs, List.replicate, h.sto, h.frac hf]
  refine ⟨_, _, _, _, hb.1.callW lvX6_112 (w_copy h (i := 12) (j := 2 * f) (by decide) (by omega) (by omega)) rfl (h.rO (by decide)) (by decide) (by decide) (by decide), ?_, fun _ _ _ h => h.elim⟩
  rintro _ O1 A1 ⟨rfl, h1⟩
  rw [← ex] at h1
  refine hb.1.run (aCuts [11, 22, 29, 36, 50, 53, 62, 65, 84] J) 60 11 _ _ _ _ _ _ (aCuts_ok _) ?_
  simp only [↓wpi_isub, ↓wpi_lsub, ↓wpi_ineg, ↓wpi_lneg, ↓wpi_irem, ↓wpi_lrem, ↓wpi_iinc, wp1, wp, wpl, wpi, lget, lput1, lput2, ltail, lkill, aV, aVl, aNth, aPut, aFz, aC0, aC2, aSw, aCat1, aCuts, aSet_eq, List.take, List.drop, List.reverse_cons, List.reverse_nil, List.nil_append, List.cons_append, List.length_cons, List.length_nil, Option.toList, true_and, and_true, Nat.reduceAdd, Nat.reduceEqDiff, Nat.reduceLT, Nat.reduceLeDiff, Nat.zero_add, Nat.add_zero, if_true, if_false, ite_true, ite_false, reduceIte, reduceCtorEq, true_or, or_true, not_true_eq_false, not_false_eq_true, false_and, and_false, true_implies, false_implies, not_false_eq_true, bqX6_scaleTo_0, blX6_scaleTo_0, bqX6_scaleTo_11, blX6_scaleTo_11, bqX6_scaleTo_22, blX6_scaleTo_22, bqX6_scaleTo_29, blX6_scaleTo_29, bqX6_scaleTo_36, blX6_scaleTo_36, bqX6_scaleTo_50, blX6_scaleTo_50, bqX6_scaleTo_53, blX6_scaleTo_53, bqX6_scaleTo_62, blX6_scaleTo_62, bqX6_scaleTo_65, blX6_scaleTo_65, bqX6_scaleTo_84, blX6_scaleTo_84, h1.sto, h1.frac hf]
  refine ⟨_, _, _, _, hb.1.callW lvX6_112 (w_copy h1 (i := 13) (j := 2 * f + 1) (by decide) (by omega) (by omega)) rfl (h1.rO (by decide)) (by decide) (by decide) (by decide), ?_, fun _ _ _ h => h.elim⟩
  rintro _ O2 A2 ⟨rfl, h2⟩
  rw [rU_ne (show 2 * f + 1 ≠ 12 by omega), ← ey] at h2
  refine hb.1.run (aCuts [11, 22, 29, 36, 50, 53, 62, 65, 84] J) 60 22 _ _ _ _ _ _ (aCuts_ok _) ?_
  simp only [↓wpi_isub, ↓wpi_lsub, ↓wpi_ineg, ↓wpi_lneg, ↓wpi_irem, ↓wpi_lrem, ↓wpi_iinc, wp1, wp, wpl, wpi, lget, lput1, lput2, ltail, lkill, aV, aVl, aNth, aPut, aFz, aC0, aC2, aSw, aCat1, aCuts, aSet_eq, List.take, List.drop, List.reverse_cons, List.reverse_nil, List.nil_append, List.cons_append, List.length_cons, List.length_nil, Option.toList, true_and, and_true, Nat.reduceAdd, Nat.reduceEqDiff, Nat.reduceLT, Nat.reduceLeDiff, Nat.zero_add, Nat.add_zero, if_true, if_false, ite_true, ite_false, reduceIte, reduceCtorEq, true_or, or_true, not_true_eq_false, not_false_eq_true, false_and, and_false, true_implies, false_implies, not_false_eq_true, bqX6_scaleTo_0, blX6_scaleTo_0, bqX6_scaleTo_11, blX6_scaleTo_11, bqX6_scaleTo_22, blX6_scaleTo_22, bqX6_scaleTo_29, blX6_scaleTo_29, bqX6_scaleTo_36, blX6_scaleTo_36, bqX6_scaleTo_50, blX6_scaleTo_50, bqX6_scaleTo_53, blX6_scaleTo_53, bqX6_scaleTo_62, blX6_scaleTo_62, bqX6_scaleTo_65, blX6_scaleTo_65, bqX6_scaleTo_84, blX6_scaleTo_84, h2.sto]
  refine ⟨_, _, _, _, hb.1.callW lvX6_152 (w_bitLength h2 (i := 12) (by decide)) rfl (h2.rO (by decide)) (by decide) (by decide) (by decide), ?_, fun _ _ _ h => h.elim⟩
  rintro _ O2 A2 ⟨rfl, rfl, rfl⟩
  rw [rU_ne (by decide), rU_eq]
  refine hb.1.run (aCuts [11, 22, 29, 36, 50, 53, 62, 65, 84] J) 60 29 _ _ _ _ _ _ (aCuts_ok _) ?_
  simp only [↓wpi_isub, ↓wpi_lsub, ↓wpi_ineg, ↓wpi_lneg, ↓wpi_irem, ↓wpi_lrem, ↓wpi_iinc, wp1, wp, wpl, wpi, lget, lput1, lput2, ltail, lkill, aV, aVl, aNth, aPut, aFz, aC0, aC2, aSw, aCat1, aCuts, aSet_eq, List.take, List.drop, List.reverse_cons, List.reverse_nil, List.nil_append, List.cons_append, List.length_cons, List.length_nil, Option.toList, true_and, and_true, Nat.reduceAdd, Nat.reduceEqDiff, Nat.reduceLT, Nat.reduceLeDiff, Nat.zero_add, Nat.add_zero, if_true, if_false, ite_true, ite_false, reduceIte, reduceCtorEq, true_or, or_true, not_true_eq_false, not_false_eq_true, false_and, and_false, true_implies, false_implies, not_false_eq_true, bqX6_scaleTo_0, blX6_scaleTo_0, bqX6_scaleTo_11, blX6_scaleTo_11, bqX6_scaleTo_22, blX6_scaleTo_22, bqX6_scaleTo_29, blX6_scaleTo_29, bqX6_scaleTo_36, blX6_scaleTo_36, bqX6_scaleTo_50, blX6_scaleTo_50, bqX6_scaleTo_53, blX6_scaleTo_53, bqX6_scaleTo_62, blX6_scaleTo_62, bqX6_scaleTo_65, blX6_scaleTo_65, bqX6_scaleTo_84, blX6_scaleTo_84, h2.sto]
  refine ⟨_, _, _, _, hb.1.callW lvX6_152 (w_bitLength h2 (i := 13) (by decide)) rfl (h2.rO (by decide)) (by decide) (by decide) (by decide), ?_, fun _ _ _ h => h.elim⟩
  rintro _ O2 A2 ⟨rfl, rfl, rfl⟩
  rw [rU_eq]
  show J 36 _ [.int (nI (blen y)), .int (nI (blen x))] _ _ 0 0
  have e3 : iSub (iSub (nI (blen x)) (nI (blen y))) (nI (p + 1)) = iZ e0 := by
    rw [iZ_n (blen x), iZ_n (blen y), iZ_n (p + 1), iSub_Z, iSub_Z, ← hEr]
  refine hb.1.run (aCuts [11, 22, 29, 36, 50, 53, 62, 65, 84] J) 60 36 _ _ _ _ _ _ (aCuts_ok _) ?_
  simp only [↓wpi_isub, ↓wpi_lsub, ↓wpi_ineg, ↓wpi_lneg, ↓wpi_irem, ↓wpi_lrem, ↓wpi_iinc, wp1, wp, wpl, wpi, lget, lput1, lput2, ltail, lkill, aV, aVl, aNth, aPut, aFz, aC0, aC2, aSw, aCat1, aCuts, aSet_eq, List.take, List.drop, List.reverse_cons, List.reverse_nil, List.nil_append, List.cons_append, List.length_cons, List.length_nil, Option.toList, true_and, and_true, Nat.reduceAdd, Nat.reduceEqDiff, Nat.reduceLT, Nat.reduceLeDiff, Nat.zero_add, Nat.add_zero, if_true, if_false, ite_true, ite_false, reduceIte, reduceCtorEq, true_or, or_true, not_true_eq_false, not_false_eq_true, false_and, and_false, true_implies, false_implies, not_false_eq_true, bqX6_scaleTo_0, blX6_scaleTo_0, bqX6_scaleTo_11, blX6_scaleTo_11, bqX6_scaleTo_22, blX6_scaleTo_22, bqX6_scaleTo_29, blX6_scaleTo_29, bqX6_scaleTo_36, blX6_scaleTo_36, bqX6_scaleTo_50, blX6_scaleTo_50, bqX6_scaleTo_53, blX6_scaleTo_53, bqX6_scaleTo_62, blX6_scaleTo_62, bqX6_scaleTo_65, blX6_scaleTo_65, bqX6_scaleTo_84, blX6_scaleTo_84, e3, h2.sto, iNeg_Z]
  refine ⟨_, _, _, _, hb.2.1 lkX6_max (by decide) (by decide) (by decide) (by decide), ?_, fun _ _ _ h => h.elim⟩
  rintro _ O2 A2 ⟨rfl, rfl, rfl⟩
  rw [iZ_max (by omega) (by omega)]
  refine hb.1.run (aCuts [11, 22, 29, 36, 50, 53, 62, 65, 84] J) 60 50 _ _ _ _ _ _ (aCuts_ok _) ?_
  simp only [↓wpi_isub, ↓wpi_lsub, ↓wpi_ineg, ↓wpi_lneg, ↓wpi_irem, ↓wpi_lrem, ↓wpi_iinc, wp1, wp, wpl, wpi, lget, lput1, lput2, ltail, lkill, aV, aVl, aNth, aPut, aFz, aC0, aC2, aSw, aCat1, aCuts, aSet_eq, List.take, List.drop, List.reverse_cons, List.reverse_nil, List.nil_append, List.cons_append, List.length_cons, List.length_nil, Option.toList, true_and, and_true, Nat.reduceAdd, Nat.reduceEqDiff, Nat.reduceLT, Nat.reduceLeDiff, Nat.zero_add, Nat.add_zero, if_true, if_false, ite_true, ite_false, reduceIte, reduceCtorEq, true_or, or_true, not_true_eq_false, not_false_eq_true, false_and, and_false, true_implies, false_implies, not_false_eq_true, bqX6_scaleTo_0, blX6_scaleTo_0, bqX6_scaleTo_11, blX6_scaleTo_11, bqX6_scaleTo_22, blX6_scaleTo_22, bqX6_scaleTo_29, blX6_scaleTo_29, bqX6_scaleTo_36, blX6_scaleTo_36, bqX6_scaleTo_50, blX6_scaleTo_50, bqX6_scaleTo_53, blX6_scaleTo_53, bqX6_scaleTo_62, blX6_scaleTo_62, bqX6_scaleTo_65, blX6_scaleTo_65, bqX6_scaleTo_84, blX6_scaleTo_84]
  refine ⟨_, _, _, _, hb.1.callW lvX6_124 (w_shiftLeft h2 (i := 12) (n := (-e0).toNat) (by decide) (by omega) (by rw [rU_ne (by decide), rU_eq, ← hA]; omega)) rfl (h2.rO (by decide)) (by decide) (by decide) (by decide), ?_, fun _ _ _ h => h.elim⟩
  rintro _ O3 A3 ⟨rfl, h3⟩
  rw [rU_ne (show (12 : Nat) ≠ 13 by decide), rU_eq, ← hA] at h3
  refine hb.1.run (aCuts [11, 22, 29, 36, 50, 53, 62, 65, 84] J) 60 53 _ _ _ _ _ _ (aCuts_ok _) ?_
  simp only [↓wpi_isub, ↓wpi_lsub, ↓wpi_ineg, ↓wpi_lneg, ↓wpi_irem, ↓wpi_lrem, ↓wpi_iinc, wp1, wp, wpl, wpi, lget, lput1, lput2, ltail, lkill, aV, aVl, aNth, aPut, aFz, aC0, aC2, aSw, aCat1, aCuts, aSet_eq, List.take, List.drop, List.reverse_cons, List.reverse_nil, List.nil_append, List.cons_append, List.length_cons, List.length_nil, Option.toList, true_and, and_true, Nat.reduceAdd, Nat.reduceEqDiff, Nat.reduceLT, Nat.reduceLeDiff, Nat.zero_add, Nat.add_zero, if_true, if_false, ite_true, ite_false, reduceIte, reduceCtorEq, true_or, or_true, not_true_eq_false, not_false_eq_true, false_and, and_false, true_implies, false_implies, not_false_eq_true, bqX6_scaleTo_0, blX6_scaleTo_0, bqX6_scaleTo_11, blX6_scaleTo_11, bqX6_scaleTo_22, blX6_scaleTo_22, bqX6_scaleTo_29, blX6_scaleTo_29, bqX6_scaleTo_36, blX6_scaleTo_36, bqX6_scaleTo_50, blX6_scaleTo_50, bqX6_scaleTo_53, blX6_scaleTo_53, bqX6_scaleTo_62, blX6_scaleTo_62, bqX6_scaleTo_65, blX6_scaleTo_65, bqX6_scaleTo_84, blX6_scaleTo_84, h3.sto]
  refine ⟨_, _, _, _, hb.2.1 lkX6_max (by decide) (by decide) (by decide) (by decide), ?_, fun _ _ _ h => h.elim⟩
  rintro _ O3 A3 ⟨rfl, rfl, rfl⟩
  rw [iZ_max (by omega) (by omega)]
  refine hb.1.run (aCuts [11, 22, 29, 36, 50, 53, 62, 65, 84] J) 60 62 _ _ _ _ _ _ (aCuts_ok _) ?_
  simp only [↓wpi_isub, ↓wpi_lsub, ↓wpi_ineg, ↓wpi_lneg, ↓wpi_irem, ↓wpi_lrem, ↓wpi_iinc, wp1, wp, wpl, wpi, lget, lput1, lput2, ltail, lkill, aV, aVl, aNth, aPut, aFz, aC0, aC2, aSw, aCat1, aCuts, aSet_eq, List.take, List.drop, List.reverse_cons, List.reverse_nil, List.nil_append, List.cons_append, List.length_cons, List.length_nil, Option.toList, true_and, and_true, Nat.reduceAdd, Nat.reduceEqDiff, Nat.reduceLT, Nat.reduceLeDiff, Nat.zero_add, Nat.add_zero, if_true, if_false, ite_true, ite_false, reduceIte, reduceCtorEq, true_or, or_true, not_true_eq_false, not_false_eq_true, false_and, and_false, true_implies, false_implies, not_false_eq_true, bqX6_scaleTo_0, blX6_scaleTo_0, bqX6_scaleTo_11, blX6_scaleTo_11, bqX6_scaleTo_22, blX6_scaleTo_22, bqX6_scaleTo_29, blX6_scaleTo_29, bqX6_scaleTo_36, blX6_scaleTo_36, bqX6_scaleTo_50, blX6_scaleTo_50, bqX6_scaleTo_53, blX6_scaleTo_53, bqX6_scaleTo_62, blX6_scaleTo_62, bqX6_scaleTo_65, blX6_scaleTo_65, bqX6_scaleTo_84, blX6_scaleTo_84]
  refine ⟨_, _, _, _, hb.1.callW lvX6_124 (w_shiftLeft h3 (i := 13) (n := e0.toNat) (by decide) (by omega) (by rw [rU_ne (by decide), rU_eq, ← hD]; omega)) rfl (h3.rO (by decide)) (by decide) (by decide) (by decide), ?_, fun _ _ _ h => h.elim⟩
  rintro _ O4 A4 ⟨rfl, h4⟩
  rw [rU_ne (show (13 : Nat) ≠ 12 by decide), rU_eq, ← hD] at h4
  obtain ⟨ρ4, hρ4⟩ : ∃ ρ4, ρ4 = rU (rU (rU (rU ρ 12 x) 13 y) 12 (nA p x y)) 13 (nD p x y) := ⟨_, rfl⟩
  rw [← hρ4] at h4
  have r12 : ρ4 12 = nA p x y := by rw [hρ4, rU_ne (by decide), rU_eq]
  have r13 : ρ4 13 = nD p x y := by rw [hρ4, rU_eq]
  have rk : ∀ i, i < 11 → ρ4 i = ρ i := fun i hi => by rw [hρ4, rU_ne (by omega), rU_ne (by omega), rU_ne (by omega), rU_ne (by omega)]
  refine hb.1.run (aCuts [11, 22, 29, 36, 50, 53, 62, 65, 84] J) 60 65 _ _ _ _ _ _ (aCuts_ok _) ?_
  simp only [↓wpi_isub, ↓wpi_lsub, ↓wpi_ineg, ↓wpi_lneg, ↓wpi_irem, ↓wpi_lrem, ↓wpi_iinc, wp1, wp, wpl, wpi, lget, lput1, lput2, ltail, lkill, aV, aVl, aNth, aPut, aFz, aC0, aC2, aSw, aCat1, aCuts, aSet_eq, List.take, List.drop, List.reverse_cons, List.reverse_nil, List.nil_append, List.cons_append, List.length_cons, List.length_nil, Option.toList, true_and, and_true, Nat.reduceAdd, Nat.reduceEqDiff, Nat.reduceLT, Nat.reduceLeDiff, Nat.zero_add, Nat.add_zero, if_true, if_false, ite_true, ite_false, reduceIte, reduceCtorEq, true_or, or_true, not_true_eq_false, not_false_eq_true, false_and, and_false, true_implies, false_implies, not_false_eq_true, bqX6_scaleTo_0, blX6_scaleTo_0, bqX6_scaleTo_11, blX6_scaleTo_11, bqX6_scaleTo_22, blX6_scaleTo_22, bqX6_scaleTo_29, blX6_scaleTo_29, bqX6_scaleTo_36, blX6_scaleTo_36, bqX6_scaleTo_50, blX6_scaleTo_50, bqX6_scaleTo_53, blX6_scaleTo_53, bqX6_scaleTo_62, blX6_scaleTo_62, bqX6_scaleTo_65, blX6_scaleTo_65, bqX6_scaleTo_84, blX6_scaleTo_84, h4.sto]
  refine ⟨_, _, _, _, hb.1.callW lvX6_120 (w_divide h4 (i := 12) (j := 13) (c := 11) (e := 14) (by decide) (by decide) (by decide) (by decide) (by decide) (by decide) (by decide) (by decide) (by decide) (by decide) (by rw [r13]; exact q5) (by rw [r12]; omega)) rfl (h4.rO (by decide)) (by decide) (by decide) (by decide), ?_, fun _ _ _ h => h.elim⟩
  rintro _ O5 A5 ⟨rfl, s, h5⟩
  rw [r12, r13] at h5
  refine hb.1.run (aCuts [11, 22, 29, 36, 50, 53, 62, 65, 84] J) 60 84 _ _ _ _ _ _ (aCuts_ok _) ?_
  simp only [↓wpi_isub, ↓wpi_lsub, ↓wpi_ineg, ↓wpi_lneg, ↓wpi_irem, ↓wpi_lrem, ↓wpi_iinc, wp1, wp, wpl, wpi, lget, lput1, lput2, ltail, lkill, aV, aVl, aNth, aPut, aFz, aC0, aC2, aSw, aCat1, aCuts, aSet_eq, List.take, List.drop, List.reverse_cons, List.reverse_nil, List.nil_append, List.cons_append, List.length_cons, List.length_nil, Option.toList, true_and, and_true, Nat.reduceAdd, Nat.reduceEqDiff, Nat.reduceLT, Nat.reduceLeDiff, Nat.zero_add, Nat.add_zero, if_true, if_false, ite_true, ite_false, reduceIte, reduceCtorEq, true_or, or_true, not_true_eq_false, not_false_eq_true, false_and, and_false, true_implies, false_implies, not_false_eq_true, bqX6_scaleTo_0, blX6_scaleTo_0, bqX6_scaleTo_11, blX6_scaleTo_11, bqX6_scaleTo_22, blX6_scaleTo_22, bqX6_scaleTo_29, blX6_scaleTo_29, bqX6_scaleTo_36, blX6_scaleTo_36, bqX6_scaleTo_50, blX6_scaleTo_50, bqX6_scaleTo_53, blX6_scaleTo_53, bqX6_scaleTo_62, blX6_scaleTo_62, bqX6_scaleTo_65, blX6_scaleTo_65, bqX6_scaleTo_84, blX6_scaleTo_84]
  refine hb.1.iret (nar_i _) ⟨rfl, _, h5, ?_, ?_, fun i hi => ?_⟩ (by decide) (by decide)
  · rw [rU_ne (by decide), rU_eq]; rfl
  · rw [rU_ne (by decide), rU_ne (by decide), rU_eq]; rfl
  · rw [rU_ne (by omega), rU_ne (by omega), rU_ne (by omega), rk i hi]
end NEAR
