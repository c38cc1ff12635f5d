section GT
variable {B P t y T X rest drest N D c r : Nat}
theorem gt_lo (hN : N = (t * B + y) * P + rest) (hr : rest < P) (hD : D = (T * B + X) * P + drest) (hct : c * T + r = t) (hx : r * B + y < c * X) : N / D < c := by
  have h1 : t * B + y + 1 ≤ c * (T * B + X) := by
    rw [← hct, Nat.add_mul, Nat.mul_add, ← Nat.mul_assoc]; omega
  have h2 := Nat.mul_le_mul_right P h1
  have h3 : c * (T * B + X) * P ≤ D * c := by
    rw [hD, Nat.add_mul, Nat.mul_assoc, Nat.mul_comm c]; exact Nat.le_add_right _ _
  have h4 : (t * B + y + 1) * P = (t * B + y) * P + P := by rw [Nat.add_mul, Nat.one_mul]
  exact Nat.div_lt_of_lt_mul (by omega)
theorem gt_hi (hN : N = (t * B + y) * P + rest) (hd : drest < P) (hD : D = (T * B + X) * P + drest) (hT : 0 < T) (hct : c * T + r = t) (hc : c ≤ B) (hx : c * X ≤ r * B + y) (h0 : 0 < D) : c ≤ N / D + 1 := by
  cases c with
  | zero => exact Nat.zero_le _
  | succ k =>
    refine Nat.succ_le_succ ((Nat.le_div_iff_mul_le h0).mpr ?_)
    have h1 : D ≤ (T * B + X + 1) * P := by
      rw [Nat.add_mul _ 1, Nat.one_mul]; omega
    have h2 : k * D ≤ k * ((T * B + X + 1) * P) := Nat.mul_le_mul_left k h1
    have hTB : B ≤ T * B := Nat.le_mul_of_pos_left B hT
    have h3 : k * (T * B + X + 1) ≤ t * B + y := by
      rw [← hct]
      have e1 : ((k + 1) * T + r) * B + y = k * (T * B) + T * B + r * B + y := by grind
      have e2 : (k + 1) * X = k * X + X := Nat.succ_mul k X
      have e3 : k * (T * B + X + 1) = k * (T * B) + k * X + k := by grind
      rw [e1, e3]; omega
    have h4 := Nat.mul_le_mul_right P h3
    rw [Nat.mul_assoc] at h4
    omega
theorem gt_0 (hN : N = (t * B + y) * P + rest) (hr : rest < P) (hD : D = (T * B + X) * P + drest) (hT : 0 < T) (hy : y < B) : N / D ≤ t / T := by
  rw [Nat.le_div_iff_mul_le hT]
  have h1 := Nat.div_mul_le_self N D
  generalize N / D = q at *
  have h2 : q * T * (B * P) ≤ q * D := by
    rw [hD, Nat.mul_assoc]
    refine Nat.mul_le_mul_left q ?_
    rw [← Nat.mul_assoc, Nat.add_mul]; omega
  have h3 : N < (t + 1) * (B * P) := by
    rw [hN]
    have e1 : (t + 1) * (B * P) = t * B * P + B * P := by grind
    have e2 : (y + 1) * P ≤ B * P := Nat.mul_le_mul_right P hy
    have e3 : (y + 1) * P = y * P + P := Nat.succ_mul y P
    have e4 : (t * B + y) * P = t * B * P + y * P := Nat.add_mul ..
    omega
  exact Nat.lt_succ_iff.mp (Nat.lt_of_mul_lt_mul_right (Nat.lt_of_le_of_lt (Nat.le_trans h2 h1) h3))
theorem gt_3 (hN : N = (t * B + y) * P + rest) (hd : drest < P) (hD : D = (T * B + X) * P + drest) (hX : X < B) (h0 : 0 < D) (hc : t / T ≤ 2 * T + 1) : t / T ≤ N / D + 3 := by
  have h1 := Nat.div_mul_le_self t T
  generalize t / T = c0 at *
  rcases Nat.lt_or_ge c0 3 with q | q
  · exact Nat.le_trans (Nat.le_of_lt q) (Nat.le_add_left _ _)
  · obtain ⟨k, rfl⟩ : ∃ k, c0 = k + 3 := ⟨c0 - 3, by omega⟩
    have hk : k ≤ N / D := by
      rw [Nat.le_div_iff_mul_le h0]
      have h2 : D ≤ (T + 1) * (B * P) := by
        have e1 : (T + 1) * (B * P) = T * B * P + B * P := by grind
        have e2 : (X + 1) * P ≤ B * P := Nat.mul_le_mul_right P hX
        have e3 : (X + 1) * P = X * P + P := Nat.succ_mul X P
        have e4 : (T * B + X) * P = T * B * P + X * P := Nat.add_mul ..
        omega
      have h3 : k * D ≤ k * ((T + 1) * (B * P)) := Nat.mul_le_mul_left k h2
      have h4 : k * (T + 1) ≤ t := by
        have e1 : (k + 3) * T = k * T + 3 * T := Nat.add_mul ..
        have e2 : k * (T + 1) = k * T + k := Nat.mul_succ ..
        omega
      have h5 := Nat.mul_le_mul_right (B * P) h4
      rw [Nat.mul_assoc] at h5
      have h6 : t * (B * P) ≤ N := by
        rw [hN, Nat.add_mul, ← Nat.mul_assoc]; omega
      omega
    omega
theorem gt_t (hN : N = (t * B + y) * P + rest) (hd : drest < P) (hD : D = (T * B + X) * P + drest) (hX : X < B) (hlt : N < D * B) : t < T * B + B := by
  have h2 : D ≤ (T + 1) * (B * P) := by
    have e1 : (T + 1) * (B * P) = T * B * P + B * P := by grind
    have e2 : (X + 1) * P ≤ B * P := Nat.mul_le_mul_right P hX
    have e3 : (X + 1) * P = X * P + P := Nat.succ_mul X P
    have e4 : (T * B + X) * P = T * B * P + X * P := Nat.add_mul ..
    omega
  have h3 := Nat.mul_le_mul_right B h2
  have h6 : t * (B * P) ≤ N := by
    rw [hN, Nat.add_mul, ← Nat.mul_assoc]; omega
  have h7 : t * (B * P) < (T * B + B) * (B * P) := by
    have : (T * B + B) * (B * P) = (T + 1) * (B * P) * B := by grind
    omega
  exact Nat.lt_of_mul_lt_mul_right h7
end GT
/-- what the guess by the highest limbs rests on: q the true quotient -/
def gtP (q t T X y : Nat) : Prop := (∀ c r, c * T + r = t → r * 2147483648 + y < c * X → q < c) ∧ (∀ c r, c * T + r = t → c < 2147483648 → c * X ≤ r * 2147483648 + y → c ≤ q + 1) ∧ q ≤ t / T ∧ t / T ≤ q + 3 ∧ t < T * 2147483648 + 2147483648 ∧ q < 2147483648
theorem gt_all {P t y T X rest drest N D : Nat} (hN : N = (t * 2147483648 + y) * P + rest) (hr : rest < P) (hd : drest < P) (hD : D = (T * 2147483648 + X) * P + drest) (hX : X < 2147483648) (hy : y < 2147483648) (hT : 1073741824 ≤ T) (hlt : N < D * 2147483648) : gtP (N / D) t T X y := by
  have h0 : 0 < D := by
    rcases Nat.eq_zero_or_pos D with q | q
    · rw [q] at hlt; omega
    · exact q
  have ht := gt_t hN hd hD hX hlt
  refine ⟨fun c r h1 h2 => gt_lo hN hr hD h1 h2, fun c r h1 h2 h3 => gt_hi hN hd hD (by omega) h1 (by omega) h3 h0, gt_0 hN hr hD (by omega) hy, gt_3 hN hd hD hX h0 ?_, ht, Nat.div_lt_of_lt_mul hlt⟩
  have : t / T < 2147483648 + 2 := by
    refine Nat.div_lt_of_lt_mul ?_
    rw [Nat.mul_add]; omega
  omega
section GT2
variable {h d : Nat → Nat} {pl w : Nat}
theorem gt_w1 (hT : 1073741824 ≤ d 0) (hlt : nVal h 2 < nVal d 1 * 2147483648) : gtP (nVal h 2 / nVal d 1) (h 1 * 2147483648 + h 0) (d 0) 0 0 := by
  have e1 : nVal d 1 = d 0 := by simp only [nVal]; omega
  have e2 : nVal h 2 = h 1 * 2147483648 + h 0 := by simp only [nVal]; omega
  rw [e1, e2] at hlt
  rw [e1, e2]
  have := gt_all (P := 1) (t := h 1 * 2147483648 + h 0) (y := 0) (T := d 0) (X := 0) (rest := 0) (drest := 0) (N := (h 1 * 2147483648 + h 0) * 2147483648) (D := d 0 * 2147483648) (by omega) (by decide) (by decide) (by omega) (by decide) (by decide) hT (Nat.mul_lt_mul_of_pos_right hlt (by decide))
  rw [Nat.mul_div_mul_right _ _ (show 0 < 2147483648 by decide)] at this
  exact this
theorem gt_w2 (m : Nat) (hh : ∀ k, k < m + 3 → h k < 2147483648) (hd : ∀ k, k < m + 2 → d k < 2147483648) (hT : 1073741824 ≤ d (m + 1)) (hlt : nVal h (m + 3) < nVal d (m + 2) * 2147483648) : gtP (nVal h (m + 3) / nVal d (m + 2)) (h (m + 2) * 2147483648 + h (m + 1)) (d (m + 1)) (d m) (h m) := by
  refine gt_all (P := 2147483648 ^ m) (rest := nVal h m) (drest := nVal d m) ?_ (nVal_lt (fun k hk => hh k (by omega))) (nVal_lt (fun k hk => hd k (by omega))) ?_ (hd m (by omega)) (hh m (by omega)) hT hlt
  · rw [nVal_succ h (m + 2), nVal_succ h (m + 1), nVal_succ h m, Nat.pow_succ 2147483648 (m + 1), Nat.pow_succ 2147483648 m]
    generalize 2147483648 ^ m = P
    grind
  · rw [nVal_succ d (m + 1), nVal_succ d m, Nat.pow_succ 2147483648 m]
    generalize 2147483648 ^ m = P
    grind
end GT2
theorem iRem_l {a b : Nat} (ha : a < 2 ^ 63) (h0 : 0 < b) (hb : b < 2 ^ 63) : lRem (lN a) (lN b) = lN (a % b) := by rw [lRem_eq]; exact pk_lRem ha h0 hb
theorem lSub_nn {a b : Nat} (h : b ≤ a) : lSub (lN a) (lN b) = lN (a - b) := by rw [lSub_eq]; exact lN_sub h
theorem cmp_gt {a b : Nat} (ha : a < 2 ^ 63) (hb : b < 2 ^ 63) : (0 < lg_cmp (lN a) (lN b)) = (b < a) := by rw [eq_iff_iff, lg_cmp_gt, pk_lLT hb ha]
theorem cmp_le {a b : Nat} (ha : a < 2 ^ 63) (hb : b < 2 ^ 63) : (lg_cmp (lN a) (lN b) ≤ 0) = (a ≤ b) := by rw [eq_iff_iff, lg_cmp_le, pk_lLE ha hb]
section NAT12
variable {l : Launch} {G : aG} {base tA : Nat} {O : aO} {A : aA} {a la b lb : Nat} {h d : Nat → Nat} {u w pl : Nat}
set_option maxHeartbeats 8000000 in
theorem gt_loop {own : String} {R : Room} {Post : aPost} {E : aE} {J : aK0} (hb : aBody l G base tA own R (some .int) (aLook bkX3_guessTimes) Post E J) {q t T X y : Nat} (hP : gtP q t T X y) (hT : 1073741824 ≤ T) (hT2 : T < 2147483648) (hX : X < 2147483648) (hy : y < 2147483648) {v0 v1 v2 v3 v6 : Option Value}
    (hPost : ∀ c, c < 2147483648 → q ≤ c → c ≤ q + 1 → Post (some (.int (nI c))) O A) : ∀ (n i c r : Nat), i + n = 2 → c * T + r = t → q ≤ c → (c + i = t / T ∨ (c < 2147483648 ∧ c * X ≤ r * 2147483648 + y)) → J 129 [v0, v1, v2, v3, some (.long (lN T)), none, v6, none, some (.long (lN c)), none, some (.long (lN r)), none, some (.long (lN X)), none, some (.long (lN y)), none, some (.int (nI i))] [] O A 0 0 := by
  obtain ⟨P1, P2, P3, P4, P5, P6⟩ := hP
  have hc0 : t / T ≤ 2147483649 := by
    have : t / T < 2147483648 + 2 := by
      refine Nat.div_lt_of_lt_mul ?_
      rw [Nat.mul_add]; omega
    omega
  have done : ∀ c r, c * T + r = t → q ≤ c → c ≤ q + 1 → c < 2147483648 → ∀ {z : Option Value}, (∃ ty, eRt E = some ty ∧ narrow ty (.int (nI c)) = .int (nI c)) ∧ eRet E (some (.int (nI c))) O A 0 0 := fun c r _ h2 h3 h4 _ => hb.iret (nar_i _) (hPost c h4 h2 h3) (Nat.zero_le _) (Nat.zero_le _)
  intro n
  induction n with
  | zero =>
    intro i c r hi hct hq hc
    have hi2 : i = 2 := by omega
    subst hi2
    have e2 : (nI 2 ≤ nI 2) = True := by simp
    refine hb.run (aCuts [129] J) 60 129 _ _ _ _ _ _ (aCuts_ok _) ?_
    simp only [↓wpi_isub, ↓wpi_lsub, ↓wpi_ineg, ↓wpi_lneg, ↓wpi_irem, ↓wpi_lrem, ↓wpi_iinc, wp1, wp, wpl, wpi, lget, lput1, lput2, ltail, lkill, aV, aVl, aNth, aPut, aFz, aC0, aC2, aSw, aCat1, aCuts, aSet_eq, List.take, List.drop, List.reverse_cons, List.reverse_nil, List.nil_append, List.cons_append, List.length_cons, List.length_nil, Option.toList, true_and, and_true, Nat.reduceAdd, Nat.reduceEqDiff, Nat.reduceLT, Nat.reduceLeDiff, Nat.zero_add, Nat.add_zero, if_true, if_false, ite_true, ite_false, reduceIte, reduceCtorEq, true_or, or_true, not_true_eq_false, not_false_eq_true, false_and, and_false, true_implies, false_implies, not_false_eq_true, bqX3_guessTimes_0, blX3_guessTimes_0, bqX3_guessTimes_14, blX3_guessTimes_14, bqX3_guessTimes_29, blX3_guessTimes_29, bqX3_guessTimes_30, blX3_guessTimes_30, bqX3_guessTimes_39, blX3_guessTimes_39, bqX3_guessTimes_41, blX3_guessTimes_41, bqX3_guessTimes_85, blX3_guessTimes_85, bqX3_guessTimes_100, blX3_guessTimes_100, bqX3_guessTimes_101, blX3_guessTimes_101, bqX3_guessTimes_111, blX3_guessTimes_111, bqX3_guessTimes_123, blX3_guessTimes_123, bqX3_guessTimes_124, blX3_guessTimes_124, bqX3_guessTimes_129, blX3_guessTimes_129, bqX3_guessTimes_135, blX3_guessTimes_135, bqX3_guessTimes_144, blX3_guessTimes_144, bqX3_guessTimes_153, blX3_guessTimes_153, bqX3_guessTimes_170, blX3_guessTimes_170, bqX3_guessTimes_183, blX3_guessTimes_183, bqX3_guessTimes_189, blX3_guessTimes_189, e2, lN_i]
    rcases hc with hc | hc
    · exact done c r hct hq (by omega) (by omega) (z := none)
    · exact done c r hct hq (P2 c r hct hc.1 hc.2) hc.1 (z := none)
  | succ n ih =>
    intro i c r hi hct hq hc
    have hcb : c ≤ 2147483649 := by omega
    have hrb : r < 4611686018427387904 := by
      have : T * 2147483648 + 2147483648 ≤ 2147483647 * 2147483648 + 2147483648 := by omega
      omega
    have e2 : (nI 2 ≤ nI i) = False := by rw [nI_leI (by decide) (by omega)]; simp; omega
    refine hb.run (aCuts [129] J) 60 129 _ _ _ _ _ _ (aCuts_ok _) ?_
    rcases Nat.lt_or_ge r 2147483648 with hr | hr
    · have e3 : (0 < lg_cmp (lN r) (lN 2147483647)) = False := by rw [cmp_gt (by omega) (by decide)]; simp; omega
      by_cases htest : 2147483648 ≤ c ∨ r * 2147483648 + y < c * X
      · have hqc : q < c := by
          rcases htest with k | k
          · omega
          · exact P1 c r hct k
        have hci : c + i = t / T := by
          rcases hc with k | k
          · exact k
          · omega
        have nx : J 129 [v0, v1, v2, v3, some (.long (lN T)), none, v6, none, some (.long (lN (c - 1))), none, some (.long (lN (r + T))), none, some (.long (lN X)), none, some (.long (lN y)), none, some (.int (nI (i + 1)))] [] O A 0 0 := by
          refine ih (i + 1) (c - 1) (r + T) (by omega) ?_ (by omega) (Or.inl (by omega))
          obtain ⟨k, rfl⟩ : ∃ k, c = k + 1 := ⟨c - 1, by omega⟩
          rw [Nat.add_mul] at hct
          rw [Nat.add_sub_cancel]; omega
        have e6 : lSub (lN c) (lN 1) = lN (c - 1) := lSub_nn (by omega)
        rcases Nat.lt_or_ge 2147483647 c with k | k
        · have e4 : (0 < lg_cmp (lN c) (lN 2147483647)) = True := by rw [cmp_gt (by omega) (by decide)]; simp; omega
          simp only [↓wpi_isub, ↓wpi_lsub, ↓wpi_ineg, ↓wpi_lneg, ↓wpi_irem, ↓wpi_lrem, ↓wpi_iinc, wp1, wp, wpl, wpi, lget, lput1, lput2, ltail, lkill, aV, aVl, aNth, aPut, aFz, aC0, aC2, aSw, aCat1, aCuts, aSet_eq, List.take, List.drop, List.reverse_cons, List.reverse_nil, List.nil_append, List.cons_append, List.length_cons, List.length_nil, Option.toList, true_and, and_true, Nat.reduceAdd, Nat.reduceEqDiff, Nat.reduceLT, Nat.reduceLeDiff, Nat.zero_add, Nat.add_zero, if_true, if_false, ite_true, ite_false, reduceIte, reduceCtorEq, true_or, or_true, not_true_eq_false, not_false_eq_true, false_and, and_false, true_implies, false_implies, not_false_eq_true, bqX3_guessTimes_0, blX3_guessTimes_0, bqX3_guessTimes_14, blX3_guessTimes_14, bqX3_guessTimes_29, blX3_guessTimes_29, bqX3_guessTimes_30, blX3_guessTimes_30, bqX3_guessTimes_39, blX3_guessTimes_39, bqX3_guessTimes_41, blX3_guessTimes_41, bqX3_guessTimes_85, blX3_guessTimes_85, bqX3_guessTimes_100, blX3_guessTimes_100, bqX3_guessTimes_101, blX3_guessTimes_101, bqX3_guessTimes_111, blX3_guessTimes_111, bqX3_guessTimes_123, blX3_guessTimes_123, bqX3_guessTimes_124, blX3_guessTimes_124, bqX3_guessTimes_129, blX3_guessTimes_129, bqX3_guessTimes_135, blX3_guessTimes_135, bqX3_guessTimes_144, blX3_guessTimes_144, bqX3_guessTimes_153, blX3_guessTimes_153, bqX3_guessTimes_170, blX3_guessTimes_170, bqX3_guessTimes_183, blX3_guessTimes_183, bqX3_guessTimes_189, blX3_guessTimes_189, e2, e3, e4, e6, lN_add, iInc_p]
          exact nx
        · have e4 : (0 < lg_cmp (lN c) (lN 2147483647)) = False := by rw [cmp_gt (by omega) (by decide)]; simp; omega
          have e5 : lN (r * 2 ^ 31) ||| lN y = lN (r * 2147483648 + y) := g_or rfl (by omega) (by omega)
          have hcx : c * X < 2 ^ 62 := by
            have := Nat.mul_le_mul k (show X ≤ 2147483647 by omega)
            omega
          have e7 : (lg_cmp (lN (c * X)) (lN (r * 2147483648 + y)) ≤ 0) = False := by rw [cmp_le (by omega) (by omega)]; simp; omega
          simp only [↓wpi_isub, ↓wpi_lsub, ↓wpi_ineg, ↓wpi_lneg, ↓wpi_irem, ↓wpi_lrem, ↓wpi_iinc, wp1, wp, wpl, wpi, lget, lput1, lput2, ltail, lkill, aV, aVl, aNth, aPut, aFz, aC0, aC2, aSw, aCat1, aCuts, aSet_eq, List.take, List.drop, List.reverse_cons, List.reverse_nil, List.nil_append, List.cons_append, List.length_cons, List.length_nil, Option.toList, true_and, and_true, Nat.reduceAdd, Nat.reduceEqDiff, Nat.reduceLT, Nat.reduceLeDiff, Nat.zero_add, Nat.add_zero, if_true, if_false, ite_true, ite_false, reduceIte, reduceCtorEq, true_or, or_true, not_true_eq_false, not_false_eq_true, false_and, and_false, true_implies, false_implies, not_false_eq_true, bqX3_guessTimes_0, blX3_guessTimes_0, bqX3_guessTimes_14, blX3_guessTimes_14, bqX3_guessTimes_29, blX3_guessTimes_29, bqX3_guessTimes_30, blX3_guessTimes_30, bqX3_guessTimes_39, blX3_guessTimes_39, bqX3_guessTimes_41, blX3_guessTimes_41, bqX3_guessTimes_85, blX3_guessTimes_85, bqX3_guessTimes_100, blX3_guessTimes_100, bqX3_guessTimes_101, blX3_guessTimes_101, bqX3_guessTimes_111, blX3_guessTimes_111, bqX3_guessTimes_123, blX3_guessTimes_123, bqX3_guessTimes_124, blX3_guessTimes_124, bqX3_guessTimes_129, blX3_guessTimes_129, bqX3_guessTimes_135, blX3_guessTimes_135, bqX3_guessTimes_144, blX3_guessTimes_144, bqX3_guessTimes_153, blX3_guessTimes_153, bqX3_guessTimes_170, blX3_guessTimes_170, bqX3_guessTimes_183, blX3_guessTimes_183, bqX3_guessTimes_189, blX3_guessTimes_189, e2, e3, e4, wb_shl _ (show 31 < 64 by decide), lN_mul, e5, e7, e6, lN_add, iInc_p]
          exact nx
      · have hc1 : c < 2147483648 := by omega
        have hc2 : c * X ≤ r * 2147483648 + y := by omega
        have e4 : (0 < lg_cmp (lN c) (lN 2147483647)) = False := by rw [cmp_gt (by omega) (by decide)]; simp; omega
        have e5 : lN (r * 2 ^ 31) ||| lN y = lN (r * 2147483648 + y) := g_or rfl (by omega) (by omega)
        have hcx : c * X < 2 ^ 62 := by
          have := Nat.mul_le_mul (show c ≤ 2147483647 by omega) (show X ≤ 2147483647 by omega)
          omega
        have e7 : (lg_cmp (lN (c * X)) (lN (r * 2147483648 + y)) ≤ 0) = True := by rw [cmp_le (by omega) (by omega)]; simp; omega
        simp only [↓wpi_isub, ↓wpi_lsub, ↓wpi_ineg, ↓wpi_lneg, ↓wpi_irem, ↓wpi_lrem, ↓wpi_iinc, wp1, wp, wpl, wpi, lget, lput1, lput2, ltail, lkill, aV, aVl, aNth, aPut, aFz, aC0, aC2, aSw, aCat1, aCuts, aSet_eq, List.take, List.drop, List.reverse_cons, List.reverse_nil, List.nil_append, List.cons_append, List.length_cons, List.length_nil, Option.toList, true_and, and_true, Nat.reduceAdd, Nat.reduceEqDiff, Nat.reduceLT, Nat.reduceLeDiff, Nat.zero_add, Nat.add_zero, if_true, if_false, ite_true, ite_false, reduceIte, reduceCtorEq, true_or, or_true, not_true_eq_false, not_false_eq_true, false_and, and_false, true_implies, false_implies, not_false_eq_true, bqX3_guessTimes_0, blX3_guessTimes_0, bqX3_guessTimes_14, blX3_guessTimes_14, bqX3_guessTimes_29, blX3_guessTimes_29, bqX3_guessTimes_30, blX3_guessTimes_30, bqX3_guessTimes_39, blX3_guessTimes_39, bqX3_guessTimes_41, blX3_guessTimes_41, bqX3_guessTimes_85, blX3_guessTimes_85, bqX3_guessTimes_100, blX3_guessTimes_100, bqX3_guessTimes_101, blX3_guessTimes_101, bqX3_guessTimes_111, blX3_guessTimes_111, bqX3_guessTimes_123, blX3_guessTimes_123, bqX3_guessTimes_124, blX3_guessTimes_124, bqX3_guessTimes_129, blX3_guessTimes_129, bqX3_guessTimes_135, blX3_guessTimes_135, bqX3_guessTimes_144, blX3_guessTimes_144, bqX3_guessTimes_153, blX3_guessTimes_153, bqX3_guessTimes_170, blX3_guessTimes_170, bqX3_guessTimes_183, blX3_guessTimes_183, bqX3_guessTimes_189, blX3_guessTimes_189, e2, e3, e4, wb_shl _ (show 31 < 64 by decide), lN_mul, e5, e7, iInc_p]
        exact ih (i + 1) c r (by omega) hct hq (Or.inr ⟨hc1, hc2⟩)
    · have e3 : (0 < lg_cmp (lN r) (lN 2147483647)) = True := by rw [cmp_gt (by omega) (by decide)]; simp; omega
      simp only [↓wpi_isub, ↓wpi_lsub, ↓wpi_ineg, ↓wpi_lneg, ↓wpi_irem, ↓wpi_lrem, ↓wpi_iinc, wp1, wp, wpl, wpi, lget, lput1, lput2, ltail, lkill, aV, aVl, aNth, aPut, aFz, aC0, aC2, aSw, aCat1, aCuts, aSet_eq, List.take, List.drop, List.reverse_cons, List.reverse_nil, List.nil_append, List.cons_append, List.length_cons, List.length_nil, Option.toList, true_and, and_true, Nat.reduceAdd, Nat.reduceEqDiff, Nat.reduceLT, Nat.reduceLeDiff, Nat.zero_add, Nat.add_zero, if_true, if_false, ite_true, ite_false, reduceIte, reduceCtorEq, true_or, or_true, not_true_eq_false, not_false_eq_true, false_and, and_false, true_implies, false_implies, not_false_eq_true, bqX3_guessTimes_0, blX3_guessTimes_0, bqX3_guessTimes_14, blX3_guessTimes_14, bqX3_guessTimes_29, blX3_guessTimes_29, bqX3_guessTimes_30, blX3_guessTimes_30, bqX3_guessTimes_39, blX3_guessTimes_39, bqX3_guessTimes_41, blX3_guessTimes_41, bqX3_guessTimes_85, blX3_guessTimes_85, bqX3_guessTimes_100, blX3_guessTimes_100, bqX3_guessTimes_101, blX3_guessTimes_101, bqX3_guessTimes_111, blX3_guessTimes_111, bqX3_guessTimes_123, blX3_guessTimes_123, bqX3_guessTimes_124, blX3_guessTimes_124, bqX3_guessTimes_129, blX3_guessTimes_129, bqX3_guessTimes_135, blX3_guessTimes_135, bqX3_guessTimes_144, blX3_guessTimes_144, bqX3_guessTimes_153, blX3_guessTimes_153, bqX3_guessTimes_170, blX3_guessTimes_170, bqX3_guessTimes_183, blX3_guessTimes_183, bqX3_guessTimes_189, blX3_guessTimes_189, e2, e3, lN_i]
      have hc1 : c < 2147483648 := by
        rcases Nat.lt_or_ge c 2147483648 with k | k
        · exact k
        · have := Nat.mul_le_mul_right T k
          omega
      have hc2 : c * X ≤ r * 2147483648 + y := by
        have := Nat.mul_le_mul (show c ≤ 2147483647 by omega) (show X ≤ 2147483647 by omega)
        omega
      exact done c r hct hq (P2 c r hct hc1 hc2) hc1 (z := none)
abbrev rmG : Room := rmZ
set_option maxRecDepth 8000 in
set_option maxHeartbeats 8000000 in
theorem ct_X3_guessTimes (hO : O a = some (4, [.ref la, .int (nI u)])) (hA : A la = some (0, 20, .inl (nF h))) (hO2 : O b = some (4, [.ref lb, .int (nI w)])) (hA2 : A lb = some (0, 20, .inl (nF d))) (hh : ∀ k, k < 20 → h k < 2147483648) (hd : ∀ k, k < 20 → d k < 2147483648) (hw : 0 < w) (hpw : pl + w < 20) (hT : 1073741824 ≤ d (w - 1)) (hlt : nVal (fun k => h (pl + k)) (w + 1) < nVal d w * 2147483648) : aMet l G base tA yX3_guessTimes cX3_guessTimes 17 (some .int) rmZ [.ref a, .ref b, .int (nI pl)] O A (fun r O' A' => ∃ c, c < 2147483648 ∧ nVal (fun k => h (pl + k)) (w + 1) / nVal d w ≤ c ∧ c ≤ nVal (fun k => h (pl + k)) (w + 1) / nVal d w + 1 ∧ r = some (.int (nI c)) ∧ O' = O ∧ A' = A) := by
  refine aMet_of (ini := false) (B := aLook bkX3_guessTimes) (by decide) (fun h => by first | rfl | cases h) (Nat.le_of_ble_eq_true rfl) boX3_guessTimes ?_
  intro E J hb
  obtain ⟨q, hq⟩ : ∃ q, q = nVal (fun k => h (pl + k)) (w + 1) / nVal d w := ⟨_, rfl⟩
  rw [← hq] at hb
  have hT2 := hd (w - 1) (by omega)
  have hle := hh (pl + w) (by omega)
  have hle1 := hh (pl + w - 1) (by omega)
  obtain ⟨T, hTe⟩ : ∃ T, T = d (w - 1) := ⟨_, rfl⟩
  obtain ⟨e, he⟩ : ∃ e, e = pl + w := ⟨_, rfl⟩
  rw [← hTe] at hT hT2
  rw [← he] at hle hle1
  obtain ⟨t, ht⟩ : ∃ t, t = h e * 2147483648 + h (e - 1) := ⟨_, rfl⟩
  have htb : t < 4611686018427387904 := by omega
  have i1 : vp_in (nI (w - 1)) 20 := vp_in_nI (by omega) (by decide)
  have i2 : vp_in (nI e) 20 := vp_in_nI (by omega) (by decide)
  have i3 : vp_in (nI (e - 1)) 20 := vp_in_nI (by omega) (by decide)
  have z1 : (nI w ≤ (0 : Int32)) = False := by rw [nI_lez (by omega)]; simp; omega
  have s1 : iSub (nI w) (nI 1) = nI (w - 1) := iSub_nn (by omega)
  have s2 : iSub (nI e) (nI 1) = nI (e - 1) := iSub_nn (by omega)
  have lT : (nI (d (w - 1))).toInt64 = lN T := by rw [hTe]; exact nI_l (by omega)
  have l1 : (nI (h e)).toInt64 = lN (h e) := nI_l (by omega)
  have l2 : (nI (h (e - 1))).toInt64 = lN (h (e - 1)) := nI_l (by omega)
  have z2 : (lg_cmp (lN T) (lN 0) = 0) = False := by rw [eq_iff_iff, lg_cmp_z (by omega) (by decide)]; simp; omega
  have z3 : (lN T = 0) = False := by
    rw [eq_iff_iff, show (0 : Int64) = lN 0 from rfl, pk_lEQ (by omega) (by decide)]; simp; omega
  have o1 : lN (h e * 2 ^ 31) ||| lN (h (e - 1)) = lN t := by rw [ht]; exact g_or rfl (by omega) (by omega)
  have d1 : lN t / lN T = lN (t / T) := pk_lDiv (by omega) (by omega) (by omega)
  have d2 : lRem (lN t) (lN T) = lN (t % T) := iRem_l (by omega) (by omega) (by omega)
  have pw : nI pl + nI w = nI e := by rw [nI_add, he]
  have hct : t / T * T + t % T = t := by rw [Nat.mul_comm]; exact Nat.div_add_mod t T
  have at124 : ∀ X y x13 : Nat, gtP q t T X y → X < 2147483648 → y < 2147483648 → J 124 [some (.ref a), some (.ref b), some (.int (nI pl)), some (.int (nI e)), some (.long (lN T)), none, some (.long (lN t)), none, some (.long (lN (t / T))), none, some (.long (lN (t % T))), none, some (.long (lN X)), none, none, none, none] [.long (lN y)] O A 0 0 := by
    intro X y _ hp hX hy
    refine hb.run (aCuts [129] J) 60 124 _ _ _ _ _ _ (aCuts_ok _) ?_
    simp only [↓wpi_isub, ↓wpi_lsub, ↓wpi_ineg, ↓wpi_lneg, ↓wpi_irem, ↓wpi_lrem, ↓wpi_iinc, wp1, wp, wpl, wpi, lget, lput1, lput2, ltail, lkill, aV, aVl, aNth, aPut, aFz, aC0, aC2, aSw, aCat1, aCuts, aSet_eq, List.take, List.drop, List.reverse_cons, List.reverse_nil, List.nil_append, List.cons_append, List.length_cons, List.length_nil, Option.toList, true_and, and_true, Nat.reduceAdd, Nat.reduceEqDiff, Nat.reduceLT, Nat.reduceLeDiff, Nat.zero_add, Nat.add_zero, if_true, if_false, ite_true, ite_false, reduceIte, reduceCtorEq, true_or, or_true, not_true_eq_false, not_false_eq_true, false_and, and_false, true_implies, false_implies, not_false_eq_true, bqX3_guessTimes_0, blX3_guessTimes_0, bqX3_guessTimes_14, blX3_guessTimes_14, bqX3_guessTimes_29, blX3_guessTimes_29, bqX3_guessTimes_30, blX3_guessTimes_30, bqX3_guessTimes_39, blX3_guessTimes_39, bqX3_guessTimes_41, blX3_guessTimes_41, bqX3_guessTimes_85, blX3_guessTimes_85, bqX3_guessTimes_100, blX3_guessTimes_100, bqX3_guessTimes_101, blX3_guessTimes_101, bqX3_guessTimes_111, blX3_guessTimes_111, bqX3_guessTimes_123, blX3_guessTimes_123, bqX3_guessTimes_124, blX3_guessTimes_124, bqX3_guessTimes_129, blX3_guessTimes_129, bqX3_guessTimes_135, blX3_guessTimes_135, bqX3_guessTimes_144, blX3_guessTimes_144, bqX3_guessTimes_153, blX3_guessTimes_153, bqX3_guessTimes_170, blX3_guessTimes_170, bqX3_guessTimes_183, blX3_guessTimes_183, bqX3_guessTimes_189, blX3_guessTimes_189]
    exact gt_loop hb hp hT hT2 hX hy (fun c k1 k2 k3 => ⟨c, k1, k2, k3, rfl, rfl, rfl⟩) 2 0 (t / T) (t % T) rfl hct hp.2.2.1 (Or.inl (Nat.add_zero _))
  have at101 : ∀ X y : Nat, X = (if 1 < w then d (w - 2) else 0) → y = (if 1 < w then h (e - 2) else 0) → gtP q t T X y → X < 2147483648 → y < 2147483648 → J 101 [some (.ref a), some (.ref b), some (.int (nI pl)), some (.int (nI e)), some (.long (lN T)), none, some (.long (lN t)), none, some (.long (lN (t / T))), none, some (.long (lN (t % T))), none, none, none, none, none, none] [.long (lN X)] O A 0 0 := by
    intro X y hX9 hy9 hp hX hy
    refine hb.run (aCuts [124, 129] J) 60 101 _ _ _ _ _ _ (aCuts_ok _) ?_
    rcases Nat.lt_or_ge 1 w with h1 | h1
    · have c1 : (nI w ≤ nI 1) = False := by rw [nI_leI (by omega) (by decide)]; simp; omega
      rw [if_pos h1] at hX9 hy9
      subst hX9 hy9
      have s4 : iSub (nI e) (nI 2) = nI (e - 2) := iSub_nn (by omega)
      have i5 : vp_in (nI (e - 2)) 20 := vp_in_nI (by omega) (by decide)
      simp only [↓wpi_isub, ↓wpi_lsub, ↓wpi_ineg, ↓wpi_lneg, ↓wpi_irem, ↓wpi_lrem, ↓wpi_iinc, wp1, wp, wpl, wpi, lget, lput1, lput2, ltail, lkill, aV, aVl, aNth, aPut, aFz, aC0, aC2, aSw, aCat1, aCuts, aSet_eq, List.take, List.drop, List.reverse_cons, List.reverse_nil, List.nil_append, List.cons_append, List.length_cons, List.length_nil, Option.toList, true_and, and_true, Nat.reduceAdd, Nat.reduceEqDiff, Nat.reduceLT, Nat.reduceLeDiff, Nat.zero_add, Nat.add_zero, if_true, if_false, ite_true, ite_false, reduceIte, reduceCtorEq, true_or, or_true, not_true_eq_false, not_false_eq_true, false_and, and_false, true_implies, false_implies, not_false_eq_true, bqX3_guessTimes_0, blX3_guessTimes_0, bqX3_guessTimes_14, blX3_guessTimes_14, bqX3_guessTimes_29, blX3_guessTimes_29, bqX3_guessTimes_30, blX3_guessTimes_30, bqX3_guessTimes_39, blX3_guessTimes_39, bqX3_guessTimes_41, blX3_guessTimes_41, bqX3_guessTimes_85, blX3_guessTimes_85, bqX3_guessTimes_100, blX3_guessTimes_100, bqX3_guessTimes_101, blX3_guessTimes_101, bqX3_guessTimes_111, blX3_guessTimes_111, bqX3_guessTimes_123, blX3_guessTimes_123, bqX3_guessTimes_124, blX3_guessTimes_124, bqX3_guessTimes_129, blX3_guessTimes_129, bqX3_guessTimes_135, blX3_guessTimes_135, bqX3_guessTimes_144, blX3_guessTimes_144, bqX3_guessTimes_153, blX3_guessTimes_153, bqX3_guessTimes_170, blX3_guessTimes_170, bqX3_guessTimes_183, blX3_guessTimes_183, bqX3_guessTimes_189, blX3_guessTimes_189, hO, hO2, hA, c1, s4, i5, nI_clamp (show e - 2 < 2 ^ 31 by omega), nF_at, nI_l (show h (e - 2) < 2 ^ 31 by omega)]
      exact at124 _ _ 0 hp hX hy
    · have c1 : (nI w ≤ nI 1) = True := by rw [show w = 1 by omega]; simp
      rw [if_neg (by omega)] at hX9 hy9
      subst hX9 hy9
      simp only [↓wpi_isub, ↓wpi_lsub, ↓wpi_ineg, ↓wpi_lneg, ↓wpi_irem, ↓wpi_lrem, ↓wpi_iinc, wp1, wp, wpl, wpi, lget, lput1, lput2, ltail, lkill, aV, aVl, aNth, aPut, aFz, aC0, aC2, aSw, aCat1, aCuts, aSet_eq, List.take, List.drop, List.reverse_cons, List.reverse_nil, List.nil_append, List.cons_append, List.length_cons, List.length_nil, Option.toList, true_and, and_true, Nat.reduceAdd, Nat.reduceEqDiff, Nat.reduceLT, Nat.reduceLeDiff, Nat.zero_add, Nat.add_zero, if_true, if_false, ite_true, ite_false, reduceIte, reduceCtorEq, true_or, or_true, not_true_eq_false, not_false_eq_true, false_and, and_false, true_implies, false_implies, not_false_eq_true, bqX3_guessTimes_0, blX3_guessTimes_0, bqX3_guessTimes_14, blX3_guessTimes_14, bqX3_guessTimes_29, blX3_guessTimes_29, bqX3_guessTimes_30, blX3_guessTimes_30, bqX3_guessTimes_39, blX3_guessTimes_39, bqX3_guessTimes_41, blX3_guessTimes_41, bqX3_guessTimes_85, blX3_guessTimes_85, bqX3_guessTimes_100, blX3_guessTimes_100, bqX3_guessTimes_101, blX3_guessTimes_101, bqX3_guessTimes_111, blX3_guessTimes_111, bqX3_guessTimes_123, blX3_guessTimes_123, bqX3_guessTimes_124, blX3_guessTimes_124, bqX3_guessTimes_129, blX3_guessTimes_129, bqX3_guessTimes_135, blX3_guessTimes_135, bqX3_guessTimes_144, blX3_guessTimes_144, bqX3_guessTimes_153, blX3_guessTimes_153, bqX3_guessTimes_170, blX3_guessTimes_170, bqX3_guessTimes_183, blX3_guessTimes_183, bqX3_guessTimes_189, blX3_guessTimes_189, hO, hO2, hA, c1]
      exact at124 _ _ 0 hp hX hy
  have at30 : J 30 [some (.ref a), some (.ref b), some (.int (nI pl)), some (.int (nI e)), none, none, none, none, none, none, none, none, none, none, none, none, none] [.long (lN T)] O A 0 0 := by
    refine hb.run (aCuts [101, 124, 129] J) 60 30 _ _ _ _ _ _ (aCuts_ok _) ?_
    rcases Nat.lt_or_ge 1 w with h1 | h1
    · have c1 : (nI w ≤ nI 1) = False := by rw [nI_leI (by omega) (by decide)]; simp; omega
      have s3 : iSub (nI w) (nI 2) = nI (w - 2) := iSub_nn (by omega)
      have i4 : vp_in (nI (w - 2)) 20 := vp_in_nI (by omega) (by decide)
      have hX := hd (w - 2) (by omega)
      have hy := hh (e - 2) (by omega)
      simp only [↓wpi_isub, ↓wpi_lsub, ↓wpi_ineg, ↓wpi_lneg, ↓wpi_irem, ↓wpi_lrem, ↓wpi_iinc, wp1, wp, wpl, wpi, lget, lput1, lput2, ltail, lkill, aV, aVl, aNth, aPut, aFz, aC0, aC2, aSw, aCat1, aCuts, aSet_eq, List.take, List.drop, List.reverse_cons, List.reverse_nil, List.nil_append, List.cons_append, List.length_cons, List.length_nil, Option.toList, true_and, and_true, Nat.reduceAdd, Nat.reduceEqDiff, Nat.reduceLT, Nat.reduceLeDiff, Nat.zero_add, Nat.add_zero, if_true, if_false, ite_true, ite_false, reduceIte, reduceCtorEq, true_or, or_true, not_true_eq_false, not_false_eq_true, false_and, and_false, true_implies, false_implies, not_false_eq_true, bqX3_guessTimes_0, blX3_guessTimes_0, bqX3_guessTimes_14, blX3_guessTimes_14, bqX3_guessTimes_29, blX3_guessTimes_29, bqX3_guessTimes_30, blX3_guessTimes_30, bqX3_guessTimes_39, blX3_guessTimes_39, bqX3_guessTimes_41, blX3_guessTimes_41, bqX3_guessTimes_85, blX3_guessTimes_85, bqX3_guessTimes_100, blX3_guessTimes_100, bqX3_guessTimes_101, blX3_guessTimes_101, bqX3_guessTimes_111, blX3_guessTimes_111, bqX3_guessTimes_123, blX3_guessTimes_123, bqX3_guessTimes_124, blX3_guessTimes_124, bqX3_guessTimes_129, blX3_guessTimes_129, bqX3_guessTimes_135, blX3_guessTimes_135, bqX3_guessTimes_144, blX3_guessTimes_144, bqX3_guessTimes_153, blX3_guessTimes_153, bqX3_guessTimes_170, blX3_guessTimes_170, bqX3_guessTimes_183, blX3_guessTimes_183, bqX3_guessTimes_189, blX3_guessTimes_189, hO, hO2, hA, hA2, z2, i2, nI_clamp (show e < 2 ^ 31 by omega), nF_at, l1, s2, i3, nI_clamp (show e - 1 < 2 ^ 31 by omega), l2, wb_shl _ (show 31 < 64 by decide), o1, z3, d1, d2, c1, s3, i4, nI_clamp (show w - 2 < 2 ^ 31 by omega), nI_l (show d (w - 2) < 2 ^ 31 by omega)]
      obtain ⟨m, hm⟩ : ∃ m, w = m + 2 := ⟨w - 2, by omega⟩
      have hp : gtP q t T (d (w - 2)) (h (e - 2)) := by
        rw [hq, ht, hTe, he, hm]
        rw [hm] at hlt
        have := gt_w2 (h := fun k => h (pl + k)) (d := d) m (fun k hk => hh _ (by omega)) (fun k hk => hd _ (by omega)) (by rw [← show w - 1 = m + 1 by omega, ← hTe]; exact hT) hlt
        rw [show pl + (m + 2) - 1 = pl + (m + 1) by omega, show pl + (m + 2) - 2 = pl + m by omega, show m + 2 - 1 = m + 1 by omega, show m + 2 - 2 = m by omega]
        exact this
      exact at101 _ _ (if_pos h1).symm (if_pos h1).symm hp hX hy
    · have hw1 : w = 1 := by omega
      have c1 : (nI w ≤ nI 1) = True := by rw [hw1]; simp
      simp only [↓wpi_isub, ↓wpi_lsub, ↓wpi_ineg, ↓wpi_lneg, ↓wpi_irem, ↓wpi_lrem, ↓wpi_iinc, wp1, wp, wpl, wpi, lget, lput1, lput2, ltail, lkill, aV, aVl, aNth, aPut, aFz, aC0, aC2, aSw, aCat1, aCuts, aSet_eq, List.take, List.drop, List.reverse_cons, List.reverse_nil, List.nil_append, List.cons_append, List.length_cons, List.length_nil, Option.toList, true_and, and_true, Nat.reduceAdd, Nat.reduceEqDiff, Nat.reduceLT, Nat.reduceLeDiff, Nat.zero_add, Nat.add_zero, if_true, if_false, ite_true, ite_false, reduceIte, reduceCtorEq, true_or, or_true, not_true_eq_false, not_false_eq_true, false_and, and_false, true_implies, false_implies, not_false_eq_true, bqX3_guessTimes_0, blX3_guessTimes_0, bqX3_guessTimes_14, blX3_guessTimes_14, bqX3_guessTimes_29, blX3_guessTimes_29, bqX3_guessTimes_30, blX3_guessTimes_30, bqX3_guessTimes_39, blX3_guessTimes_39, bqX3_guessTimes_41, blX3_guessTimes_41, bqX3_guessTimes_85, blX3_guessTimes_85, bqX3_guessTimes_100, blX3_guessTimes_100, bqX3_guessTimes_101, blX3_guessTimes_101, bqX3_guessTimes_111, blX3_guessTimes_111, bqX3_guessTimes_123, blX3_guessTimes_123, bqX3_guessTimes_124, blX3_guessTimes_124, bqX3_guessTimes_129, blX3_guessTimes_129, bqX3_guessTimes_135, blX3_guessTimes_135, bqX3_guessTimes_144, blX3_guessTimes_144, bqX3_guessTimes_153, blX3_guessTimes_153, bqX3_guessTimes_170, blX3_guessTimes_170, bqX3_guessTimes_183, blX3_guessTimes_183, bqX3_guessTimes_189, blX3_guessTimes_189, hO, hO2, hA, hA2, z2, i2, nI_clamp (show e < 2 ^ 31 by omega), nF_at, l1, s2, i3, nI_clamp (show e - 1 < 2 ^ 31 by omega), l2, wb_shl _ (show 31 < 64 by decide), o1, z3, d1, d2, c1]
      have hp : gtP q t T 0 0 := by
        rw [hq, ht, hTe, he, hw1]
        rw [hw1] at hlt
        exact gt_w1 (h := fun k => h (pl + k)) (d := d) (by rw [← show w - 1 = 0 by omega, ← hTe]; exact hT) hlt
      exact at101 _ _ (if_neg (by omega)).symm (if_neg (by omega)).symm hp (by decide) (by decide)
  refine hb.run (aCuts [30, 101, 124, 129] J) 60 0 _ _ _ _ _ _ (aCuts_ok _) ?_
  simp only [↓wpi_isub, ↓wpi_lsub, ↓wpi_ineg, ↓wpi_lneg, ↓wpi_irem, ↓wpi_lrem, ↓wpi_iinc, wp1, wp, wpl, wpi, lget, lput1, lput2, ltail, lkill, aV, aVl, aNth, aPut, aFz, aC0, aC2, aSw, aCat1, aCuts, aSet_eq, List.take, List.drop, List.reverse_cons, List.reverse_nil, List.nil_append, List.cons_append, List.length_cons, List.length_nil, Option.toList, true_and, and_true, Nat.reduceAdd, Nat.reduceEqDiff, Nat.reduceLT, Nat.reduceLeDiff, Nat.zero_add, Nat.add_zero, if_true, if_false, ite_true, ite_false, reduceIte, reduceCtorEq, true_or, or_true, not_true_eq_false, not_false_eq_true, false_and, and_false, true_implies, false_implies, not_false_eq_true, bqX3_guessTimes_0, blX3_guessTimes_0, bqX3_guessTimes_14, blX3_guessTimes_14, bqX3_guessTimes_29, blX3_guessTimes_29, bqX3_guessTimes_30, blX3_guessTimes_30, bqX3_guessTimes_39, blX3_guessTimes_39, bqX3_guessTimes_41, blX3_guessTimes_41, bqX3_guessTimes_85, blX3_guessTimes_85, bqX3_guessTimes_100, blX3_guessTimes_100, bqX3_guessTimes_101, blX3_guessTimes_101, bqX3_guessTimes_111, blX3_guessTimes_111, bqX3_guessTimes_123, blX3_guessTimes_123, bqX3_guessTimes_124, blX3_guessTimes_124, bqX3_guessTimes_129, blX3_guessTimes_129, bqX3_guessTimes_135, blX3_guessTimes_135, bqX3_guessTimes_144, blX3_guessTimes_144, bqX3_guessTimes_153, blX3_guessTimes_153, bqX3_guessTimes_170, blX3_guessTimes_170, bqX3_guessTimes_183, blX3_guessTimes_183, bqX3_guessTimes_189, blX3_guessTimes_189, aArgs, List.replicate, hO, hO2, hA2, pw, z1, s1, i1, nI_clamp (show w - 1 < 2 ^ 31 by omega), nF_at, lT]
  exact at30
end NAT12
