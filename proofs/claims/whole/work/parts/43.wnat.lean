/-! ===== Natural's contracts over the registers ===== -/
section WNAT
variable {l : Launch} {G : aG} {base tA : Nat} {Z ρ : Nat → Nat} {sg : Nat → Bool} {N : aN} {O0 O : aO} {A0 A : aA} {i j c e : Nat}
theorem w_isZero (h : cW tA Z ρ sg N O0 A0 O A) (hi : i < 15) : aMet l G base tA yX3_isZero cX3_isZero 1 (some .boolean) rmZ [.ref (Z i)] O A (fun r O' A' => r = some (.int (bI (decide (ρ i = 0)))) ∧ O' = O ∧ A' = A) := by
  obtain ⟨g, u, q1, q2, q3⟩ := h.reg hi
  exact ct_X3_isZero q1 q2
theorem w_isOdd (h : cW tA Z ρ sg N O0 A0 O A) (hi : i < 15) : aMet l G base tA yX3_isOdd cX3_isOdd 1 (some .boolean) rmZ [.ref (Z i)] O A (fun r O' A' => r = some (.int (bI (decide (ρ i % 2 = 1)))) ∧ O' = O ∧ A' = A) := by
  obtain ⟨g, u, q1, q2, q3⟩ := h.reg hi
  exact ct_X3_isOdd q1 q2 q3
theorem w_timesPlus (h : cW tA Z ρ sg N O0 A0 O A) (hi : i < 15) {f m : Nat} (hf1 : 0 < f) (hf : f < 2147483648) (hm : m < 2147483648) (hmax : ρ i * f + m < 2147483648 ^ 20) : aMet l G base tA yX3_timesPlus cX3_timesPlus 6 none rmZ [.ref (Z i), .int (nI f), .int (nI m)] O A (fun r O' A' => r = none ∧ cW tA Z (rU ρ i (ρ i * f + m)) sg N O0 A0 O' A') := by
  obtain ⟨g, u, q1, q2, q3⟩ := h.reg hi
  refine (ct_X3_timesPlus q1 q2 q3 hf1 hf hm hmax).mono ?_
  rintro r O' A' ⟨rfl, g', u', k, rfl, rfl⟩
  exact ⟨rfl, h.set hi k⟩
theorem w_copy (h : cW tA Z ρ sg N O0 A0 O A) (hi : i < 15) (hj : j < 15) (hij : i ≠ j) : aMet l G base tA yX3_copy cX3_copy 3 none rmA [.ref (Z i), .ref (Z j)] O A (fun r O' A' => r = none ∧ cW tA Z (rU ρ i (ρ j)) sg N O0 A0 O' A') := by
  have z : zN N = 40 + 2 * N 0 0 := rfl
  obtain ⟨g, u, q1, q2, q3⟩ := h.reg hi
  obtain ⟨g2, u2, p1, p2, p3⟩ := h.reg hj
  refine (ct_X3_copy (h.inj (by omega) (by omega) hij) (h.inj (by omega) (by omega) (by omega)) q1 q2 q3 p1 p2 p3).mono ?_
  rintro r O' A' ⟨rfl, g', k, rfl, rfl⟩
  exact ⟨rfl, h.set hi k⟩
theorem w_become (h : cW tA Z ρ sg N O0 A0 O A) (hi : i < 15) {w : Nat} (hw : w < 2 ^ 64) : aMet l G base tA yX3_become cX3_become 3 none rmA [.ref (Z i), .long (lN w)] O A (fun r O' A' => r = none ∧ cW tA Z (rU ρ i w) sg N O0 A0 O' A') := by
  obtain ⟨g, u, q1, q2, q3⟩ := h.reg hi
  refine (ct_X3_become hw q1 q2 q3).mono ?_
  rintro r O' A' ⟨rfl, g', u', k, rfl, rfl⟩
  exact ⟨rfl, h.set hi k⟩
theorem w_lowBits (h : cW tA Z ρ sg N O0 A0 O A) (hi : i < 15) : aMet l G base tA yX3_lowBits cX3_lowBits 1 (some .long) rmZ [.ref (Z i)] O A (fun r O' A' => r = some (.long (lN (ρ i))) ∧ O' = O ∧ A' = A) := by
  obtain ⟨g, u, q1, q2, q3⟩ := h.reg hi
  exact ct_X3_lowBits q1 q2 q3
theorem w_bitLength (h : cW tA Z ρ sg N O0 A0 O A) (hi : i < 15) : aMet l G base tA yX3_bitLength cX3_bitLength 1 (some .int) rmA [.ref (Z i)] O A (fun r O' A' => r = some (.int (nI (blen (ρ i)))) ∧ O' = O ∧ A' = A) := by
  obtain ⟨g, u, q1, q2, q3⟩ := h.reg hi
  exact ct_X3_bitLength q1 q2 q3
theorem w_against (h : cW tA Z ρ sg N O0 A0 O A) (hi : i < 15) (hj : j < 15) : aMet l G base tA yX3_against cX3_against 3 (some .int) rmZ [.ref (Z i), .ref (Z j)] O A (fun r O' A' => r = some (.int (cmpI (ρ i) (ρ j))) ∧ O' = O ∧ A' = A) := by
  obtain ⟨g, u, q1, q2, q3⟩ := h.reg hi
  obtain ⟨g2, u2, p1, p2, p3⟩ := h.reg hj
  exact ct_X3_against q1 q2 q3 p1 p2 p3
theorem w_plus (h : cW tA Z ρ sg N O0 A0 O A) (hi : i < 15) (hj : j < 15) (hij : i ≠ j) (hmax : ρ i + ρ j < 2147483648 ^ 20) : aMet l G base tA yX3_plus cX3_plus 6 none rmB [.ref (Z i), .ref (Z j)] O A (fun r O' A' => r = none ∧ cW tA Z (rU ρ i (ρ i + ρ j)) sg N O0 A0 O' A') := by
  have z : zN N = 40 + 2 * N 0 0 := rfl
  obtain ⟨g, u, q1, q2, q3⟩ := h.reg hi
  obtain ⟨g2, u2, p1, p2, p3⟩ := h.reg hj
  refine (ct_X3_plus (h.inj (by omega) (by omega) hij) (h.inj (by omega) (by omega) (by omega)) q1 q2 q3 p1 p2 p3 hmax).mono ?_
  rintro r O' A' ⟨rfl, g', u', k, rfl, rfl⟩
  exact ⟨rfl, h.set hi k⟩
theorem w_minus (h : cW tA Z ρ sg N O0 A0 O A) (hi : i < 15) (hj : j < 15) (hij : i ≠ j) (hle : ρ j ≤ ρ i) : aMet l G base tA yX3_minus cX3_minus 5 none rmA [.ref (Z i), .ref (Z j)] O A (fun r O' A' => r = none ∧ cW tA Z (rU ρ i (ρ i - ρ j)) sg N O0 A0 O' A') := by
  have z : zN N = 40 + 2 * N 0 0 := rfl
  obtain ⟨g, u, q1, q2, q3⟩ := h.reg hi
  obtain ⟨g2, u2, p1, p2, p3⟩ := h.reg hj
  refine (ct_X3_minus (h.inj (by omega) (by omega) hij) (h.inj (by omega) (by omega) (by omega)) q1 q2 q3 p1 p2 p3 hle).mono ?_
  rintro r O' A' ⟨rfl, g', u', k, rfl, rfl⟩
  exact ⟨rfl, h.set hi k⟩
theorem w_timesTenTo (h : cW tA Z ρ sg N O0 A0 O A) (hi : i < 15) {p : Nat} (hp : p < 1000) (hmax : ρ i * 10 ^ p < 2147483648 ^ 20) : aMet l G base tA yX3_timesTenTo cX3_timesTenTo 3 none rmC [.ref (Z i), .int (nI p)] O A (fun r O' A' => r = none ∧ cW tA Z (rU ρ i (ρ i * 10 ^ p)) sg N O0 A0 O' A') := by
  obtain ⟨g, u, q1, q2, q3⟩ := h.reg hi
  obtain ⟨tf, t1, t2⟩ := h.tens
  refine (ct_X3_timesTenTo q1 q2 q3 t1 t2 hp hmax).mono ?_
  rintro r O' A' ⟨rfl, g', u', k, rfl, rfl⟩
  exact ⟨rfl, h.set hi k⟩
set_option maxHeartbeats 1000000 in
theorem ct_X3_timesTenTo0 {a : Nat} {x : Int32} (hx : x ≤ 0) : aMet l G base tA yX3_timesTenTo cX3_timesTenTo 3 none rmC [.ref a, .int x] O A (fun r O' A' => r = none ∧ O' = O ∧ A' = A) := by
  refine aMet_of2 (ini := false) (B := aLook bkX3_timesTenTo) (by decide) (fun h => by first | rfl | cases h) (Nat.le_of_ble_eq_true rfl) boX3_timesTenTo ?_
  intro E J hb
  have ex : (x ≤ 0) = True := by simp [hx]
  refine hb.1.run (aCuts [2, 16, 21] J) 60 0 _ _ _ _ _ _ (aCuts_ok _) ?_
  simp only [wp1, wp, wpl, wpi, lget, lput1, lput2, ltail, lkill, aV, aVl, aNth, aPut, aFz, aC0, aC2, aSw, aCat1, aCuts, aSet_eq, List.take, List.drop, List.reverse_cons, List.reverse_nil, List.nil_append, List.cons_append, List.length_cons, List.length_nil, Option.toList, true_and, and_true, Nat.reduceAdd, Nat.reduceEqDiff, Nat.reduceLT, Nat.reduceLeDiff, Nat.zero_add, Nat.add_zero, if_true, if_false, ite_true, ite_false, reduceIte, reduceCtorEq, true_or, or_true, not_true_eq_false, not_false_eq_true, false_and, and_false, true_implies, false_implies, not_false_eq_true, bqX3_timesTenTo_0, blX3_timesTenTo_0, bqX3_timesTenTo_2, blX3_timesTenTo_2, bqX3_timesTenTo_6, blX3_timesTenTo_6, bqX3_timesTenTo_16, blX3_timesTenTo_16, bqX3_timesTenTo_21, blX3_timesTenTo_21, bqX3_timesTenTo_27, blX3_timesTenTo_27, aArgs, List.replicate]
  refine hb.1.run (aCuts [2, 16, 21] J) 60 2 _ _ _ _ _ _ (aCuts_ok _) ?_
  simp only [wp1, wp, wpl, wpi, lget, lput1, lput2, ltail, lkill, aV, aVl, aNth, aPut, aFz, aC0, aC2, aSw, aCat1, aCuts, aSet_eq, List.take, List.drop, List.reverse_cons, List.reverse_nil, List.nil_append, List.cons_append, List.length_cons, List.length_nil, Option.toList, true_and, and_true, Nat.reduceAdd, Nat.reduceEqDiff, Nat.reduceLT, Nat.reduceLeDiff, Nat.zero_add, Nat.add_zero, if_true, if_false, ite_true, ite_false, reduceIte, reduceCtorEq, true_or, or_true, not_true_eq_false, not_false_eq_true, false_and, and_false, true_implies, false_implies, not_false_eq_true, bqX3_timesTenTo_0, blX3_timesTenTo_0, bqX3_timesTenTo_2, blX3_timesTenTo_2, bqX3_timesTenTo_6, blX3_timesTenTo_6, bqX3_timesTenTo_16, blX3_timesTenTo_16, bqX3_timesTenTo_21, blX3_timesTenTo_21, bqX3_timesTenTo_27, blX3_timesTenTo_27, ex]
  exact hb.1.vret ⟨rfl, rfl, rfl⟩ (by decide) (by decide)
theorem pow_le' {a b c d : Nat} (h : a ^ b ≤ c) (h2 : c < a ^ d) (h1 : 1 < a) : b < d := by
  rcases Nat.lt_or_ge b d with q | q
  · exact q
  · have := Nat.pow_le_pow_right (show 0 < a by omega) q
    omega
theorem nRep_top {g : Nat → Nat} {u v : Nat} (h : nRep g u v) (h0 : 0 < u) : 2147483648 ^ (u - 1) ≤ v := by
  rw [h.2.2.2.2]; exact nVal_ge h0 (h.2.2.2.1 h0)
theorem prod_used {g2 g3 : Nat → Nat} {u2 v2 u3 v3 : Nat} (h2 : nRep g2 u2 v2) (h3 : nRep g3 u3 v3) (hm : v2 * v3 < 2147483648 ^ 19) : u2 + u3 ≤ 20 := by
  rcases Nat.eq_zero_or_pos u2 with q | q
  · have := h3.1; omega
  · rcases Nat.eq_zero_or_pos u3 with p | p
    · have := h2.1; omega
    · have a1 := nRep_top h2 q
      have a2 := nRep_top h3 p
      have a3 := Nat.mul_le_mul a1 a2
      rw [← Nat.pow_add] at a3
      have := pow_le' a3 hm (by decide)
      omega
theorem w_becomeProduct (h : cW tA Z ρ sg N O0 A0 O A) (hi : i < 15) (hj : j < 15) (hc : c < 15) (hij : i ≠ j) (hic : i ≠ c) (hmax : ρ j * ρ c < 2147483648 ^ 19) : aMet l G base tA yX3_becomeProduct cX3_becomeProduct 7 none rmA [.ref (Z i), .ref (Z j), .ref (Z c)] O A (fun r O' A' => r = none ∧ cW tA Z (rU ρ i (ρ j * ρ c)) sg N O0 A0 O' A') := by
  have z : zN N = 40 + 2 * N 0 0 := rfl
  obtain ⟨g, u, q1, q2, q3⟩ := h.reg hi
  obtain ⟨g2, u2, p1, p2, p3⟩ := h.reg hj
  obtain ⟨g3, u3, r1, r2, r3⟩ := h.reg hc
  refine (ct_X3_becomeProduct (h.inj (by omega) (by omega) hij) (h.inj (by omega) (by omega) (by omega)) (h.inj (by omega) (by omega) hic) (h.inj (by omega) (by omega) (by omega)) q1 q2 q3 p1 p2 p3 r1 r2 r3 (prod_used p1 r1 hmax)).mono ?_
  rintro r O' A' ⟨rfl, g', u', k, rfl, rfl⟩
  exact ⟨rfl, h.set hi k⟩
theorem w_takeDigit (h : cW tA Z ρ sg N O0 A0 O A) (hi : i < 15) : aMet l G base tA yX3_takeDigit cX3_takeDigit 4 (some .int) rmA [.ref (Z i)] O A (fun r O' A' => r = some (.int (nI (ρ i % 10))) ∧ cW tA Z (rU ρ i (ρ i / 10)) sg N O0 A0 O' A') := by
  obtain ⟨g, u, q1, q2, q3⟩ := h.reg hi
  refine (ct_X3_takeDigit q1 q2 q3).mono ?_
  rintro r O' A' ⟨rfl, g', u', k, rfl, rfl⟩
  exact ⟨rfl, h.set hi k⟩
abbrev rmE : Room := { frames := 3, cells := 0, slots := 0, locals := 80 }
theorem w_takeOctet (h : cW tA Z ρ sg N O0 A0 O A) (hi : i < 15) : aMet l G base tA yX3_takeOctet cX3_takeOctet 2 (some .int) rmE [.ref (Z i)] O A (fun r O' A' => r = some (.int (nI (ρ i % 256))) ∧ cW tA Z (rU ρ i (ρ i / 256)) sg N O0 A0 O' A') := by
  obtain ⟨g, u, q1, q2, q3⟩ := h.reg hi
  refine (ct_X3_takeOctet q1 q2 q3).mono ?_
  rintro r O' A' ⟨rfl, g', u', k, rfl, rfl⟩
  exact ⟨rfl, h.set hi k⟩
theorem w_shiftLeft (h : cW tA Z ρ sg N O0 A0 O A) (hi : i < 15) {n : Nat} (hn : n < 10000) (hmax : ρ i * 2 ^ n < 2147483648 ^ 19) : aMet l G base tA yX3_shiftLeft cX3_shiftLeft 7 none rmA [.ref (Z i), .int (nI n)] O A (fun r O' A' => r = none ∧ cW tA Z (rU ρ i (ρ i * 2 ^ n)) sg N O0 A0 O' A') := by
  obtain ⟨g, u, q1, q2, q3⟩ := h.reg hi
  refine (ct_X3_shiftLeft q1 q2 q3 hn hmax).mono ?_
  rintro r O' A' ⟨rfl, g', u', k, rfl, rfl⟩
  exact ⟨rfl, h.set hi k⟩
theorem w_divide (h : cW tA Z ρ sg N O0 A0 O A) (hi : i < 15) (hj : j < 15) (hc : c < 15) (he : e < 15) (h1 : i ≠ j) (h2 : i ≠ c) (h3 : i ≠ e) (h4 : j ≠ c) (h5 : j ≠ e) (h6 : c ≠ e) (h0 : 0 < ρ j) (hmax : ρ i < 2147483648 ^ 18) : aMet l G base tA yX3_divide cX3_divide 7 none rmD [.ref (Z i), .ref (Z j), .ref (Z c), .ref (Z e)] O A (fun r O' A' => r = none ∧ ∃ s, cW tA Z (rU (rU (rU ρ i (ρ i % ρ j)) c (ρ i / ρ j)) e s) sg N O0 A0 O' A') := by
  have z : zN N = 40 + 2 * N 0 0 := rfl
  obtain ⟨g, u, q1, q2, q3⟩ := h.reg hi
  obtain ⟨g2, u2, p1, p2, p3⟩ := h.reg hj
  obtain ⟨g3, u3, r1, r2, r3⟩ := h.reg hc
  obtain ⟨g4, u4, t1, t2, t3⟩ := h.reg he
  have hne : ∀ x y, x < 40 → y < 40 → x ≠ y → Z x ≠ Z y := fun x y hx hy hxy => h.inj (by omega) (by omega) hxy
  have M := ct_X3_divide (l := l) (G := G) (base := base) (tA := tA) (O := O) (A := A) (hv := q1) (hO := q2) (hA := q3) (hv2 := p1) (hO2 := p2) (hA2 := p3) (hv3 := r1) (hO3 := r2) (hA3 := r3) (hv4 := t1) (hO4 := t2) (hA4 := t3) (h0 := h0) (hmax := hmax)
    (hne _ _ (by omega) (by omega) (by omega)) (hne _ _ (by omega) (by omega) (by omega)) (hne _ _ (by omega) (by omega) (by omega)) (hne _ _ (by omega) (by omega) (by omega)) (hne _ _ (by omega) (by omega) (by omega)) (hne _ _ (by omega) (by omega) (by omega)) (hne _ _ (by omega) (by omega) (by omega)) (hne _ _ (by omega) (by omega) (by omega)) (hne _ _ (by omega) (by omega) (by omega)) (hne _ _ (by omega) (by omega) (by omega)) (hne _ _ (by omega) (by omega) (by omega)) (hne _ _ (by omega) (by omega) (by omega))
  refine M.mono ?_
  rintro r O' A' ⟨rfl, ga, ua, gq, uq, gs, us, vs, a1, a2, a3, b1, b2, b3, b4, c1, c2, c3, c4⟩
  refine ⟨rfl, vs, h.regs (fun k hk => ?_) (fun x hx => b4 x (hx i hi) (hx c hc) (hx e he)) (fun x hx => c4 x (hx i hi) (hx c hc) (hx e he))⟩
  by_cases k1 : k = e
  · subst k1; exact ⟨gs, us, by rw [rU_eq]; exact a3, b3, c3⟩
  · by_cases k2 : k = c
    · subst k2; exact ⟨gq, uq, by rw [rU_ne k1, rU_eq]; exact a2, b2, c2⟩
    · by_cases k3 : k = i
      · subst k3; exact ⟨ga, ua, by rw [rU_ne k1, rU_ne k2, rU_eq]; exact a1, b1, c1⟩
      · obtain ⟨g', u', y1, y2, y3⟩ := h.reg hk
        refine ⟨g', u', by rw [rU_ne k1, rU_ne k2, rU_ne k3]; exact y1, ?_, ?_⟩
        · rw [b4 _ (hne _ _ (by omega) (by omega) k3) (hne _ _ (by omega) (by omega) k2) (hne _ _ (by omega) (by omega) k1)]; exact y2
        · rw [c4 _ (hne _ _ (by omega) (by omega) (by omega)) (hne _ _ (by omega) (by omega) (by omega)) (hne _ _ (by omega) (by omega) (by omega))]; exact y3
end WNAT
