section NAT9
variable {l : Launch} {G : aG} {base tA : Nat} {O : aO} {A : aA} {a la : Nat} {g : Nat → Nat} {u v : Nat}
theorem mul_pow_mod {x s : Nat} (hs : s ≤ 31) : x * 2 ^ (31 - s) % 2147483648 = x % 2 ^ s * 2 ^ (31 - s) := by
  have e : (2147483648 : Nat) = 2 ^ s * 2 ^ (31 - s) := by rw [← Nat.pow_add, show s + (31 - s) = 31 by omega]
  rw [e, Nat.mul_mod_mul_right]
/-- a limb of the number shifted right -/
theorem shr_limb {x y s : Nat} (hs : s < 31) (hy : y < 2147483648) : (x * 2147483648 + y) / 2 ^ s % 2147483648 = y / 2 ^ s + x % 2 ^ s * 2 ^ (31 - s) ∧ y / 2 ^ s + x % 2 ^ s * 2 ^ (31 - s) < 2147483648 := by
  have e : (2147483648 : Nat) = 2 ^ (31 - s) * 2 ^ s := by rw [← Nat.pow_add, show 31 - s + s = 31 by omega]
  have h1 : (x * 2147483648 + y) / 2 ^ s = x * 2 ^ (31 - s) + y / 2 ^ s := by
    conv => lhs; rw [e, ← Nat.mul_assoc, Nat.add_comm, Nat.add_mul_div_right _ _ (Nat.two_pow_pos s)]
    rw [Nat.add_comm]
  have h2 : y / 2 ^ s < 2 ^ (31 - s) := by
    rw [Nat.div_lt_iff_lt_mul (Nat.two_pow_pos s), ← e]; exact hy
  have h3 : x % 2 ^ s + 1 ≤ 2 ^ s := Nat.mod_lt _ (Nat.two_pow_pos s)
  have h4 : (x % 2 ^ s + 1) * 2 ^ (31 - s) ≤ 2 ^ s * 2 ^ (31 - s) := Nat.mul_le_mul_right _ h3
  have h5 : y / 2 ^ s + x % 2 ^ s * 2 ^ (31 - s) < 2147483648 := by
    rw [Nat.add_mul] at h4
    have e2 : (2147483648 : Nat) = 2 ^ s * 2 ^ (31 - s) := by rw [e, Nat.mul_comm]
    omega
  refine ⟨?_, h5⟩
  rw [h1, Nat.add_mod, mul_pow_mod (by omega), Nat.mod_eq_of_lt (show y / 2 ^ s < 2147483648 from Nat.lt_of_le_of_lt (Nat.div_le_self _ _) hy), Nat.add_comm]
  exact Nat.mod_eq_of_lt h5
theorem shr_step {N M q r r' R T S P B : Nat} (hB : B = T * S) (ih : S * N + R = M + r * P) : S * (N + (q + r' * T) * P) + R = M + (S * q + r) * P + r' * (P * B) := by
  subst hB
  grind
set_option maxHeartbeats 4000000 in
theorem ct_X3_shiftRight (hv : nRep g u v) (hO : O a = some (4, [.ref la, .int (nI u)])) (hA : A la = some (0, 20, .inl (nF g))) {s : Nat} (hs : s < 31) : aMet l G base tA yX3_shiftRight cX3_shiftRight 5 none rmA [.ref a, .int (nI s)] O A (fun r O' A' => r = none ∧ ∃ g' u', nRep g' u' (v / 2 ^ s) ∧ O' = aSet O a (4, [.ref la, .int (nI u')]) ∧ A' = aSet A la (0, 20, .inl (nF g'))) := by
  refine aMet_of (ini := false) (B := aLook bkX3_shiftRight) (by decide) (fun h => by first | rfl | cases h) (Nat.le_of_ble_eq_true rfl) boX3_shiftRight ?_
  intro E J hb
  obtain ⟨h1, h2, h3, h4, h5⟩ := hv
  obtain ⟨gx, hgx⟩ : ∃ gx : Nat → Nat, gx = fun k => if k < u then g k else 0 := ⟨_, rfl⟩
  have loop : ∀ (n i : Nat) (h : Nat → Nat) (x3 x4 : Option Value), u - i < n → i ≤ u → (∀ k, k < 20 → h k < 2147483648) → (∀ k, i ≤ k → h k = g k) → 2 ^ s * nVal h i + gx 0 % 2 ^ s = nVal g i + gx i % 2 ^ s * 2147483648 ^ i → J 2 [some (.ref a), some (.int (nI s)), some (.int (nI i)), x3, x4] [] O (aSet A la (0, 20, .inl (nF h))) 0 0 := by
    intro n
    induction n with
    | zero => intro i h x3 x4 hn; omega
    | succ n ih =>
      intro i h x3 x4 hn hi p1 p2 p3
      refine hb.run (aCuts [2, 72] J) 60 2 _ _ _ _ _ _ (aCuts_ok _) ?_
      rcases Nat.lt_or_ge i u with q | q
      · have hgi := h2 i (by omega)
        have e1 : vp_in (nI i) 20 := vp_in_nI (by omega) (by decide)
        have e2 : (nI u ≤ nI i) = False := by rw [nI_leI (by omega) (by omega)]; simp; omega
        have fin : ∀ y, y = gx (i + 1) → y < 2147483648 → J 2 [some (.ref a), some (.int (nI s)), some (.int (nI (i + 1))), some (.long (lN y)), none] [] O (aSet A la (0, 20, .inl (nF (uN9 h i ((y * 2147483648 + g i) / 2 ^ s % 2147483648))))) 0 0 := by
          intro y hy hyl
          obtain ⟨w1, w2⟩ := shr_limb (x := y) hs hgi
          refine ih (i + 1) _ _ _ (by omega) (by omega) (fun k hk => ?_) (fun k hk => ?_) ?_
          · by_cases e : k = i
            · rw [e, uN9_eq]; exact Nat.mod_lt _ (by decide)
            · rw [uN9_ne e]; exact p1 k hk
          · rw [uN9_ne (by omega)]; exact p2 k (by omega)
          · rw [nVal_push, w1, nVal_succ g i, Nat.pow_succ, ← hy]
            have hgi2 : gx i = g i := by rw [hgx]; exact if_pos q
            rw [hgi2] at p3
            have hdm := Nat.div_add_mod (g i) (2 ^ s)
            have := shr_step (N := nVal h i) (M := nVal g i) (q := g i / 2 ^ s) (r := g i % 2 ^ s) (r' := y % 2 ^ s) (R := gx 0 % 2 ^ s) (T := 2 ^ (31 - s)) (S := 2 ^ s) (P := 2147483648 ^ i) (B := 2147483648) (by rw [← Nat.pow_add, show 31 - s + s = 31 by omega]) p3
            rw [hdm] at this
            exact this
        have o1 : ∀ y, y < 2147483648 → lN (y * 2 ^ 31) ||| lN (g i) = lN (y * 2147483648 + g i) := fun y hy => g_or rfl (by omega) (by omega)
        have o2 : ∀ y, y < 2147483648 → lN (y * 2147483648 + g i) >>> ((nI s).toInt64 &&& 63) = lN ((y * 2147483648 + g i) / 2 ^ s) := fun y hy => lN_sar (by omega) (by omega)
        rcases Nat.lt_or_ge (i + 1) u with t | t
        · have hgi1 := h2 (i + 1) (by omega)
          have e3 : vp_in (nI (i + 1)) 20 := vp_in_nI (by omega) (by decide)
          have e4 : (nI u ≤ nI (i + 1)) = False := by rw [nI_leI (by omega) (by omega)]; simp; omega
          simp only [wp1, wp, wpl, wpi, lget, lput1, lput2, ltail, lkill, aV, aVl, aNth, aPut, aFz, aC0, aC2, aSw, aCat1, aCuts, aSet_eq, List.take, List.drop, List.reverse_cons, List.reverse_nil, List.nil_append, List.cons_append, List.length_cons, List.length_nil, Option.toList, true_and, and_true, Nat.reduceAdd, Nat.reduceEqDiff, Nat.reduceLT, Nat.reduceLeDiff, Nat.zero_add, Nat.add_zero, if_true, if_false, ite_true, ite_false, reduceIte, reduceCtorEq, true_or, or_true, not_true_eq_false, not_false_eq_true, false_and, and_false, true_implies, false_implies, not_false_eq_true, bqX3_shiftRight_0, blX3_shiftRight_0, bqX3_shiftRight_2, blX3_shiftRight_2, bqX3_shiftRight_10, blX3_shiftRight_10, bqX3_shiftRight_20, blX3_shiftRight_20, bqX3_shiftRight_32, blX3_shiftRight_32, bqX3_shiftRight_33, blX3_shiftRight_33, bqX3_shiftRight_64, blX3_shiftRight_64, bqX3_shiftRight_72, blX3_shiftRight_72, hO, e1, e2, e3, e4, nI_add, nI_clamp (show i < 2 ^ 31 by omega), nI_clamp (show i + 1 < 2 ^ 31 by omega), nF_at, p2 i (Nat.le_refl i), p2 (i + 1) (by omega), nI_l (show g i < 2 ^ 31 by omega), nI_l (show g (i + 1) < 2 ^ 31 by omega), wb_shl _ (show 31 < 64 by decide), o1 _ hgi1, o2 _ hgi1, lN_i, nI_mask, nF_upd, aSet_aSet, nI_inc]
          exact fin _ (by rw [hgx]; exact (if_pos t).symm) hgi1
        · have e4 : (nI u ≤ nI (i + 1)) = True := by simp only [eq_iff_iff, iff_true]; exact (nI_leI (by omega) (by omega)).mpr t
          simp only [wp1, wp, wpl, wpi, lget, lput1, lput2, ltail, lkill, aV, aVl, aNth, aPut, aFz, aC0, aC2, aSw, aCat1, aCuts, aSet_eq, List.take, List.drop, List.reverse_cons, List.reverse_nil, List.nil_append, List.cons_append, List.length_cons, List.length_nil, Option.toList, true_and, and_true, Nat.reduceAdd, Nat.reduceEqDiff, Nat.reduceLT, Nat.reduceLeDiff, Nat.zero_add, Nat.add_zero, if_true, if_false, ite_true, ite_false, reduceIte, reduceCtorEq, true_or, or_true, not_true_eq_false, not_false_eq_true, false_and, and_false, true_implies, false_implies, not_false_eq_true, bqX3_shiftRight_0, blX3_shiftRight_0, bqX3_shiftRight_2, blX3_shiftRight_2, bqX3_shiftRight_10, blX3_shiftRight_10, bqX3_shiftRight_20, blX3_shiftRight_20, bqX3_shiftRight_32, blX3_shiftRight_32, bqX3_shiftRight_33, blX3_shiftRight_33, bqX3_shiftRight_64, blX3_shiftRight_64, bqX3_shiftRight_72, blX3_shiftRight_72, hO, e1, e2, e4, nI_add, nI_clamp (show i < 2 ^ 31 by omega), nF_at, p2 i (Nat.le_refl i), nI_l (show g i < 2 ^ 31 by omega), wb_shl _ (show 31 < 64 by decide), o1 0 (by decide), o2 0 (by decide), lN_i, nI_mask, nF_upd, aSet_aSet, nI_inc]
          exact fin 0 (by rw [hgx]; exact (if_neg (by omega)).symm) (by decide)
      · have e : i = u := by omega
        subst e
        have e2 : (nI i ≤ nI i) = True := by simp
        simp only [wp1, wp, wpl, wpi, lget, lput1, lput2, ltail, lkill, aV, aVl, aNth, aPut, aFz, aC0, aC2, aSw, aCat1, aCuts, aSet_eq, List.take, List.drop, List.reverse_cons, List.reverse_nil, List.nil_append, List.cons_append, List.length_cons, List.length_nil, Option.toList, true_and, and_true, Nat.reduceAdd, Nat.reduceEqDiff, Nat.reduceLT, Nat.reduceLeDiff, Nat.zero_add, Nat.add_zero, if_true, if_false, ite_true, ite_false, reduceIte, reduceCtorEq, true_or, or_true, not_true_eq_false, not_false_eq_true, false_and, and_false, true_implies, false_implies, not_false_eq_true, bqX3_shiftRight_0, blX3_shiftRight_0, bqX3_shiftRight_2, blX3_shiftRight_2, bqX3_shiftRight_10, blX3_shiftRight_10, bqX3_shiftRight_20, blX3_shiftRight_20, bqX3_shiftRight_32, blX3_shiftRight_32, bqX3_shiftRight_33, blX3_shiftRight_33, bqX3_shiftRight_64, blX3_shiftRight_64, bqX3_shiftRight_72, blX3_shiftRight_72, hO, e2]
        refine ⟨_, _, _, _, hb.callV lvX3_21 (ct_X3_settle (n := i) (by omega) p1 (fun k k1 k2 => by rw [p2 k k1]; exact h3 k k1 k2) hO aSet_eq) rfl hO (by decide) (by decide) (by decide), ?_, fun _ _ _ h => h.elim⟩
        rintro _ O' A' ⟨rfl, u', hu', rfl, rfl⟩
        refine hb.run (aCuts [2, 72] J) 60 72 _ _ _ _ _ _ (aCuts_ok _) ?_
        simp only [wp1, wp, wpl, wpi, lget, lput1, lput2, ltail, lkill, aV, aVl, aNth, aPut, aFz, aC0, aC2, aSw, aCat1, aCuts, aSet_eq, List.take, List.drop, List.reverse_cons, List.reverse_nil, List.nil_append, List.cons_append, List.length_cons, List.length_nil, Option.toList, true_and, and_true, Nat.reduceAdd, Nat.reduceEqDiff, Nat.reduceLT, Nat.reduceLeDiff, Nat.zero_add, Nat.add_zero, if_true, if_false, ite_true, ite_false, reduceIte, reduceCtorEq, true_or, or_true, not_true_eq_false, not_false_eq_true, false_and, and_false, true_implies, false_implies, not_false_eq_true, bqX3_shiftRight_0, blX3_shiftRight_0, bqX3_shiftRight_2, blX3_shiftRight_2, bqX3_shiftRight_10, blX3_shiftRight_10, bqX3_shiftRight_20, blX3_shiftRight_20, bqX3_shiftRight_32, blX3_shiftRight_32, bqX3_shiftRight_33, blX3_shiftRight_33, bqX3_shiftRight_64, blX3_shiftRight_64, bqX3_shiftRight_72, blX3_shiftRight_72]
        refine hb.vret ⟨rfl, h, u', ?_, rfl, rfl⟩ (by decide) (by decide)
        have hz : gx i = 0 := by rw [hgx]; exact if_neg (by omega)
        rw [hz, Nat.zero_mod, Nat.zero_mul, Nat.add_zero, ← h5] at p3
        have hd : v / 2 ^ s = nVal h i := by
          rw [← p3, Nat.add_comm, Nat.add_mul_div_left _ _ (Nat.two_pow_pos s), Nat.div_eq_of_lt (Nat.mod_lt _ (Nat.two_pow_pos s)), Nat.zero_add]
        rw [hd]; exact hu'
  refine hb.run (aCuts [2, 72] J) 60 0 _ _ _ _ _ _ (aCuts_ok _) ?_
  simp only [wp1, wp, wpl, wpi, lget, lput1, lput2, ltail, lkill, aV, aVl, aNth, aPut, aFz, aC0, aC2, aSw, aCat1, aCuts, aSet_eq, List.take, List.drop, List.reverse_cons, List.reverse_nil, List.nil_append, List.cons_append, List.length_cons, List.length_nil, Option.toList, true_and, and_true, Nat.reduceAdd, Nat.reduceEqDiff, Nat.reduceLT, Nat.reduceLeDiff, Nat.zero_add, Nat.add_zero, if_true, if_false, ite_true, ite_false, reduceIte, reduceCtorEq, true_or, or_true, not_true_eq_false, not_false_eq_true, false_and, and_false, true_implies, false_implies, not_false_eq_true, bqX3_shiftRight_0, blX3_shiftRight_0, bqX3_shiftRight_2, blX3_shiftRight_2, bqX3_shiftRight_10, blX3_shiftRight_10, bqX3_shiftRight_20, blX3_shiftRight_20, bqX3_shiftRight_32, blX3_shiftRight_32, bqX3_shiftRight_33, blX3_shiftRight_33, bqX3_shiftRight_64, blX3_shiftRight_64, bqX3_shiftRight_72, blX3_shiftRight_72, aArgs, List.replicate]
  have h0 := loop (u + 1) 0 g none none (by omega) (by omega) h2 (fun _ _ => rfl) (by rw [show nVal g 0 = 0 from rfl]; simp)
  rw [aSet_id hA] at h0
  exact h0
theorem dig_step {Vg V9 Tq left gj q r P B : Nat} (h1 : Vg + gj * P + P * B * (10 * Tq + left) = V9) (hd : 10 * q + r = left * B + gj) : Vg + P * (10 * (q + B * Tq) + r) = V9 := by
  have : P * (10 * q + r) = P * (left * B + gj) := by rw [hd]
  grind
theorem dig_step2 {Vg V V' Tq gj q P B : Nat} (h1 : V = Vg + gj * P + P * B * Tq) (hu : V' + gj * P = V + q * P) : V' = Vg + P * (q + B * Tq) := by
  grind
set_option maxHeartbeats 4000000 in
theorem ct_X3_takeDigit (hv : nRep g u v) (hO : O a = some (4, [.ref la, .int (nI u)])) (hA : A la = some (0, 20, .inl (nF g))) : aMet l G base tA yX3_takeDigit cX3_takeDigit 4 (some .int) rmA [.ref a] O A (fun r O' A' => r = some (.int (nI (v % 10))) ∧ ∃ g' u', nRep g' u' (v / 10) ∧ O' = aSet O a (4, [.ref la, .int (nI u')]) ∧ A' = aSet A la (0, 20, .inl (nF g'))) := by
  refine aMet_of (ini := false) (B := aLook bkX3_takeDigit) (by decide) (fun h => by first | rfl | cases h) (Nat.le_of_ble_eq_true rfl) boX3_takeDigit ?_
  intro E J hb
  obtain ⟨h1, h2, h3, h4, h5⟩ := hv
  have loop : ∀ (n j : Nat) (x : Int32) (left Tq : Nat) (h : Nat → Nat), x = nI j - nI 1 → j < n → j ≤ u → left < 10 → (∀ k, k < 20 → h k < 2147483648) → (∀ k, k < j ∨ u ≤ k → h k = g k) → nVal g j + 2147483648 ^ j * (10 * Tq + left) = v → nVal h u = nVal g j + 2147483648 ^ j * Tq → J 9 [some (.ref a), some (.long (lN left)), none, some (.int x)] [] O (aSet A la (0, 20, .inl (nF h))) 0 0 := by
    intro n
    induction n with
    | zero => intro j x left Tq h _ hn; omega
    | succ n ih =>
      intro j x left Tq h hx hn hj hl p1 p2 p3 p4
      rcases Nat.eq_zero_or_pos j with hz | hz
      · subst hz
        subst hx
        refine hb.run (aCuts [9, 58] J) 60 9 _ _ _ _ _ _ (aCuts_ok _) ?_
        simp only [wp1, wp, wpl, wpi, lget, lput1, lput2, ltail, lkill, aV, aVl, aNth, aPut, aFz, aC0, aC2, aSw, aCat1, aCuts, aSet_eq, List.take, List.drop, List.reverse_cons, List.reverse_nil, List.nil_append, List.cons_append, List.length_cons, List.length_nil, Option.toList, true_and, and_true, Nat.reduceAdd, Nat.reduceEqDiff, Nat.reduceLT, Nat.reduceLeDiff, Nat.zero_add, Nat.add_zero, if_true, if_false, ite_true, ite_false, reduceIte, reduceCtorEq, true_or, or_true, not_true_eq_false, not_false_eq_true, false_and, and_false, true_implies, false_implies, not_false_eq_true, bqX3_takeDigit_0, blX3_takeDigit_0, bqX3_takeDigit_9, blX3_takeDigit_9, bqX3_takeDigit_13, blX3_takeDigit_13, bqX3_takeDigit_50, blX3_takeDigit_50, bqX3_takeDigit_58, blX3_takeDigit_58, nI_neg1, hO]
        refine ⟨_, _, _, _, hb.callV lvX3_21 (ct_X3_settle (n := u) (by omega) p1 (fun k k1 k2 => by rw [p2 k (Or.inr k1)]; exact h3 k k1 k2) hO aSet_eq) rfl hO (by decide) (by decide) (by decide), ?_, fun _ _ _ h => h.elim⟩
        rintro _ O' A' ⟨rfl, u', hu', rfl, rfl⟩
        refine hb.run (aCuts [9, 58] J) 60 58 _ _ _ _ _ _ (aCuts_ok _) ?_
        simp only [wp1, wp, wpl, wpi, lget, lput1, lput2, ltail, lkill, aV, aVl, aNth, aPut, aFz, aC0, aC2, aSw, aCat1, aCuts, aSet_eq, List.take, List.drop, List.reverse_cons, List.reverse_nil, List.nil_append, List.cons_append, List.length_cons, List.length_nil, Option.toList, true_and, and_true, Nat.reduceAdd, Nat.reduceEqDiff, Nat.reduceLT, Nat.reduceLeDiff, Nat.zero_add, Nat.add_zero, if_true, if_false, ite_true, ite_false, reduceIte, reduceCtorEq, true_or, or_true, not_true_eq_false, not_false_eq_true, false_and, and_false, true_implies, false_implies, not_false_eq_true, bqX3_takeDigit_0, blX3_takeDigit_0, bqX3_takeDigit_9, blX3_takeDigit_9, bqX3_takeDigit_13, blX3_takeDigit_13, bqX3_takeDigit_50, blX3_takeDigit_50, bqX3_takeDigit_58, blX3_takeDigit_58, lN_i]
        rw [show nVal g 0 = 0 from rfl, Nat.pow_zero, Nat.one_mul, Nat.zero_add] at p3 p4
        refine hb.iret (nar_i _) ⟨?_, h, u', ?_, rfl, rfl⟩ (by decide) (by decide)
        · rw [show v % 10 = left by omega]
        · rw [show v / 10 = nVal h u by omega]; exact hu'
      · rw [nI_sub1 hz] at hx
        subst hx
        have hgj := h2 (j - 1) (by omega)
        have hhj : h (j - 1) = g (j - 1) := p2 (j - 1) (Or.inl (by omega))
        have e1 : vp_in (nI (j - 1)) 20 := vp_in_nI (by omega) (by decide)
        have o1 : lN (left * 2 ^ 31) ||| lN (g (j - 1)) = lN (left * 2147483648 + g (j - 1)) := g_or rfl (by omega) (by omega)
        obtain ⟨w, hw⟩ : ∃ w, w = left * 2147483648 + g (j - 1) := ⟨_, rfl⟩
        have hdv : lN w / lN 10 = lN (w / 10) := pk_lDiv (by omega) (by decide) (by decide)
        have hrem : lN w - lN (w / 10) * lN 10 = lN (w % 10) := by rw [← hdv]; exact pk_lRem (by omega) (by decide) (by decide)
        have hz10 : (lN 10 = 0) = False := by simp only [eq_iff_iff, iff_false]; decide +kernel
        refine hb.run (aCuts [9, 58] J) 60 9 _ _ _ _ _ _ (aCuts_ok _) ?_
        simp only [wp1, wp, wpl, wpi, lget, lput1, lput2, ltail, lkill, aV, aVl, aNth, aPut, aFz, aC0, aC2, aSw, aCat1, aCuts, aSet_eq, List.take, List.drop, List.reverse_cons, List.reverse_nil, List.nil_append, List.cons_append, List.length_cons, List.length_nil, Option.toList, true_and, and_true, Nat.reduceAdd, Nat.reduceEqDiff, Nat.reduceLT, Nat.reduceLeDiff, Nat.zero_add, Nat.add_zero, if_true, if_false, ite_true, ite_false, reduceIte, reduceCtorEq, true_or, or_true, not_true_eq_false, not_false_eq_true, false_and, and_false, true_implies, false_implies, not_false_eq_true, bqX3_takeDigit_0, blX3_takeDigit_0, bqX3_takeDigit_9, blX3_takeDigit_9, bqX3_takeDigit_13, blX3_takeDigit_13, bqX3_takeDigit_50, blX3_takeDigit_50, bqX3_takeDigit_58, blX3_takeDigit_58, nI_nneg (show j - 1 < 2 ^ 31 by omega), hO, e1, nI_clamp (show j - 1 < 2 ^ 31 by omega), nF_at, hhj, nI_l (show g (j - 1) < 2 ^ 31 by omega), wb_shl _ (show 31 < 64 by decide), o1, ← hw, hz10, hdv, hrem, lN_i, nF_upd, aSet_aSet]
        obtain ⟨i, hi⟩ : ∃ i, j = i + 1 := ⟨j - 1, by omega⟩
        have hji : j - 1 = i := by omega
        rw [hji] at hgj hw hhj ⊢
        have hgs : nVal g j = nVal g i + g i * 2147483648 ^ i := by rw [hi]; exact nVal_succ g i
        have hps : (2147483648 : Nat) ^ j = 2147483648 ^ i * 2147483648 := by rw [hi]; exact Nat.pow_succ ..
        refine ih i _ (w % 10) (w / 10 + 2147483648 * Tq) _ (nI_dec1 _) (by omega) (by omega) (by omega) (fun k hk => ?_) (fun k hk => ?_) ?_ ?_
        · by_cases e : k = i
          · rw [e, uN9_eq]; omega
          · rw [uN9_ne e]; exact p1 k hk
        · rw [uN9_ne (by omega)]; exact p2 k (by omega)
        · rw [hgs, hps] at p3
          exact dig_step p3 (by rw [← hw]; omega)
        · rw [hgs, hps] at p4
          have hu := nVal_upd (h := h) (p := i) (y := w / 10) (n := u) (by omega)
          rw [hhj] at hu
          exact dig_step2 p4 hu
  refine hb.run (aCuts [9, 58] J) 60 0 _ _ _ _ _ _ (aCuts_ok _) ?_
  simp only [wp1, wp, wpl, wpi, lget, lput1, lput2, ltail, lkill, aV, aVl, aNth, aPut, aFz, aC0, aC2, aSw, aCat1, aCuts, aSet_eq, List.take, List.drop, List.reverse_cons, List.reverse_nil, List.nil_append, List.cons_append, List.length_cons, List.length_nil, Option.toList, true_and, and_true, Nat.reduceAdd, Nat.reduceEqDiff, Nat.reduceLT, Nat.reduceLeDiff, Nat.zero_add, Nat.add_zero, if_true, if_false, ite_true, ite_false, reduceIte, reduceCtorEq, true_or, or_true, not_true_eq_false, not_false_eq_true, false_and, and_false, true_implies, false_implies, not_false_eq_true, bqX3_takeDigit_0, blX3_takeDigit_0, bqX3_takeDigit_9, blX3_takeDigit_9, bqX3_takeDigit_13, blX3_takeDigit_13, bqX3_takeDigit_50, blX3_takeDigit_50, bqX3_takeDigit_58, blX3_takeDigit_58, aArgs, List.replicate, hO]
  have h0 := loop (u + 1) u _ 0 0 g rfl (by omega) (by omega) (by decide) h2 (fun _ _ => rfl) (by rw [← h5]; simp) (by simp)
  rw [aSet_id hA] at h0
  exact h0
set_option maxHeartbeats 4000000 in
theorem ct_X3_takeOctet (hv : nRep g u v) (hO : O a = some (4, [.ref la, .int (nI u)])) (hA : A la = some (0, 20, .inl (nF g))) : aMet l G base tA yX3_takeOctet cX3_takeOctet 2 (some .int) { frames := 3, cells := 0, slots := 0, locals := 80 } [.ref a] O A (fun r O' A' => r = some (.int (nI (v % 256))) ∧ ∃ g' u', nRep g' u' (v / 256) ∧ O' = aSet O a (4, [.ref la, .int (nI u')]) ∧ A' = aSet A la (0, 20, .inl (nF g'))) := by
  refine aMet_of (ini := false) (B := aLook bkX3_takeOctet) (by decide) (fun h => by first | rfl | cases h) (Nat.le_of_ble_eq_true rfl) boX3_takeOctet ?_
  intro E J hb
  have i0 : vp_in (nI 0) 20 := vp_in_nI (by decide) (by decide)
  have hm : v % 256 = g 0 % 256 := by
    rcases Nat.eq_zero_or_pos u with hu | hu
    · have := hv.2.2.2.2
      rw [hu] at this
      rw [this, hv.2.2.1 0 (by omega) (by omega)]; rfl
    · have := nVal_mod g u hu
      rw [← hv.2.2.2.2] at this
      omega
  have ha : nI (g 0) &&& nI 255 = nI (g 0 % 256) := pk_andN (by have := hv.2.1 0 (by decide); omega) 8 (by decide)
  refine hb.run (aCuts [17] J) 60 0 _ _ _ _ _ _ (aCuts_ok _) ?_
  simp only [wp1, wp, wpl, wpi, lget, lput1, lput2, ltail, lkill, aV, aVl, aNth, aPut, aFz, aC0, aC2, aSw, aCat1, aCuts, aSet_eq, List.take, List.drop, List.reverse_cons, List.reverse_nil, List.nil_append, List.cons_append, List.length_cons, List.length_nil, Option.toList, true_and, and_true, Nat.reduceAdd, Nat.reduceEqDiff, Nat.reduceLT, Nat.reduceLeDiff, Nat.zero_add, Nat.add_zero, if_true, if_false, ite_true, ite_false, reduceIte, reduceCtorEq, true_or, or_true, not_true_eq_false, not_false_eq_true, false_and, and_false, true_implies, false_implies, not_false_eq_true, bqX3_takeOctet_0, blX3_takeOctet_0, bqX3_takeOctet_17, blX3_takeOctet_17, aArgs, List.replicate, hO, hA, i0, nI_clamp (show 0 < 2 ^ 31 by decide), nF_at, ha]
  refine ⟨_, _, _, _, hb.callV lvX3_47 (ct_X3_shiftRight (s := 8) hv hO hA (by decide)) rfl hO (by decide) (by decide) (by decide), ?_, fun _ _ _ h => h.elim⟩
  rintro _ O' A' ⟨rfl, g', u', hu', rfl, rfl⟩
  refine hb.run (aCuts [17] J) 60 17 _ _ _ _ _ _ (aCuts_ok _) ?_
  simp only [wp1, wp, wpl, wpi, lget, lput1, lput2, ltail, lkill, aV, aVl, aNth, aPut, aFz, aC0, aC2, aSw, aCat1, aCuts, aSet_eq, List.take, List.drop, List.reverse_cons, List.reverse_nil, List.nil_append, List.cons_append, List.length_cons, List.length_nil, Option.toList, true_and, and_true, Nat.reduceAdd, Nat.reduceEqDiff, Nat.reduceLT, Nat.reduceLeDiff, Nat.zero_add, Nat.add_zero, if_true, if_false, ite_true, ite_false, reduceIte, reduceCtorEq, true_or, or_true, not_true_eq_false, not_false_eq_true, false_and, and_false, true_implies, false_implies, not_false_eq_true, bqX3_takeOctet_0, blX3_takeOctet_0, bqX3_takeOctet_17, blX3_takeOctet_17]
  exact hb.iret (nar_i _) ⟨by rw [hm], g', u', hu', rfl, rfl⟩ (by decide) (by decide)
end NAT9
