section NAT1
variable {l : Launch} {G : aG} {base tA : Nat} {O : aO} {A : aA} {a la : Nat} {g : Nat → Nat} {u v : Nat}
theorem nI_is1 {n : Nat} (h : n < 2 ^ 31) : (nI n = nI 1) ↔ n = 1 := nI_eq h (by decide)
theorem nI_and1 (w : Nat) : nI w &&& nI 1 = nI (w % 2) := by
  rw [pk_and (nI w) 1 (by decide)]
  congr 1
  show (BitVec.ofNat 32 w).toNat % 2 = w % 2
  rw [BitVec.toNat_ofNat]
  omega
theorem nVal_mod (g : Nat → Nat) : ∀ n, 0 < n → nVal g n % 2147483648 = g 0 % 2147483648
  | 0, h => absurd h (by decide)
  | 1, _ => by simp [nVal]
  | n + 2, _ => by
    have h := nVal_mod g (n + 1) (by omega)
    rw [nVal, Nat.pow_succ, ← Nat.mul_assoc, Nat.add_mul_mod_self_right]
    exact h
set_option maxHeartbeats 2000000 in
theorem ct_X3_isZero (hv : nRep g u v) (hO : O a = some (4, [.ref la, .int (nI u)])) : aMet l G base tA yX3_isZero cX3_isZero 1 (some .boolean) rmZ [.ref a] O A (fun r O' A' => r = some (.int (bI (decide (v = 0)))) ∧ O' = O ∧ A' = A) := by
  refine aMet_of (ini := false) (B := aLook bkX3_isZero) (by decide) (fun h => by first | rfl | cases h) (Nat.le_of_ble_eq_true rfl) boX3_isZero ?_
  intro E J hb
  refine hb.run (aCuts [] J) 60 0 _ _ _ _ _ _ (aCuts_ok _) ?_
  have hu : u ≤ 20 := hv.1
  have hz := hv.zero
  simp only [wp1, wp, wpl, wpi, lget, lput1, lput2, ltail, lkill, aV, aVl, aNth, aPut, aFz, aC0, aC2, aSw, aCat1, aCuts, aSet_eq, List.take, List.drop, List.reverse_cons, List.reverse_nil, List.nil_append, List.cons_append, List.length_cons, List.length_nil, Option.toList, true_and, and_true, Nat.reduceAdd, Nat.reduceEqDiff, Nat.reduceLT, Nat.reduceLeDiff, Nat.zero_add, Nat.add_zero, if_true, if_false, ite_true, ite_false, reduceIte, reduceCtorEq, true_or, or_true, not_true_eq_false, not_false_eq_true, false_and, and_false, true_implies, false_implies, not_false_eq_true, bqX3_isZero_0, blX3_isZero_0, bqX3_isZero_7, blX3_isZero_7, bqX3_isZero_11, blX3_isZero_11, bqX3_isZero_12, blX3_isZero_12, aArgs, hO, nI_z (show u < 2 ^ 31 by omega)]
  refine ⟨fun h => hb.iret nar_b0 ⟨?_, rfl, rfl⟩ (by decide) (by decide), fun h => hb.iret nar_b1 ⟨?_, rfl, rfl⟩ (by decide) (by decide)⟩
  · rw [show decide (v = 0) = false by simp [hz, h]]; rfl
  · rw [show decide (v = 0) = true by simp only [Classical.not_not] at h; simp [hz, h]]; rfl
set_option maxHeartbeats 2000000 in
theorem ct_X3_isOdd (hv : nRep g u v) (hO : O a = some (4, [.ref la, .int (nI u)])) (hA : A la = some (0, 20, .inl (nF g))) : aMet l G base tA yX3_isOdd cX3_isOdd 1 (some .boolean) rmZ [.ref a] O A (fun r O' A' => r = some (.int (bI (decide (v % 2 = 1)))) ∧ O' = O ∧ A' = A) := by
  refine aMet_of (ini := false) (B := aLook bkX3_isOdd) (by decide) (fun h => by first | rfl | cases h) (Nat.le_of_ble_eq_true rfl) boX3_isOdd ?_
  intro E J hb
  refine hb.run (aCuts [] J) 60 0 _ _ _ _ _ _ (aCuts_ok _) ?_
  obtain ⟨h1, h2, h3, h4, h5⟩ := hv
  have hi : vp_in (nI 0) 20 := vp_in_nI (by decide) (by decide)
  have hm : v % 2 = g 0 % 2 := by
    rcases Nat.eq_zero_or_pos u with hu | hu
    · subst hu
      rw [h5, h3 0 (by omega) (by omega)]; rfl
    · have := nVal_mod g u hu
      rw [← h5] at this
      omega
  simp only [wp1, wp, wpl, wpi, lget, lput1, lput2, ltail, lkill, aV, aVl, aNth, aPut, aFz, aC0, aC2, aSw, aCat1, aCuts, aSet_eq, List.take, List.drop, List.reverse_cons, List.reverse_nil, List.nil_append, List.cons_append, List.length_cons, List.length_nil, Option.toList, true_and, and_true, Nat.reduceAdd, Nat.reduceEqDiff, Nat.reduceLT, Nat.reduceLeDiff, Nat.zero_add, Nat.add_zero, if_true, if_false, ite_true, ite_false, reduceIte, reduceCtorEq, true_or, or_true, not_true_eq_false, not_false_eq_true, false_and, and_false, true_implies, false_implies, not_false_eq_true, bqX3_isOdd_0, blX3_isOdd_0, bqX3_isOdd_12, blX3_isOdd_12, bqX3_isOdd_16, blX3_isOdd_16, bqX3_isOdd_17, blX3_isOdd_17, aArgs, hO, hA, hi, nI_clamp (show 0 < 2 ^ 31 by decide), nF_at, nI_and1, nI_is1 (show g 0 % 2 < 2 ^ 31 by omega)]
  refine ⟨fun h => hb.iret nar_b0 ⟨?_, rfl, rfl⟩ (by decide) (by decide), fun h => hb.iret nar_b1 ⟨?_, rfl, rfl⟩ (by decide) (by decide)⟩
  · rw [show decide (v % 2 = 1) = false by simp [hm]; omega]; rfl
  · rw [show decide (v % 2 = 1) = true by simp [hm]; omega]; rfl
set_option maxHeartbeats 2000000 in
theorem ct_X3_clear (hv : nRep g u v) (hO : O a = some (4, [.ref la, .int (nI u)])) (hA : A la = some (0, 20, .inl (nF g))) : aMet l G base tA yX3_clear cX3_clear 2 none rmZ [.ref a] O A (fun r O' A' => r = none ∧ ∃ g', nRep g' 0 0 ∧ O' = aSet O a (4, [.ref la, .int (nI 0)]) ∧ A' = aSet A la (0, 20, .inl (nF g'))) := by
  refine aMet_of (ini := false) (B := aLook bkX3_clear) (by decide) (fun h => by first | rfl | cases h) (Nat.le_of_ble_eq_true rfl) boX3_clear ?_
  intro E J hb
  obtain ⟨h1, h2, h3, h4, h5⟩ := hv
  have loop : ∀ (n i : Nat) (h : Nat → Nat), u - i < n → i ≤ u → (∀ k, k < i → h k = 0) → (∀ k, i ≤ k → h k = g k) → J 2 [some (.ref a), some (.int (nI i))] [] O (aSet A la (0, 20, .inl (nF h))) 0 0 := by
    intro n
    induction n with
    | zero => intro i h hn; omega
    | succ n ih =>
      intro i h hn hi p1 p2
      refine hb.run (aCuts [2] J) 60 2 _ _ _ _ _ _ (aCuts_ok _) ?_
      have hx : vp_in (nI i) 20 ∨ u ≤ i := by
        rcases Nat.lt_or_ge i u with q | q
        · exact Or.inl (vp_in_nI (by omega) (by decide))
        · exact Or.inr q
      simp only [wp1, wp, wpl, wpi, lget, lput1, lput2, ltail, lkill, aV, aVl, aNth, aPut, aFz, aC0, aC2, aSw, aCat1, aCuts, aSet_eq, List.take, List.drop, List.reverse_cons, List.reverse_nil, List.nil_append, List.cons_append, List.length_cons, List.length_nil, Option.toList, true_and, and_true, Nat.reduceAdd, Nat.reduceEqDiff, Nat.reduceLT, Nat.reduceLeDiff, Nat.zero_add, Nat.add_zero, if_true, if_false, ite_true, ite_false, reduceIte, reduceCtorEq, true_or, or_true, not_true_eq_false, not_false_eq_true, false_and, and_false, true_implies, false_implies, not_false_eq_true, bqX3_clear_0, blX3_clear_0, bqX3_clear_2, blX3_clear_2, bqX3_clear_10, blX3_clear_10, bqX3_clear_23, blX3_clear_23, hO, nI_leI (show u < 2 ^ 31 by omega) (show i < 2 ^ 31 by omega), nI_clamp (show i < 2 ^ 31 by omega), nF_upd, aSet_aSet, nI_inc]
      refine ⟨fun hc => hb.vret ⟨rfl, h, ⟨by omega, fun k hk => ?_, fun k _ hk => ?_, fun q => by omega, rfl⟩, rfl, rfl⟩ (by decide) (by decide), fun hc => ⟨hx.resolve_right hc, ih (i + 1) _ (by omega) (by omega) (fun k hk => ?_) (fun k hk => ?_)⟩⟩
      · rcases Nat.lt_or_ge k i with q | q
        · rw [p1 k q]; decide
        · rw [p2 k q]; exact h2 k hk
      · rcases Nat.lt_or_ge k i with q | q
        · exact p1 k q
        · rw [p2 k q]; exact h3 k (by omega) hk
      · by_cases e : k = i
        · rw [e, uN9_eq]
        · rw [uN9_ne e]; exact p1 k (by omega)
      · rw [uN9_ne (by omega)]; exact p2 k (by omega)
  refine hb.run (aCuts [2] J) 60 0 _ _ _ _ _ _ (aCuts_ok _) ?_
  simp only [wp1, wp, wpl, wpi, lget, lput1, lput2, ltail, lkill, aV, aVl, aNth, aPut, aFz, aC0, aC2, aSw, aCat1, aCuts, aSet_eq, List.take, List.drop, List.reverse_cons, List.reverse_nil, List.nil_append, List.cons_append, List.length_cons, List.length_nil, Option.toList, true_and, and_true, Nat.reduceAdd, Nat.reduceEqDiff, Nat.reduceLT, Nat.reduceLeDiff, Nat.zero_add, Nat.add_zero, if_true, if_false, ite_true, ite_false, reduceIte, reduceCtorEq, true_or, or_true, not_true_eq_false, not_false_eq_true, false_and, and_false, true_implies, false_implies, not_false_eq_true, bqX3_clear_0, blX3_clear_0, bqX3_clear_2, blX3_clear_2, bqX3_clear_10, blX3_clear_10, bqX3_clear_23, blX3_clear_23, aArgs, List.replicate]
  have h0 := loop (u + 1) 0 g (by omega) (by omega) (fun k hk => absurd hk (Nat.not_lt_zero k)) (fun _ _ => rfl)
  rw [aSet_id hA] at h0
  exact h0
end NAT1
