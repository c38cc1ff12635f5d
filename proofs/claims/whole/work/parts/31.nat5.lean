section NAT5
variable {l : Launch} {G : aG} {base tA : Nat} {O : aO} {A : aA} {a la b lb : Nat} {g g2 : Nat → Nat} {u v u2 v2 : Nat}
/-- an order as an int -/
def cmpI (x y : Nat) : Int32 := if x < y then -nI 1 else if x = y then nI 0 else nI 1
theorem cmpI_lt {x y : Nat} (h : x < y) : cmpI x y = -nI 1 := if_pos h
theorem cmpI_gt {x y : Nat} (h : y < x) : cmpI x y = nI 1 := by unfold cmpI; rw [if_neg (by omega), if_neg (by omega)]
theorem cmpI_eq {x : Nat} : cmpI x x = nI 0 := by unfold cmpI; rw [if_neg (by omega), if_pos rfl]
theorem nVal_cmp {i n : Nat} (hi : i < n) (hb : ∀ k, k < n → g k < 2147483648) (h : ∀ k, i < k → k < n → g k = g2 k) (hl : g i < g2 i) : nVal g n < nVal g2 n := by
  obtain ⟨d, rfl⟩ : ∃ d, n = (i + 1) + d := ⟨n - (i + 1), by omega⟩
  rw [nVal_split g (i + 1) d, nVal_split g2 (i + 1) d, nVal_congr (g := fun k => g (i + 1 + k)) (h := fun k => g2 (i + 1 + k)) fun k hk => h _ (by omega) (by omega)]
  have h1 := nVal_lt (g := g) (n := i) (fun k hk => hb k (by omega))
  have h2 : (g i + 1) * 2147483648 ^ i ≤ g2 i * 2147483648 ^ i := Nat.mul_le_mul_right _ hl
  simp only [nVal]
  rw [Nat.add_mul] at h2
  omega
theorem nRep_lt (hv : nRep g u v) (hv2 : nRep g2 u2 v2) (h : u < u2) : v < v2 := by
  have h1 := hv.lt
  have h2 := nVal_ge (by omega) (hv2.2.2.2.1 (by omega))
  rw [← hv2.2.2.2.2] at h2
  have : 2147483648 ^ u ≤ 2147483648 ^ (u2 - 1) := Nat.pow_le_pow_right (by decide) (by omega)
  omega
theorem nI_dec1 (x : Int32) : x + Int32.ofInt (-1) = x - nI 1 := by
  rw [Int32.sub_eq_add_neg]; rfl
theorem nI_neg1 : (nI 0 - nI 1 < (0 : Int32)) = True := by simp only [eq_iff_iff, iff_true]; decide +kernel
theorem nI_nneg {n : Nat} (h : n < 2 ^ 31) : (nI n < (0 : Int32)) = False := by simp only [eq_iff_iff, iff_false]; exact nI_pos h
set_option maxHeartbeats 4000000 in
theorem ct_X3_against (hv : nRep g u v) (hO : O a = some (4, [.ref la, .int (nI u)])) (hA : A la = some (0, 20, .inl (nF g))) (hv2 : nRep g2 u2 v2) (hO2 : O b = some (4, [.ref lb, .int (nI u2)])) (hA2 : A lb = some (0, 20, .inl (nF g2))) : aMet l G base tA yX3_against cX3_against 3 (some .int) rmZ [.ref a, .ref b] O A (fun r O' A' => r = some (.int (cmpI v v2)) ∧ O' = O ∧ A' = A) := by
  refine aMet_of (ini := false) (B := aLook bkX3_against) (by decide) (fun h => by first | rfl | cases h) (Nat.le_of_ble_eq_true rfl) boX3_against ?_
  intro E J hb
  have hu : u ≤ 20 := hv.1
  have hu2 : u2 ≤ 20 := hv2.1
  have loop : ∀ (n j : Nat) (x : Int32), x = nI j - nI 1 → j < n → u = u2 → j ≤ u → (∀ k, j ≤ k → k < u → g k = g2 k) → J 35 [some (.ref a), some (.ref b), some (.int x)] [] O A 0 0 := by
    intro n
    induction n with
    | zero => intro j x _ h; omega
    | succ n ih =>
      intro j x hx hjn he hj p
      rcases Nat.eq_zero_or_pos j with hj0 | hj0
      · subst hj0
        subst hx
        refine hb.run (aCuts [35] J) 60 35 _ _ _ _ _ _ (aCuts_ok _) ?_
        simp only [wp1, wp, wpl, wpi, lget, lput1, lput2, ltail, lkill, aV, aVl, aNth, aPut, aFz, aC0, aC2, aSw, aCat1, aCuts, aSet_eq, List.take, List.drop, List.reverse_cons, List.reverse_nil, List.nil_append, List.cons_append, List.length_cons, List.length_nil, Option.toList, true_and, and_true, Nat.reduceAdd, Nat.reduceEqDiff, Nat.reduceLT, Nat.reduceLeDiff, Nat.zero_add, Nat.add_zero, if_true, if_false, ite_true, ite_false, reduceIte, reduceCtorEq, true_or, or_true, not_true_eq_false, not_false_eq_true, false_and, and_false, true_implies, false_implies, not_false_eq_true, bqX3_against_0, blX3_against_0, bqX3_against_11, blX3_against_11, bqX3_against_22, blX3_against_22, bqX3_against_26, blX3_against_26, bqX3_against_27, blX3_against_27, bqX3_against_28, blX3_against_28, bqX3_against_35, blX3_against_35, bqX3_against_39, blX3_against_39, bqX3_against_54, blX3_against_54, bqX3_against_69, blX3_against_69, bqX3_against_73, blX3_against_73, bqX3_against_74, blX3_against_74, bqX3_against_75, blX3_against_75, bqX3_against_81, blX3_against_81, nI_neg1]
        refine hb.iret (nar_i _) ⟨?_, rfl, rfl⟩ (by decide) (by decide)
        rw [hv.2.2.2.2, hv2.2.2.2.2, ← he, nVal_congr fun k hk => p k (Nat.zero_le k) hk, cmpI_eq]
      · have e1 : vp_in (nI (j - 1)) 20 := vp_in_nI (by omega) (by decide)
        have g1 := hv.2.1 (j - 1) (by omega)
        have g21 := hv2.2.1 (j - 1) (by omega)
        rw [nI_sub1 hj0] at hx
        subst hx
        refine hb.run (aCuts [35] J) 60 35 _ _ _ _ _ _ (aCuts_ok _) ?_
        simp only [wp1, wp, wpl, wpi, lget, lput1, lput2, ltail, lkill, aV, aVl, aNth, aPut, aFz, aC0, aC2, aSw, aCat1, aCuts, aSet_eq, List.take, List.drop, List.reverse_cons, List.reverse_nil, List.nil_append, List.cons_append, List.length_cons, List.length_nil, Option.toList, true_and, and_true, Nat.reduceAdd, Nat.reduceEqDiff, Nat.reduceLT, Nat.reduceLeDiff, Nat.zero_add, Nat.add_zero, if_true, if_false, ite_true, ite_false, reduceIte, reduceCtorEq, true_or, or_true, not_true_eq_false, not_false_eq_true, false_and, and_false, true_implies, false_implies, not_false_eq_true, bqX3_against_0, blX3_against_0, bqX3_against_11, blX3_against_11, bqX3_against_22, blX3_against_22, bqX3_against_26, blX3_against_26, bqX3_against_27, blX3_against_27, bqX3_against_28, blX3_against_28, bqX3_against_35, blX3_against_35, bqX3_against_39, blX3_against_39, bqX3_against_54, blX3_against_54, bqX3_against_69, blX3_against_69, bqX3_against_73, blX3_against_73, bqX3_against_74, blX3_against_74, bqX3_against_75, blX3_against_75, bqX3_against_81, blX3_against_81, nI_nneg (show j - 1 < 2 ^ 31 by omega), hO, hO2, hA, hA2, e1, nI_clamp (show j - 1 < 2 ^ 31 by omega), nF_at, nI_eq (show g (j - 1) < 2 ^ 31 by omega) (show g2 (j - 1) < 2 ^ 31 by omega), nI_leI (show g2 (j - 1) < 2 ^ 31 by omega) (show g (j - 1) < 2 ^ 31 by omega)]
        refine ⟨fun hc => ih (j - 1) _ (nI_dec1 _) (by omega) he (by omega) (fun k k1 k2 => by first | exact p k (by omega) k2 | (by_cases e : k = j - 1; (· rw [e]; exact hc); (· exact p k (by omega) k2))), fun hc => ⟨fun hc2 => hb.iret (nar_i _) ⟨?_, rfl, rfl⟩ (by decide) (by decide), fun hc2 => hb.iret (nar_i _) ⟨?_, rfl, rfl⟩ (by decide) (by decide)⟩⟩
        · rw [cmpI_gt]
          rw [hv.2.2.2.2, hv2.2.2.2.2, ← he]
          exact nVal_cmp (i := j - 1) (by omega) (fun k hk => hv2.2.1 k (by omega)) (fun k k1 k2 => (p k (by omega) k2).symm) (by omega)
        · rw [cmpI_lt]
          rw [hv.2.2.2.2, hv2.2.2.2.2, ← he]
          exact nVal_cmp (i := j - 1) (by omega) (fun k hk => hv.2.1 k (by omega)) (fun k k1 k2 => p k (by omega) k2) (by omega)
  refine hb.run (aCuts [35] J) 60 0 _ _ _ _ _ _ (aCuts_ok _) ?_
  simp only [wp1, wp, wpl, wpi, lget, lput1, lput2, ltail, lkill, aV, aVl, aNth, aPut, aFz, aC0, aC2, aSw, aCat1, aCuts, aSet_eq, List.take, List.drop, List.reverse_cons, List.reverse_nil, List.nil_append, List.cons_append, List.length_cons, List.length_nil, Option.toList, true_and, and_true, Nat.reduceAdd, Nat.reduceEqDiff, Nat.reduceLT, Nat.reduceLeDiff, Nat.zero_add, Nat.add_zero, if_true, if_false, ite_true, ite_false, reduceIte, reduceCtorEq, true_or, or_true, not_true_eq_false, not_false_eq_true, false_and, and_false, true_implies, false_implies, not_false_eq_true, bqX3_against_0, blX3_against_0, bqX3_against_11, blX3_against_11, bqX3_against_22, blX3_against_22, bqX3_against_26, blX3_against_26, bqX3_against_27, blX3_against_27, bqX3_against_28, blX3_against_28, bqX3_against_35, blX3_against_35, bqX3_against_39, blX3_against_39, bqX3_against_54, blX3_against_54, bqX3_against_69, blX3_against_69, bqX3_against_73, blX3_against_73, bqX3_against_74, blX3_against_74, bqX3_against_75, blX3_against_75, bqX3_against_81, blX3_against_81, aArgs, List.replicate, hO, hO2, nI_eq (show u < 2 ^ 31 by omega) (show u2 < 2 ^ 31 by omega), nI_leI (show u2 < 2 ^ 31 by omega) (show u < 2 ^ 31 by omega)]
  refine ⟨fun hc => loop (u + 1) u _ rfl (by omega) hc (Nat.le_refl u) (fun k k1 k2 => by omega), fun hc => ⟨fun hc2 => hb.iret (nar_i _) ⟨?_, rfl, rfl⟩ (by decide) (by decide), fun hc2 => hb.iret (nar_i _) ⟨?_, rfl, rfl⟩ (by decide) (by decide)⟩⟩
  · rw [cmpI_gt (nRep_lt hv2 hv (by omega))]
  · rw [cmpI_lt (nRep_lt hv hv2 (by omega))]
end NAT5
