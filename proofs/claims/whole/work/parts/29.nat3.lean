section NAT3
variable {l : Launch} {G : aG} {base tA : Nat} {O : aO} {A : aA} {a la b lb : Nat} {g g2 : Nat → Nat} {u v u2 v2 : Nat}
abbrev rmA : Room := { frames := 2, cells := 0, slots := 0, locals := 40 }
set_option maxHeartbeats 4000000 in
theorem ct_X3_copy (hab : a ≠ b) (hlab : la ≠ lb) (hv : nRep g u v) (hO : O a = some (4, [.ref la, .int (nI u)])) (hA : A la = some (0, 20, .inl (nF g))) (hv2 : nRep g2 u2 v2) (hO2 : O b = some (4, [.ref lb, .int (nI u2)])) (hA2 : A lb = some (0, 20, .inl (nF g2))) : aMet l G base tA yX3_copy cX3_copy 3 none rmA [.ref a, .ref b] O A (fun r O' A' => r = none ∧ ∃ g', nRep g' u2 v2 ∧ O' = aSet O a (4, [.ref la, .int (nI u2)]) ∧ A' = aSet A la (0, 20, .inl (nF g'))) := by
  refine aMet_of (ini := false) (B := aLook bkX3_copy) (by decide) (fun h => by first | rfl | cases h) (Nat.le_of_ble_eq_true rfl) boX3_copy ?_
  intro E J hb
  obtain ⟨q1, q2, q3, q4, q5⟩ := hv2
  have loop : ∀ (n i : Nat) (h : Nat → Nat), u2 - i < n → i ≤ u2 → (∀ k, k < i → h k = g2 k) → (∀ k, i ≤ k → k < 20 → h k = 0) → J 6 [some (.ref a), some (.ref b), some (.int (nI i))] [] (aSet O a (4, [.ref la, .int (nI 0)])) (aSet A la (0, 20, .inl (nF h))) 0 0 := by
    intro n
    induction n with
    | zero => intro i h hn; omega
    | succ n ih =>
      intro i h hn hi p1 p2
      refine hb.run (aCuts [4, 6] J) 60 6 _ _ _ _ _ _ (aCuts_ok _) ?_
      have e1 : vp_in (nI i) 20 ∨ u2 ≤ i := by
        rcases Nat.lt_or_ge i u2 with q | q
        · exact Or.inl (vp_in_nI (by omega) (by decide))
        · exact Or.inr q
      simp only [wp1, wp, wpl, wpi, lget, lput1, lput2, ltail, lkill, aV, aVl, aNth, aPut, aFz, aC0, aC2, aSw, aCat1, aCuts, aSet_eq, List.take, List.drop, List.reverse_cons, List.reverse_nil, List.nil_append, List.cons_append, List.length_cons, List.length_nil, Option.toList, true_and, and_true, Nat.reduceAdd, Nat.reduceEqDiff, Nat.reduceLT, Nat.reduceLeDiff, Nat.zero_add, Nat.add_zero, if_true, if_false, ite_true, ite_false, reduceIte, reduceCtorEq, true_or, or_true, not_true_eq_false, not_false_eq_true, false_and, and_false, true_implies, false_implies, not_false_eq_true, bqX3_copy_0, blX3_copy_0, bqX3_copy_4, blX3_copy_4, bqX3_copy_6, blX3_copy_6, bqX3_copy_14, blX3_copy_14, bqX3_copy_32, blX3_copy_32, aSet_ne hab.symm, aSet_ne hlab.symm, hO2, hA2, nI_leI (show u2 < 2 ^ 31 by omega) (show i < 2 ^ 31 by omega), nI_clamp (show i < 2 ^ 31 by omega), nF_at, nF_upd, aSet_aSet, nI_inc]
      refine ⟨fun hc => ?_, fun hc => ⟨e1.resolve_right hc, e1.resolve_right hc, ih (i + 1) _ (by omega) (by omega) (fun k hk => ?_) (fun k k1 k2 => ?_)⟩⟩
      · have e : i = u2 := by omega
        subst e
        refine hb.vret ⟨rfl, h, ⟨by omega, fun k hk => ?_, p2, fun hi0 => ?_, ?_⟩, rfl, rfl⟩ (by decide) (by decide)
        · rcases Nat.lt_or_ge k i with q | q
          · rw [p1 k q]; exact q2 k hk
          · rw [p2 k q hk]; decide
        · rw [p1 (i - 1) (by omega)]; exact q4 hi0
        · rw [q5]; exact (nVal_congr p1).symm
      · by_cases e : k = i
        · rw [e, uN9_eq]
        · rw [uN9_ne e]; exact p1 k (by omega)
      · rw [uN9_ne (by omega)]; exact p2 k (by omega) k2
  refine hb.run (aCuts [4, 6] J) 60 0 _ _ _ _ _ _ (aCuts_ok _) ?_
  simp only [wp1, wp, wpl, wpi, lget, lput1, lput2, ltail, lkill, aV, aVl, aNth, aPut, aFz, aC0, aC2, aSw, aCat1, aCuts, aSet_eq, List.take, List.drop, List.reverse_cons, List.reverse_nil, List.nil_append, List.cons_append, List.length_cons, List.length_nil, Option.toList, true_and, and_true, Nat.reduceAdd, Nat.reduceEqDiff, Nat.reduceLT, Nat.reduceLeDiff, Nat.zero_add, Nat.add_zero, if_true, if_false, ite_true, ite_false, reduceIte, reduceCtorEq, true_or, or_true, not_true_eq_false, not_false_eq_true, false_and, and_false, true_implies, false_implies, not_false_eq_true, bqX3_copy_0, blX3_copy_0, bqX3_copy_4, blX3_copy_4, bqX3_copy_6, blX3_copy_6, bqX3_copy_14, blX3_copy_14, bqX3_copy_32, blX3_copy_32, aArgs, List.replicate]
  refine ⟨_, _, _, _, hb.callV lvX3_17 (ct_X3_clear hv hO hA) rfl hO (by decide) (by decide) (by decide), ?_, fun _ _ _ h => h.elim⟩
  rintro _ O' A' ⟨rfl, g', hg', rfl, rfl⟩
  refine hb.run (aCuts [4, 6] J) 60 4 _ _ _ _ _ _ (aCuts_ok _) ?_
  simp only [wp1, wp, wpl, wpi, lget, lput1, lput2, ltail, lkill, aV, aVl, aNth, aPut, aFz, aC0, aC2, aSw, aCat1, aCuts, aSet_eq, List.take, List.drop, List.reverse_cons, List.reverse_nil, List.nil_append, List.cons_append, List.length_cons, List.length_nil, Option.toList, true_and, and_true, Nat.reduceAdd, Nat.reduceEqDiff, Nat.reduceLT, Nat.reduceLeDiff, Nat.zero_add, Nat.add_zero, if_true, if_false, ite_true, ite_false, reduceIte, reduceCtorEq, true_or, or_true, not_true_eq_false, not_false_eq_true, false_and, and_false, true_implies, false_implies, not_false_eq_true, bqX3_copy_0, blX3_copy_0, bqX3_copy_4, blX3_copy_4, bqX3_copy_6, blX3_copy_6, bqX3_copy_14, blX3_copy_14, bqX3_copy_32, blX3_copy_32]
  exact loop (u2 + 1) 0 g' (by omega) (by omega) (fun k hk => absurd hk (Nat.not_lt_zero k)) (fun k _ hk => hg'.2.2.1 k (Nat.zero_le k) hk)
end NAT3
