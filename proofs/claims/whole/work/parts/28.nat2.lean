section NAT2
variable {l : Launch} {G : aG} {base tA : Nat} {O : aO} {A : aA} {a la : Nat} {g : Nat → Nat} {u v : Nat}
theorem nI_sub1 {n : Nat} (h : 0 < n) : nI n - nI 1 = nI (n - 1) := pk_sub h
theorem nI_lez {n : Nat} (h : n < 2 ^ 31) : (nI n ≤ 0) ↔ n = 0 := by
  rw [← nI_0, nI_leI h (by decide)]; omega
set_option maxHeartbeats 2000000 in
theorem ct_X3_settle {n : Nat} {u0 : Int32} (hn : n ≤ 20) (hg : ∀ k, k < 20 → g k < 2147483648) (hg0 : ∀ k, n ≤ k → k < 20 → g k = 0) (hO : O a = some (4, [.ref la, .int u0])) (hA : A la = some (0, 20, .inl (nF g))) : aMet l G base tA yX3_settle cX3_settle 2 none rmZ [.ref a, .int (nI n)] O A (fun r O' A' => r = none ∧ ∃ u', nRep g u' (nVal g n) ∧ O' = aSet O a (4, [.ref la, .int (nI u')]) ∧ A' = A) := by
  refine aMet_of (ini := false) (B := aLook bkX3_settle) (by decide) (fun h => by first | rfl | cases h) (Nat.le_of_ble_eq_true rfl) boX3_settle ?_
  intro E J hb
  have loop : ∀ (m w : Nat), w < m → w ≤ n → (∀ k, w ≤ k → k < 20 → g k = 0) → nVal g w = nVal g n → J 5 [some (.ref a), some (.int (nI n))] [] (aSet O a (4, [.ref la, .int (nI w)])) A 0 0 := by
    intro m
    induction m with
    | zero => intro w h; omega
    | succ m ih =>
      intro w hw hwn h0 hv
      refine hb.run (aCuts [5] J) 60 5 _ _ _ _ _ _ (aCuts_ok _) ?_
      rcases Nat.eq_zero_or_pos w with hz | hz
      · subst hz
        have e0 : (nI 0 ≤ 0) = True := by simp [nI_0]
        simp only [wp1, wp, wpl, wpi, lget, lput1, lput2, ltail, lkill, aV, aVl, aNth, aPut, aFz, aC0, aC2, aSw, aCat1, aCuts, aSet_eq, List.take, List.drop, List.reverse_cons, List.reverse_nil, List.nil_append, List.cons_append, List.length_cons, List.length_nil, Option.toList, true_and, and_true, Nat.reduceAdd, Nat.reduceEqDiff, Nat.reduceLT, Nat.reduceLeDiff, Nat.zero_add, Nat.add_zero, if_true, if_false, ite_true, ite_false, reduceIte, reduceCtorEq, true_or, or_true, not_true_eq_false, not_false_eq_true, false_and, and_false, true_implies, false_implies, not_false_eq_true, bqX3_settle_0, blX3_settle_0, bqX3_settle_5, blX3_settle_5, bqX3_settle_12, blX3_settle_12, bqX3_settle_26, blX3_settle_26, bqX3_settle_39, blX3_settle_39, hA, e0]
        exact hb.vret ⟨rfl, 0, ⟨by omega, hg, fun k _ hk => h0 k (by omega) hk, fun q => by omega, hv.symm⟩, rfl, rfl⟩ (by decide) (by decide)
      · have e1 : (nI w ≤ 0) = False := by rw [nI_lez (by omega)]; simp; omega
        have e2 : vp_in (nI (w - 1)) 20 := vp_in_nI (by omega) (by decide)
        have hlt := hg (w - 1) (by omega)
        simp only [wp1, wp, wpl, wpi, lget, lput1, lput2, ltail, lkill, aV, aVl, aNth, aPut, aFz, aC0, aC2, aSw, aCat1, aCuts, aSet_eq, List.take, List.drop, List.reverse_cons, List.reverse_nil, List.nil_append, List.cons_append, List.length_cons, List.length_nil, Option.toList, true_and, and_true, Nat.reduceAdd, Nat.reduceEqDiff, Nat.reduceLT, Nat.reduceLeDiff, Nat.zero_add, Nat.add_zero, if_true, if_false, ite_true, ite_false, reduceIte, reduceCtorEq, true_or, or_true, not_true_eq_false, not_false_eq_true, false_and, and_false, true_implies, false_implies, not_false_eq_true, bqX3_settle_0, blX3_settle_0, bqX3_settle_5, blX3_settle_5, bqX3_settle_12, blX3_settle_12, bqX3_settle_26, blX3_settle_26, bqX3_settle_39, blX3_settle_39, hA, e1, nI_sub1 hz, e2, nI_clamp (show w - 1 < 2 ^ 31 by omega), nF_at, nI_z (show g (w - 1) < 2 ^ 31 by omega), aSet_aSet]
        refine ⟨fun hc => ?_, fun hc => ?_⟩
        · exact hb.vret ⟨rfl, w, ⟨by omega, hg, h0, fun _ => hc, hv.symm⟩, rfl, rfl⟩ (by decide) (by decide)
        · have hc : g (w - 1) = 0 := Classical.not_not.mp hc
          refine ih (w - 1) (by omega) (by omega) (fun k h1 h2 => ?_) ?_
          · by_cases e : k = w - 1
            · rw [e]; exact hc
            · exact h0 k (by omega) h2
          · rw [← hv]
            obtain ⟨j, rfl⟩ : ∃ j, w = j + 1 := ⟨w - 1, by omega⟩
            simp only [Nat.add_sub_cancel] at hc ⊢
            simp [nVal, hc]
  refine hb.run (aCuts [5] J) 60 0 _ _ _ _ _ _ (aCuts_ok _) ?_
  simp only [wp1, wp, wpl, wpi, lget, lput1, lput2, ltail, lkill, aV, aVl, aNth, aPut, aFz, aC0, aC2, aSw, aCat1, aCuts, aSet_eq, List.take, List.drop, List.reverse_cons, List.reverse_nil, List.nil_append, List.cons_append, List.length_cons, List.length_nil, Option.toList, true_and, and_true, Nat.reduceAdd, Nat.reduceEqDiff, Nat.reduceLT, Nat.reduceLeDiff, Nat.zero_add, Nat.add_zero, if_true, if_false, ite_true, ite_false, reduceIte, reduceCtorEq, true_or, or_true, not_true_eq_false, not_false_eq_true, false_and, and_false, true_implies, false_implies, not_false_eq_true, bqX3_settle_0, blX3_settle_0, bqX3_settle_5, blX3_settle_5, bqX3_settle_12, blX3_settle_12, bqX3_settle_26, blX3_settle_26, bqX3_settle_39, blX3_settle_39, aArgs, List.replicate, hO]
  exact loop (n + 1) n (by omega) (by omega) hg0 rfl
theorem nTop {h : Nat → Nat} {i : Nat} (hi : 0 < i) (hb : ∀ k, k < i → h k < 2147483648) (hv : 2147483648 ^ (i - 1) ≤ nVal h i) : h (i - 1) ≠ 0 := by
  intro e
  obtain ⟨j, rfl⟩ : ∃ j, i = j + 1 := ⟨i - 1, by omega⟩
  simp only [Nat.add_sub_cancel] at e hv
  simp only [nVal, e, Nat.zero_mul, Nat.add_zero] at hv
  have := nVal_lt (g := h) (n := j) (fun k hk => hb k (by omega))
  omega
theorem nVal_push {h : Nat → Nat} {i c : Nat} : nVal (uN9 h i c) (i + 1) = nVal h i + c * 2147483648 ^ i := by
  simp only [nVal, uN9_eq]
  rw [nVal_congr (g := uN9 h i c) (h := h) fun k hk => uN9_ne (by omega)]
/-- a row with one more limb -/
theorem nRep_push {h : Nat → Nat} {i c w : Nat} (hi : i < 20) (p1 : ∀ k, k < 20 → h k < 2147483648) (p2 : ∀ k, i ≤ k → k < 20 → h k = 0) (hc : c < 2147483648) (hc0 : c ≠ 0) (hw : w = nVal h i + c * 2147483648 ^ i) : nRep (uN9 h i c) (i + 1) w := by
  refine ⟨by omega, fun k hk => ?_, fun k h1 h2 => ?_, fun _ => ?_, by rw [nVal_push]; exact hw⟩
  · by_cases e : k = i
    · rw [e, uN9_eq]; exact hc
    · rw [uN9_ne e]; exact p1 k hk
  · rw [uN9_ne (by omega)]; exact p2 k (by omega) h2
  · rw [Nat.add_sub_cancel, uN9_eq]; exact hc0
set_option maxHeartbeats 4000000 in
theorem ct_X3_timesPlus (hv : nRep g u v) (hO : O a = some (4, [.ref la, .int (nI u)])) (hA : A la = some (0, 20, .inl (nF g))) {f m : Nat} (hf1 : 0 < f) (hf : f < 2147483648) (hm : m < 2147483648) (hmax : v * f + m < 2147483648 ^ 20) : aMet l G base tA yX3_timesPlus cX3_timesPlus 6 none rmZ [.ref a, .int (nI f), .int (nI m)] O A (fun r O' A' => r = none ∧ ∃ g' u', nRep g' u' (v * f + m) ∧ O' = aSet O a (4, [.ref la, .int (nI u')]) ∧ A' = aSet A la (0, 20, .inl (nF g'))) := by
  refine aMet_of (ini := false) (B := aLook bkX3_timesPlus) (by decide) (fun h => by first | rfl | cases h) (Nat.le_of_ble_eq_true rfl) boX3_timesPlus ?_
  intro E J hb
  have hvz := hv.zero
  obtain ⟨h1, h2, h3, h4, h5⟩ := hv
  have loop : ∀ (n i c : Nat) (h : Nat → Nat), u - i < n → i ≤ u → c < 2147483648 → (∀ k, k < 20 → h k < 2147483648) → (∀ k, i ≤ k → h k = g k) → nVal h i + c * 2147483648 ^ i = nVal g i * f + m → J 6 [some (.ref a), some (.int (nI f)), some (.int (nI m)), some (.long (lN c)), none, some (.int (nI i))] [] O (aSet A la (0, 20, .inl (nF h))) 0 0 := by
    intro n
    induction n with
    | zero => intro i c h hn; omega
    | succ n ih =>
      intro i c h hn hi hc p1 p2 p3
      refine hb.run (aCuts [6] J) 60 6 _ _ _ _ _ _ (aCuts_ok _) ?_
      rcases Nat.lt_or_ge i u with q | q
      · have hgi := h2 i (by omega)
        have e1 : vp_in (nI i) 20 := vp_in_nI (by omega) (by decide)
        have e2 : (nI u ≤ nI i) = False := by rw [nI_leI (by omega) (by omega)]; simp; omega
        have hw : c + g i * f < 2 ^ 62 := by
          have : g i * f ≤ 2147483647 * 2147483647 := Nat.mul_le_mul (by omega) (by omega)
          omega
        have hw2 : (c + g i * f) / 2147483648 < 2147483648 := by
          have : g i * f ≤ 2147483647 * 2147483647 := Nat.mul_le_mul (by omega) (by omega)
          omega
        simp only [wp1, wp, wpl, wpi, lget, lput1, lput2, ltail, lkill, aV, aVl, aNth, aPut, aFz, aC0, aC2, aSw, aCat1, aCuts, aSet_eq, List.take, List.drop, List.reverse_cons, List.reverse_nil, List.nil_append, List.cons_append, List.length_cons, List.length_nil, Option.toList, true_and, and_true, Nat.reduceAdd, Nat.reduceEqDiff, Nat.reduceLT, Nat.reduceLeDiff, Nat.zero_add, Nat.add_zero, if_true, if_false, ite_true, ite_false, reduceIte, reduceCtorEq, true_or, or_true, not_true_eq_false, not_false_eq_true, false_and, and_false, true_implies, false_implies, not_false_eq_true, bqX3_timesPlus_0, blX3_timesPlus_0, bqX3_timesPlus_6, blX3_timesPlus_6, bqX3_timesPlus_15, blX3_timesPlus_15, bqX3_timesPlus_52, blX3_timesPlus_52, bqX3_timesPlus_58, blX3_timesPlus_58, bqX3_timesPlus_67, blX3_timesPlus_67, bqX3_timesPlus_88, blX3_timesPlus_88, hO, e1, e2, nI_clamp (show i < 2 ^ 31 by omega), nF_at, p2 i (Nat.le_refl i), nI_l (show g i < 2 ^ 31 by omega), nI_l (show f < 2 ^ 31 by omega), lN_mul, lN_add, lN_i, nI_mask, nF_upd, aSet_aSet, lN_sar hw (show 31 < 64 by decide), nI_inc]
        refine ih (i + 1) _ _ (by omega) (by omega) hw2 (fun k hk => ?_) (fun k hk => ?_) ?_
        · by_cases e : k = i
          · rw [e, uN9_eq]; exact Nat.mod_lt _ (by decide)
          · rw [uN9_ne e]; exact p1 k hk
        · rw [uN9_ne (by omega)]; exact p2 k (by omega)
        · have ec : nVal (uN9 h i ((c + g i * f) % 2 ^ 31)) i = nVal h i := nVal_congr fun k hk => uN9_ne (by omega)
          simp only [nVal, uN9_eq, ec, Nat.pow_succ]
          have hd := Nat.div_add_mod (c + g i * f) 2147483648
          generalize 2147483648 ^ i = P at *
          generalize hq : (c + g i * f) / 2147483648 = qq at *
          have hr : (c + g i * f) % 2 ^ 31 = (c + g i * f) % 2147483648 := rfl
          rw [hr]
          generalize (c + g i * f) % 2147483648 = rr at *
          have e9 : rr * P + qq * (P * 2147483648) = (c + g i * f) * P := by
            rw [← hd]; grind
          grind
      · have e : i = u := by omega
        subst e
        have e2 : (nI i ≤ nI i) = True := by simp
        have e4 : vp_in (nI i) 20 ∨ 20 ≤ i := by
          rcases Nat.lt_or_ge i 20 with q | q
          · exact Or.inl (vp_in_nI q (by decide))
          · exact Or.inr q
        simp only [wp1, wp, wpl, wpi, lget, lput1, lput2, ltail, lkill, aV, aVl, aNth, aPut, aFz, aC0, aC2, aSw, aCat1, aCuts, aSet_eq, List.take, List.drop, List.reverse_cons, List.reverse_nil, List.nil_append, List.cons_append, List.length_cons, List.length_nil, Option.toList, true_and, and_true, Nat.reduceAdd, Nat.reduceEqDiff, Nat.reduceLT, Nat.reduceLeDiff, Nat.zero_add, Nat.add_zero, if_true, if_false, ite_true, ite_false, reduceIte, reduceCtorEq, true_or, or_true, not_true_eq_false, not_false_eq_true, false_and, and_false, true_implies, false_implies, not_false_eq_true, bqX3_timesPlus_0, blX3_timesPlus_0, bqX3_timesPlus_6, blX3_timesPlus_6, bqX3_timesPlus_15, blX3_timesPlus_15, bqX3_timesPlus_52, blX3_timesPlus_52, bqX3_timesPlus_58, blX3_timesPlus_58, bqX3_timesPlus_67, blX3_timesPlus_67, bqX3_timesPlus_88, blX3_timesPlus_88, hO, e2, lN_i, lg_cmp_z (show c < 2 ^ 63 by omega) (show 0 < 2 ^ 63 by decide), nI_leI (show 20 < 2 ^ 31 by decide) (show i < 2 ^ 31 by omega)]
        have hvf : nVal g i ≤ nVal g i * f + m := Nat.le_trans (Nat.le_mul_of_pos_right _ hf1) (Nat.le_add_right _ _)
        refine ⟨fun hc0 => ?_, fun hc0 => ⟨fun h20 => ?_, fun h20 => ⟨e4.resolve_right h20, ?_⟩⟩⟩
        · subst hc0
          simp only [Nat.zero_mul, Nat.add_zero] at p3
          refine hb.vret ⟨rfl, h, i, ⟨by omega, p1, fun k k1 k2 => by rw [p2 k k1]; exact h3 k k1 k2, fun hi0 => nTop hi0 (fun k hk => p1 k (by omega)) ?_, by rw [h5, ← p3]⟩, (aSet_id hO).symm, rfl⟩ (by decide) (by decide)
          rw [p3]
          exact Nat.le_trans (nVal_ge hi0 (h4 hi0)) hvf
        · exfalso
          have e20 : i = 20 := by omega
          subst e20
          rw [h5, ← p3] at hmax
          have : 1 * 2147483648 ^ 20 ≤ c * 2147483648 ^ 20 := Nat.mul_le_mul_right _ (by omega)
          omega
        · rw [nI_add i 1, nI_clamp (by omega), nF_upd, aSet_aSet]
          exact hb.vret ⟨rfl, _, i + 1, nRep_push (by omega) p1 (fun k k1 k2 => by rw [p2 k k1]; exact h3 k k1 k2) hc hc0 (by rw [h5, ← p3]), rfl, rfl⟩ (by decide) (by decide)
  refine hb.run (aCuts [6] J) 60 0 _ _ _ _ _ _ (aCuts_ok _) ?_
  simp only [wp1, wp, wpl, wpi, lget, lput1, lput2, ltail, lkill, aV, aVl, aNth, aPut, aFz, aC0, aC2, aSw, aCat1, aCuts, aSet_eq, List.take, List.drop, List.reverse_cons, List.reverse_nil, List.nil_append, List.cons_append, List.length_cons, List.length_nil, Option.toList, true_and, and_true, Nat.reduceAdd, Nat.reduceEqDiff, Nat.reduceLT, Nat.reduceLeDiff, Nat.zero_add, Nat.add_zero, if_true, if_false, ite_true, ite_false, reduceIte, reduceCtorEq, true_or, or_true, not_true_eq_false, not_false_eq_true, false_and, and_false, true_implies, false_implies, not_false_eq_true, bqX3_timesPlus_0, blX3_timesPlus_0, bqX3_timesPlus_6, blX3_timesPlus_6, bqX3_timesPlus_15, blX3_timesPlus_15, bqX3_timesPlus_52, blX3_timesPlus_52, bqX3_timesPlus_58, blX3_timesPlus_58, bqX3_timesPlus_67, blX3_timesPlus_67, bqX3_timesPlus_88, blX3_timesPlus_88, aArgs, List.replicate, nI_l (show m < 2 ^ 31 by omega)]
  have h0 := loop (u + 1) 0 m g (by omega) (by omega) hm h2 (fun _ _ => rfl) (by simp [nVal])
  rw [aSet_id hA] at h0
  exact h0
end NAT2
