section NAT7
variable {l : Launch} {G : aG} {base tA : Nat} {O : aO} {A : aA} {a la b lb : Nat} {g g2 : Nat → Nat} {u v u2 v2 : Nat}
set_option maxHeartbeats 4000000 in
theorem ct_X3_minus (hab : a ≠ b) (hlab : la ≠ lb) (hv : nRep g u v) (hO : O a = some (4, [.ref la, .int (nI u)])) (hA : A la = some (0, 20, .inl (nF g))) (hv2 : nRep g2 u2 v2) (hO2 : O b = some (4, [.ref lb, .int (nI u2)])) (hA2 : A lb = some (0, 20, .inl (nF g2))) (hle : v2 ≤ v) : aMet l G base tA yX3_minus cX3_minus 5 none rmA [.ref a, .ref b] O A (fun r O' A' => r = none ∧ ∃ g' u', nRep g' u' (v - v2) ∧ O' = aSet O a (4, [.ref la, .int (nI u')]) ∧ A' = aSet A la (0, 20, .inl (nF g'))) := by
  refine aMet_of (ini := false) (B := aLook bkX3_minus) (by decide) (fun h => by first | rfl | cases h) (Nat.le_of_ble_eq_true rfl) boX3_minus ?_
  intro E J hb
  have hu2 : u2 ≤ u := by
    rcases Nat.lt_or_ge u u2 with q | q
    · have := nRep_lt hv hv2 q; omega
    · exact q
  obtain ⟨h1, h2, h3, h4, h5⟩ := hv
  obtain ⟨q1, q2, q3, q4, q5⟩ := hv2
  have hvm2 : v2 = nVal g2 u := by rw [q5]; exact (nVal_ext hu2 (fun k k1 k2 => q3 k k1 (by omega))).symm
  have loop : ∀ (n i c : Nat) (h : Nat → Nat), u - i < n → i ≤ u → c < 2 → (∀ k, k < 20 → h k < 2147483648) → (∀ k, i ≤ k → h k = g k) → nVal h i + nVal g2 i = nVal g i + c * 2147483648 ^ i → J 5 [some (.ref a), some (.ref b), some (.long (lZ (-(c : Int)))), none, some (.int (nI i))] [] O (aSet A la (0, 20, .inl (nF h))) 0 0 := by
    intro n
    induction n with
    | zero => intro i c h hn; omega
    | succ n ih =>
      intro i c h hn hi hc p1 p2 p3
      refine hb.run (aCuts [5, 65] J) 60 5 _ _ _ _ _ _ (aCuts_ok _) ?_
      rcases Nat.lt_or_ge i u with q | q
      · have hgi := h2 i (by omega)
        have hgi2 := q2 i (by omega)
        have e1 : vp_in (nI i) 20 := vp_in_nI (by omega) (by decide)
        have e2 : (nI u ≤ nI i) = False := by rw [nI_leI (by omega) (by omega)]; simp; omega
        obtain ⟨w, hw⟩ : ∃ w : Int, w = -(c : Int) + ((g i : Int) - (g2 i : Int)) := ⟨_, rfl⟩
        have hw1 : -2 ^ 62 ≤ w := by omega
        have hw2 : w < 2 ^ 62 := by omega
        simp only [wp1, wp, wpl, wpi, lget, lput1, lput2, ltail, lkill, aV, aVl, aNth, aPut, aFz, aC0, aC2, aSw, aCat1, aCuts, aSet_eq, List.take, List.drop, List.reverse_cons, List.reverse_nil, List.nil_append, List.cons_append, List.length_cons, List.length_nil, Option.toList, true_and, and_true, Nat.reduceAdd, Nat.reduceEqDiff, Nat.reduceLT, Nat.reduceLeDiff, Nat.zero_add, Nat.add_zero, if_true, if_false, ite_true, ite_false, reduceIte, reduceCtorEq, true_or, or_true, not_true_eq_false, not_false_eq_true, false_and, and_false, true_implies, false_implies, not_false_eq_true, bqX3_minus_0, blX3_minus_0, bqX3_minus_5, blX3_minus_5, bqX3_minus_14, blX3_minus_14, bqX3_minus_57, blX3_minus_57, bqX3_minus_65, blX3_minus_65, hO, hO2, aSet_ne hlab.symm, hA2, e1, e2, nI_clamp (show i < 2 ^ 31 by omega), nF_at, p2 i (Nat.le_refl i), nI_l (show g i < 2 ^ 31 by omega), nI_l (show g2 i < 2 ^ 31 by omega), lN_Z, lZ_sub, lZ_add, ← hw, lZ_i, iZ_mask, nF_upd, aSet_aSet, lZ_sar hw1 hw2 (show 31 < 64 by decide), nI_inc]
        obtain ⟨c', hc', hc2⟩ : ∃ c' : Nat, w / 2 ^ 31 = -(c' : Int) ∧ c' < 2 := ⟨(-(w / 2 ^ 31)).toNat, by omega, by omega⟩
        rw [hc']
        refine ih (i + 1) c' _ (by omega) (by omega) hc2 (fun k hk => ?_) (fun k hk => ?_) ?_
        · by_cases e : k = i
          · rw [e, uN9_eq]; omega
          · rw [uN9_ne e]; exact p1 k hk
        · rw [uN9_ne (by omega)]; exact p2 k (by omega)
        · rw [nVal_push]
          simp only [nVal, Nat.pow_succ]
          have hd : (w % 2147483648).toNat + g2 i + c = g i + c' * 2147483648 := by omega
          generalize (w % 2147483648).toNat = rr at *
          generalize 2147483648 ^ i = P at *
          have e9 : (rr + g2 i + c) * P = (g i + c' * 2147483648) * P := by rw [hd]
          grind
      · have e : i = u := by omega
        subst e
        have e2 : (nI i ≤ nI i) = True := by simp
        simp only [wp1, wp, wpl, wpi, lget, lput1, lput2, ltail, lkill, aV, aVl, aNth, aPut, aFz, aC0, aC2, aSw, aCat1, aCuts, aSet_eq, List.take, List.drop, List.reverse_cons, List.reverse_nil, List.nil_append, List.cons_append, List.length_cons, List.length_nil, Option.toList, true_and, and_true, Nat.reduceAdd, Nat.reduceEqDiff, Nat.reduceLT, Nat.reduceLeDiff, Nat.zero_add, Nat.add_zero, if_true, if_false, ite_true, ite_false, reduceIte, reduceCtorEq, true_or, or_true, not_true_eq_false, not_false_eq_true, false_and, and_false, true_implies, false_implies, not_false_eq_true, bqX3_minus_0, blX3_minus_0, bqX3_minus_5, blX3_minus_5, bqX3_minus_14, blX3_minus_14, bqX3_minus_57, blX3_minus_57, bqX3_minus_65, blX3_minus_65, hO, e2]
        have hc0 : c = 0 := by
          rcases Nat.eq_zero_or_pos c with q | q
          · exact q
          · have hl := nVal_lt (g := h) (n := i) (fun k hk => p1 k (by omega))
            have : 1 * 2147483648 ^ i ≤ c * 2147483648 ^ i := Nat.mul_le_mul_right _ q
            rw [← h5, ← hvm2] at p3
            omega
        subst hc0
        refine ⟨_, _, _, _, hb.callV lvX3_21 (ct_X3_settle (n := i) (by omega) p1 (fun k k1 k2 => by rw [p2 k k1]; exact h3 k k1 k2) hO aSet_eq) rfl hO (by decide) (by decide) (by decide), ?_, fun _ _ _ h => h.elim⟩
        rintro _ O' A' ⟨rfl, u', hu', rfl, rfl⟩
        refine hb.run (aCuts [5, 65] J) 60 65 _ _ _ _ _ _ (aCuts_ok _) ?_
        simp only [wp1, wp, wpl, wpi, lget, lput1, lput2, ltail, lkill, aV, aVl, aNth, aPut, aFz, aC0, aC2, aSw, aCat1, aCuts, aSet_eq, List.take, List.drop, List.reverse_cons, List.reverse_nil, List.nil_append, List.cons_append, List.length_cons, List.length_nil, Option.toList, true_and, and_true, Nat.reduceAdd, Nat.reduceEqDiff, Nat.reduceLT, Nat.reduceLeDiff, Nat.zero_add, Nat.add_zero, if_true, if_false, ite_true, ite_false, reduceIte, reduceCtorEq, true_or, or_true, not_true_eq_false, not_false_eq_true, false_and, and_false, true_implies, false_implies, not_false_eq_true, bqX3_minus_0, blX3_minus_0, bqX3_minus_5, blX3_minus_5, bqX3_minus_14, blX3_minus_14, bqX3_minus_57, blX3_minus_57, bqX3_minus_65, blX3_minus_65]
        refine hb.vret ⟨rfl, h, u', ?_, rfl, rfl⟩ (by decide) (by decide)
        rw [show v - v2 = nVal h i by rw [← h5, ← hvm2] at p3; omega]
        exact hu'
  refine hb.run (aCuts [5, 65] J) 60 0 _ _ _ _ _ _ (aCuts_ok _) ?_
  simp only [wp1, wp, wpl, wpi, lget, lput1, lput2, ltail, lkill, aV, aVl, aNth, aPut, aFz, aC0, aC2, aSw, aCat1, aCuts, aSet_eq, List.take, List.drop, List.reverse_cons, List.reverse_nil, List.nil_append, List.cons_append, List.length_cons, List.length_nil, Option.toList, true_and, and_true, Nat.reduceAdd, Nat.reduceEqDiff, Nat.reduceLT, Nat.reduceLeDiff, Nat.zero_add, Nat.add_zero, if_true, if_false, ite_true, ite_false, reduceIte, reduceCtorEq, true_or, or_true, not_true_eq_false, not_false_eq_true, false_and, and_false, true_implies, false_implies, not_false_eq_true, bqX3_minus_0, blX3_minus_0, bqX3_minus_5, blX3_minus_5, bqX3_minus_14, blX3_minus_14, bqX3_minus_57, blX3_minus_57, bqX3_minus_65, blX3_minus_65, aArgs, List.replicate]
  have h0 := loop (u + 1) 0 0 g (by omega) (by omega) (by decide) h2 (fun _ _ => rfl) (by simp [nVal])
  rw [aSet_id hA] at h0
  exact h0
/-- the row of powers of ten -/
def tens (k : Nat) : Nat := 10 ^ k
theorem tens_lt {k : Nat} (h : k < 10) : 10 ^ k < 2147483648 := by
  have : 10 ^ k ≤ 10 ^ 9 := Nat.pow_le_pow_right (by decide) (by omega)
  omega
abbrev rmC : Room := { frames := 2, cells := 0, slots := 0, locals := 60 }
set_option maxHeartbeats 4000000 in
theorem ct_X3_timesTenTo (hv : nRep g u v) (hO : O a = some (4, [.ref la, .int (nI u)])) (hA : A la = some (0, 20, .inl (nF g))) {tf : Nat → Int32} (htA : A tA = some (4, 10, .inl tf)) (htf : ∀ k, k < 10 → tf k = nI (10 ^ k)) {p : Nat} (hp : p < 1000) (hmax : v * 10 ^ p < 2147483648 ^ 20) : aMet l G base tA yX3_timesTenTo cX3_timesTenTo 3 none rmC [.ref a, .int (nI p)] O A (fun r O' A' => r = none ∧ ∃ g' u', nRep g' u' (v * 10 ^ p) ∧ O' = aSet O a (4, [.ref la, .int (nI u')]) ∧ A' = aSet A la (0, 20, .inl (nF g'))) := by
  refine aMet_of2 (ini := false) (B := aLook bkX3_timesTenTo) (by decide) (fun h => by first | rfl | cases h) (Nat.le_of_ble_eq_true rfl) boX3_timesTenTo ?_
  intro E J hb
  have hlt : tA ≠ la := by intro e; rw [e, hA] at htA; cases htA
  have loop : ∀ (n left : Nat) (x : Int32) (w : Nat) (h : Nat → Nat) (uu : Nat), left < n → left ≤ p → (x = nI left ∨ (left = 0 ∧ x < 0)) → nRep h uu w → w * 10 ^ left = v * 10 ^ p → J 2 [some (.ref a), some (.int (nI p)), some (.int x)] [] (aSet O a (4, [.ref la, .int (nI uu)])) (aSet A la (0, 20, .inl (nF h))) 0 0 := by
    intro n
    induction n with
    | zero => intro left x w h uu hn; omega
    | succ n ih =>
      intro left x w h uu hn hle hx hr hw
      refine hb.1.run (aCuts [2, 16, 21] J) 60 2 _ _ _ _ _ _ (aCuts_ok _) ?_
      rcases Nat.eq_zero_or_pos left with hz | hz
      · have ex : (x ≤ 0) = True := by
          rcases hx with hx | hx
          · rw [hx, hz, nI_0]; simp
          · simp only [eq_iff_iff, iff_true]; exact Int32.le_of_lt hx.2
        simp only [wp1, wp, wpl, wpi, lget, lput1, lput2, ltail, lkill, aV, aVl, aNth, aPut, aFz, aC0, aC2, aSw, aCat1, aCuts, aSet_eq, List.take, List.drop, List.reverse_cons, List.reverse_nil, List.nil_append, List.cons_append, List.length_cons, List.length_nil, Option.toList, true_and, and_true, Nat.reduceAdd, Nat.reduceEqDiff, Nat.reduceLT, Nat.reduceLeDiff, Nat.zero_add, Nat.add_zero, if_true, if_false, ite_true, ite_false, reduceIte, reduceCtorEq, true_or, or_true, not_true_eq_false, not_false_eq_true, false_and, and_false, true_implies, false_implies, not_false_eq_true, bqX3_timesTenTo_0, blX3_timesTenTo_0, bqX3_timesTenTo_2, blX3_timesTenTo_2, bqX3_timesTenTo_6, blX3_timesTenTo_6, bqX3_timesTenTo_16, blX3_timesTenTo_16, bqX3_timesTenTo_21, blX3_timesTenTo_21, bqX3_timesTenTo_27, blX3_timesTenTo_27, ex]
        refine hb.1.vret ⟨rfl, h, uu, ?_, rfl, rfl⟩ (by decide) (by decide)
        rw [← hw, hz]; simpa using hr
      · have hx : x = nI left := hx.resolve_right (by omega)
        subst hx
        have ex : (nI left ≤ 0) = False := by rw [nI_lez (by omega)]; simp; omega
        simp only [wp1, wp, wpl, wpi, lget, lput1, lput2, ltail, lkill, aV, aVl, aNth, aPut, aFz, aC0, aC2, aSw, aCat1, aCuts, aSet_eq, List.take, List.drop, List.reverse_cons, List.reverse_nil, List.nil_append, List.cons_append, List.length_cons, List.length_nil, Option.toList, true_and, and_true, Nat.reduceAdd, Nat.reduceEqDiff, Nat.reduceLT, Nat.reduceLeDiff, Nat.zero_add, Nat.add_zero, if_true, if_false, ite_true, ite_false, reduceIte, reduceCtorEq, true_or, or_true, not_true_eq_false, not_false_eq_true, false_and, and_false, true_implies, false_implies, not_false_eq_true, bqX3_timesTenTo_0, blX3_timesTenTo_0, bqX3_timesTenTo_2, blX3_timesTenTo_2, bqX3_timesTenTo_6, blX3_timesTenTo_6, bqX3_timesTenTo_16, blX3_timesTenTo_16, bqX3_timesTenTo_21, blX3_timesTenTo_21, bqX3_timesTenTo_27, blX3_timesTenTo_27, ex]
        refine ⟨_, _, _, _, hb.minN lkX3_min (x := left) (y := 9) (by omega) (by decide) (by decide) (by decide) (by decide) (by decide), ?_, fun _ _ _ h => h.elim⟩
        rintro _ O' A' ⟨rfl, rfl, rfl⟩
        refine hb.1.run (aCuts [2, 16, 21] J) 60 16 _ _ _ _ _ _ (aCuts_ok _) ?_
        obtain ⟨d, hd⟩ : ∃ d, d = min left 9 := ⟨_, rfl⟩
        rw [← hd]
        have hd9 : d ≤ 9 := by omega
        have e1 : vp_in (nI d) 10 := vp_in_nI (by omega) (by decide)
        have hwm : w * 10 ^ d ≤ v * 10 ^ p := by
          rw [← hw]; exact Nat.mul_le_mul_left _ (Nat.pow_le_pow_right (by decide) (by omega))
        simp only [wp1, wp, wpl, wpi, lget, lput1, lput2, ltail, lkill, aV, aVl, aNth, aPut, aFz, aC0, aC2, aSw, aCat1, aCuts, aSet_eq, List.take, List.drop, List.reverse_cons, List.reverse_nil, List.nil_append, List.cons_append, List.length_cons, List.length_nil, Option.toList, true_and, and_true, Nat.reduceAdd, Nat.reduceEqDiff, Nat.reduceLT, Nat.reduceLeDiff, Nat.zero_add, Nat.add_zero, if_true, if_false, ite_true, ite_false, reduceIte, reduceCtorEq, true_or, or_true, not_true_eq_false, not_false_eq_true, false_and, and_false, true_implies, false_implies, not_false_eq_true, bqX3_timesTenTo_0, blX3_timesTenTo_0, bqX3_timesTenTo_2, blX3_timesTenTo_2, bqX3_timesTenTo_6, blX3_timesTenTo_6, bqX3_timesTenTo_16, blX3_timesTenTo_16, bqX3_timesTenTo_21, blX3_timesTenTo_21, bqX3_timesTenTo_27, blX3_timesTenTo_27, hb.1.tens, aSet_ne hlt, htA, e1, nI_clamp (show d < 2 ^ 31 by omega), htf d (by omega), Nat.le_refl]
        refine ⟨_, _, _, _, hb.1.callV lvX3_38 (ct_X3_timesPlus (m := 0) hr aSet_eq aSet_eq (f := 10 ^ d) (Nat.pow_pos (by decide)) (tens_lt (by omega)) (by decide) (by omega)) rfl aSet_eq (by decide) (by decide) (by decide), ?_, fun _ _ _ h => h.elim⟩
        rintro _ O' A' ⟨rfl, h', uu', hr', rfl, rfl⟩
        refine hb.1.run (aCuts [2, 16, 21] J) 60 21 _ _ _ _ _ _ (aCuts_ok _) ?_
        simp only [wp1, wp, wpl, wpi, lget, lput1, lput2, ltail, lkill, aV, aVl, aNth, aPut, aFz, aC0, aC2, aSw, aCat1, aCuts, aSet_eq, List.take, List.drop, List.reverse_cons, List.reverse_nil, List.nil_append, List.cons_append, List.length_cons, List.length_nil, Option.toList, true_and, and_true, Nat.reduceAdd, Nat.reduceEqDiff, Nat.reduceLT, Nat.reduceLeDiff, Nat.zero_add, Nat.add_zero, if_true, if_false, ite_true, ite_false, reduceIte, reduceCtorEq, true_or, or_true, not_true_eq_false, not_false_eq_true, false_and, and_false, true_implies, false_implies, not_false_eq_true, bqX3_timesTenTo_0, blX3_timesTenTo_0, bqX3_timesTenTo_2, blX3_timesTenTo_2, bqX3_timesTenTo_6, blX3_timesTenTo_6, bqX3_timesTenTo_16, blX3_timesTenTo_16, bqX3_timesTenTo_21, blX3_timesTenTo_21, bqX3_timesTenTo_27, blX3_timesTenTo_27, aSet_aSet]
        refine ih (left - 9) _ _ _ _ (by omega) (by omega) ?_ hr' ?_
        · rcases Nat.lt_or_ge left 9 with q | q
          · right
            refine ⟨by omega, ?_⟩
            rw [show Int32.ofInt (-9) = -nI 9 from rfl, ← Int32.sub_eq_add_neg]
            exact pk_sneg (by decide) q
          · left
            rw [show Int32.ofInt (-9) = -nI 9 from rfl, ← Int32.sub_eq_add_neg]
            exact pk_sub q
        · rw [Nat.add_zero, Nat.mul_assoc, ← Nat.pow_add, show d + (left - 9) = left by omega]; exact hw
  refine hb.1.run (aCuts [2, 16, 21] J) 60 0 _ _ _ _ _ _ (aCuts_ok _) ?_
  simp only [wp1, wp, wpl, wpi, lget, lput1, lput2, ltail, lkill, aV, aVl, aNth, aPut, aFz, aC0, aC2, aSw, aCat1, aCuts, aSet_eq, List.take, List.drop, List.reverse_cons, List.reverse_nil, List.nil_append, List.cons_append, List.length_cons, List.length_nil, Option.toList, true_and, and_true, Nat.reduceAdd, Nat.reduceEqDiff, Nat.reduceLT, Nat.reduceLeDiff, Nat.zero_add, Nat.add_zero, if_true, if_false, ite_true, ite_false, reduceIte, reduceCtorEq, true_or, or_true, not_true_eq_false, not_false_eq_true, false_and, and_false, true_implies, false_implies, not_false_eq_true, bqX3_timesTenTo_0, blX3_timesTenTo_0, bqX3_timesTenTo_2, blX3_timesTenTo_2, bqX3_timesTenTo_6, blX3_timesTenTo_6, bqX3_timesTenTo_16, blX3_timesTenTo_16, bqX3_timesTenTo_21, blX3_timesTenTo_21, bqX3_timesTenTo_27, blX3_timesTenTo_27, aArgs, List.replicate]
  have h0 := loop (p + 1) p (nI p) v g u (by omega) (by omega) (Or.inl rfl) hv rfl
  rw [aSet_id hA, aSet_id hO] at h0
  exact h0
end NAT7
