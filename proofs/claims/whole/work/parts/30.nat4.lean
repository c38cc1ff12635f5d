section NAT4
variable {l : Launch} {G : aG} {base tA : Nat} {O : aO} {A : aA} {a la b lb : Nat} {g g2 : Nat → Nat} {u v u2 v2 : Nat}
theorem nVal_split (g : Nat → Nat) (m : Nat) : ∀ n, nVal g (m + n) = nVal g m + 2147483648 ^ m * nVal (fun k => g (m + k)) n
  | 0 => by simp [nVal]
  | n + 1 => by
    have h := nVal_split g m n
    rw [← Nat.add_assoc]
    simp only [nVal, h, Nat.pow_add]
    grind
theorem nVal_zero {g : Nat → Nat} : ∀ {n : Nat}, (∀ k, k < n → g k = 0) → nVal g n = 0
  | 0, _ => rfl
  | n + 1, h => by simp [nVal, h n (by omega), nVal_zero (n := n) (fun k hk => h k (by omega))]
theorem nVal_ext {g : Nat → Nat} {u n : Nat} (hn : u ≤ n) (h : ∀ k, u ≤ k → k < n → g k = 0) : nVal g n = nVal g u := by
  obtain ⟨d, rfl⟩ : ∃ d, n = u + d := ⟨n - u, by omega⟩
  rw [nVal_split, nVal_zero (fun k hk => h (u + k) (by omega) (by omega))]
  simp
theorem nRep.val20 (h : nRep g u v) : v = nVal g 20 := by
  rw [nVal_ext h.1 h.2.2.1]; exact h.2.2.2.2
theorem nVal_3 (g : Nat → Nat) : nVal g 3 = g 0 + g 1 * 2147483648 + g 2 * 4611686018427387904 := by simp [nVal]
set_option maxHeartbeats 4000000 in
theorem ct_X3_become {w : Nat} (hw : w < 2 ^ 64) (hv : nRep g u v) (hO : O a = some (4, [.ref la, .int (nI u)])) (hA : A la = some (0, 20, .inl (nF g))) : aMet l G base tA yX3_become cX3_become 3 none rmA [.ref a, .long (lN w)] O A (fun r O' A' => r = none ∧ ∃ g' u', nRep g' u' w ∧ O' = aSet O a (4, [.ref la, .int (nI u')]) ∧ A' = aSet A la (0, 20, .inl (nF g'))) := by
  refine aMet_of (ini := false) (B := aLook bkX3_become) (by decide) (fun h => by first | rfl | cases h) (Nat.le_of_ble_eq_true rfl) boX3_become ?_
  intro E J hb
  refine hb.run (aCuts [4, 45] J) 60 0 _ _ _ _ _ _ (aCuts_ok _) ?_
  simp only [wp1, wp, wpl, wpi, lget, lput1, lput2, ltail, lkill, aV, aVl, aNth, aPut, aFz, aC0, aC2, aSw, aCat1, aCuts, aSet_eq, List.take, List.drop, List.reverse_cons, List.reverse_nil, List.nil_append, List.cons_append, List.length_cons, List.length_nil, Option.toList, true_and, and_true, Nat.reduceAdd, Nat.reduceEqDiff, Nat.reduceLT, Nat.reduceLeDiff, Nat.zero_add, Nat.add_zero, if_true, if_false, ite_true, ite_false, reduceIte, reduceCtorEq, true_or, or_true, not_true_eq_false, not_false_eq_true, false_and, and_false, true_implies, false_implies, not_false_eq_true, bqX3_become_0, blX3_become_0, bqX3_become_4, blX3_become_4, bqX3_become_45, blX3_become_45, aArgs, List.replicate]
  refine ⟨_, _, _, _, hb.callV lvX3_17 (ct_X3_clear hv hO hA) rfl hO (by decide) (by decide) (by decide), ?_, fun _ _ _ h => h.elim⟩
  rintro _ O' A' ⟨rfl, g', hg', rfl, rfl⟩
  refine hb.run (aCuts [4, 45] J) 60 4 _ _ _ _ _ _ (aCuts_ok _) ?_
  have i0 : vp_in (nI 0) 20 := vp_in_nI (by decide) (by decide)
  have i1 : vp_in (nI 1) 20 := vp_in_nI (by decide) (by decide)
  have i2 : vp_in (nI 2) 20 := vp_in_nI (by decide) (by decide)
  simp only [wp1, wp, wpl, wpi, lget, lput1, lput2, ltail, lkill, aV, aVl, aNth, aPut, aFz, aC0, aC2, aSw, aCat1, aCuts, aSet_eq, List.take, List.drop, List.reverse_cons, List.reverse_nil, List.nil_append, List.cons_append, List.length_cons, List.length_nil, Option.toList, true_and, and_true, Nat.reduceAdd, Nat.reduceEqDiff, Nat.reduceLT, Nat.reduceLeDiff, Nat.zero_add, Nat.add_zero, if_true, if_false, ite_true, ite_false, reduceIte, reduceCtorEq, true_or, or_true, not_true_eq_false, not_false_eq_true, false_and, and_false, true_implies, false_implies, not_false_eq_true, bqX3_become_0, blX3_become_0, bqX3_become_4, blX3_become_4, bqX3_become_45, blX3_become_45, i0, i1, i2, nI_clamp (show 0 < 2 ^ 31 by decide), nI_clamp (show 1 < 2 ^ 31 by decide), nI_clamp (show 2 < 2 ^ 31 by decide), lN_i, nI_mask, wb_shr hw (show 31 < 64 by decide), wb_shr hw (show 62 < 64 by decide), nF_upd, aSet_aSet]
  have hz : ∀ k, k < 20 → g' k = 0 := fun k hk => hg'.2.2.1 k (Nat.zero_le k) hk
  refine ⟨_, _, _, _, hb.callV lvX3_21 (ct_X3_settle (n := 3) (by decide) (fun k hk => ?_) (fun k h1 h2 => ?_) aSet_eq aSet_eq) rfl aSet_eq (by decide) (by decide) (by decide), ?_, fun _ _ _ h => h.elim⟩
  · by_cases e2 : k = 2
    · rw [e2, uN9_eq]; omega
    · rw [uN9_ne e2]
      by_cases e1 : k = 1
      · rw [e1, uN9_eq]; omega
      · rw [uN9_ne e1]
        by_cases e0 : k = 0
        · rw [e0, uN9_eq]; omega
        · rw [uN9_ne e0, hz k hk]; decide
  · rw [uN9_ne (by omega), uN9_ne (by omega), uN9_ne (by omega)]; exact hz k h2
  · rintro _ O' A' ⟨rfl, u', hu', rfl, rfl⟩
    refine hb.run (aCuts [4, 45] J) 60 45 _ _ _ _ _ _ (aCuts_ok _) ?_
    simp only [wp1, wp, wpl, wpi, lget, lput1, lput2, ltail, lkill, aV, aVl, aNth, aPut, aFz, aC0, aC2, aSw, aCat1, aCuts, aSet_eq, List.take, List.drop, List.reverse_cons, List.reverse_nil, List.nil_append, List.cons_append, List.length_cons, List.length_nil, Option.toList, true_and, and_true, Nat.reduceAdd, Nat.reduceEqDiff, Nat.reduceLT, Nat.reduceLeDiff, Nat.zero_add, Nat.add_zero, if_true, if_false, ite_true, ite_false, reduceIte, reduceCtorEq, true_or, or_true, not_true_eq_false, not_false_eq_true, false_and, and_false, true_implies, false_implies, not_false_eq_true, bqX3_become_0, blX3_become_0, bqX3_become_4, blX3_become_4, bqX3_become_45, blX3_become_45, aSet_aSet]
    refine hb.vret ⟨rfl, _, u', ?_, rfl, rfl⟩ (by decide) (by decide)
    have hw9 : w = nVal (uN9 (uN9 (uN9 g' 0 (w % 2 ^ 31)) 1 (w / 2 ^ 31 % 2 ^ 31)) 2 (w / 2 ^ 62)) 3 := by
      rw [nVal_3]
      simp only [uN9_eq, uN9_ne (show (0 : Nat) ≠ 2 by decide), uN9_ne (show (0 : Nat) ≠ 1 by decide), uN9_ne (show (1 : Nat) ≠ 2 by decide)]
      omega
    rw [← hw9] at hu'
    exact hu'
theorem lN_cong {x y : Nat} (h : x % 2 ^ 64 = y % 2 ^ 64) : lN x = lN y := by rw [wb_mod x, wb_mod y, h]
theorem lN_or62 {x y : Nat} (hx : x < 2 ^ 62) : lN x ||| lN (y * 2 ^ 62) = lN (x + y * 2 ^ 62) := by
  have e1 : lN (y * 2 ^ 62) = lN (y % 4 * 2 ^ 62) := lN_cong (by omega)
  have e2 : lN (x + y * 2 ^ 62) = lN (x + y % 4 * 2 ^ 62) := lN_cong (by omega)
  rw [e1, e2]
  exact g_or' rfl hx (by omega)
set_option maxHeartbeats 4000000 in
theorem ct_X3_lowBits (hv : nRep g u v) (hO : O a = some (4, [.ref la, .int (nI u)])) (hA : A la = some (0, 20, .inl (nF g))) : aMet l G base tA yX3_lowBits cX3_lowBits 1 (some .long) rmZ [.ref a] O A (fun r O' A' => r = some (.long (lN v)) ∧ O' = O ∧ A' = A) := by
  refine aMet_of (ini := false) (B := aLook bkX3_lowBits) (by decide) (fun h => by first | rfl | cases h) (Nat.le_of_ble_eq_true rfl) boX3_lowBits ?_
  intro E J hb
  refine hb.run (aCuts [] J) 60 0 _ _ _ _ _ _ (aCuts_ok _) ?_
  have i0 : vp_in (nI 0) 20 := vp_in_nI (by decide) (by decide)
  have i1 : vp_in (nI 1) 20 := vp_in_nI (by decide) (by decide)
  have i2 : vp_in (nI 2) 20 := vp_in_nI (by decide) (by decide)
  have b0 := hv.2.1 0 (by decide)
  have b1 := hv.2.1 1 (by decide)
  have b2 := hv.2.1 2 (by decide)
  have o1 : lN (g 0) ||| lN (g 1 * 2 ^ 31) = lN (g 0 + g 1 * 2 ^ 31) := g_or' rfl (by omega) (by omega)
  simp only [wp1, wp, wpl, wpi, lget, lput1, lput2, ltail, lkill, aV, aVl, aNth, aPut, aFz, aC0, aC2, aSw, aCat1, aCuts, aSet_eq, List.take, List.drop, List.reverse_cons, List.reverse_nil, List.nil_append, List.cons_append, List.length_cons, List.length_nil, Option.toList, true_and, and_true, Nat.reduceAdd, Nat.reduceEqDiff, Nat.reduceLT, Nat.reduceLeDiff, Nat.zero_add, Nat.add_zero, if_true, if_false, ite_true, ite_false, reduceIte, reduceCtorEq, true_or, or_true, not_true_eq_false, not_false_eq_true, false_and, and_false, true_implies, false_implies, not_false_eq_true, bqX3_lowBits_0, blX3_lowBits_0, aArgs, hO, hA, i0, i1, i2, nI_clamp (show 0 < 2 ^ 31 by decide), nI_clamp (show 1 < 2 ^ 31 by decide), nI_clamp (show 2 < 2 ^ 31 by decide), nF_at, nI_l (show g 0 < 2 ^ 31 by omega), nI_l (show g 1 < 2 ^ 31 by omega), nI_l (show g 2 < 2 ^ 31 by omega), wb_shl _ (show 31 < 64 by decide), wb_shl _ (show 62 < 64 by decide), o1, lN_or62 (show g 0 + g 1 * 2 ^ 31 < 2 ^ 62 by omega)]
  refine hb.lret ⟨?_, rfl, rfl⟩ (by decide) (by decide)
  have hs := nVal_split g 3 17
  rw [nVal_3] at hs
  have h20 := hv.val20
  rw [show (20 : Nat) = 3 + 17 from rfl, hs] at h20
  have e3 : (2147483648 : Nat) ^ 3 = 2 ^ 64 * 536870912 := by decide
  rw [e3] at h20
  congr 2
  rw [h20]
  apply lN_cong
  rw [Nat.mul_assoc, Nat.add_mul_mod_self_left]
/-- how many bits a number has -/
def blen (n : Nat) : Nat := if n = 0 then 0 else n.log2 + 1
theorem blen_0 : blen 0 = 0 := rfl
theorem blen_of {n k : Nat} (h1 : 2 ^ k ≤ n) (h2 : n < 2 ^ (k + 1)) : blen n = k + 1 := by
  have h0 : n ≠ 0 := by have := Nat.two_pow_pos k; omega
  unfold blen
  rw [if_neg h0]
  have a1 := (Nat.le_log2 h0).mpr h1
  have a2 := (Nat.log2_lt h0).mpr h2
  omega
theorem blen_pos {n : Nat} (h : n ≠ 0) : 2 ^ (blen n - 1) ≤ n ∧ n < 2 ^ blen n ∧ 0 < blen n := by
  unfold blen
  rw [if_neg h]
  exact ⟨(Nat.le_log2 h).mp (by omega), (Nat.log2_lt h).mp (by omega), by omega⟩
theorem blen_lt {n k : Nat} (h : n < 2 ^ k) : blen n ≤ k := by
  by_cases h0 : n = 0
  · subst h0; exact Nat.zero_le _
  · unfold blen
    rw [if_neg h0]
    have := (Nat.log2_lt h0).mpr h
    omega
set_option maxHeartbeats 4000000 in
theorem ct_X3_topLength (hv : nRep g u v) (hO : O a = some (4, [.ref la, .int (nI u)])) (hA : A la = some (0, 20, .inl (nF g))) : aMet l G base tA yX3_topLength cX3_topLength 2 (some .int) rmZ [.ref a] O A (fun r O' A' => r = some (.int (nI (if u = 0 then 0 else blen (g (u - 1))))) ∧ O' = O ∧ A' = A) := by
  refine aMet_of (ini := false) (B := aLook bkX3_topLength) (by decide) (fun h => by first | rfl | cases h) (Nat.le_of_ble_eq_true rfl) boX3_topLength ?_
  intro E J hb
  obtain ⟨h1, h2, h3, h4, h5⟩ := hv
  have loop : ∀ (n i : Nat), 31 - i < n → i ≤ 31 → (0 < i → 0 < u ∧ 2 ^ (i - 1) ≤ g (u - 1)) → J 2 [some (.ref a), some (.int (nI i))] [] O A 0 0 := by
    intro n
    induction n with
    | zero => intro i hn; omega
    | succ n ih =>
      intro i hn hi p1
      refine hb.run (aCuts [2] J) 60 2 _ _ _ _ _ _ (aCuts_ok _) ?_
      rcases Nat.eq_zero_or_pos u with hu | hu
      · subst hu
        have hi0 : i = 0 := by
          rcases Nat.eq_zero_or_pos i with h | h
          · exact h
          · exact absurd (p1 h).1 (by omega)
        subst hi0
        have e0 : (nI 0 ≤ (0 : Int32)) = True := by simp [nI_0]
        have e1 : (nI 31 ≤ nI 0) = False := by rw [nI_leI (by decide) (by decide)]; simp
        simp only [wp1, wp, wpl, wpi, lget, lput1, lput2, ltail, lkill, aV, aVl, aNth, aPut, aFz, aC0, aC2, aSw, aCat1, aCuts, aSet_eq, List.take, List.drop, List.reverse_cons, List.reverse_nil, List.nil_append, List.cons_append, List.length_cons, List.length_nil, Option.toList, true_and, and_true, Nat.reduceAdd, Nat.reduceEqDiff, Nat.reduceLT, Nat.reduceLeDiff, Nat.zero_add, Nat.add_zero, if_true, if_false, ite_true, ite_false, reduceIte, reduceCtorEq, true_or, or_true, not_true_eq_false, not_false_eq_true, false_and, and_false, true_implies, false_implies, not_false_eq_true, bqX3_topLength_0, blX3_topLength_0, bqX3_topLength_2, blX3_topLength_2, bqX3_topLength_8, blX3_topLength_8, bqX3_topLength_15, blX3_topLength_15, bqX3_topLength_31, blX3_topLength_31, bqX3_topLength_37, blX3_topLength_37, hO, e0, e1]
        exact hb.iret (nar_i _) ⟨rfl, rfl, rfl⟩ (by decide) (by decide)
      · have e1 : vp_in (nI (u - 1)) 20 := vp_in_nI (by omega) (by decide)
        have e2 : (nI u ≤ (0 : Int32)) = False := by rw [nI_lez (by omega)]; simp; omega
        have hb2 := h2 (u - 1) (by omega)
        have h40 := h4 hu
        rcases Nat.lt_or_ge i 31 with q | q
        · have e3 : (nI 31 ≤ nI i) = False := by rw [nI_leI (by decide) (by omega)]; simp; omega
          have hdl : g (u - 1) / 2 ^ i < 2 ^ 31 := Nat.lt_of_le_of_lt (Nat.div_le_self _ _) (by omega)
          simp only [wp1, wp, wpl, wpi, lget, lput1, lput2, ltail, lkill, aV, aVl, aNth, aPut, aFz, aC0, aC2, aSw, aCat1, aCuts, aSet_eq, List.take, List.drop, List.reverse_cons, List.reverse_nil, List.nil_append, List.cons_append, List.length_cons, List.length_nil, Option.toList, true_and, and_true, Nat.reduceAdd, Nat.reduceEqDiff, Nat.reduceLT, Nat.reduceLeDiff, Nat.zero_add, Nat.add_zero, if_true, if_false, ite_true, ite_false, reduceIte, reduceCtorEq, true_or, or_true, not_true_eq_false, not_false_eq_true, false_and, and_false, true_implies, false_implies, not_false_eq_true, bqX3_topLength_0, blX3_topLength_0, bqX3_topLength_2, blX3_topLength_2, bqX3_topLength_8, blX3_topLength_8, bqX3_topLength_15, blX3_topLength_15, bqX3_topLength_31, blX3_topLength_31, bqX3_topLength_37, blX3_topLength_37, hO, hA, e1, e2, e3, nI_sub1 hu, nI_clamp (show u - 1 < 2 ^ 31 by omega), nF_at, pk_shrN (show g (u - 1) < 2 ^ 31 by omega) _ i (s_l i (by omega)), nI_z hdl, nI_inc]
          refine ⟨fun hc => hb.iret (nar_i _) ⟨?_, rfl, rfl⟩ (by decide) (by decide), fun hc => ih (i + 1) (by omega) (by omega) (fun _ => ⟨hu, ?_⟩)⟩
          · rw [if_neg (by omega)]
            have hlt : g (u - 1) < 2 ^ i := by
              rcases Nat.lt_or_ge (g (u - 1)) (2 ^ i) with q | q
              · exact q
              · have := Nat.div_pos q (Nat.two_pow_pos i); omega
            rcases Nat.eq_zero_or_pos i with hi0 | hi0
            · subst hi0; simp at hlt; omega
            · obtain ⟨j, rfl⟩ : ∃ j, i = j + 1 := ⟨i - 1, by omega⟩
              rw [Nat.add_sub_cancel] at p1
              rw [blen_of (p1 hi0).2 hlt]
          · rw [Nat.add_sub_cancel]
            rcases Nat.lt_or_ge (g (u - 1)) (2 ^ i) with q | q
            · exact absurd (Nat.div_eq_of_lt q) hc
            · exact q
        · have e : i = 31 := by omega
          subst e
          have e3 : (nI 31 ≤ nI 31) = True := by simp
          simp only [wp1, wp, wpl, wpi, lget, lput1, lput2, ltail, lkill, aV, aVl, aNth, aPut, aFz, aC0, aC2, aSw, aCat1, aCuts, aSet_eq, List.take, List.drop, List.reverse_cons, List.reverse_nil, List.nil_append, List.cons_append, List.length_cons, List.length_nil, Option.toList, true_and, and_true, Nat.reduceAdd, Nat.reduceEqDiff, Nat.reduceLT, Nat.reduceLeDiff, Nat.zero_add, Nat.add_zero, if_true, if_false, ite_true, ite_false, reduceIte, reduceCtorEq, true_or, or_true, not_true_eq_false, not_false_eq_true, false_and, and_false, true_implies, false_implies, not_false_eq_true, bqX3_topLength_0, blX3_topLength_0, bqX3_topLength_2, blX3_topLength_2, bqX3_topLength_8, blX3_topLength_8, bqX3_topLength_15, blX3_topLength_15, bqX3_topLength_31, blX3_topLength_31, bqX3_topLength_37, blX3_topLength_37, hO, e3]
          refine hb.iret (nar_i _) ⟨?_, rfl, rfl⟩ (by decide) (by decide)
          rw [if_neg (by omega), blen_of (k := 30) (p1 (by decide)).2 (by omega)]
  refine hb.run (aCuts [2] J) 60 0 _ _ _ _ _ _ (aCuts_ok _) ?_
  simp only [wp1, wp, wpl, wpi, lget, lput1, lput2, ltail, lkill, aV, aVl, aNth, aPut, aFz, aC0, aC2, aSw, aCat1, aCuts, aSet_eq, List.take, List.drop, List.reverse_cons, List.reverse_nil, List.nil_append, List.cons_append, List.length_cons, List.length_nil, Option.toList, true_and, and_true, Nat.reduceAdd, Nat.reduceEqDiff, Nat.reduceLT, Nat.reduceLeDiff, Nat.zero_add, Nat.add_zero, if_true, if_false, ite_true, ite_false, reduceIte, reduceCtorEq, true_or, or_true, not_true_eq_false, not_false_eq_true, false_and, and_false, true_implies, false_implies, not_false_eq_true, bqX3_topLength_0, blX3_topLength_0, bqX3_topLength_2, blX3_topLength_2, bqX3_topLength_8, blX3_topLength_8, bqX3_topLength_15, blX3_topLength_15, bqX3_topLength_31, blX3_topLength_31, bqX3_topLength_37, blX3_topLength_37, aArgs, List.replicate]
  exact loop 32 0 (by omega) (by omega) (fun h => by omega)
set_option maxHeartbeats 4000000 in
theorem ct_X3_bitLength (hv : nRep g u v) (hO : O a = some (4, [.ref la, .int (nI u)])) (hA : A la = some (0, 20, .inl (nF g))) : aMet l G base tA yX3_bitLength cX3_bitLength 1 (some .int) rmA [.ref a] O A (fun r O' A' => r = some (.int (nI (blen v))) ∧ O' = O ∧ A' = A) := by
  refine aMet_of (ini := false) (B := aLook bkX3_bitLength) (by decide) (fun h => by first | rfl | cases h) (Nat.le_of_ble_eq_true rfl) boX3_bitLength ?_
  intro E J hb
  refine hb.run (aCuts [24] J) 60 0 _ _ _ _ _ _ (aCuts_ok _) ?_
  have hu : u ≤ 20 := hv.1
  have hz := hv.zero
  simp only [wp1, wp, wpl, wpi, lget, lput1, lput2, ltail, lkill, aV, aVl, aNth, aPut, aFz, aC0, aC2, aSw, aCat1, aCuts, aSet_eq, List.take, List.drop, List.reverse_cons, List.reverse_nil, List.nil_append, List.cons_append, List.length_cons, List.length_nil, Option.toList, true_and, and_true, Nat.reduceAdd, Nat.reduceEqDiff, Nat.reduceLT, Nat.reduceLeDiff, Nat.zero_add, Nat.add_zero, if_true, if_false, ite_true, ite_false, reduceIte, reduceCtorEq, true_or, or_true, not_true_eq_false, not_false_eq_true, false_and, and_false, true_implies, false_implies, not_false_eq_true, bqX3_bitLength_0, blX3_bitLength_0, bqX3_bitLength_7, blX3_bitLength_7, bqX3_bitLength_11, blX3_bitLength_11, bqX3_bitLength_24, blX3_bitLength_24, bqX3_bitLength_25, blX3_bitLength_25, aArgs, hO, nI_z (show u < 2 ^ 31 by omega)]
  refine ⟨fun h => ?_, fun h => ?_⟩
  · rw [nI_sub1 (by omega), pk_mul]
    refine ⟨_, _, _, _, hb.callV lvX3_25 (ct_X3_topLength hv hO hA) rfl hO (by decide) (by decide) (by decide), ?_, fun _ _ _ h => h.elim⟩
    rintro _ O' A' ⟨rfl, rfl, rfl⟩
    refine hb.run (aCuts [24] J) 60 24 _ _ _ _ _ _ (aCuts_ok _) ?_
    simp only [wp1, wp, wpl, wpi, lget, lput1, lput2, ltail, lkill, aV, aVl, aNth, aPut, aFz, aC0, aC2, aSw, aCat1, aCuts, aSet_eq, List.take, List.drop, List.reverse_cons, List.reverse_nil, List.nil_append, List.cons_append, List.length_cons, List.length_nil, Option.toList, true_and, and_true, Nat.reduceAdd, Nat.reduceEqDiff, Nat.reduceLT, Nat.reduceLeDiff, Nat.zero_add, Nat.add_zero, if_true, if_false, ite_true, ite_false, reduceIte, reduceCtorEq, true_or, or_true, not_true_eq_false, not_false_eq_true, false_and, and_false, true_implies, false_implies, not_false_eq_true, bqX3_bitLength_0, blX3_bitLength_0, bqX3_bitLength_7, blX3_bitLength_7, bqX3_bitLength_11, blX3_bitLength_11, bqX3_bitLength_24, blX3_bitLength_24, bqX3_bitLength_25, blX3_bitLength_25, nI_add]
    refine hb.iret (nar_i _) ⟨?_, rfl, rfl⟩ (by decide) (by decide)
    rw [if_neg h]
    have hu0 : 0 < u := by omega
    have ht := hv.2.2.2.1 hu0
    obtain ⟨b1, b2, b3⟩ := blen_pos ht
    have hbt : ∀ k, k < u → g k < 2147483648 := fun k hk => hv.2.1 k (by omega)
    have hv9 := hv.2.2.2.2
    obtain ⟨j, rfl⟩ : ∃ j, u = j + 1 := ⟨u - 1, by omega⟩
    simp only [Nat.add_sub_cancel, nVal] at *
    have hl := nVal_lt (g := g) (n := j) (fun k hk => hbt k (by omega))
    have e31 : (2147483648 : Nat) ^ j = 2 ^ (j * 31) := by rw [show (2147483648 : Nat) = 2 ^ 31 from rfl, ← Nat.pow_mul, Nat.mul_comm]
    rw [e31] at hl hv9
    obtain ⟨t, ht9⟩ : ∃ t, blen (g j) = t + 1 := ⟨blen (g j) - 1, by omega⟩
    rw [ht9] at b1 b2 ⊢
    rw [Nat.add_sub_cancel] at b1
    congr 3
    rw [← Nat.add_assoc]
    symm
    apply blen_of
    · rw [hv9, Nat.pow_add]
      calc 2 ^ (j * 31) * 2 ^ t ≤ 2 ^ (j * 31) * g j := Nat.mul_le_mul_left _ b1
        _ = g j * 2 ^ (j * 31) := Nat.mul_comm _ _
        _ ≤ _ := Nat.le_add_left _ _
    · rw [hv9, Nat.add_assoc, Nat.pow_add]
      calc nVal g j + g j * 2 ^ (j * 31) < 2 ^ (j * 31) + g j * 2 ^ (j * 31) := by omega
        _ = (g j + 1) * 2 ^ (j * 31) := by grind
        _ ≤ 2 ^ (t + 1) * 2 ^ (j * 31) := Nat.mul_le_mul_right _ b2
        _ = _ := Nat.mul_comm _ _
  · have h : u = 0 := Classical.not_not.mp h
    refine hb.iret (nar_i _) ⟨?_, rfl, rfl⟩ (by decide) (by decide)
    rw [hz.mpr h]; rfl
end NAT4
