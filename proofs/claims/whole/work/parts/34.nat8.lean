section NAT8
variable {l : Launch} {G : aG} {base tA : Nat} {O : aO} {A : aA} {a la b lb c lc : Nat} {g g2 g3 : Nat → Nat} {u v u2 v2 u3 v3 : Nat}
theorem nVal_upd {h : Nat → Nat} {p y : Nat} : ∀ {n : Nat}, p < n → nVal (uN9 h p y) n + h p * 2147483648 ^ p = nVal h n + y * 2147483648 ^ p
  | 0, hp => absurd hp (Nat.not_lt_zero p)
  | n + 1, hp => by
    by_cases e : p = n
    · subst e
      rw [nVal_push]
      simp only [nVal]
      omega
    · have ih := nVal_upd (h := h) (p := p) (y := y) (n := n) (by omega)
      simp only [nVal]
      rw [uN9_ne (show n ≠ p by omega)]
      omega
theorem nVal_succ (g : Nat → Nat) (n : Nat) : nVal g (n + 1) = nVal g n + g n * 2147483648 ^ n := rfl
theorem prod_step {V V' V'' M x y z cy qq rr P Q : Nat} (hu : V'' + z * (P * Q) = V' + rr * (P * Q)) (hd : 2147483648 * qq + rr = cy + (x * y + z)) (s3 : V' + cy * (P * Q) = V + x * M * P) : V'' + qq * (P * Q * 2147483648) = V + x * (M + y * Q) * P := by
  have e9 : (2147483648 * qq + rr) * (P * Q) = (cy + (x * y + z)) * (P * Q) := by rw [hd]
  grind
theorem prod_end {V V' V'' x m v3 cy P Q : Nat} (hu : V'' + 0 * (P * Q) = V' + cy * (P * Q)) (s3 : V' + cy * (P * Q) = V + x * v3 * P) (p3 : V = m * v3) : V'' = (m + x * P) * v3 := by
  grind
set_option maxHeartbeats 8000000 in
set_option maxRecDepth 20000 in
theorem ct_X3_becomeProduct (hab : a ≠ b) (hlab : la ≠ lb) (hac : a ≠ c) (hlac : la ≠ lc) (hv : nRep g u v) (hO : O a = some (4, [.ref la, .int (nI u)])) (hA : A la = some (0, 20, .inl (nF g))) (hv2 : nRep g2 u2 v2) (hO2 : O b = some (4, [.ref lb, .int (nI u2)])) (hA2 : A lb = some (0, 20, .inl (nF g2))) (hv3 : nRep g3 u3 v3) (hO3 : O c = some (4, [.ref lc, .int (nI u3)])) (hA3 : A lc = some (0, 20, .inl (nF g3))) (hmax : u2 + u3 ≤ 20) : aMet l G base tA yX3_becomeProduct cX3_becomeProduct 7 none rmA [.ref a, .ref b, .ref c] O A (fun r O' A' => r = none ∧ ∃ g' u', nRep g' u' (v2 * v3) ∧ O' = aSet O a (4, [.ref la, .int (nI u')]) ∧ A' = aSet A la (0, 20, .inl (nF g'))) := by
  refine aMet_of (ini := false) (B := aLook bkX3_becomeProduct) (by decide) (fun h => by first | rfl | cases h) (Nat.le_of_ble_eq_true rfl) boX3_becomeProduct ?_
  intro E J hb
  obtain ⟨q1, q2, q3, q4, q5⟩ := hv2
  obtain ⟨r1, r2, r3, r4, r5⟩ := hv3
  have outer : ∀ (n i : Nat) (h : Nat → Nat) (x4 x5 x6 : Option Value), u2 - i < n → i ≤ u2 → (∀ k, k < 20 → h k < 2147483648) → (∀ k, i + u3 ≤ k → k < 20 → h k = 0) → nVal h 20 = nVal g2 i * v3 → J 21 [some (.ref a), some (.ref b), some (.ref c), some (.int (nI i)), x4, x5, x6] [] (aSet O a (4, [.ref la, .int (nI 0)])) (aSet A la (0, 20, .inl (nF h))) 0 0 := by
    intro n
    induction n with
    | zero => intro i h x4 x5 x6 hn; omega
    | succ n ih =>
      intro i h x4 x5 x6 hn hi p1 p2 p3
      rcases Nat.lt_or_ge i u2 with q | q
      · have hgi := q2 i (by omega)
        have inner : ∀ (n2 j cy : Nat) (h' : Nat → Nat), u3 - j < n2 → j ≤ u3 → cy < 2147483648 → (∀ k, k < 20 → h' k < 2147483648) → (∀ k, i + j ≤ k → h' k = h k) → nVal h' 20 + cy * 2147483648 ^ (i + j) = nVal h 20 + g2 i * nVal g3 j * 2147483648 ^ i → J 35 [some (.ref a), some (.ref b), some (.ref c), some (.int (nI i)), some (.long (lN cy)), none, some (.int (nI j))] [] (aSet O a (4, [.ref la, .int (nI 0)])) (aSet A la (0, 20, .inl (nF h'))) 0 0 := by
          intro n2
          induction n2 with
          | zero => intro j cy h' hn2; omega
          | succ n2 ih2 =>
            intro j cy h' hn2 hj hcy s1 s2 s3
            refine hb.run (aCuts [4, 21, 35, 137] J) 60 35 _ _ _ _ _ _ (aCuts_ok _) ?_
            rcases Nat.lt_or_ge j u3 with t | t
            · have hgj := r2 j (by omega)
              have hh := s1 (i + j) (by omega)
              have e1 : vp_in (nI i) 20 := vp_in_nI (by omega) (by decide)
              have e2 : vp_in (nI j) 20 := vp_in_nI (by omega) (by decide)
              have e3 : vp_in (nI (i + j)) 20 := vp_in_nI (by omega) (by decide)
              have e4 : (nI u3 ≤ nI j) = False := by rw [nI_leI (by omega) (by omega)]; simp; omega
              have hm : g2 i * g3 j ≤ 2147483647 * 2147483647 := Nat.mul_le_mul (by omega) (by omega)
              have hw : cy + (g2 i * g3 j + h' (i + j)) < 2 ^ 62 := by omega
              simp only [wp1, wp, wpl, wpi, lget, lput1, lput2, ltail, lkill, aV, aVl, aNth, aPut, aFz, aC0, aC2, aSw, aCat1, aCuts, aSet_eq, List.take, List.drop, List.reverse_cons, List.reverse_nil, List.nil_append, List.cons_append, List.length_cons, List.length_nil, Option.toList, true_and, and_true, Nat.reduceAdd, Nat.reduceEqDiff, Nat.reduceLT, Nat.reduceLeDiff, Nat.zero_add, Nat.add_zero, if_true, if_false, ite_true, ite_false, reduceIte, reduceCtorEq, true_or, or_true, not_true_eq_false, not_false_eq_true, false_and, and_false, true_implies, false_implies, not_false_eq_true, bqX3_becomeProduct_0, blX3_becomeProduct_0, bqX3_becomeProduct_4, blX3_becomeProduct_4, bqX3_becomeProduct_18, blX3_becomeProduct_18, bqX3_becomeProduct_19, blX3_becomeProduct_19, bqX3_becomeProduct_21, blX3_becomeProduct_21, bqX3_becomeProduct_29, blX3_becomeProduct_29, bqX3_becomeProduct_35, blX3_becomeProduct_35, bqX3_becomeProduct_44, blX3_becomeProduct_44, bqX3_becomeProduct_104, blX3_becomeProduct_104, bqX3_becomeProduct_124, blX3_becomeProduct_124, bqX3_becomeProduct_137, blX3_becomeProduct_137, aSet_ne hab.symm, aSet_ne hac.symm, aSet_ne hlab.symm, aSet_ne hlac.symm, hO2, hO3, hA2, hA3, e1, e2, e3, e4, nI_add, nI_clamp (show i < 2 ^ 31 by omega), nI_clamp (show j < 2 ^ 31 by omega), nI_clamp (show i + j < 2 ^ 31 by omega), nF_at, nI_l (show g2 i < 2 ^ 31 by omega), nI_l (show g3 j < 2 ^ 31 by omega), nI_l (show h' (i + j) < 2 ^ 31 by omega), lN_mul, lN_add, lN_i, nI_mask, nF_upd, aSet_aSet, lN_sar hw (show 31 < 64 by decide), nI_inc]
              refine ih2 (j + 1) _ _ (by omega) (by omega) (by omega) (fun k hk => ?_) (fun k hk => ?_) ?_
              · by_cases e : k = i + j
                · rw [e, uN9_eq]; exact Nat.mod_lt _ (by decide)
                · rw [uN9_ne e]; exact s1 k hk
              · rw [uN9_ne (by omega)]; exact s2 k (by omega)
              · have hu := nVal_upd (h := h') (p := i + j) (y := (cy + (g2 i * g3 j + h' (i + j))) % 2 ^ 31) (n := 20) (by omega)
                have hd : 2147483648 * ((cy + (g2 i * g3 j + h' (i + j))) / 2 ^ 31) + (cy + (g2 i * g3 j + h' (i + j))) % 2 ^ 31 = cy + (g2 i * g3 j + h' (i + j)) := by omega
                rw [Nat.pow_add] at hu s3
                have ep : (2147483648 : Nat) ^ (i + (j + 1)) = 2147483648 ^ i * 2147483648 ^ j * 2147483648 := by rw [← Nat.pow_add]; rfl
                rw [nVal_succ g3 j, ep]
                refine prod_step (V := nVal h 20) (V' := nVal h' 20) (M := nVal g3 j) (x := g2 i) (y := g3 j) (z := h' (i + j)) (cy := cy) (P := 2147483648 ^ i) (Q := 2147483648 ^ j) (qq := (cy + (g2 i * g3 j + h' (i + j))) / 2 ^ 31) (rr := (cy + (g2 i * g3 j + h' (i + j))) % 2 ^ 31) hu hd s3
            · have e : j = u3 := by omega
              subst e
              have e4 : (nI j ≤ nI j) = True := by simp
              have e3 : vp_in (nI (i + j)) 20 := vp_in_nI (by omega) (by decide)
              simp only [wp1, wp, wpl, wpi, lget, lput1, lput2, ltail, lkill, aV, aVl, aNth, aPut, aFz, aC0, aC2, aSw, aCat1, aCuts, aSet_eq, List.take, List.drop, List.reverse_cons, List.reverse_nil, List.nil_append, List.cons_append, List.length_cons, List.length_nil, Option.toList, true_and, and_true, Nat.reduceAdd, Nat.reduceEqDiff, Nat.reduceLT, Nat.reduceLeDiff, Nat.zero_add, Nat.add_zero, if_true, if_false, ite_true, ite_false, reduceIte, reduceCtorEq, true_or, or_true, not_true_eq_false, not_false_eq_true, false_and, and_false, true_implies, false_implies, not_false_eq_true, bqX3_becomeProduct_0, blX3_becomeProduct_0, bqX3_becomeProduct_4, blX3_becomeProduct_4, bqX3_becomeProduct_18, blX3_becomeProduct_18, bqX3_becomeProduct_19, blX3_becomeProduct_19, bqX3_becomeProduct_21, blX3_becomeProduct_21, bqX3_becomeProduct_29, blX3_becomeProduct_29, bqX3_becomeProduct_35, blX3_becomeProduct_35, bqX3_becomeProduct_44, blX3_becomeProduct_44, bqX3_becomeProduct_104, blX3_becomeProduct_104, bqX3_becomeProduct_124, blX3_becomeProduct_124, bqX3_becomeProduct_137, blX3_becomeProduct_137, aSet_ne hab.symm, aSet_ne hac.symm, aSet_ne hlab.symm, aSet_ne hlac.symm, hO2, hO3, e3, e4, nI_add, nI_clamp (show i + j < 2 ^ 31 by omega), lN_i, nF_upd, aSet_aSet, nI_inc]
              refine ih (i + 1) _ _ _ _ (by omega) (by omega) (fun k hk => ?_) (fun k k1 k2 => ?_) ?_
              · by_cases e : k = i + j
                · rw [e, uN9_eq]; exact hcy
                · rw [uN9_ne e]; exact s1 k hk
              · rw [uN9_ne (by omega), s2 k (by omega)]; exact p2 k (by omega) k2
              · have hu := nVal_upd (h := h') (p := i + j) (y := cy) (n := 20) (by omega)
                rw [s2 (i + j) (Nat.le_refl _), p2 (i + j) (Nat.le_refl _) (by omega), Nat.pow_add] at hu
                rw [← r5, Nat.pow_add] at s3
                rw [nVal_succ g2 i]
                exact prod_end hu s3 p3
        refine hb.run (aCuts [4, 21, 35, 137] J) 60 21 _ _ _ _ _ _ (aCuts_ok _) ?_
        have e2 : (nI u2 ≤ nI i) = False := by rw [nI_leI (by omega) (by omega)]; simp; omega
        simp only [wp1, wp, wpl, wpi, lget, lput1, lput2, ltail, lkill, aV, aVl, aNth, aPut, aFz, aC0, aC2, aSw, aCat1, aCuts, aSet_eq, List.take, List.drop, List.reverse_cons, List.reverse_nil, List.nil_append, List.cons_append, List.length_cons, List.length_nil, Option.toList, true_and, and_true, Nat.reduceAdd, Nat.reduceEqDiff, Nat.reduceLT, Nat.reduceLeDiff, Nat.zero_add, Nat.add_zero, if_true, if_false, ite_true, ite_false, reduceIte, reduceCtorEq, true_or, or_true, not_true_eq_false, not_false_eq_true, false_and, and_false, true_implies, false_implies, not_false_eq_true, bqX3_becomeProduct_0, blX3_becomeProduct_0, bqX3_becomeProduct_4, blX3_becomeProduct_4, bqX3_becomeProduct_18, blX3_becomeProduct_18, bqX3_becomeProduct_19, blX3_becomeProduct_19, bqX3_becomeProduct_21, blX3_becomeProduct_21, bqX3_becomeProduct_29, blX3_becomeProduct_29, bqX3_becomeProduct_35, blX3_becomeProduct_35, bqX3_becomeProduct_44, blX3_becomeProduct_44, bqX3_becomeProduct_104, blX3_becomeProduct_104, bqX3_becomeProduct_124, blX3_becomeProduct_124, bqX3_becomeProduct_137, blX3_becomeProduct_137, aSet_ne hab.symm, aSet_ne hac.symm, hO2, hO3, e2]
        exact inner (u3 + 1) 0 0 h (by omega) (by omega) (by decide) p1 (fun _ _ => rfl) (by rw [show nVal g3 0 = 0 from rfl, Nat.mul_zero, Nat.zero_mul, Nat.zero_mul])
      · have e : i = u2 := by omega
        subst e
        refine hb.run (aCuts [4, 21, 35, 137] J) 60 21 _ _ _ _ _ _ (aCuts_ok _) ?_
        have e2 : (nI i ≤ nI i) = True := by simp
        simp only [wp1, wp, wpl, wpi, lget, lput1, lput2, ltail, lkill, aV, aVl, aNth, aPut, aFz, aC0, aC2, aSw, aCat1, aCuts, aSet_eq, List.take, List.drop, List.reverse_cons, List.reverse_nil, List.nil_append, List.cons_append, List.length_cons, List.length_nil, Option.toList, true_and, and_true, Nat.reduceAdd, Nat.reduceEqDiff, Nat.reduceLT, Nat.reduceLeDiff, Nat.zero_add, Nat.add_zero, if_true, if_false, ite_true, ite_false, reduceIte, reduceCtorEq, true_or, or_true, not_true_eq_false, not_false_eq_true, false_and, and_false, true_implies, false_implies, not_false_eq_true, bqX3_becomeProduct_0, blX3_becomeProduct_0, bqX3_becomeProduct_4, blX3_becomeProduct_4, bqX3_becomeProduct_18, blX3_becomeProduct_18, bqX3_becomeProduct_19, blX3_becomeProduct_19, bqX3_becomeProduct_21, blX3_becomeProduct_21, bqX3_becomeProduct_29, blX3_becomeProduct_29, bqX3_becomeProduct_35, blX3_becomeProduct_35, bqX3_becomeProduct_44, blX3_becomeProduct_44, bqX3_becomeProduct_104, blX3_becomeProduct_104, bqX3_becomeProduct_124, blX3_becomeProduct_124, bqX3_becomeProduct_137, blX3_becomeProduct_137, aSet_ne hab.symm, aSet_ne hac.symm, hO2, hO3, e2, nI_add]
        refine ⟨_, _, _, _, hb.callV lvX3_21 (ct_X3_settle (n := i + u3) hmax p1 p2 aSet_eq aSet_eq) rfl aSet_eq (by decide) (by decide) (by decide), ?_, fun _ _ _ h => h.elim⟩
        rintro _ O' A' ⟨rfl, u', hu', rfl, rfl⟩
        refine hb.run (aCuts [4, 21, 35, 137] J) 60 137 _ _ _ _ _ _ (aCuts_ok _) ?_
        simp only [wp1, wp, wpl, wpi, lget, lput1, lput2, ltail, lkill, aV, aVl, aNth, aPut, aFz, aC0, aC2, aSw, aCat1, aCuts, aSet_eq, List.take, List.drop, List.reverse_cons, List.reverse_nil, List.nil_append, List.cons_append, List.length_cons, List.length_nil, Option.toList, true_and, and_true, Nat.reduceAdd, Nat.reduceEqDiff, Nat.reduceLT, Nat.reduceLeDiff, Nat.zero_add, Nat.add_zero, if_true, if_false, ite_true, ite_false, reduceIte, reduceCtorEq, true_or, or_true, not_true_eq_false, not_false_eq_true, false_and, and_false, true_implies, false_implies, not_false_eq_true, bqX3_becomeProduct_0, blX3_becomeProduct_0, bqX3_becomeProduct_4, blX3_becomeProduct_4, bqX3_becomeProduct_18, blX3_becomeProduct_18, bqX3_becomeProduct_19, blX3_becomeProduct_19, bqX3_becomeProduct_21, blX3_becomeProduct_21, bqX3_becomeProduct_29, blX3_becomeProduct_29, bqX3_becomeProduct_35, blX3_becomeProduct_35, bqX3_becomeProduct_44, blX3_becomeProduct_44, bqX3_becomeProduct_104, blX3_becomeProduct_104, bqX3_becomeProduct_124, blX3_becomeProduct_124, bqX3_becomeProduct_137, blX3_becomeProduct_137, aSet_aSet]
        refine hb.vret ⟨rfl, h, u', ?_, rfl, rfl⟩ (by decide) (by decide)
        rw [← nVal_ext (n := 20) hmax p2, p3, ← q5] at hu'
        exact hu'
  refine hb.run (aCuts [4, 21, 35, 137] J) 60 0 _ _ _ _ _ _ (aCuts_ok _) ?_
  simp only [wp1, wp, wpl, wpi, lget, lput1, lput2, ltail, lkill, aV, aVl, aNth, aPut, aFz, aC0, aC2, aSw, aCat1, aCuts, aSet_eq, List.take, List.drop, List.reverse_cons, List.reverse_nil, List.nil_append, List.cons_append, List.length_cons, List.length_nil, Option.toList, true_and, and_true, Nat.reduceAdd, Nat.reduceEqDiff, Nat.reduceLT, Nat.reduceLeDiff, Nat.zero_add, Nat.add_zero, if_true, if_false, ite_true, ite_false, reduceIte, reduceCtorEq, true_or, or_true, not_true_eq_false, not_false_eq_true, false_and, and_false, true_implies, false_implies, not_false_eq_true, bqX3_becomeProduct_0, blX3_becomeProduct_0, bqX3_becomeProduct_4, blX3_becomeProduct_4, bqX3_becomeProduct_18, blX3_becomeProduct_18, bqX3_becomeProduct_19, blX3_becomeProduct_19, bqX3_becomeProduct_21, blX3_becomeProduct_21, bqX3_becomeProduct_29, blX3_becomeProduct_29, bqX3_becomeProduct_35, blX3_becomeProduct_35, bqX3_becomeProduct_44, blX3_becomeProduct_44, bqX3_becomeProduct_104, blX3_becomeProduct_104, bqX3_becomeProduct_124, blX3_becomeProduct_124, bqX3_becomeProduct_137, blX3_becomeProduct_137, aArgs, List.replicate]
  refine ⟨_, _, _, _, hb.callV lvX3_17 (ct_X3_clear hv hO hA) rfl hO (by decide) (by decide) (by decide), ?_, fun _ _ _ h => h.elim⟩
  rintro _ O' A' ⟨rfl, g', hg', rfl, rfl⟩
  refine hb.run (aCuts [4, 21, 35, 137] J) 60 4 _ _ _ _ _ _ (aCuts_ok _) ?_
  have e5 : (nI (u2 + u3) ≤ nI 20) = True := by simp only [eq_iff_iff, iff_true]; exact (nI_leI (by omega) (by decide)).mpr hmax
  simp only [wp1, wp, wpl, wpi, lget, lput1, lput2, ltail, lkill, aV, aVl, aNth, aPut, aFz, aC0, aC2, aSw, aCat1, aCuts, aSet_eq, List.take, List.drop, List.reverse_cons, List.reverse_nil, List.nil_append, List.cons_append, List.length_cons, List.length_nil, Option.toList, true_and, and_true, Nat.reduceAdd, Nat.reduceEqDiff, Nat.reduceLT, Nat.reduceLeDiff, Nat.zero_add, Nat.add_zero, if_true, if_false, ite_true, ite_false, reduceIte, reduceCtorEq, true_or, or_true, not_true_eq_false, not_false_eq_true, false_and, and_false, true_implies, false_implies, not_false_eq_true, bqX3_becomeProduct_0, blX3_becomeProduct_0, bqX3_becomeProduct_4, blX3_becomeProduct_4, bqX3_becomeProduct_18, blX3_becomeProduct_18, bqX3_becomeProduct_19, blX3_becomeProduct_19, bqX3_becomeProduct_21, blX3_becomeProduct_21, bqX3_becomeProduct_29, blX3_becomeProduct_29, bqX3_becomeProduct_35, blX3_becomeProduct_35, bqX3_becomeProduct_44, blX3_becomeProduct_44, bqX3_becomeProduct_104, blX3_becomeProduct_104, bqX3_becomeProduct_124, blX3_becomeProduct_124, bqX3_becomeProduct_137, blX3_becomeProduct_137, aSet_ne hab.symm, aSet_ne hac.symm, hO2, hO3, nI_add, e5]
  exact outer (u2 + 1) 0 g' none none none (by omega) (by omega) hg'.2.1 (fun k _ hk => hg'.2.2.1 k (Nat.zero_le k) hk) (by rw [nVal_zero (fun k hk => hg'.2.2.1 k (Nat.zero_le k) hk), show nVal g2 0 = 0 from rfl, Nat.zero_mul])
end NAT8
