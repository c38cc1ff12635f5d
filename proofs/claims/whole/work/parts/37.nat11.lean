section NAT11
variable {l : Launch} {G : aG} {base tA : Nat} {O : aO} {A : aA} {a la : Nat} {g : Nat → Nat} {u v : Nat}
set_option maxHeartbeats 8000000 in
theorem shl_56 {own : String} {R : Room} {Post : aPost} {E : aE} {J : aK0} (hb : aBody l G base tA own R none (aLook bkX3_shiftLeft) Post E J) {h : Nat → Nat} {i jp s n ij tt : Nat} {gl p yl z t : Int64} {d : Int32} {x5 x6 : Option Value} (hO : O a = some (4, [.ref la, .int (nI u)])) (e1 : vp_in (nI i) 20) (f0 : (nI i).toNatClampNeg = i) (hhi : h i = g i) (f1 : nI i + nI jp = nI ij) (f2 : vp_in (nI ij) 20) (f3 : (nI ij).toNatClampNeg = ij) (f4 : (nI (g i)).toInt64 = gl) (f5 : gl <<< ((nI s).toInt64 &&& 63) = p) (f9 : iSub (nI 31) (nI s) = d) (f6 : yl >>> (d.toInt64 &&& 63) = z) (f7 : p ||| z = t) (f8 : t.toInt32 &&& nI 2147483647 = nI tt)
    (go : ∀ x5 x6 : Option Value, J 32 [some (.ref a), some (.int (nI n)), some (.int (nI jp)), some (.int (nI s)), some (.int (iInc (nI i) (-1))), x5, x6] [] O (aSet A la (0, 20, .inl (nF (uN9 h ij tt)))) 0 0) : J 56 [some (.ref a), some (.int (nI n)), some (.int (nI jp)), some (.int (nI s)), some (.int (nI i)), x5, x6] [.long yl] O (aSet A la (0, 20, .inl (nF h))) 0 0 := by
  refine hb.run (aCuts [32, 56, 98, 130] J) 60 56 _ _ _ _ _ _ (aCuts_ok _) ?_
  simp only [↓wpi_isub, ↓wpi_lsub, ↓wpi_ineg, ↓wpi_lneg, ↓wpi_irem, ↓wpi_lrem, ↓wpi_iinc, wp1, wp, wpl, wpi, lget, lput1, lput2, ltail, lkill, aV, aVl, aNth, aPut, aFz, aC0, aC2, aSw, aCat1, aCuts, aSet_eq, List.take, List.drop, List.reverse_cons, List.reverse_nil, List.nil_append, List.cons_append, List.length_cons, List.length_nil, Option.toList, true_and, and_true, Nat.reduceAdd, Nat.reduceEqDiff, Nat.reduceLT, Nat.reduceLeDiff, Nat.zero_add, Nat.add_zero, if_true, if_false, ite_true, ite_false, reduceIte, reduceCtorEq, true_or, or_true, not_true_eq_false, not_false_eq_true, false_and, and_false, true_implies, false_implies, not_false_eq_true, bqX3_shiftLeft_0, blX3_shiftLeft_0, bqX3_shiftLeft_14, blX3_shiftLeft_14, bqX3_shiftLeft_25, blX3_shiftLeft_25, bqX3_shiftLeft_26, blX3_shiftLeft_26, bqX3_shiftLeft_32, blX3_shiftLeft_32, bqX3_shiftLeft_37, blX3_shiftLeft_37, bqX3_shiftLeft_42, blX3_shiftLeft_42, bqX3_shiftLeft_55, blX3_shiftLeft_55, bqX3_shiftLeft_56, blX3_shiftLeft_56, bqX3_shiftLeft_95, blX3_shiftLeft_95, bqX3_shiftLeft_98, blX3_shiftLeft_98, bqX3_shiftLeft_104, blX3_shiftLeft_104, bqX3_shiftLeft_118, blX3_shiftLeft_118, bqX3_shiftLeft_130, blX3_shiftLeft_130, hO, e1, f0, nF_at, hhi, f1, f2, f3, f4, f5, f6, f7, f8, f9, nF_upd, aSet_aSet]
  exact go _ _
theorem iSub_n1 : (iSub (nI 0) (nI 1) < (0 : Int32)) = True := by rw [iSub_eq]; exact nI_neg1
set_option maxHeartbeats 8000000 in
theorem ct_X3_shiftLeft (hv : nRep g u v) (hO : O a = some (4, [.ref la, .int (nI u)])) (hA : A la = some (0, 20, .inl (nF g))) {n : Nat} (hn : n < 10000) (hmax : v * 2 ^ n < 2147483648 ^ 19) : aMet l G base tA yX3_shiftLeft cX3_shiftLeft 7 none rmA [.ref a, .int (nI n)] O A (fun r O' A' => r = none ∧ ∃ g' u', nRep g' u' (v * 2 ^ n) ∧ O' = aSet O a (4, [.ref la, .int (nI u')]) ∧ A' = aSet A la (0, 20, .inl (nF g'))) := by
  refine aMet_of (ini := false) (B := aLook bkX3_shiftLeft) (by decide) (fun h => by first | rfl | cases h) (Nat.le_of_ble_eq_true rfl) boX3_shiftLeft ?_
  intro E J hb
  obtain ⟨jp, hjp⟩ : ∃ jp, jp = n / 31 := ⟨_, rfl⟩
  obtain ⟨s, hs⟩ : ∃ s, s = n % 31 := ⟨_, rfl⟩
  have hns : n = jp * 31 + s := by omega
  have hs31 : s < 31 := by omega
  have d31 : nI n / nI 31 = nI jp := by rw [hjp]; exact pk_div (by omega) (by decide) (by decide)
  have m31 : iRem (nI n) (nI 31) = nI s := by rw [iRem_eq, hs]; exact pk_rem (by omega) (by decide) (by decide)
  have z31 : (nI 31 = 0) = False := by simp only [eq_iff_iff, iff_false]; decide +kernel
  have hpw : v * 2 ^ n = v * 2 ^ s * 2147483648 ^ jp := by
    rw [hns, Nat.pow_add, show jp * 31 = 31 * jp by omega, Nat.pow_mul, show (2 : Nat) ^ 31 = 2147483648 from rfl, Nat.mul_assoc, Nat.mul_comm (2 ^ s)]
  have hvz := hv.zero
  have hvr := hv
  obtain ⟨h1, h2, h3, h4, h5⟩ := hv
  have fin : ∀ (h : Nat → Nat) (x5 x6 : Option Value), u + jp < 20 → (∀ k, k < 20 → h k < 2147483648) → (∀ k, k < jp → h k = 0) → (∀ k, jp ≤ k → k < 20 → h k = if k ≤ u + jp then shlT g s (k - jp) else 0) → nVal h (u + jp + 1) = v * 2 ^ n := by
    intro h x5 x6 huj p1 p0 p2
    have hgu : g u = 0 := h3 u (Nat.le_refl u) (by omega)
    rw [show u + jp + 1 = jp + (u + 1) by omega, nVal_split, nVal_zero p0, nVal_congr (g := fun k => h (jp + k)) (h := shlT g s) (fun k hk => by rw [p2 (jp + k) (by omega) (by omega), if_pos (by omega), Nat.add_sub_cancel_left])]
    have hs1 := shlT_val g hs31 u
    have hg1 : nVal g (u + 1) = v := by rw [nVal_succ g u, hgu, h5]; omega
    rw [hgu, Nat.zero_div, Nat.zero_mul, Nat.add_zero, hg1] at hs1
    rw [hs1, hpw, Nat.zero_add, Nat.mul_comm, Nat.mul_comm (2 ^ s)]
  have loop2 : ∀ (m i : Nat) (h : Nat → Nat) (x5 x6 : Option Value), u + jp < 20 → jp - i < m → i ≤ jp → (∀ k, k < 20 → h k < 2147483648) → (∀ k, k < i → h k = 0) → (∀ k, jp ≤ k → k < 20 → h k = if k ≤ u + jp then shlT g s (k - jp) else 0) → J 98 [some (.ref a), some (.int (nI n)), some (.int (nI jp)), some (.int (nI s)), some (.int (nI i)), x5, x6] [] O (aSet A la (0, 20, .inl (nF h))) 0 0 := by
    intro m
    induction m with
    | zero => intro i h x5 x6 _ hm; omega
    | succ m ih =>
      intro i h x5 x6 huj hm hi p1 p0 p2
      refine hb.run (aCuts [32, 98, 130] J) 60 98 _ _ _ _ _ _ (aCuts_ok _) ?_
      rcases Nat.lt_or_ge i jp with q | q
      · have e1 : vp_in (nI i) 20 := vp_in_nI (by omega) (by decide)
        have e2 : (nI jp ≤ nI i) = False := by rw [nI_leI (by omega) (by omega)]; simp; omega
        simp only [↓wpi_isub, ↓wpi_lsub, ↓wpi_ineg, ↓wpi_lneg, ↓wpi_irem, ↓wpi_lrem, ↓wpi_iinc, wp1, wp, wpl, wpi, lget, lput1, lput2, ltail, lkill, aV, aVl, aNth, aPut, aFz, aC0, aC2, aSw, aCat1, aCuts, aSet_eq, List.take, List.drop, List.reverse_cons, List.reverse_nil, List.nil_append, List.cons_append, List.length_cons, List.length_nil, Option.toList, true_and, and_true, Nat.reduceAdd, Nat.reduceEqDiff, Nat.reduceLT, Nat.reduceLeDiff, Nat.zero_add, Nat.add_zero, if_true, if_false, ite_true, ite_false, reduceIte, reduceCtorEq, true_or, or_true, not_true_eq_false, not_false_eq_true, false_and, and_false, true_implies, false_implies, not_false_eq_true, bqX3_shiftLeft_0, blX3_shiftLeft_0, bqX3_shiftLeft_14, blX3_shiftLeft_14, bqX3_shiftLeft_25, blX3_shiftLeft_25, bqX3_shiftLeft_26, blX3_shiftLeft_26, bqX3_shiftLeft_32, blX3_shiftLeft_32, bqX3_shiftLeft_37, blX3_shiftLeft_37, bqX3_shiftLeft_42, blX3_shiftLeft_42, bqX3_shiftLeft_55, blX3_shiftLeft_55, bqX3_shiftLeft_56, blX3_shiftLeft_56, bqX3_shiftLeft_95, blX3_shiftLeft_95, bqX3_shiftLeft_98, blX3_shiftLeft_98, bqX3_shiftLeft_104, blX3_shiftLeft_104, bqX3_shiftLeft_118, blX3_shiftLeft_118, bqX3_shiftLeft_130, blX3_shiftLeft_130, hO, e1, e2, nI_clamp (show i < 2 ^ 31 by omega), nF_upd, aSet_aSet, iInc_p]
        refine ih (i + 1) _ _ _ huj (by omega) (by omega) (fun k hk => ?_) (fun k hk => ?_) (fun k k1 k2 => ?_)
        · by_cases e : k = i
          · rw [e, uN9_eq]; decide
          · rw [uN9_ne e]; exact p1 k hk
        · by_cases e : k = i
          · rw [e, uN9_eq]
          · rw [uN9_ne e]; exact p0 k (by omega)
        · rw [uN9_ne (by omega)]; exact p2 k k1 k2
      · have e : i = jp := by omega
        subst e
        have e2 : (nI i ≤ nI i) = True := by simp
        simp only [↓wpi_isub, ↓wpi_lsub, ↓wpi_ineg, ↓wpi_lneg, ↓wpi_irem, ↓wpi_lrem, ↓wpi_iinc, wp1, wp, wpl, wpi, lget, lput1, lput2, ltail, lkill, aV, aVl, aNth, aPut, aFz, aC0, aC2, aSw, aCat1, aCuts, aSet_eq, List.take, List.drop, List.reverse_cons, List.reverse_nil, List.nil_append, List.cons_append, List.length_cons, List.length_nil, Option.toList, true_and, and_true, Nat.reduceAdd, Nat.reduceEqDiff, Nat.reduceLT, Nat.reduceLeDiff, Nat.zero_add, Nat.add_zero, if_true, if_false, ite_true, ite_false, reduceIte, reduceCtorEq, true_or, or_true, not_true_eq_false, not_false_eq_true, false_and, and_false, true_implies, false_implies, not_false_eq_true, bqX3_shiftLeft_0, blX3_shiftLeft_0, bqX3_shiftLeft_14, blX3_shiftLeft_14, bqX3_shiftLeft_25, blX3_shiftLeft_25, bqX3_shiftLeft_26, blX3_shiftLeft_26, bqX3_shiftLeft_32, blX3_shiftLeft_32, bqX3_shiftLeft_37, blX3_shiftLeft_37, bqX3_shiftLeft_42, blX3_shiftLeft_42, bqX3_shiftLeft_55, blX3_shiftLeft_55, bqX3_shiftLeft_56, blX3_shiftLeft_56, bqX3_shiftLeft_95, blX3_shiftLeft_95, bqX3_shiftLeft_98, blX3_shiftLeft_98, bqX3_shiftLeft_104, blX3_shiftLeft_104, bqX3_shiftLeft_118, blX3_shiftLeft_118, bqX3_shiftLeft_130, blX3_shiftLeft_130, hO, e2, nI_add]
        refine ⟨_, _, _, _, hb.callV lvX3_21 (ct_X3_settle (n := u + i + 1) (by omega) p1 (fun k k1 k2 => by rw [p2 k (by omega) k2, if_neg (by omega)]) hO aSet_eq) rfl hO (by decide) (by decide) (by decide), ?_, fun _ _ _ h => h.elim⟩
        rintro _ O' A' ⟨rfl, u', hu', rfl, rfl⟩
        refine hb.run (aCuts [32, 98, 130] J) 60 130 _ _ _ _ _ _ (aCuts_ok _) ?_
        simp only [↓wpi_isub, ↓wpi_lsub, ↓wpi_ineg, ↓wpi_lneg, ↓wpi_irem, ↓wpi_lrem, ↓wpi_iinc, wp1, wp, wpl, wpi, lget, lput1, lput2, ltail, lkill, aV, aVl, aNth, aPut, aFz, aC0, aC2, aSw, aCat1, aCuts, aSet_eq, List.take, List.drop, List.reverse_cons, List.reverse_nil, List.nil_append, List.cons_append, List.length_cons, List.length_nil, Option.toList, true_and, and_true, Nat.reduceAdd, Nat.reduceEqDiff, Nat.reduceLT, Nat.reduceLeDiff, Nat.zero_add, Nat.add_zero, if_true, if_false, ite_true, ite_false, reduceIte, reduceCtorEq, true_or, or_true, not_true_eq_false, not_false_eq_true, false_and, and_false, true_implies, false_implies, not_false_eq_true, bqX3_shiftLeft_0, blX3_shiftLeft_0, bqX3_shiftLeft_14, blX3_shiftLeft_14, bqX3_shiftLeft_25, blX3_shiftLeft_25, bqX3_shiftLeft_26, blX3_shiftLeft_26, bqX3_shiftLeft_32, blX3_shiftLeft_32, bqX3_shiftLeft_37, blX3_shiftLeft_37, bqX3_shiftLeft_42, blX3_shiftLeft_42, bqX3_shiftLeft_55, blX3_shiftLeft_55, bqX3_shiftLeft_56, blX3_shiftLeft_56, bqX3_shiftLeft_95, blX3_shiftLeft_95, bqX3_shiftLeft_98, blX3_shiftLeft_98, bqX3_shiftLeft_104, blX3_shiftLeft_104, bqX3_shiftLeft_118, blX3_shiftLeft_118, bqX3_shiftLeft_130, blX3_shiftLeft_130]
        rw [fin h x5 x6 huj p1 p0 p2] at hu'
        exact hb.vret ⟨rfl, h, u', hu', rfl, rfl⟩ (by decide) (by decide)
  have loop1 : ∀ (m j : Nat) (x : Int32) (h : Nat → Nat) (x5 x6 : Option Value), u + jp < 20 → x = iSub (nI j) (nI 1) → j < m → j ≤ u + 1 → (∀ k, k < 20 → h k < 2147483648) → (∀ k, k < j + jp → k < 20 → h k = g k) → (∀ k, j + jp ≤ k → k < 20 → h k = if k ≤ u + jp then shlT g s (k - jp) else 0) → J 32 [some (.ref a), some (.int (nI n)), some (.int (nI jp)), some (.int (nI s)), some (.int x), x5, x6] [] O (aSet A la (0, 20, .inl (nF h))) 0 0 := by
    intro m
    induction m with
    | zero => intro j x h x5 x6 _ _ hm; omega
    | succ m ih =>
      intro j x h x5 x6 huj hx hm hj p1 p0 p2
      rcases Nat.eq_zero_or_pos j with hz | hz
      · subst hz
        subst hx
        refine hb.run (aCuts [32, 98, 130] J) 60 32 _ _ _ _ _ _ (aCuts_ok _) ?_
        simp only [↓wpi_isub, ↓wpi_lsub, ↓wpi_ineg, ↓wpi_lneg, ↓wpi_irem, ↓wpi_lrem, ↓wpi_iinc, wp1, wp, wpl, wpi, lget, lput1, lput2, ltail, lkill, aV, aVl, aNth, aPut, aFz, aC0, aC2, aSw, aCat1, aCuts, aSet_eq, List.take, List.drop, List.reverse_cons, List.reverse_nil, List.nil_append, List.cons_append, List.length_cons, List.length_nil, Option.toList, true_and, and_true, Nat.reduceAdd, Nat.reduceEqDiff, Nat.reduceLT, Nat.reduceLeDiff, Nat.zero_add, Nat.add_zero, if_true, if_false, ite_true, ite_false, reduceIte, reduceCtorEq, true_or, or_true, not_true_eq_false, not_false_eq_true, false_and, and_false, true_implies, false_implies, not_false_eq_true, bqX3_shiftLeft_0, blX3_shiftLeft_0, bqX3_shiftLeft_14, blX3_shiftLeft_14, bqX3_shiftLeft_25, blX3_shiftLeft_25, bqX3_shiftLeft_26, blX3_shiftLeft_26, bqX3_shiftLeft_32, blX3_shiftLeft_32, bqX3_shiftLeft_37, blX3_shiftLeft_37, bqX3_shiftLeft_42, blX3_shiftLeft_42, bqX3_shiftLeft_55, blX3_shiftLeft_55, bqX3_shiftLeft_56, blX3_shiftLeft_56, bqX3_shiftLeft_95, blX3_shiftLeft_95, bqX3_shiftLeft_98, blX3_shiftLeft_98, bqX3_shiftLeft_104, blX3_shiftLeft_104, bqX3_shiftLeft_118, blX3_shiftLeft_118, bqX3_shiftLeft_130, blX3_shiftLeft_130, iSub_n1]
        exact loop2 (jp + 1) 0 h _ _ huj (by omega) (by omega) p1 (fun k hk => absurd hk (Nat.not_lt_zero k)) (fun k k1 k2 => p2 k (by omega) k2)
      · rw [iSub_nn hz] at hx
        obtain ⟨i, hi⟩ : ∃ i, i = j - 1 := ⟨_, rfl⟩
        rw [← hi] at hx
        have hgi := h2 i (by omega)
        have hhi : h i = g i := p0 i (by omega) (by omega)
        have e1 : vp_in (nI i) 20 := vp_in_nI (by omega) (by decide)
        have e3 : vp_in (nI (i + jp)) 20 := vp_in_nI (by omega) (by decide)
        have sub : iSub (nI 31) (nI s) = nI (31 - s) := iSub_nn (by omega)
        obtain ⟨d, hd9⟩ : ∃ d : Int32, d = nI (31 - s) := ⟨_, rfl⟩
        obtain ⟨p, hp9⟩ : ∃ p : Int64, p = lN (g i * 2 ^ s) := ⟨_, rfl⟩
        obtain ⟨gl, hgl9⟩ : ∃ gl : Int64, gl = lN (g i) := ⟨_, rfl⟩
        obtain ⟨ij, hij9⟩ : ∃ ij : Nat, ij = i + jp := ⟨_, rfl⟩
        obtain ⟨tt, htt9⟩ : ∃ tt : Nat, tt = shlT g s i := ⟨_, rfl⟩
        have f1 : nI i + nI jp = nI ij := by rw [hij9, nI_add]
        have f2 : vp_in (nI ij) 20 := by rw [hij9]; exact e3
        have f3 : (nI ij).toNatClampNeg = ij := nI_clamp (by omega)
        have f4 : (nI (g i)).toInt64 = gl := by rw [hgl9]; exact nI_l (by omega)
        have f5 : gl <<< ((nI s).toInt64 &&& 63) = p := by rw [hgl9, hp9]; exact wb_shl _ (by omega)
        have f9 : iSub (nI 31) (nI s) = d := by rw [hd9]; exact sub
        have f0 : (nI i).toNatClampNeg = i := nI_clamp (by omega)
        have httb : tt < 2147483648 := by rw [htt9]; exact shlT_lt hs31 h2 (by omega)
        have go : ∀ x5 x6 : Option Value, J 32 [some (.ref a), some (.int (nI n)), some (.int (nI jp)), some (.int (nI s)), some (.int (iInc (nI i) (-1))), x5, x6] [] O (aSet A la (0, 20, .inl (nF (uN9 h ij tt)))) 0 0 := by
          intro x5 x6
          refine ih i _ _ _ _ huj (iInc_m1 _) (by omega) (by omega) (fun k hk => ?_) (fun k hk hk2 => ?_) (fun k k1 k2 => ?_)
          · by_cases e : k = ij
            · rw [e, uN9_eq]; exact httb
            · rw [uN9_ne e]; exact p1 k hk
          · rw [uN9_ne (by omega)]; exact p0 k (by omega) hk2
          · by_cases e : k = ij
            · rw [e, uN9_eq, hij9, if_pos (by omega), Nat.add_sub_cancel, htt9]
            · rw [uN9_ne e]; exact p2 k (by omega) k2
        have at56 : ∀ (yl z t : Int64) (x5 x6 : Option Value), yl >>> (d.toInt64 &&& 63) = z → p ||| z = t → t.toInt32 &&& nI 2147483647 = nI tt → J 56 [some (.ref a), some (.int (nI n)), some (.int (nI jp)), some (.int (nI s)), some (.int (nI i)), x5, x6] [.long yl] O (aSet A la (0, 20, .inl (nF h))) 0 0 := by
          intro yl z t x5 x6 f6 f7 f8
          exact shl_56 hb hO e1 f0 hhi f1 f2 f3 f4 f5 f9 f6 f7 f8 go
        have use56 : ∀ (y : Nat) (x5 x6 : Option Value), y < 2147483648 → (g i * 2 ^ s + y / 2 ^ (31 - s)) % 2147483648 = tt → J 56 [some (.ref a), some (.int (nI n)), some (.int (nI jp)), some (.int (nI s)), some (.int (nI i)), x5, x6] [.long (lN y)] O (aSet A la (0, 20, .inl (nF h))) 0 0 := by
          intro y x5 x6 hy hT
          refine at56 _ (lN (y / 2 ^ (31 - s))) (lN (g i * 2 ^ s + y / 2 ^ (31 - s))) _ _ ?_ ?_ ?_
          · rw [hd9]; exact lN_sar (Nat.lt_trans hy (by decide)) (Nat.lt_of_le_of_lt (Nat.sub_le _ _) (by decide))
          · rw [hp9]; exact (shl_or hs31 hgi hy).1
          · rw [lN_i, nI_mask2, hT]
        subst hx
        refine hb.run (aCuts [32, 56, 98, 130] J) 60 32 _ _ _ _ _ _ (aCuts_ok _) ?_
        rcases Nat.eq_zero_or_pos i with hi0 | hi0
        · have e4 : (nI i ≤ (0 : Int32)) = True := by rw [hi0]; simp [nI_0]
          simp only [↓wpi_isub, ↓wpi_lsub, ↓wpi_ineg, ↓wpi_lneg, ↓wpi_irem, ↓wpi_lrem, ↓wpi_iinc, wp1, wp, wpl, wpi, lget, lput1, lput2, ltail, lkill, aV, aVl, aNth, aPut, aFz, aC0, aC2, aSw, aCat1, aCuts, aSet_eq, List.take, List.drop, List.reverse_cons, List.reverse_nil, List.nil_append, List.cons_append, List.length_cons, List.length_nil, Option.toList, true_and, and_true, Nat.reduceAdd, Nat.reduceEqDiff, Nat.reduceLT, Nat.reduceLeDiff, Nat.zero_add, Nat.add_zero, if_true, if_false, ite_true, ite_false, reduceIte, reduceCtorEq, true_or, or_true, not_true_eq_false, not_false_eq_true, false_and, and_false, true_implies, false_implies, not_false_eq_true, bqX3_shiftLeft_0, blX3_shiftLeft_0, bqX3_shiftLeft_14, blX3_shiftLeft_14, bqX3_shiftLeft_25, blX3_shiftLeft_25, bqX3_shiftLeft_26, blX3_shiftLeft_26, bqX3_shiftLeft_32, blX3_shiftLeft_32, bqX3_shiftLeft_37, blX3_shiftLeft_37, bqX3_shiftLeft_42, blX3_shiftLeft_42, bqX3_shiftLeft_55, blX3_shiftLeft_55, bqX3_shiftLeft_56, blX3_shiftLeft_56, bqX3_shiftLeft_95, blX3_shiftLeft_95, bqX3_shiftLeft_98, blX3_shiftLeft_98, bqX3_shiftLeft_104, blX3_shiftLeft_104, bqX3_shiftLeft_118, blX3_shiftLeft_118, bqX3_shiftLeft_130, blX3_shiftLeft_130, nI_nneg (show i < 2 ^ 31 by omega), e4]
          exact use56 0 _ _ (by decide) (by rw [htt9, hi0, Nat.zero_div, Nat.add_zero, shlT_z])
        · obtain ⟨i1, hi1⟩ : ∃ i1, i1 = i - 1 := ⟨_, rfl⟩
          have hsub : iSub (nI i) (nI 1) = nI i1 := by rw [hi1]; exact iSub_nn hi0
          have hgi1 := h2 i1 (by omega)
          have hhi1 : h i1 = g i1 := p0 i1 (by omega) (by omega)
          have e5 : vp_in (nI i1) 20 := vp_in_nI (by omega) (by decide)
          have e4 : (nI i ≤ (0 : Int32)) = False := by rw [nI_lez (by omega)]; simp; omega
          simp only [↓wpi_isub, ↓wpi_lsub, ↓wpi_ineg, ↓wpi_lneg, ↓wpi_irem, ↓wpi_lrem, ↓wpi_iinc, wp1, wp, wpl, wpi, lget, lput1, lput2, ltail, lkill, aV, aVl, aNth, aPut, aFz, aC0, aC2, aSw, aCat1, aCuts, aSet_eq, List.take, List.drop, List.reverse_cons, List.reverse_nil, List.nil_append, List.cons_append, List.length_cons, List.length_nil, Option.toList, true_and, and_true, Nat.reduceAdd, Nat.reduceEqDiff, Nat.reduceLT, Nat.reduceLeDiff, Nat.zero_add, Nat.add_zero, if_true, if_false, ite_true, ite_false, reduceIte, reduceCtorEq, true_or, or_true, not_true_eq_false, not_false_eq_true, false_and, and_false, true_implies, false_implies, not_false_eq_true, bqX3_shiftLeft_0, blX3_shiftLeft_0, bqX3_shiftLeft_14, blX3_shiftLeft_14, bqX3_shiftLeft_25, blX3_shiftLeft_25, bqX3_shiftLeft_26, blX3_shiftLeft_26, bqX3_shiftLeft_32, blX3_shiftLeft_32, bqX3_shiftLeft_37, blX3_shiftLeft_37, bqX3_shiftLeft_42, blX3_shiftLeft_42, bqX3_shiftLeft_55, blX3_shiftLeft_55, bqX3_shiftLeft_56, blX3_shiftLeft_56, bqX3_shiftLeft_95, blX3_shiftLeft_95, bqX3_shiftLeft_98, blX3_shiftLeft_98, bqX3_shiftLeft_104, blX3_shiftLeft_104, bqX3_shiftLeft_118, blX3_shiftLeft_118, bqX3_shiftLeft_130, blX3_shiftLeft_130, nI_nneg (show i < 2 ^ 31 by omega), hO, e4, e5, hsub, nI_clamp (show i1 < 2 ^ 31 by omega), nF_at, hhi1, nI_l (show g i1 < 2 ^ 31 by omega)]
          have hk : i = i1 + 1 := by omega
          exact use56 (g i1) _ _ hgi1 (by rw [htt9, (shl_or hs31 hgi hgi1).2.1, hk, shlT_s])
  refine hb.run (aCuts [32, 98, 130] J) 60 0 _ _ _ _ _ _ (aCuts_ok _) ?_
  simp only [↓wpi_isub, ↓wpi_lsub, ↓wpi_ineg, ↓wpi_lneg, ↓wpi_irem, ↓wpi_lrem, ↓wpi_iinc, wp1, wp, wpl, wpi, lget, lput1, lput2, ltail, lkill, aV, aVl, aNth, aPut, aFz, aC0, aC2, aSw, aCat1, aCuts, aSet_eq, List.take, List.drop, List.reverse_cons, List.reverse_nil, List.nil_append, List.cons_append, List.length_cons, List.length_nil, Option.toList, true_and, and_true, Nat.reduceAdd, Nat.reduceEqDiff, Nat.reduceLT, Nat.reduceLeDiff, Nat.zero_add, Nat.add_zero, if_true, if_false, ite_true, ite_false, reduceIte, reduceCtorEq, true_or, or_true, not_true_eq_false, not_false_eq_true, false_and, and_false, true_implies, false_implies, not_false_eq_true, bqX3_shiftLeft_0, blX3_shiftLeft_0, bqX3_shiftLeft_14, blX3_shiftLeft_14, bqX3_shiftLeft_25, blX3_shiftLeft_25, bqX3_shiftLeft_26, blX3_shiftLeft_26, bqX3_shiftLeft_32, blX3_shiftLeft_32, bqX3_shiftLeft_37, blX3_shiftLeft_37, bqX3_shiftLeft_42, blX3_shiftLeft_42, bqX3_shiftLeft_55, blX3_shiftLeft_55, bqX3_shiftLeft_56, blX3_shiftLeft_56, bqX3_shiftLeft_95, blX3_shiftLeft_95, bqX3_shiftLeft_98, blX3_shiftLeft_98, bqX3_shiftLeft_104, blX3_shiftLeft_104, bqX3_shiftLeft_118, blX3_shiftLeft_118, bqX3_shiftLeft_130, blX3_shiftLeft_130, aArgs, List.replicate, z31, d31, m31, hO, nI_lez (show n < 2 ^ 31 by omega), nI_add, nI_ltI (show u + jp < 2 ^ 31 by omega) (show 20 < 2 ^ 31 by decide)]
  refine ⟨fun hc => ?_, fun hn0 => ⟨fun hc => ?_, fun hc => ?_⟩⟩
  · subst hc
    refine hb.vret ⟨rfl, g, u, by rw [Nat.pow_zero, Nat.mul_one]; exact hvr, (aSet_id hO).symm, (aSet_id hA).symm⟩ (by decide) (by decide)
  · have h0 := loop1 (u + 2) (u + 1) (nI u) g none none hc (by rw [iSub_nn (by omega), Nat.add_sub_cancel]) (by omega) (by omega) h2 (fun _ _ _ => rfl) (fun k k1 k2 => by rw [if_neg (by omega)]; exact h3 k (by omega) k2)
    rw [aSet_id hA] at h0
    exact h0
  · have hv0 : v = 0 := by
      rcases Nat.eq_zero_or_pos u with q | q
      · exact hvz.mpr q
      · exfalso
        have g1 := nVal_ge q (h4 q)
        rw [← h5] at g1
        have g2 : v * 1 * 2147483648 ^ jp ≤ v * 2 ^ s * 2147483648 ^ jp := Nat.mul_le_mul_right _ (Nat.mul_le_mul_left _ (Nat.two_pow_pos s))
        have g3 : 2147483648 ^ (u - 1) * 2147483648 ^ jp ≤ v * 2147483648 ^ jp := Nat.mul_le_mul_right _ g1
        rw [← Nat.pow_add] at g3
        have g4 : (2147483648 : Nat) ^ 19 ≤ 2147483648 ^ (u - 1 + jp) := Nat.pow_le_pow_right (by decide) (by omega)
        rw [Nat.mul_one] at g2
        rw [hpw] at hmax
        exact absurd (Nat.lt_of_le_of_lt (Nat.le_trans g4 (Nat.le_trans g3 g2)) hmax) (Nat.lt_irrefl _)
    refine hb.vret ⟨rfl, g, u, by rw [hv0, Nat.zero_mul]; rw [hv0] at hvr; exact hvr, (aSet_id hO).symm, (aSet_id hA).symm⟩ (by decide) (by decide)
end NAT11
