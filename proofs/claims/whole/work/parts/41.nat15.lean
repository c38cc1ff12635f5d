section NAT15
variable {l : Launch} {G : aG} {base tA : Nat} {O : aO} {A : aA} {a la b lb c lc e le : Nat} {g g2 g3 g4 : Nat → Nat} {u v u2 v2 u3 v3 u4 v4 : Nat}
theorem cmpI_neg {x y : Nat} : (0 ≤ cmpI x y) = (y ≤ x) := by
  rw [eq_iff_iff]
  rcases Nat.lt_trichotomy x y with q | q | q
  · rw [cmpI_lt q]
    constructor
    · intro h; exact absurd h (by decide +kernel)
    · intro h; omega
  · subst q
    rw [cmpI_eq]
    constructor
    · intro _; exact Nat.le_refl _
    · intro _; decide +kernel
  · rw [cmpI_gt q]
    constructor
    · intro _; omega
    · intro _; decide +kernel
set_option maxHeartbeats 8000000 in
theorem dv_loop {own : String} {R : Room} {Post : aPost} {E : aE} {J : aK0} (hb : aBody l G base tA RX3 R none (aLook bkX3_divide) Post E J) (hR : rmD.frames ≤ R.frames ∧ rmD.locals ≤ R.locals) {gs : Nat → Nat} {ut w V D pls s : Nat} (hlac : la ≠ lc) (hlae : la ≠ le) (hlce : lc ≠ le) (hOa : O a = some (4, [.ref la, .int (nI ut)])) (hOc : O c = some (4, [.ref lc, .int (nI 0)])) (hOe : O e = some (4, [.ref le, .int (nI w)])) (hgs : ∀ k, k < 20 → gs k < 2147483648) (hw : 0 < w) (hT : 1073741824 ≤ gs (w - 1)) (hD : D = nVal gs w) (hD0 : 0 < D) (hpls : pls + w ≤ 20)
    (fin : ∀ (h q : Nat → Nat) (A' : aA), dvI V D w pls 0 h q → A' la = some (0, 20, .inl (nF h)) → A' lc = some (0, 20, .inl (nF q)) → A' le = some (0, 20, .inl (nF gs)) → (∀ x, x ≠ la → x ≠ lc → x ≠ le → A' x = A x) → J 101 [some (.ref a), some (.ref b), some (.ref c), some (.ref e), some (.int (nI s)), some (.int (nI pls)), some (.int (iSub (nI 0) (nI 1)))] [] O A' 0 0) :
    ∀ (p : Nat) (h q : Nat → Nat) (A' : aA), p ≤ pls → dvI V D w pls p h q → A' la = some (0, 20, .inl (nF h)) → A' lc = some (0, 20, .inl (nF q)) → A' le = some (0, 20, .inl (nF gs)) → (∀ x, x ≠ la → x ≠ lc → x ≠ le → A' x = A x) → J 76 [some (.ref a), some (.ref b), some (.ref c), some (.ref e), some (.int (nI s)), some (.int (nI pls)), some (.int (iSub (nI p) (nI 1)))] [] O A' 0 0 := by
  intro p
  induction p with
  | zero =>
    intro h q A' hp H hA1 hA2 hA3 hA4
    refine hb.run (aCuts [94, 101] J) 60 76 _ _ _ _ _ _ (aCuts_ok _) ?_
    simp only [↓wpi_isub, ↓wpi_lsub, ↓wpi_ineg, ↓wpi_lneg, ↓wpi_irem, ↓wpi_lrem, ↓wpi_iinc, wp1, wp, wpl, wpi, lget, lput1, lput2, ltail, lkill, aV, aVl, aNth, aPut, aFz, aC0, aC2, aSw, aCat1, aCuts, aSet_eq, List.take, List.drop, List.reverse_cons, List.reverse_nil, List.nil_append, List.cons_append, List.length_cons, List.length_nil, Option.toList, true_and, and_true, Nat.reduceAdd, Nat.reduceEqDiff, Nat.reduceLT, Nat.reduceLeDiff, Nat.zero_add, Nat.add_zero, if_true, if_false, ite_true, ite_false, reduceIte, reduceCtorEq, true_or, or_true, not_true_eq_false, not_false_eq_true, false_and, and_false, true_implies, false_implies, not_false_eq_true, bqX3_divide_0, blX3_divide_0, bqX3_divide_4, blX3_divide_4, bqX3_divide_11, blX3_divide_11, bqX3_divide_22, blX3_divide_22, bqX3_divide_27, blX3_divide_27, bqX3_divide_30, blX3_divide_30, bqX3_divide_31, blX3_divide_31, bqX3_divide_37, blX3_divide_37, bqX3_divide_45, blX3_divide_45, bqX3_divide_51, blX3_divide_51, bqX3_divide_57, blX3_divide_57, bqX3_divide_76, blX3_divide_76, bqX3_divide_81, blX3_divide_81, bqX3_divide_94, blX3_divide_94, bqX3_divide_101, blX3_divide_101, bqX3_divide_107, blX3_divide_107, bqX3_divide_115, blX3_divide_115, bqX3_divide_121, blX3_divide_121, iSub_n1]
    exact fin h q A' H hA1 hA2 hA3 hA4
  | succ p ih =>
    intro h q A' hp H hA1 hA2 hA3 hA4
    have hlt := dvI_lt H (by omega)
    have s1 : iSub (nI (p + 1)) (nI 1) = nI p := by rw [iSub_nn (by omega), Nat.add_sub_cancel]
    have i1 : vp_in (nI p) 20 := vp_in_nI (by omega) (by decide)
    rw [s1]
    refine hb.run (aCuts [76, 94, 101] J) 60 76 _ _ _ _ _ _ (aCuts_ok _) ?_
    simp only [↓wpi_isub, ↓wpi_lsub, ↓wpi_ineg, ↓wpi_lneg, ↓wpi_irem, ↓wpi_lrem, ↓wpi_iinc, wp1, wp, wpl, wpi, lget, lput1, lput2, ltail, lkill, aV, aVl, aNth, aPut, aFz, aC0, aC2, aSw, aCat1, aCuts, aSet_eq, List.take, List.drop, List.reverse_cons, List.reverse_nil, List.nil_append, List.cons_append, List.length_cons, List.length_nil, Option.toList, true_and, and_true, Nat.reduceAdd, Nat.reduceEqDiff, Nat.reduceLT, Nat.reduceLeDiff, Nat.zero_add, Nat.add_zero, if_true, if_false, ite_true, ite_false, reduceIte, reduceCtorEq, true_or, or_true, not_true_eq_false, not_false_eq_true, false_and, and_false, true_implies, false_implies, not_false_eq_true, bqX3_divide_0, blX3_divide_0, bqX3_divide_4, blX3_divide_4, bqX3_divide_11, blX3_divide_11, bqX3_divide_22, blX3_divide_22, bqX3_divide_27, blX3_divide_27, bqX3_divide_30, blX3_divide_30, bqX3_divide_31, blX3_divide_31, bqX3_divide_37, blX3_divide_37, bqX3_divide_45, blX3_divide_45, bqX3_divide_51, blX3_divide_51, bqX3_divide_57, blX3_divide_57, bqX3_divide_76, blX3_divide_76, bqX3_divide_81, blX3_divide_81, bqX3_divide_94, blX3_divide_94, bqX3_divide_101, blX3_divide_101, bqX3_divide_107, blX3_divide_107, bqX3_divide_115, blX3_divide_115, bqX3_divide_121, blX3_divide_121, nI_nneg (show p < 2 ^ 31 by omega), hOc]
    refine ⟨_, _, _, _, hb.callV lvX3_61 (ct_X3_takeTimes (pl := p) hlae hOa hA1 hOe hA3 H.1 hgs hw (by omega) hT (by rw [← hD]; exact hlt)) rfl hOa ⟨Nat.le_trans (by decide) hR.1, Nat.le_trans (by decide) hR.2⟩ (Nat.zero_le _) (Nat.zero_le _), ?_, fun _ _ _ h => h.elim⟩
    rintro _ O' A2 ⟨h', rfl, rfl, rfl, k1, k2, k3, k4⟩
    rw [← hD] at k4 ⊢
    have hA2c : aSet A' la (0, 20, .inl (nF h')) lc = some (0, 20, .inl (nF q)) := by rw [aSet_ne hlac.symm]; exact hA2
    refine hb.run (aCuts [76, 101] J) 60 94 _ _ _ _ _ _ (aCuts_ok _) ?_
    simp only [↓wpi_isub, ↓wpi_lsub, ↓wpi_ineg, ↓wpi_lneg, ↓wpi_irem, ↓wpi_lrem, ↓wpi_iinc, wp1, wp, wpl, wpi, lget, lput1, lput2, ltail, lkill, aV, aVl, aNth, aPut, aFz, aC0, aC2, aSw, aCat1, aCuts, aSet_eq, List.take, List.drop, List.reverse_cons, List.reverse_nil, List.nil_append, List.cons_append, List.length_cons, List.length_nil, Option.toList, true_and, and_true, Nat.reduceAdd, Nat.reduceEqDiff, Nat.reduceLT, Nat.reduceLeDiff, Nat.zero_add, Nat.add_zero, if_true, if_false, ite_true, ite_false, reduceIte, reduceCtorEq, true_or, or_true, not_true_eq_false, not_false_eq_true, false_and, and_false, true_implies, false_implies, not_false_eq_true, bqX3_divide_0, blX3_divide_0, bqX3_divide_4, blX3_divide_4, bqX3_divide_11, blX3_divide_11, bqX3_divide_22, blX3_divide_22, bqX3_divide_27, blX3_divide_27, bqX3_divide_30, blX3_divide_30, bqX3_divide_31, blX3_divide_31, bqX3_divide_37, blX3_divide_37, bqX3_divide_45, blX3_divide_45, bqX3_divide_51, blX3_divide_51, bqX3_divide_57, blX3_divide_57, bqX3_divide_76, blX3_divide_76, bqX3_divide_81, blX3_divide_81, bqX3_divide_94, blX3_divide_94, bqX3_divide_101, blX3_divide_101, bqX3_divide_107, blX3_divide_107, bqX3_divide_115, blX3_divide_115, bqX3_divide_121, blX3_divide_121, hA2c, i1, nI_clamp (show p < 2 ^ 31 by omega), nF_upd, iInc_m1]
    refine ih h' _ _ (by omega) (dvI_next H hD0 (by omega) k1 k2 k3 k4) ?_ ?_ ?_ ?_
    · rw [aSet_ne hlac]; exact aSet_eq
    · exact aSet_eq
    · rw [aSet_ne hlce.symm, aSet_ne hlae.symm]; exact hA3
    · intro x x1 x2 x3
      rw [aSet_ne x2, aSet_ne x1]; exact hA4 x x1 x2 x3
set_option maxHeartbeats 8000000 in
theorem ct_X3_divide (hab : a ≠ b) (hac : a ≠ c) (hae : a ≠ e) (hbc : b ≠ c) (hbe : b ≠ e) (hce : c ≠ e) (lab : la ≠ lb) (lac : la ≠ lc) (lae : la ≠ le) (lbc : lb ≠ lc) (lbe : lb ≠ le) (lce : lc ≠ le)
    (hv : nRep g u v) (hO : O a = some (4, [.ref la, .int (nI u)])) (hA : A la = some (0, 20, .inl (nF g))) (hv2 : nRep g2 u2 v2) (hO2 : O b = some (4, [.ref lb, .int (nI u2)])) (hA2 : A lb = some (0, 20, .inl (nF g2))) (hv3 : nRep g3 u3 v3) (hO3 : O c = some (4, [.ref lc, .int (nI u3)])) (hA3 : A lc = some (0, 20, .inl (nF g3))) (hv4 : nRep g4 u4 v4) (hO4 : O e = some (4, [.ref le, .int (nI u4)])) (hA4 : A le = some (0, 20, .inl (nF g4))) (h0 : 0 < v2) (hmax : v < 2147483648 ^ 18) : aMet l G base tA yX3_divide cX3_divide 7 none rmD [.ref a, .ref b, .ref c, .ref e] O A (fun r O' A' => r = none ∧ ∃ ga ua gq uq gs us vs, nRep ga ua (v % v2) ∧ nRep gq uq (v / v2) ∧ nRep gs us vs ∧ O' a = some (4, [.ref la, .int (nI ua)]) ∧ O' c = some (4, [.ref lc, .int (nI uq)]) ∧ O' e = some (4, [.ref le, .int (nI us)]) ∧ (∀ x, x ≠ a → x ≠ c → x ≠ e → O' x = O x) ∧ A' la = some (0, 20, .inl (nF ga)) ∧ A' lc = some (0, 20, .inl (nF gq)) ∧ A' le = some (0, 20, .inl (nF gs)) ∧ (∀ x, x ≠ la → x ≠ lc → x ≠ le → A' x = A x)) := by
  refine aMet_of (ini := false) (B := aLook bkX3_divide) (by decide) (fun h => by first | rfl | cases h) (Nat.le_of_ble_eq_true rfl) boX3_divide ?_
  intro E J hb
  have hu18 : u ≤ 18 := by
    rcases Nat.lt_or_ge 18 u with q | q
    · have hg := nVal_ge (by omega) (hv.2.2.2.1 (by omega))
      rw [← hv.2.2.2.2] at hg
      have := Nat.pow_le_pow_right (show 0 < 2147483648 by decide) (show 18 ≤ u - 1 by omega)
      exact absurd (Nat.lt_of_le_of_lt (Nat.le_trans this hg) hmax) (Nat.lt_irrefl _)
    · exact q
  have hu2 : 0 < u2 := by
    rcases Nat.eq_zero_or_pos u2 with q | q
    · have := hv2.zero.mpr q; omega
    · exact q
  have hu20 := hv2.1
  refine hb.run (aCuts [4, 27, 37, 45, 51, 57, 76, 94, 107, 115, 121] J) 60 0 _ _ _ _ _ _ (aCuts_ok _) ?_
  simp only [↓wpi_isub, ↓wpi_lsub, ↓wpi_ineg, ↓wpi_lneg, ↓wpi_irem, ↓wpi_lrem, ↓wpi_iinc, wp1, wp, wpl, wpi, lget, lput1, lput2, ltail, lkill, aV, aVl, aNth, aPut, aFz, aC0, aC2, aSw, aCat1, aCuts, aSet_eq, List.take, List.drop, List.reverse_cons, List.reverse_nil, List.nil_append, List.cons_append, List.length_cons, List.length_nil, Option.toList, true_and, and_true, Nat.reduceAdd, Nat.reduceEqDiff, Nat.reduceLT, Nat.reduceLeDiff, Nat.zero_add, Nat.add_zero, if_true, if_false, ite_true, ite_false, reduceIte, reduceCtorEq, true_or, or_true, not_true_eq_false, not_false_eq_true, false_and, and_false, true_implies, false_implies, not_false_eq_true, bqX3_divide_0, blX3_divide_0, bqX3_divide_4, blX3_divide_4, bqX3_divide_11, blX3_divide_11, bqX3_divide_22, blX3_divide_22, bqX3_divide_27, blX3_divide_27, bqX3_divide_30, blX3_divide_30, bqX3_divide_31, blX3_divide_31, bqX3_divide_37, blX3_divide_37, bqX3_divide_45, blX3_divide_45, bqX3_divide_51, blX3_divide_51, bqX3_divide_57, blX3_divide_57, bqX3_divide_76, blX3_divide_76, bqX3_divide_81, blX3_divide_81, bqX3_divide_94, blX3_divide_94, bqX3_divide_101, blX3_divide_101, bqX3_divide_107, blX3_divide_107, bqX3_divide_115, blX3_divide_115, bqX3_divide_121, blX3_divide_121, aArgs, List.replicate]
  refine ⟨_, _, _, _, hb.callV lvX3_17 (ct_X3_clear hv3 hO3 hA3) rfl hO3 (by decide) (by decide) (by decide), ?_, fun _ _ _ h => h.elim⟩
  rintro _ O1 A1 ⟨rfl, gq, hgq, hO1, hA1⟩
  have Oa1 : O1 a = some (4, [.ref la, .int (nI u)]) := by rw [hO1, aSet_ne hac]; exact hO
  have Ob1 : O1 b = some (4, [.ref lb, .int (nI u2)]) := by rw [hO1, aSet_ne hbc]; exact hO2
  have Oc1 : O1 c = some (4, [.ref lc, .int (nI 0)]) := by rw [hO1]; exact aSet_eq
  have Oe1 : O1 e = some (4, [.ref le, .int (nI u4)]) := by rw [hO1, aSet_ne hce.symm]; exact hO4
  have Aa1 : A1 la = some (0, 20, .inl (nF g)) := by rw [hA1, aSet_ne lac]; exact hA
  have Ab1 : A1 lb = some (0, 20, .inl (nF g2)) := by rw [hA1, aSet_ne lbc]; exact hA2
  have Ac1 : A1 lc = some (0, 20, .inl (nF gq)) := by rw [hA1]; exact aSet_eq
  have Ae1 : A1 le = some (0, 20, .inl (nF g4)) := by rw [hA1, aSet_ne lce.symm]; exact hA4
  have Ox1 : ∀ x, x ≠ a → x ≠ c → x ≠ e → O1 x = O x := fun x _ x2 _ => by rw [hO1, aSet_ne x2]
  have Ax1 : ∀ x, x ≠ la → x ≠ lc → x ≠ le → A1 x = A x := fun x _ x2 _ => by rw [hA1, aSet_ne x2]
  have z1 : (nI u2 = 0) = False := by rw [eq_iff_iff, nI_z (by omega)]; simp; omega
  have z2 : (nI 20 ≤ nI (u + 1)) = False := by rw [nI_leI (by decide) (by omega)]; simp; omega
  refine hb.run (aCuts [4, 27, 37, 45, 51, 57, 76, 94, 107, 115, 121] J) 60 4 _ _ _ _ _ _ (aCuts_ok _) ?_
  simp only [↓wpi_isub, ↓wpi_lsub, ↓wpi_ineg, ↓wpi_lneg, ↓wpi_irem, ↓wpi_lrem, ↓wpi_iinc, wp1, wp, wpl, wpi, lget, lput1, lput2, ltail, lkill, aV, aVl, aNth, aPut, aFz, aC0, aC2, aSw, aCat1, aCuts, aSet_eq, List.take, List.drop, List.reverse_cons, List.reverse_nil, List.nil_append, List.cons_append, List.length_cons, List.length_nil, Option.toList, true_and, and_true, Nat.reduceAdd, Nat.reduceEqDiff, Nat.reduceLT, Nat.reduceLeDiff, Nat.zero_add, Nat.add_zero, if_true, if_false, ite_true, ite_false, reduceIte, reduceCtorEq, true_or, or_true, not_true_eq_false, not_false_eq_true, false_and, and_false, true_implies, false_implies, not_false_eq_true, bqX3_divide_0, blX3_divide_0, bqX3_divide_4, blX3_divide_4, bqX3_divide_11, blX3_divide_11, bqX3_divide_22, blX3_divide_22, bqX3_divide_27, blX3_divide_27, bqX3_divide_30, blX3_divide_30, bqX3_divide_31, blX3_divide_31, bqX3_divide_37, blX3_divide_37, bqX3_divide_45, blX3_divide_45, bqX3_divide_51, blX3_divide_51, bqX3_divide_57, blX3_divide_57, bqX3_divide_76, blX3_divide_76, bqX3_divide_81, blX3_divide_81, bqX3_divide_94, blX3_divide_94, bqX3_divide_101, blX3_divide_101, bqX3_divide_107, blX3_divide_107, bqX3_divide_115, blX3_divide_115, bqX3_divide_121, blX3_divide_121, Oa1, Ob1, z1, z2, nI_add]
  refine ⟨_, _, _, _, hb.callV lvX3_50 (ct_X3_against hv Oa1 Aa1 hv2 Ob1 Ab1) rfl Oa1 (by decide) (by decide) (by decide), ?_, fun _ _ _ h => h.elim⟩
  rintro _ O' A' ⟨rfl, rfl, rfl⟩
  refine hb.run (aCuts [4, 27, 37, 45, 51, 57, 76, 94, 107, 115, 121] J) 60 27 _ _ _ _ _ _ (aCuts_ok _) ?_
  simp only [↓wpi_isub, ↓wpi_lsub, ↓wpi_ineg, ↓wpi_lneg, ↓wpi_irem, ↓wpi_lrem, ↓wpi_iinc, wp1, wp, wpl, wpi, lget, lput1, lput2, ltail, lkill, aV, aVl, aNth, aPut, aFz, aC0, aC2, aSw, aCat1, aCuts, aSet_eq, List.take, List.drop, List.reverse_cons, List.reverse_nil, List.nil_append, List.cons_append, List.length_cons, List.length_nil, Option.toList, true_and, and_true, Nat.reduceAdd, Nat.reduceEqDiff, Nat.reduceLT, Nat.reduceLeDiff, Nat.zero_add, Nat.add_zero, if_true, if_false, ite_true, ite_false, reduceIte, reduceCtorEq, true_or, or_true, not_true_eq_false, not_false_eq_true, false_and, and_false, true_implies, false_implies, not_false_eq_true, bqX3_divide_0, blX3_divide_0, bqX3_divide_4, blX3_divide_4, bqX3_divide_11, blX3_divide_11, bqX3_divide_22, blX3_divide_22, bqX3_divide_27, blX3_divide_27, bqX3_divide_30, blX3_divide_30, bqX3_divide_31, blX3_divide_31, bqX3_divide_37, blX3_divide_37, bqX3_divide_45, blX3_divide_45, bqX3_divide_51, blX3_divide_51, bqX3_divide_57, blX3_divide_57, bqX3_divide_76, blX3_divide_76, bqX3_divide_81, blX3_divide_81, bqX3_divide_94, blX3_divide_94, bqX3_divide_101, blX3_divide_101, bqX3_divide_107, blX3_divide_107, bqX3_divide_115, blX3_divide_115, bqX3_divide_121, blX3_divide_121, cmpI_neg]
  refine ⟨fun hge => ?_, fun hlt => ?_⟩
  · obtain ⟨m, s, hm, hs, hb31, hs9, d1, d2⟩ := dv_scale hv2 hu2
    refine ⟨_, _, _, _, hb.callV lvX3_25 (ct_X3_topLength hv2 Ob1 Ab1) rfl Ob1 (by decide) (by decide) (by decide), ?_, fun _ _ _ h => h.elim⟩
    rintro _ O'' A'' ⟨rfl, rfl, rfl⟩
    have s1 : iSub (nI 31) (nI (if u2 = 0 then 0 else blen (g2 (u2 - 1)))) = nI s := by
      rw [if_neg (by omega), iSub_nn hb31, ← hs9]
    show J 37 _ [.int (nI (if u2 = 0 then 0 else blen (g2 (u2 - 1)))), .int (nI 31)] _ _ 0 0
    refine hb.run (aCuts [4, 27, 37, 45, 51, 57, 76, 94, 107, 115, 121] J) 60 37 _ _ _ _ _ _ (aCuts_ok _) ?_
    simp only [↓wpi_isub, ↓wpi_lsub, ↓wpi_ineg, ↓wpi_lneg, ↓wpi_irem, ↓wpi_lrem, ↓wpi_iinc, wp1, wp, wpl, wpi, lget, lput1, lput2, ltail, lkill, aV, aVl, aNth, aPut, aFz, aC0, aC2, aSw, aCat1, aCuts, aSet_eq, List.take, List.drop, List.reverse_cons, List.reverse_nil, List.nil_append, List.cons_append, List.length_cons, List.length_nil, Option.toList, true_and, and_true, Nat.reduceAdd, Nat.reduceEqDiff, Nat.reduceLT, Nat.reduceLeDiff, Nat.zero_add, Nat.add_zero, if_true, if_false, ite_true, ite_false, reduceIte, reduceCtorEq, true_or, or_true, not_true_eq_false, not_false_eq_true, false_and, and_false, true_implies, false_implies, not_false_eq_true, bqX3_divide_0, blX3_divide_0, bqX3_divide_4, blX3_divide_4, bqX3_divide_11, blX3_divide_11, bqX3_divide_22, blX3_divide_22, bqX3_divide_27, blX3_divide_27, bqX3_divide_30, blX3_divide_30, bqX3_divide_31, blX3_divide_31, bqX3_divide_37, blX3_divide_37, bqX3_divide_45, blX3_divide_45, bqX3_divide_51, blX3_divide_51, bqX3_divide_57, blX3_divide_57, bqX3_divide_76, blX3_divide_76, bqX3_divide_81, blX3_divide_81, bqX3_divide_94, blX3_divide_94, bqX3_divide_101, blX3_divide_101, bqX3_divide_107, blX3_divide_107, bqX3_divide_115, blX3_divide_115, bqX3_divide_121, blX3_divide_121, s1]
    refine ⟨_, _, _, _, hb.callV lvX3_54 (ct_X3_copy hbe.symm lbe.symm hv4 Oe1 Ae1 hv2 Ob1 Ab1) rfl Oe1 (by decide) (by decide) (by decide), ?_, fun _ _ _ h => h.elim⟩
    rintro _ O2 A2 ⟨rfl, gs0, hgs0, hO2', hA2'⟩
    have Oa2 : O2 a = some (4, [.ref la, .int (nI u)]) := by rw [hO2', aSet_ne hae]; exact Oa1
    have Oc2 : O2 c = some (4, [.ref lc, .int (nI 0)]) := by rw [hO2', aSet_ne hce]; exact Oc1
    have Oe2 : O2 e = some (4, [.ref le, .int (nI u2)]) := by rw [hO2']; exact aSet_eq
    have Aa2 : A2 la = some (0, 20, .inl (nF g)) := by rw [hA2', aSet_ne lae]; exact Aa1
    have Ac2 : A2 lc = some (0, 20, .inl (nF gq)) := by rw [hA2', aSet_ne lce]; exact Ac1
    have Ae2 : A2 le = some (0, 20, .inl (nF gs0)) := by rw [hA2']; exact aSet_eq
    have Ox2 : ∀ x, x ≠ a → x ≠ c → x ≠ e → O2 x = O x := fun x x1 x2 x3 => by rw [hO2', aSet_ne x3]; exact Ox1 x x1 x2 x3
    have Ax2 : ∀ x, x ≠ la → x ≠ lc → x ≠ le → A2 x = A x := fun x x1 x2 x3 => by rw [hA2', aSet_ne x3]; exact Ax1 x x1 x2 x3
    have hm18 : m + 1 ≤ 18 := by
      rcases Nat.lt_or_ge 18 (m + 1) with q | q
      · have hg := nVal_ge hu2 (hv2.2.2.2.1 hu2)
        rw [← hv2.2.2.2.2] at hg
        have := Nat.pow_le_pow_right (show 0 < 2147483648 by decide) (show 18 ≤ u2 - 1 by omega)
        exact absurd (Nat.lt_of_le_of_lt (Nat.le_trans this (Nat.le_trans hg hge)) hmax) (Nat.lt_irrefl _)
      · exact q
    refine hb.run (aCuts [4, 27, 37, 45, 51, 57, 76, 94, 107, 115, 121] J) 60 45 _ _ _ _ _ _ (aCuts_ok _) ?_
    simp only [↓wpi_isub, ↓wpi_lsub, ↓wpi_ineg, ↓wpi_lneg, ↓wpi_irem, ↓wpi_lrem, ↓wpi_iinc, wp1, wp, wpl, wpi, lget, lput1, lput2, ltail, lkill, aV, aVl, aNth, aPut, aFz, aC0, aC2, aSw, aCat1, aCuts, aSet_eq, List.take, List.drop, List.reverse_cons, List.reverse_nil, List.nil_append, List.cons_append, List.length_cons, List.length_nil, Option.toList, true_and, and_true, Nat.reduceAdd, Nat.reduceEqDiff, Nat.reduceLT, Nat.reduceLeDiff, Nat.zero_add, Nat.add_zero, if_true, if_false, ite_true, ite_false, reduceIte, reduceCtorEq, true_or, or_true, not_true_eq_false, not_false_eq_true, false_and, and_false, true_implies, false_implies, not_false_eq_true, bqX3_divide_0, blX3_divide_0, bqX3_divide_4, blX3_divide_4, bqX3_divide_11, blX3_divide_11, bqX3_divide_22, blX3_divide_22, bqX3_divide_27, blX3_divide_27, bqX3_divide_30, blX3_divide_30, bqX3_divide_31, blX3_divide_31, bqX3_divide_37, blX3_divide_37, bqX3_divide_45, blX3_divide_45, bqX3_divide_51, blX3_divide_51, bqX3_divide_57, blX3_divide_57, bqX3_divide_76, blX3_divide_76, bqX3_divide_81, blX3_divide_81, bqX3_divide_94, blX3_divide_94, bqX3_divide_101, blX3_divide_101, bqX3_divide_107, blX3_divide_107, bqX3_divide_115, blX3_divide_115, bqX3_divide_121, blX3_divide_121]
    refine ⟨_, _, _, _, hb.callV lvX3_58 (ct_X3_shiftLeft (n := s) hgs0 Oe2 Ae2 (by omega) (Nat.lt_of_lt_of_le d2 (Nat.pow_le_pow_right (by decide) (by omega)))) rfl Oe2 (by decide) (by decide) (by decide), ?_, fun _ _ _ h => h.elim⟩
    rintro _ O3 A3 ⟨rfl, gs, w, hgs, hO3', hA3'⟩
    obtain ⟨hwm, hT⟩ := nRep_norm hgs d1 d2
    have Oa3 : O3 a = some (4, [.ref la, .int (nI u)]) := by rw [hO3', aSet_ne hae]; exact Oa2
    have Oc3 : O3 c = some (4, [.ref lc, .int (nI 0)]) := by rw [hO3', aSet_ne hce]; exact Oc2
    have Oe3 : O3 e = some (4, [.ref le, .int (nI w)]) := by rw [hO3']; exact aSet_eq
    have Aa3 : A3 la = some (0, 20, .inl (nF g)) := by rw [hA3', aSet_ne lae]; exact Aa2
    have Ac3 : A3 lc = some (0, 20, .inl (nF gq)) := by rw [hA3', aSet_ne lce]; exact Ac2
    have Ae3 : A3 le = some (0, 20, .inl (nF gs)) := by rw [hA3']; exact aSet_eq
    have Ox3 : ∀ x, x ≠ a → x ≠ c → x ≠ e → O3 x = O x := fun x x1 x2 x3 => by rw [hO3', aSet_ne x3]; exact Ox2 x x1 x2 x3
    have Ax3 : ∀ x, x ≠ la → x ≠ lc → x ≠ le → A3 x = A x := fun x x1 x2 x3 => by rw [hA3', aSet_ne x3]; exact Ax2 x x1 x2 x3
    have hvs : v * 2 ^ s < 2147483648 ^ 19 := by
      have h1 : (2 : Nat) ^ s ≤ 2147483648 := by
        have := Nat.pow_le_pow_right (show 0 < 2 by decide) (show s ≤ 31 by omega)
        exact this
      have h2 := Nat.mul_le_mul (Nat.le_of_lt hmax) h1
      have h3 := Nat.mul_lt_mul_of_pos_right hmax (Nat.two_pow_pos s)
      rw [Nat.pow_succ 2147483648 18]
      exact Nat.lt_of_lt_of_le h3 (Nat.mul_le_mul_left _ h1)
    refine hb.run (aCuts [4, 27, 37, 45, 51, 57, 76, 94, 107, 115, 121] J) 60 51 _ _ _ _ _ _ (aCuts_ok _) ?_
    simp only [↓wpi_isub, ↓wpi_lsub, ↓wpi_ineg, ↓wpi_lneg, ↓wpi_irem, ↓wpi_lrem, ↓wpi_iinc, wp1, wp, wpl, wpi, lget, lput1, lput2, ltail, lkill, aV, aVl, aNth, aPut, aFz, aC0, aC2, aSw, aCat1, aCuts, aSet_eq, List.take, List.drop, List.reverse_cons, List.reverse_nil, List.nil_append, List.cons_append, List.length_cons, List.length_nil, Option.toList, true_and, and_true, Nat.reduceAdd, Nat.reduceEqDiff, Nat.reduceLT, Nat.reduceLeDiff, Nat.zero_add, Nat.add_zero, if_true, if_false, ite_true, ite_false, reduceIte, reduceCtorEq, true_or, or_true, not_true_eq_false, not_false_eq_true, false_and, and_false, true_implies, false_implies, not_false_eq_true, bqX3_divide_0, blX3_divide_0, bqX3_divide_4, blX3_divide_4, bqX3_divide_11, blX3_divide_11, bqX3_divide_22, blX3_divide_22, bqX3_divide_27, blX3_divide_27, bqX3_divide_30, blX3_divide_30, bqX3_divide_31, blX3_divide_31, bqX3_divide_37, blX3_divide_37, bqX3_divide_45, blX3_divide_45, bqX3_divide_51, blX3_divide_51, bqX3_divide_57, blX3_divide_57, bqX3_divide_76, blX3_divide_76, bqX3_divide_81, blX3_divide_81, bqX3_divide_94, blX3_divide_94, bqX3_divide_101, blX3_divide_101, bqX3_divide_107, blX3_divide_107, bqX3_divide_115, blX3_divide_115, bqX3_divide_121, blX3_divide_121]
    refine ⟨_, _, _, _, hb.callV lvX3_58 (ct_X3_shiftLeft (n := s) hv Oa3 Aa3 (by omega) hvs) rfl Oa3 (by decide) (by decide) (by decide), ?_, fun _ _ _ h => h.elim⟩
    rintro _ O4 A4 ⟨rfl, gt, ut, hgt, hO4', hA4'⟩
    have Oa4 : O4 a = some (4, [.ref la, .int (nI ut)]) := by rw [hO4']; exact aSet_eq
    have Oc4 : O4 c = some (4, [.ref lc, .int (nI 0)]) := by rw [hO4', aSet_ne hac.symm]; exact Oc3
    have Oe4 : O4 e = some (4, [.ref le, .int (nI w)]) := by rw [hO4', aSet_ne hae.symm]; exact Oe3
    have Aa4 : A4 la = some (0, 20, .inl (nF gt)) := by rw [hA4']; exact aSet_eq
    have Ac4 : A4 lc = some (0, 20, .inl (nF gq)) := by rw [hA4', aSet_ne lac.symm]; exact Ac3
    have Ae4 : A4 le = some (0, 20, .inl (nF gs)) := by rw [hA4', aSet_ne lae.symm]; exact Ae3
    have Ox4 : ∀ x, x ≠ a → x ≠ c → x ≠ e → O4 x = O x := fun x x1 x2 x3 => by rw [hO4', aSet_ne x1]; exact Ox3 x x1 x2 x3
    have Ax4 : ∀ x, x ≠ la → x ≠ lc → x ≠ le → A4 x = A x := fun x x1 x2 x3 => by rw [hA4', aSet_ne x1]; exact Ax3 x x1 x2 x3
    have hP2 : 0 < 2 ^ s := Nat.two_pow_pos s
    have hut19 : ut ≤ 19 := by
      rcases Nat.lt_or_ge 19 ut with q | q
      · have hg := nVal_ge (by omega) (hgt.2.2.2.1 (by omega))
        rw [← hgt.2.2.2.2] at hg
        have := Nat.pow_le_pow_right (show 0 < 2147483648 by decide) (show 19 ≤ ut - 1 by omega)
        exact absurd (Nat.lt_of_le_of_lt (Nat.le_trans this hg) hvs) (Nat.lt_irrefl _)
      · exact q
    have hwut : w ≤ ut := by
      rcases Nat.lt_or_ge ut w with q | q
      · have h1 := nRep_lt hgt hgs q
        have h2 := Nat.mul_le_mul_right (2 ^ s) hge
        omega
      · exact q
    obtain ⟨pls, hpls⟩ : ∃ pls, pls = ut - w + 1 := ⟨_, rfl⟩
    obtain ⟨D, hD⟩ : ∃ D, D = nVal gs w := ⟨_, rfl⟩
    have hDv : D = v2 * 2 ^ s := by rw [hD]; exact hgs.2.2.2.2.symm
    have hD0 : 0 < D := by rw [hDv]; exact Nat.mul_pos h0 hP2
    have s2 : iSub (nI ut) (nI w) = nI (ut - w) := iSub_nn hwut
    have hw0 : 0 < w := by omega
    have hTw : 1073741824 ≤ gs (w - 1) := by rw [hwm, Nat.add_sub_cancel]; exact hT
    have hzq : ∀ k, k < 20 → gq k = 0 := fun k hk => hgq.2.2.1 k (Nat.zero_le _) hk
    have hI : dvI (v * 2 ^ s) D w pls pls gt gq := by
      refine ⟨hgt.2.1, fun k k1 k2 => hgt.2.2.1 k (by omega) k2, ?_, hgq.2.1, fun k _ k2 => hzq k k2, 0, Nat.add_zero _, ?_⟩
      · rw [hwm, nVal_succ _ m]
        show nVal (fun k => gt (pls + k)) m + gt (pls + m) * _ < D
        rw [hgt.2.2.1 (pls + m) (by omega) (by omega), Nat.zero_mul, Nat.add_zero]
        have h1 := nVal_lt (g := fun k => gt (pls + k)) (n := m) (fun k hk => hgt.2.1 _ (by omega))
        have h2 : 1 * 2147483648 ^ m ≤ 1073741824 * 2147483648 ^ m := Nat.mul_le_mul_right _ (by decide)
        rw [hDv]; omega
      · show v * 2 ^ s = 0 * D * _ + nVal gt (pls + w)
        rw [Nat.zero_mul, Nat.zero_mul, Nat.zero_add, hgt.2.2.2.2, show pls + w = ut + 1 by omega, nVal_succ gt ut, hgt.2.2.1 ut (Nat.le_refl _) (by omega)]
        simp
    have fin : ∀ (h q : Nat → Nat) (A' : aA), dvI (v * 2 ^ s) D w pls 0 h q → A' la = some (0, 20, .inl (nF h)) → A' lc = some (0, 20, .inl (nF q)) → A' le = some (0, 20, .inl (nF gs)) → (∀ x, x ≠ la → x ≠ lc → x ≠ le → A' x = A4 x) → J 101 [some (.ref a), some (.ref b), some (.ref c), some (.ref e), some (.int (nI s)), some (.int (nI pls)), some (.int (iSub (nI 0) (nI 1)))] [] O4 A' 0 0 := by
      intro h q A' ⟨t1, t2, t3, t4, t5, mm, hmm, hV⟩ hA1 hA2 hA3 hA4
      rw [Nat.zero_add] at t2 hmm hV
      rw [show (fun k => h (0 + k)) = h by funext k; rw [Nat.zero_add]] at t3
      rw [show (fun k => q (0 + k)) = q by funext k; rw [Nat.zero_add], Nat.pow_zero, Nat.mul_one, hmm] at hV
      have hq : nVal q pls = v / v2 := by
        have : v * 2 ^ s / D = nVal q pls := by
          rw [hV, Nat.add_comm, Nat.add_mul_div_right _ _ hD0, Nat.div_eq_of_lt t3, Nat.zero_add]
        rw [← this, hDv, Nat.mul_div_mul_right _ _ hP2]
      have hr : nVal h w = v % v2 * 2 ^ s := by
        have : v * 2 ^ s % D = nVal h w := by
          rw [hV, Nat.add_comm, Nat.add_mul_mod_self_right, Nat.mod_eq_of_lt t3]
        rw [← this, hDv, Nat.mul_mod_mul_right]
      refine hb.run (aCuts [4, 27, 37, 45, 51, 57, 76, 94, 107, 115, 121] J) 60 101 _ _ _ _ _ _ (aCuts_ok _) ?_
      simp only [↓wpi_isub, ↓wpi_lsub, ↓wpi_ineg, ↓wpi_lneg, ↓wpi_irem, ↓wpi_lrem, ↓wpi_iinc, wp1, wp, wpl, wpi, lget, lput1, lput2, ltail, lkill, aV, aVl, aNth, aPut, aFz, aC0, aC2, aSw, aCat1, aCuts, aSet_eq, List.take, List.drop, List.reverse_cons, List.reverse_nil, List.nil_append, List.cons_append, List.length_cons, List.length_nil, Option.toList, true_and, and_true, Nat.reduceAdd, Nat.reduceEqDiff, Nat.reduceLT, Nat.reduceLeDiff, Nat.zero_add, Nat.add_zero, if_true, if_false, ite_true, ite_false, reduceIte, reduceCtorEq, true_or, or_true, not_true_eq_false, not_false_eq_true, false_and, and_false, true_implies, false_implies, not_false_eq_true, bqX3_divide_0, blX3_divide_0, bqX3_divide_4, blX3_divide_4, bqX3_divide_11, blX3_divide_11, bqX3_divide_22, blX3_divide_22, bqX3_divide_27, blX3_divide_27, bqX3_divide_30, blX3_divide_30, bqX3_divide_31, blX3_divide_31, bqX3_divide_37, blX3_divide_37, bqX3_divide_45, blX3_divide_45, bqX3_divide_51, blX3_divide_51, bqX3_divide_57, blX3_divide_57, bqX3_divide_76, blX3_divide_76, bqX3_divide_81, blX3_divide_81, bqX3_divide_94, blX3_divide_94, bqX3_divide_101, blX3_divide_101, bqX3_divide_107, blX3_divide_107, bqX3_divide_115, blX3_divide_115, bqX3_divide_121, blX3_divide_121]
      refine ⟨_, _, _, _, hb.callV lvX3_21 (ct_X3_settle (n := pls) (by omega) t4 t5 Oc4 hA2) rfl Oc4 (by decide) (by decide) (by decide), ?_, fun _ _ _ h => h.elim⟩
      rintro _ O5 A5 ⟨rfl, uq, huq, hO5', rfl⟩
      have Oa5 : O5 a = some (4, [.ref la, .int (nI ut)]) := by rw [hO5', aSet_ne hac]; exact Oa4
      have Oc5 : O5 c = some (4, [.ref lc, .int (nI uq)]) := by rw [hO5']; exact aSet_eq
      have Oe5 : O5 e = some (4, [.ref le, .int (nI w)]) := by rw [hO5', aSet_ne hce.symm]; exact Oe4
      refine hb.run (aCuts [4, 27, 37, 45, 51, 57, 76, 94, 107, 115, 121] J) 60 107 _ _ _ _ _ _ (aCuts_ok _) ?_
      simp only [↓wpi_isub, ↓wpi_lsub, ↓wpi_ineg, ↓wpi_lneg, ↓wpi_irem, ↓wpi_lrem, ↓wpi_iinc, wp1, wp, wpl, wpi, lget, lput1, lput2, ltail, lkill, aV, aVl, aNth, aPut, aFz, aC0, aC2, aSw, aCat1, aCuts, aSet_eq, List.take, List.drop, List.reverse_cons, List.reverse_nil, List.nil_append, List.cons_append, List.length_cons, List.length_nil, Option.toList, true_and, and_true, Nat.reduceAdd, Nat.reduceEqDiff, Nat.reduceLT, Nat.reduceLeDiff, Nat.zero_add, Nat.add_zero, if_true, if_false, ite_true, ite_false, reduceIte, reduceCtorEq, true_or, or_true, not_true_eq_false, not_false_eq_true, false_and, and_false, true_implies, false_implies, not_false_eq_true, bqX3_divide_0, blX3_divide_0, bqX3_divide_4, blX3_divide_4, bqX3_divide_11, blX3_divide_11, bqX3_divide_22, blX3_divide_22, bqX3_divide_27, blX3_divide_27, bqX3_divide_30, blX3_divide_30, bqX3_divide_31, blX3_divide_31, bqX3_divide_37, blX3_divide_37, bqX3_divide_45, blX3_divide_45, bqX3_divide_51, blX3_divide_51, bqX3_divide_57, blX3_divide_57, bqX3_divide_76, blX3_divide_76, bqX3_divide_81, blX3_divide_81, bqX3_divide_94, blX3_divide_94, bqX3_divide_101, blX3_divide_101, bqX3_divide_107, blX3_divide_107, bqX3_divide_115, blX3_divide_115, bqX3_divide_121, blX3_divide_121, Oa5]
      refine ⟨_, _, _, _, hb.callV lvX3_21 (ct_X3_settle (n := ut) (by omega) t1 (fun k k1 k2 => t2 k (by omega) k2) Oa5 hA1) rfl Oa5 (by decide) (by decide) (by decide), ?_, fun _ _ _ h => h.elim⟩
      rintro _ O6 A6 ⟨rfl, ua, hua, hO6', rfl⟩
      rw [nVal_ext hwut (fun k k1 k2 => t2 k k1 (by omega)), hr] at hua
      have Oa6 : O6 a = some (4, [.ref la, .int (nI ua)]) := by rw [hO6']; exact aSet_eq
      refine hb.run (aCuts [4, 27, 37, 45, 51, 57, 76, 94, 107, 115, 121] J) 60 115 _ _ _ _ _ _ (aCuts_ok _) ?_
      simp only [↓wpi_isub, ↓wpi_lsub, ↓wpi_ineg, ↓wpi_lneg, ↓wpi_irem, ↓wpi_lrem, ↓wpi_iinc, wp1, wp, wpl, wpi, lget, lput1, lput2, ltail, lkill, aV, aVl, aNth, aPut, aFz, aC0, aC2, aSw, aCat1, aCuts, aSet_eq, List.take, List.drop, List.reverse_cons, List.reverse_nil, List.nil_append, List.cons_append, List.length_cons, List.length_nil, Option.toList, true_and, and_true, Nat.reduceAdd, Nat.reduceEqDiff, Nat.reduceLT, Nat.reduceLeDiff, Nat.zero_add, Nat.add_zero, if_true, if_false, ite_true, ite_false, reduceIte, reduceCtorEq, true_or, or_true, not_true_eq_false, not_false_eq_true, false_and, and_false, true_implies, false_implies, not_false_eq_true, bqX3_divide_0, blX3_divide_0, bqX3_divide_4, blX3_divide_4, bqX3_divide_11, blX3_divide_11, bqX3_divide_22, blX3_divide_22, bqX3_divide_27, blX3_divide_27, bqX3_divide_30, blX3_divide_30, bqX3_divide_31, blX3_divide_31, bqX3_divide_37, blX3_divide_37, bqX3_divide_45, blX3_divide_45, bqX3_divide_51, blX3_divide_51, bqX3_divide_57, blX3_divide_57, bqX3_divide_76, blX3_divide_76, bqX3_divide_81, blX3_divide_81, bqX3_divide_94, blX3_divide_94, bqX3_divide_101, blX3_divide_101, bqX3_divide_107, blX3_divide_107, bqX3_divide_115, blX3_divide_115, bqX3_divide_121, blX3_divide_121]
      refine ⟨_, _, _, _, hb.callV lvX3_47 (ct_X3_shiftRight (s := s) hua Oa6 hA1 hs) rfl Oa6 (by decide) (by decide) (by decide), ?_, fun _ _ _ h => h.elim⟩
      rintro _ O7 A7 ⟨rfl, ga, ub, hub, hO7', hA7'⟩
      rw [Nat.mul_div_cancel _ hP2] at hub
      rw [hq] at huq
      refine hb.run (aCuts [4, 27, 37, 45, 51, 57, 76, 94, 107, 115, 121] J) 60 121 _ _ _ _ _ _ (aCuts_ok _) ?_
      simp only [↓wpi_isub, ↓wpi_lsub, ↓wpi_ineg, ↓wpi_lneg, ↓wpi_irem, ↓wpi_lrem, ↓wpi_iinc, wp1, wp, wpl, wpi, lget, lput1, lput2, ltail, lkill, aV, aVl, aNth, aPut, aFz, aC0, aC2, aSw, aCat1, aCuts, aSet_eq, List.take, List.drop, List.reverse_cons, List.reverse_nil, List.nil_append, List.cons_append, List.length_cons, List.length_nil, Option.toList, true_and, and_true, Nat.reduceAdd, Nat.reduceEqDiff, Nat.reduceLT, Nat.reduceLeDiff, Nat.zero_add, Nat.add_zero, if_true, if_false, ite_true, ite_false, reduceIte, reduceCtorEq, true_or, or_true, not_true_eq_false, not_false_eq_true, false_and, and_false, true_implies, false_implies, not_false_eq_true, bqX3_divide_0, blX3_divide_0, bqX3_divide_4, blX3_divide_4, bqX3_divide_11, blX3_divide_11, bqX3_divide_22, blX3_divide_22, bqX3_divide_27, blX3_divide_27, bqX3_divide_30, blX3_divide_30, bqX3_divide_31, blX3_divide_31, bqX3_divide_37, blX3_divide_37, bqX3_divide_45, blX3_divide_45, bqX3_divide_51, blX3_divide_51, bqX3_divide_57, blX3_divide_57, bqX3_divide_76, blX3_divide_76, bqX3_divide_81, blX3_divide_81, bqX3_divide_94, blX3_divide_94, bqX3_divide_101, blX3_divide_101, bqX3_divide_107, blX3_divide_107, bqX3_divide_115, blX3_divide_115, bqX3_divide_121, blX3_divide_121]
      refine hb.vret ⟨rfl, ga, ub, q, uq, gs, w, _, hub, huq, hgs, ?_, ?_, ?_, ?_, ?_, ?_, ?_, ?_⟩ (by decide) (by decide)
      · rw [hO7']; exact aSet_eq
      · rw [hO7', aSet_ne hac.symm, hO6', aSet_ne hac.symm]; exact Oc5
      · rw [hO7', aSet_ne hae.symm, hO6', aSet_ne hae.symm]; exact Oe5
      · intro x x1 x2 x3
        rw [hO7', aSet_ne x1, hO6', aSet_ne x1, hO5', aSet_ne x2]; exact Ox4 x x1 x2 x3
      · rw [hA7']; exact aSet_eq
      · rw [hA7', aSet_ne lac.symm]; exact hA2
      · rw [hA7', aSet_ne lae.symm]; exact hA3
      · intro x x1 x2 x3
        rw [hA7', aSet_ne x1, hA4 x x1 x2 x3]; exact Ax4 x x1 x2 x3
    have s3 : nI (ut - w) + nI 1 = nI pls := by rw [nI_add, hpls]
    refine hb.run (aCuts [4, 27, 37, 45, 51, 57, 76, 94, 107, 115, 121] J) 60 57 _ _ _ _ _ _ (aCuts_ok _) ?_
    simp only [↓wpi_isub, ↓wpi_lsub, ↓wpi_ineg, ↓wpi_lneg, ↓wpi_irem, ↓wpi_lrem, ↓wpi_iinc, wp1, wp, wpl, wpi, lget, lput1, lput2, ltail, lkill, aV, aVl, aNth, aPut, aFz, aC0, aC2, aSw, aCat1, aCuts, aSet_eq, List.take, List.drop, List.reverse_cons, List.reverse_nil, List.nil_append, List.cons_append, List.length_cons, List.length_nil, Option.toList, true_and, and_true, Nat.reduceAdd, Nat.reduceEqDiff, Nat.reduceLT, Nat.reduceLeDiff, Nat.zero_add, Nat.add_zero, if_true, if_false, ite_true, ite_false, reduceIte, reduceCtorEq, true_or, or_true, not_true_eq_false, not_false_eq_true, false_and, and_false, true_implies, false_implies, not_false_eq_true, bqX3_divide_0, blX3_divide_0, bqX3_divide_4, blX3_divide_4, bqX3_divide_11, blX3_divide_11, bqX3_divide_22, blX3_divide_22, bqX3_divide_27, blX3_divide_27, bqX3_divide_30, blX3_divide_30, bqX3_divide_31, blX3_divide_31, bqX3_divide_37, blX3_divide_37, bqX3_divide_45, blX3_divide_45, bqX3_divide_51, blX3_divide_51, bqX3_divide_57, blX3_divide_57, bqX3_divide_76, blX3_divide_76, bqX3_divide_81, blX3_divide_81, bqX3_divide_94, blX3_divide_94, bqX3_divide_101, blX3_divide_101, bqX3_divide_107, blX3_divide_107, bqX3_divide_115, blX3_divide_115, bqX3_divide_121, blX3_divide_121, Oa4, Oe4, s2, s3]
    exact dv_loop (own := RX3) hb (by decide) lac lae lce Oa4 Oc4 Oe4 hgs.2.1 hw0 hTw hD hD0 (by omega) fin pls gt gq A4 (Nat.le_refl _) hI Aa4 Ac4 Ae4 (fun _ _ _ _ => rfl)
  · have hlt : v < v2 := by omega
    refine hb.vret ⟨rfl, g, u, gq, 0, g4, u4, v4, ?_, ?_, hv4, Oa1, Oc1, Oe1, Ox1, Aa1, Ac1, Ae1, Ax1⟩ (by decide) (by decide)
    · rw [Nat.mod_eq_of_lt hlt]; exact hv
    · rw [Nat.div_eq_of_lt hlt]; exact hgq
end NAT15
