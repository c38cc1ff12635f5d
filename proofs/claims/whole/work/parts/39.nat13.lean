theorem lSub_Z (x y : Int) : lSub (lZ x) (lZ y) = lZ (x - y) := by rw [lSub_eq]; exact lZ_sub x y
theorem cmp_geZ {z : Int} (h1 : -2 ^ 62 ≤ z) (h2 : z < 2 ^ 62) : (0 ≤ lg_cmp (lZ z) (lN 0)) = (0 ≤ z) := by
  rw [eq_iff_iff, lg_cmp_ge, Int64.le_iff_toInt_le, lZ_toInt (by omega) (by omega), lN_Z, lZ_toInt (by decide) (by decide)]
  rfl
section TT
variable {N D q c cz he W H P : Nat}
/-- the divisor taken away as often as guessed -/
theorem tt_ok (hN : N = H + he * P) (hW : W + c * D = H + cz * P) (hq : N / D ≤ c) (h0 : 0 < D) (hDP : D < P) (hge : cz ≤ he) : c = N / D ∧ W = N % D := by
  obtain ⟨k, rfl⟩ : ∃ k, he = cz + k := ⟨he - cz, by omega⟩
  have e1 : N = W + k * P + c * D := by
    rw [hN, Nat.add_mul]; omega
  have h1 : c ≤ N / D := by
    rw [Nat.le_div_iff_mul_le h0]; omega
  have hc : c = N / D := Nat.le_antisymm h1 hq
  refine ⟨hc, ?_⟩
  have h2 := Nat.div_add_mod N D
  rw [← hc, Nat.mul_comm] at h2
  have h3 := Nat.mod_lt N h0
  rcases Nat.eq_zero_or_pos k with hk | hk
  · subst hk; omega
  · have : 1 * P ≤ k * P := Nat.mul_le_mul_right P hk
    omega
theorem tt_no {W' cc : Nat} (hN : N = H + he * P) (hW : W + c * D = H + cz * P) (hq : N / D ≤ c) (hq2 : c ≤ N / D + 1) (h0 : 0 < D) (hDP : D < P) (hlt : he < cz) (hWP : W < P) (hW' : W' + cc * P = W + D) (hWP' : W' < P) : c - 1 = N / D ∧ 0 < c ∧ W' = N % D := by
  obtain ⟨k, rfl⟩ : ∃ k, cz = he + 1 + k := ⟨cz - he - 1, by omega⟩
  have e1 : W + c * D = N + P + k * P := by
    rw [hN, hW]; grind
  have h2 := Nat.div_add_mod N D
  have h3 := Nat.mod_lt N h0
  have h1 : c ≠ N / D := by
    intro e
    rw [e, Nat.mul_comm] at e1
    omega
  have hc : c = N / D + 1 := by omega
  rw [hc, Nat.add_mul, Nat.mul_comm (N / D)] at e1
  have e2 : W + D = N % D + (1 + k) * P := by rw [Nat.add_mul]; omega
  refine ⟨by rw [hc, Nat.add_sub_cancel], by rw [hc]; exact Nat.succ_pos _, ?_⟩
  have h5 : W' % P = N % D := by
    have : (W' + cc * P) % P = (N % D + (1 + k) * P) % P := by rw [hW', e2]
    rw [Nat.add_mul_mod_self_right, Nat.add_mul_mod_self_right, Nat.mod_eq_of_lt (show N % D < P by omega)] at this
    exact this
  rw [← h5, Nat.mod_eq_of_lt hWP']
end TT
theorem tt_step {d hs r P B c c' t : Nat} {V W X : Nat} (h1 : V + t * W = X + c * P) (h2 : r + t * d + c = hs + c' * B) : V + r * P + t * (W + d * P) = X + hs * P + c' * (P * B) := by
  have e : (r + t * d + c) * P = (hs + c' * B) * P := by rw [h2]
  grind
theorem nVal_shift_push {h : Nat → Nat} {p j x : Nat} : nVal (fun k => uN9 h (p + j) x (p + k)) (j + 1) = nVal (fun k => h (p + k)) j + x * 2147483648 ^ j := by
  rw [nVal_succ]
  show nVal _ j + uN9 h (p + j) x (p + j) * _ = _
  rw [uN9_eq, nVal_congr (h := fun k => h (p + k)) (fun k hk => uN9_ne (by omega))]
section NAT13
variable {l : Launch} {G : aG} {base tA : Nat} {O : aO} {A : aA} {a la b lb : Nat} {h d : Nat → Nat} {u w pl : Nat}
set_option maxHeartbeats 8000000 in
theorem ct_X3_takeTimes (hlab : la ≠ lb) (hO : O a = some (4, [.ref la, .int (nI u)])) (hA : A la = some (0, 20, .inl (nF h))) (hO2 : O b = some (4, [.ref lb, .int (nI w)])) (hA2 : A lb = some (0, 20, .inl (nF d))) (hh : ∀ k, k < 20 → h k < 2147483648) (hd : ∀ k, k < 20 → d k < 2147483648) (hw : 0 < w) (hpw : pl + w < 20) (hT : 1073741824 ≤ d (w - 1)) (hlt : nVal (fun k => h (pl + k)) (w + 1) < nVal d w * 2147483648) : aMet l G base tA yX3_takeTimes cX3_takeTimes 9 (some .int) rmC [.ref a, .ref b, .int (nI pl)] O A (fun r O' A' => ∃ h', r = some (.int (nI (nVal (fun k => h (pl + k)) (w + 1) / nVal d w))) ∧ O' = O ∧ A' = aSet A la (0, 20, .inl (nF h')) ∧ (∀ k, k < 20 → h' k < 2147483648) ∧ (∀ k, k < pl ∨ pl + w < k → h' k = h k) ∧ h' (pl + w) = 0 ∧ nVal (fun k => h' (pl + k)) w = nVal (fun k => h (pl + k)) (w + 1) % nVal d w) := by
  refine aMet_of (ini := false) (B := aLook bkX3_takeTimes) (by decide) (fun h => by first | rfl | cases h) (Nat.le_of_ble_eq_true rfl) boX3_takeTimes ?_
  intro E J hb
  have hDP : nVal d w < 2147483648 ^ w := nVal_lt (fun k hk => hd k (by omega))
  have h0 : 0 < nVal d w := by
    rcases Nat.eq_zero_or_pos (nVal d w) with q | q
    · rw [q] at hlt; omega
    · exact q
  have hNs : nVal (fun k => h (pl + k)) (w + 1) = nVal (fun k => h (pl + k)) w + h (pl + w) * 2147483648 ^ w := nVal_succ _ _
  obtain ⟨N, hN⟩ : ∃ N, N = nVal (fun k => h (pl + k)) (w + 1) := ⟨_, rfl⟩
  obtain ⟨D, hD⟩ : ∃ D, D = nVal d w := ⟨_, rfl⟩
  obtain ⟨e, he⟩ : ∃ e, e = pl + w := ⟨_, rfl⟩
  have cg := ct_X3_guessTimes (l := l) (G := G) (base := base) (tA := tA) hO hA hO2 hA2 hh hd hw hpw hT hlt
  rw [← hN, ← hD] at hb cg
  rw [← hN] at hNs
  rw [← he] at hb hNs
  have pw : nI pl + nI w = nI e := by rw [nI_add, he]
  have ie : vp_in (nI e) 20 := vp_in_nI (by omega) (by decide)
  have hhe := hh e (by omega)
  refine hb.run (aCuts [6, 21, 125] J) 60 0 _ _ _ _ _ _ (aCuts_ok _) ?_
  simp only [↓wpi_isub, ↓wpi_lsub, ↓wpi_ineg, ↓wpi_lneg, ↓wpi_irem, ↓wpi_lrem, ↓wpi_iinc, wp1, wp, wpl, wpi, lget, lput1, lput2, ltail, lkill, aV, aVl, aNth, aPut, aFz, aC0, aC2, aSw, aCat1, aCuts, aSet_eq, List.take, List.drop, List.reverse_cons, List.reverse_nil, List.nil_append, List.cons_append, List.length_cons, List.length_nil, Option.toList, true_and, and_true, Nat.reduceAdd, Nat.reduceEqDiff, Nat.reduceLT, Nat.reduceLeDiff, Nat.zero_add, Nat.add_zero, if_true, if_false, ite_true, ite_false, reduceIte, reduceCtorEq, true_or, or_true, not_true_eq_false, not_false_eq_true, false_and, and_false, true_implies, false_implies, not_false_eq_true, bqX3_takeTimes_0, blX3_takeTimes_0, bqX3_takeTimes_6, blX3_takeTimes_6, bqX3_takeTimes_21, blX3_takeTimes_21, bqX3_takeTimes_28, blX3_takeTimes_28, bqX3_takeTimes_81, blX3_takeTimes_81, bqX3_takeTimes_97, blX3_takeTimes_97, bqX3_takeTimes_101, blX3_takeTimes_101, bqX3_takeTimes_102, blX3_takeTimes_102, bqX3_takeTimes_117, blX3_takeTimes_117, bqX3_takeTimes_119, blX3_takeTimes_119, bqX3_takeTimes_125, blX3_takeTimes_125, bqX3_takeTimes_132, blX3_takeTimes_132, bqX3_takeTimes_182, blX3_takeTimes_182, aArgs, List.replicate]
  refine ⟨_, _, _, _, hb.callV lvX3_65 cg rfl hO (by decide) (by decide) (by decide), ?_, fun _ _ _ h => h.elim⟩
  rintro _ O' A' ⟨c, hc1, hc2, hc3, rfl, rfl, rfl⟩
  -- the second loop: the divisor goes back
  have loop2 : ∀ (h1 : Nat → Nat) (W cz : Nat), (∀ k, k < 20 → h1 k < 2147483648) → (∀ k, k < pl ∨ e < k → h1 k = h k) → h1 e = 0 → W = nVal (fun k => h1 (pl + k)) w → W + c * D = nVal (fun k => h (pl + k)) w + cz * 2147483648 ^ w → h e < cz → ∀ (n j : Nat) (cc : Nat) (h2 : Nat → Nat), j + n = w → cc < 2 → (∀ k, k < 20 → h2 k < 2147483648) → (∀ k, k < pl ∨ pl + j ≤ k → h2 k = h1 k) → nVal (fun k => h2 (pl + k)) j + cc * 2147483648 ^ j = nVal (fun k => h1 (pl + k)) j + nVal d j → J 125 [some (.ref a), some (.ref b), some (.int (nI pl)), some (.int (nI c)), some (.int (nI e)), some (.long (lN cc)), none, some (.int (nI 1)), some (.int (nI (pl + j)))] [] O' (aSet A' la (0, 20, .inl (nF h2))) 0 0 := by
    intro h1 W cz b1 b2 b3 b4 b5 b6 n
    induction n with
    | zero =>
      intro j cc h2 hj hcc p1 p2 p3
      have hjw : j = w := by omega
      subst hjw
      have e2 : (nI e ≤ nI (pl + j)) = True := by rw [he]; simp
      have hWP : W < 2147483648 ^ j := by rw [b4]; exact nVal_lt (fun k hk => b1 _ (by omega))
      have hWP' : nVal (fun k => h2 (pl + k)) j < 2147483648 ^ j := nVal_lt (fun k hk => p1 _ (by omega))
      rw [← b4, ← hD] at p3
      rw [← hD] at h0 hDP
      obtain ⟨t1, t2, t3⟩ := tt_no hNs b5 hc2 hc3 h0 hDP b6 hWP p3 hWP'
      have s1 : iSub (nI c) (nI 1) = nI (c - 1) := iSub_nn t2
      refine hb.run (aCuts [6, 21, 125] J) 60 125 _ _ _ _ _ _ (aCuts_ok _) ?_
      simp only [↓wpi_isub, ↓wpi_lsub, ↓wpi_ineg, ↓wpi_lneg, ↓wpi_irem, ↓wpi_lrem, ↓wpi_iinc, wp1, wp, wpl, wpi, lget, lput1, lput2, ltail, lkill, aV, aVl, aNth, aPut, aFz, aC0, aC2, aSw, aCat1, aCuts, aSet_eq, List.take, List.drop, List.reverse_cons, List.reverse_nil, List.nil_append, List.cons_append, List.length_cons, List.length_nil, Option.toList, true_and, and_true, Nat.reduceAdd, Nat.reduceEqDiff, Nat.reduceLT, Nat.reduceLeDiff, Nat.zero_add, Nat.add_zero, if_true, if_false, ite_true, ite_false, reduceIte, reduceCtorEq, true_or, or_true, not_true_eq_false, not_false_eq_true, false_and, and_false, true_implies, false_implies, not_false_eq_true, bqX3_takeTimes_0, blX3_takeTimes_0, bqX3_takeTimes_6, blX3_takeTimes_6, bqX3_takeTimes_21, blX3_takeTimes_21, bqX3_takeTimes_28, blX3_takeTimes_28, bqX3_takeTimes_81, blX3_takeTimes_81, bqX3_takeTimes_97, blX3_takeTimes_97, bqX3_takeTimes_101, blX3_takeTimes_101, bqX3_takeTimes_102, blX3_takeTimes_102, bqX3_takeTimes_117, blX3_takeTimes_117, bqX3_takeTimes_119, blX3_takeTimes_119, bqX3_takeTimes_125, blX3_takeTimes_125, bqX3_takeTimes_132, blX3_takeTimes_132, bqX3_takeTimes_182, blX3_takeTimes_182, e2, s1]
      refine hb.iret (nar_i _) ⟨h2, by rw [t1], rfl, rfl, p1, fun k hk => ?_, ?_, t3⟩ (by decide) (by decide)
      · rw [p2 k (by omega)]; exact b2 k (by omega)
      · rw [p2 e (Or.inr (by omega))]; exact b3
    | succ n ih =>
      intro j cc h2 hj hcc p1 p2 p3
      have e2 : (nI e ≤ nI (pl + j)) = False := by rw [nI_leI (by omega) (by omega)]; simp; omega
      have i1 : vp_in (nI (pl + j)) 20 := vp_in_nI (by omega) (by decide)
      have i2 : vp_in (nI j) 20 := vp_in_nI (by omega) (by decide)
      have s1 : iSub (nI (pl + j)) (nI pl) = nI j := by rw [iSub_nn (by omega), Nat.add_sub_cancel_left]
      have hx := b1 (pl + j) (by omega)
      have hy := hd j (by omega)
      have hhj : h2 (pl + j) = h1 (pl + j) := p2 _ (Or.inr (Nat.le_refl _))
      obtain ⟨z, hz⟩ : ∃ z, z = cc + (h1 (pl + j) + d j) := ⟨_, rfl⟩
      refine hb.run (aCuts [6, 21, 125] J) 60 125 _ _ _ _ _ _ (aCuts_ok _) ?_
      simp only [↓wpi_isub, ↓wpi_lsub, ↓wpi_ineg, ↓wpi_lneg, ↓wpi_irem, ↓wpi_lrem, ↓wpi_iinc, wp1, wp, wpl, wpi, lget, lput1, lput2, ltail, lkill, aV, aVl, aNth, aPut, aFz, aC0, aC2, aSw, aCat1, aCuts, aSet_eq, List.take, List.drop, List.reverse_cons, List.reverse_nil, List.nil_append, List.cons_append, List.length_cons, List.length_nil, Option.toList, true_and, and_true, Nat.reduceAdd, Nat.reduceEqDiff, Nat.reduceLT, Nat.reduceLeDiff, Nat.zero_add, Nat.add_zero, if_true, if_false, ite_true, ite_false, reduceIte, reduceCtorEq, true_or, or_true, not_true_eq_false, not_false_eq_true, false_and, and_false, true_implies, false_implies, not_false_eq_true, bqX3_takeTimes_0, blX3_takeTimes_0, bqX3_takeTimes_6, blX3_takeTimes_6, bqX3_takeTimes_21, blX3_takeTimes_21, bqX3_takeTimes_28, blX3_takeTimes_28, bqX3_takeTimes_81, blX3_takeTimes_81, bqX3_takeTimes_97, blX3_takeTimes_97, bqX3_takeTimes_101, blX3_takeTimes_101, bqX3_takeTimes_102, blX3_takeTimes_102, bqX3_takeTimes_117, blX3_takeTimes_117, bqX3_takeTimes_119, blX3_takeTimes_119, bqX3_takeTimes_125, blX3_takeTimes_125, bqX3_takeTimes_132, blX3_takeTimes_132, bqX3_takeTimes_182, blX3_takeTimes_182, hO, hO2, e2, aSet_ne hlab.symm, hA2, i1, i2, s1, nI_clamp (show pl + j < 2 ^ 31 by omega), nI_clamp (show j < 2 ^ 31 by omega), nF_at, hhj, nI_l (show h1 (pl + j) < 2 ^ 31 by omega), nI_l (show d j < 2 ^ 31 by omega), lN_add, ← hz, lN_i, nI_mask2, nF_upd, aSet_aSet, lN_sar (show z < 2 ^ 62 by omega) (show 31 < 64 by decide), iInc_p]
      refine ih (j + 1) (z / 2 ^ 31) _ (by omega) (by omega) (fun k hk => ?_) (fun k hk => ?_) ?_
      · by_cases e : k = pl + j
        · rw [e, uN9_eq]; omega
        · rw [uN9_ne e]; exact p1 k hk
      · rw [uN9_ne (by omega)]; exact p2 k (by omega)
      · rw [nVal_shift_push, nVal_succ _ j, nVal_succ d j, Nat.pow_succ 2147483648 j]
        have hdm : z % 2147483648 + z / 2 ^ 31 * 2147483648 = cc + (h1 (pl + j) + d j) := by omega
        generalize z % 2147483648 = r at *
        generalize z / 2 ^ 31 = c' at *
        generalize 2147483648 ^ j = P at *
        have e9 : (r + c' * 2147483648) * P = (cc + (h1 (pl + j) + d j)) * P := by rw [hdm]
        grind
  have loop1 : ∀ (n j : Nat) (cz : Nat) (h1 : Nat → Nat), j + n = w → cz < 2147483648 → (∀ k, k < 20 → h1 k < 2147483648) → (∀ k, k < pl ∨ pl + j ≤ k → h1 k = h k) → nVal (fun k => h1 (pl + k)) j + c * nVal d j = nVal (fun k => h (pl + k)) j + cz * 2147483648 ^ j → J 21 [some (.ref a), some (.ref b), some (.int (nI pl)), some (.int (nI c)), some (.int (nI e)), some (.long (lZ (-(cz : Int)))), none, some (.int (nI (pl + j))), none] [] O' (aSet A' la (0, 20, .inl (nF h1))) 0 0 := by
    intro n
    induction n with
    | zero =>
      intro j cz h1 hj hcz p1 p2 p3
      have hjw : j = w := by omega
      subst hjw
      have e2 : (nI e ≤ nI (pl + j)) = True := by rw [he]; simp
      have hhj : h1 e = h e := p2 _ (Or.inr (by omega))
      rw [← hD] at p3
      have u0 : ∀ k, k < 20 → uN9 h1 e 0 k < 2147483648 := fun k hk => by
        by_cases q : k = e
        · rw [q, uN9_eq]; decide
        · rw [uN9_ne q]; exact p1 k hk
      have u1 : ∀ k, k < pl ∨ e < k → uN9 h1 e 0 k = h k := fun k hk => by
        rw [uN9_ne (by omega)]; exact p2 k (by omega)
      have u2 : nVal (fun k => uN9 h1 e 0 (pl + k)) j = nVal (fun k => h1 (pl + k)) j := nVal_congr (fun k hk => uN9_ne (by omega))
      refine hb.run (aCuts [6, 21, 125] J) 60 21 _ _ _ _ _ _ (aCuts_ok _) ?_
      rcases Nat.lt_or_ge (h e) cz with q | q
      · have e3 : (0 ≤ lg_cmp (lZ ((h e : Int) + -(cz : Int))) (lN 0)) = False := by rw [cmp_geZ (by omega) (by omega)]; simp; omega
        have z1 : (nI 1 = 0) = False := by simp only [eq_iff_iff, iff_false]; decide +kernel
        simp only [↓wpi_isub, ↓wpi_lsub, ↓wpi_ineg, ↓wpi_lneg, ↓wpi_irem, ↓wpi_lrem, ↓wpi_iinc, wp1, wp, wpl, wpi, lget, lput1, lput2, ltail, lkill, aV, aVl, aNth, aPut, aFz, aC0, aC2, aSw, aCat1, aCuts, aSet_eq, List.take, List.drop, List.reverse_cons, List.reverse_nil, List.nil_append, List.cons_append, List.length_cons, List.length_nil, Option.toList, true_and, and_true, Nat.reduceAdd, Nat.reduceEqDiff, Nat.reduceLT, Nat.reduceLeDiff, Nat.zero_add, Nat.add_zero, if_true, if_false, ite_true, ite_false, reduceIte, reduceCtorEq, true_or, or_true, not_true_eq_false, not_false_eq_true, false_and, and_false, true_implies, false_implies, not_false_eq_true, bqX3_takeTimes_0, blX3_takeTimes_0, bqX3_takeTimes_6, blX3_takeTimes_6, bqX3_takeTimes_21, blX3_takeTimes_21, bqX3_takeTimes_28, blX3_takeTimes_28, bqX3_takeTimes_81, blX3_takeTimes_81, bqX3_takeTimes_97, blX3_takeTimes_97, bqX3_takeTimes_101, blX3_takeTimes_101, bqX3_takeTimes_102, blX3_takeTimes_102, bqX3_takeTimes_117, blX3_takeTimes_117, bqX3_takeTimes_119, blX3_takeTimes_119, bqX3_takeTimes_125, blX3_takeTimes_125, bqX3_takeTimes_132, blX3_takeTimes_132, bqX3_takeTimes_182, blX3_takeTimes_182, e2, hO, ie, nI_clamp (show e < 2 ^ 31 by omega), nF_at, hhj, nI_l (show h e < 2 ^ 31 by omega), lN_Z (h e), lZ_add, e3, nF_upd, aSet_aSet, z1]
        exact loop2 (uN9 h1 e 0) _ cz u0 u1 uN9_eq rfl (by rw [u2]; exact p3) q j 0 0 _ (Nat.zero_add _) (by decide) u0 (fun _ _ => rfl) (by rw [show nVal (fun k => uN9 h1 e 0 (pl + k)) 0 = 0 from rfl, show nVal d 0 = 0 from rfl])
      · have e3 : (0 ≤ lg_cmp (lZ ((h e : Int) + -(cz : Int))) (lN 0)) = True := by rw [cmp_geZ (by omega) (by omega)]; simp; omega
        have z1 : (nI 0 = 0) = True := by simp only [eq_iff_iff, iff_true]; exact nI_0
        simp only [↓wpi_isub, ↓wpi_lsub, ↓wpi_ineg, ↓wpi_lneg, ↓wpi_irem, ↓wpi_lrem, ↓wpi_iinc, wp1, wp, wpl, wpi, lget, lput1, lput2, ltail, lkill, aV, aVl, aNth, aPut, aFz, aC0, aC2, aSw, aCat1, aCuts, aSet_eq, List.take, List.drop, List.reverse_cons, List.reverse_nil, List.nil_append, List.cons_append, List.length_cons, List.length_nil, Option.toList, true_and, and_true, Nat.reduceAdd, Nat.reduceEqDiff, Nat.reduceLT, Nat.reduceLeDiff, Nat.zero_add, Nat.add_zero, if_true, if_false, ite_true, ite_false, reduceIte, reduceCtorEq, true_or, or_true, not_true_eq_false, not_false_eq_true, false_and, and_false, true_implies, false_implies, not_false_eq_true, bqX3_takeTimes_0, blX3_takeTimes_0, bqX3_takeTimes_6, blX3_takeTimes_6, bqX3_takeTimes_21, blX3_takeTimes_21, bqX3_takeTimes_28, blX3_takeTimes_28, bqX3_takeTimes_81, blX3_takeTimes_81, bqX3_takeTimes_97, blX3_takeTimes_97, bqX3_takeTimes_101, blX3_takeTimes_101, bqX3_takeTimes_102, blX3_takeTimes_102, bqX3_takeTimes_117, blX3_takeTimes_117, bqX3_takeTimes_119, blX3_takeTimes_119, bqX3_takeTimes_125, blX3_takeTimes_125, bqX3_takeTimes_132, blX3_takeTimes_132, bqX3_takeTimes_182, blX3_takeTimes_182, e2, hO, ie, nI_clamp (show e < 2 ^ 31 by omega), nF_at, hhj, nI_l (show h e < 2 ^ 31 by omega), lN_Z (h e), lZ_add, e3, nF_upd, aSet_aSet, z1]
        rw [← hD] at h0 hDP
        obtain ⟨t1, t2⟩ := tt_ok hNs p3 hc2 h0 hDP q
        exact hb.iret (nar_i _) ⟨_, by rw [t1], rfl, rfl, u0, u1, uN9_eq, by rw [u2]; exact t2⟩ (by decide) (by decide)
    | succ n ih =>
      intro j cz h1 hj hcz p1 p2 p3
      have e2 : (nI e ≤ nI (pl + j)) = False := by rw [nI_leI (by omega) (by omega)]; simp; omega
      have i1 : vp_in (nI (pl + j)) 20 := vp_in_nI (by omega) (by decide)
      have i2 : vp_in (nI j) 20 := vp_in_nI (by omega) (by decide)
      have s1 : iSub (nI (pl + j)) (nI pl) = nI j := by rw [iSub_nn (by omega), Nat.add_sub_cancel_left]
      have hx := hh (pl + j) (by omega)
      have hy := hd j (by omega)
      have hhj : h1 (pl + j) = h (pl + j) := p2 _ (Or.inr (Nat.le_refl _))
      obtain ⟨m, hm⟩ : ∃ m, m = c * d j := ⟨_, rfl⟩
      have hmb : m ≤ 2147483647 * 2147483647 := by rw [hm]; exact Nat.mul_le_mul (by omega) (by omega)
      have hmZ : lZ (c : Int) * lZ (d j : Int) = lZ (m : Int) := by rw [lZ_mul, hm, Int.natCast_mul]
      obtain ⟨z, hz⟩ : ∃ z : Int, z = -(cz : Int) + ((h (pl + j) : Int) - (m : Int)) := ⟨_, rfl⟩
      have hz1 : -2 ^ 62 ≤ z := by omega
      have hz2 : z < 2 ^ 62 := by omega
      obtain ⟨c', hc', hc2'⟩ : ∃ c' : Nat, z / 2 ^ 31 = -(c' : Int) ∧ c' < 2147483648 := ⟨(-(z / 2 ^ 31)).toNat, by omega, by omega⟩
      refine hb.run (aCuts [6, 21, 125] J) 60 21 _ _ _ _ _ _ (aCuts_ok _) ?_
      simp only [↓wpi_isub, ↓wpi_lsub, ↓wpi_ineg, ↓wpi_lneg, ↓wpi_irem, ↓wpi_lrem, ↓wpi_iinc, wp1, wp, wpl, wpi, lget, lput1, lput2, ltail, lkill, aV, aVl, aNth, aPut, aFz, aC0, aC2, aSw, aCat1, aCuts, aSet_eq, List.take, List.drop, List.reverse_cons, List.reverse_nil, List.nil_append, List.cons_append, List.length_cons, List.length_nil, Option.toList, true_and, and_true, Nat.reduceAdd, Nat.reduceEqDiff, Nat.reduceLT, Nat.reduceLeDiff, Nat.zero_add, Nat.add_zero, if_true, if_false, ite_true, ite_false, reduceIte, reduceCtorEq, true_or, or_true, not_true_eq_false, not_false_eq_true, false_and, and_false, true_implies, false_implies, not_false_eq_true, bqX3_takeTimes_0, blX3_takeTimes_0, bqX3_takeTimes_6, blX3_takeTimes_6, bqX3_takeTimes_21, blX3_takeTimes_21, bqX3_takeTimes_28, blX3_takeTimes_28, bqX3_takeTimes_81, blX3_takeTimes_81, bqX3_takeTimes_97, blX3_takeTimes_97, bqX3_takeTimes_101, blX3_takeTimes_101, bqX3_takeTimes_102, blX3_takeTimes_102, bqX3_takeTimes_117, blX3_takeTimes_117, bqX3_takeTimes_119, blX3_takeTimes_119, bqX3_takeTimes_125, blX3_takeTimes_125, bqX3_takeTimes_132, blX3_takeTimes_132, bqX3_takeTimes_182, blX3_takeTimes_182, hO, hO2, e2, aSet_ne hlab.symm, hA2, i1, i2, s1, nI_clamp (show pl + j < 2 ^ 31 by omega), nI_clamp (show j < 2 ^ 31 by omega), nF_at, hhj, nI_l (show h (pl + j) < 2 ^ 31 by omega), nI_l (show d j < 2 ^ 31 by omega), nI_l (show c < 2 ^ 31 by omega), lN_Z, hmZ, lSub_Z, lZ_add, ← hz, lZ_i, iZ_mask, nF_upd, aSet_aSet, lZ_sar hz1 hz2 (show 31 < 64 by decide), hc', iInc_p]
      refine ih (j + 1) c' _ (by omega) hc2' (fun k hk => ?_) (fun k hk => ?_) ?_
      · by_cases e : k = pl + j
        · rw [e, uN9_eq]; omega
        · rw [uN9_ne e]; exact p1 k hk
      · rw [uN9_ne (by omega)]; exact p2 k (by omega)
      · rw [nVal_shift_push, nVal_succ d j, nVal_succ (fun k => h (pl + k)) j, Nat.pow_succ 2147483648 j]
        exact tt_step p3 (by rw [← hm]; omega)
  refine hb.run (aCuts [6, 21, 125] J) 60 6 _ _ _ _ _ _ (aCuts_ok _) ?_
  simp only [↓wpi_isub, ↓wpi_lsub, ↓wpi_ineg, ↓wpi_lneg, ↓wpi_irem, ↓wpi_lrem, ↓wpi_iinc, wp1, wp, wpl, wpi, lget, lput1, lput2, ltail, lkill, aV, aVl, aNth, aPut, aFz, aC0, aC2, aSw, aCat1, aCuts, aSet_eq, List.take, List.drop, List.reverse_cons, List.reverse_nil, List.nil_append, List.cons_append, List.length_cons, List.length_nil, Option.toList, true_and, and_true, Nat.reduceAdd, Nat.reduceEqDiff, Nat.reduceLT, Nat.reduceLeDiff, Nat.zero_add, Nat.add_zero, if_true, if_false, ite_true, ite_false, reduceIte, reduceCtorEq, true_or, or_true, not_true_eq_false, not_false_eq_true, false_and, and_false, true_implies, false_implies, not_false_eq_true, bqX3_takeTimes_0, blX3_takeTimes_0, bqX3_takeTimes_6, blX3_takeTimes_6, bqX3_takeTimes_21, blX3_takeTimes_21, bqX3_takeTimes_28, blX3_takeTimes_28, bqX3_takeTimes_81, blX3_takeTimes_81, bqX3_takeTimes_97, blX3_takeTimes_97, bqX3_takeTimes_101, blX3_takeTimes_101, bqX3_takeTimes_102, blX3_takeTimes_102, bqX3_takeTimes_117, blX3_takeTimes_117, bqX3_takeTimes_119, blX3_takeTimes_119, bqX3_takeTimes_125, blX3_takeTimes_125, bqX3_takeTimes_132, blX3_takeTimes_132, bqX3_takeTimes_182, blX3_takeTimes_182, hO2, pw]
  have g0 := loop1 w 0 0 h (Nat.zero_add _) (by decide) hh (fun _ _ => rfl) (by rw [show nVal (fun k => h (pl + k)) 0 = 0 from rfl, show nVal d 0 = 0 from rfl]; simp)
  rw [aSet_id hA] at g0
  exact g0
end NAT13
