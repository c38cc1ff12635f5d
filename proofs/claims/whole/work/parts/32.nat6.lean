/-! ===== signed longs ===== -/
def lZ (z : Int) : Int64 := Int64.ofInt z
theorem lN_Z (n : Nat) : lN n = lZ n := rfl
theorem lZ_add (a b : Int) : lZ a + lZ b = lZ (a + b) := (Int64.ofInt_add a b).symm
theorem lZ_sub (a b : Int) : lZ a - lZ b = lZ (a - b) := (Int64.ofInt_sub a b).symm
theorem lZ_mul (a b : Int) : lZ a * lZ b = lZ (a * b) := (Int64.ofInt_mul a b).symm
theorem lZ_toInt {z : Int} (h1 : -2 ^ 63 ≤ z) (h2 : z < 2 ^ 63) : (lZ z).toInt = z := Int64.toInt_ofInt_of_le h1 h2
theorem lZ_i (z : Int) : (lZ z).toInt32 = Int32.ofInt z := Int64.toInt32_ofInt
theorem iZ_mask (z : Int) : Int32.ofInt z &&& nI 2147483647 = nI (z % 2147483648).toNat := by
  rw [pk_and (Int32.ofInt z) 31 (by decide)]
  congr 1
  show (BitVec.ofInt 32 z).toNat % 2 ^ 31 = _
  rw [BitVec.toNat_ofInt]
  omega
theorem lZ_sar {z : Int} {k : Nat} (h1 : -2 ^ 62 ≤ z) (h2 : z < 2 ^ 62) (hk : k < 64) : lZ z >>> ((nI k).toInt64 &&& 63) = lZ (z / 2 ^ k) := by
  rw [wb_c k hk]
  have hp : (0 : Int) < 2 ^ k := by exact_mod_cast Nat.two_pow_pos k
  have hd1 : -2 ^ 62 ≤ z / 2 ^ k := by
    rcases (show z < 0 ∨ 0 ≤ z by omega) with q | q
    · exact Int.le_trans h1 (by
        rw [Int.le_ediv_iff_mul_le hp]
        have : (1 : Int) ≤ 2 ^ k := hp
        have h9 : z * 2 ^ k ≤ z * 1 := Int.mul_le_mul_of_nonpos_left (by omega) this
        omega)
    · exact Int.le_trans (by omega) (Int.ediv_nonneg q (by omega))
  have hd2 : z / 2 ^ k < 2 ^ 62 := by
    rcases (show z < 0 ∨ 0 ≤ z by omega) with q | q
    · exact Int.lt_of_lt_of_le (Int.ediv_neg_of_neg_of_pos q hp) (by omega)
    · exact Int.lt_of_le_of_lt (Int.ediv_le_self _ q) h2
  apply Int64.toInt_inj.mp
  have e : (lZ z >>> lN k).toInt = (lZ z).toInt >>> k := by
    have hD : ((lN k).toBitVec.smod 64).toNat = k := by rw [wb_tb, wb_sm k hk, BitVec.toNat_ofNat, Nat.mod_eq_of_lt (by omega)]
    conv => rhs; rw [← hD]
    exact BitVec.toInt_sshiftRight ..
  rw [e, Int.shiftRight_eq_div_pow, lZ_toInt (by omega) (by omega), lZ_toInt (by omega) (by omega)]
  rfl
section NAT6
variable {l : Launch} {G : aG} {base tA : Nat} {O : aO} {A : aA} {a la b lb : Nat} {g g2 : Nat → Nat} {u v u2 v2 : Nat}
abbrev rmB : Room := { frames := 1, cells := 0, slots := 0, locals := 30 }
theorem lkX3_max : Cond.methodLink RX3 42 Lib.Math.max.name ∈ aT := lsX3_42.1
theorem lkX3_min : Cond.methodLink RX3 32 Lib.Math.min.name ∈ aT := lsX3_32.1
set_option maxHeartbeats 4000000 in
theorem ct_X3_plus (hab : a ≠ b) (hlab : la ≠ lb) (hv : nRep g u v) (hO : O a = some (4, [.ref la, .int (nI u)])) (hA : A la = some (0, 20, .inl (nF g))) (hv2 : nRep g2 u2 v2) (hO2 : O b = some (4, [.ref lb, .int (nI u2)])) (hA2 : A lb = some (0, 20, .inl (nF g2))) (hmax : v + v2 < 2147483648 ^ 20) : aMet l G base tA yX3_plus cX3_plus 6 none rmB [.ref a, .ref b] O A (fun r O' A' => r = none ∧ ∃ g' u', nRep g' u' (v + v2) ∧ O' = aSet O a (4, [.ref la, .int (nI u')]) ∧ A' = aSet A la (0, 20, .inl (nF g'))) := by
  refine aMet_of2 (ini := false) (B := aLook bkX3_plus) (by decide) (fun h => by first | rfl | cases h) (Nat.le_of_ble_eq_true rfl) boX3_plus ?_
  intro E J hb
  have hvu := hv
  have hvu2 := hv2
  obtain ⟨h1, h2, h3, h4, h5⟩ := hv
  obtain ⟨q1, q2, q3, q4, q5⟩ := hv2
  obtain ⟨m, hm⟩ : ∃ m, m = max u u2 := ⟨_, rfl⟩
  have hmu : u ≤ m := by rw [hm]; exact Nat.le_max_left _ _
  have hmu2 : u2 ≤ m := by rw [hm]; exact Nat.le_max_right _ _
  have hm20 : m ≤ 20 := by rw [hm]; exact Nat.max_le.mpr ⟨h1, q1⟩
  have hvm : v = nVal g m := by rw [h5]; exact (nVal_ext hmu (fun k k1 k2 => h3 k k1 (by omega))).symm
  have hvm2 : v2 = nVal g2 m := by rw [q5]; exact (nVal_ext hmu2 (fun k k1 k2 => q3 k k1 (by omega))).symm
  have hge : 0 < m → 2147483648 ^ (m - 1) ≤ v + v2 := by
    intro h0
    rcases Nat.lt_or_ge u u2 with q | q
    · have e : m = u2 := by rw [hm, Nat.max_eq_right (by omega)]
      rw [e] at h0 ⊢
      have := nVal_ge h0 (q4 h0)
      omega
    · have e : m = u := by rw [hm, Nat.max_eq_left q]
      rw [e] at h0 ⊢
      have := nVal_ge h0 (h4 h0)
      omega
  have loop : ∀ (n i c : Nat) (h : Nat → Nat), m - i < n → i ≤ m → c < 2 → (∀ k, k < 20 → h k < 2147483648) → (∀ k, i ≤ k → h k = g k) → nVal h i + c * 2147483648 ^ i = nVal g i + nVal g2 i → J 17 [some (.ref a), some (.ref b), some (.int (nI m)), some (.long (lN c)), none, some (.int (nI i))] [] O (aSet A la (0, 20, .inl (nF h))) 0 0 := by
    intro n
    induction n with
    | zero => intro i c h hn; omega
    | succ n ih =>
      intro i c h hn hi hc p1 p2 p3
      refine hb.1.run (aCuts [11, 17] J) 60 17 _ _ _ _ _ _ (aCuts_ok _) ?_
      rcases Nat.lt_or_ge i m with q | q
      · have hgi := h2 i (by omega)
        have hgi2 := q2 i (by omega)
        have e1 : vp_in (nI i) 20 := vp_in_nI (by omega) (by decide)
        have e2 : (nI m ≤ nI i) = False := by rw [nI_leI (by omega) (by omega)]; simp; omega
        have hw : c + (g i + g2 i) < 2 ^ 62 := by omega
        simp only [wp1, wp, wpl, wpi, lget, lput1, lput2, ltail, lkill, aV, aVl, aNth, aPut, aFz, aC0, aC2, aSw, aCat1, aCuts, aSet_eq, List.take, List.drop, List.reverse_cons, List.reverse_nil, List.nil_append, List.cons_append, List.length_cons, List.length_nil, Option.toList, true_and, and_true, Nat.reduceAdd, Nat.reduceEqDiff, Nat.reduceLT, Nat.reduceLeDiff, Nat.zero_add, Nat.add_zero, if_true, if_false, ite_true, ite_false, reduceIte, reduceCtorEq, true_or, or_true, not_true_eq_false, not_false_eq_true, false_and, and_false, true_implies, false_implies, not_false_eq_true, bqX3_plus_0, blX3_plus_0, bqX3_plus_11, blX3_plus_11, bqX3_plus_17, blX3_plus_17, bqX3_plus_23, blX3_plus_23, bqX3_plus_66, blX3_plus_66, bqX3_plus_77, blX3_plus_77, bqX3_plus_86, blX3_plus_86, bqX3_plus_107, blX3_plus_107, hO, hO2, aSet_ne hlab.symm, hA2, e1, e2, nI_clamp (show i < 2 ^ 31 by omega), nF_at, p2 i (Nat.le_refl i), nI_l (show g i < 2 ^ 31 by omega), nI_l (show g2 i < 2 ^ 31 by omega), lN_add, lN_i, nI_mask, nF_upd, aSet_aSet, lN_sar hw (show 31 < 64 by decide), nI_inc]
        refine ih (i + 1) _ _ (by omega) (by omega) (by omega) (fun k hk => ?_) (fun k hk => ?_) ?_
        · by_cases e : k = i
          · rw [e, uN9_eq]; exact Nat.mod_lt _ (by decide)
          · rw [uN9_ne e]; exact p1 k hk
        · rw [uN9_ne (by omega)]; exact p2 k (by omega)
        · rw [nVal_push]
          simp only [nVal, Nat.pow_succ]
          have hd := Nat.div_add_mod (c + (g i + g2 i)) 2147483648
          generalize 2147483648 ^ i = P at *
          have hr : (c + (g i + g2 i)) % 2 ^ 31 = (c + (g i + g2 i)) % 2147483648 := rfl
          have hr2 : (c + (g i + g2 i)) / 2 ^ 31 = (c + (g i + g2 i)) / 2147483648 := rfl
          rw [hr, hr2]
          generalize hq : (c + (g i + g2 i)) / 2147483648 = qq at *
          generalize (c + (g i + g2 i)) % 2147483648 = rr at *
          have e9 : rr * P + qq * (P * 2147483648) = (c + (g i + g2 i)) * P := by
            rw [← hd]; grind
          grind
      · have e : i = m := by omega
        subst e
        have e2 : (nI i ≤ nI i) = True := by simp
        have e4 : vp_in (nI i) 20 ∨ 20 ≤ i := by
          rcases Nat.lt_or_ge i 20 with q | q
          · exact Or.inl (vp_in_nI q (by decide))
          · exact Or.inr q
        simp only [wp1, wp, wpl, wpi, lget, lput1, lput2, ltail, lkill, aV, aVl, aNth, aPut, aFz, aC0, aC2, aSw, aCat1, aCuts, aSet_eq, List.take, List.drop, List.reverse_cons, List.reverse_nil, List.nil_append, List.cons_append, List.length_cons, List.length_nil, Option.toList, true_and, and_true, Nat.reduceAdd, Nat.reduceEqDiff, Nat.reduceLT, Nat.reduceLeDiff, Nat.zero_add, Nat.add_zero, if_true, if_false, ite_true, ite_false, reduceIte, reduceCtorEq, true_or, or_true, not_true_eq_false, not_false_eq_true, false_and, and_false, true_implies, false_implies, not_false_eq_true, bqX3_plus_0, blX3_plus_0, bqX3_plus_11, blX3_plus_11, bqX3_plus_17, blX3_plus_17, bqX3_plus_23, blX3_plus_23, bqX3_plus_66, blX3_plus_66, bqX3_plus_77, blX3_plus_77, bqX3_plus_86, blX3_plus_86, bqX3_plus_107, blX3_plus_107, hO, e2, lN_i, lg_cmp_z (show c < 2 ^ 63 by omega) (show 0 < 2 ^ 63 by decide), nI_leI (show 20 < 2 ^ 31 by decide) (show i < 2 ^ 31 by omega), aSet_aSet, nI_add]
        refine ⟨fun hc0 => ?_, fun hc0 => ⟨fun h20 => ?_, fun h20 => ⟨e4.resolve_right h20, ?_⟩⟩⟩
        · subst hc0
          simp only [Nat.zero_mul, Nat.add_zero] at p3
          refine hb.1.vret ⟨rfl, h, i, ⟨by omega, p1, fun k k1 k2 => by rw [p2 k k1]; exact h3 k (by omega) k2, fun hi0 => nTop hi0 (fun k hk => p1 k (by omega)) ?_, by rw [hvm, hvm2, ← p3]⟩, rfl, rfl⟩ (by decide) (by decide)
          rw [p3, ← hvm, ← hvm2]
          exact hge hi0
        · exfalso
          have e20 : i = 20 := by omega
          rw [hvm, hvm2, ← p3, e20] at hmax
          have : 1 * 2147483648 ^ 20 ≤ c * 2147483648 ^ 20 := Nat.mul_le_mul_right _ (by omega)
          omega
        · rw [nI_clamp (by omega), nF_upd]
          exact hb.1.vret ⟨rfl, _, i + 1, nRep_push (by omega) p1 (fun k k1 k2 => by rw [p2 k k1]; exact h3 k (by omega) k2) (by omega) hc0 (by rw [hvm, hvm2, ← p3]), rfl, rfl⟩ (by decide) (by decide)
  refine hb.1.run (aCuts [11, 17] J) 60 0 _ _ _ _ _ _ (aCuts_ok _) ?_
  simp only [wp1, wp, wpl, wpi, lget, lput1, lput2, ltail, lkill, aV, aVl, aNth, aPut, aFz, aC0, aC2, aSw, aCat1, aCuts, aSet_eq, List.take, List.drop, List.reverse_cons, List.reverse_nil, List.nil_append, List.cons_append, List.length_cons, List.length_nil, Option.toList, true_and, and_true, Nat.reduceAdd, Nat.reduceEqDiff, Nat.reduceLT, Nat.reduceLeDiff, Nat.zero_add, Nat.add_zero, if_true, if_false, ite_true, ite_false, reduceIte, reduceCtorEq, true_or, or_true, not_true_eq_false, not_false_eq_true, false_and, and_false, true_implies, false_implies, not_false_eq_true, bqX3_plus_0, blX3_plus_0, bqX3_plus_11, blX3_plus_11, bqX3_plus_17, blX3_plus_17, bqX3_plus_23, blX3_plus_23, bqX3_plus_66, blX3_plus_66, bqX3_plus_77, blX3_plus_77, bqX3_plus_86, blX3_plus_86, bqX3_plus_107, blX3_plus_107, aArgs, List.replicate, hO, hO2]
  refine ⟨_, _, _, _, hb.maxN lkX3_max (x := u) (y := u2) (by omega) (by omega) (by decide) (by decide) (by decide) (by decide), ?_, fun _ _ _ h => h.elim⟩
  rintro _ O' A' ⟨rfl, rfl, rfl⟩
  rw [← hm]
  refine hb.1.run (aCuts [11, 17] J) 60 11 _ _ _ _ _ _ (aCuts_ok _) ?_
  simp only [wp1, wp, wpl, wpi, lget, lput1, lput2, ltail, lkill, aV, aVl, aNth, aPut, aFz, aC0, aC2, aSw, aCat1, aCuts, aSet_eq, List.take, List.drop, List.reverse_cons, List.reverse_nil, List.nil_append, List.cons_append, List.length_cons, List.length_nil, Option.toList, true_and, and_true, Nat.reduceAdd, Nat.reduceEqDiff, Nat.reduceLT, Nat.reduceLeDiff, Nat.zero_add, Nat.add_zero, if_true, if_false, ite_true, ite_false, reduceIte, reduceCtorEq, true_or, or_true, not_true_eq_false, not_false_eq_true, false_and, and_false, true_implies, false_implies, not_false_eq_true, bqX3_plus_0, blX3_plus_0, bqX3_plus_11, blX3_plus_11, bqX3_plus_17, blX3_plus_17, bqX3_plus_23, blX3_plus_23, bqX3_plus_66, blX3_plus_66, bqX3_plus_77, blX3_plus_77, bqX3_plus_86, blX3_plus_86, bqX3_plus_107, blX3_plus_107]
  have h0 := loop (m + 1) 0 0 g (by omega) (by omega) (by decide) h2 (fun _ _ => rfl) (by simp [nVal])
  rw [aSet_id hA] at h0
  exact h0
end NAT6
