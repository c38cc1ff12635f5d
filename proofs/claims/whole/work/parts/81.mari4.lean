/-! ===== the reference: whole, fromLong ===== -/
theorem sW_ge {s : Bool} {x : Nat} : (0 ≤ sW s x) = (x = 0 ∨ s = false) := by
  unfold sW
  split
  · rename_i e; simp only [eq_iff_iff]; exact ⟨fun _ => Or.inl e, fun _ => by decide +kernel⟩
  · rename_i e; rw [sBI_ge]; simp [e]
theorem zI_0 (s : Bool) : zI s 0 = 0 := by cases s <;> rfl
theorem wb_m16 {n : Nat} (h : n < 2 ^ 64) : lN n &&& lN 65535 = lN (n % 65536) := wb_mask (k := 16) h (by decide)
section MA4
variable {l : Launch} {G : aG} {base tA : Nat} {Y ρ : Nat → Nat} {τ : Nat → Int32} {ex : Bool} {N : aN} {O0 O : aO} {A0 A : aA} {k i : Nat}
set_option maxHeartbeats 4000000 in
theorem m_whole (h : mW Y ρ τ ex N O0 A0 O A) {s : Bool} (t1 : τ 1 = sW s (ρ 0)) (h0 : 0 < ρ 1) (hB : ρ 1 < 65536 ^ 79) : aMet l G base tA yX9_whole cX9_whole 4 (some .long) rmM4 [.ref (Y 0)] O A (fun r O' A' => r = some (.long (lZ (zI s (ρ 0 / ρ 1)))) ∧ mW Y (rU (rU ρ 6 (ρ 0 / ρ 1)) 7 (ρ 0 % ρ 1)) τ ex N O0 A0 O' A') := by
  refine aMet_of (ini := false) (B := aLook bkX9_whole) (by decide) (fun h => by first | rfl | cases h) (Nat.le_of_ble_eq_true rfl) boX9_whole ?_
  intro E J hb
  refine hb.run (aCuts [6, 10] J) 60 0 _ _ _ _ _ _ (aCuts_ok _) ?_
  simp only [↓wpi_isub, ↓wpi_lsub, ↓wpi_ineg, ↓wpi_lneg, ↓wpi_irem, ↓wpi_lrem, ↓wpi_iinc, wp1, wp, wpl, wpi, lget, lput1, lput2, ltail, lkill, aV, aVl, aNth, aPut, aFz, aC0, aC2, aSw, aCat1, aCuts, aSet_eq, List.take, List.drop, List.reverse_cons, List.reverse_nil, List.nil_append, List.cons_append, List.length_cons, List.length_nil, Option.toList, true_and, and_true, Nat.reduceAdd, Nat.reduceEqDiff, Nat.reduceLT, Nat.reduceLeDiff, Nat.zero_add, Nat.add_zero, if_true, if_false, ite_true, ite_false, reduceIte, reduceCtorEq, true_or, or_true, not_true_eq_false, not_false_eq_true, false_and, and_false, true_implies, false_implies, not_false_eq_true, bqX9_whole_0, blX9_whole_0, bqX9_whole_6, blX9_whole_6, bqX9_whole_10, blX9_whole_10, bqX9_whole_14, blX9_whole_14, bqX9_whole_37, blX9_whole_37, bqX9_whole_44, blX9_whole_44, bqX9_whole_50, blX9_whole_50, bqX9_whole_51, blX9_whole_51, aArgs, List.replicate]
  refine ⟨_, _, _, _, hb.callV lvX9_134 (m_divide h (x := 0) (y := 1) (by decide) (by decide) (by decide) (by decide) (by decide) (by decide) h0 hB) rfl h.obj (by decide) (by decide) (by decide), ?_, fun _ _ _ h => h.elim⟩
  rintro _ O1 A1 ⟨rfl, h1⟩
  obtain ⟨q, hq⟩ : ∃ q, q = ρ 0 / ρ 1 := ⟨_, rfl⟩
  rw [← hq] at h1 hb
  obtain ⟨g, hg, hr⟩ := h1.row
  have g6 := hr 6 (by decide)
  rw [rU_ne (by decide), rU_eq] at g6
  have obj := h1.obj
  rw [t1] at obj
  have lim : ∀ i, i < 4 → g (480 + i) = q / 65536 ^ i % 65536 := by
    intro i hi
    rw [← g6.2, mV_limb (by omega) g6.1]; rfl
  have limb : ∀ i, i < 4 → g (480 + i) < 65536 := fun i hi => g6.1 i (by omega)
  have step : ∀ (i m : Nat), i < 4 → m < 65536 ^ 3 → J 10 [some (.ref (Y 0)), some (.long (lN (m * 65536 + g (480 + i)))), none, some (.int (iSub (nI i) (nI 1)))] [] O1 A1 0 0 → J 10 [some (.ref (Y 0)), some (.long (lN m)), none, some (.int (nI i))] [] O1 A1 0 0 := by
    intro i m hi hm hJ
    have e2 : vp_in (nI (480 + i)) 880 := vp_in_nI (by omega) (by decide)
    have e3 := limb i hi
    refine hb.run (aCuts [6, 10] J) 60 10 _ _ _ _ _ _ (aCuts_ok _) ?_
    simp only [↓wpi_isub, ↓wpi_lsub, ↓wpi_ineg, ↓wpi_lneg, ↓wpi_irem, ↓wpi_lrem, ↓wpi_iinc, wp1, wp, wpl, wpi, lget, lput1, lput2, ltail, lkill, aV, aVl, aNth, aPut, aFz, aC0, aC2, aSw, aCat1, aCuts, aSet_eq, List.take, List.drop, List.reverse_cons, List.reverse_nil, List.nil_append, List.cons_append, List.length_cons, List.length_nil, Option.toList, true_and, and_true, Nat.reduceAdd, Nat.reduceEqDiff, Nat.reduceLT, Nat.reduceLeDiff, Nat.zero_add, Nat.add_zero, if_true, if_false, ite_true, ite_false, reduceIte, reduceCtorEq, true_or, or_true, not_true_eq_false, not_false_eq_true, false_and, and_false, true_implies, false_implies, not_false_eq_true, bqX9_whole_0, blX9_whole_0, bqX9_whole_6, blX9_whole_6, bqX9_whole_10, blX9_whole_10, bqX9_whole_14, blX9_whole_14, bqX9_whole_37, blX9_whole_37, bqX9_whole_44, blX9_whole_44, bqX9_whole_50, blX9_whole_50, bqX9_whole_51, blX9_whole_51, nI_lt0 (show i < 2 ^ 31 by omega), h1.obj, hg, nI_add, e2, nI_clamp (show 480 + i < 2 ^ 31 by omega), nF_at, nI_l (show g (480 + i) < 2 ^ 31 by omega), wb_shl _ (show 16 < 64 by decide), show (2 : Nat) ^ 16 = 65536 from rfl, lN_or16 hm e3, iInc_m1]
    exact hJ
  have last : ∀ m, m < 2 ^ 64 → q % 2 ^ 64 = m → J 10 [some (.ref (Y 0)), some (.long (lN m)), none, some (.int (iSub (nI 0) (nI 1)))] [] O1 A1 0 0 := by
    intro m hm hqm
    have em : lN m = lN q := lN_cong (by omega)
    refine hb.run (aCuts [6, 10] J) 60 10 _ _ _ _ _ _ (aCuts_ok _) ?_
    by_cases hs : ρ 0 = 0 ∨ s = false
    · have e1 : (0 ≤ sW s (ρ 0)) = True := by rw [sW_ge]; simp [hs]
      simp only [↓wpi_isub, ↓wpi_lsub, ↓wpi_ineg, ↓wpi_lneg, ↓wpi_irem, ↓wpi_lrem, ↓wpi_iinc, wp1, wp, wpl, wpi, lget, lput1, lput2, ltail, lkill, aV, aVl, aNth, aPut, aFz, aC0, aC2, aSw, aCat1, aCuts, aSet_eq, List.take, List.drop, List.reverse_cons, List.reverse_nil, List.nil_append, List.cons_append, List.length_cons, List.length_nil, Option.toList, true_and, and_true, Nat.reduceAdd, Nat.reduceEqDiff, Nat.reduceLT, Nat.reduceLeDiff, Nat.zero_add, Nat.add_zero, if_true, if_false, ite_true, ite_false, reduceIte, reduceCtorEq, true_or, or_true, not_true_eq_false, not_false_eq_true, false_and, and_false, true_implies, false_implies, not_false_eq_true, bqX9_whole_0, blX9_whole_0, bqX9_whole_6, blX9_whole_6, bqX9_whole_10, blX9_whole_10, bqX9_whole_14, blX9_whole_14, bqX9_whole_37, blX9_whole_37, bqX9_whole_44, blX9_whole_44, bqX9_whole_50, blX9_whole_50, bqX9_whole_51, blX9_whole_51, iSub_n1, obj, e1]
      refine hb.lret ⟨?_, h1⟩ (by decide) (by decide)
      rw [em]
      rcases hs with e | e
      · rw [show q = 0 by rw [hq, e, Nat.zero_div], zI_0]; rfl
      · rw [e]; rfl
    · have e1 : (0 ≤ sW s (ρ 0)) = False := by rw [sW_ge]; simp only [eq_iff_iff, iff_false]; exact hs
      have hst : s = true := by cases s; exact absurd (Or.inr rfl) hs; rfl
      simp only [↓wpi_isub, ↓wpi_lsub, ↓wpi_ineg, ↓wpi_lneg, ↓wpi_irem, ↓wpi_lrem, ↓wpi_iinc, wp1, wp, wpl, wpi, lget, lput1, lput2, ltail, lkill, aV, aVl, aNth, aPut, aFz, aC0, aC2, aSw, aCat1, aCuts, aSet_eq, List.take, List.drop, List.reverse_cons, List.reverse_nil, List.nil_append, List.cons_append, List.length_cons, List.length_nil, Option.toList, true_and, and_true, Nat.reduceAdd, Nat.reduceEqDiff, Nat.reduceLT, Nat.reduceLeDiff, Nat.zero_add, Nat.add_zero, if_true, if_false, ite_true, ite_false, reduceIte, reduceCtorEq, true_or, or_true, not_true_eq_false, not_false_eq_true, false_and, and_false, true_implies, false_implies, not_false_eq_true, bqX9_whole_0, blX9_whole_0, bqX9_whole_6, blX9_whole_6, bqX9_whole_10, blX9_whole_10, bqX9_whole_14, blX9_whole_14, bqX9_whole_37, blX9_whole_37, bqX9_whole_44, blX9_whole_44, bqX9_whole_50, blX9_whole_50, bqX9_whole_51, blX9_whole_51, iSub_n1, obj, e1]
      refine hb.lret ⟨?_, h1⟩ (by decide) (by decide)
      rw [em, hst, lN_Z 0, lN_Z q, lSub_Z]
      show some (Value.long (lZ (((0 : Nat) : Int) - q))) = some (.long (lZ (-(q : Int))))
      rw [show ((0 : Nat) : Int) - (q : Int) = -(q : Int) by omega]
  refine hb.run (aCuts [6, 10] J) 60 6 _ _ _ _ _ _ (aCuts_ok _) ?_
  simp only [↓wpi_isub, ↓wpi_lsub, ↓wpi_ineg, ↓wpi_lneg, ↓wpi_irem, ↓wpi_lrem, ↓wpi_iinc, wp1, wp, wpl, wpi, lget, lput1, lput2, ltail, lkill, aV, aVl, aNth, aPut, aFz, aC0, aC2, aSw, aCat1, aCuts, aSet_eq, List.take, List.drop, List.reverse_cons, List.reverse_nil, List.nil_append, List.cons_append, List.length_cons, List.length_nil, Option.toList, true_and, and_true, Nat.reduceAdd, Nat.reduceEqDiff, Nat.reduceLT, Nat.reduceLeDiff, Nat.zero_add, Nat.add_zero, if_true, if_false, ite_true, ite_false, reduceIte, reduceCtorEq, true_or, or_true, not_true_eq_false, not_false_eq_true, false_and, and_false, true_implies, false_implies, not_false_eq_true, bqX9_whole_0, blX9_whole_0, bqX9_whole_6, blX9_whole_6, bqX9_whole_10, blX9_whole_10, bqX9_whole_14, blX9_whole_14, bqX9_whole_37, blX9_whole_37, bqX9_whole_44, blX9_whole_44, bqX9_whole_50, blX9_whole_50, bqX9_whole_51, blX9_whole_51]
  have l0 := lim 0 (by decide)
  have l1 := lim 1 (by decide)
  have l2 := lim 2 (by decide)
  have l3 := lim 3 (by decide)
  rw [show (65536 : Nat) ^ 0 = 1 from rfl] at l0
  rw [show (65536 : Nat) ^ 1 = 65536 from rfl] at l1
  rw [show (65536 : Nat) ^ 2 = 4294967296 from rfl] at l2
  rw [show (65536 : Nat) ^ 3 = 281474976710656 from rfl] at l3
  have b0 := limb 0 (by decide)
  have b1 := limb 1 (by decide)
  have b2 := limb 2 (by decide)
  have b3 := limb 3 (by decide)
  have p3 : (65536 : Nat) ^ 3 = 281474976710656 := rfl
  refine step 3 0 (by decide) (by decide) ?_
  rw [iSub_nn (by decide), show 3 - 1 = 2 from rfl, Nat.zero_mul, Nat.zero_add]
  refine step 2 _ (by decide) (by omega) ?_
  rw [iSub_nn (by decide), show 2 - 1 = 1 from rfl]
  refine step 1 _ (by decide) (by omega) ?_
  rw [iSub_nn (by decide), show 1 - 1 = 0 from rfl]
  refine step 0 _ (by decide) (by omega) ?_
  refine last _ (by omega) ?_
  omega
set_option maxHeartbeats 4000000 in
theorem m_fromLong (h : mW Y ρ τ ex N O0 A0 O A) {z : Int} (hz1 : -2 ^ 63 ≤ z) (hz2 : z < 2 ^ 63) : aMet l G base tA yX9_fromLong cX9_fromLong 6 none rmM4 [.ref (Y 0), .long (lZ z)] O A (fun r O' A' => r = none ∧ oM Y τ ex N O0 A0 z 1 O' A') := by
  refine aMet_of (ini := false) (B := aLook bkX9_fromLong) (by decide) (fun h => by first | rfl | cases h) (Nat.le_of_ble_eq_true rfl) boX9_fromLong ?_
  intro E J hb
  obtain ⟨n, hn⟩ : ∃ n, n = z.natAbs := ⟨_, rfl⟩
  obtain ⟨s, hs⟩ : ∃ s, s = sBI (decide (z < 0)) := ⟨_, rfl⟩
  have h4 : (65536 : Nat) ^ 4 = 2 ^ 64 := by decide
  have hn64 : n < 2 ^ 64 := by omega
  have loop : ∀ (f i : Nat) (O1 : aO) (A1 : aA) (x1 : Option Value), 4 - i < f → i ≤ 4 → mW Y (rU ρ 4 (n % 65536 ^ i)) (tU τ 3 s) ex N O0 A0 O1 A1 → J 37 [some (.ref (Y 0)), x1, none, some (.long (lN n)), none, some (.int (nI i))] [] O1 A1 0 0 := by
    intro f
    induction f with
    | zero => intro i O1 A1 x1 hf; omega
    | succ f ih =>
      intro i O1 A1 x1 hf hi h1
      refine hb.run (aCuts [34, 37, 78] J) 60 37 _ _ _ _ _ _ (aCuts_ok _) ?_
      by_cases hlt : i < 4
      · have e1 : (nI 4 ≤ nI i) = False := by rw [nI_leP (by decide) (by omega)]; simp; omega
        have e2 : vp_in (nI (320 + i)) 880 := vp_in_nI (by omega) (by decide)
        obtain ⟨g, hg, hr⟩ := h1.row
        have g4 := hr 4 (by decide)
        rw [rU_eq] at g4
        have hd : n / 2 ^ (16 * i) = n / 65536 ^ i := by rw [Nat.pow_mul]
        have hdl : n / 65536 ^ i < 2 ^ 64 := Nat.lt_of_le_of_lt (Nat.div_le_self _ _) hn64
        simp only [↓wpi_isub, ↓wpi_lsub, ↓wpi_ineg, ↓wpi_lneg, ↓wpi_irem, ↓wpi_lrem, ↓wpi_iinc, wp1, wp, wpl, wpi, lget, lput1, lput2, ltail, lkill, aV, aVl, aNth, aPut, aFz, aC0, aC2, aSw, aCat1, aCuts, aSet_eq, List.take, List.drop, List.reverse_cons, List.reverse_nil, List.nil_append, List.cons_append, List.length_cons, List.length_nil, Option.toList, true_and, and_true, Nat.reduceAdd, Nat.reduceEqDiff, Nat.reduceLT, Nat.reduceLeDiff, Nat.zero_add, Nat.add_zero, if_true, if_false, ite_true, ite_false, reduceIte, reduceCtorEq, true_or, or_true, not_true_eq_false, not_false_eq_true, false_and, and_false, true_implies, false_implies, not_false_eq_true, bqX9_fromLong_0, blX9_fromLong_0, bqX9_fromLong_7, blX9_fromLong_7, bqX9_fromLong_11, blX9_fromLong_11, bqX9_fromLong_12, blX9_fromLong_12, bqX9_fromLong_21, blX9_fromLong_21, bqX9_fromLong_27, blX9_fromLong_27, bqX9_fromLong_28, blX9_fromLong_28, bqX9_fromLong_34, blX9_fromLong_34, bqX9_fromLong_37, blX9_fromLong_37, bqX9_fromLong_43, blX9_fromLong_43, bqX9_fromLong_72, blX9_fromLong_72, bqX9_fromLong_78, blX9_fromLong_78, e1, h1.obj, hg, nI_add, pk_mul, e2, nI_clamp (show 320 + i < 2 ^ 31 by omega), wb_shr hn64 (show 16 * i < 64 by omega), hd, wb_m16 hdl, lN_i, nF_upd, iInc_p]
        refine ih (i + 1) _ _ _ (by omega) (by omega) ?_
        have hz : rg g 4 i = 0 := by
          rw [← mV_limb (n := 80) (by omega) g4.1, g4.2, Nat.div_eq_of_lt (Nat.mod_lt _ (Nat.pow_pos (by decide)))]
        have hS := mrow_put (i := i) (c := n / 65536 ^ i % 65536) g4.1 g4.2 (by omega) hz (Nat.mod_lt _ (by decide))
        have := h1.set (by decide) hr hS
        rw [rU_rU] at this
        rw [Nat.pow_succ, Nat.mod_mul, Nat.mul_comm (65536 ^ i)]
        exact this
      · obtain rfl : i = 4 := by omega
        have e1 : (nI 4 ≤ nI 4) = True := by simp
        simp only [↓wpi_isub, ↓wpi_lsub, ↓wpi_ineg, ↓wpi_lneg, ↓wpi_irem, ↓wpi_lrem, ↓wpi_iinc, wp1, wp, wpl, wpi, lget, lput1, lput2, ltail, lkill, aV, aVl, aNth, aPut, aFz, aC0, aC2, aSw, aCat1, aCuts, aSet_eq, List.take, List.drop, List.reverse_cons, List.reverse_nil, List.nil_append, List.cons_append, List.length_cons, List.length_nil, Option.toList, true_and, and_true, Nat.reduceAdd, Nat.reduceEqDiff, Nat.reduceLT, Nat.reduceLeDiff, Nat.zero_add, Nat.add_zero, if_true, if_false, ite_true, ite_false, reduceIte, reduceCtorEq, true_or, or_true, not_true_eq_false, not_false_eq_true, false_and, and_false, true_implies, false_implies, not_false_eq_true, bqX9_fromLong_0, blX9_fromLong_0, bqX9_fromLong_7, blX9_fromLong_7, bqX9_fromLong_11, blX9_fromLong_11, bqX9_fromLong_12, blX9_fromLong_12, bqX9_fromLong_21, blX9_fromLong_21, bqX9_fromLong_27, blX9_fromLong_27, bqX9_fromLong_28, blX9_fromLong_28, bqX9_fromLong_34, blX9_fromLong_34, bqX9_fromLong_37, blX9_fromLong_37, bqX9_fromLong_43, blX9_fromLong_43, bqX9_fromLong_72, blX9_fromLong_72, bqX9_fromLong_78, blX9_fromLong_78, e1]
        refine ⟨_, _, _, _, hb.callV lvX9_85 (m_small h1 (x := 5) (v := 1) (by decide) (by decide)) rfl h1.obj (by decide) (by decide) (by decide), ?_, fun _ _ _ h => h.elim⟩
        rintro _ O2 A2 ⟨rfl, h2⟩
        refine hb.run (aCuts [34, 37, 78] J) 60 78 _ _ _ _ _ _ (aCuts_ok _) ?_
        simp only [↓wpi_isub, ↓wpi_lsub, ↓wpi_ineg, ↓wpi_lneg, ↓wpi_irem, ↓wpi_lrem, ↓wpi_iinc, wp1, wp, wpl, wpi, lget, lput1, lput2, ltail, lkill, aV, aVl, aNth, aPut, aFz, aC0, aC2, aSw, aCat1, aCuts, aSet_eq, List.take, List.drop, List.reverse_cons, List.reverse_nil, List.nil_append, List.cons_append, List.length_cons, List.length_nil, Option.toList, true_and, and_true, Nat.reduceAdd, Nat.reduceEqDiff, Nat.reduceLT, Nat.reduceLeDiff, Nat.zero_add, Nat.add_zero, if_true, if_false, ite_true, ite_false, reduceIte, reduceCtorEq, true_or, or_true, not_true_eq_false, not_false_eq_true, false_and, and_false, true_implies, false_implies, not_false_eq_true, bqX9_fromLong_0, blX9_fromLong_0, bqX9_fromLong_7, blX9_fromLong_7, bqX9_fromLong_11, blX9_fromLong_11, bqX9_fromLong_12, blX9_fromLong_12, bqX9_fromLong_21, blX9_fromLong_21, bqX9_fromLong_27, blX9_fromLong_27, bqX9_fromLong_28, blX9_fromLong_28, bqX9_fromLong_34, blX9_fromLong_34, bqX9_fromLong_37, blX9_fromLong_37, bqX9_fromLong_43, blX9_fromLong_43, bqX9_fromLong_72, blX9_fromLong_72, bqX9_fromLong_78, blX9_fromLong_78]
        refine hb.vret ⟨rfl, _, s, h2, ?_, rU_eq, fun _ => hs⟩ (by decide) (by decide)
        rw [rU_ne (by decide), rU_eq, h4, Nat.mod_eq_of_lt hn64, hn]
  have k34 : ∀ (O1 : aO) (A1 : aA) (x1 : Option Value), mW Y (rU ρ 4 0) (tU τ 3 s) ex N O0 A0 O1 A1 → J 34 [some (.ref (Y 0)), x1, none, some (.long (lN n)), none, none] [] O1 A1 0 0 := by
    intro O1 A1 x1 h1
    refine hb.run (aCuts [34, 37, 78] J) 60 34 _ _ _ _ _ _ (aCuts_ok _) ?_
    simp only [↓wpi_isub, ↓wpi_lsub, ↓wpi_ineg, ↓wpi_lneg, ↓wpi_irem, ↓wpi_lrem, ↓wpi_iinc, wp1, wp, wpl, wpi, lget, lput1, lput2, ltail, lkill, aV, aVl, aNth, aPut, aFz, aC0, aC2, aSw, aCat1, aCuts, aSet_eq, List.take, List.drop, List.reverse_cons, List.reverse_nil, List.nil_append, List.cons_append, List.length_cons, List.length_nil, Option.toList, true_and, and_true, Nat.reduceAdd, Nat.reduceEqDiff, Nat.reduceLT, Nat.reduceLeDiff, Nat.zero_add, Nat.add_zero, if_true, if_false, ite_true, ite_false, reduceIte, reduceCtorEq, true_or, or_true, not_true_eq_false, not_false_eq_true, false_and, and_false, true_implies, false_implies, not_false_eq_true, bqX9_fromLong_0, blX9_fromLong_0, bqX9_fromLong_7, blX9_fromLong_7, bqX9_fromLong_11, blX9_fromLong_11, bqX9_fromLong_12, blX9_fromLong_12, bqX9_fromLong_21, blX9_fromLong_21, bqX9_fromLong_27, blX9_fromLong_27, bqX9_fromLong_28, blX9_fromLong_28, bqX9_fromLong_34, blX9_fromLong_34, bqX9_fromLong_37, blX9_fromLong_37, bqX9_fromLong_43, blX9_fromLong_43, bqX9_fromLong_72, blX9_fromLong_72, bqX9_fromLong_78, blX9_fromLong_78]
    refine loop 5 0 _ _ _ (by omega) (by omega) ?_
    rw [Nat.pow_zero, Nat.mod_one]; exact h1
  have h1 := h.fld (tU τ 3 s) ex
  refine hb.run (aCuts [34, 37, 78] J) 60 0 _ _ _ _ _ _ (aCuts_ok _) ?_
  have cz := cmpZ_ge hz1 hz2 (show 0 < 2 ^ 63 by decide)
  by_cases hz : z < 0
  · have e1 : (0 ≤ lg_cmp (lZ z) (lN 0)) = False := by rw [cz]; simp; omega
    have es : s = -nI 1 := by rw [hs, decide_eq_true hz]; rfl
    have en : lSub (lN 0) (lZ z) = lN n := by
      rw [lN_Z, lSub_Z, lN_Z]; congr 1; omega
    rw [es] at h1
    simp only [↓wpi_isub, ↓wpi_lsub, ↓wpi_ineg, ↓wpi_lneg, ↓wpi_irem, ↓wpi_lrem, ↓wpi_iinc, wp1, wp, wpl, wpi, lget, lput1, lput2, ltail, lkill, aV, aVl, aNth, aPut, aFz, aC0, aC2, aSw, aCat1, aCuts, aSet_eq, List.take, List.drop, List.reverse_cons, List.reverse_nil, List.nil_append, List.cons_append, List.length_cons, List.length_nil, Option.toList, true_and, and_true, Nat.reduceAdd, Nat.reduceEqDiff, Nat.reduceLT, Nat.reduceLeDiff, Nat.zero_add, Nat.add_zero, if_true, if_false, ite_true, ite_false, reduceIte, reduceCtorEq, true_or, or_true, not_true_eq_false, not_false_eq_true, false_and, and_false, true_implies, false_implies, not_false_eq_true, bqX9_fromLong_0, blX9_fromLong_0, bqX9_fromLong_7, blX9_fromLong_7, bqX9_fromLong_11, blX9_fromLong_11, bqX9_fromLong_12, blX9_fromLong_12, bqX9_fromLong_21, blX9_fromLong_21, bqX9_fromLong_27, blX9_fromLong_27, bqX9_fromLong_28, blX9_fromLong_28, bqX9_fromLong_34, blX9_fromLong_34, bqX9_fromLong_37, blX9_fromLong_37, bqX9_fromLong_43, blX9_fromLong_43, bqX9_fromLong_72, blX9_fromLong_72, bqX9_fromLong_78, blX9_fromLong_78, aArgs, List.replicate, e1, h.obj, en]
    refine ⟨_, _, _, _, hb.callV lvX9_36 (m_clear h1 (x := 4) (by decide)) rfl h1.obj (by decide) (by decide) (by decide), ?_, fun _ _ _ h => h.elim⟩
    rintro _ O2 A2 ⟨rfl, h2⟩
    rw [← es] at h2
    exact k34 _ _ _ h2
  · have e1 : (0 ≤ lg_cmp (lZ z) (lN 0)) = True := by rw [cz]; simp; omega
    have es : s = nI 1 := by rw [hs, decide_eq_false hz]; rfl
    have en : lZ z = lN n := by rw [lN_Z]; congr 1; omega
    rw [es] at h1
    simp only [↓wpi_isub, ↓wpi_lsub, ↓wpi_ineg, ↓wpi_lneg, ↓wpi_irem, ↓wpi_lrem, ↓wpi_iinc, wp1, wp, wpl, wpi, lget, lput1, lput2, ltail, lkill, aV, aVl, aNth, aPut, aFz, aC0, aC2, aSw, aCat1, aCuts, aSet_eq, List.take, List.drop, List.reverse_cons, List.reverse_nil, List.nil_append, List.cons_append, List.length_cons, List.length_nil, Option.toList, true_and, and_true, Nat.reduceAdd, Nat.reduceEqDiff, Nat.reduceLT, Nat.reduceLeDiff, Nat.zero_add, Nat.add_zero, if_true, if_false, ite_true, ite_false, reduceIte, reduceCtorEq, true_or, or_true, not_true_eq_false, not_false_eq_true, false_and, and_false, true_implies, false_implies, not_false_eq_true, bqX9_fromLong_0, blX9_fromLong_0, bqX9_fromLong_7, blX9_fromLong_7, bqX9_fromLong_11, blX9_fromLong_11, bqX9_fromLong_12, blX9_fromLong_12, bqX9_fromLong_21, blX9_fromLong_21, bqX9_fromLong_27, blX9_fromLong_27, bqX9_fromLong_28, blX9_fromLong_28, bqX9_fromLong_34, blX9_fromLong_34, bqX9_fromLong_37, blX9_fromLong_37, bqX9_fromLong_43, blX9_fromLong_43, bqX9_fromLong_72, blX9_fromLong_72, bqX9_fromLong_78, blX9_fromLong_78, aArgs, List.replicate, e1, h.obj]
    rw [en]
    refine ⟨_, _, _, _, hb.callV lvX9_36 (m_clear h1 (x := 4) (by decide)) rfl h1.obj (by decide) (by decide) (by decide), ?_, fun _ _ _ h => h.elim⟩
    rintro _ O2 A2 ⟨rfl, h2⟩
    rw [← es] at h2
    exact k34 _ _ _ h2
end MA4
