/-! ===== the law: its loop ===== -/
theorem iInc_5 (n : Nat) : iInc (nI n) 5 = nI (n + 5) := by
  rw [iInc_eq, show Int32.ofInt 5 = nI 5 from rfl, nI_add]
theorem lt5 {L n : Nat} (hL : L ≤ 2560) (hn : n ≤ 2560) : (iSub (nI L) (nI 5) < nI n) = (L < n + 5) := by
  rw [iZ_n L, iZ_n 5, iZ_n n, iSub_Z, eq_iff_iff, Int32.lt_iff_toInt_lt, iZ_toInt (by omega) (by omega), iZ_toInt (by omega) (by omega)]
  omega
section LAW
variable {l : Launch} {G : aG} {base tA S B X M L : Nat} {xs : Nat → Int32} {E : aE} {J : aK0}
set_option maxRecDepth 4000 in
set_option maxHeartbeats 8000000 in
theorem lw_step (hsT : l.stackTraces = false) (hb : aBodyL l G base tA E J) (hL : L ≤ 2560) {jj nc ns : Nat} {x5 x6 : Option Value} {O : aO} {A : aA} (hk : 5 * jj + 5 ≤ L) (hnc : nc + 4 ≤ 601024) (hns : ns + 69 ≤ 7293033) (h : lI tA S B X M L xs O A) (next : ∀ (x5 x6 : Option Value) (O1 : aO) (A1 : aA), lI tA S B X M L xs O1 A1 → J 845 [some (.ref S), some (.ref X), some (.ref M), some (.ref B), some (.int (nI (5 * jj))), x5, x6] [] O1 A1 (nc + 4) (ns + 69)) (next0 : ∀ (x5 x6 : Option Value), J 845 [some (.ref S), some (.ref X), some (.ref M), some (.ref B), some (.int (nI (5 * jj))), x5, x6] [] O A nc ns) : J 32 [some (.ref S), some (.ref X), some (.ref M), some (.ref B), some (.int (nI (5 * jj))), x5, x6] [] O A nc ns := by
  obtain ⟨Z, Y, N, t, h⟩ := h
  obtain ⟨-, -, -, -, ⟨tS, ys, hS1, hS, hys⟩, -⟩ := id h
  have s1 : (tS = 0 ∨ 4 ≤ tS) = True := by simp [hS1]
  have v0 : vp_in (nI (5 * jj)) L := vp_in_nI (by omega) (by omega)
  have c0 := nI_clamp (show 5 * jj < 2 ^ 31 by omega)
  obtain ⟨n, hn, e⟩ := i32_of (ys (5 * jj))
  have ea := and15 hn
  refine hb.1.run (aCuts [96, 176, 238, 306, 362, 454, 522, 585, 653, 721, 789, 845] J) 60 32 _ _ _ _ _ _ (aCuts_ok _) ?_
  obtain ⟨m, hm⟩ : ∃ m, m = n % 16 := ⟨_, rfl⟩
  have hm16 : m < 16 := by omega
  rw [← hm] at ea
  simp only [↓wpi_isub, ↓wpi_lsub, ↓wpi_ineg, ↓wpi_lneg, ↓wpi_irem, ↓wpi_lrem, ↓wpi_iinc, wp1, wp, wpl, wpi, lget, lput1, lput2, ltail, lkill, aV, aVl, aNth, aPut, aFz, aC0, aC2, aSw, aCat1, aCuts, aSet_eq, List.take, List.drop, List.reverse_cons, List.reverse_nil, List.nil_append, List.cons_append, List.length_cons, List.length_nil, Option.toList, true_and, and_true, Nat.reduceAdd, Nat.reduceEqDiff, Nat.reduceLT, Nat.reduceLeDiff, Nat.zero_add, Nat.add_zero, if_true, if_false, ite_true, ite_false, reduceIte, reduceCtorEq, true_or, or_true, not_true_eq_false, not_false_eq_true, false_and, and_false, true_implies, false_implies, not_false_eq_true, bqL_law_32, blL_law_32, hS, s1, v0, c0, e, ea]
  obtain rfl | rfl | rfl | rfl | rfl | rfl | rfl | rfl | rfl | rfl | rfl | rfl | rfl | rfl | rfl | rfl : m = 0 ∨ m = 1 ∨ m = 2 ∨ m = 3 ∨ m = 4 ∨ m = 5 ∨ m = 6 ∨ m = 7 ∨ m = 8 ∨ m = 9 ∨ m = 10 ∨ m = 11 ∨ m = 12 ∨ m = 13 ∨ m = 14 ∨ m = 15 := by omega
  · simp only [aSw, aCuts, nI_cc, nI_tI, Int.ofNat_lt, Int.ofNat_le, or_self, Nat.reduceLT, Nat.reduceLeDiff, Nat.reduceEqDiff, Nat.reduceAdd, if_true, if_false, ite_true, ite_false, reduceIte, true_and, and_true, false_or, or_false, true_implies, false_implies, not_true_eq_false, not_false_eq_true, or_true, true_or]
    exact st_number hsT hb hk hL hnc hns h next
  · simp only [aSw, aCuts, nI_cc, nI_tI, Int.ofNat_lt, Int.ofNat_le, or_self, Nat.reduceLT, Nat.reduceLeDiff, Nat.reduceEqDiff, Nat.reduceAdd, if_true, if_false, ite_true, ite_false, reduceIte, true_and, and_true, false_or, or_false, true_implies, false_implies, not_true_eq_false, not_false_eq_true, or_true, true_or]
    exact st_octet hsT hb hk hL hnc hns h next
  · simp only [aSw, aCuts, nI_cc, nI_tI, Int.ofNat_lt, Int.ofNat_le, or_self, Nat.reduceLT, Nat.reduceLeDiff, Nat.reduceEqDiff, Nat.reduceAdd, if_true, if_false, ite_true, ite_false, reduceIte, true_and, and_true, false_or, or_false, true_implies, false_implies, not_true_eq_false, not_false_eq_true, or_true, true_or]
    exact st_at hsT hb hk hL hnc hns h next
  · simp only [aSw, aCuts, nI_cc, nI_tI, Int.ofNat_lt, Int.ofNat_le, or_self, Nat.reduceLT, Nat.reduceLeDiff, Nat.reduceEqDiff, Nat.reduceAdd, if_true, if_false, ite_true, ite_false, reduceIte, true_and, and_true, false_or, or_false, true_implies, false_implies, not_true_eq_false, not_false_eq_true, or_true, true_or]
    exact st_size hsT hb hk hL hnc hns h next
  · simp only [aSw, aCuts, nI_cc, nI_tI, Int.ofNat_lt, Int.ofNat_le, or_self, Nat.reduceLT, Nat.reduceLeDiff, Nat.reduceEqDiff, Nat.reduceAdd, if_true, if_false, ite_true, ite_false, reduceIte, true_and, and_true, false_or, or_false, true_implies, false_implies, not_true_eq_false, not_false_eq_true, or_true, true_or]
    exact st_apply hsT hb hk hL hnc hns h next
  · simp only [aSw, aCuts, nI_cc, nI_tI, Int.ofNat_lt, Int.ofNat_le, or_self, Nat.reduceLT, Nat.reduceLeDiff, Nat.reduceEqDiff, Nat.reduceAdd, if_true, if_false, ite_true, ite_false, reduceIte, true_and, and_true, false_or, or_false, true_implies, false_implies, not_true_eq_false, not_false_eq_true, or_true, true_or]
    exact st_compare hsT hb hk hL hnc hns h next
  · simp only [aSw, aCuts, nI_cc, nI_tI, Int.ofNat_lt, Int.ofNat_le, or_self, Nat.reduceLT, Nat.reduceLeDiff, Nat.reduceEqDiff, Nat.reduceAdd, if_true, if_false, ite_true, ite_false, reduceIte, true_and, and_true, false_or, or_false, true_implies, false_implies, not_true_eq_false, not_false_eq_true, or_true, true_or]
    exact st_valid hsT hb hk hL hnc hns h next
  · simp only [aSw, aCuts, nI_cc, nI_tI, Int.ofNat_lt, Int.ofNat_le, or_self, Nat.reduceLT, Nat.reduceLeDiff, Nat.reduceEqDiff, Nat.reduceAdd, if_true, if_false, ite_true, ite_false, reduceIte, true_and, and_true, false_or, or_false, true_implies, false_implies, not_true_eq_false, not_false_eq_true, or_true, true_or]
    exact st_convert hsT hb hk hL hnc hns h next
  · simp only [aSw, aCuts, nI_cc, nI_tI, Int.ofNat_lt, Int.ofNat_le, or_self, Nat.reduceLT, Nat.reduceLeDiff, Nat.reduceEqDiff, Nat.reduceAdd, if_true, if_false, ite_true, ite_false, reduceIte, true_and, and_true, false_or, or_false, true_implies, false_implies, not_true_eq_false, not_false_eq_true, or_true, true_or]
    exact st_digit hsT hb hk hL hnc hns h next
  · simp only [aSw, aCuts, nI_cc, nI_tI, Int.ofNat_lt, Int.ofNat_le, or_self, Nat.reduceLT, Nat.reduceLeDiff, Nat.reduceEqDiff, Nat.reduceAdd, if_true, if_false, ite_true, ite_false, reduceIte, true_and, and_true, false_or, or_false, true_implies, false_implies, not_true_eq_false, not_false_eq_true, or_true, true_or]
    exact st_round hsT hb hk hL hnc hns h next
  · simp only [aSw, aCuts, nI_cc, nI_tI, Int.ofNat_lt, Int.ofNat_le, or_self, Nat.reduceLT, Nat.reduceLeDiff, Nat.reduceEqDiff, Nat.reduceAdd, if_true, if_false, ite_true, ite_false, reduceIte, true_and, and_true, false_or, or_false, true_implies, false_implies, not_true_eq_false, not_false_eq_true, or_true, true_or]
    exact st_half hsT hb hk hL hnc hns h next
  · simp only [aSw, aCuts, nI_cc, nI_tI, Int.ofNat_lt, Int.ofNat_le, or_self, Nat.reduceLT, Nat.reduceLeDiff, Nat.reduceEqDiff, Nat.reduceAdd, if_true, if_false, ite_true, ite_false, reduceIte, true_and, and_true, false_or, or_false, true_implies, false_implies, not_true_eq_false, not_false_eq_true, or_true, true_or]
    exact next0 _ _
  · simp only [aSw, aCuts, nI_cc, nI_tI, Int.ofNat_lt, Int.ofNat_le, or_self, Nat.reduceLT, Nat.reduceLeDiff, Nat.reduceEqDiff, Nat.reduceAdd, if_true, if_false, ite_true, ite_false, reduceIte, true_and, and_true, false_or, or_false, true_implies, false_implies, not_true_eq_false, not_false_eq_true, or_true, true_or]
    exact next0 _ _
  · simp only [aSw, aCuts, nI_cc, nI_tI, Int.ofNat_lt, Int.ofNat_le, or_self, Nat.reduceLT, Nat.reduceLeDiff, Nat.reduceEqDiff, Nat.reduceAdd, if_true, if_false, ite_true, ite_false, reduceIte, true_and, and_true, false_or, or_false, true_implies, false_implies, not_true_eq_false, not_false_eq_true, or_true, true_or]
    exact next0 _ _
  · simp only [aSw, aCuts, nI_cc, nI_tI, Int.ofNat_lt, Int.ofNat_le, or_self, Nat.reduceLT, Nat.reduceLeDiff, Nat.reduceEqDiff, Nat.reduceAdd, if_true, if_false, ite_true, ite_false, reduceIte, true_and, and_true, false_or, or_false, true_implies, false_implies, not_true_eq_false, not_false_eq_true, or_true, true_or]
    exact next0 _ _
  · simp only [aSw, aCuts, nI_cc, nI_tI, Int.ofNat_lt, Int.ofNat_le, or_self, Nat.reduceLT, Nat.reduceLeDiff, Nat.reduceEqDiff, Nat.reduceAdd, if_true, if_false, ite_true, ite_false, reduceIte, true_and, and_true, false_or, or_false, true_implies, false_implies, not_true_eq_false, not_false_eq_true, or_true, true_or]
    exact next0 _ _
set_option maxRecDepth 4000 in
set_option maxHeartbeats 4000000 in
theorem lw_loop (hsT : l.stackTraces = false) (hb : aBodyL l G base tA E J) (hL : L ≤ 2560) : ∀ (f jj nc ns : Nat) (x5 x6 : Option Value) (O : aO) (A : aA), 513 - jj < f → jj ≤ 512 → nc ≤ 1000 + 4 * jj → ns ≤ 10000 + 69 * jj → lI tA S B X M L xs O A → J 23 [some (.ref S), some (.ref X), some (.ref M), some (.ref B), some (.int (nI (5 * jj))), x5, x6] [] O A nc ns := by
  intro f
  induction f with
  | zero => intro jj nc ns x5 x6 O A hf; omega
  | succ f ih =>
    intro jj nc ns x5 x6 O A hf hj hnc hns h
    obtain ⟨Z, Y, N, t, hJ⟩ := id h
    obtain ⟨-, -, -, -, ⟨tS, ys, hS1, hS, hys⟩, -⟩ := hJ
    refine hb.1.run (aCuts [32, 851] J) 60 23 _ _ _ _ _ _ (aCuts_ok _) ?_
    by_cases hlt : L < 5 * jj + 5
    · have e1 : (iSub (nI L) (nI 5) < nI (5 * jj)) = True := by rw [lt5 hL (by omega)]; simp [hlt]
      simp only [↓wpi_isub, ↓wpi_lsub, ↓wpi_ineg, ↓wpi_lneg, ↓wpi_irem, ↓wpi_lrem, ↓wpi_iinc, wp1, wp, wpl, wpi, lget, lput1, lput2, ltail, lkill, aV, aVl, aNth, aPut, aFz, aC0, aC2, aSw, aCat1, aCuts, aSet_eq, List.take, List.drop, List.reverse_cons, List.reverse_nil, List.nil_append, List.cons_append, List.length_cons, List.length_nil, Option.toList, true_and, and_true, Nat.reduceAdd, Nat.reduceEqDiff, Nat.reduceLT, Nat.reduceLeDiff, Nat.zero_add, Nat.add_zero, if_true, if_false, ite_true, ite_false, reduceIte, reduceCtorEq, true_or, or_true, not_true_eq_false, not_false_eq_true, false_and, and_false, true_implies, false_implies, not_false_eq_true, bqL_law_23, blL_law_23, hS, e1]
      refine hb.1.run (aCuts [] J) 60 851 _ _ _ _ _ _ (aCuts_ok _) ?_
      simp only [↓wpi_isub, ↓wpi_lsub, ↓wpi_ineg, ↓wpi_lneg, ↓wpi_irem, ↓wpi_lrem, ↓wpi_iinc, wp1, wp, wpl, wpi, lget, lput1, lput2, ltail, lkill, aV, aVl, aNth, aPut, aFz, aC0, aC2, aSw, aCat1, aCuts, aSet_eq, List.take, List.drop, List.reverse_cons, List.reverse_nil, List.nil_append, List.cons_append, List.length_cons, List.length_nil, Option.toList, true_and, and_true, Nat.reduceAdd, Nat.reduceEqDiff, Nat.reduceLT, Nat.reduceLeDiff, Nat.zero_add, Nat.add_zero, if_true, if_false, ite_true, ite_false, reduceIte, reduceCtorEq, true_or, or_true, not_true_eq_false, not_false_eq_true, false_and, and_false, true_implies, false_implies, not_false_eq_true, bqL_law_851, blL_law_851]
      exact hb.1.iret nar_b1 rfl (show nc ≤ 601024 by omega) (show ns ≤ 7293033 by omega)
    · have e1 : (iSub (nI L) (nI 5) < nI (5 * jj)) = False := by rw [lt5 hL (by omega)]; simp [hlt]
      simp only [↓wpi_isub, ↓wpi_lsub, ↓wpi_ineg, ↓wpi_lneg, ↓wpi_irem, ↓wpi_lrem, ↓wpi_iinc, wp1, wp, wpl, wpi, lget, lput1, lput2, ltail, lkill, aV, aVl, aNth, aPut, aFz, aC0, aC2, aSw, aCat1, aCuts, aSet_eq, List.take, List.drop, List.reverse_cons, List.reverse_nil, List.nil_append, List.cons_append, List.length_cons, List.length_nil, Option.toList, true_and, and_true, Nat.reduceAdd, Nat.reduceEqDiff, Nat.reduceLT, Nat.reduceLeDiff, Nat.zero_add, Nat.add_zero, if_true, if_false, ite_true, ite_false, reduceIte, reduceCtorEq, true_or, or_true, not_true_eq_false, not_false_eq_true, false_and, and_false, true_implies, false_implies, not_false_eq_true, bqL_law_23, blL_law_23, hS, e1]
      have nx : ∀ (x5 x6 : Option Value) (O1 : aO) (A1 : aA) (nc1 ns1 : Nat), nc1 ≤ nc + 4 → ns1 ≤ ns + 69 → lI tA S B X M L xs O1 A1 → J 845 [some (.ref S), some (.ref X), some (.ref M), some (.ref B), some (.int (nI (5 * jj))), x5, x6] [] O1 A1 nc1 ns1 := by
        intro x5 x6 O1 A1 nc1 ns1 h1 h2 hi
        refine hb.1.run (aCuts [23] J) 60 845 _ _ _ _ _ _ (aCuts_ok _) ?_
        simp only [↓wpi_isub, ↓wpi_lsub, ↓wpi_ineg, ↓wpi_lneg, ↓wpi_irem, ↓wpi_lrem, ↓wpi_iinc, wp1, wp, wpl, wpi, lget, lput1, lput2, ltail, lkill, aV, aVl, aNth, aPut, aFz, aC0, aC2, aSw, aCat1, aCuts, aSet_eq, List.take, List.drop, List.reverse_cons, List.reverse_nil, List.nil_append, List.cons_append, List.length_cons, List.length_nil, Option.toList, true_and, and_true, Nat.reduceAdd, Nat.reduceEqDiff, Nat.reduceLT, Nat.reduceLeDiff, Nat.zero_add, Nat.add_zero, if_true, if_false, ite_true, ite_false, reduceIte, reduceCtorEq, true_or, or_true, not_true_eq_false, not_false_eq_true, false_and, and_false, true_implies, false_implies, not_false_eq_true, bqL_law_845, blL_law_845, iInc_5]
        exact ih (jj + 1) nc1 ns1 _ _ O1 A1 (by omega) (by omega) (by omega) (by omega) hi
      exact lw_step hsT hb hL (by omega) (by omega) (by omega) h (fun x5 x6 O1 A1 hi => nx x5 x6 O1 A1 _ _ (Nat.le_refl _) (Nat.le_refl _) hi) (fun x5 x6 => nx x5 x6 O A nc ns (by omega) (by omega) h)
end LAW
/-! ===== the law: its start ===== -/
theorem cW.cg {tA : Nat} {Z Z1 ρ : Nat → Nat} {sg : Nat → Bool} {N : aN} {O0 O : aO} {A0 A : aA} (h : cW tA Z ρ sg N O0 A0 O A) (hz : ∀ i, i < zN N → Z1 i = Z i) : cW tA Z1 ρ sg N O0 A0 O A := by
  have z : zN N = 40 + 2 * N 0 0 := rfl
  refine ⟨h.1, fun i j hi hj e => ?_, fun i hi => ?_, fun f hf => ?_, ⟨?_, ?_, ?_, ?_, ?_⟩, fun k hk => ⟨?_, ?_⟩, ?_, h.tens, fun x hx => h.frm x fun i hi => by rw [← hz i hi]; exact hx i hi⟩
  · rw [hz i hi, hz j hj] at e; exact h.2.1 i j hi hj e
  · rw [hz i (by omega), hz (15 + i) (by omega)]; exact h.reg hi
  · rw [hz (30 + f) (by omega), hz (2 * f) (by omega), hz (2 * f + 1) (by omega)]; exact h.frac hf
  · rw [hz 33 (by omega), hz 6 (by omega)]; exact h.rdr
  · rw [hz 34 (by omega), hz 7 (by omega), hz 8 (by omega), hz 9 (by omega), hz 10 (by omega)]; exact h.ari
  · rw [hz 35 (by omega), hz 36 (by omega), hz 11 (by omega), hz 12 (by omega), hz 13 (by omega), hz 14 (by omega)]; exact h.sto
  · rw [hz 36 (by omega)]; exact h.wri
  · rw [hz 37 (by omega), hz 38 (by omega), hz 33 (by omega), hz 34 (by omega), hz 35 (by omega), hz 30 (by omega), hz 31 (by omega), hz 32 (by omega)]; exact h.obj
  · rw [hz (40 + 2 * k) (by omega), hz (41 + 2 * k) (by omega)]; exact h.num hk
  · rw [hz (41 + 2 * k) (by omega)]; exact h.byt hk
  · have e : nmF Z1 N = nmF Z N := by
      funext k
      unfold nmF
      split
      · rename_i hk; rw [hz (40 + 2 * k) (by omega)]
      · rfl
    rw [hz 38 (by omega), e]; exact h.arr
theorem cW.us {tA : Nat} {Z ρ : Nat → Nat} {sg : Nat → Bool} {N : aN} {O0 O : aO} {A0 A : aA} (h : cW tA Z ρ sg N O0 A0 O A) (h39 : Z 39 = tA) {i : Nat} (hi : i < 40) : usd O A (Z i) := by
  by_cases h1 : i < 15
  · obtain ⟨g, u, -, q, -⟩ := h.reg h1
    exact Or.inl (by rw [q]; simp)
  · by_cases h2 : i < 30
    · obtain ⟨j, rfl⟩ : ∃ j, i = 15 + j := ⟨i - 15, by omega⟩
      obtain ⟨g, u, -, -, q⟩ := h.reg (i := j) (by omega)
      exact Or.inr (by rw [q]; simp)
    · by_cases h3 : i < 33
      · obtain ⟨f, rfl⟩ : ∃ f, i = 30 + f := ⟨i - 30, by omega⟩
        exact Or.inl (by rw [h.frac (by omega)]; simp)
      · obtain rfl | rfl | rfl | rfl | rfl | rfl | rfl : i = 33 ∨ i = 34 ∨ i = 35 ∨ i = 36 ∨ i = 37 ∨ i = 38 ∨ i = 39 := by omega
        · exact Or.inl (by rw [h.rdr]; simp)
        · exact Or.inl (by rw [h.ari]; simp)
        · exact Or.inl (by rw [h.sto]; simp)
        · exact Or.inl (by rw [h.wri]; simp)
        · exact Or.inl (by rw [h.obj]; simp)
        · exact Or.inr (by rw [h.arr]; simp)
        · obtain ⟨tf, q, -⟩ := h.tens
          exact Or.inr (by rw [h39, q]; simp)
section LAW2
variable {l : Launch} {G : aG} {base tA S L : Nat} {xs tf : Nat → Int32} {tS : Nat} {E : aE} {J : aK0} {O : aO} {A : aA}
set_option maxRecDepth 4000 in
set_option maxHeartbeats 8000000 in
theorem lw_body (hsT : l.stackTraces = false) (hb : aBodyL l G base tA E J) (hL : L ≤ 2560) (ht : A tA = some (4, 10, .inl tf)) (htf : ∀ k, k < 10 → tf k = nI (10 ^ k)) (hS1 : tS = 0 ∨ 4 ≤ tS) (hS : A S = some (tS, L, .inl xs)) : J 0 (aArgs [.ref S] 7) [] O A 0 0 := by
  have rc : eRc E = 601024 := hb.1.rc
  have rs : eRs E = 7293033 := hb.1.rs
  refine hb.1.run (aCuts [7] J) 60 0 _ _ _ _ _ _ (aCuts_ok _) ?_
  simp only [↓wpi_isub, ↓wpi_lsub, ↓wpi_ineg, ↓wpi_lneg, ↓wpi_irem, ↓wpi_lrem, ↓wpi_iinc, wp1, wp, wpl, wpi, lget, lput1, lput2, ltail, lkill, aV, aVl, aNth, aPut, aFz, aC0, aC2, aSw, aCat1, aCuts, aSet_eq, List.take, List.drop, List.reverse_cons, List.reverse_nil, List.nil_append, List.cons_append, List.length_cons, List.length_nil, Option.toList, true_and, and_true, Nat.reduceAdd, Nat.reduceEqDiff, Nat.reduceLT, Nat.reduceLeDiff, Nat.zero_add, Nat.add_zero, if_true, if_false, ite_true, ite_false, reduceIte, reduceCtorEq, true_or, or_true, not_true_eq_false, not_false_eq_true, false_and, and_false, true_implies, false_implies, not_false_eq_true, bqL_law_0, blL_law_0, aArgs, List.replicate, rc, rs, aBl]
  intro q f1 f2
  have hta : tA ≠ q := by have := f2 tA (by rw [ht]; simp); omega
  have hSq : S < q := f2 S (by rw [hS]; simp)
  refine ⟨_, _, _, _, hb.1.callI liL_56 (ct_X8_init (a := q) ht htf hta) rfl (by decide) (by decide) (by decide), ?_, fun _ _ _ h => h.elim⟩
  rintro _ O1 A1 ⟨rfl, Z0, z37, z39, zf, hc0⟩
  obtain ⟨Z, hZ⟩ : ∃ Z : Nat → Nat, Z = fun i => if i < 40 then Z0 i else Z0 0 := ⟨_, rfl⟩
  have zi : ∀ i, i < 40 → Z i = Z0 i := fun i hi => by rw [hZ]; exact if_pos hi
  have zr : ∀ i, ∃ i', i' < 40 ∧ (i ≠ 39 → i' ≠ 39) ∧ Z i = Z i' := fun i => by
    by_cases hi : i < 40
    · exact ⟨i, hi, fun q => q, rfl⟩
    · exact ⟨0, by decide, fun _ => by decide, by rw [hZ]; simp [hi]⟩
  have hc := hc0.cg (Z1 := Z) zi
  rw [← zi 37 (by decide)] at z37
  rw [← zi 39 (by decide)] at z39
  have uS0 : usd (aSet O q (9, [.null, .int 0, .null, .null, .null, .null, .null, .null])) A S := Or.inr (by rw [hS]; simp)
  have zS : ∀ i, i ≠ 39 → Z i ≠ S := fun i hi => by
    obtain ⟨i', h1, h2, h3⟩ := zr i
    rw [h3]
    by_cases h37 : i' = 37
    · rw [h37, z37]; omega
    · rw [zi i' h1]
      have := zf i' h1 h37 (h2 hi) S uS0
      omega
  have zu : ∀ i, usd O1 A1 (Z i) := fun i => by
    obtain ⟨i', h1, h2, h3⟩ := zr i
    rw [h3]; exact hc.us z39 h1
  have hSA1 : ∃ t1 ys, (t1 = 0 ∨ 4 ≤ t1) ∧ A1 S = some (t1, L, .inl ys) ∧ ∀ j, j < L → ys j = xs j := by
    by_cases hq : S = tA
    · obtain ⟨tf1, q1, q2⟩ := hc.tens
      rw [hq, ht] at hS
      simp only [Option.some.injEq, Prod.mk.injEq, Sum.inl.injEq] at hS
      obtain ⟨r1, r2, r3⟩ := hS
      refine ⟨4, tf1, Or.inr (by decide), by rw [hq, q1, ← r2], fun j hj => ?_⟩
      rw [← r3, q2 j (by omega), htf j (by omega)]
    · have fS := hc.frm S (fun i _ => by
        by_cases hi : i = 39
        · rw [hi, z39]; exact fun e => hq e.symm
        · exact zS i hi)
      exact ⟨tS, xs, hS1, by rw [fS.2]; exact hS, fun j _ => rfl⟩
  obtain ⟨t1, ys, hS1', hS', hys⟩ := hSA1
  refine hb.1.run (aCuts [15] J) 60 7 _ _ _ _ _ _ (aCuts_ok _) ?_
  simp only [↓wpi_isub, ↓wpi_lsub, ↓wpi_ineg, ↓wpi_lneg, ↓wpi_irem, ↓wpi_lrem, ↓wpi_iinc, wp1, wp, wpl, wpi, lget, lput1, lput2, ltail, lkill, aV, aVl, aNth, aPut, aFz, aC0, aC2, aSw, aCat1, aCuts, aSet_eq, List.take, List.drop, List.reverse_cons, List.reverse_nil, List.nil_append, List.cons_append, List.length_cons, List.length_nil, Option.toList, true_and, and_true, Nat.reduceAdd, Nat.reduceEqDiff, Nat.reduceLT, Nat.reduceLeDiff, Nat.zero_add, Nat.add_zero, if_true, if_false, ite_true, ite_false, reduceIte, reduceCtorEq, true_or, or_true, not_true_eq_false, not_false_eq_true, false_and, and_false, true_implies, false_implies, not_false_eq_true, bqL_law_7, blL_law_7, rc, rs, aBl]
  intro p g1 g2
  have up : ∀ x, usd O1 A1 x → x < p := fun x hx => hx.elim (g1 x) (g2 x)
  refine ⟨_, _, _, _, hb.1.callI liL_59 (ct_X9_init (a := p)) rfl (by decide) (by decide) (by decide), ?_, fun _ _ _ h => h.elim⟩
  rintro _ O2 A2 ⟨rfl, Y, y0, yf, hm⟩
  have uY : ∀ j, j < 8 → ∀ x, usd O1 A1 x → x < Y j := fun j hj x hx => by
    by_cases h0 : j = 0
    · rw [h0, y0]; exact up x hx
    · refine yf j hj h0 x ?_
      by_cases e : x = p
      · rw [e]; exact Or.inl (by rw [aSet_eq]; simp)
      · unfold usd at hx ⊢; rw [aSet_ne e]; exact hx
  refine hb.1.run (aCuts [23] J) 60 15 _ _ _ _ _ _ (aCuts_ok _) ?_
  simp only [↓wpi_isub, ↓wpi_lsub, ↓wpi_ineg, ↓wpi_lneg, ↓wpi_irem, ↓wpi_lrem, ↓wpi_iinc, wp1, wp, wpl, wpi, lget, lput1, lput2, ltail, lkill, aV, aVl, aNth, aPut, aFz, aC0, aC2, aSw, aCat1, aCuts, aSet_eq, List.take, List.drop, List.reverse_cons, List.reverse_nil, List.nil_append, List.cons_append, List.length_cons, List.length_nil, Option.toList, true_and, and_true, Nat.reduceAdd, Nat.reduceEqDiff, Nat.reduceLT, Nat.reduceLeDiff, Nat.zero_add, Nat.add_zero, if_true, if_false, ite_true, ite_false, reduceIte, reduceCtorEq, true_or, or_true, not_true_eq_false, not_false_eq_true, false_and, and_false, true_implies, false_implies, not_false_eq_true, bqL_law_15, blL_law_15, rc, rs]
  refine ⟨1, rfl, by decide, by decide, ?_⟩
  intro b h1 h2
  have hmX : mX Y (fun _ _ => 0) (nI 0) O1 A1 O2 A2 := ⟨_, fun _ => nI 0, _, rfl, hm⟩
  have ub : ∀ x, usd O2 A2 x → x < b := fun x hx => hx.elim (h1 x) (h2 x)
  have yb : ∀ j, j < 8 → Y j < b := fun j hj => ub _ (hmX.usd hj)
  have zY : ∀ i j, j < 8 → Z i ≠ Y j := fun i j hj => by have := uY j hj (Z i) (zu i); omega
  have zb : ∀ i, Z i ≠ b := fun i => by
    have h3 := uY 0 (by decide) (Z i) (zu i)
    have h4 := yb 0 (by decide)
    omega
  have uS1 : usd O1 A1 S := Or.inr (by rw [hS']; simp)
  have yS : ∀ j, j < 8 → S < Y j := fun j hj => uY j hj S uS1
  have hbS : S < b := by have := yS 0 (by decide); have := yb 0 (by decide); omega
  have fZ : ∀ i, O2 (Z i) = O1 (Z i) ∧ A2 (Z i) = A1 (Z i) := fun i => hm.frm (Z i) (fun j hj => Ne.symm (zY i j hj))
  have fS := hm.frm S (fun j hj => by have := yS j hj; omega)
  have key : ∀ (A3 : aA), A3 = aSet A2 b (2, 1, .inr (.inl fun _ => 0)) → lI tA S b q p L xs O2 A3 := by
    intro A3 hA3
    refine ⟨Z, Y, fun _ _ => 0, nI 0, ⟨z37, z39, y0⟩, ⟨_, _, hc.mv (O' := O2) (A' := A3) (fun i _ => ⟨(fZ i).1, by rw [hA3, aSet_ne (zb i)]; exact (fZ i).2⟩) ?_⟩, ⟨_, fun _ => nI 0, _, rfl, hm.mv (O' := O2) (A' := A3) fun j hj => ⟨rfl, by rw [hA3, aSet_ne (by have := yb j hj; omega)]⟩⟩, ⟨fun _ => 0, by rw [hA3, aSet_eq]⟩, ⟨t1, ys, hS1', by rw [hA3, aSet_ne (by omega), fS.2]; exact hS', hys⟩, zb, zS, zY, fun j hj => ⟨by have := yb j hj; omega, by have := yS j hj; omega⟩, by omega⟩
    rw [← z39, hA3, aSet_ne (zb 39)]; exact (fZ 39).2
  exact lw_loop hsT hb hL 514 0 _ _ _ _ _ _ (by omega) (by omega) (by decide) (by decide) (key _ rfl)
end LAW2
