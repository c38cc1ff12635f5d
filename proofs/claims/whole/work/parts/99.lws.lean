/-! ===== the law: a step for each call ===== -/
def lI (tA S B X M L : Nat) (xs : Nat → Int32) (O : aO) (A : aA) : Prop := ∃ Z Y N t, lJ tA S B X M L xs Z Y N N t O A
def aBodyL (l : Launch) (G : aG) (base tA : Nat) (E : aE) (J : aK0) : Prop :=
  aBody l G base tA RL room_1 (some .boolean) (aLook bkL_law) (fun v _ _ => v = some (.int (nI 1))) E J ∧
  (∀ {idx mxL n nc ns : Nat} {y : MethodName} {cy : ByteArray} {rt : Option FieldType} {hh : List (Nat × Nat × Nat × Nat)} {rm : Room} {As : List Value} {O : aO} {A : aA} {Po : aPost}, aLkSW RL idx y cy mxL n rt hh → aMetW l G base tA y cy mxL rt hh rm As O A Po → As.length = n → (rm.frames + 1 ≤ room_1.frames ∧ 8 + (mxL + 11) + rm.locals ≤ room_1.locals) → nc + rm.cells ≤ room_1.cells → ns + rm.slots ≤ room_1.slots → eCall E (.invokestatic idx) As O A nc ns rm.cells rm.slots Po (fun _ _ _ => False))
theorem upL0 (f : Nat → Int64) (v : Int64) : vp_updL f 0 v 0 = v := by simp [vp_updL]
theorem lg_cmp_self (x : Int64) : (lg_cmp x x = 0) = True := by rw [eq_iff_iff, lg_cmp_eq]; simp
theorem n1n0 : (nI 1 = 0) = False := n1_0
theorem n2n0 : (nI 2 = 0) = False := nI_2
section LWS
variable {l : Launch} {G : aG} {base tA S B X M L jj nc ns : Nat} {xs : Nat → Int32} {Z Y : Nat → Nat} {N N2 : aN} {t r5 r6 : Int32} {O : aO} {A : aA} {E : aE} {J : aK0} {x5 x6 : Option Value}

set_option maxRecDepth 4000 in
set_option maxHeartbeats 4000000 in
theorem tl_at (hb : aBodyL l G base tA E J) (hnc : nc ≤ 601024) (hns : ns ≤ 7293033) (h : lJ tA S B X M L xs Z Y N N2 r5 O A) (hr : r5 = nI 0 → ∃ f, A B = some (2, 1, .inr (.inl f)) ∧ f 0 = r6.toInt64) (h3 : r5 = nI 0 ∨ r5 = nI 1 ∨ r5 = nI 2) (next : J 845 [some (.ref S), some (.ref X), some (.ref M), some (.ref B), some (.int (nI (5 * jj))), some (.int r5), some (.int r6)] [] O A nc ns) : J 273 [some (.ref S), some (.ref X), some (.ref M), some (.ref B), some (.int (nI (5 * jj))), some (.int r5), x6] [.int r6] O A nc ns := by
  obtain ⟨⟨g1, g2, g3⟩, -, ⟨ρ, τ, ex, ht, hm⟩, -⟩ := h
  subst g3
  refine hb.1.run (aCuts [279] J) 60 273 _ _ _ _ _ _ (aCuts_ok _) ?_
  simp only [↓wpi_isub, ↓wpi_lsub, ↓wpi_ineg, ↓wpi_lneg, ↓wpi_irem, ↓wpi_lrem, ↓wpi_iinc, wp1, wp, wpl, wpi, lget, lput1, lput2, ltail, lkill, aV, aVl, aNth, aPut, aFz, aC0, aC2, aSw, aCat1, aCuts, aSet_eq, List.take, List.drop, List.reverse_cons, List.reverse_nil, List.nil_append, List.cons_append, List.length_cons, List.length_nil, Option.toList, true_and, and_true, Nat.reduceAdd, Nat.reduceEqDiff, Nat.reduceLT, Nat.reduceLeDiff, Nat.zero_add, Nat.add_zero, if_true, if_false, ite_true, ite_false, reduceIte, reduceCtorEq, true_or, or_true, not_true_eq_false, not_false_eq_true, false_and, and_false, true_implies, false_implies, not_false_eq_true, bqL_law_273, blL_law_273]
  refine ⟨_, _, _, _, hb.1.callV lvL_66 (m_thrown hm) rfl hm.obj (by decide) hnc hns, ?_, fun _ _ _ h => h.elim⟩
  rintro _ O1 A1 ⟨rfl, e1, e2⟩
  rw [e1, e2, ht]
  show J 279 [some (.ref S), some (.ref X), some (.ref (Y 0)), some (.ref B), some (.int (nI (5 * jj))), some (.int r5), some (.int r6)] [.int r5] O A nc ns
  rcases h3 with rfl | rfl | rfl
  · obtain ⟨f, hB, hf⟩ := hr rfl
    refine hb.1.run (aCuts [284, 301, 845] J) 60 279 _ _ _ _ _ _ (aCuts_ok _) ?_
    simp only [↓wpi_isub, ↓wpi_lsub, ↓wpi_ineg, ↓wpi_lneg, ↓wpi_irem, ↓wpi_lrem, ↓wpi_iinc, wp1, wp, wpl, wpi, lget, lput1, lput2, ltail, lkill, aV, aVl, aNth, aPut, aFz, aC0, aC2, aSw, aCat1, aCuts, aSet_eq, List.take, List.drop, List.reverse_cons, List.reverse_nil, List.nil_append, List.cons_append, List.length_cons, List.length_nil, Option.toList, true_and, and_true, Nat.reduceAdd, Nat.reduceEqDiff, Nat.reduceLT, Nat.reduceLeDiff, Nat.zero_add, Nat.add_zero, if_true, if_false, ite_true, ite_false, reduceIte, reduceCtorEq, true_or, or_true, not_true_eq_false, not_false_eq_true, false_and, and_false, true_implies, false_implies, not_false_eq_true, bqL_law_279, blL_law_279, bqL_law_286, blL_law_286, bqL_law_291, blL_law_291, bqL_law_303, blL_law_303, eq_self, n0_0, hB, vin01, ncl0, hf, lg_cmp_self]
    exact next
  · refine hb.1.run (aCuts [284, 291, 845] J) 60 279 _ _ _ _ _ _ (aCuts_ok _) ?_
    simp only [↓wpi_isub, ↓wpi_lsub, ↓wpi_ineg, ↓wpi_lneg, ↓wpi_irem, ↓wpi_lrem, ↓wpi_iinc, wp1, wp, wpl, wpi, lget, lput1, lput2, ltail, lkill, aV, aVl, aNth, aPut, aFz, aC0, aC2, aSw, aCat1, aCuts, aSet_eq, List.take, List.drop, List.reverse_cons, List.reverse_nil, List.nil_append, List.cons_append, List.length_cons, List.length_nil, Option.toList, true_and, and_true, Nat.reduceAdd, Nat.reduceEqDiff, Nat.reduceLT, Nat.reduceLeDiff, Nat.zero_add, Nat.add_zero, if_true, if_false, ite_true, ite_false, reduceIte, reduceCtorEq, true_or, or_true, not_true_eq_false, not_false_eq_true, false_and, and_false, true_implies, false_implies, not_false_eq_true, bqL_law_279, blL_law_279, bqL_law_286, blL_law_286, bqL_law_303, blL_law_303, eq_self, n1n0]
    exact next
  · refine hb.1.run (aCuts [284, 291, 845] J) 60 279 _ _ _ _ _ _ (aCuts_ok _) ?_
    simp only [↓wpi_isub, ↓wpi_lsub, ↓wpi_ineg, ↓wpi_lneg, ↓wpi_irem, ↓wpi_lrem, ↓wpi_iinc, wp1, wp, wpl, wpi, lget, lput1, lput2, ltail, lkill, aV, aVl, aNth, aPut, aFz, aC0, aC2, aSw, aCat1, aCuts, aSet_eq, List.take, List.drop, List.reverse_cons, List.reverse_nil, List.nil_append, List.cons_append, List.length_cons, List.length_nil, Option.toList, true_and, and_true, Nat.reduceAdd, Nat.reduceEqDiff, Nat.reduceLT, Nat.reduceLeDiff, Nat.zero_add, Nat.add_zero, if_true, if_false, ite_true, ite_false, reduceIte, reduceCtorEq, true_or, or_true, not_true_eq_false, not_false_eq_true, false_and, and_false, true_implies, false_implies, not_false_eq_true, bqL_law_279, blL_law_279, bqL_law_286, blL_law_286, bqL_law_303, blL_law_303, eq_self, n2n0]
    exact next
set_option maxRecDepth 4000 in
set_option maxHeartbeats 4000000 in
theorem rf_at (hb : aBodyL l G base tA E J) (hk : 5 * jj + 5 ≤ L) (hL : L ≤ 2560) (hnc : nc ≤ 601024) (hns : ns ≤ 7293033) (h : lJ tA S B X M L xs Z Y N N2 t O A) (kk : ∀ (v : Option Value) (O1 : aO) (A1 : aA), (fun (r : Option Value) (O' : aO) (A' : aA) => (∃ k i, k < N2 0 0 ∧ i < N2 5 k ∧ (xs (5 * jj + 1)) = nI k ∧ (xs (5 * jj + 2)) = nI i ∧ r = some (.int (nI (N2 (6 + k) i)).toInt8.toInt32) ∧ mX Y N2 (nI 0) O A O' A') ∨ (¬ isB N2 (xs (5 * jj + 1)) (xs (5 * jj + 2)) ∧ r = some (.int (nI 0)) ∧ mX Y N2 (nI 1) O A O' A')) v O1 A1 → J 273 [some (.ref S), some (.ref X), some (.ref M), some (.ref B), some (.int (nI (5 * jj))), some (.int r5), x6] v.toList O1 A1 nc ns) : J 255 [some (.ref S), some (.ref X), some (.ref M), some (.ref B), some (.int (nI (5 * jj))), x5, x6] [.int r5] O A nc ns := by
  obtain ⟨⟨g1, g2, g3⟩, -, ⟨ρ, τ, ex, ht, hm⟩, -, ⟨tS, ys, hS1, hS, hys⟩, -⟩ := h
  subst g3
  have s1 : (tS = 0 ∨ 4 ≤ tS) = True := by simp [hS1]
  have v1 : vp_in (nI (5 * jj + 1)) L := vp_in_nI (by omega) (by omega)
  have c1 := nI_clamp (show 5 * jj + 1 < 2 ^ 31 by omega)
  have y1 := hys (5 * jj + 1) (by omega)
  have v2 : vp_in (nI (5 * jj + 2)) L := vp_in_nI (by omega) (by omega)
  have c2 := nI_clamp (show 5 * jj + 2 < 2 ^ 31 by omega)
  have y2 := hys (5 * jj + 2) (by omega)
  refine hb.1.run (aCuts [273] J) 60 255 _ _ _ _ _ _ (aCuts_ok _) ?_
  simp only [↓wpi_isub, ↓wpi_lsub, ↓wpi_ineg, ↓wpi_lneg, ↓wpi_irem, ↓wpi_lrem, ↓wpi_iinc, wp1, wp, wpl, wpi, lget, lput1, lput2, ltail, lkill, aV, aVl, aNth, aPut, aFz, aC0, aC2, aSw, aCat1, aCuts, aSet_eq, List.take, List.drop, List.reverse_cons, List.reverse_nil, List.nil_append, List.cons_append, List.length_cons, List.length_nil, Option.toList, true_and, and_true, Nat.reduceAdd, Nat.reduceEqDiff, Nat.reduceLT, Nat.reduceLeDiff, Nat.zero_add, Nat.add_zero, if_true, if_false, ite_true, ite_false, reduceIte, reduceCtorEq, true_or, or_true, not_true_eq_false, not_false_eq_true, false_and, and_false, true_implies, false_implies, not_false_eq_true, bqL_law_255, blL_law_255, hS, s1, nI_add, v1, c1, y1, v2, c2, y2]
  refine ⟨_, _, _, _, hb.1.callV lvL_77 (m_at hm) rfl hm.obj (by decide) hnc hns, ?_, fun _ _ _ h => h.elim⟩
  rintro v O1 A1 hp
  have := kk v O1 A1 hp
  cases v <;> exact this
set_option maxRecDepth 4000 in
set_option maxHeartbeats 8000000 in
theorem st_at (hsT : l.stackTraces = false) (hb : aBodyL l G base tA E J) (hk : 5 * jj + 5 ≤ L) (hL : L ≤ 2560) (hnc : nc + 4 ≤ 601024) (hns : ns + 69 ≤ 7293033) (h : lJ tA S B X M L xs Z Y N N t O A) (next : ∀ (x5 x6 : Option Value) (O1 : aO) (A1 : aA), lI tA S B X M L xs O1 A1 → J 845 [some (.ref S), some (.ref X), some (.ref M), some (.ref B), some (.int (nI (5 * jj))), x5, x6] [] O1 A1 (nc + 4) (ns + 69)) : J 238 [some (.ref S), some (.ref X), some (.ref M), some (.ref B), some (.int (nI (5 * jj))), x5, x6] [] O A nc ns := by
  obtain ⟨⟨g1, g2, g3⟩, ⟨ρ, sg, hc⟩, -, ⟨fB, hB⟩, ⟨tS, ys, hS1, hS, hys⟩, -⟩ := id h
  have hwf := hc.wf
  subst g1
  have s1 : (tS = 0 ∨ 4 ≤ tS) = True := by simp [hS1]
  have v1 : vp_in (nI (5 * jj + 1)) L := vp_in_nI (by omega) (by omega)
  have c1 := nI_clamp (show 5 * jj + 1 < 2 ^ 31 by omega)
  have y1 := hys (5 * jj + 1) (by omega)
  have v2 : vp_in (nI (5 * jj + 2)) L := vp_in_nI (by omega) (by omega)
  have c2 := nI_clamp (show 5 * jj + 2 < 2 ^ 31 by omega)
  have y2 := hys (5 * jj + 2) (by omega)
  have cl : ∀ {N1 : aN} {O1 : aO} {A1 : aA}, cX tA Z N1 O A O1 A1 → lJ tA S B (Z 37) M L xs Z Y N1 N t O1 A1 ∧ A1 B = A B := fun hx => h.cls hx rfl g2 (fun i => Or.inl rfl)
  refine hb.1.run (aCuts [255] J) 60 238 _ _ _ _ _ _ (aCuts_ok _) ?_
  simp only [↓wpi_isub, ↓wpi_lsub, ↓wpi_ineg, ↓wpi_lneg, ↓wpi_irem, ↓wpi_lrem, ↓wpi_iinc, wp1, wp, wpl, wpi, lget, lput1, lput2, ltail, lkill, aV, aVl, aNth, aPut, aFz, aC0, aC2, aSw, aCat1, aCuts, aSet_eq, List.take, List.drop, List.reverse_cons, List.reverse_nil, List.nil_append, List.cons_append, List.length_cons, List.length_nil, Option.toList, true_and, and_true, Nat.reduceAdd, Nat.reduceEqDiff, Nat.reduceLT, Nat.reduceLeDiff, Nat.zero_add, Nat.add_zero, if_true, if_false, ite_true, ite_false, reduceIte, reduceCtorEq, true_or, or_true, not_true_eq_false, not_false_eq_true, false_and, and_false, true_implies, false_implies, not_false_eq_true, bqL_law_238, blL_law_238, hS, s1, nI_add, v1, c1, y1, v2, c2, y2]
  refine ⟨_, _, _, _, hb.2 lwL_74 (ctL_at (B := B) (w_at hsT hc) hc.obj (fun v O1 A1 hp => ⟨hp.1.elim fun k hp => hp.elim fun i hp => ⟨_, hp.2.2.2.2⟩, _, (cl hp.2).2.trans hB⟩)
    (fun n O1 A1 hp => hp.2.1)) rfl (by decide) hnc hns, ?_, fun _ _ _ h => h.elim⟩
  rintro _ O1 A1 (⟨rfl, w, A9, f1, ⟨⟨kc, ic, q1, q2, q3, q4, q5⟩, hx⟩, hf, rfl⟩ | ⟨n, hxx, rfl⟩)
  · obtain ⟨hJ0, -⟩ := cl hx
    have hJ := hJ0.sto (vp_updL f1 0 w.toInt64)
    refine rf_at hb hk hL (show nc + 4 ≤ 601024 from hnc) (show ns + 69 ≤ 7293033 from hns) hJ ?_
    rintro _ O2 A2 (⟨kr, ir, p1, p2, p3, p4, rfl, hm⟩ | ⟨hn, -⟩)
    · obtain rfl := iN_uniq hwf q1 p1 (q3.symm.trans p3)
      obtain rfl := iB_uniq hwf q1 q2 p2 (q4.symm.trans p4)
      cases q5
      obtain ⟨hJ2, hB2⟩ := hJ.ref hm
      exact tl_at hb (show nc + 4 ≤ 601024 from hnc) (show ns + 69 ≤ 7293033 from hns) hJ2 (fun _ => ⟨_, hB2.trans aSet_eq, by rw [upL0]⟩) (Or.inl rfl) (next _ _ _ _ ⟨_, _, _, _, hJ2⟩)
    · exact absurd ⟨kc, ic, q1, q2, q3, q4⟩ hn
  · obtain ⟨hn, rfl, hx⟩ := hxx
    obtain ⟨hJ, -⟩ := cl hx
    refine rf_at hb hk hL (show nc + 4 ≤ 601024 from hnc) (show ns + 69 ≤ 7293033 from hns) hJ ?_
    rintro _ O2 A2 (⟨kr, ir, p1, p2, p3, p4, -, hm⟩ | ⟨-, rfl, hm⟩)
    · exact absurd ⟨kr, ir, p1, p2, p3, p4⟩ hn
    · obtain ⟨hJ2, hB2⟩ := hJ.ref hm
      exact tl_at hb (show nc + 4 ≤ 601024 from hnc) (show ns + 69 ≤ 7293033 from hns) hJ2 (fun q => absurd q (by decide +kernel)) (Or.inr (Or.inl rfl)) (next _ _ _ _ ⟨_, _, _, _, hJ2⟩)
set_option maxRecDepth 4000 in
set_option maxHeartbeats 4000000 in
theorem tl_size (hb : aBodyL l G base tA E J) (hnc : nc ≤ 601024) (hns : ns ≤ 7293033) (h : lJ tA S B X M L xs Z Y N N2 r5 O A) (hr : r5 = nI 0 → ∃ f, A B = some (2, 1, .inr (.inl f)) ∧ f 0 = r6.toInt64) (h3 : r5 = nI 0 ∨ r5 = nI 1 ∨ r5 = nI 2) (next : J 845 [some (.ref S), some (.ref X), some (.ref M), some (.ref B), some (.int (nI (5 * jj))), some (.int r5), some (.int r6)] [] O A nc ns) : J 329 [some (.ref S), some (.ref X), some (.ref M), some (.ref B), some (.int (nI (5 * jj))), some (.int r5), x6] [.int r6] O A nc ns := by
  obtain ⟨⟨g1, g2, g3⟩, -, ⟨ρ, τ, ex, ht, hm⟩, -⟩ := h
  subst g3
  refine hb.1.run (aCuts [335] J) 60 329 _ _ _ _ _ _ (aCuts_ok _) ?_
  simp only [↓wpi_isub, ↓wpi_lsub, ↓wpi_ineg, ↓wpi_lneg, ↓wpi_irem, ↓wpi_lrem, ↓wpi_iinc, wp1, wp, wpl, wpi, lget, lput1, lput2, ltail, lkill, aV, aVl, aNth, aPut, aFz, aC0, aC2, aSw, aCat1, aCuts, aSet_eq, List.take, List.drop, List.reverse_cons, List.reverse_nil, List.nil_append, List.cons_append, List.length_cons, List.length_nil, Option.toList, true_and, and_true, Nat.reduceAdd, Nat.reduceEqDiff, Nat.reduceLT, Nat.reduceLeDiff, Nat.zero_add, Nat.add_zero, if_true, if_false, ite_true, ite_false, reduceIte, reduceCtorEq, true_or, or_true, not_true_eq_false, not_false_eq_true, false_and, and_false, true_implies, false_implies, not_false_eq_true, bqL_law_329, blL_law_329]
  refine ⟨_, _, _, _, hb.1.callV lvL_66 (m_thrown hm) rfl hm.obj (by decide) hnc hns, ?_, fun _ _ _ h => h.elim⟩
  rintro _ O1 A1 ⟨rfl, e1, e2⟩
  rw [e1, e2, ht]
  show J 335 [some (.ref S), some (.ref X), some (.ref (Y 0)), some (.ref B), some (.int (nI (5 * jj))), some (.int r5), some (.int r6)] [.int r5] O A nc ns
  rcases h3 with rfl | rfl | rfl
  · obtain ⟨f, hB, hf⟩ := hr rfl
    refine hb.1.run (aCuts [340, 357, 845] J) 60 335 _ _ _ _ _ _ (aCuts_ok _) ?_
    simp only [↓wpi_isub, ↓wpi_lsub, ↓wpi_ineg, ↓wpi_lneg, ↓wpi_irem, ↓wpi_lrem, ↓wpi_iinc, wp1, wp, wpl, wpi, lget, lput1, lput2, ltail, lkill, aV, aVl, aNth, aPut, aFz, aC0, aC2, aSw, aCat1, aCuts, aSet_eq, List.take, List.drop, List.reverse_cons, List.reverse_nil, List.nil_append, List.cons_append, List.length_cons, List.length_nil, Option.toList, true_and, and_true, Nat.reduceAdd, Nat.reduceEqDiff, Nat.reduceLT, Nat.reduceLeDiff, Nat.zero_add, Nat.add_zero, if_true, if_false, ite_true, ite_false, reduceIte, reduceCtorEq, true_or, or_true, not_true_eq_false, not_false_eq_true, false_and, and_false, true_implies, false_implies, not_false_eq_true, bqL_law_335, blL_law_335, bqL_law_342, blL_law_342, bqL_law_347, blL_law_347, bqL_law_359, blL_law_359, eq_self, n0_0, hB, vin01, ncl0, hf, lg_cmp_self]
    exact next
  · refine hb.1.run (aCuts [340, 347, 845] J) 60 335 _ _ _ _ _ _ (aCuts_ok _) ?_
    simp only [↓wpi_isub, ↓wpi_lsub, ↓wpi_ineg, ↓wpi_lneg, ↓wpi_irem, ↓wpi_lrem, ↓wpi_iinc, wp1, wp, wpl, wpi, lget, lput1, lput2, ltail, lkill, aV, aVl, aNth, aPut, aFz, aC0, aC2, aSw, aCat1, aCuts, aSet_eq, List.take, List.drop, List.reverse_cons, List.reverse_nil, List.nil_append, List.cons_append, List.length_cons, List.length_nil, Option.toList, true_and, and_true, Nat.reduceAdd, Nat.reduceEqDiff, Nat.reduceLT, Nat.reduceLeDiff, Nat.zero_add, Nat.add_zero, if_true, if_false, ite_true, ite_false, reduceIte, reduceCtorEq, true_or, or_true, not_true_eq_false, not_false_eq_true, false_and, and_false, true_implies, false_implies, not_false_eq_true, bqL_law_335, blL_law_335, bqL_law_342, blL_law_342, bqL_law_359, blL_law_359, eq_self, n1n0]
    exact next
  · refine hb.1.run (aCuts [340, 347, 845] J) 60 335 _ _ _ _ _ _ (aCuts_ok _) ?_
    simp only [↓wpi_isub, ↓wpi_lsub, ↓wpi_ineg, ↓wpi_lneg, ↓wpi_irem, ↓wpi_lrem, ↓wpi_iinc, wp1, wp, wpl, wpi, lget, lput1, lput2, ltail, lkill, aV, aVl, aNth, aPut, aFz, aC0, aC2, aSw, aCat1, aCuts, aSet_eq, List.take, List.drop, List.reverse_cons, List.reverse_nil, List.nil_append, List.cons_append, List.length_cons, List.length_nil, Option.toList, true_and, and_true, Nat.reduceAdd, Nat.reduceEqDiff, Nat.reduceLT, Nat.reduceLeDiff, Nat.zero_add, Nat.add_zero, if_true, if_false, ite_true, ite_false, reduceIte, reduceCtorEq, true_or, or_true, not_true_eq_false, not_false_eq_true, false_and, and_false, true_implies, false_implies, not_false_eq_true, bqL_law_335, blL_law_335, bqL_law_342, blL_law_342, bqL_law_359, blL_law_359, eq_self, n2n0]
    exact next
set_option maxRecDepth 4000 in
set_option maxHeartbeats 4000000 in
theorem rf_size (hb : aBodyL l G base tA E J) (hk : 5 * jj + 5 ≤ L) (hL : L ≤ 2560) (hnc : nc ≤ 601024) (hns : ns ≤ 7293033) (h : lJ tA S B X M L xs Z Y N N2 t O A) (kk : ∀ (v : Option Value) (O1 : aO) (A1 : aA), (fun (r : Option Value) (O' : aO) (A' : aA) => (∃ k, k < N2 0 0 ∧ (xs (5 * jj + 1)) = nI k ∧ r = some (.int (nI (N2 5 k))) ∧ mX Y N2 (nI 0) O A O' A') ∨ (¬ isN N2 (xs (5 * jj + 1)) ∧ r = some (.int (nI 0)) ∧ mX Y N2 (nI 1) O A O' A')) v O1 A1 → J 329 [some (.ref S), some (.ref X), some (.ref M), some (.ref B), some (.int (nI (5 * jj))), some (.int r5), x6] v.toList O1 A1 nc ns) : J 317 [some (.ref S), some (.ref X), some (.ref M), some (.ref B), some (.int (nI (5 * jj))), x5, x6] [.int r5] O A nc ns := by
  obtain ⟨⟨g1, g2, g3⟩, -, ⟨ρ, τ, ex, ht, hm⟩, -, ⟨tS, ys, hS1, hS, hys⟩, -⟩ := h
  subst g3
  have s1 : (tS = 0 ∨ 4 ≤ tS) = True := by simp [hS1]
  have v1 : vp_in (nI (5 * jj + 1)) L := vp_in_nI (by omega) (by omega)
  have c1 := nI_clamp (show 5 * jj + 1 < 2 ^ 31 by omega)
  have y1 := hys (5 * jj + 1) (by omega)
  refine hb.1.run (aCuts [329] J) 60 317 _ _ _ _ _ _ (aCuts_ok _) ?_
  simp only [↓wpi_isub, ↓wpi_lsub, ↓wpi_ineg, ↓wpi_lneg, ↓wpi_irem, ↓wpi_lrem, ↓wpi_iinc, wp1, wp, wpl, wpi, lget, lput1, lput2, ltail, lkill, aV, aVl, aNth, aPut, aFz, aC0, aC2, aSw, aCat1, aCuts, aSet_eq, List.take, List.drop, List.reverse_cons, List.reverse_nil, List.nil_append, List.cons_append, List.length_cons, List.length_nil, Option.toList, true_and, and_true, Nat.reduceAdd, Nat.reduceEqDiff, Nat.reduceLT, Nat.reduceLeDiff, Nat.zero_add, Nat.add_zero, if_true, if_false, ite_true, ite_false, reduceIte, reduceCtorEq, true_or, or_true, not_true_eq_false, not_false_eq_true, false_and, and_false, true_implies, false_implies, not_false_eq_true, bqL_law_317, blL_law_317, hS, s1, nI_add, v1, c1, y1]
  refine ⟨_, _, _, _, hb.1.callV lvL_81 (m_size hm) rfl hm.obj (by decide) hnc hns, ?_, fun _ _ _ h => h.elim⟩
  rintro v O1 A1 hp
  have := kk v O1 A1 hp
  cases v <;> exact this
set_option maxRecDepth 4000 in
set_option maxHeartbeats 8000000 in
theorem st_size (hsT : l.stackTraces = false) (hb : aBodyL l G base tA E J) (hk : 5 * jj + 5 ≤ L) (hL : L ≤ 2560) (hnc : nc + 4 ≤ 601024) (hns : ns + 69 ≤ 7293033) (h : lJ tA S B X M L xs Z Y N N t O A) (next : ∀ (x5 x6 : Option Value) (O1 : aO) (A1 : aA), lI tA S B X M L xs O1 A1 → J 845 [some (.ref S), some (.ref X), some (.ref M), some (.ref B), some (.int (nI (5 * jj))), x5, x6] [] O1 A1 (nc + 4) (ns + 69)) : J 306 [some (.ref S), some (.ref X), some (.ref M), some (.ref B), some (.int (nI (5 * jj))), x5, x6] [] O A nc ns := by
  obtain ⟨⟨g1, g2, g3⟩, ⟨ρ, sg, hc⟩, -, ⟨fB, hB⟩, ⟨tS, ys, hS1, hS, hys⟩, -⟩ := id h
  have hwf := hc.wf
  subst g1
  have s1 : (tS = 0 ∨ 4 ≤ tS) = True := by simp [hS1]
  have v1 : vp_in (nI (5 * jj + 1)) L := vp_in_nI (by omega) (by omega)
  have c1 := nI_clamp (show 5 * jj + 1 < 2 ^ 31 by omega)
  have y1 := hys (5 * jj + 1) (by omega)
  have cl : ∀ {N1 : aN} {O1 : aO} {A1 : aA}, cX tA Z N1 O A O1 A1 → lJ tA S B (Z 37) M L xs Z Y N1 N t O1 A1 ∧ A1 B = A B := fun hx => h.cls hx rfl g2 (fun i => Or.inl rfl)
  refine hb.1.run (aCuts [317] J) 60 306 _ _ _ _ _ _ (aCuts_ok _) ?_
  simp only [↓wpi_isub, ↓wpi_lsub, ↓wpi_ineg, ↓wpi_lneg, ↓wpi_irem, ↓wpi_lrem, ↓wpi_iinc, wp1, wp, wpl, wpi, lget, lput1, lput2, ltail, lkill, aV, aVl, aNth, aPut, aFz, aC0, aC2, aSw, aCat1, aCuts, aSet_eq, List.take, List.drop, List.reverse_cons, List.reverse_nil, List.nil_append, List.cons_append, List.length_cons, List.length_nil, Option.toList, true_and, and_true, Nat.reduceAdd, Nat.reduceEqDiff, Nat.reduceLT, Nat.reduceLeDiff, Nat.zero_add, Nat.add_zero, if_true, if_false, ite_true, ite_false, reduceIte, reduceCtorEq, true_or, or_true, not_true_eq_false, not_false_eq_true, false_and, and_false, true_implies, false_implies, not_false_eq_true, bqL_law_306, blL_law_306, hS, s1, nI_add, v1, c1, y1]
  refine ⟨_, _, _, _, hb.2 lwL_78 (ctL_size (B := B) (w_size hsT hc) hc.obj (fun v O1 A1 hp => ⟨hp.1.elim fun k hp => ⟨_, hp.2.2⟩, _, (cl hp.2).2.trans hB⟩)
    (fun n O1 A1 hp => hp.2.1)) rfl (by decide) hnc hns, ?_, fun _ _ _ h => h.elim⟩
  rintro _ O1 A1 (⟨rfl, w, A9, f1, ⟨⟨kc, q1, q3, q5⟩, hx⟩, hf, rfl⟩ | ⟨n, hxx, rfl⟩)
  · obtain ⟨hJ0, -⟩ := cl hx
    have hJ := hJ0.sto (vp_updL f1 0 w.toInt64)
    refine rf_size hb hk hL (show nc + 4 ≤ 601024 from hnc) (show ns + 69 ≤ 7293033 from hns) hJ ?_
    rintro _ O2 A2 (⟨kr, p1, p3, rfl, hm⟩ | ⟨hn, -⟩)
    · obtain rfl := iN_uniq hwf q1 p1 (q3.symm.trans p3)
      cases q5
      obtain ⟨hJ2, hB2⟩ := hJ.ref hm
      exact tl_size hb (show nc + 4 ≤ 601024 from hnc) (show ns + 69 ≤ 7293033 from hns) hJ2 (fun _ => ⟨_, hB2.trans aSet_eq, by rw [upL0]⟩) (Or.inl rfl) (next _ _ _ _ ⟨_, _, _, _, hJ2⟩)
    · exact absurd ⟨kc, q1, q3⟩ hn
  · obtain ⟨hn, rfl, hx⟩ := hxx
    obtain ⟨hJ, -⟩ := cl hx
    refine rf_size hb hk hL (show nc + 4 ≤ 601024 from hnc) (show ns + 69 ≤ 7293033 from hns) hJ ?_
    rintro _ O2 A2 (⟨kr, p1, p3, -, hm⟩ | ⟨-, rfl, hm⟩)
    · exact absurd ⟨kr, p1, p3⟩ hn
    · obtain ⟨hJ2, hB2⟩ := hJ.ref hm
      exact tl_size hb (show nc + 4 ≤ 601024 from hnc) (show ns + 69 ≤ 7293033 from hns) hJ2 (fun q => absurd q (by decide +kernel)) (Or.inr (Or.inl rfl)) (next _ _ _ _ ⟨_, _, _, _, hJ2⟩)
set_option maxRecDepth 4000 in
set_option maxHeartbeats 4000000 in
theorem tl_compare (hb : aBodyL l G base tA E J) (hnc : nc ≤ 601024) (hns : ns ≤ 7293033) (h : lJ tA S B X M L xs Z Y N N2 r5 O A) (hr : r5 = nI 0 → ∃ f, A B = some (2, 1, .inr (.inl f)) ∧ f 0 = r6.toInt64) (h3 : r5 = nI 0 ∨ r5 = nI 1 ∨ r5 = nI 2) (next : J 845 [some (.ref S), some (.ref X), some (.ref M), some (.ref B), some (.int (nI (5 * jj))), some (.int r5), some (.int r6)] [] O A nc ns) : J 489 [some (.ref S), some (.ref X), some (.ref M), some (.ref B), some (.int (nI (5 * jj))), some (.int r5), x6] [.int r6] O A nc ns := by
  obtain ⟨⟨g1, g2, g3⟩, -, ⟨ρ, τ, ex, ht, hm⟩, -⟩ := h
  subst g3
  refine hb.1.run (aCuts [495] J) 60 489 _ _ _ _ _ _ (aCuts_ok _) ?_
  simp only [↓wpi_isub, ↓wpi_lsub, ↓wpi_ineg, ↓wpi_lneg, ↓wpi_irem, ↓wpi_lrem, ↓wpi_iinc, wp1, wp, wpl, wpi, lget, lput1, lput2, ltail, lkill, aV, aVl, aNth, aPut, aFz, aC0, aC2, aSw, aCat1, aCuts, aSet_eq, List.take, List.drop, List.reverse_cons, List.reverse_nil, List.nil_append, List.cons_append, List.length_cons, List.length_nil, Option.toList, true_and, and_true, Nat.reduceAdd, Nat.reduceEqDiff, Nat.reduceLT, Nat.reduceLeDiff, Nat.zero_add, Nat.add_zero, if_true, if_false, ite_true, ite_false, reduceIte, reduceCtorEq, true_or, or_true, not_true_eq_false, not_false_eq_true, false_and, and_false, true_implies, false_implies, not_false_eq_true, bqL_law_489, blL_law_489]
  refine ⟨_, _, _, _, hb.1.callV lvL_66 (m_thrown hm) rfl hm.obj (by decide) hnc hns, ?_, fun _ _ _ h => h.elim⟩
  rintro _ O1 A1 ⟨rfl, e1, e2⟩
  rw [e1, e2, ht]
  show J 495 [some (.ref S), some (.ref X), some (.ref (Y 0)), some (.ref B), some (.int (nI (5 * jj))), some (.int r5), some (.int r6)] [.int r5] O A nc ns
  rcases h3 with rfl | rfl | rfl
  · obtain ⟨f, hB, hf⟩ := hr rfl
    refine hb.1.run (aCuts [500, 517, 845] J) 60 495 _ _ _ _ _ _ (aCuts_ok _) ?_
    simp only [↓wpi_isub, ↓wpi_lsub, ↓wpi_ineg, ↓wpi_lneg, ↓wpi_irem, ↓wpi_lrem, ↓wpi_iinc, wp1, wp, wpl, wpi, lget, lput1, lput2, ltail, lkill, aV, aVl, aNth, aPut, aFz, aC0, aC2, aSw, aCat1, aCuts, aSet_eq, List.take, List.drop, List.reverse_cons, List.reverse_nil, List.nil_append, List.cons_append, List.length_cons, List.length_nil, Option.toList, true_and, and_true, Nat.reduceAdd, Nat.reduceEqDiff, Nat.reduceLT, Nat.reduceLeDiff, Nat.zero_add, Nat.add_zero, if_true, if_false, ite_true, ite_false, reduceIte, reduceCtorEq, true_or, or_true, not_true_eq_false, not_false_eq_true, false_and, and_false, true_implies, false_implies, not_false_eq_true, bqL_law_495, blL_law_495, bqL_law_502, blL_law_502, bqL_law_507, blL_law_507, bqL_law_519, blL_law_519, eq_self, n0_0, hB, vin01, ncl0, hf, lg_cmp_self]
    exact next
  · refine hb.1.run (aCuts [500, 507, 845] J) 60 495 _ _ _ _ _ _ (aCuts_ok _) ?_
    simp only [↓wpi_isub, ↓wpi_lsub, ↓wpi_ineg, ↓wpi_lneg, ↓wpi_irem, ↓wpi_lrem, ↓wpi_iinc, wp1, wp, wpl, wpi, lget, lput1, lput2, ltail, lkill, aV, aVl, aNth, aPut, aFz, aC0, aC2, aSw, aCat1, aCuts, aSet_eq, List.take, List.drop, List.reverse_cons, List.reverse_nil, List.nil_append, List.cons_append, List.length_cons, List.length_nil, Option.toList, true_and, and_true, Nat.reduceAdd, Nat.reduceEqDiff, Nat.reduceLT, Nat.reduceLeDiff, Nat.zero_add, Nat.add_zero, if_true, if_false, ite_true, ite_false, reduceIte, reduceCtorEq, true_or, or_true, not_true_eq_false, not_false_eq_true, false_and, and_false, true_implies, false_implies, not_false_eq_true, bqL_law_495, blL_law_495, bqL_law_502, blL_law_502, bqL_law_519, blL_law_519, eq_self, n1n0]
    exact next
  · refine hb.1.run (aCuts [500, 507, 845] J) 60 495 _ _ _ _ _ _ (aCuts_ok _) ?_
    simp only [↓wpi_isub, ↓wpi_lsub, ↓wpi_ineg, ↓wpi_lneg, ↓wpi_irem, ↓wpi_lrem, ↓wpi_iinc, wp1, wp, wpl, wpi, lget, lput1, lput2, ltail, lkill, aV, aVl, aNth, aPut, aFz, aC0, aC2, aSw, aCat1, aCuts, aSet_eq, List.take, List.drop, List.reverse_cons, List.reverse_nil, List.nil_append, List.cons_append, List.length_cons, List.length_nil, Option.toList, true_and, and_true, Nat.reduceAdd, Nat.reduceEqDiff, Nat.reduceLT, Nat.reduceLeDiff, Nat.zero_add, Nat.add_zero, if_true, if_false, ite_true, ite_false, reduceIte, reduceCtorEq, true_or, or_true, not_true_eq_false, not_false_eq_true, false_and, and_false, true_implies, false_implies, not_false_eq_true, bqL_law_495, blL_law_495, bqL_law_502, blL_law_502, bqL_law_519, blL_law_519, eq_self, n2n0]
    exact next
set_option maxRecDepth 4000 in
set_option maxHeartbeats 4000000 in
theorem rf_compare (hb : aBodyL l G base tA E J) (hk : 5 * jj + 5 ≤ L) (hL : L ≤ 2560) (hnc : nc ≤ 601024) (hns : ns ≤ 7293033) (h : lJ tA S B X M L xs Z Y N N2 t O A) (kk : ∀ (v : Option Value) (O1 : aO) (A1 : aA), (fun (r : Option Value) (O' : aO) (A' : aA) => (∃ ka kb, ka < N2 0 0 ∧ kb < N2 0 0 ∧ (xs (5 * jj + 1)) = nI ka ∧ (xs (5 * jj + 2)) = nI kb ∧ cmP N2 ka kb r ∧ mX Y N2 (nI 0) O A O' A') ∨ (¬ (isN N2 (xs (5 * jj + 1)) ∧ isN N2 (xs (5 * jj + 2))) ∧ r = some (.int (nI 0)) ∧ mX Y N2 (nI 1) O A O' A')) v O1 A1 → J 489 [some (.ref S), some (.ref X), some (.ref M), some (.ref B), some (.int (nI (5 * jj))), some (.int r5), x6] v.toList O1 A1 nc ns) : J 471 [some (.ref S), some (.ref X), some (.ref M), some (.ref B), some (.int (nI (5 * jj))), x5, x6] [.int r5] O A nc ns := by
  obtain ⟨⟨g1, g2, g3⟩, -, ⟨ρ, τ, ex, ht, hm⟩, -, ⟨tS, ys, hS1, hS, hys⟩, -⟩ := h
  subst g3
  have s1 : (tS = 0 ∨ 4 ≤ tS) = True := by simp [hS1]
  have v1 : vp_in (nI (5 * jj + 1)) L := vp_in_nI (by omega) (by omega)
  have c1 := nI_clamp (show 5 * jj + 1 < 2 ^ 31 by omega)
  have y1 := hys (5 * jj + 1) (by omega)
  have v2 : vp_in (nI (5 * jj + 2)) L := vp_in_nI (by omega) (by omega)
  have c2 := nI_clamp (show 5 * jj + 2 < 2 ^ 31 by omega)
  have y2 := hys (5 * jj + 2) (by omega)
  refine hb.1.run (aCuts [489] J) 60 471 _ _ _ _ _ _ (aCuts_ok _) ?_
  simp only [↓wpi_isub, ↓wpi_lsub, ↓wpi_ineg, ↓wpi_lneg, ↓wpi_irem, ↓wpi_lrem, ↓wpi_iinc, wp1, wp, wpl, wpi, lget, lput1, lput2, ltail, lkill, aV, aVl, aNth, aPut, aFz, aC0, aC2, aSw, aCat1, aCuts, aSet_eq, List.take, List.drop, List.reverse_cons, List.reverse_nil, List.nil_append, List.cons_append, List.length_cons, List.length_nil, Option.toList, true_and, and_true, Nat.reduceAdd, Nat.reduceEqDiff, Nat.reduceLT, Nat.reduceLeDiff, Nat.zero_add, Nat.add_zero, if_true, if_false, ite_true, ite_false, reduceIte, reduceCtorEq, true_or, or_true, not_true_eq_false, not_false_eq_true, false_and, and_false, true_implies, false_implies, not_false_eq_true, bqL_law_471, blL_law_471, hS, s1, nI_add, v1, c1, y1, v2, c2, y2]
  refine ⟨_, _, _, _, hb.1.callV lvL_88 (m_compare hm) rfl hm.obj (by decide) hnc hns, ?_, fun _ _ _ h => h.elim⟩
  rintro v O1 A1 hp
  have := kk v O1 A1 hp
  cases v <;> exact this
set_option maxRecDepth 4000 in
set_option maxHeartbeats 8000000 in
theorem st_compare (hsT : l.stackTraces = false) (hb : aBodyL l G base tA E J) (hk : 5 * jj + 5 ≤ L) (hL : L ≤ 2560) (hnc : nc + 4 ≤ 601024) (hns : ns + 69 ≤ 7293033) (h : lJ tA S B X M L xs Z Y N N t O A) (next : ∀ (x5 x6 : Option Value) (O1 : aO) (A1 : aA), lI tA S B X M L xs O1 A1 → J 845 [some (.ref S), some (.ref X), some (.ref M), some (.ref B), some (.int (nI (5 * jj))), x5, x6] [] O1 A1 (nc + 4) (ns + 69)) : J 454 [some (.ref S), some (.ref X), some (.ref M), some (.ref B), some (.int (nI (5 * jj))), x5, x6] [] O A nc ns := by
  obtain ⟨⟨g1, g2, g3⟩, ⟨ρ, sg, hc⟩, -, ⟨fB, hB⟩, ⟨tS, ys, hS1, hS, hys⟩, -⟩ := id h
  have hwf := hc.wf
  subst g1
  have s1 : (tS = 0 ∨ 4 ≤ tS) = True := by simp [hS1]
  have v1 : vp_in (nI (5 * jj + 1)) L := vp_in_nI (by omega) (by omega)
  have c1 := nI_clamp (show 5 * jj + 1 < 2 ^ 31 by omega)
  have y1 := hys (5 * jj + 1) (by omega)
  have v2 : vp_in (nI (5 * jj + 2)) L := vp_in_nI (by omega) (by omega)
  have c2 := nI_clamp (show 5 * jj + 2 < 2 ^ 31 by omega)
  have y2 := hys (5 * jj + 2) (by omega)
  have cl : ∀ {N1 : aN} {O1 : aO} {A1 : aA}, cX tA Z N1 O A O1 A1 → lJ tA S B (Z 37) M L xs Z Y N1 N t O1 A1 ∧ A1 B = A B := fun hx => h.cls hx rfl g2 (fun i => Or.inl rfl)
  refine hb.1.run (aCuts [471] J) 60 454 _ _ _ _ _ _ (aCuts_ok _) ?_
  simp only [↓wpi_isub, ↓wpi_lsub, ↓wpi_ineg, ↓wpi_lneg, ↓wpi_irem, ↓wpi_lrem, ↓wpi_iinc, wp1, wp, wpl, wpi, lget, lput1, lput2, ltail, lkill, aV, aVl, aNth, aPut, aFz, aC0, aC2, aSw, aCat1, aCuts, aSet_eq, List.take, List.drop, List.reverse_cons, List.reverse_nil, List.nil_append, List.cons_append, List.length_cons, List.length_nil, Option.toList, true_and, and_true, Nat.reduceAdd, Nat.reduceEqDiff, Nat.reduceLT, Nat.reduceLeDiff, Nat.zero_add, Nat.add_zero, if_true, if_false, ite_true, ite_false, reduceIte, reduceCtorEq, true_or, or_true, not_true_eq_false, not_false_eq_true, false_and, and_false, true_implies, false_implies, not_false_eq_true, bqL_law_454, blL_law_454, hS, s1, nI_add, v1, c1, y1, v2, c2, y2]
  refine ⟨_, _, _, _, hb.2 lwL_86 (ctL_compare (B := B) (w_compare hsT hc) hc.obj (fun v O1 A1 hp => ⟨hp.1.elim fun a hp => hp.elim fun b hp => hp.2.2.2.2.elim (fun q => ⟨_, q.2.2⟩) (fun q => ⟨_, q.2⟩), _, (cl hp.2).2.trans hB⟩)
    (fun n O1 A1 hp => hp.2.1)) rfl (by decide) hnc hns, ?_, fun _ _ _ h => h.elim⟩
  rintro _ O1 A1 (⟨rfl, w, A9, f1, ⟨⟨ka, kb, q1, q2, q3, q4, q5⟩, hx⟩, hf, rfl⟩ | ⟨n, hxx, rfl⟩)
  · obtain ⟨hJ0, -⟩ := cl hx
    have hJ := hJ0.sto (vp_updL f1 0 w.toInt64)
    refine rf_compare hb hk hL (show nc + 4 ≤ 601024 from hnc) (show ns + 69 ≤ 7293033 from hns) hJ ?_
    rintro _ O2 A2 (⟨ra, rb, p1, p2, p3, p4, p5, hm⟩ | ⟨hn, -⟩)
    · obtain rfl := iN_uniq hwf q1 p1 (q3.symm.trans p3)
      obtain rfl := iN_uniq hwf q2 p2 (q4.symm.trans p4)
      obtain rfl := cmP_det q5 p5
      obtain ⟨hJ2, hB2⟩ := hJ.ref hm
      exact tl_compare hb (show nc + 4 ≤ 601024 from hnc) (show ns + 69 ≤ 7293033 from hns) hJ2 (fun _ => ⟨_, hB2.trans aSet_eq, by rw [upL0]⟩) (Or.inl rfl) (next _ _ _ _ ⟨_, _, _, _, hJ2⟩)
    · exact absurd ⟨⟨ka, q1, q3⟩, ⟨kb, q2, q4⟩⟩ hn
  · obtain ⟨hn, rfl, hx⟩ := hxx
    obtain ⟨hJ, -⟩ := cl hx
    refine rf_compare hb hk hL (show nc + 4 ≤ 601024 from hnc) (show ns + 69 ≤ 7293033 from hns) hJ ?_
    rintro _ O2 A2 (⟨ra, rb, p1, p2, p3, p4, p5, hm⟩ | ⟨-, rfl, hm⟩)
    · exact absurd ⟨⟨ra, p1, p3⟩, ⟨rb, p2, p4⟩⟩ hn
    · obtain ⟨hJ2, hB2⟩ := hJ.ref hm
      exact tl_compare hb (show nc + 4 ≤ 601024 from hnc) (show ns + 69 ≤ 7293033 from hns) hJ2 (fun q => absurd q (by decide +kernel)) (Or.inr (Or.inl rfl)) (next _ _ _ _ ⟨_, _, _, _, hJ2⟩)
set_option maxRecDepth 4000 in
set_option maxHeartbeats 4000000 in
theorem tl_valid (hb : aBodyL l G base tA E J) (hnc : nc ≤ 601024) (hns : ns ≤ 7293033) (h : lJ tA S B X M L xs Z Y N N2 r5 O A) (hr : r5 = nI 0 → ∃ f, A B = some (2, 1, .inr (.inl f)) ∧ f 0 = fV r6) (h3 : r5 = nI 0 ∨ r5 = nI 1 ∨ r5 = nI 2) (next : J 845 [some (.ref S), some (.ref X), some (.ref M), some (.ref B), some (.int (nI (5 * jj))), some (.int r5), some (.int r6)] [] O A nc ns) : J 545 [some (.ref S), some (.ref X), some (.ref M), some (.ref B), some (.int (nI (5 * jj))), some (.int r5), x6] [.int r6] O A nc ns := by
  obtain ⟨⟨g1, g2, g3⟩, -, ⟨ρ, τ, ex, ht, hm⟩, -⟩ := h
  subst g3
  refine hb.1.run (aCuts [551] J) 60 545 _ _ _ _ _ _ (aCuts_ok _) ?_
  simp only [↓wpi_isub, ↓wpi_lsub, ↓wpi_ineg, ↓wpi_lneg, ↓wpi_irem, ↓wpi_lrem, ↓wpi_iinc, wp1, wp, wpl, wpi, lget, lput1, lput2, ltail, lkill, aV, aVl, aNth, aPut, aFz, aC0, aC2, aSw, aCat1, aCuts, aSet_eq, List.take, List.drop, List.reverse_cons, List.reverse_nil, List.nil_append, List.cons_append, List.length_cons, List.length_nil, Option.toList, true_and, and_true, Nat.reduceAdd, Nat.reduceEqDiff, Nat.reduceLT, Nat.reduceLeDiff, Nat.zero_add, Nat.add_zero, if_true, if_false, ite_true, ite_false, reduceIte, reduceCtorEq, true_or, or_true, not_true_eq_false, not_false_eq_true, false_and, and_false, true_implies, false_implies, not_false_eq_true, bqL_law_545, blL_law_545]
  refine ⟨_, _, _, _, hb.1.callV lvL_66 (m_thrown hm) rfl hm.obj (by decide) hnc hns, ?_, fun _ _ _ h => h.elim⟩
  rintro _ O1 A1 ⟨rfl, e1, e2⟩
  rw [e1, e2, ht]
  show J 551 [some (.ref S), some (.ref X), some (.ref (Y 0)), some (.ref B), some (.int (nI (5 * jj))), some (.int r5), some (.int r6)] [.int r5] O A nc ns
  rcases h3 with rfl | rfl | rfl
  · obtain ⟨f, hB, hf⟩ := hr rfl
    refine hb.1.run (aCuts [556, 580, 845] J) 60 551 _ _ _ _ _ _ (aCuts_ok _) ?_
    by_cases hw : r6 = 0
    · have e0 : (r6 = 0) = True := by simp [hw]
      have eF : fV r6 = lN 0 := if_pos hw
      simp only [↓wpi_isub, ↓wpi_lsub, ↓wpi_ineg, ↓wpi_lneg, ↓wpi_irem, ↓wpi_lrem, ↓wpi_iinc, wp1, wp, wpl, wpi, lget, lput1, lput2, ltail, lkill, aV, aVl, aNth, aPut, aFz, aC0, aC2, aSw, aCat1, aCuts, aSet_eq, List.take, List.drop, List.reverse_cons, List.reverse_nil, List.nil_append, List.cons_append, List.length_cons, List.length_nil, Option.toList, true_and, and_true, Nat.reduceAdd, Nat.reduceEqDiff, Nat.reduceLT, Nat.reduceLeDiff, Nat.zero_add, Nat.add_zero, if_true, if_false, ite_true, ite_false, reduceIte, reduceCtorEq, true_or, or_true, not_true_eq_false, not_false_eq_true, false_and, and_false, true_implies, false_implies, not_false_eq_true, bqL_law_551, blL_law_551, bqL_law_558, blL_law_558, bqL_law_563, blL_law_563, bqL_law_571, blL_law_571, bqL_law_575, blL_law_575, bqL_law_576, blL_law_576, bqL_law_582, blL_law_582, eq_self, n0_0, hB, vin01, ncl0, hf, eF, e0, lg_cmp_self]
      exact next
    · have e0 : (r6 = 0) = False := by simp [hw]
      have eF : fV r6 = lN 1 := if_neg hw
      simp only [↓wpi_isub, ↓wpi_lsub, ↓wpi_ineg, ↓wpi_lneg, ↓wpi_irem, ↓wpi_lrem, ↓wpi_iinc, wp1, wp, wpl, wpi, lget, lput1, lput2, ltail, lkill, aV, aVl, aNth, aPut, aFz, aC0, aC2, aSw, aCat1, aCuts, aSet_eq, List.take, List.drop, List.reverse_cons, List.reverse_nil, List.nil_append, List.cons_append, List.length_cons, List.length_nil, Option.toList, true_and, and_true, Nat.reduceAdd, Nat.reduceEqDiff, Nat.reduceLT, Nat.reduceLeDiff, Nat.zero_add, Nat.add_zero, if_true, if_false, ite_true, ite_false, reduceIte, reduceCtorEq, true_or, or_true, not_true_eq_false, not_false_eq_true, false_and, and_false, true_implies, false_implies, not_false_eq_true, bqL_law_551, blL_law_551, bqL_law_558, blL_law_558, bqL_law_563, blL_law_563, bqL_law_571, blL_law_571, bqL_law_575, blL_law_575, bqL_law_576, blL_law_576, bqL_law_582, blL_law_582, eq_self, n0_0, hB, vin01, ncl0, hf, eF, e0, lg_cmp_self]
      exact next
  · refine hb.1.run (aCuts [556, 563, 845] J) 60 551 _ _ _ _ _ _ (aCuts_ok _) ?_
    simp only [↓wpi_isub, ↓wpi_lsub, ↓wpi_ineg, ↓wpi_lneg, ↓wpi_irem, ↓wpi_lrem, ↓wpi_iinc, wp1, wp, wpl, wpi, lget, lput1, lput2, ltail, lkill, aV, aVl, aNth, aPut, aFz, aC0, aC2, aSw, aCat1, aCuts, aSet_eq, List.take, List.drop, List.reverse_cons, List.reverse_nil, List.nil_append, List.cons_append, List.length_cons, List.length_nil, Option.toList, true_and, and_true, Nat.reduceAdd, Nat.reduceEqDiff, Nat.reduceLT, Nat.reduceLeDiff, Nat.zero_add, Nat.add_zero, if_true, if_false, ite_true, ite_false, reduceIte, reduceCtorEq, true_or, or_true, not_true_eq_false, not_false_eq_true, false_and, and_false, true_implies, false_implies, not_false_eq_true, bqL_law_551, blL_law_551, bqL_law_558, blL_law_558, bqL_law_582, blL_law_582, eq_self, n1n0]
    exact next
  · refine hb.1.run (aCuts [556, 563, 845] J) 60 551 _ _ _ _ _ _ (aCuts_ok _) ?_
    simp only [↓wpi_isub, ↓wpi_lsub, ↓wpi_ineg, ↓wpi_lneg, ↓wpi_irem, ↓wpi_lrem, ↓wpi_iinc, wp1, wp, wpl, wpi, lget, lput1, lput2, ltail, lkill, aV, aVl, aNth, aPut, aFz, aC0, aC2, aSw, aCat1, aCuts, aSet_eq, List.take, List.drop, List.reverse_cons, List.reverse_nil, List.nil_append, List.cons_append, List.length_cons, List.length_nil, Option.toList, true_and, and_true, Nat.reduceAdd, Nat.reduceEqDiff, Nat.reduceLT, Nat.reduceLeDiff, Nat.zero_add, Nat.add_zero, if_true, if_false, ite_true, ite_false, reduceIte, reduceCtorEq, true_or, or_true, not_true_eq_false, not_false_eq_true, false_and, and_false, true_implies, false_implies, not_false_eq_true, bqL_law_551, blL_law_551, bqL_law_558, blL_law_558, bqL_law_582, blL_law_582, eq_self, n2n0]
    exact next
set_option maxRecDepth 4000 in
set_option maxHeartbeats 4000000 in
theorem rf_valid (hb : aBodyL l G base tA E J) (hk : 5 * jj + 5 ≤ L) (hL : L ≤ 2560) (hnc : nc ≤ 601024) (hns : ns ≤ 7293033) (h : lJ tA S B X M L xs Z Y N N2 t O A) (kk : ∀ (v : Option Value) (O1 : aO) (A1 : aA), (fun (r : Option Value) (O' : aO) (A' : aA) => (∃ k v, k < N2 0 0 ∧ (xs (5 * jj + 1)) = nI k ∧ r = some (.int (bI v)) ∧ (v = true ↔ vG N2 k) ∧ mX Y N2 (nI 0) O A O' A') ∨ (¬ isN N2 (xs (5 * jj + 1)) ∧ r = some (.int (nI 0)) ∧ mX Y N2 (nI 1) O A O' A')) v O1 A1 → J 545 [some (.ref S), some (.ref X), some (.ref M), some (.ref B), some (.int (nI (5 * jj))), some (.int r5), x6] v.toList O1 A1 nc ns) : J 533 [some (.ref S), some (.ref X), some (.ref M), some (.ref B), some (.int (nI (5 * jj))), x5, x6] [.int r5] O A nc ns := by
  obtain ⟨⟨g1, g2, g3⟩, -, ⟨ρ, τ, ex, ht, hm⟩, -, ⟨tS, ys, hS1, hS, hys⟩, -⟩ := h
  subst g3
  have s1 : (tS = 0 ∨ 4 ≤ tS) = True := by simp [hS1]
  have v1 : vp_in (nI (5 * jj + 1)) L := vp_in_nI (by omega) (by omega)
  have c1 := nI_clamp (show 5 * jj + 1 < 2 ^ 31 by omega)
  have y1 := hys (5 * jj + 1) (by omega)
  refine hb.1.run (aCuts [545] J) 60 533 _ _ _ _ _ _ (aCuts_ok _) ?_
  simp only [↓wpi_isub, ↓wpi_lsub, ↓wpi_ineg, ↓wpi_lneg, ↓wpi_irem, ↓wpi_lrem, ↓wpi_iinc, wp1, wp, wpl, wpi, lget, lput1, lput2, ltail, lkill, aV, aVl, aNth, aPut, aFz, aC0, aC2, aSw, aCat1, aCuts, aSet_eq, List.take, List.drop, List.reverse_cons, List.reverse_nil, List.nil_append, List.cons_append, List.length_cons, List.length_nil, Option.toList, true_and, and_true, Nat.reduceAdd, Nat.reduceEqDiff, Nat.reduceLT, Nat.reduceLeDiff, Nat.zero_add, Nat.add_zero, if_true, if_false, ite_true, ite_false, reduceIte, reduceCtorEq, true_or, or_true, not_true_eq_false, not_false_eq_true, false_and, and_false, true_implies, false_implies, not_false_eq_true, bqL_law_533, blL_law_533, hS, s1, nI_add, v1, c1, y1]
  refine ⟨_, _, _, _, hb.1.callV lvL_91 (m_valid hm) rfl hm.obj (by decide) hnc hns, ?_, fun _ _ _ h => h.elim⟩
  rintro v O1 A1 hp
  have := kk v O1 A1 hp
  cases v <;> exact this
set_option maxRecDepth 4000 in
set_option maxHeartbeats 8000000 in
theorem st_valid (hsT : l.stackTraces = false) (hb : aBodyL l G base tA E J) (hk : 5 * jj + 5 ≤ L) (hL : L ≤ 2560) (hnc : nc + 4 ≤ 601024) (hns : ns + 69 ≤ 7293033) (h : lJ tA S B X M L xs Z Y N N t O A) (next : ∀ (x5 x6 : Option Value) (O1 : aO) (A1 : aA), lI tA S B X M L xs O1 A1 → J 845 [some (.ref S), some (.ref X), some (.ref M), some (.ref B), some (.int (nI (5 * jj))), x5, x6] [] O1 A1 (nc + 4) (ns + 69)) : J 522 [some (.ref S), some (.ref X), some (.ref M), some (.ref B), some (.int (nI (5 * jj))), x5, x6] [] O A nc ns := by
  obtain ⟨⟨g1, g2, g3⟩, ⟨ρ, sg, hc⟩, -, ⟨fB, hB⟩, ⟨tS, ys, hS1, hS, hys⟩, -⟩ := id h
  have hwf := hc.wf
  subst g1
  have s1 : (tS = 0 ∨ 4 ≤ tS) = True := by simp [hS1]
  have v1 : vp_in (nI (5 * jj + 1)) L := vp_in_nI (by omega) (by omega)
  have c1 := nI_clamp (show 5 * jj + 1 < 2 ^ 31 by omega)
  have y1 := hys (5 * jj + 1) (by omega)
  have cl : ∀ {N1 : aN} {O1 : aO} {A1 : aA}, cX tA Z N1 O A O1 A1 → lJ tA S B (Z 37) M L xs Z Y N1 N t O1 A1 ∧ A1 B = A B := fun hx => h.cls hx rfl g2 (fun i => Or.inl rfl)
  refine hb.1.run (aCuts [533] J) 60 522 _ _ _ _ _ _ (aCuts_ok _) ?_
  simp only [↓wpi_isub, ↓wpi_lsub, ↓wpi_ineg, ↓wpi_lneg, ↓wpi_irem, ↓wpi_lrem, ↓wpi_iinc, wp1, wp, wpl, wpi, lget, lput1, lput2, ltail, lkill, aV, aVl, aNth, aPut, aFz, aC0, aC2, aSw, aCat1, aCuts, aSet_eq, List.take, List.drop, List.reverse_cons, List.reverse_nil, List.nil_append, List.cons_append, List.length_cons, List.length_nil, Option.toList, true_and, and_true, Nat.reduceAdd, Nat.reduceEqDiff, Nat.reduceLT, Nat.reduceLeDiff, Nat.zero_add, Nat.add_zero, if_true, if_false, ite_true, ite_false, reduceIte, reduceCtorEq, true_or, or_true, not_true_eq_false, not_false_eq_true, false_and, and_false, true_implies, false_implies, not_false_eq_true, bqL_law_522, blL_law_522, hS, s1, nI_add, v1, c1, y1]
  refine ⟨_, _, _, _, hb.2 lwL_89 (ctL_valid (B := B) (w_valid hsT hc) hc.obj (fun v O1 A1 hp => ⟨hp.1.elim fun k hp => hp.elim fun b hp => ⟨_, hp.2.2.1⟩, _, (cl hp.2).2.trans hB⟩)
    (fun n O1 A1 hp => hp.2.1)) rfl (by decide) hnc hns, ?_, fun _ _ _ h => h.elim⟩
  rintro _ O1 A1 (⟨rfl, w, A9, f1, ⟨⟨kc, b, q1, q3, q5, q6⟩, hx⟩, hf, rfl⟩ | ⟨n, hxx, rfl⟩)
  · obtain ⟨hJ0, -⟩ := cl hx
    have hJ := hJ0.sto (vp_updL f1 0 (fV w))
    refine rf_valid hb hk hL (show nc + 4 ≤ 601024 from hnc) (show ns + 69 ≤ 7293033 from hns) hJ ?_
    rintro _ O2 A2 (⟨kr, b9, p1, p3, rfl, p6, hm⟩ | ⟨hn, -⟩)
    · obtain rfl := iN_uniq hwf q1 p1 (q3.symm.trans p3)
      cases q5
      obtain rfl : b = b9 := Bool.eq_iff_iff.mpr (q6.trans p6.symm)
      obtain ⟨hJ2, hB2⟩ := hJ.ref hm
      exact tl_valid hb (show nc + 4 ≤ 601024 from hnc) (show ns + 69 ≤ 7293033 from hns) hJ2 (fun _ => ⟨_, hB2.trans aSet_eq, by rw [upL0]⟩) (Or.inl rfl) (next _ _ _ _ ⟨_, _, _, _, hJ2⟩)
    · exact absurd ⟨kc, q1, q3⟩ hn
  · obtain ⟨hn, rfl, hx⟩ := hxx
    obtain ⟨hJ, -⟩ := cl hx
    refine rf_valid hb hk hL (show nc + 4 ≤ 601024 from hnc) (show ns + 69 ≤ 7293033 from hns) hJ ?_
    rintro _ O2 A2 (⟨kr, b9, p1, p3, -, p6, hm⟩ | ⟨-, rfl, hm⟩)
    · exact absurd ⟨kr, p1, p3⟩ hn
    · obtain ⟨hJ2, hB2⟩ := hJ.ref hm
      exact tl_valid hb (show nc + 4 ≤ 601024 from hnc) (show ns + 69 ≤ 7293033 from hns) hJ2 (fun q => absurd q (by decide +kernel)) (Or.inr (Or.inl rfl)) (next _ _ _ _ ⟨_, _, _, _, hJ2⟩)
set_option maxRecDepth 4000 in
set_option maxHeartbeats 4000000 in
theorem tl_convert (hb : aBodyL l G base tA E J) (hnc : nc ≤ 601024) (hns : ns ≤ 7293033) (h : lJ tA S B X M L xs Z Y N N2 r5 O A) (hr : r5 = nI 0 → ∃ f, A B = some (2, 1, .inr (.inl f)) ∧ f 0 = r6.toInt64) (h3 : r5 = nI 0 ∨ r5 = nI 1 ∨ r5 = nI 2) (next : J 845 [some (.ref S), some (.ref X), some (.ref M), some (.ref B), some (.int (nI (5 * jj))), some (.int r5), some (.int r6)] [] O A nc ns) : J 620 [some (.ref S), some (.ref X), some (.ref M), some (.ref B), some (.int (nI (5 * jj))), some (.int r5), x6] [.int r6] O A nc ns := by
  obtain ⟨⟨g1, g2, g3⟩, -, ⟨ρ, τ, ex, ht, hm⟩, -⟩ := h
  subst g3
  refine hb.1.run (aCuts [626] J) 60 620 _ _ _ _ _ _ (aCuts_ok _) ?_
  simp only [↓wpi_isub, ↓wpi_lsub, ↓wpi_ineg, ↓wpi_lneg, ↓wpi_irem, ↓wpi_lrem, ↓wpi_iinc, wp1, wp, wpl, wpi, lget, lput1, lput2, ltail, lkill, aV, aVl, aNth, aPut, aFz, aC0, aC2, aSw, aCat1, aCuts, aSet_eq, List.take, List.drop, List.reverse_cons, List.reverse_nil, List.nil_append, List.cons_append, List.length_cons, List.length_nil, Option.toList, true_and, and_true, Nat.reduceAdd, Nat.reduceEqDiff, Nat.reduceLT, Nat.reduceLeDiff, Nat.zero_add, Nat.add_zero, if_true, if_false, ite_true, ite_false, reduceIte, reduceCtorEq, true_or, or_true, not_true_eq_false, not_false_eq_true, false_and, and_false, true_implies, false_implies, not_false_eq_true, bqL_law_620, blL_law_620]
  refine ⟨_, _, _, _, hb.1.callV lvL_66 (m_thrown hm) rfl hm.obj (by decide) hnc hns, ?_, fun _ _ _ h => h.elim⟩
  rintro _ O1 A1 ⟨rfl, e1, e2⟩
  rw [e1, e2, ht]
  show J 626 [some (.ref S), some (.ref X), some (.ref (Y 0)), some (.ref B), some (.int (nI (5 * jj))), some (.int r5), some (.int r6)] [.int r5] O A nc ns
  rcases h3 with rfl | rfl | rfl
  · obtain ⟨f, hB, hf⟩ := hr rfl
    refine hb.1.run (aCuts [631, 648, 845] J) 60 626 _ _ _ _ _ _ (aCuts_ok _) ?_
    simp only [↓wpi_isub, ↓wpi_lsub, ↓wpi_ineg, ↓wpi_lneg, ↓wpi_irem, ↓wpi_lrem, ↓wpi_iinc, wp1, wp, wpl, wpi, lget, lput1, lput2, ltail, lkill, aV, aVl, aNth, aPut, aFz, aC0, aC2, aSw, aCat1, aCuts, aSet_eq, List.take, List.drop, List.reverse_cons, List.reverse_nil, List.nil_append, List.cons_append, List.length_cons, List.length_nil, Option.toList, true_and, and_true, Nat.reduceAdd, Nat.reduceEqDiff, Nat.reduceLT, Nat.reduceLeDiff, Nat.zero_add, Nat.add_zero, if_true, if_false, ite_true, ite_false, reduceIte, reduceCtorEq, true_or, or_true, not_true_eq_false, not_false_eq_true, false_and, and_false, true_implies, false_implies, not_false_eq_true, bqL_law_626, blL_law_626, bqL_law_633, blL_law_633, bqL_law_638, blL_law_638, bqL_law_650, blL_law_650, eq_self, n0_0, hB, vin01, ncl0, hf, lg_cmp_self]
    exact next
  · refine hb.1.run (aCuts [631, 638, 845] J) 60 626 _ _ _ _ _ _ (aCuts_ok _) ?_
    simp only [↓wpi_isub, ↓wpi_lsub, ↓wpi_ineg, ↓wpi_lneg, ↓wpi_irem, ↓wpi_lrem, ↓wpi_iinc, wp1, wp, wpl, wpi, lget, lput1, lput2, ltail, lkill, aV, aVl, aNth, aPut, aFz, aC0, aC2, aSw, aCat1, aCuts, aSet_eq, List.take, List.drop, List.reverse_cons, List.reverse_nil, List.nil_append, List.cons_append, List.length_cons, List.length_nil, Option.toList, true_and, and_true, Nat.reduceAdd, Nat.reduceEqDiff, Nat.reduceLT, Nat.reduceLeDiff, Nat.zero_add, Nat.add_zero, if_true, if_false, ite_true, ite_false, reduceIte, reduceCtorEq, true_or, or_true, not_true_eq_false, not_false_eq_true, false_and, and_false, true_implies, false_implies, not_false_eq_true, bqL_law_626, blL_law_626, bqL_law_633, blL_law_633, bqL_law_650, blL_law_650, eq_self, n1n0]
    exact next
  · refine hb.1.run (aCuts [631, 638, 845] J) 60 626 _ _ _ _ _ _ (aCuts_ok _) ?_
    simp only [↓wpi_isub, ↓wpi_lsub, ↓wpi_ineg, ↓wpi_lneg, ↓wpi_irem, ↓wpi_lrem, ↓wpi_iinc, wp1, wp, wpl, wpi, lget, lput1, lput2, ltail, lkill, aV, aVl, aNth, aPut, aFz, aC0, aC2, aSw, aCat1, aCuts, aSet_eq, List.take, List.drop, List.reverse_cons, List.reverse_nil, List.nil_append, List.cons_append, List.length_cons, List.length_nil, Option.toList, true_and, and_true, Nat.reduceAdd, Nat.reduceEqDiff, Nat.reduceLT, Nat.reduceLeDiff, Nat.zero_add, Nat.add_zero, if_true, if_false, ite_true, ite_false, reduceIte, reduceCtorEq, true_or, or_true, not_true_eq_false, not_false_eq_true, false_and, and_false, true_implies, false_implies, not_false_eq_true, bqL_law_626, blL_law_626, bqL_law_633, blL_law_633, bqL_law_650, blL_law_650, eq_self, n2n0]
    exact next
set_option maxRecDepth 4000 in
set_option maxHeartbeats 4000000 in
theorem rf_convert (hb : aBodyL l G base tA E J) (hk : 5 * jj + 5 ≤ L) (hL : L ≤ 2560) (hnc : nc ≤ 601024) (hns : ns ≤ 7293033) (h : lJ tA S B X M L xs Z Y N N2 t O A) (kk : ∀ (v : Option Value) (O1 : aO) (A1 : aA), (fun (r : Option Value) (O' : aO) (A' : aA) => (∃ ka kb N', ka < N2 0 0 ∧ kb < N2 0 0 ∧ (xs (5 * jj + 1)) = nI ka ∧ (xs (5 * jj + 2)) = nI kb ∧ cvP N2 ka kb r N' ∧ mX Y N' (nI 0) O A O' A') ∨ (¬ (isN N2 (xs (5 * jj + 1)) ∧ isN N2 (xs (5 * jj + 2))) ∧ r = some (.int (nI 0)) ∧ mX Y N2 (nI 1) O A O' A')) v O1 A1 → J 620 [some (.ref S), some (.ref X), some (.ref M), some (.ref B), some (.int (nI (5 * jj))), some (.int r5), x6] v.toList O1 A1 nc ns) : J 602 [some (.ref S), some (.ref X), some (.ref M), some (.ref B), some (.int (nI (5 * jj))), x5, x6] [.int r5] O A nc ns := by
  obtain ⟨⟨g1, g2, g3⟩, -, ⟨ρ, τ, ex, ht, hm⟩, -, ⟨tS, ys, hS1, hS, hys⟩, -⟩ := h
  subst g3
  have s1 : (tS = 0 ∨ 4 ≤ tS) = True := by simp [hS1]
  have v1 : vp_in (nI (5 * jj + 1)) L := vp_in_nI (by omega) (by omega)
  have c1 := nI_clamp (show 5 * jj + 1 < 2 ^ 31 by omega)
  have y1 := hys (5 * jj + 1) (by omega)
  have v2 : vp_in (nI (5 * jj + 2)) L := vp_in_nI (by omega) (by omega)
  have c2 := nI_clamp (show 5 * jj + 2 < 2 ^ 31 by omega)
  have y2 := hys (5 * jj + 2) (by omega)
  refine hb.1.run (aCuts [620] J) 60 602 _ _ _ _ _ _ (aCuts_ok _) ?_
  simp only [↓wpi_isub, ↓wpi_lsub, ↓wpi_ineg, ↓wpi_lneg, ↓wpi_irem, ↓wpi_lrem, ↓wpi_iinc, wp1, wp, wpl, wpi, lget, lput1, lput2, ltail, lkill, aV, aVl, aNth, aPut, aFz, aC0, aC2, aSw, aCat1, aCuts, aSet_eq, List.take, List.drop, List.reverse_cons, List.reverse_nil, List.nil_append, List.cons_append, List.length_cons, List.length_nil, Option.toList, true_and, and_true, Nat.reduceAdd, Nat.reduceEqDiff, Nat.reduceLT, Nat.reduceLeDiff, Nat.zero_add, Nat.add_zero, if_true, if_false, ite_true, ite_false, reduceIte, reduceCtorEq, true_or, or_true, not_true_eq_false, not_false_eq_true, false_and, and_false, true_implies, false_implies, not_false_eq_true, bqL_law_602, blL_law_602, hS, s1, nI_add, v1, c1, y1, v2, c2, y2]
  refine ⟨_, _, _, _, hb.1.callV lvL_94 (m_convert hm) rfl hm.obj (by decide) hnc hns, ?_, fun _ _ _ h => h.elim⟩
  rintro v O1 A1 hp
  have := kk v O1 A1 hp
  cases v <;> exact this
set_option maxRecDepth 4000 in
set_option maxHeartbeats 8000000 in
theorem st_convert (hsT : l.stackTraces = false) (hb : aBodyL l G base tA E J) (hk : 5 * jj + 5 ≤ L) (hL : L ≤ 2560) (hnc : nc + 4 ≤ 601024) (hns : ns + 69 ≤ 7293033) (h : lJ tA S B X M L xs Z Y N N t O A) (next : ∀ (x5 x6 : Option Value) (O1 : aO) (A1 : aA), lI tA S B X M L xs O1 A1 → J 845 [some (.ref S), some (.ref X), some (.ref M), some (.ref B), some (.int (nI (5 * jj))), x5, x6] [] O1 A1 (nc + 4) (ns + 69)) : J 585 [some (.ref S), some (.ref X), some (.ref M), some (.ref B), some (.int (nI (5 * jj))), x5, x6] [] O A nc ns := by
  obtain ⟨⟨g1, g2, g3⟩, ⟨ρ, sg, hc⟩, -, ⟨fB, hB⟩, ⟨tS, ys, hS1, hS, hys⟩, -⟩ := id h
  have hwf := hc.wf
  subst g1
  have s1 : (tS = 0 ∨ 4 ≤ tS) = True := by simp [hS1]
  have v1 : vp_in (nI (5 * jj + 1)) L := vp_in_nI (by omega) (by omega)
  have c1 := nI_clamp (show 5 * jj + 1 < 2 ^ 31 by omega)
  have y1 := hys (5 * jj + 1) (by omega)
  have v2 : vp_in (nI (5 * jj + 2)) L := vp_in_nI (by omega) (by omega)
  have c2 := nI_clamp (show 5 * jj + 2 < 2 ^ 31 by omega)
  have y2 := hys (5 * jj + 2) (by omega)
  have cl : ∀ {N1 : aN} {O1 : aO} {A1 : aA}, cX tA Z N1 O A O1 A1 → lJ tA S B (Z 37) M L xs Z Y N1 N t O1 A1 ∧ A1 B = A B := fun hx => h.cls hx rfl g2 (fun i => Or.inl rfl)
  refine hb.1.run (aCuts [602] J) 60 585 _ _ _ _ _ _ (aCuts_ok _) ?_
  simp only [↓wpi_isub, ↓wpi_lsub, ↓wpi_ineg, ↓wpi_lneg, ↓wpi_irem, ↓wpi_lrem, ↓wpi_iinc, wp1, wp, wpl, wpi, lget, lput1, lput2, ltail, lkill, aV, aVl, aNth, aPut, aFz, aC0, aC2, aSw, aCat1, aCuts, aSet_eq, List.take, List.drop, List.reverse_cons, List.reverse_nil, List.nil_append, List.cons_append, List.length_cons, List.length_nil, Option.toList, true_and, and_true, Nat.reduceAdd, Nat.reduceEqDiff, Nat.reduceLT, Nat.reduceLeDiff, Nat.zero_add, Nat.add_zero, if_true, if_false, ite_true, ite_false, reduceIte, reduceCtorEq, true_or, or_true, not_true_eq_false, not_false_eq_true, false_and, and_false, true_implies, false_implies, not_false_eq_true, bqL_law_585, blL_law_585, hS, s1, nI_add, v1, c1, y1, v2, c2, y2]
  refine ⟨_, _, _, _, hb.2 lwL_92 (ctL_convert (B := B) (w_convert hsT hc) hc.obj (fun v O1 A1 hp => by
      obtain ⟨ka, kb, N9, q1, q2, q3, q4, q5, q6⟩ := hp
      exact ⟨q5.elim (fun q => ⟨_, q.2.1⟩) (fun q => ⟨_, q.2.1⟩), _, (cl q6).2.trans hB⟩)
    (fun n O1 A1 hp => hp.2.1)) rfl (by decide) hnc hns, ?_, fun _ _ _ h => h.elim⟩
  rintro _ O1 A1 (⟨rfl, w, A9, f1, ⟨ka, kb, N1, q1, q2, q3, q4, q5, hx⟩, hf, rfl⟩ | ⟨n, hxx, rfl⟩)
  · obtain ⟨hJ0, -⟩ := cl hx
    have hJ := hJ0.sto (vp_updL f1 0 w.toInt64)
    refine rf_convert hb hk hL (show nc + 4 ≤ 601024 from hnc) (show ns + 69 ≤ 7293033 from hns) hJ ?_
    rintro _ O2 A2 (⟨ra, rb, N9, p1, p2, p3, p4, p5, hm⟩ | ⟨hn, -⟩)
    · obtain rfl := iN_uniq hwf q1 p1 (q3.symm.trans p3)
      obtain rfl := iN_uniq hwf q2 p2 (q4.symm.trans p4)
      obtain ⟨rfl, rfl⟩ := cvP_det q5 p5
      obtain ⟨hJ2, hB2⟩ := hJ.ref hm
      exact tl_convert hb (show nc + 4 ≤ 601024 from hnc) (show ns + 69 ≤ 7293033 from hns) hJ2 (fun _ => ⟨_, hB2.trans aSet_eq, by rw [upL0]⟩) (Or.inl rfl) (next _ _ _ _ ⟨_, _, _, _, hJ2⟩)
    · exact absurd ⟨⟨ka, q1, q3⟩, ⟨kb, q2, q4⟩⟩ hn
  · obtain ⟨hn, rfl, hx⟩ := hxx
    obtain ⟨hJ, -⟩ := cl hx
    refine rf_convert hb hk hL (show nc + 4 ≤ 601024 from hnc) (show ns + 69 ≤ 7293033 from hns) hJ ?_
    rintro _ O2 A2 (⟨ra, rb, N9, p1, p2, p3, p4, p5, hm⟩ | ⟨-, rfl, hm⟩)
    · exact absurd ⟨⟨ra, p1, p3⟩, ⟨rb, p2, p4⟩⟩ hn
    · obtain ⟨hJ2, hB2⟩ := hJ.ref hm
      exact tl_convert hb (show nc + 4 ≤ 601024 from hnc) (show ns + 69 ≤ 7293033 from hns) hJ2 (fun q => absurd q (by decide +kernel)) (Or.inr (Or.inl rfl)) (next _ _ _ _ ⟨_, _, _, _, hJ2⟩)
set_option maxRecDepth 4000 in
set_option maxHeartbeats 4000000 in
theorem tl_digit (hb : aBodyL l G base tA E J) (hnc : nc ≤ 601024) (hns : ns ≤ 7293033) (h : lJ tA S B X M L xs Z Y N N2 r5 O A) (hr : r5 = nI 0 → ∃ f, A B = some (2, 1, .inr (.inl f)) ∧ f 0 = r6.toInt64) (h3 : r5 = nI 0 ∨ r5 = nI 1 ∨ r5 = nI 2) (next : J 845 [some (.ref S), some (.ref X), some (.ref M), some (.ref B), some (.int (nI (5 * jj))), some (.int r5), some (.int r6)] [] O A nc ns) : J 688 [some (.ref S), some (.ref X), some (.ref M), some (.ref B), some (.int (nI (5 * jj))), some (.int r5), x6] [.int r6] O A nc ns := by
  obtain ⟨⟨g1, g2, g3⟩, -, ⟨ρ, τ, ex, ht, hm⟩, -⟩ := h
  subst g3
  refine hb.1.run (aCuts [694] J) 60 688 _ _ _ _ _ _ (aCuts_ok _) ?_
  simp only [↓wpi_isub, ↓wpi_lsub, ↓wpi_ineg, ↓wpi_lneg, ↓wpi_irem, ↓wpi_lrem, ↓wpi_iinc, wp1, wp, wpl, wpi, lget, lput1, lput2, ltail, lkill, aV, aVl, aNth, aPut, aFz, aC0, aC2, aSw, aCat1, aCuts, aSet_eq, List.take, List.drop, List.reverse_cons, List.reverse_nil, List.nil_append, List.cons_append, List.length_cons, List.length_nil, Option.toList, true_and, and_true, Nat.reduceAdd, Nat.reduceEqDiff, Nat.reduceLT, Nat.reduceLeDiff, Nat.zero_add, Nat.add_zero, if_true, if_false, ite_true, ite_false, reduceIte, reduceCtorEq, true_or, or_true, not_true_eq_false, not_false_eq_true, false_and, and_false, true_implies, false_implies, not_false_eq_true, bqL_law_688, blL_law_688]
  refine ⟨_, _, _, _, hb.1.callV lvL_66 (m_thrown hm) rfl hm.obj (by decide) hnc hns, ?_, fun _ _ _ h => h.elim⟩
  rintro _ O1 A1 ⟨rfl, e1, e2⟩
  rw [e1, e2, ht]
  show J 694 [some (.ref S), some (.ref X), some (.ref (Y 0)), some (.ref B), some (.int (nI (5 * jj))), some (.int r5), some (.int r6)] [.int r5] O A nc ns
  rcases h3 with rfl | rfl | rfl
  · obtain ⟨f, hB, hf⟩ := hr rfl
    refine hb.1.run (aCuts [699, 716, 845] J) 60 694 _ _ _ _ _ _ (aCuts_ok _) ?_
    simp only [↓wpi_isub, ↓wpi_lsub, ↓wpi_ineg, ↓wpi_lneg, ↓wpi_irem, ↓wpi_lrem, ↓wpi_iinc, wp1, wp, wpl, wpi, lget, lput1, lput2, ltail, lkill, aV, aVl, aNth, aPut, aFz, aC0, aC2, aSw, aCat1, aCuts, aSet_eq, List.take, List.drop, List.reverse_cons, List.reverse_nil, List.nil_append, List.cons_append, List.length_cons, List.length_nil, Option.toList, true_and, and_true, Nat.reduceAdd, Nat.reduceEqDiff, Nat.reduceLT, Nat.reduceLeDiff, Nat.zero_add, Nat.add_zero, if_true, if_false, ite_true, ite_false, reduceIte, reduceCtorEq, true_or, or_true, not_true_eq_false, not_false_eq_true, false_and, and_false, true_implies, false_implies, not_false_eq_true, bqL_law_694, blL_law_694, bqL_law_701, blL_law_701, bqL_law_706, blL_law_706, bqL_law_718, blL_law_718, eq_self, n0_0, hB, vin01, ncl0, hf, lg_cmp_self]
    exact next
  · refine hb.1.run (aCuts [699, 706, 845] J) 60 694 _ _ _ _ _ _ (aCuts_ok _) ?_
    simp only [↓wpi_isub, ↓wpi_lsub, ↓wpi_ineg, ↓wpi_lneg, ↓wpi_irem, ↓wpi_lrem, ↓wpi_iinc, wp1, wp, wpl, wpi, lget, lput1, lput2, ltail, lkill, aV, aVl, aNth, aPut, aFz, aC0, aC2, aSw, aCat1, aCuts, aSet_eq, List.take, List.drop, List.reverse_cons, List.reverse_nil, List.nil_append, List.cons_append, List.length_cons, List.length_nil, Option.toList, true_and, and_true, Nat.reduceAdd, Nat.reduceEqDiff, Nat.reduceLT, Nat.reduceLeDiff, Nat.zero_add, Nat.add_zero, if_true, if_false, ite_true, ite_false, reduceIte, reduceCtorEq, true_or, or_true, not_true_eq_false, not_false_eq_true, false_and, and_false, true_implies, false_implies, not_false_eq_true, bqL_law_694, blL_law_694, bqL_law_701, blL_law_701, bqL_law_718, blL_law_718, eq_self, n1n0]
    exact next
  · refine hb.1.run (aCuts [699, 706, 845] J) 60 694 _ _ _ _ _ _ (aCuts_ok _) ?_
    simp only [↓wpi_isub, ↓wpi_lsub, ↓wpi_ineg, ↓wpi_lneg, ↓wpi_irem, ↓wpi_lrem, ↓wpi_iinc, wp1, wp, wpl, wpi, lget, lput1, lput2, ltail, lkill, aV, aVl, aNth, aPut, aFz, aC0, aC2, aSw, aCat1, aCuts, aSet_eq, List.take, List.drop, List.reverse_cons, List.reverse_nil, List.nil_append, List.cons_append, List.length_cons, List.length_nil, Option.toList, true_and, and_true, Nat.reduceAdd, Nat.reduceEqDiff, Nat.reduceLT, Nat.reduceLeDiff, Nat.zero_add, Nat.add_zero, if_true, if_false, ite_true, ite_false, reduceIte, reduceCtorEq, true_or, or_true, not_true_eq_false, not_false_eq_true, false_and, and_false, true_implies, false_implies, not_false_eq_true, bqL_law_694, blL_law_694, bqL_law_701, blL_law_701, bqL_law_718, blL_law_718, eq_self, n2n0]
    exact next
set_option maxRecDepth 4000 in
set_option maxHeartbeats 4000000 in
theorem rf_digit (hb : aBodyL l G base tA E J) (hk : 5 * jj + 5 ≤ L) (hL : L ≤ 2560) (hnc : nc ≤ 601024) (hns : ns ≤ 7293033) (h : lJ tA S B X M L xs Z Y N N2 t O A) (kk : ∀ (v : Option Value) (O1 : aO) (A1 : aA), (fun (r : Option Value) (O' : aO) (A' : aA) => (∃ k, k < N2 0 0 ∧ (xs (5 * jj + 1)) = nI k ∧ dgP N2 k (xs (5 * jj + 2)) r ∧ mX Y N2 (nI 0) O A O' A') ∨ (¬ isN N2 (xs (5 * jj + 1)) ∧ r = some (.int (nI 0)) ∧ mX Y N2 (nI 1) O A O' A')) v O1 A1 → J 688 [some (.ref S), some (.ref X), some (.ref M), some (.ref B), some (.int (nI (5 * jj))), some (.int r5), x6] v.toList O1 A1 nc ns) : J 670 [some (.ref S), some (.ref X), some (.ref M), some (.ref B), some (.int (nI (5 * jj))), x5, x6] [.int r5] O A nc ns := by
  obtain ⟨⟨g1, g2, g3⟩, -, ⟨ρ, τ, ex, ht, hm⟩, -, ⟨tS, ys, hS1, hS, hys⟩, -⟩ := h
  subst g3
  have s1 : (tS = 0 ∨ 4 ≤ tS) = True := by simp [hS1]
  have v1 : vp_in (nI (5 * jj + 1)) L := vp_in_nI (by omega) (by omega)
  have c1 := nI_clamp (show 5 * jj + 1 < 2 ^ 31 by omega)
  have y1 := hys (5 * jj + 1) (by omega)
  have v2 : vp_in (nI (5 * jj + 2)) L := vp_in_nI (by omega) (by omega)
  have c2 := nI_clamp (show 5 * jj + 2 < 2 ^ 31 by omega)
  have y2 := hys (5 * jj + 2) (by omega)
  refine hb.1.run (aCuts [688] J) 60 670 _ _ _ _ _ _ (aCuts_ok _) ?_
  simp only [↓wpi_isub, ↓wpi_lsub, ↓wpi_ineg, ↓wpi_lneg, ↓wpi_irem, ↓wpi_lrem, ↓wpi_iinc, wp1, wp, wpl, wpi, lget, lput1, lput2, ltail, lkill, aV, aVl, aNth, aPut, aFz, aC0, aC2, aSw, aCat1, aCuts, aSet_eq, List.take, List.drop, List.reverse_cons, List.reverse_nil, List.nil_append, List.cons_append, List.length_cons, List.length_nil, Option.toList, true_and, and_true, Nat.reduceAdd, Nat.reduceEqDiff, Nat.reduceLT, Nat.reduceLeDiff, Nat.zero_add, Nat.add_zero, if_true, if_false, ite_true, ite_false, reduceIte, reduceCtorEq, true_or, or_true, not_true_eq_false, not_false_eq_true, false_and, and_false, true_implies, false_implies, not_false_eq_true, bqL_law_670, blL_law_670, hS, s1, nI_add, v1, c1, y1, v2, c2, y2]
  refine ⟨_, _, _, _, hb.1.callV lvL_97 (m_digit hm) rfl hm.obj (by decide) hnc hns, ?_, fun _ _ _ h => h.elim⟩
  rintro v O1 A1 hp
  have := kk v O1 A1 hp
  cases v <;> exact this
set_option maxRecDepth 4000 in
set_option maxHeartbeats 8000000 in
theorem st_digit (hsT : l.stackTraces = false) (hb : aBodyL l G base tA E J) (hk : 5 * jj + 5 ≤ L) (hL : L ≤ 2560) (hnc : nc + 4 ≤ 601024) (hns : ns + 69 ≤ 7293033) (h : lJ tA S B X M L xs Z Y N N t O A) (next : ∀ (x5 x6 : Option Value) (O1 : aO) (A1 : aA), lI tA S B X M L xs O1 A1 → J 845 [some (.ref S), some (.ref X), some (.ref M), some (.ref B), some (.int (nI (5 * jj))), x5, x6] [] O1 A1 (nc + 4) (ns + 69)) : J 653 [some (.ref S), some (.ref X), some (.ref M), some (.ref B), some (.int (nI (5 * jj))), x5, x6] [] O A nc ns := by
  obtain ⟨⟨g1, g2, g3⟩, ⟨ρ, sg, hc⟩, -, ⟨fB, hB⟩, ⟨tS, ys, hS1, hS, hys⟩, -⟩ := id h
  have hwf := hc.wf
  subst g1
  have s1 : (tS = 0 ∨ 4 ≤ tS) = True := by simp [hS1]
  have v1 : vp_in (nI (5 * jj + 1)) L := vp_in_nI (by omega) (by omega)
  have c1 := nI_clamp (show 5 * jj + 1 < 2 ^ 31 by omega)
  have y1 := hys (5 * jj + 1) (by omega)
  have v2 : vp_in (nI (5 * jj + 2)) L := vp_in_nI (by omega) (by omega)
  have c2 := nI_clamp (show 5 * jj + 2 < 2 ^ 31 by omega)
  have y2 := hys (5 * jj + 2) (by omega)
  have cl : ∀ {N1 : aN} {O1 : aO} {A1 : aA}, cX tA Z N1 O A O1 A1 → lJ tA S B (Z 37) M L xs Z Y N1 N t O1 A1 ∧ A1 B = A B := fun hx => h.cls hx rfl g2 (fun i => Or.inl rfl)
  refine hb.1.run (aCuts [670] J) 60 653 _ _ _ _ _ _ (aCuts_ok _) ?_
  simp only [↓wpi_isub, ↓wpi_lsub, ↓wpi_ineg, ↓wpi_lneg, ↓wpi_irem, ↓wpi_lrem, ↓wpi_iinc, wp1, wp, wpl, wpi, lget, lput1, lput2, ltail, lkill, aV, aVl, aNth, aPut, aFz, aC0, aC2, aSw, aCat1, aCuts, aSet_eq, List.take, List.drop, List.reverse_cons, List.reverse_nil, List.nil_append, List.cons_append, List.length_cons, List.length_nil, Option.toList, true_and, and_true, Nat.reduceAdd, Nat.reduceEqDiff, Nat.reduceLT, Nat.reduceLeDiff, Nat.zero_add, Nat.add_zero, if_true, if_false, ite_true, ite_false, reduceIte, reduceCtorEq, true_or, or_true, not_true_eq_false, not_false_eq_true, false_and, and_false, true_implies, false_implies, not_false_eq_true, bqL_law_653, blL_law_653, hS, s1, nI_add, v1, c1, y1, v2, c2, y2]
  refine ⟨_, _, _, _, hb.2 lwL_95 (ctL_digit (B := B) (w_digit hsT hc) hc.obj (fun v O1 A1 hp => ⟨hp.1.elim fun k hp => hp.2.2.elim (fun q => q.elim fun j q => ⟨_, q.2.2.2.2⟩) (fun q => ⟨_, q.2⟩), _, (cl hp.2).2.trans hB⟩)
    (fun n O1 A1 hp => hp.2.1)) rfl (by decide) hnc hns, ?_, fun _ _ _ h => h.elim⟩
  rintro _ O1 A1 (⟨rfl, w, A9, f1, ⟨⟨kc, q1, q3, q5⟩, hx⟩, hf, rfl⟩ | ⟨n, hxx, rfl⟩)
  · obtain ⟨hJ0, -⟩ := cl hx
    have hJ := hJ0.sto (vp_updL f1 0 w.toInt64)
    refine rf_digit hb hk hL (show nc + 4 ≤ 601024 from hnc) (show ns + 69 ≤ 7293033 from hns) hJ ?_
    rintro _ O2 A2 (⟨kr, p1, p3, p5, hm⟩ | ⟨hn, -⟩)
    · obtain rfl := iN_uniq hwf q1 p1 (q3.symm.trans p3)
      obtain rfl := dgP_det q5 p5
      obtain ⟨hJ2, hB2⟩ := hJ.ref hm
      exact tl_digit hb (show nc + 4 ≤ 601024 from hnc) (show ns + 69 ≤ 7293033 from hns) hJ2 (fun _ => ⟨_, hB2.trans aSet_eq, by rw [upL0]⟩) (Or.inl rfl) (next _ _ _ _ ⟨_, _, _, _, hJ2⟩)
    · exact absurd ⟨kc, q1, q3⟩ hn
  · obtain ⟨hn, rfl, hx⟩ := hxx
    obtain ⟨hJ, -⟩ := cl hx
    refine rf_digit hb hk hL (show nc + 4 ≤ 601024 from hnc) (show ns + 69 ≤ 7293033 from hns) hJ ?_
    rintro _ O2 A2 (⟨kr, p1, p3, p5, hm⟩ | ⟨-, rfl, hm⟩)
    · exact absurd ⟨kr, p1, p3⟩ hn
    · obtain ⟨hJ2, hB2⟩ := hJ.ref hm
      exact tl_digit hb (show nc + 4 ≤ 601024 from hnc) (show ns + 69 ≤ 7293033 from hns) hJ2 (fun q => absurd q (by decide +kernel)) (Or.inr (Or.inl rfl)) (next _ _ _ _ ⟨_, _, _, _, hJ2⟩)
set_option maxRecDepth 4000 in
set_option maxHeartbeats 4000000 in
theorem tl_round (hb : aBodyL l G base tA E J) (hnc : nc ≤ 601024) (hns : ns ≤ 7293033) (h : lJ tA S B X M L xs Z Y N N2 r5 O A) (hr : r5 = nI 0 → ∃ f, A B = some (2, 1, .inr (.inl f)) ∧ f 0 = r6.toInt64) (h3 : r5 = nI 0 ∨ r5 = nI 1 ∨ r5 = nI 2) (next : J 845 [some (.ref S), some (.ref X), some (.ref M), some (.ref B), some (.int (nI (5 * jj))), some (.int r5), some (.int r6)] [] O A nc ns) : J 756 [some (.ref S), some (.ref X), some (.ref M), some (.ref B), some (.int (nI (5 * jj))), some (.int r5), x6] [.int r6] O A nc ns := by
  obtain ⟨⟨g1, g2, g3⟩, -, ⟨ρ, τ, ex, ht, hm⟩, -⟩ := h
  subst g3
  refine hb.1.run (aCuts [762] J) 60 756 _ _ _ _ _ _ (aCuts_ok _) ?_
  simp only [↓wpi_isub, ↓wpi_lsub, ↓wpi_ineg, ↓wpi_lneg, ↓wpi_irem, ↓wpi_lrem, ↓wpi_iinc, wp1, wp, wpl, wpi, lget, lput1, lput2, ltail, lkill, aV, aVl, aNth, aPut, aFz, aC0, aC2, aSw, aCat1, aCuts, aSet_eq, List.take, List.drop, List.reverse_cons, List.reverse_nil, List.nil_append, List.cons_append, List.length_cons, List.length_nil, Option.toList, true_and, and_true, Nat.reduceAdd, Nat.reduceEqDiff, Nat.reduceLT, Nat.reduceLeDiff, Nat.zero_add, Nat.add_zero, if_true, if_false, ite_true, ite_false, reduceIte, reduceCtorEq, true_or, or_true, not_true_eq_false, not_false_eq_true, false_and, and_false, true_implies, false_implies, not_false_eq_true, bqL_law_756, blL_law_756]
  refine ⟨_, _, _, _, hb.1.callV lvL_66 (m_thrown hm) rfl hm.obj (by decide) hnc hns, ?_, fun _ _ _ h => h.elim⟩
  rintro _ O1 A1 ⟨rfl, e1, e2⟩
  rw [e1, e2, ht]
  show J 762 [some (.ref S), some (.ref X), some (.ref (Y 0)), some (.ref B), some (.int (nI (5 * jj))), some (.int r5), some (.int r6)] [.int r5] O A nc ns
  rcases h3 with rfl | rfl | rfl
  · obtain ⟨f, hB, hf⟩ := hr rfl
    refine hb.1.run (aCuts [767, 784, 845] J) 60 762 _ _ _ _ _ _ (aCuts_ok _) ?_
    simp only [↓wpi_isub, ↓wpi_lsub, ↓wpi_ineg, ↓wpi_lneg, ↓wpi_irem, ↓wpi_lrem, ↓wpi_iinc, wp1, wp, wpl, wpi, lget, lput1, lput2, ltail, lkill, aV, aVl, aNth, aPut, aFz, aC0, aC2, aSw, aCat1, aCuts, aSet_eq, List.take, List.drop, List.reverse_cons, List.reverse_nil, List.nil_append, List.cons_append, List.length_cons, List.length_nil, Option.toList, true_and, and_true, Nat.reduceAdd, Nat.reduceEqDiff, Nat.reduceLT, Nat.reduceLeDiff, Nat.zero_add, Nat.add_zero, if_true, if_false, ite_true, ite_false, reduceIte, reduceCtorEq, true_or, or_true, not_true_eq_false, not_false_eq_true, false_and, and_false, true_implies, false_implies, not_false_eq_true, bqL_law_762, blL_law_762, bqL_law_769, blL_law_769, bqL_law_774, blL_law_774, bqL_law_786, blL_law_786, eq_self, n0_0, hB, vin01, ncl0, hf, lg_cmp_self]
    exact next
  · refine hb.1.run (aCuts [767, 774, 845] J) 60 762 _ _ _ _ _ _ (aCuts_ok _) ?_
    simp only [↓wpi_isub, ↓wpi_lsub, ↓wpi_ineg, ↓wpi_lneg, ↓wpi_irem, ↓wpi_lrem, ↓wpi_iinc, wp1, wp, wpl, wpi, lget, lput1, lput2, ltail, lkill, aV, aVl, aNth, aPut, aFz, aC0, aC2, aSw, aCat1, aCuts, aSet_eq, List.take, List.drop, List.reverse_cons, List.reverse_nil, List.nil_append, List.cons_append, List.length_cons, List.length_nil, Option.toList, true_and, and_true, Nat.reduceAdd, Nat.reduceEqDiff, Nat.reduceLT, Nat.reduceLeDiff, Nat.zero_add, Nat.add_zero, if_true, if_false, ite_true, ite_false, reduceIte, reduceCtorEq, true_or, or_true, not_true_eq_false, not_false_eq_true, false_and, and_false, true_implies, false_implies, not_false_eq_true, bqL_law_762, blL_law_762, bqL_law_769, blL_law_769, bqL_law_786, blL_law_786, eq_self, n1n0]
    exact next
  · refine hb.1.run (aCuts [767, 774, 845] J) 60 762 _ _ _ _ _ _ (aCuts_ok _) ?_
    simp only [↓wpi_isub, ↓wpi_lsub, ↓wpi_ineg, ↓wpi_lneg, ↓wpi_irem, ↓wpi_lrem, ↓wpi_iinc, wp1, wp, wpl, wpi, lget, lput1, lput2, ltail, lkill, aV, aVl, aNth, aPut, aFz, aC0, aC2, aSw, aCat1, aCuts, aSet_eq, List.take, List.drop, List.reverse_cons, List.reverse_nil, List.nil_append, List.cons_append, List.length_cons, List.length_nil, Option.toList, true_and, and_true, Nat.reduceAdd, Nat.reduceEqDiff, Nat.reduceLT, Nat.reduceLeDiff, Nat.zero_add, Nat.add_zero, if_true, if_false, ite_true, ite_false, reduceIte, reduceCtorEq, true_or, or_true, not_true_eq_false, not_false_eq_true, false_and, and_false, true_implies, false_implies, not_false_eq_true, bqL_law_762, blL_law_762, bqL_law_769, blL_law_769, bqL_law_786, blL_law_786, eq_self, n2n0]
    exact next
set_option maxRecDepth 4000 in
set_option maxHeartbeats 4000000 in
theorem rf_round (hb : aBodyL l G base tA E J) (hk : 5 * jj + 5 ≤ L) (hL : L ≤ 2560) (hnc : nc ≤ 601024) (hns : ns ≤ 7293033) (h : lJ tA S B X M L xs Z Y N N2 t O A) (kk : ∀ (v : Option Value) (O1 : aO) (A1 : aA), (fun (r : Option Value) (O' : aO) (A' : aA) => (∃ k N', k < N2 0 0 ∧ (xs (5 * jj + 1)) = nI k ∧ rnP N2 k (xs (5 * jj + 2)) r N' ∧ mX Y N' (nI 0) O A O' A') ∨ (¬ isN N2 (xs (5 * jj + 1)) ∧ r = some (.int (nI 0)) ∧ mX Y N2 (nI 1) O A O' A')) v O1 A1 → J 756 [some (.ref S), some (.ref X), some (.ref M), some (.ref B), some (.int (nI (5 * jj))), some (.int r5), x6] v.toList O1 A1 nc ns) : J 738 [some (.ref S), some (.ref X), some (.ref M), some (.ref B), some (.int (nI (5 * jj))), x5, x6] [.int r5] O A nc ns := by
  obtain ⟨⟨g1, g2, g3⟩, -, ⟨ρ, τ, ex, ht, hm⟩, -, ⟨tS, ys, hS1, hS, hys⟩, -⟩ := h
  subst g3
  have s1 : (tS = 0 ∨ 4 ≤ tS) = True := by simp [hS1]
  have v1 : vp_in (nI (5 * jj + 1)) L := vp_in_nI (by omega) (by omega)
  have c1 := nI_clamp (show 5 * jj + 1 < 2 ^ 31 by omega)
  have y1 := hys (5 * jj + 1) (by omega)
  have v2 : vp_in (nI (5 * jj + 2)) L := vp_in_nI (by omega) (by omega)
  have c2 := nI_clamp (show 5 * jj + 2 < 2 ^ 31 by omega)
  have y2 := hys (5 * jj + 2) (by omega)
  refine hb.1.run (aCuts [756] J) 60 738 _ _ _ _ _ _ (aCuts_ok _) ?_
  simp only [↓wpi_isub, ↓wpi_lsub, ↓wpi_ineg, ↓wpi_lneg, ↓wpi_irem, ↓wpi_lrem, ↓wpi_iinc, wp1, wp, wpl, wpi, lget, lput1, lput2, ltail, lkill, aV, aVl, aNth, aPut, aFz, aC0, aC2, aSw, aCat1, aCuts, aSet_eq, List.take, List.drop, List.reverse_cons, List.reverse_nil, List.nil_append, List.cons_append, List.length_cons, List.length_nil, Option.toList, true_and, and_true, Nat.reduceAdd, Nat.reduceEqDiff, Nat.reduceLT, Nat.reduceLeDiff, Nat.zero_add, Nat.add_zero, if_true, if_false, ite_true, ite_false, reduceIte, reduceCtorEq, true_or, or_true, not_true_eq_false, not_false_eq_true, false_and, and_false, true_implies, false_implies, not_false_eq_true, bqL_law_738, blL_law_738, hS, s1, nI_add, v1, c1, y1, v2, c2, y2]
  refine ⟨_, _, _, _, hb.1.callV lvL_100 (m_round hm) rfl hm.obj (by decide) hnc hns, ?_, fun _ _ _ h => h.elim⟩
  rintro v O1 A1 hp
  have := kk v O1 A1 hp
  cases v <;> exact this
set_option maxRecDepth 4000 in
set_option maxHeartbeats 8000000 in
theorem st_round (hsT : l.stackTraces = false) (hb : aBodyL l G base tA E J) (hk : 5 * jj + 5 ≤ L) (hL : L ≤ 2560) (hnc : nc + 4 ≤ 601024) (hns : ns + 69 ≤ 7293033) (h : lJ tA S B X M L xs Z Y N N t O A) (next : ∀ (x5 x6 : Option Value) (O1 : aO) (A1 : aA), lI tA S B X M L xs O1 A1 → J 845 [some (.ref S), some (.ref X), some (.ref M), some (.ref B), some (.int (nI (5 * jj))), x5, x6] [] O1 A1 (nc + 4) (ns + 69)) : J 721 [some (.ref S), some (.ref X), some (.ref M), some (.ref B), some (.int (nI (5 * jj))), x5, x6] [] O A nc ns := by
  obtain ⟨⟨g1, g2, g3⟩, ⟨ρ, sg, hc⟩, -, ⟨fB, hB⟩, ⟨tS, ys, hS1, hS, hys⟩, -⟩ := id h
  have hwf := hc.wf
  subst g1
  have s1 : (tS = 0 ∨ 4 ≤ tS) = True := by simp [hS1]
  have v1 : vp_in (nI (5 * jj + 1)) L := vp_in_nI (by omega) (by omega)
  have c1 := nI_clamp (show 5 * jj + 1 < 2 ^ 31 by omega)
  have y1 := hys (5 * jj + 1) (by omega)
  have v2 : vp_in (nI (5 * jj + 2)) L := vp_in_nI (by omega) (by omega)
  have c2 := nI_clamp (show 5 * jj + 2 < 2 ^ 31 by omega)
  have y2 := hys (5 * jj + 2) (by omega)
  have cl : ∀ {N1 : aN} {O1 : aO} {A1 : aA}, cX tA Z N1 O A O1 A1 → lJ tA S B (Z 37) M L xs Z Y N1 N t O1 A1 ∧ A1 B = A B := fun hx => h.cls hx rfl g2 (fun i => Or.inl rfl)
  refine hb.1.run (aCuts [738] J) 60 721 _ _ _ _ _ _ (aCuts_ok _) ?_
  simp only [↓wpi_isub, ↓wpi_lsub, ↓wpi_ineg, ↓wpi_lneg, ↓wpi_irem, ↓wpi_lrem, ↓wpi_iinc, wp1, wp, wpl, wpi, lget, lput1, lput2, ltail, lkill, aV, aVl, aNth, aPut, aFz, aC0, aC2, aSw, aCat1, aCuts, aSet_eq, List.take, List.drop, List.reverse_cons, List.reverse_nil, List.nil_append, List.cons_append, List.length_cons, List.length_nil, Option.toList, true_and, and_true, Nat.reduceAdd, Nat.reduceEqDiff, Nat.reduceLT, Nat.reduceLeDiff, Nat.zero_add, Nat.add_zero, if_true, if_false, ite_true, ite_false, reduceIte, reduceCtorEq, true_or, or_true, not_true_eq_false, not_false_eq_true, false_and, and_false, true_implies, false_implies, not_false_eq_true, bqL_law_721, blL_law_721, hS, s1, nI_add, v1, c1, y1, v2, c2, y2]
  refine ⟨_, _, _, _, hb.2 lwL_98 (ctL_round (B := B) (w_round hsT hc) hc.obj (fun v O1 A1 hp => by
      obtain ⟨k9, N9, q1, q2, q3, q4⟩ := hp
      exact ⟨q3.elim (fun q => q.elim fun j q => ⟨_, q.2.2.1⟩) (fun q => ⟨_, q.2.1⟩), _, (cl q4).2.trans hB⟩)
    (fun n O1 A1 hp => hp.2.1)) rfl (by decide) hnc hns, ?_, fun _ _ _ h => h.elim⟩
  rintro _ O1 A1 (⟨rfl, w, A9, f1, ⟨kc, N1, q1, q3, q5, hx⟩, hf, rfl⟩ | ⟨n, hxx, rfl⟩)
  · obtain ⟨hJ0, -⟩ := cl hx
    have hJ := hJ0.sto (vp_updL f1 0 w.toInt64)
    refine rf_round hb hk hL (show nc + 4 ≤ 601024 from hnc) (show ns + 69 ≤ 7293033 from hns) hJ ?_
    rintro _ O2 A2 (⟨kr, N9, p1, p3, p5, hm⟩ | ⟨hn, -⟩)
    · obtain rfl := iN_uniq hwf q1 p1 (q3.symm.trans p3)
      obtain ⟨rfl, rfl⟩ := rnP_det q5 p5
      obtain ⟨hJ2, hB2⟩ := hJ.ref hm
      exact tl_round hb (show nc + 4 ≤ 601024 from hnc) (show ns + 69 ≤ 7293033 from hns) hJ2 (fun _ => ⟨_, hB2.trans aSet_eq, by rw [upL0]⟩) (Or.inl rfl) (next _ _ _ _ ⟨_, _, _, _, hJ2⟩)
    · exact absurd ⟨kc, q1, q3⟩ hn
  · obtain ⟨hn, rfl, hx⟩ := hxx
    obtain ⟨hJ, -⟩ := cl hx
    refine rf_round hb hk hL (show nc + 4 ≤ 601024 from hnc) (show ns + 69 ≤ 7293033 from hns) hJ ?_
    rintro _ O2 A2 (⟨kr, N9, p1, p3, p5, hm⟩ | ⟨-, rfl, hm⟩)
    · exact absurd ⟨kr, p1, p3⟩ hn
    · obtain ⟨hJ2, hB2⟩ := hJ.ref hm
      exact tl_round hb (show nc + 4 ≤ 601024 from hnc) (show ns + 69 ≤ 7293033 from hns) hJ2 (fun q => absurd q (by decide +kernel)) (Or.inr (Or.inl rfl)) (next _ _ _ _ ⟨_, _, _, _, hJ2⟩)
set_option maxRecDepth 4000 in
set_option maxHeartbeats 4000000 in
theorem tl_half (hb : aBodyL l G base tA E J) (hnc : nc ≤ 601024) (hns : ns ≤ 7293033) (h : lJ tA S B X M L xs Z Y N N2 r5 O A) (hr : r5 = nI 0 → ∃ f, A B = some (2, 1, .inr (.inl f)) ∧ f 0 = r6.toInt64) (h3 : r5 = nI 0 ∨ r5 = nI 1 ∨ r5 = nI 2) (next : J 845 [some (.ref S), some (.ref X), some (.ref M), some (.ref B), some (.int (nI (5 * jj))), some (.int r5), some (.int r6)] [] O A nc ns) : J 812 [some (.ref S), some (.ref X), some (.ref M), some (.ref B), some (.int (nI (5 * jj))), some (.int r5), x6] [.int r6] O A nc ns := by
  obtain ⟨⟨g1, g2, g3⟩, -, ⟨ρ, τ, ex, ht, hm⟩, -⟩ := h
  subst g3
  refine hb.1.run (aCuts [818] J) 60 812 _ _ _ _ _ _ (aCuts_ok _) ?_
  simp only [↓wpi_isub, ↓wpi_lsub, ↓wpi_ineg, ↓wpi_lneg, ↓wpi_irem, ↓wpi_lrem, ↓wpi_iinc, wp1, wp, wpl, wpi, lget, lput1, lput2, ltail, lkill, aV, aVl, aNth, aPut, aFz, aC0, aC2, aSw, aCat1, aCuts, aSet_eq, List.take, List.drop, List.reverse_cons, List.reverse_nil, List.nil_append, List.cons_append, List.length_cons, List.length_nil, Option.toList, true_and, and_true, Nat.reduceAdd, Nat.reduceEqDiff, Nat.reduceLT, Nat.reduceLeDiff, Nat.zero_add, Nat.add_zero, if_true, if_false, ite_true, ite_false, reduceIte, reduceCtorEq, true_or, or_true, not_true_eq_false, not_false_eq_true, false_and, and_false, true_implies, false_implies, not_false_eq_true, bqL_law_812, blL_law_812]
  refine ⟨_, _, _, _, hb.1.callV lvL_66 (m_thrown hm) rfl hm.obj (by decide) hnc hns, ?_, fun _ _ _ h => h.elim⟩
  rintro _ O1 A1 ⟨rfl, e1, e2⟩
  rw [e1, e2, ht]
  show J 818 [some (.ref S), some (.ref X), some (.ref (Y 0)), some (.ref B), some (.int (nI (5 * jj))), some (.int r5), some (.int r6)] [.int r5] O A nc ns
  rcases h3 with rfl | rfl | rfl
  · obtain ⟨f, hB, hf⟩ := hr rfl
    refine hb.1.run (aCuts [823, 840, 845] J) 60 818 _ _ _ _ _ _ (aCuts_ok _) ?_
    simp only [↓wpi_isub, ↓wpi_lsub, ↓wpi_ineg, ↓wpi_lneg, ↓wpi_irem, ↓wpi_lrem, ↓wpi_iinc, wp1, wp, wpl, wpi, lget, lput1, lput2, ltail, lkill, aV, aVl, aNth, aPut, aFz, aC0, aC2, aSw, aCat1, aCuts, aSet_eq, List.take, List.drop, List.reverse_cons, List.reverse_nil, List.nil_append, List.cons_append, List.length_cons, List.length_nil, Option.toList, true_and, and_true, Nat.reduceAdd, Nat.reduceEqDiff, Nat.reduceLT, Nat.reduceLeDiff, Nat.zero_add, Nat.add_zero, if_true, if_false, ite_true, ite_false, reduceIte, reduceCtorEq, true_or, or_true, not_true_eq_false, not_false_eq_true, false_and, and_false, true_implies, false_implies, not_false_eq_true, bqL_law_818, blL_law_818, bqL_law_825, blL_law_825, bqL_law_830, blL_law_830, bqL_law_842, blL_law_842, eq_self, n0_0, hB, vin01, ncl0, hf, lg_cmp_self]
    exact next
  · refine hb.1.run (aCuts [823, 830, 845] J) 60 818 _ _ _ _ _ _ (aCuts_ok _) ?_
    simp only [↓wpi_isub, ↓wpi_lsub, ↓wpi_ineg, ↓wpi_lneg, ↓wpi_irem, ↓wpi_lrem, ↓wpi_iinc, wp1, wp, wpl, wpi, lget, lput1, lput2, ltail, lkill, aV, aVl, aNth, aPut, aFz, aC0, aC2, aSw, aCat1, aCuts, aSet_eq, List.take, List.drop, List.reverse_cons, List.reverse_nil, List.nil_append, List.cons_append, List.length_cons, List.length_nil, Option.toList, true_and, and_true, Nat.reduceAdd, Nat.reduceEqDiff, Nat.reduceLT, Nat.reduceLeDiff, Nat.zero_add, Nat.add_zero, if_true, if_false, ite_true, ite_false, reduceIte, reduceCtorEq, true_or, or_true, not_true_eq_false, not_false_eq_true, false_and, and_false, true_implies, false_implies, not_false_eq_true, bqL_law_818, blL_law_818, bqL_law_825, blL_law_825, bqL_law_842, blL_law_842, eq_self, n1n0]
    exact next
  · refine hb.1.run (aCuts [823, 830, 845] J) 60 818 _ _ _ _ _ _ (aCuts_ok _) ?_
    simp only [↓wpi_isub, ↓wpi_lsub, ↓wpi_ineg, ↓wpi_lneg, ↓wpi_irem, ↓wpi_lrem, ↓wpi_iinc, wp1, wp, wpl, wpi, lget, lput1, lput2, ltail, lkill, aV, aVl, aNth, aPut, aFz, aC0, aC2, aSw, aCat1, aCuts, aSet_eq, List.take, List.drop, List.reverse_cons, List.reverse_nil, List.nil_append, List.cons_append, List.length_cons, List.length_nil, Option.toList, true_and, and_true, Nat.reduceAdd, Nat.reduceEqDiff, Nat.reduceLT, Nat.reduceLeDiff, Nat.zero_add, Nat.add_zero, if_true, if_false, ite_true, ite_false, reduceIte, reduceCtorEq, true_or, or_true, not_true_eq_false, not_false_eq_true, false_and, and_false, true_implies, false_implies, not_false_eq_true, bqL_law_818, blL_law_818, bqL_law_825, blL_law_825, bqL_law_842, blL_law_842, eq_self, n2n0]
    exact next
set_option maxRecDepth 4000 in
set_option maxHeartbeats 4000000 in
theorem rf_half (hb : aBodyL l G base tA E J) (hk : 5 * jj + 5 ≤ L) (hL : L ≤ 2560) (hnc : nc ≤ 601024) (hns : ns ≤ 7293033) (h : lJ tA S B X M L xs Z Y N N2 t O A) (kk : ∀ (v : Option Value) (O1 : aO) (A1 : aA), (fun (r : Option Value) (O' : aO) (A' : aA) => (∃ k, k < N2 0 0 ∧ (xs (5 * jj + 1)) = nI k ∧ hfP N2 k r ∧ mX Y N2 (nI 0) O A O' A') ∨ (¬ isN N2 (xs (5 * jj + 1)) ∧ r = some (.int (nI 0)) ∧ mX Y N2 (nI 1) O A O' A')) v O1 A1 → J 812 [some (.ref S), some (.ref X), some (.ref M), some (.ref B), some (.int (nI (5 * jj))), some (.int r5), x6] v.toList O1 A1 nc ns) : J 800 [some (.ref S), some (.ref X), some (.ref M), some (.ref B), some (.int (nI (5 * jj))), x5, x6] [.int r5] O A nc ns := by
  obtain ⟨⟨g1, g2, g3⟩, -, ⟨ρ, τ, ex, ht, hm⟩, -, ⟨tS, ys, hS1, hS, hys⟩, -⟩ := h
  subst g3
  have s1 : (tS = 0 ∨ 4 ≤ tS) = True := by simp [hS1]
  have v1 : vp_in (nI (5 * jj + 1)) L := vp_in_nI (by omega) (by omega)
  have c1 := nI_clamp (show 5 * jj + 1 < 2 ^ 31 by omega)
  have y1 := hys (5 * jj + 1) (by omega)
  refine hb.1.run (aCuts [812] J) 60 800 _ _ _ _ _ _ (aCuts_ok _) ?_
  simp only [↓wpi_isub, ↓wpi_lsub, ↓wpi_ineg, ↓wpi_lneg, ↓wpi_irem, ↓wpi_lrem, ↓wpi_iinc, wp1, wp, wpl, wpi, lget, lput1, lput2, ltail, lkill, aV, aVl, aNth, aPut, aFz, aC0, aC2, aSw, aCat1, aCuts, aSet_eq, List.take, List.drop, List.reverse_cons, List.reverse_nil, List.nil_append, List.cons_append, List.length_cons, List.length_nil, Option.toList, true_and, and_true, Nat.reduceAdd, Nat.reduceEqDiff, Nat.reduceLT, Nat.reduceLeDiff, Nat.zero_add, Nat.add_zero, if_true, if_false, ite_true, ite_false, reduceIte, reduceCtorEq, true_or, or_true, not_true_eq_false, not_false_eq_true, false_and, and_false, true_implies, false_implies, not_false_eq_true, bqL_law_800, blL_law_800, hS, s1, nI_add, v1, c1, y1]
  refine ⟨_, _, _, _, hb.1.callV lvL_103 (m_half hm) rfl hm.obj (by decide) hnc hns, ?_, fun _ _ _ h => h.elim⟩
  rintro v O1 A1 hp
  have := kk v O1 A1 hp
  cases v <;> exact this
set_option maxRecDepth 4000 in
set_option maxHeartbeats 8000000 in
theorem st_half (hsT : l.stackTraces = false) (hb : aBodyL l G base tA E J) (hk : 5 * jj + 5 ≤ L) (hL : L ≤ 2560) (hnc : nc + 4 ≤ 601024) (hns : ns + 69 ≤ 7293033) (h : lJ tA S B X M L xs Z Y N N t O A) (next : ∀ (x5 x6 : Option Value) (O1 : aO) (A1 : aA), lI tA S B X M L xs O1 A1 → J 845 [some (.ref S), some (.ref X), some (.ref M), some (.ref B), some (.int (nI (5 * jj))), x5, x6] [] O1 A1 (nc + 4) (ns + 69)) : J 789 [some (.ref S), some (.ref X), some (.ref M), some (.ref B), some (.int (nI (5 * jj))), x5, x6] [] O A nc ns := by
  obtain ⟨⟨g1, g2, g3⟩, ⟨ρ, sg, hc⟩, -, ⟨fB, hB⟩, ⟨tS, ys, hS1, hS, hys⟩, -⟩ := id h
  have hwf := hc.wf
  subst g1
  have s1 : (tS = 0 ∨ 4 ≤ tS) = True := by simp [hS1]
  have v1 : vp_in (nI (5 * jj + 1)) L := vp_in_nI (by omega) (by omega)
  have c1 := nI_clamp (show 5 * jj + 1 < 2 ^ 31 by omega)
  have y1 := hys (5 * jj + 1) (by omega)
  have cl : ∀ {N1 : aN} {O1 : aO} {A1 : aA}, cX tA Z N1 O A O1 A1 → lJ tA S B (Z 37) M L xs Z Y N1 N t O1 A1 ∧ A1 B = A B := fun hx => h.cls hx rfl g2 (fun i => Or.inl rfl)
  refine hb.1.run (aCuts [800] J) 60 789 _ _ _ _ _ _ (aCuts_ok _) ?_
  simp only [↓wpi_isub, ↓wpi_lsub, ↓wpi_ineg, ↓wpi_lneg, ↓wpi_irem, ↓wpi_lrem, ↓wpi_iinc, wp1, wp, wpl, wpi, lget, lput1, lput2, ltail, lkill, aV, aVl, aNth, aPut, aFz, aC0, aC2, aSw, aCat1, aCuts, aSet_eq, List.take, List.drop, List.reverse_cons, List.reverse_nil, List.nil_append, List.cons_append, List.length_cons, List.length_nil, Option.toList, true_and, and_true, Nat.reduceAdd, Nat.reduceEqDiff, Nat.reduceLT, Nat.reduceLeDiff, Nat.zero_add, Nat.add_zero, if_true, if_false, ite_true, ite_false, reduceIte, reduceCtorEq, true_or, or_true, not_true_eq_false, not_false_eq_true, false_and, and_false, true_implies, false_implies, not_false_eq_true, bqL_law_789, blL_law_789, hS, s1, nI_add, v1, c1, y1]
  refine ⟨_, _, _, _, hb.2 lwL_101 (ctL_half (B := B) (w_half hsT hc) hc.obj (fun v O1 A1 hp => ⟨hp.1.elim fun k hp => hp.2.2.elim (fun q => ⟨_, q.2⟩) (fun q => ⟨_, q.2⟩), _, (cl hp.2).2.trans hB⟩)
    (fun n O1 A1 hp => hp.2.1)) rfl (by decide) hnc hns, ?_, fun _ _ _ h => h.elim⟩
  rintro _ O1 A1 (⟨rfl, w, A9, f1, ⟨⟨kc, q1, q3, q5⟩, hx⟩, hf, rfl⟩ | ⟨n, hxx, rfl⟩)
  · obtain ⟨hJ0, -⟩ := cl hx
    have hJ := hJ0.sto (vp_updL f1 0 w.toInt64)
    refine rf_half hb hk hL (show nc + 4 ≤ 601024 from hnc) (show ns + 69 ≤ 7293033 from hns) hJ ?_
    rintro _ O2 A2 (⟨kr, p1, p3, p5, hm⟩ | ⟨hn, -⟩)
    · obtain rfl := iN_uniq hwf q1 p1 (q3.symm.trans p3)
      obtain rfl := hfP_det q5 p5
      obtain ⟨hJ2, hB2⟩ := hJ.ref hm
      exact tl_half hb (show nc + 4 ≤ 601024 from hnc) (show ns + 69 ≤ 7293033 from hns) hJ2 (fun _ => ⟨_, hB2.trans aSet_eq, by rw [upL0]⟩) (Or.inl rfl) (next _ _ _ _ ⟨_, _, _, _, hJ2⟩)
    · exact absurd ⟨kc, q1, q3⟩ hn
  · obtain ⟨hn, rfl, hx⟩ := hxx
    obtain ⟨hJ, -⟩ := cl hx
    refine rf_half hb hk hL (show nc + 4 ≤ 601024 from hnc) (show ns + 69 ≤ 7293033 from hns) hJ ?_
    rintro _ O2 A2 (⟨kr, p1, p3, p5, hm⟩ | ⟨-, rfl, hm⟩)
    · exact absurd ⟨kr, p1, p3⟩ hn
    · obtain ⟨hJ2, hB2⟩ := hJ.ref hm
      exact tl_half hb (show nc + 4 ≤ 601024 from hnc) (show ns + 69 ≤ 7293033 from hns) hJ2 (fun q => absurd q (by decide +kernel)) (Or.inr (Or.inl rfl)) (next _ _ _ _ ⟨_, _, _, _, hJ2⟩)
set_option maxRecDepth 4000 in
set_option maxHeartbeats 4000000 in
theorem tl_apply (hb : aBodyL l G base tA E J) (hnc : nc ≤ 601024) (hns : ns ≤ 7293033) (h : lJ tA S B X M L xs Z Y N N2 r5 O A) (hr : r5 = nI 0 → ∃ f, A B = some (2, 1, .inr (.inl f)) ∧ f 0 = r6.toInt64) (h3 : r5 = nI 0 ∨ r5 = nI 1 ∨ r5 = nI 2) (next : J 845 [some (.ref S), some (.ref X), some (.ref M), some (.ref B), some (.int (nI (5 * jj))), some (.int r5), some (.int r6)] [] O A nc ns) : J 421 [some (.ref S), some (.ref X), some (.ref M), some (.ref B), some (.int (nI (5 * jj))), some (.int r5), x6] [.int r6] O A nc ns := by
  obtain ⟨⟨g1, g2, g3⟩, -, ⟨ρ, τ, ex, ht, hm⟩, -⟩ := h
  subst g3
  refine hb.1.run (aCuts [427] J) 60 421 _ _ _ _ _ _ (aCuts_ok _) ?_
  simp only [↓wpi_isub, ↓wpi_lsub, ↓wpi_ineg, ↓wpi_lneg, ↓wpi_irem, ↓wpi_lrem, ↓wpi_iinc, wp1, wp, wpl, wpi, lget, lput1, lput2, ltail, lkill, aV, aVl, aNth, aPut, aFz, aC0, aC2, aSw, aCat1, aCuts, aSet_eq, List.take, List.drop, List.reverse_cons, List.reverse_nil, List.nil_append, List.cons_append, List.length_cons, List.length_nil, Option.toList, true_and, and_true, Nat.reduceAdd, Nat.reduceEqDiff, Nat.reduceLT, Nat.reduceLeDiff, Nat.zero_add, Nat.add_zero, if_true, if_false, ite_true, ite_false, reduceIte, reduceCtorEq, true_or, or_true, not_true_eq_false, not_false_eq_true, false_and, and_false, true_implies, false_implies, not_false_eq_true, bqL_law_421, blL_law_421]
  refine ⟨_, _, _, _, hb.1.callV lvL_66 (m_thrown hm) rfl hm.obj (by decide) hnc hns, ?_, fun _ _ _ h => h.elim⟩
  rintro _ O1 A1 ⟨rfl, e1, e2⟩
  rw [e1, e2, ht]
  show J 427 [some (.ref S), some (.ref X), some (.ref (Y 0)), some (.ref B), some (.int (nI (5 * jj))), some (.int r5), some (.int r6)] [.int r5] O A nc ns
  rcases h3 with rfl | rfl | rfl
  · obtain ⟨f, hB, hf⟩ := hr rfl
    refine hb.1.run (aCuts [432, 449, 845] J) 60 427 _ _ _ _ _ _ (aCuts_ok _) ?_
    simp only [↓wpi_isub, ↓wpi_lsub, ↓wpi_ineg, ↓wpi_lneg, ↓wpi_irem, ↓wpi_lrem, ↓wpi_iinc, wp1, wp, wpl, wpi, lget, lput1, lput2, ltail, lkill, aV, aVl, aNth, aPut, aFz, aC0, aC2, aSw, aCat1, aCuts, aSet_eq, List.take, List.drop, List.reverse_cons, List.reverse_nil, List.nil_append, List.cons_append, List.length_cons, List.length_nil, Option.toList, true_and, and_true, Nat.reduceAdd, Nat.reduceEqDiff, Nat.reduceLT, Nat.reduceLeDiff, Nat.zero_add, Nat.add_zero, if_true, if_false, ite_true, ite_false, reduceIte, reduceCtorEq, true_or, or_true, not_true_eq_false, not_false_eq_true, false_and, and_false, true_implies, false_implies, not_false_eq_true, bqL_law_427, blL_law_427, bqL_law_434, blL_law_434, bqL_law_439, blL_law_439, bqL_law_451, blL_law_451, eq_self, n0_0, hB, vin01, ncl0, hf, lg_cmp_self]
    exact next
  · refine hb.1.run (aCuts [432, 439, 845] J) 60 427 _ _ _ _ _ _ (aCuts_ok _) ?_
    simp only [↓wpi_isub, ↓wpi_lsub, ↓wpi_ineg, ↓wpi_lneg, ↓wpi_irem, ↓wpi_lrem, ↓wpi_iinc, wp1, wp, wpl, wpi, lget, lput1, lput2, ltail, lkill, aV, aVl, aNth, aPut, aFz, aC0, aC2, aSw, aCat1, aCuts, aSet_eq, List.take, List.drop, List.reverse_cons, List.reverse_nil, List.nil_append, List.cons_append, List.length_cons, List.length_nil, Option.toList, true_and, and_true, Nat.reduceAdd, Nat.reduceEqDiff, Nat.reduceLT, Nat.reduceLeDiff, Nat.zero_add, Nat.add_zero, if_true, if_false, ite_true, ite_false, reduceIte, reduceCtorEq, true_or, or_true, not_true_eq_false, not_false_eq_true, false_and, and_false, true_implies, false_implies, not_false_eq_true, bqL_law_427, blL_law_427, bqL_law_434, blL_law_434, bqL_law_451, blL_law_451, eq_self, n1n0]
    exact next
  · refine hb.1.run (aCuts [432, 439, 845] J) 60 427 _ _ _ _ _ _ (aCuts_ok _) ?_
    simp only [↓wpi_isub, ↓wpi_lsub, ↓wpi_ineg, ↓wpi_lneg, ↓wpi_irem, ↓wpi_lrem, ↓wpi_iinc, wp1, wp, wpl, wpi, lget, lput1, lput2, ltail, lkill, aV, aVl, aNth, aPut, aFz, aC0, aC2, aSw, aCat1, aCuts, aSet_eq, List.take, List.drop, List.reverse_cons, List.reverse_nil, List.nil_append, List.cons_append, List.length_cons, List.length_nil, Option.toList, true_and, and_true, Nat.reduceAdd, Nat.reduceEqDiff, Nat.reduceLT, Nat.reduceLeDiff, Nat.zero_add, Nat.add_zero, if_true, if_false, ite_true, ite_false, reduceIte, reduceCtorEq, true_or, or_true, not_true_eq_false, not_false_eq_true, false_and, and_false, true_implies, false_implies, not_false_eq_true, bqL_law_427, blL_law_427, bqL_law_434, blL_law_434, bqL_law_451, blL_law_451, eq_self, n2n0]
    exact next
set_option maxRecDepth 4000 in
set_option maxHeartbeats 4000000 in
theorem rf_apply (hb : aBodyL l G base tA E J) (hk : 5 * jj + 5 ≤ L) (hL : L ≤ 2560) (hnc : nc ≤ 601024) (hns : ns ≤ 7293033) (h : lJ tA S B X M L xs Z Y N N2 t O A) (kk : ∀ (v : Option Value) (O1 : aO) (A1 : aA), (fun (r : Option Value) (O' : aO) (A' : aA) => (∃ N', apQ N2 (xs (5 * jj + 1)) (xs (5 * jj + 2)) (xs (5 * jj + 3)) (xs (5 * jj + 4)) r N' ∧ mX Y N' (nI 0) O A O' A') ∨ (apX N2 (xs (5 * jj + 1)) (xs (5 * jj + 2)) (xs (5 * jj + 3)) (xs (5 * jj + 4)) ∧ r = some (.int (nI 0)) ∧ mX Y N2 (nI 2) O A O' A') ∨ (¬ (isN N2 (xs (5 * jj + 2)) ∧ isN N2 (xs (5 * jj + 4)) ∧ ((xs (5 * jj + 1)) = nI 5 ∨ isN N2 (xs (5 * jj + 3)))) ∧ r = some (.int (nI 0)) ∧ mX Y N2 (nI 1) O A O' A')) v O1 A1 → J 421 [some (.ref S), some (.ref X), some (.ref M), some (.ref B), some (.int (nI (5 * jj))), some (.int r5), x6] v.toList O1 A1 nc ns) : J 391 [some (.ref S), some (.ref X), some (.ref M), some (.ref B), some (.int (nI (5 * jj))), x5, x6] [.int r5] O A nc ns := by
  obtain ⟨⟨g1, g2, g3⟩, -, ⟨ρ, τ, ex, ht, hm⟩, -, ⟨tS, ys, hS1, hS, hys⟩, -⟩ := h
  subst g3
  have s1 : (tS = 0 ∨ 4 ≤ tS) = True := by simp [hS1]
  have v1 : vp_in (nI (5 * jj + 1)) L := vp_in_nI (by omega) (by omega)
  have c1 := nI_clamp (show 5 * jj + 1 < 2 ^ 31 by omega)
  have y1 := hys (5 * jj + 1) (by omega)
  have v2 : vp_in (nI (5 * jj + 2)) L := vp_in_nI (by omega) (by omega)
  have c2 := nI_clamp (show 5 * jj + 2 < 2 ^ 31 by omega)
  have y2 := hys (5 * jj + 2) (by omega)
  have v3 : vp_in (nI (5 * jj + 3)) L := vp_in_nI (by omega) (by omega)
  have c3 := nI_clamp (show 5 * jj + 3 < 2 ^ 31 by omega)
  have y3 := hys (5 * jj + 3) (by omega)
  have v4 : vp_in (nI (5 * jj + 4)) L := vp_in_nI (by omega) (by omega)
  have c4 := nI_clamp (show 5 * jj + 4 < 2 ^ 31 by omega)
  have y4 := hys (5 * jj + 4) (by omega)
  refine hb.1.run (aCuts [421] J) 60 391 _ _ _ _ _ _ (aCuts_ok _) ?_
  simp only [↓wpi_isub, ↓wpi_lsub, ↓wpi_ineg, ↓wpi_lneg, ↓wpi_irem, ↓wpi_lrem, ↓wpi_iinc, wp1, wp, wpl, wpi, lget, lput1, lput2, ltail, lkill, aV, aVl, aNth, aPut, aFz, aC0, aC2, aSw, aCat1, aCuts, aSet_eq, List.take, List.drop, List.reverse_cons, List.reverse_nil, List.nil_append, List.cons_append, List.length_cons, List.length_nil, Option.toList, true_and, and_true, Nat.reduceAdd, Nat.reduceEqDiff, Nat.reduceLT, Nat.reduceLeDiff, Nat.zero_add, Nat.add_zero, if_true, if_false, ite_true, ite_false, reduceIte, reduceCtorEq, true_or, or_true, not_true_eq_false, not_false_eq_true, false_and, and_false, true_implies, false_implies, not_false_eq_true, bqL_law_391, blL_law_391, hS, s1, nI_add, v1, c1, y1, v2, c2, y2, v3, c3, y3, v4, c4, y4]
  refine ⟨_, _, _, _, hb.1.callV lvL_85 (m_apply hm) rfl hm.obj (by decide) hnc hns, ?_, fun _ _ _ h => h.elim⟩
  rintro v O1 A1 hp
  have := kk v O1 A1 hp
  cases v <;> exact this
set_option maxRecDepth 4000 in
set_option maxHeartbeats 8000000 in
theorem st_apply (hsT : l.stackTraces = false) (hb : aBodyL l G base tA E J) (hk : 5 * jj + 5 ≤ L) (hL : L ≤ 2560) (hnc : nc + 4 ≤ 601024) (hns : ns + 69 ≤ 7293033) (h : lJ tA S B X M L xs Z Y N N t O A) (next : ∀ (x5 x6 : Option Value) (O1 : aO) (A1 : aA), lI tA S B X M L xs O1 A1 → J 845 [some (.ref S), some (.ref X), some (.ref M), some (.ref B), some (.int (nI (5 * jj))), x5, x6] [] O1 A1 (nc + 4) (ns + 69)) : J 362 [some (.ref S), some (.ref X), some (.ref M), some (.ref B), some (.int (nI (5 * jj))), x5, x6] [] O A nc ns := by
  obtain ⟨⟨g1, g2, g3⟩, ⟨ρ, sg, hc⟩, -, ⟨fB, hB⟩, ⟨tS, ys, hS1, hS, hys⟩, -⟩ := id h
  have hwf := hc.wf
  subst g1
  have s1 : (tS = 0 ∨ 4 ≤ tS) = True := by simp [hS1]
  have v1 : vp_in (nI (5 * jj + 1)) L := vp_in_nI (by omega) (by omega)
  have c1 := nI_clamp (show 5 * jj + 1 < 2 ^ 31 by omega)
  have y1 := hys (5 * jj + 1) (by omega)
  have v2 : vp_in (nI (5 * jj + 2)) L := vp_in_nI (by omega) (by omega)
  have c2 := nI_clamp (show 5 * jj + 2 < 2 ^ 31 by omega)
  have y2 := hys (5 * jj + 2) (by omega)
  have v3 : vp_in (nI (5 * jj + 3)) L := vp_in_nI (by omega) (by omega)
  have c3 := nI_clamp (show 5 * jj + 3 < 2 ^ 31 by omega)
  have y3 := hys (5 * jj + 3) (by omega)
  have v4 : vp_in (nI (5 * jj + 4)) L := vp_in_nI (by omega) (by omega)
  have c4 := nI_clamp (show 5 * jj + 4 < 2 ^ 31 by omega)
  have y4 := hys (5 * jj + 4) (by omega)
  have cl : ∀ {N1 : aN} {O1 : aO} {A1 : aA}, cX tA Z N1 O A O1 A1 → lJ tA S B (Z 37) M L xs Z Y N1 N t O1 A1 ∧ A1 B = A B := fun hx => h.cls hx rfl g2 (fun i => Or.inl rfl)
  refine hb.1.run (aCuts [391] J) 60 362 _ _ _ _ _ _ (aCuts_ok _) ?_
  simp only [↓wpi_isub, ↓wpi_lsub, ↓wpi_ineg, ↓wpi_lneg, ↓wpi_irem, ↓wpi_lrem, ↓wpi_iinc, wp1, wp, wpl, wpi, lget, lput1, lput2, ltail, lkill, aV, aVl, aNth, aPut, aFz, aC0, aC2, aSw, aCat1, aCuts, aSet_eq, List.take, List.drop, List.reverse_cons, List.reverse_nil, List.nil_append, List.cons_append, List.length_cons, List.length_nil, Option.toList, true_and, and_true, Nat.reduceAdd, Nat.reduceEqDiff, Nat.reduceLT, Nat.reduceLeDiff, Nat.zero_add, Nat.add_zero, if_true, if_false, ite_true, ite_false, reduceIte, reduceCtorEq, true_or, or_true, not_true_eq_false, not_false_eq_true, false_and, and_false, true_implies, false_implies, not_false_eq_true, bqL_law_362, blL_law_362, hS, s1, nI_add, v1, c1, y1, v2, c2, y2, v3, c3, y3, v4, c4, y4]
  refine ⟨_, _, _, _, hb.2 lwL_82 (ctL_apply (B := B) (w_apply hsT hc) hc.obj (fun v O1 A1 hp => by
      obtain ⟨N9, q1, q2⟩ := hp
      exact ⟨(apQn q1).2, _, (cl q2).2.trans hB⟩)
    (fun n O1 A1 hp => hp.1.elim (fun q => Or.inl q.1) (fun q => Or.inr q.1))) rfl (by decide) hnc hns, ?_, fun _ _ _ h => h.elim⟩
  rintro _ O1 A1 (⟨rfl, w, A9, f1, ⟨N1, q5, hx⟩, hf, rfl⟩ | ⟨n, hxx, rfl⟩)
  · obtain ⟨hJ0, -⟩ := cl hx
    have hJ := hJ0.sto (vp_updL f1 0 w.toInt64)
    refine rf_apply hb hk hL (show nc + 4 ≤ 601024 from hnc) (show ns + 69 ≤ 7293033 from hns) hJ ?_
    rintro _ O2 A2 (⟨N9, p5, hm⟩ | ⟨hX, -⟩ | ⟨hn, -⟩)
    · obtain ⟨rfl, rfl⟩ := apQ_det hwf q5 p5
      obtain ⟨hJ2, hB2⟩ := hJ.ref hm
      exact tl_apply hb (show nc + 4 ≤ 601024 from hnc) (show ns + 69 ≤ 7293033 from hns) hJ2 (fun _ => ⟨_, hB2.trans aSet_eq, by rw [upL0]⟩) (Or.inl rfl) (next _ _ _ _ ⟨_, _, _, _, hJ2⟩)
    · exact (apQX hwf q5 hX).elim
    · exact absurd (apQn q5).1 hn
  · obtain ⟨⟨rfl, hn⟩ | ⟨rfl, hX⟩, hx⟩ := hxx
    · obtain ⟨hJ, -⟩ := cl hx
      refine rf_apply hb hk hL (show nc + 4 ≤ 601024 from hnc) (show ns + 69 ≤ 7293033 from hns) hJ ?_
      rintro _ O2 A2 (⟨N9, p5, hm⟩ | ⟨hX, -⟩ | ⟨-, rfl, hm⟩)
      · exact absurd (apQn p5).1 hn
      · exact absurd (apXn hX) hn
      · obtain ⟨hJ2, hB2⟩ := hJ.ref hm
        exact tl_apply hb (show nc + 4 ≤ 601024 from hnc) (show ns + 69 ≤ 7293033 from hns) hJ2 (fun q => absurd q (by decide +kernel)) (Or.inr (Or.inl rfl)) (next _ _ _ _ ⟨_, _, _, _, hJ2⟩)
    · obtain ⟨hJ, -⟩ := cl hx
      refine rf_apply hb hk hL (show nc + 4 ≤ 601024 from hnc) (show ns + 69 ≤ 7293033 from hns) hJ ?_
      rintro _ O2 A2 (⟨N9, p5, hm⟩ | ⟨-, rfl, hm⟩ | ⟨hn, -⟩)
      · exact (apQX hwf p5 hX).elim
      · obtain ⟨hJ2, hB2⟩ := hJ.ref hm
        exact tl_apply hb (show nc + 4 ≤ 601024 from hnc) (show ns + 69 ≤ 7293033 from hns) hJ2 (fun q => absurd q (by decide +kernel)) (Or.inr (Or.inr rfl)) (next _ _ _ _ ⟨_, _, _, _, hJ2⟩)
      · exact absurd (apXn hX) hn
set_option maxRecDepth 4000 in
set_option maxHeartbeats 4000000 in
theorem tl_number (hb : aBodyL l G base tA E J) (hnc : nc ≤ 601024) (hns : ns ≤ 7293033) (h : lJ tA S B X M L xs Z Y N N2 r5 O A) (hr : r5 = nI 0 → ∃ f, A B = some (2, 1, .inr (.inl f)) ∧ f 0 = r6.toInt64) (h3 : r5 = nI 0 ∨ r5 = nI 1 ∨ r5 = nI 2) (next : J 845 [some (.ref S), some (.ref X), some (.ref M), some (.ref B), some (.int (nI (5 * jj))), some (.int r5), some (.int r6)] [] O A nc ns) : J 143 [some (.ref S), some (.ref X), some (.ref M), some (.ref B), some (.int (nI (5 * jj))), some (.int r5), x6] [.int r6] O A nc ns := by
  obtain ⟨⟨g1, g2, g3⟩, -, ⟨ρ, τ, ex, ht, hm⟩, -⟩ := h
  subst g3
  refine hb.1.run (aCuts [149] J) 60 143 _ _ _ _ _ _ (aCuts_ok _) ?_
  simp only [↓wpi_isub, ↓wpi_lsub, ↓wpi_ineg, ↓wpi_lneg, ↓wpi_irem, ↓wpi_lrem, ↓wpi_iinc, wp1, wp, wpl, wpi, lget, lput1, lput2, ltail, lkill, aV, aVl, aNth, aPut, aFz, aC0, aC2, aSw, aCat1, aCuts, aSet_eq, List.take, List.drop, List.reverse_cons, List.reverse_nil, List.nil_append, List.cons_append, List.length_cons, List.length_nil, Option.toList, true_and, and_true, Nat.reduceAdd, Nat.reduceEqDiff, Nat.reduceLT, Nat.reduceLeDiff, Nat.zero_add, Nat.add_zero, if_true, if_false, ite_true, ite_false, reduceIte, reduceCtorEq, true_or, or_true, not_true_eq_false, not_false_eq_true, false_and, and_false, true_implies, false_implies, not_false_eq_true, bqL_law_143, blL_law_143]
  refine ⟨_, _, _, _, hb.1.callV lvL_66 (m_thrown hm) rfl hm.obj (by decide) hnc hns, ?_, fun _ _ _ h => h.elim⟩
  rintro _ O1 A1 ⟨rfl, e1, e2⟩
  rw [e1, e2, ht]
  show J 149 [some (.ref S), some (.ref X), some (.ref (Y 0)), some (.ref B), some (.int (nI (5 * jj))), some (.int r5), some (.int r6)] [.int r5] O A nc ns
  rcases h3 with rfl | rfl | rfl
  · obtain ⟨f, hB, hf⟩ := hr rfl
    refine hb.1.run (aCuts [154, 171, 845] J) 60 149 _ _ _ _ _ _ (aCuts_ok _) ?_
    simp only [↓wpi_isub, ↓wpi_lsub, ↓wpi_ineg, ↓wpi_lneg, ↓wpi_irem, ↓wpi_lrem, ↓wpi_iinc, wp1, wp, wpl, wpi, lget, lput1, lput2, ltail, lkill, aV, aVl, aNth, aPut, aFz, aC0, aC2, aSw, aCat1, aCuts, aSet_eq, List.take, List.drop, List.reverse_cons, List.reverse_nil, List.nil_append, List.cons_append, List.length_cons, List.length_nil, Option.toList, true_and, and_true, Nat.reduceAdd, Nat.reduceEqDiff, Nat.reduceLT, Nat.reduceLeDiff, Nat.zero_add, Nat.add_zero, if_true, if_false, ite_true, ite_false, reduceIte, reduceCtorEq, true_or, or_true, not_true_eq_false, not_false_eq_true, false_and, and_false, true_implies, false_implies, not_false_eq_true, bqL_law_149, blL_law_149, bqL_law_156, blL_law_156, bqL_law_161, blL_law_161, bqL_law_173, blL_law_173, eq_self, n0_0, hB, vin01, ncl0, hf, lg_cmp_self]
    exact next
  · refine hb.1.run (aCuts [154, 161, 845] J) 60 149 _ _ _ _ _ _ (aCuts_ok _) ?_
    simp only [↓wpi_isub, ↓wpi_lsub, ↓wpi_ineg, ↓wpi_lneg, ↓wpi_irem, ↓wpi_lrem, ↓wpi_iinc, wp1, wp, wpl, wpi, lget, lput1, lput2, ltail, lkill, aV, aVl, aNth, aPut, aFz, aC0, aC2, aSw, aCat1, aCuts, aSet_eq, List.take, List.drop, List.reverse_cons, List.reverse_nil, List.nil_append, List.cons_append, List.length_cons, List.length_nil, Option.toList, true_and, and_true, Nat.reduceAdd, Nat.reduceEqDiff, Nat.reduceLT, Nat.reduceLeDiff, Nat.zero_add, Nat.add_zero, if_true, if_false, ite_true, ite_false, reduceIte, reduceCtorEq, true_or, or_true, not_true_eq_false, not_false_eq_true, false_and, and_false, true_implies, false_implies, not_false_eq_true, bqL_law_149, blL_law_149, bqL_law_156, blL_law_156, bqL_law_173, blL_law_173, eq_self, n1n0]
    exact next
  · refine hb.1.run (aCuts [154, 161, 845] J) 60 149 _ _ _ _ _ _ (aCuts_ok _) ?_
    simp only [↓wpi_isub, ↓wpi_lsub, ↓wpi_ineg, ↓wpi_lneg, ↓wpi_irem, ↓wpi_lrem, ↓wpi_iinc, wp1, wp, wpl, wpi, lget, lput1, lput2, ltail, lkill, aV, aVl, aNth, aPut, aFz, aC0, aC2, aSw, aCat1, aCuts, aSet_eq, List.take, List.drop, List.reverse_cons, List.reverse_nil, List.nil_append, List.cons_append, List.length_cons, List.length_nil, Option.toList, true_and, and_true, Nat.reduceAdd, Nat.reduceEqDiff, Nat.reduceLT, Nat.reduceLeDiff, Nat.zero_add, Nat.add_zero, if_true, if_false, ite_true, ite_false, reduceIte, reduceCtorEq, true_or, or_true, not_true_eq_false, not_false_eq_true, false_and, and_false, true_implies, false_implies, not_false_eq_true, bqL_law_149, blL_law_149, bqL_law_156, blL_law_156, bqL_law_173, blL_law_173, eq_self, n2n0]
    exact next
set_option maxRecDepth 4000 in
set_option maxHeartbeats 4000000 in
theorem rf_number (hb : aBodyL l G base tA E J) (hk : 5 * jj + 5 ≤ L) (hL : L ≤ 2560) (hnc : nc ≤ 601024) (hns : ns ≤ 7293033) (h : lJ tA S B X M L xs Z Y N N2 t O A) (kk : ∀ (v : Option Value) (O1 : aO) (A1 : aA), (fun (r : Option Value) (O' : aO) (A' : aA) => (¬ (xs (5 * jj + 2)) < 0 ∧ ∃ N', nmP N2 (xs (5 * jj + 1)) (xs (5 * jj + 2)) (xs (5 * jj + 3)) r N' ∧ mX Y N' (nI 0) O A O' A') ∨ ((xs (5 * jj + 2)) < 0 ∧ (∃ v, r = some (.int v)) ∧ mX Y N2 (nI 1) O A O' A')) v O1 A1 → J 143 [some (.ref S), some (.ref X), some (.ref M), some (.ref B), some (.int (nI (5 * jj))), some (.int r5), x6] v.toList O1 A1 nc ns) : J 119 [some (.ref S), some (.ref X), some (.ref M), some (.ref B), some (.int (nI (5 * jj))), x5, x6] [.int r5] O A nc ns := by
  obtain ⟨⟨g1, g2, g3⟩, -, ⟨ρ, τ, ex, ht, hm⟩, -, ⟨tS, ys, hS1, hS, hys⟩, -⟩ := h
  subst g3
  have s1 : (tS = 0 ∨ 4 ≤ tS) = True := by simp [hS1]
  have v1 : vp_in (nI (5 * jj + 1)) L := vp_in_nI (by omega) (by omega)
  have c1 := nI_clamp (show 5 * jj + 1 < 2 ^ 31 by omega)
  have y1 := hys (5 * jj + 1) (by omega)
  have v2 : vp_in (nI (5 * jj + 2)) L := vp_in_nI (by omega) (by omega)
  have c2 := nI_clamp (show 5 * jj + 2 < 2 ^ 31 by omega)
  have y2 := hys (5 * jj + 2) (by omega)
  have v3 : vp_in (nI (5 * jj + 3)) L := vp_in_nI (by omega) (by omega)
  have c3 := nI_clamp (show 5 * jj + 3 < 2 ^ 31 by omega)
  have y3 := hys (5 * jj + 3) (by omega)
  refine hb.1.run (aCuts [143] J) 60 119 _ _ _ _ _ _ (aCuts_ok _) ?_
  simp only [↓wpi_isub, ↓wpi_lsub, ↓wpi_ineg, ↓wpi_lneg, ↓wpi_irem, ↓wpi_lrem, ↓wpi_iinc, wp1, wp, wpl, wpi, lget, lput1, lput2, ltail, lkill, aV, aVl, aNth, aPut, aFz, aC0, aC2, aSw, aCat1, aCuts, aSet_eq, List.take, List.drop, List.reverse_cons, List.reverse_nil, List.nil_append, List.cons_append, List.length_cons, List.length_nil, Option.toList, true_and, and_true, Nat.reduceAdd, Nat.reduceEqDiff, Nat.reduceLT, Nat.reduceLeDiff, Nat.zero_add, Nat.add_zero, if_true, if_false, ite_true, ite_false, reduceIte, reduceCtorEq, true_or, or_true, not_true_eq_false, not_false_eq_true, false_and, and_false, true_implies, false_implies, not_false_eq_true, bqL_law_119, blL_law_119, hS, s1, nI_add, v1, c1, y1, v2, c2, y2, v3, c3, y3]
  refine ⟨_, _, _, _, hb.1.callV lvL_65 (m_number hm) rfl hm.obj (by decide) hnc hns, ?_, fun _ _ _ h => h.elim⟩
  rintro v O1 A1 hp
  have := kk v O1 A1 hp
  cases v <;> exact this
set_option maxRecDepth 4000 in
set_option maxHeartbeats 8000000 in
theorem st_number (hsT : l.stackTraces = false) (hb : aBodyL l G base tA E J) (hk : 5 * jj + 5 ≤ L) (hL : L ≤ 2560) (hnc : nc + 4 ≤ 601024) (hns : ns + 69 ≤ 7293033) (h : lJ tA S B X M L xs Z Y N N t O A) (next : ∀ (x5 x6 : Option Value) (O1 : aO) (A1 : aA), lI tA S B X M L xs O1 A1 → J 845 [some (.ref S), some (.ref X), some (.ref M), some (.ref B), some (.int (nI (5 * jj))), x5, x6] [] O1 A1 (nc + 4) (ns + 69)) : J 96 [some (.ref S), some (.ref X), some (.ref M), some (.ref B), some (.int (nI (5 * jj))), x5, x6] [] O A nc ns := by
  obtain ⟨⟨g1, g2, g3⟩, ⟨ρ, sg, hc⟩, -, ⟨fB, hB⟩, ⟨tS, ys, hS1, hS, hys⟩, -⟩ := id h
  have hwf := hc.wf
  subst g1
  have s1 : (tS = 0 ∨ 4 ≤ tS) = True := by simp [hS1]
  have v1 : vp_in (nI (5 * jj + 1)) L := vp_in_nI (by omega) (by omega)
  have c1 := nI_clamp (show 5 * jj + 1 < 2 ^ 31 by omega)
  have y1 := hys (5 * jj + 1) (by omega)
  have v2 : vp_in (nI (5 * jj + 2)) L := vp_in_nI (by omega) (by omega)
  have c2 := nI_clamp (show 5 * jj + 2 < 2 ^ 31 by omega)
  have y2 := hys (5 * jj + 2) (by omega)
  have v3 : vp_in (nI (5 * jj + 3)) L := vp_in_nI (by omega) (by omega)
  have c3 := nI_clamp (show 5 * jj + 3 < 2 ^ 31 by omega)
  have y3 := hys (5 * jj + 3) (by omega)
  have cl : ∀ {N1 : aN} {O1 : aO} {A1 : aA}, cX tA Z N1 O A O1 A1 → lJ tA S B (Z 37) M L xs Z Y N1 N t O1 A1 ∧ A1 B = A B := fun hx => h.cls hx rfl g2 (fun i => Or.inl rfl)
  refine hb.1.run (aCuts [119] J) 60 96 _ _ _ _ _ _ (aCuts_ok _) ?_
  simp only [↓wpi_isub, ↓wpi_lsub, ↓wpi_ineg, ↓wpi_lneg, ↓wpi_irem, ↓wpi_lrem, ↓wpi_iinc, wp1, wp, wpl, wpi, lget, lput1, lput2, ltail, lkill, aV, aVl, aNth, aPut, aFz, aC0, aC2, aSw, aCat1, aCuts, aSet_eq, List.take, List.drop, List.reverse_cons, List.reverse_nil, List.nil_append, List.cons_append, List.length_cons, List.length_nil, Option.toList, true_and, and_true, Nat.reduceAdd, Nat.reduceEqDiff, Nat.reduceLT, Nat.reduceLeDiff, Nat.zero_add, Nat.add_zero, if_true, if_false, ite_true, ite_false, reduceIte, reduceCtorEq, true_or, or_true, not_true_eq_false, not_false_eq_true, false_and, and_false, true_implies, false_implies, not_false_eq_true, bqL_law_96, blL_law_96, hS, s1, nI_add, v1, c1, y1, v2, c2, y2, v3, c3, y3]
  refine ⟨_, _, _, _, hb.2 lwL_60 (ctL_number (B := B) (w_number hsT hc g2) hc.obj (fun v O1 A1 hp => by
      obtain ⟨-, N9, Z9, q1, q2, q3, q4, q5⟩ := hp
      exact ⟨q1.elim (fun ⟨u, d, s, q⟩ => ⟨_, q.2.1⟩) (fun q => ⟨_, q.2.1⟩), _, (h.cls q2 q3 q4 q5).2.trans hB⟩)
    (fun n O1 A1 hp => hp.2.1)) rfl (by decide) hnc hns, ?_, fun _ _ _ h => h.elim⟩
  rintro _ O1 A1 (⟨rfl, w, A9, f1, ⟨hy0, N1, Z1, q5, hx, z1, z2, z3⟩, hf, rfl⟩ | ⟨n, hxx, rfl⟩)
  · obtain ⟨hJ0, -⟩ := h.cls hx z1 z2 z3
    have hJ := hJ0.sto (vp_updL f1 0 w.toInt64)
    refine rf_number hb hk hL (show nc + 4 ≤ 601024 from hnc) (show ns + 69 ≤ 7293033 from hns) hJ ?_
    rintro _ O2 A2 (⟨-, N9, p5, hm⟩ | ⟨hn, -⟩)
    · obtain ⟨rfl, rfl⟩ := nmP_det q5 p5
      obtain ⟨hJ2, hB2⟩ := hJ.ref hm
      exact tl_number hb (show nc + 4 ≤ 601024 from hnc) (show ns + 69 ≤ 7293033 from hns) hJ2 (fun _ => ⟨_, hB2.trans aSet_eq, by rw [upL0]⟩) (Or.inl rfl) (next _ _ _ _ ⟨_, _, _, _, hJ2⟩)
    · exact absurd hn hy0
  · obtain ⟨hy0, rfl, hx⟩ := hxx
    obtain ⟨hJ, -⟩ := cl hx
    refine rf_number hb hk hL (show nc + 4 ≤ 601024 from hnc) (show ns + 69 ≤ 7293033 from hns) hJ ?_
    rintro _ O2 A2 (⟨hn, -⟩ | ⟨-, ⟨v, rfl⟩, hm⟩)
    · exact absurd hy0 hn
    · obtain ⟨hJ2, hB2⟩ := hJ.ref hm
      exact tl_number hb (show nc + 4 ≤ 601024 from hnc) (show ns + 69 ≤ 7293033 from hns) hJ2 (fun q => absurd q (by decide +kernel)) (Or.inr (Or.inl rfl)) (next _ _ _ _ ⟨_, _, _, _, hJ2⟩)
set_option maxRecDepth 4000 in
set_option maxHeartbeats 4000000 in
theorem tl_octet (hb : aBodyL l G base tA E J) (hnc : nc ≤ 601024) (hns : ns ≤ 7293033) (h : lJ tA S B X M L xs Z Y N N2 r5 O A) (next : J 845 [some (.ref S), some (.ref X), some (.ref M), some (.ref B), some (.int (nI (5 * jj))), some (.int r5), x6] [] O A nc ns) : J 224 [some (.ref S), some (.ref X), some (.ref M), some (.ref B), some (.int (nI (5 * jj))), some (.int r5), x6] [] O A nc ns := by
  obtain ⟨⟨g1, g2, g3⟩, -, ⟨ρ, τ, ex, ht, hm⟩, -⟩ := h
  subst g3
  refine hb.1.run (aCuts [228] J) 60 224 _ _ _ _ _ _ (aCuts_ok _) ?_
  simp only [↓wpi_isub, ↓wpi_lsub, ↓wpi_ineg, ↓wpi_lneg, ↓wpi_irem, ↓wpi_lrem, ↓wpi_iinc, wp1, wp, wpl, wpi, lget, lput1, lput2, ltail, lkill, aV, aVl, aNth, aPut, aFz, aC0, aC2, aSw, aCat1, aCuts, aSet_eq, List.take, List.drop, List.reverse_cons, List.reverse_nil, List.nil_append, List.cons_append, List.length_cons, List.length_nil, Option.toList, true_and, and_true, Nat.reduceAdd, Nat.reduceEqDiff, Nat.reduceLT, Nat.reduceLeDiff, Nat.zero_add, Nat.add_zero, if_true, if_false, ite_true, ite_false, reduceIte, reduceCtorEq, true_or, or_true, not_true_eq_false, not_false_eq_true, false_and, and_false, true_implies, false_implies, not_false_eq_true, bqL_law_224, blL_law_224]
  refine ⟨_, _, _, _, hb.1.callV lvL_66 (m_thrown hm) rfl hm.obj (by decide) hnc hns, ?_, fun _ _ _ h => h.elim⟩
  rintro _ O1 A1 ⟨rfl, e1, e2⟩
  rw [e1, e2, ht]
  show J 228 [some (.ref S), some (.ref X), some (.ref (Y 0)), some (.ref B), some (.int (nI (5 * jj))), some (.int r5), x6] [.int r5] O A nc ns
  refine hb.1.run (aCuts [233, 845] J) 60 228 _ _ _ _ _ _ (aCuts_ok _) ?_
  simp only [↓wpi_isub, ↓wpi_lsub, ↓wpi_ineg, ↓wpi_lneg, ↓wpi_irem, ↓wpi_lrem, ↓wpi_iinc, wp1, wp, wpl, wpi, lget, lput1, lput2, ltail, lkill, aV, aVl, aNth, aPut, aFz, aC0, aC2, aSw, aCat1, aCuts, aSet_eq, List.take, List.drop, List.reverse_cons, List.reverse_nil, List.nil_append, List.cons_append, List.length_cons, List.length_nil, Option.toList, true_and, and_true, Nat.reduceAdd, Nat.reduceEqDiff, Nat.reduceLT, Nat.reduceLeDiff, Nat.zero_add, Nat.add_zero, if_true, if_false, ite_true, ite_false, reduceIte, reduceCtorEq, true_or, or_true, not_true_eq_false, not_false_eq_true, false_and, and_false, true_implies, false_implies, not_false_eq_true, bqL_law_228, blL_law_228, bqL_law_235, blL_law_235, eq_self]
  exact next
set_option maxRecDepth 4000 in
set_option maxHeartbeats 4000000 in
theorem rf_octet (hb : aBodyL l G base tA E J) (hk : 5 * jj + 5 ≤ L) (hL : L ≤ 2560) (hnc : nc ≤ 601024) (hns : ns ≤ 7293033) {w : Nat} (hw : w < 2 ^ 32) (hwe : (xs (5 * jj + 3)).toInt8.toInt32 = nI w) (h : lJ tA S B X M L xs Z Y N N2 t O A) (kk : ∀ (v : Option Value) (O1 : aO) (A1 : aA), (fun (r : Option Value) (O' : aO) (A' : aA) => r = none ∧ ((∃ k i, k < N2 0 0 ∧ i < N2 5 k ∧ (xs (5 * jj + 1)) = nI k ∧ (xs (5 * jj + 2)) = nI i ∧ mX Y (nU N2 (6 + k) i (w % 256)) (nI 0) O A O' A') ∨ (¬ isB N2 (xs (5 * jj + 1)) (xs (5 * jj + 2)) ∧ mX Y N2 (nI 1) O A O' A'))) v O1 A1 → J 224 [some (.ref S), some (.ref X), some (.ref M), some (.ref B), some (.int (nI (5 * jj))), some (.int r5), x6] v.toList O1 A1 nc ns) : J 199 [some (.ref S), some (.ref X), some (.ref M), some (.ref B), some (.int (nI (5 * jj))), x5, x6] [.int r5] O A nc ns := by
  obtain ⟨⟨g1, g2, g3⟩, -, ⟨ρ, τ, ex, ht, hm⟩, -, ⟨tS, ys, hS1, hS, hys⟩, -⟩ := h
  subst g3
  have s1 : (tS = 0 ∨ 4 ≤ tS) = True := by simp [hS1]
  have v1 : vp_in (nI (5 * jj + 1)) L := vp_in_nI (by omega) (by omega)
  have c1 := nI_clamp (show 5 * jj + 1 < 2 ^ 31 by omega)
  have y1 := hys (5 * jj + 1) (by omega)
  have v2 : vp_in (nI (5 * jj + 2)) L := vp_in_nI (by omega) (by omega)
  have c2 := nI_clamp (show 5 * jj + 2 < 2 ^ 31 by omega)
  have y2 := hys (5 * jj + 2) (by omega)
  have v3 : vp_in (nI (5 * jj + 3)) L := vp_in_nI (by omega) (by omega)
  have c3 := nI_clamp (show 5 * jj + 3 < 2 ^ 31 by omega)
  have y3 := hys (5 * jj + 3) (by omega)
  refine hb.1.run (aCuts [224] J) 60 199 _ _ _ _ _ _ (aCuts_ok _) ?_
  simp only [↓wpi_isub, ↓wpi_lsub, ↓wpi_ineg, ↓wpi_lneg, ↓wpi_irem, ↓wpi_lrem, ↓wpi_iinc, wp1, wp, wpl, wpi, lget, lput1, lput2, ltail, lkill, aV, aVl, aNth, aPut, aFz, aC0, aC2, aSw, aCat1, aCuts, aSet_eq, List.take, List.drop, List.reverse_cons, List.reverse_nil, List.nil_append, List.cons_append, List.length_cons, List.length_nil, Option.toList, true_and, and_true, Nat.reduceAdd, Nat.reduceEqDiff, Nat.reduceLT, Nat.reduceLeDiff, Nat.zero_add, Nat.add_zero, if_true, if_false, ite_true, ite_false, reduceIte, reduceCtorEq, true_or, or_true, not_true_eq_false, not_false_eq_true, false_and, and_false, true_implies, false_implies, not_false_eq_true, bqL_law_199, blL_law_199, hS, s1, nI_add, v1, c1, y1, v2, c2, y2, v3, c3, y3, hwe]
  refine ⟨_, _, _, _, hb.1.callV lvL_73 (m_octet hm hw) rfl hm.obj (by decide) hnc hns, ?_, fun _ _ _ h => h.elim⟩
  rintro v O1 A1 hp
  have := kk v O1 A1 hp
  cases v <;> exact this
set_option maxRecDepth 4000 in
set_option maxHeartbeats 8000000 in
theorem st_octet (hsT : l.stackTraces = false) (hb : aBodyL l G base tA E J) (hk : 5 * jj + 5 ≤ L) (hL : L ≤ 2560) (hnc : nc + 4 ≤ 601024) (hns : ns + 69 ≤ 7293033) (h : lJ tA S B X M L xs Z Y N N t O A) (next : ∀ (x5 x6 : Option Value) (O1 : aO) (A1 : aA), lI tA S B X M L xs O1 A1 → J 845 [some (.ref S), some (.ref X), some (.ref M), some (.ref B), some (.int (nI (5 * jj))), x5, x6] [] O1 A1 (nc + 4) (ns + 69)) : J 176 [some (.ref S), some (.ref X), some (.ref M), some (.ref B), some (.int (nI (5 * jj))), x5, x6] [] O A nc ns := by
  obtain ⟨⟨g1, g2, g3⟩, ⟨ρ, sg, hc⟩, -, ⟨fB, hB⟩, ⟨tS, ys, hS1, hS, hys⟩, -⟩ := id h
  have hwf := hc.wf
  subst g1
  have s1 : (tS = 0 ∨ 4 ≤ tS) = True := by simp [hS1]
  have v1 : vp_in (nI (5 * jj + 1)) L := vp_in_nI (by omega) (by omega)
  have c1 := nI_clamp (show 5 * jj + 1 < 2 ^ 31 by omega)
  have y1 := hys (5 * jj + 1) (by omega)
  have v2 : vp_in (nI (5 * jj + 2)) L := vp_in_nI (by omega) (by omega)
  have c2 := nI_clamp (show 5 * jj + 2 < 2 ^ 31 by omega)
  have y2 := hys (5 * jj + 2) (by omega)
  have v3 : vp_in (nI (5 * jj + 3)) L := vp_in_nI (by omega) (by omega)
  have c3 := nI_clamp (show 5 * jj + 3 < 2 ^ 31 by omega)
  have y3 := hys (5 * jj + 3) (by omega)
  obtain ⟨w, hw, hwe⟩ := i32_of (xs (5 * jj + 3)).toInt8.toInt32
  have cl : ∀ {N1 : aN} {O1 : aO} {A1 : aA}, cX tA Z N1 O A O1 A1 → lJ tA S B (Z 37) M L xs Z Y N1 N t O1 A1 ∧ A1 B = A B := fun hx => h.cls hx rfl g2 (fun i => Or.inl rfl)
  refine hb.1.run (aCuts [199] J) 60 176 _ _ _ _ _ _ (aCuts_ok _) ?_
  simp only [↓wpi_isub, ↓wpi_lsub, ↓wpi_ineg, ↓wpi_lneg, ↓wpi_irem, ↓wpi_lrem, ↓wpi_iinc, wp1, wp, wpl, wpi, lget, lput1, lput2, ltail, lkill, aV, aVl, aNth, aPut, aFz, aC0, aC2, aSw, aCat1, aCuts, aSet_eq, List.take, List.drop, List.reverse_cons, List.reverse_nil, List.nil_append, List.cons_append, List.length_cons, List.length_nil, Option.toList, true_and, and_true, Nat.reduceAdd, Nat.reduceEqDiff, Nat.reduceLT, Nat.reduceLeDiff, Nat.zero_add, Nat.add_zero, if_true, if_false, ite_true, ite_false, reduceIte, reduceCtorEq, true_or, or_true, not_true_eq_false, not_false_eq_true, false_and, and_false, true_implies, false_implies, not_false_eq_true, bqL_law_176, blL_law_176, hS, s1, nI_add, v1, c1, y1, v2, c2, y2, v3, c3, y3, hwe]
  refine ⟨_, _, _, _, hb.2 lwL_70 (ctL_octet (w_octet hsT hc hw) hc.obj (fun v O1 A1 hp => hp.1)
    (fun n O1 A1 hp => hp.2.1)) rfl (by decide) hnc hns, ?_, fun _ _ _ h => h.elim⟩
  rintro _ O1 A1 (⟨rfl, -, kc, ic, q1, q2, q3, q4, hx⟩ | ⟨n, ⟨hn, rfl, hx⟩, rfl⟩)
  · obtain ⟨hJ, -⟩ := cl hx
    refine rf_octet hb hk hL (show nc + 4 ≤ 601024 from hnc) (show ns + 69 ≤ 7293033 from hns) hw hwe hJ ?_
    rintro _ O2 A2 ⟨rfl, ⟨kr, ir, p1, p2, p3, p4, hm⟩ | ⟨hn, -⟩⟩
    · obtain rfl := iN_uniq hwf q1 p1 (q3.symm.trans p3)
      obtain rfl := iB_uniq hwf q1 q2 p2 (q4.symm.trans p4)
      obtain ⟨hJ2, hB2⟩ := hJ.ref hm
      exact tl_octet hb (show nc + 4 ≤ 601024 from hnc) (show ns + 69 ≤ 7293033 from hns) hJ2 (next _ _ _ _ ⟨_, _, _, _, hJ2⟩)
    · exact absurd ⟨kc, ic, q1, q2, q3, q4⟩ hn
  · obtain ⟨hJ, -⟩ := cl hx
    refine rf_octet hb hk hL (show nc + 4 ≤ 601024 from hnc) (show ns + 69 ≤ 7293033 from hns) hw hwe hJ ?_
    rintro _ O2 A2 ⟨rfl, ⟨kr, ir, p1, p2, p3, p4, hm⟩ | ⟨-, hm⟩⟩
    · exact absurd ⟨kr, ir, p1, p2, p3, p4⟩ hn
    · obtain ⟨hJ2, hB2⟩ := hJ.ref hm
      exact tl_octet hb (show nc + 4 ≤ 601024 from hnc) (show ns + 69 ≤ 7293033 from hns) hJ2 (next _ _ _ _ ⟨_, _, _, _, hJ2⟩)
end LWS
