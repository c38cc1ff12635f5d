/-! ===== PackedDecimals: number ===== -/
section NUM
variable {l : Launch} {G : aG} {base tA : Nat} {O : aO} {A : aA} {a : Nat}
set_option maxHeartbeats 4000000 in
theorem ct_X4_byteCount {u d : Nat} (hu : u ≤ 11) (hd : d ≤ 31) : aMet l G base tA yX4_byteCount cX4_byteCount 2 (some .int) rmZ [.int (nI u), .int (nI d)] O A (fun r O' A' => r = some (.int (nI (szOf u d))) ∧ O' = O ∧ A' = A) := by
  refine aMet_of (ini := false) (B := aLook bkX4_byteCount) (by decide) (fun h => by first | rfl | cases h) (Nat.le_of_ble_eq_true rfl) boX4_byteCount ?_
  intro E J hb
  refine hb.run (aCuts [] J) 60 0 _ _ _ _ _ _ (aCuts_ok _) ?_
  have fin : ∀ {n : Nat}, n = szOf u d → (∃ ty, eRt E = some ty ∧ narrow ty (.int (nI n)) = .int (nI n)) ∧ eRet E (some (.int (nI n))) O A 0 0 := fun e => hb.iret (nar_i _) ⟨by rw [e], rfl, rfl⟩ (by decide) (by decide)
  have e2 : nI d / nI 2 = nI (d / 2) := pk_div (by omega) (by decide) (by decide)
  obtain rfl | rfl | rfl | rfl | rfl | rfl | rfl | rfl | rfl | rfl | rfl | rfl : u = 0 ∨ u = 1 ∨ u = 2 ∨ u = 3 ∨ u = 4 ∨ u = 5 ∨ u = 6 ∨ u = 7 ∨ u = 8 ∨ u = 9 ∨ u = 10 ∨ u = 11 := by omega
  all_goals simp only [↓wpi_isub, ↓wpi_lsub, ↓wpi_ineg, ↓wpi_lneg, ↓wpi_irem, ↓wpi_lrem, ↓wpi_iinc, wp1, wp, wpl, wpi, lget, lput1, lput2, ltail, lkill, aV, aVl, aNth, aPut, aFz, aC0, aC2, aSw, aCat1, aCuts, aSet_eq, List.take, List.drop, List.reverse_cons, List.reverse_nil, List.nil_append, List.cons_append, List.length_cons, List.length_nil, Option.toList, true_and, and_true, Nat.reduceAdd, Nat.reduceEqDiff, Nat.reduceLT, Nat.reduceLeDiff, Nat.zero_add, Nat.add_zero, if_true, if_false, ite_true, ite_false, reduceIte, reduceCtorEq, true_or, or_true, not_true_eq_false, not_false_eq_true, false_and, and_false, true_implies, false_implies, not_false_eq_true, bqX4_byteCount_0, blX4_byteCount_0, bqX4_byteCount_56, blX4_byteCount_56, bqX4_byteCount_60, blX4_byteCount_60, bqX4_byteCount_66, blX4_byteCount_66, bqX4_byteCount_71, blX4_byteCount_71, bqX4_byteCount_75, blX4_byteCount_75, bqX4_byteCount_81, blX4_byteCount_81, bqX4_byteCount_85, blX4_byteCount_85, bqX4_byteCount_91, blX4_byteCount_91, bqX4_byteCount_96, blX4_byteCount_96, bqX4_byteCount_98, blX4_byteCount_98, bqX4_byteCount_99, blX4_byteCount_99, bqX4_byteCount_101, blX4_byteCount_101, bqX4_byteCount_104, blX4_byteCount_104, bqX4_byteCount_110, blX4_byteCount_110, aArgs, List.replicate, nI_cc, nI_tI, Int.ofNat_lt, Int.ofNat_le, or_self, nI_add, pk_mul, nI_2, e2, nI_ltP (show 4 < 2 ^ 31 by decide) (show d < 2 ^ 31 by omega), nI_ltP (show 9 < 2 ^ 31 by decide) (show d < 2 ^ 31 by omega), nI_ltP (show 18 < 2 ^ 31 by decide) (show d < 2 ^ 31 by omega)]
  · exact fin rfl
  · exact fin rfl
  · exact fin rfl
  · exact fin rfl
  · exact fin rfl
  · exact fin rfl
  · exact fin rfl
  · repeat' (apply And.intro <;> intro h)
    all_goals refine fin ?_
    all_goals simp only [szOf, Nat.reduceEqDiff, or_self, if_false, true_or, if_true]
    all_goals repeat' split
    all_goals omega
  · repeat' (apply And.intro <;> intro h)
    all_goals refine fin ?_
    all_goals simp only [szOf, Nat.reduceEqDiff, or_self, if_false, or_true, if_true]
    all_goals repeat' split
    all_goals omega
  · exact fin rfl
  · exact fin rfl
  · exact fin rfl
theorem lkX4_max : Cond.methodLink RX4 25 Lib.Math.max.name ∈ aT := lsX4_25.1
abbrev rmN9 : Room := { frames := 2, cells := 1, slots := 64, locals := 40 }
set_option maxHeartbeats 4000000 in
theorem ct_X4_init {u d s : Nat} (hu : u ≤ 11) (hd1 : 1 ≤ d) (hd : d ≤ 31) (hO : O a = some (5, [.int 0, .int 0, .int 0, .null, .int 0])) : aMet l G base tA yX4_init cX4_init 4 none rmN9 [.ref a, .int (nI u), .int (nI d), .int (nI s)] O A (fun r O' A' => r = none ∧ ∃ q, (∀ x, usd O A x → x < q) ∧ O' = aSet O a (5, [.int (nI u), .int (nI d), .int (nI s), .ref q, .int 0]) ∧ A' = aSet A q (1, szOf u d, .inl fun _ => 0)) := by
  refine aMet_of2 (ini := true) (B := aLook bkX4_init) (by decide) (fun h => by first | rfl | cases h) (Nat.le_of_ble_eq_true rfl) boX4_init ?_
  intro E J hb
  refine hb.1.run (aCuts [4, 26, 29] J) 60 0 _ _ _ _ _ _ (aCuts_ok _) ?_
  simp only [↓wpi_isub, ↓wpi_lsub, ↓wpi_ineg, ↓wpi_lneg, ↓wpi_irem, ↓wpi_lrem, ↓wpi_iinc, wp1, wp, wpl, wpi, lget, lput1, lput2, ltail, lkill, aV, aVl, aNth, aPut, aFz, aC0, aC2, aSw, aCat1, aCuts, aSet_eq, List.take, List.drop, List.reverse_cons, List.reverse_nil, List.nil_append, List.cons_append, List.length_cons, List.length_nil, Option.toList, true_and, and_true, Nat.reduceAdd, Nat.reduceEqDiff, Nat.reduceLT, Nat.reduceLeDiff, Nat.zero_add, Nat.add_zero, if_true, if_false, ite_true, ite_false, reduceIte, reduceCtorEq, true_or, or_true, not_true_eq_false, not_false_eq_true, false_and, and_false, true_implies, false_implies, not_false_eq_true, bqX4_init_0, blX4_init_0, bqX4_init_4, blX4_init_4, bqX4_init_26, blX4_init_26, bqX4_init_29, blX4_init_29, aArgs, List.replicate]
  refine ⟨_, _, _, _, hb.1.objInit loX4_3 (by decide) (by decide), ?_, fun _ _ _ h => h.elim⟩
  rintro _ O A ⟨rfl, rfl, rfl⟩
  refine hb.1.run (aCuts [4, 26, 29] J) 60 4 _ _ _ _ _ _ (aCuts_ok _) ?_
  simp only [↓wpi_isub, ↓wpi_lsub, ↓wpi_ineg, ↓wpi_lneg, ↓wpi_irem, ↓wpi_lrem, ↓wpi_iinc, wp1, wp, wpl, wpi, lget, lput1, lput2, ltail, lkill, aV, aVl, aNth, aPut, aFz, aC0, aC2, aSw, aCat1, aCuts, aSet_eq, List.take, List.drop, List.reverse_cons, List.reverse_nil, List.nil_append, List.cons_append, List.length_cons, List.length_nil, Option.toList, true_and, and_true, Nat.reduceAdd, Nat.reduceEqDiff, Nat.reduceLT, Nat.reduceLeDiff, Nat.zero_add, Nat.add_zero, if_true, if_false, ite_true, ite_false, reduceIte, reduceCtorEq, true_or, or_true, not_true_eq_false, not_false_eq_true, false_and, and_false, true_implies, false_implies, not_false_eq_true, bqX4_init_0, blX4_init_0, bqX4_init_4, blX4_init_4, bqX4_init_26, blX4_init_26, bqX4_init_29, blX4_init_29, hO, aSet_aSet]
  refine ⟨_, _, _, _, hb.1.callS lsX4_21 (ct_X4_byteCount hu hd) rfl (by decide) (by decide) (by decide), ?_, fun _ _ _ h => h.elim⟩
  rintro _ O1 A1 ⟨rfl, e1, e2⟩
  rw [e1, e2]
  refine hb.1.run (aCuts [4, 26, 29] J) 60 26 _ _ _ _ _ _ (aCuts_ok _) ?_
  simp only [↓wpi_isub, ↓wpi_lsub, ↓wpi_ineg, ↓wpi_lneg, ↓wpi_irem, ↓wpi_lrem, ↓wpi_iinc, wp1, wp, wpl, wpi, lget, lput1, lput2, ltail, lkill, aV, aVl, aNth, aPut, aFz, aC0, aC2, aSw, aCat1, aCuts, aSet_eq, List.take, List.drop, List.reverse_cons, List.reverse_nil, List.nil_append, List.cons_append, List.length_cons, List.length_nil, Option.toList, true_and, and_true, Nat.reduceAdd, Nat.reduceEqDiff, Nat.reduceLT, Nat.reduceLeDiff, Nat.zero_add, Nat.add_zero, if_true, if_false, ite_true, ite_false, reduceIte, reduceCtorEq, true_or, or_true, not_true_eq_false, not_false_eq_true, false_and, and_false, true_implies, false_implies, not_false_eq_true, bqX4_init_0, blX4_init_0, bqX4_init_4, blX4_init_4, bqX4_init_26, blX4_init_26, bqX4_init_29, blX4_init_29]
  have s1 := szOf_hi (u := u) hd
  refine ⟨_, _, _, _, hb.maxN lkX4_max (x := 0) (y := szOf u d) (by decide) (by omega) (by decide) (by decide) (by decide) (by decide), ?_, fun _ _ _ h => h.elim⟩
  rintro _ O1 A1 ⟨rfl, e3, e4⟩
  rw [e3, e4, Nat.max_eq_right (Nat.zero_le _)]
  refine hb.1.run (aCuts [4, 26, 29] J) 60 29 _ _ _ _ _ _ (aCuts_ok _) ?_
  simp only [↓wpi_isub, ↓wpi_lsub, ↓wpi_ineg, ↓wpi_lneg, ↓wpi_irem, ↓wpi_lrem, ↓wpi_iinc, wp1, wp, wpl, wpi, lget, lput1, lput2, ltail, lkill, aV, aVl, aNth, aPut, aFz, aC0, aC2, aSw, aCat1, aCuts, aSet_eq, List.take, List.drop, List.reverse_cons, List.reverse_nil, List.nil_append, List.cons_append, List.length_cons, List.length_nil, Option.toList, true_and, and_true, Nat.reduceAdd, Nat.reduceEqDiff, Nat.reduceLT, Nat.reduceLeDiff, Nat.zero_add, Nat.add_zero, if_true, if_false, ite_true, ite_false, reduceIte, reduceCtorEq, true_or, or_true, not_true_eq_false, not_false_eq_true, false_and, and_false, true_implies, false_implies, not_false_eq_true, bqX4_init_0, blX4_init_0, bqX4_init_4, blX4_init_4, bqX4_init_26, blX4_init_26, bqX4_init_29, blX4_init_29, hb.1.rc, hb.1.rs, aSet_aSet]
  refine ⟨szOf u d, rfl, by omega, by omega, fun q f1 f2 => hb.1.vret ⟨rfl, q, ?_, rfl, rfl⟩ (by decide) s1⟩
  intro x hx
  rcases hx with h | h
  · by_cases hxa : x = a
    · rw [hxa]; exact f1 a (by rw [aSet_eq]; simp)
    · exact f1 x (by rw [aSet_ne hxa]; exact h)
  · exact f2 x h
end NUM
/-- one number more -/
def nNw (N : aN) (u d s : Nat) : aN := fun r i => if r = 0 ∧ i = 0 then N 0 0 + 1 else if i = N 0 0 ∧ r = 1 then u else if i = N 0 0 ∧ r = 2 then d else if i = N 0 0 ∧ r = 3 then s else if i = N 0 0 ∧ r = 5 then szOf u d else N r i
def nmV (N : aN) (x y z : Int32) (u d s : Nat) : Prop := x = nI u ∧ y = nI d ∧ z = nI s ∧ u ≤ 11 ∧ 1 ≤ d ∧ d ≤ 31 ∧ s ≤ d ∧ N 0 0 < 64
/-- the answer of number and the numbers afterwards -/
def nmP (N : aN) (x y z : Int32) (r : Option Value) (N' : aN) : Prop := (∃ u d s, nmV N x y z u d s ∧ r = some (.int (nI (N 0 0))) ∧ N' = nNw N u d s) ∨ ((∀ u d s, ¬ nmV N x y z u d s) ∧ r = some (.int (-nI 1)) ∧ N' = N)
theorem nNw_r0 {N : aN} {u d s : Nat} : nNw N u d s 0 0 = N 0 0 + 1 := by unfold nNw; rw [if_pos ⟨rfl, rfl⟩]
theorem nNw_old {N : aN} {u d s r i : Nat} (h0 : r ≠ 0) (hi : i ≠ N 0 0) : nNw N u d s r i = N r i := by
  unfold nNw; rw [if_neg (fun q => h0 q.1), if_neg (fun q => hi q.1), if_neg (fun q => hi q.1), if_neg (fun q => hi q.1), if_neg (fun q => hi q.1)]
theorem nNw_hi {N : aN} {u d s r i : Nat} (h6 : 6 ≤ r ∨ r = 4) : nNw N u d s r i = N r i := by
  unfold nNw; rw [if_neg (by omega), if_neg (by omega), if_neg (by omega), if_neg (by omega), if_neg (by omega)]
theorem nNw_at {N : aN} {u d s : Nat} : nNw N u d s 1 (N 0 0) = u ∧ nNw N u d s 2 (N 0 0) = d ∧ nNw N u d s 3 (N 0 0) = s ∧ nNw N u d s 5 (N 0 0) = szOf u d := by
  refine ⟨?_, ?_, ?_, ?_⟩
  · unfold nNw; rw [if_neg (by omega), if_pos ⟨rfl, rfl⟩]
  · unfold nNw; rw [if_neg (by omega), if_neg (by omega), if_pos ⟨rfl, rfl⟩]
  · unfold nNw; rw [if_neg (by omega), if_neg (by omega), if_neg (by omega), if_pos ⟨rfl, rfl⟩]
  · unfold nNw; rw [if_neg (by omega), if_neg (by omega), if_neg (by omega), if_neg (by omega), if_pos ⟨rfl, rfl⟩]
theorem wfN.nw {N : aN} {u d s : Nat} (h : wfN N) (hu : u ≤ 11) (hd1 : 1 ≤ d) (hd : d ≤ 31) (hs : s ≤ d) (hc : N 0 0 < 64) : wfN (nNw N u d s) := by
  obtain ⟨h1, h2, h3, h4⟩ := h
  obtain ⟨a1, a2, a3, a4⟩ := nNw_at (N := N) (u := u) (d := d) (s := s)
  have hz := h3 (N 0 0) (Nat.le_refl _)
  refine ⟨by rw [nNw_r0]; omega, fun k hk => ?_, fun k hk => ?_, fun k i => ?_⟩
  · rw [nNw_r0] at hk
    by_cases e : k = N 0 0
    · subst e
      rw [a1, a2, a3, a4, nNw_hi (Or.inr rfl), hz.2.2.2.1]
      exact ⟨hu, hd1, hd, hs, by decide, rfl⟩
    · rw [nNw_old (by decide) e, nNw_old (by decide) e, nNw_old (by decide) e, nNw_old (by decide) e, nNw_old (by decide) e]
      exact h2 k (by omega)
  · rw [nNw_r0] at hk
    have e : k ≠ N 0 0 := by omega
    rw [nNw_old (by decide) e, nNw_old (by decide) e, nNw_old (by decide) e, nNw_old (by decide) e, nNw_old (by decide) e]
    exact h3 k (by omega)
  · rw [nNw_hi (Or.inl (by omega))]
    refine ⟨(h4 k i).1, fun hi => ?_⟩
    by_cases e : k = N 0 0
    · subst e; exact (h4 _ i).2 (by rw [hz.2.2.2.2]; omega)
    · rw [nNw_old (by decide) e] at hi; exact (h4 k i).2 hi
section NUM8
variable {l : Launch} {G : aG} {base tA : Nat} {Z ρ : Nat → Nat} {sg : Nat → Bool} {N : aN} {O0 O : aO} {A0 A : aA}
def zNw (Z : Nat → Nat) (N : aN) (p q : Nat) : Nat → Nat := fun i => if i = 40 + 2 * N 0 0 then p else if i = 41 + 2 * N 0 0 then q else Z i
theorem bF_0 : (fun _ => 0 : Nat → Int32) = bF (fun _ => 0) := by
  funext k; show (0 : Int32) = (nI 0).toInt8.toInt32; decide +kernel
/-- a number more in the world -/
theorem cW.new (h : cW tA Z ρ sg N O0 A0 O A) (h39 : Z 39 = tA) {u d s p q : Nat} (hu : u ≤ 11) (hd1 : 1 ≤ d) (hd : d ≤ 31) (hs : s ≤ d) (hc : N 0 0 < 64) (hp : ∀ x, usd O A x → x < p) (hpq : p < q) :
    cW tA (zNw Z N p q) ρ sg (nNw N u d s) O0 A0 (aSet (aSet O p (5, [.int (nI u), .int (nI d), .int (nI s), .ref q, .int 0])) (Z 37) (9, [.ref (Z 38), .int (nI (N 0 0 + 1)), .ref (Z 33), .ref (Z 34), .ref (Z 35), .ref (Z 30), .ref (Z 31), .ref (Z 32)]))
      (aSet (aSet A q (1, szOf u d, .inl fun _ => 0)) (Z 38) (3, 64, .inr (.inr (.inr (.inr (va_up (nmF Z N) (N 0 0) (some p))))))) := by
  have z : zN N = 40 + 2 * N 0 0 := rfl
  have z' : zN (nNw N u d s) = 42 + 2 * N 0 0 := by unfold zN; rw [nNw_r0]; omega
  obtain ⟨a1, a2, a3, a4⟩ := nNw_at (N := N) (u := u) (d := d) (s := s)
  have hz0 := h.1.2.2.1 (N 0 0) (Nat.le_refl _)
  -- all addresses but the unused one are in use
  have us : ∀ i, i < 40 + 2 * N 0 0 → i ≠ 39 → Z i < p := by
    intro i hi h39
    apply hp
    by_cases c1 : i < 15
    · exact (h.reg c1).uO
    · by_cases c2 : i < 30
      · have := (h.reg (i := i - 15) (by omega)).uA
        rw [show 15 + (i - 15) = i by omega] at this; exact this
      · by_cases c3 : i < 33
        · have := h.frac (f := i - 30) (by omega)
          rw [show 30 + (i - 30) = i by omega] at this
          exact Or.inl (by rw [this]; simp)
        · obtain rfl | rfl | rfl | rfl | rfl | rfl | c4 : i = 33 ∨ i = 34 ∨ i = 35 ∨ i = 36 ∨ i = 37 ∨ i = 38 ∨ 40 ≤ i := by omega
          · exact Or.inl (by rw [h.rdr]; simp)
          · exact Or.inl (by rw [h.ari]; simp)
          · exact Or.inl (by rw [h.sto]; simp)
          · exact Or.inl (by rw [h.wri]; simp)
          · exact Or.inl (by rw [h.obj]; simp)
          · exact Or.inr (by rw [h.arr]; simp)
          · by_cases c5 : i % 2 = 0
            · have := h.num (k := (i - 40) / 2) (by omega)
              rw [show 40 + 2 * ((i - 40) / 2) = i by omega] at this
              exact Or.inl (by rw [this]; simp)
            · have := h.byt (k := (i - 40) / 2) (by omega)
              rw [show 41 + 2 * ((i - 40) / 2) = i by omega] at this
              exact Or.inr (by rw [this]; simp)
  have us9 : ∀ i, i < 40 + 2 * N 0 0 → Z i < p := by
    intro i hi
    by_cases e : i = 39
    · obtain ⟨tf, t1, -⟩ := h.tens
      rw [e, h39]; exact hp tA (Or.inr (by rw [t1]; simp))
    · exact us i hi e
  have ez : ∀ i, i < 40 + 2 * N 0 0 → zNw Z N p q i = Z i := fun i hi => by unfold zNw; rw [if_neg (by omega), if_neg (by omega)]
  have zp : zNw Z N p q (40 + 2 * N 0 0) = p := if_pos rfl
  have zq : zNw Z N p q (41 + 2 * N 0 0) = q := by unfold zNw; rw [if_neg (by omega), if_pos rfl]
  have nO : ∀ {e1 e2 : Nat × List Value} (j : Nat), j < 40 + 2 * N 0 0 → j ≠ 37 → aSet (aSet O p e1) (Z 37) e2 (Z j) = O (Z j) := fun j hj h37 => by
    rw [aSet_ne (h.inj (by omega) (by omega) h37), aSet_ne (by have := us9 j hj; omega)]
  have nA : ∀ {e1 e2 : Nat × vp_A} (j : Nat), j < 40 + 2 * N 0 0 → j ≠ 38 → aSet (aSet A q e1) (Z 38) e2 (Z j) = A (Z j) := fun j hj h38 => by
    rw [aSet_ne (h.inj (by omega) (by omega) h38), aSet_ne (by have := us9 j hj; omega)]
  refine ⟨h.1.nw hu hd1 hd hs hc, ?_, fun i hi => ?_, fun f hf => ?_, ⟨?_, ?_, ?_, ?_, ?_⟩, fun k hk => ?_, ?_, ?_, fun x hx => ?_⟩
  · intro i j hi hj e
    rw [z'] at hi hj
    have ci : i < 40 + 2 * N 0 0 ∨ i = 40 + 2 * N 0 0 ∨ i = 41 + 2 * N 0 0 := by omega
    have cj : j < 40 + 2 * N 0 0 ∨ j = 40 + 2 * N 0 0 ∨ j = 41 + 2 * N 0 0 := by omega
    rcases ci with ci | ci | ci <;> rcases cj with cj | cj | cj
    · rw [ez i ci, ez j cj] at e; exact h.2.1 i j ci cj e
    · rw [ez i ci, cj, zp] at e; have := us9 i ci; omega
    · rw [ez i ci, cj, zq] at e; have := us9 i ci; omega
    · rw [ez j cj, ci, zp] at e; have := us9 j cj; omega
    · omega
    · rw [ci, cj, zp, zq] at e; omega
    · rw [ez j cj, ci, zq] at e; have := us9 j cj; omega
    · rw [ci, cj, zp, zq] at e; omega
    · omega
  · rw [ez i (by omega), ez (15 + i) (by omega)]
    obtain ⟨g, u', q1, q2, q3⟩ := h.reg hi
    exact ⟨g, u', q1, by rw [nO i (by omega) (by omega)]; exact q2, by rw [nA (15 + i) (by omega) (by omega)]; exact q3⟩
  · rw [ez _ (by omega), ez _ (by omega), ez _ (by omega), nO _ (by omega) (by omega)]; exact h.frac hf
  · rw [ez _ (by omega), ez _ (by omega), nO _ (by omega) (by omega)]; exact h.rdr
  · rw [ez _ (by omega), ez _ (by omega), ez _ (by omega), ez _ (by omega), ez _ (by omega), nO _ (by omega) (by omega)]; exact h.ari
  · rw [ez _ (by omega), ez _ (by omega), ez _ (by omega), ez _ (by omega), ez _ (by omega), ez _ (by omega), nO _ (by omega) (by omega)]; exact h.sto
  · rw [ez _ (by omega), nO _ (by omega) (by omega)]; exact h.wri
  · rw [ez 37 (by omega), ez 38 (by omega), ez 33 (by omega), ez 34 (by omega), ez 35 (by omega), ez 30 (by omega), ez 31 (by omega), ez 32 (by omega), nNw_r0]; exact aSet_eq
  · rw [nNw_r0] at hk
    have hbz : ∀ k, bF (nNw N u d s (6 + k)) = bF (N (6 + k)) := fun k => by funext j; unfold bF; rw [nNw_hi (Or.inl (by omega))]
    by_cases e : k = N 0 0
    · subst e
      have hb0 : bF (N (6 + N 0 0)) = fun _ => 0 := by
        rw [bF_0]; funext j; unfold bF; rw [(h.1.2.2.2 (N 0 0) j).2 (by rw [hz0.2.2.2.2]; omega)]
      rw [zp, zq, a1, a2, a3, a4, nNw_hi (Or.inr rfl), hz0.2.2.2.1, hbz, hb0, nI_0]
      constructor
      · rw [aSet_ne (by have := us9 37 (by omega); omega)]; exact aSet_eq
      · rw [aSet_ne (by have := us9 38 (by omega); omega)]; exact aSet_eq
    · rw [ez _ (by omega), ez _ (by omega), nNw_old (by decide) e, nNw_old (by decide) e, nNw_old (by decide) e, nNw_old (by decide) e, nNw_old (by decide) e, hbz, nO _ (by omega) (by omega), nA _ (by omega) (by omega)]
      exact ⟨h.num (by omega), h.byt (by omega)⟩
  · rw [ez _ (by omega)]
    have : va_up (nmF Z N) (N 0 0) (some p) = nmF (zNw Z N p q) (nNw N u d s) := by
      funext k
      unfold nmF va_up
      rw [nNw_r0]
      by_cases e : k = N 0 0
      · subst e; rw [if_pos rfl, if_pos (by omega), zp]
      · rw [if_neg e]
        dsimp only
        by_cases c : k < N 0 0
        · rw [if_pos c, if_pos (by omega), ez _ (by omega)]
        · rw [if_neg c, if_neg (by omega)]
    rw [← this]; exact aSet_eq
  · obtain ⟨tf, t1, t2⟩ := h.tens
    refine ⟨tf, ?_, t2⟩
    have := nA (e1 := (1, szOf u d, .inl fun _ => 0)) (e2 := (3, 64, .inr (.inr (.inr (.inr (va_up (nmF Z N) (N 0 0) (some p))))))) 39 (by omega) (by decide)
    rw [h39] at this; rw [this]; exact t1
  · rw [z'] at hx
    have hxp : x ≠ p := fun e => hx (40 + 2 * N 0 0) (by omega) (zp.trans e.symm)
    have hxq : x ≠ q := fun e => hx (41 + 2 * N 0 0) (by omega) (zq.trans e.symm)
    have hxo : ∀ i, i < zN N → Z i ≠ x := fun i hi e => hx i (by omega) ((ez i hi).trans e)
    rw [aSet_ne (hxo 37 (by omega)).symm, aSet_ne hxp, aSet_ne (hxo 38 (by omega)).symm, aSet_ne hxq]
    exact h.frm x hxo
abbrev rmNu : Room := { frames := 7, cells := 2, slots := 69, locals := 120 }
set_option maxHeartbeats 8000000 in
theorem w_number (hsT : l.stackTraces = false) (h : cW tA Z ρ sg N O0 A0 O A) (h39 : Z 39 = tA) {x y z : Int32} : aMetX l G base tA yX8_number cX8_number 4 (some .int) rmNu [.ref (Z 37), .int x, .int y, .int z] O A (fun r O' A' => ¬ y < 0 ∧ ∃ N' Z', nmP N x y z r N' ∧ cX tA Z' N' O0 A0 O' A' ∧ Z' 37 = Z 37 ∧ Z' 39 = tA ∧ ∀ i, Z' i = Z i ∨ ∀ x, usd O A x → x < Z' i) (fun n O' A' => y < 0 ∧ n = xN 1 ∧ cX tA Z N O0 A0 O' A') := by
  refine aMetX_of hsT (ini := false) (B := aLook bkX8_number) (by decide) (fun h => by first | rfl | cases h) (Nat.le_of_ble_eq_true rfl) boX8_number ?_
  intro E J hb
  have hc64 := h.wf.1
  refine hb.1.run (aCuts [13, 75] J) 60 0 _ _ _ _ _ _ (aCuts_ok _) ?_
  by_cases hy0 : y < 0
  · have e0 : (0 ≤ y) = False := by simp only [eq_iff_iff, iff_false]; exact Int32.not_le.mpr hy0
    simp only [↓wpi_isub, ↓wpi_lsub, ↓wpi_ineg, ↓wpi_lneg, ↓wpi_irem, ↓wpi_lrem, ↓wpi_iinc, wp1, wp, wpl, wpi, lget, lput1, lput2, ltail, lkill, aV, aVl, aNth, aPut, aFz, aC0, aC2, aSw, aCat1, aCuts, aSet_eq, List.take, List.drop, List.reverse_cons, List.reverse_nil, List.nil_append, List.cons_append, List.length_cons, List.length_nil, Option.toList, true_and, and_true, Nat.reduceAdd, Nat.reduceEqDiff, Nat.reduceLT, Nat.reduceLeDiff, Nat.zero_add, Nat.add_zero, if_true, if_false, ite_true, ite_false, reduceIte, reduceCtorEq, true_or, or_true, not_true_eq_false, not_false_eq_true, false_and, and_false, true_implies, false_implies, not_false_eq_true, bqX8_number_0, blX8_number_0, bqX8_number_4, blX8_number_4, bqX8_number_13, blX8_number_13, bqX8_number_14, blX8_number_14, bqX8_number_18, blX8_number_18, bqX8_number_24, blX8_number_24, bqX8_number_29, blX8_number_29, bqX8_number_35, blX8_number_35, bqX8_number_37, blX8_number_37, bqX8_number_41, blX8_number_41, bqX8_number_46, blX8_number_46, bqX8_number_55, blX8_number_55, bqX8_number_57, blX8_number_57, bqX8_number_75, blX8_number_75, aArgs, List.replicate, e0]
    exact hb.2.2.2 _ _ _ _ _ _ _ _ ths_number ⟨hy0, rfl, _, _, h⟩ (by decide) (by decide) (by decide) (by decide) (by decide)
  · have e0 : (0 ≤ y) = True := by simp only [eq_iff_iff, iff_true]; exact Int32.not_lt.mp hy0
    have bad : (∀ u d s, ¬ nmV N x y z u d s) → (∃ ty, eRt E = some ty ∧ narrow ty (.int (-nI 1)) = .int (-nI 1)) ∧ eRet E (some (.int (-nI 1))) O A 0 0 := fun hn => hb.1.iret (nar_i _) ⟨hy0, N, Z, Or.inr ⟨hn, rfl, rfl⟩, ⟨_, _, h⟩, rfl, h39, fun i => Or.inl rfl⟩ (by decide) (by decide)
    obtain ⟨d, hd, rfl⟩ := nI_of hy0
    by_cases hx0 : x < 0
    · have e1 : (x < 0) = True := by simp [hx0]
      simp only [↓wpi_isub, ↓wpi_lsub, ↓wpi_ineg, ↓wpi_lneg, ↓wpi_irem, ↓wpi_lrem, ↓wpi_iinc, wp1, wp, wpl, wpi, lget, lput1, lput2, ltail, lkill, aV, aVl, aNth, aPut, aFz, aC0, aC2, aSw, aCat1, aCuts, aSet_eq, List.take, List.drop, List.reverse_cons, List.reverse_nil, List.nil_append, List.cons_append, List.length_cons, List.length_nil, Option.toList, true_and, and_true, Nat.reduceAdd, Nat.reduceEqDiff, Nat.reduceLT, Nat.reduceLeDiff, Nat.zero_add, Nat.add_zero, if_true, if_false, ite_true, ite_false, reduceIte, reduceCtorEq, true_or, or_true, not_true_eq_false, not_false_eq_true, false_and, and_false, true_implies, false_implies, not_false_eq_true, bqX8_number_0, blX8_number_0, bqX8_number_4, blX8_number_4, bqX8_number_13, blX8_number_13, bqX8_number_14, blX8_number_14, bqX8_number_18, blX8_number_18, bqX8_number_24, blX8_number_24, bqX8_number_29, blX8_number_29, bqX8_number_35, blX8_number_35, bqX8_number_37, blX8_number_37, bqX8_number_41, blX8_number_41, bqX8_number_46, blX8_number_46, bqX8_number_55, blX8_number_55, bqX8_number_57, blX8_number_57, bqX8_number_75, blX8_number_75, aArgs, List.replicate, e0, e1]
      exact bad fun u d' s ⟨q1, q2, q3, q4, _⟩ => by rw [q1] at hx0; exact nI_pos (by omega) hx0
    · obtain ⟨u, hu, rfl⟩ := nI_of hx0
      by_cases hu11 : u ≤ 11
      · have e2 : (nI 11 < nI u) = False := by rw [nI_ltP (by decide) hu]; simp; omega
        by_cases hd1 : d < 1
        · have e3 : (nI d < nI 1) = True := by rw [nI_ltP hd (by decide)]; simp; omega
          simp only [↓wpi_isub, ↓wpi_lsub, ↓wpi_ineg, ↓wpi_lneg, ↓wpi_irem, ↓wpi_lrem, ↓wpi_iinc, wp1, wp, wpl, wpi, lget, lput1, lput2, ltail, lkill, aV, aVl, aNth, aPut, aFz, aC0, aC2, aSw, aCat1, aCuts, aSet_eq, List.take, List.drop, List.reverse_cons, List.reverse_nil, List.nil_append, List.cons_append, List.length_cons, List.length_nil, Option.toList, true_and, and_true, Nat.reduceAdd, Nat.reduceEqDiff, Nat.reduceLT, Nat.reduceLeDiff, Nat.zero_add, Nat.add_zero, if_true, if_false, ite_true, ite_false, reduceIte, reduceCtorEq, true_or, or_true, not_true_eq_false, not_false_eq_true, false_and, and_false, true_implies, false_implies, not_false_eq_true, bqX8_number_0, blX8_number_0, bqX8_number_4, blX8_number_4, bqX8_number_13, blX8_number_13, bqX8_number_14, blX8_number_14, bqX8_number_18, blX8_number_18, bqX8_number_24, blX8_number_24, bqX8_number_29, blX8_number_29, bqX8_number_35, blX8_number_35, bqX8_number_37, blX8_number_37, bqX8_number_41, blX8_number_41, bqX8_number_46, blX8_number_46, bqX8_number_55, blX8_number_55, bqX8_number_57, blX8_number_57, bqX8_number_75, blX8_number_75, aArgs, List.replicate, e0, nI_lt0 hu, e2, e3]
          exact bad fun u' d' s ⟨q1, q2, q3, q4, q5, q6, _⟩ => by have := (nI_eq hd (by omega)).mp q2; omega
        · have e3 : (nI d < nI 1) = False := by rw [nI_ltP hd (by decide)]; simp; omega
          by_cases hd31 : d ≤ 31
          · have e4 : (nI d ≤ nI 31) = True := by rw [nI_leP hd (by decide)]; simp; omega
            by_cases hz0 : z < 0
            · have e5 : (z < 0) = True := by simp [hz0]
              simp only [↓wpi_isub, ↓wpi_lsub, ↓wpi_ineg, ↓wpi_lneg, ↓wpi_irem, ↓wpi_lrem, ↓wpi_iinc, wp1, wp, wpl, wpi, lget, lput1, lput2, ltail, lkill, aV, aVl, aNth, aPut, aFz, aC0, aC2, aSw, aCat1, aCuts, aSet_eq, List.take, List.drop, List.reverse_cons, List.reverse_nil, List.nil_append, List.cons_append, List.length_cons, List.length_nil, Option.toList, true_and, and_true, Nat.reduceAdd, Nat.reduceEqDiff, Nat.reduceLT, Nat.reduceLeDiff, Nat.zero_add, Nat.add_zero, if_true, if_false, ite_true, ite_false, reduceIte, reduceCtorEq, true_or, or_true, not_true_eq_false, not_false_eq_true, false_and, and_false, true_implies, false_implies, not_false_eq_true, bqX8_number_0, blX8_number_0, bqX8_number_4, blX8_number_4, bqX8_number_13, blX8_number_13, bqX8_number_14, blX8_number_14, bqX8_number_18, blX8_number_18, bqX8_number_24, blX8_number_24, bqX8_number_29, blX8_number_29, bqX8_number_35, blX8_number_35, bqX8_number_37, blX8_number_37, bqX8_number_41, blX8_number_41, bqX8_number_46, blX8_number_46, bqX8_number_55, blX8_number_55, bqX8_number_57, blX8_number_57, bqX8_number_75, blX8_number_75, aArgs, List.replicate, e0, nI_lt0 hu, e2, e3, e4, e5]
              exact bad fun u' d' s ⟨q1, q2, q3, q4, q5, q6, q7, _⟩ => by rw [q3] at hz0; exact nI_pos (by omega) hz0
            · obtain ⟨s, hs, rfl⟩ := nI_of hz0
              by_cases hsd : s ≤ d
              · have e6 : (nI d < nI s) = False := by rw [nI_ltP hd hs]; simp; omega
                by_cases hc : N 0 0 < 64
                · have e7 : (nI (N 0 0) < nI 64) = True := by rw [nI_ltP (by omega) (by decide)]; simp; omega
                  simp only [↓wpi_isub, ↓wpi_lsub, ↓wpi_ineg, ↓wpi_lneg, ↓wpi_irem, ↓wpi_lrem, ↓wpi_iinc, wp1, wp, wpl, wpi, lget, lput1, lput2, ltail, lkill, aV, aVl, aNth, aPut, aFz, aC0, aC2, aSw, aCat1, aCuts, aSet_eq, List.take, List.drop, List.reverse_cons, List.reverse_nil, List.nil_append, List.cons_append, List.length_cons, List.length_nil, Option.toList, true_and, and_true, Nat.reduceAdd, Nat.reduceEqDiff, Nat.reduceLT, Nat.reduceLeDiff, Nat.zero_add, Nat.add_zero, if_true, if_false, ite_true, ite_false, reduceIte, reduceCtorEq, true_or, or_true, not_true_eq_false, not_false_eq_true, false_and, and_false, true_implies, false_implies, not_false_eq_true, bqX8_number_0, blX8_number_0, bqX8_number_4, blX8_number_4, bqX8_number_13, blX8_number_13, bqX8_number_14, blX8_number_14, bqX8_number_18, blX8_number_18, bqX8_number_24, blX8_number_24, bqX8_number_29, blX8_number_29, bqX8_number_35, blX8_number_35, bqX8_number_37, blX8_number_37, bqX8_number_41, blX8_number_41, bqX8_number_46, blX8_number_46, bqX8_number_55, blX8_number_55, bqX8_number_57, blX8_number_57, bqX8_number_75, blX8_number_75, aArgs, List.replicate, e0, nI_lt0 hu, nI_lt0 hs, e2, e3, e4, e6, e7, h.obj, hb.1.rc, hb.1.rs, aBl]
                  intro p f1 f2
                  have hp : ∀ x, usd O A x → x < p := fun x hx => hx.elim (f1 x) (f2 x)
                  refine ⟨_, _, _, _, hb.1.callI liX8_60 (ct_X4_init (a := p) hu11 (by omega) hd31 aSet_eq) rfl (by decide) (by decide) (by decide), ?_, fun _ _ _ h => h.elim⟩
                  rintro _ O1 A1 ⟨rfl, q, hq, rfl, rfl⟩
                  rw [aSet_aSet]
                  have hpq : p < q := hq p (Or.inl (by rw [aSet_eq]; simp))
                  have z37 : Z 37 < p := hp _ (Or.inl (by rw [h.obj]; simp))
                  have z38 : Z 38 < p := hp _ (Or.inr (by rw [h.arr]; simp))
                  have hW := h.new h39 (u := u) (d := d) (s := s) hu11 (by omega) hd31 hsd hc hp hpq
                  have e8 : aSet O p (5, [.int (nI u), .int (nI d), .int (nI s), .ref q, .int 0]) (Z 37) = some (9, [.ref (Z 38), .int (nI (N 0 0)), .ref (Z 33), .ref (Z 34), .ref (Z 35), .ref (Z 30), .ref (Z 31), .ref (Z 32)]) := by rw [aSet_ne (by omega)]; exact h.obj
                  have e9 : aSet A q (1, szOf u d, .inl fun _ => 0) (Z 38) = some (3, 64, .inr (.inr (.inr (.inr (nmF Z N))))) := by rw [aSet_ne (by omega)]; exact h.arr
                  have e10 : vp_in (nI (N 0 0)) 64 := vp_in_nI hc (by decide)
                  have e11 : (∃ fs, aSet O p (5, [.int (nI u), .int (nI d), .int (nI s), .ref q, .int 0]) p = some (5, fs)) = True := by simp only [eq_iff_iff, iff_true]; exact ⟨_, aSet_eq⟩
                  refine hb.1.run (aCuts [13, 75] J) 60 75 _ _ _ _ _ _ (aCuts_ok _) ?_
                  simp only [↓wpi_isub, ↓wpi_lsub, ↓wpi_ineg, ↓wpi_lneg, ↓wpi_irem, ↓wpi_lrem, ↓wpi_iinc, wp1, wp, wpl, wpi, lget, lput1, lput2, ltail, lkill, aV, aVl, aNth, aPut, aFz, aC0, aC2, aSw, aCat1, aCuts, aSet_eq, List.take, List.drop, List.reverse_cons, List.reverse_nil, List.nil_append, List.cons_append, List.length_cons, List.length_nil, Option.toList, true_and, and_true, Nat.reduceAdd, Nat.reduceEqDiff, Nat.reduceLT, Nat.reduceLeDiff, Nat.zero_add, Nat.add_zero, if_true, if_false, ite_true, ite_false, reduceIte, reduceCtorEq, true_or, or_true, not_true_eq_false, not_false_eq_true, false_and, and_false, true_implies, false_implies, not_false_eq_true, bqX8_number_0, blX8_number_0, bqX8_number_4, blX8_number_4, bqX8_number_13, blX8_number_13, bqX8_number_14, blX8_number_14, bqX8_number_18, blX8_number_18, bqX8_number_24, blX8_number_24, bqX8_number_29, blX8_number_29, bqX8_number_35, blX8_number_35, bqX8_number_37, blX8_number_37, bqX8_number_41, blX8_number_41, bqX8_number_46, blX8_number_46, bqX8_number_55, blX8_number_55, bqX8_number_57, blX8_number_57, bqX8_number_75, blX8_number_75, e8, e9, e10, e11, nI_clamp (show N 0 0 < 2 ^ 31 by omega), nI_add, iSub_nn (show 1 ≤ N 0 0 + 1 by omega), Nat.add_sub_cancel]
                  refine ⟨⟨_, rfl⟩, ?_⟩
                  refine hb.1.iret (nc := 2) (ns := 69) (nar_i _) ⟨hy0, _, _, Or.inl ⟨u, d, s, ⟨rfl, rfl, rfl, hu11, by omega, hd31, hsd, hc⟩, rfl, rfl⟩, ⟨_, _, hW⟩, ?_, ?_, fun i => ?_⟩ (by decide) (by decide)
                  · unfold zNw; rw [if_neg (by omega), if_neg (by omega)]
                  · unfold zNw; rw [if_neg (by omega), if_neg (by omega)]; exact h39
                  · unfold zNw
                    split
                    · right; exact hp
                    · split
                      · right; intro x hx; have := hp x hx; omega
                      · left; rfl
                · have e7 : (nI (N 0 0) < nI 64) = False := by rw [nI_ltP (by omega) (by decide)]; simp; omega
                  simp only [↓wpi_isub, ↓wpi_lsub, ↓wpi_ineg, ↓wpi_lneg, ↓wpi_irem, ↓wpi_lrem, ↓wpi_iinc, wp1, wp, wpl, wpi, lget, lput1, lput2, ltail, lkill, aV, aVl, aNth, aPut, aFz, aC0, aC2, aSw, aCat1, aCuts, aSet_eq, List.take, List.drop, List.reverse_cons, List.reverse_nil, List.nil_append, List.cons_append, List.length_cons, List.length_nil, Option.toList, true_and, and_true, Nat.reduceAdd, Nat.reduceEqDiff, Nat.reduceLT, Nat.reduceLeDiff, Nat.zero_add, Nat.add_zero, if_true, if_false, ite_true, ite_false, reduceIte, reduceCtorEq, true_or, or_true, not_true_eq_false, not_false_eq_true, false_and, and_false, true_implies, false_implies, not_false_eq_true, bqX8_number_0, blX8_number_0, bqX8_number_4, blX8_number_4, bqX8_number_13, blX8_number_13, bqX8_number_14, blX8_number_14, bqX8_number_18, blX8_number_18, bqX8_number_24, blX8_number_24, bqX8_number_29, blX8_number_29, bqX8_number_35, blX8_number_35, bqX8_number_37, blX8_number_37, bqX8_number_41, blX8_number_41, bqX8_number_46, blX8_number_46, bqX8_number_55, blX8_number_55, bqX8_number_57, blX8_number_57, bqX8_number_75, blX8_number_75, aArgs, List.replicate, e0, nI_lt0 hu, nI_lt0 hs, e2, e3, e4, e6, e7, h.obj]
                  exact bad fun u' d' s ⟨q1, q2, q3, q4, q5, q6, q7, q8⟩ => hc q8
              · have e6 : (nI d < nI s) = True := by rw [nI_ltP hd hs]; simp; omega
                simp only [↓wpi_isub, ↓wpi_lsub, ↓wpi_ineg, ↓wpi_lneg, ↓wpi_irem, ↓wpi_lrem, ↓wpi_iinc, wp1, wp, wpl, wpi, lget, lput1, lput2, ltail, lkill, aV, aVl, aNth, aPut, aFz, aC0, aC2, aSw, aCat1, aCuts, aSet_eq, List.take, List.drop, List.reverse_cons, List.reverse_nil, List.nil_append, List.cons_append, List.length_cons, List.length_nil, Option.toList, true_and, and_true, Nat.reduceAdd, Nat.reduceEqDiff, Nat.reduceLT, Nat.reduceLeDiff, Nat.zero_add, Nat.add_zero, if_true, if_false, ite_true, ite_false, reduceIte, reduceCtorEq, true_or, or_true, not_true_eq_false, not_false_eq_true, false_and, and_false, true_implies, false_implies, not_false_eq_true, bqX8_number_0, blX8_number_0, bqX8_number_4, blX8_number_4, bqX8_number_13, blX8_number_13, bqX8_number_14, blX8_number_14, bqX8_number_18, blX8_number_18, bqX8_number_24, blX8_number_24, bqX8_number_29, blX8_number_29, bqX8_number_35, blX8_number_35, bqX8_number_37, blX8_number_37, bqX8_number_41, blX8_number_41, bqX8_number_46, blX8_number_46, bqX8_number_55, blX8_number_55, bqX8_number_57, blX8_number_57, bqX8_number_75, blX8_number_75, aArgs, List.replicate, e0, nI_lt0 hu, nI_lt0 hs, e2, e3, e4, e6]
                exact bad fun u' d' s' ⟨q1, q2, q3, q4, q5, q6, q7, _⟩ => by
                  have h1 := (nI_eq hd (by omega)).mp q2
                  have h2 := (nI_eq hs (by omega)).mp q3
                  omega
          · have e4 : (nI d ≤ nI 31) = False := by rw [nI_leP hd (by decide)]; simp; omega
            simp only [↓wpi_isub, ↓wpi_lsub, ↓wpi_ineg, ↓wpi_lneg, ↓wpi_irem, ↓wpi_lrem, ↓wpi_iinc, wp1, wp, wpl, wpi, lget, lput1, lput2, ltail, lkill, aV, aVl, aNth, aPut, aFz, aC0, aC2, aSw, aCat1, aCuts, aSet_eq, List.take, List.drop, List.reverse_cons, List.reverse_nil, List.nil_append, List.cons_append, List.length_cons, List.length_nil, Option.toList, true_and, and_true, Nat.reduceAdd, Nat.reduceEqDiff, Nat.reduceLT, Nat.reduceLeDiff, Nat.zero_add, Nat.add_zero, if_true, if_false, ite_true, ite_false, reduceIte, reduceCtorEq, true_or, or_true, not_true_eq_false, not_false_eq_true, false_and, and_false, true_implies, false_implies, not_false_eq_true, bqX8_number_0, blX8_number_0, bqX8_number_4, blX8_number_4, bqX8_number_13, blX8_number_13, bqX8_number_14, blX8_number_14, bqX8_number_18, blX8_number_18, bqX8_number_24, blX8_number_24, bqX8_number_29, blX8_number_29, bqX8_number_35, blX8_number_35, bqX8_number_37, blX8_number_37, bqX8_number_41, blX8_number_41, bqX8_number_46, blX8_number_46, bqX8_number_55, blX8_number_55, bqX8_number_57, blX8_number_57, bqX8_number_75, blX8_number_75, aArgs, List.replicate, e0, nI_lt0 hu, e2, e3, e4]
            exact bad fun u' d' s ⟨q1, q2, q3, q4, q5, q6, _⟩ => by have := (nI_eq hd (by omega)).mp q2; omega
      · have e2 : (nI 11 < nI u) = True := by rw [nI_ltP (by decide) hu]; simp; omega
        simp only [↓wpi_isub, ↓wpi_lsub, ↓wpi_ineg, ↓wpi_lneg, ↓wpi_irem, ↓wpi_lrem, ↓wpi_iinc, wp1, wp, wpl, wpi, lget, lput1, lput2, ltail, lkill, aV, aVl, aNth, aPut, aFz, aC0, aC2, aSw, aCat1, aCuts, aSet_eq, List.take, List.drop, List.reverse_cons, List.reverse_nil, List.nil_append, List.cons_append, List.length_cons, List.length_nil, Option.toList, true_and, and_true, Nat.reduceAdd, Nat.reduceEqDiff, Nat.reduceLT, Nat.reduceLeDiff, Nat.zero_add, Nat.add_zero, if_true, if_false, ite_true, ite_false, reduceIte, reduceCtorEq, true_or, or_true, not_true_eq_false, not_false_eq_true, false_and, and_false, true_implies, false_implies, not_false_eq_true, bqX8_number_0, blX8_number_0, bqX8_number_4, blX8_number_4, bqX8_number_13, blX8_number_13, bqX8_number_14, blX8_number_14, bqX8_number_18, blX8_number_18, bqX8_number_24, blX8_number_24, bqX8_number_29, blX8_number_29, bqX8_number_35, blX8_number_35, bqX8_number_37, blX8_number_37, bqX8_number_41, blX8_number_41, bqX8_number_46, blX8_number_46, bqX8_number_55, blX8_number_55, bqX8_number_57, blX8_number_57, bqX8_number_75, blX8_number_75, aArgs, List.replicate, e0, nI_lt0 hu, e2]
        exact bad fun u' d' s ⟨q1, q2, q3, q4, _⟩ => by have := (nI_eq hu (by omega)).mp q1; omega
end NUM8
