/-! ===== the reference's long naturals: 80 limbs of 16 bits, eleven registers in one row ===== -/
def mV (g : Nat → Nat) : Nat → Nat
  | 0 => 0
  | n + 1 => mV g n + g n * 65536 ^ n
theorem mV_s (g : Nat → Nat) (n : Nat) : mV g (n + 1) = mV g n + g n * 65536 ^ n := rfl
theorem mV_congr {g h : Nat → Nat} : ∀ {n : Nat}, (∀ k, k < n → g k = h k) → mV g n = mV h n
  | 0, _ => rfl
  | n + 1, e => by
    rw [mV_s, mV_s, mV_congr (n := n) (fun k hk => e k (by omega)), e n (by omega)]
theorem mV_lt {g : Nat → Nat} : ∀ {n : Nat}, (∀ k, k < n → g k < 65536) → mV g n < 65536 ^ n
  | 0, _ => by simp [mV]
  | n + 1, h => by
    have h1 := mV_lt (n := n) (fun k hk => h k (by omega))
    have h2 := h n (by omega)
    rw [mV_s, Nat.pow_succ]
    calc mV g n + g n * 65536 ^ n < 65536 ^ n + g n * 65536 ^ n := by omega
      _ = (g n + 1) * 65536 ^ n := by rw [Nat.add_mul]; omega
      _ ≤ 65536 * 65536 ^ n := Nat.mul_le_mul_right _ (by omega)
      _ = 65536 ^ n * 65536 := Nat.mul_comm _ _
/-- register x of the row -/
def rg (H : Nat → Nat) (x : Nat) : Nat → Nat := fun k => H (80 * x + k)
/-- the row H is the row G but for register x, which holds v -/
def rgS (G H : Nat → Nat) (x v : Nat) : Prop := (∀ k, k < 80 → rg H x k < 65536) ∧ mV (rg H x) 80 = v ∧ ∀ j, j < 80 * x ∨ 80 * x + 80 ≤ j → H j = G j
theorem rg_up {H : Nat → Nat} {x i c : Nat} : rg (uN9 H (80 * x + i) c) x = uN9 (rg H x) i c := by
  funext k
  unfold rg
  by_cases e : k = i
  · rw [e, uN9_eq, uN9_eq]
  · rw [uN9_ne (by omega), uN9_ne e]
theorem rg_upo {H : Nat → Nat} {x y i c k : Nat} (hxy : x ≠ y) (hi : i < 80) (hk : k < 80) : rg (uN9 H (80 * x + i) c) y k = rg H y k := by
  unfold rg
  rw [uN9_ne (by omega)]
theorem mV_up {h : Nat → Nat} {i c : Nat} : mV (uN9 h i c) i = mV h i := mV_congr fun k hk => uN9_ne (by omega)
theorem m65 {w : Nat} (h : w < 2 ^ 63) : lN w &&& lN 65535 = lN (w % 65536) := g_mask (s := 16) (p := 65536) rfl (by decide) (by omega)
theorem i65 {w : Nat} (h : w < 2 ^ 32) : nI w &&& nI 65535 = nI (w % 65536) := pk_andN h 16 (by decide +kernel)
theorem shr16 {n : Nat} (h : n < 2 ^ 31) : nI n >>> (nI 16 &&& 31) = nI (n / 65536) := pk_shrN h _ 16 (by decide +kernel)
section MN1
variable {l : Launch} {G : aG} {base tA : Nat} {O : aO} {A : aA} {m na x y : Nat} {g : Nat → Nat} {v0 v1 v2 v3 v4 v5 v6 v7 : Value} {vs : List Value}
set_option maxHeartbeats 4000000 in
theorem ct_X9_clear (hx : x < 11) (hO : O m = some (10, v0 :: v1 :: v2 :: v3 :: v4 :: v5 :: v6 :: v7 :: .ref na :: vs)) (hA : A na = some (0, 880, .inl (nF g))) : aMet l G base tA yX9_clear cX9_clear 3 none rmZ [.ref m, .int (nI x)] O A (fun r O' A' => r = none ∧ O' = O ∧ ∃ H, A' = aSet A na (0, 880, .inl (nF H)) ∧ rgS g H x 0) := by
  refine aMet_of (ini := false) (B := aLook bkX9_clear) (by decide) (fun h => by first | rfl | cases h) (Nat.le_of_ble_eq_true rfl) boX9_clear ?_
  intro E J hb
  have loop : ∀ (n i : Nat) (H : Nat → Nat), 80 - i < n → i ≤ 80 → (∀ k, k < i → rg H x k = 0) → (∀ j, j < 80 * x ∨ 80 * x + 80 ≤ j → H j = g j) → J 2 [some (.ref m), some (.int (nI x)), some (.int (nI i))] [] O (aSet A na (0, 880, .inl (nF H))) 0 0 := by
    intro n
    induction n with
    | zero => intro i H hn; omega
    | succ n ih =>
      intro i H hn hi h1 h2
      refine hb.run (aCuts [2] J) 60 2 _ _ _ _ _ _ (aCuts_ok _) ?_
      by_cases hlt : i < 80
      · have e1 : (nI 80 ≤ nI i) = False := by rw [nI_leP (by decide) (by omega)]; simp; omega
        have e2 : vp_in (nI (80 * x + i)) 880 := vp_in_nI (by omega) (by decide)
        simp only [↓wpi_isub, ↓wpi_lsub, ↓wpi_ineg, ↓wpi_lneg, ↓wpi_irem, ↓wpi_lrem, ↓wpi_iinc, wp1, wp, wpl, wpi, lget, lput1, lput2, ltail, lkill, aV, aVl, aNth, aPut, aFz, aC0, aC2, aSw, aCat1, aCuts, aSet_eq, List.take, List.drop, List.reverse_cons, List.reverse_nil, List.nil_append, List.cons_append, List.length_cons, List.length_nil, Option.toList, true_and, and_true, Nat.reduceAdd, Nat.reduceEqDiff, Nat.reduceLT, Nat.reduceLeDiff, Nat.zero_add, Nat.add_zero, if_true, if_false, ite_true, ite_false, reduceIte, reduceCtorEq, true_or, or_true, not_true_eq_false, not_false_eq_true, false_and, and_false, true_implies, false_implies, not_false_eq_true, bqX9_clear_0, blX9_clear_0, bqX9_clear_2, blX9_clear_2, bqX9_clear_8, blX9_clear_8, bqX9_clear_26, blX9_clear_26, e1, hO, pk_mul, nI_add, e2, nI_clamp (show 80 * x + i < 2 ^ 31 by omega), nF_upd, aSet_aSet, iInc_p]
        refine ih (i + 1) _ (by omega) (by omega) (fun k hk => ?_) (fun j hj => ?_)
        · rw [rg_up]
          by_cases e : k = i
          · rw [e, uN9_eq]
          · rw [uN9_ne e]; exact h1 k (by omega)
        · rw [uN9_ne (by omega)]; exact h2 j hj
      · have e1 : (nI 80 ≤ nI i) = True := by rw [nI_leP (by decide) (by omega)]; simp; omega
        obtain rfl : i = 80 := by omega
        simp only [↓wpi_isub, ↓wpi_lsub, ↓wpi_ineg, ↓wpi_lneg, ↓wpi_irem, ↓wpi_lrem, ↓wpi_iinc, wp1, wp, wpl, wpi, lget, lput1, lput2, ltail, lkill, aV, aVl, aNth, aPut, aFz, aC0, aC2, aSw, aCat1, aCuts, aSet_eq, List.take, List.drop, List.reverse_cons, List.reverse_nil, List.nil_append, List.cons_append, List.length_cons, List.length_nil, Option.toList, true_and, and_true, Nat.reduceAdd, Nat.reduceEqDiff, Nat.reduceLT, Nat.reduceLeDiff, Nat.zero_add, Nat.add_zero, if_true, if_false, ite_true, ite_false, reduceIte, reduceCtorEq, true_or, or_true, not_true_eq_false, not_false_eq_true, false_and, and_false, true_implies, false_implies, not_false_eq_true, bqX9_clear_0, blX9_clear_0, bqX9_clear_2, blX9_clear_2, bqX9_clear_8, blX9_clear_8, bqX9_clear_26, blX9_clear_26, e1]
        refine hb.vret ⟨rfl, rfl, H, rfl, fun k hk => by rw [h1 k hk]; decide, ?_, h2⟩ (by decide) (by decide)
        rw [mV_congr (h := fun _ => 0) h1]
        clear h1 h2 ih
        have : ∀ n, mV (fun _ => 0) n = 0 := by
          intro n
          induction n with
          | zero => rfl
          | succ n ih => rw [mV_s, ih, Nat.zero_mul]
        exact this 80
  refine hb.run (aCuts [2] J) 60 0 _ _ _ _ _ _ (aCuts_ok _) ?_
  simp only [↓wpi_isub, ↓wpi_lsub, ↓wpi_ineg, ↓wpi_lneg, ↓wpi_irem, ↓wpi_lrem, ↓wpi_iinc, wp1, wp, wpl, wpi, lget, lput1, lput2, ltail, lkill, aV, aVl, aNth, aPut, aFz, aC0, aC2, aSw, aCat1, aCuts, aSet_eq, List.take, List.drop, List.reverse_cons, List.reverse_nil, List.nil_append, List.cons_append, List.length_cons, List.length_nil, Option.toList, true_and, and_true, Nat.reduceAdd, Nat.reduceEqDiff, Nat.reduceLT, Nat.reduceLeDiff, Nat.zero_add, Nat.add_zero, if_true, if_false, ite_true, ite_false, reduceIte, reduceCtorEq, true_or, or_true, not_true_eq_false, not_false_eq_true, false_and, and_false, true_implies, false_implies, not_false_eq_true, bqX9_clear_0, blX9_clear_0, bqX9_clear_2, blX9_clear_2, bqX9_clear_8, blX9_clear_8, bqX9_clear_26, blX9_clear_26, aArgs, List.replicate]
  have h0 := loop 81 0 g (by omega) (by omega) (fun k hk => by omega) (fun _ _ => rfl)
  rw [aSet_id hA] at h0
  exact h0
set_option maxHeartbeats 4000000 in
theorem ct_X9_copy (hx : x < 11) (hy : y < 11) (hxy : x ≠ y) (hO : O m = some (10, v0 :: v1 :: v2 :: v3 :: v4 :: v5 :: v6 :: v7 :: .ref na :: vs)) (hA : A na = some (0, 880, .inl (nF g))) (hg : ∀ k, k < 80 → rg g x k < 65536) : aMet l G base tA yX9_copy cX9_copy 4 none rmZ [.ref m, .int (nI x), .int (nI y)] O A (fun r O' A' => r = none ∧ O' = O ∧ ∃ H, A' = aSet A na (0, 880, .inl (nF H)) ∧ rgS g H y (mV (rg g x) 80)) := by
  refine aMet_of (ini := false) (B := aLook bkX9_copy) (by decide) (fun h => by first | rfl | cases h) (Nat.le_of_ble_eq_true rfl) boX9_copy ?_
  intro E J hb
  have loop : ∀ (n i : Nat) (H : Nat → Nat), 80 - i < n → i ≤ 80 → (∀ k, k < i → rg H y k = rg g x k) → (∀ j, j < 80 * y ∨ 80 * y + 80 ≤ j → H j = g j) → J 2 [some (.ref m), some (.int (nI x)), some (.int (nI y)), some (.int (nI i))] [] O (aSet A na (0, 880, .inl (nF H))) 0 0 := by
    intro n
    induction n with
    | zero => intro i H hn; omega
    | succ n ih =>
      intro i H hn hi h1 h2
      refine hb.run (aCuts [2] J) 60 2 _ _ _ _ _ _ (aCuts_ok _) ?_
      by_cases hlt : i < 80
      · have e1 : (nI 80 ≤ nI i) = False := by rw [nI_leP (by decide) (by omega)]; simp; omega
        have e2 : vp_in (nI (80 * x + i)) 880 := vp_in_nI (by omega) (by decide)
        have e3 : vp_in (nI (80 * y + i)) 880 := vp_in_nI (by omega) (by decide)
        simp only [↓wpi_isub, ↓wpi_lsub, ↓wpi_ineg, ↓wpi_lneg, ↓wpi_irem, ↓wpi_lrem, ↓wpi_iinc, wp1, wp, wpl, wpi, lget, lput1, lput2, ltail, lkill, aV, aVl, aNth, aPut, aFz, aC0, aC2, aSw, aCat1, aCuts, aSet_eq, List.take, List.drop, List.reverse_cons, List.reverse_nil, List.nil_append, List.cons_append, List.length_cons, List.length_nil, Option.toList, true_and, and_true, Nat.reduceAdd, Nat.reduceEqDiff, Nat.reduceLT, Nat.reduceLeDiff, Nat.zero_add, Nat.add_zero, if_true, if_false, ite_true, ite_false, reduceIte, reduceCtorEq, true_or, or_true, not_true_eq_false, not_false_eq_true, false_and, and_false, true_implies, false_implies, not_false_eq_true, bqX9_copy_0, blX9_copy_0, bqX9_copy_2, blX9_copy_2, bqX9_copy_8, blX9_copy_8, bqX9_copy_36, blX9_copy_36, e1, hO, pk_mul, nI_add, e2, e3, nI_clamp (show 80 * x + i < 2 ^ 31 by omega), nI_clamp (show 80 * y + i < 2 ^ 31 by omega), nF_at, nF_upd, aSet_aSet, iInc_p]
        refine ih (i + 1) _ (by omega) (by omega) (fun k hk => ?_) (fun j hj => ?_)
        · rw [rg_up]
          by_cases e : k = i
          · rw [e, uN9_eq, h2 _ (by omega)]; rfl
          · rw [uN9_ne e]; exact h1 k (by omega)
        · rw [uN9_ne (by omega)]; exact h2 j hj
      · have e1 : (nI 80 ≤ nI i) = True := by rw [nI_leP (by decide) (by omega)]; simp; omega
        obtain rfl : i = 80 := by omega
        simp only [↓wpi_isub, ↓wpi_lsub, ↓wpi_ineg, ↓wpi_lneg, ↓wpi_irem, ↓wpi_lrem, ↓wpi_iinc, wp1, wp, wpl, wpi, lget, lput1, lput2, ltail, lkill, aV, aVl, aNth, aPut, aFz, aC0, aC2, aSw, aCat1, aCuts, aSet_eq, List.take, List.drop, List.reverse_cons, List.reverse_nil, List.nil_append, List.cons_append, List.length_cons, List.length_nil, Option.toList, true_and, and_true, Nat.reduceAdd, Nat.reduceEqDiff, Nat.reduceLT, Nat.reduceLeDiff, Nat.zero_add, Nat.add_zero, if_true, if_false, ite_true, ite_false, reduceIte, reduceCtorEq, true_or, or_true, not_true_eq_false, not_false_eq_true, false_and, and_false, true_implies, false_implies, not_false_eq_true, bqX9_copy_0, blX9_copy_0, bqX9_copy_2, blX9_copy_2, bqX9_copy_8, blX9_copy_8, bqX9_copy_36, blX9_copy_36, e1]
        exact hb.vret ⟨rfl, rfl, H, rfl, fun k hk => by rw [h1 k hk]; exact hg k hk, mV_congr h1, h2⟩ (by decide) (by decide)
  refine hb.run (aCuts [2] J) 60 0 _ _ _ _ _ _ (aCuts_ok _) ?_
  simp only [↓wpi_isub, ↓wpi_lsub, ↓wpi_ineg, ↓wpi_lneg, ↓wpi_irem, ↓wpi_lrem, ↓wpi_iinc, wp1, wp, wpl, wpi, lget, lput1, lput2, ltail, lkill, aV, aVl, aNth, aPut, aFz, aC0, aC2, aSw, aCat1, aCuts, aSet_eq, List.take, List.drop, List.reverse_cons, List.reverse_nil, List.nil_append, List.cons_append, List.length_cons, List.length_nil, Option.toList, true_and, and_true, Nat.reduceAdd, Nat.reduceEqDiff, Nat.reduceLT, Nat.reduceLeDiff, Nat.zero_add, Nat.add_zero, if_true, if_false, ite_true, ite_false, reduceIte, reduceCtorEq, true_or, or_true, not_true_eq_false, not_false_eq_true, false_and, and_false, true_implies, false_implies, not_false_eq_true, bqX9_copy_0, blX9_copy_0, bqX9_copy_2, blX9_copy_2, bqX9_copy_8, blX9_copy_8, bqX9_copy_36, blX9_copy_36, aArgs, List.replicate]
  have h0 := loop 81 0 g (by omega) (by omega) (fun k hk => by omega) (fun _ _ => rfl)
  rw [aSet_id hA] at h0
  exact h0
theorem mtimes_step {V W c a f q r P : Nat} (hd : 65536 * q + r = a * f + c) (h : V + c * P = W * f) : V + r * P + q * (P * 65536) = (W + a * P) * f := by
  have e9 : (65536 * q + r) * P = (a * f + c) * P := by rw [hd]
  grind
set_option maxHeartbeats 4000000 in
theorem ct_X9_times (hx : x < 11) {f : Nat} (hf : f < 65536) (hO : O m = some (10, v0 :: v1 :: v2 :: v3 :: v4 :: v5 :: v6 :: v7 :: .ref na :: vs)) (hA : A na = some (0, 880, .inl (nF g))) (hg : ∀ k, k < 80 → rg g x k < 65536) (hmax : mV (rg g x) 80 * f < 65536 ^ 80) : aMet l G base tA yX9_times cX9_times 8 none rmZ [.ref m, .int (nI x), .int (nI f)] O A (fun r O' A' => r = none ∧ O' = O ∧ ∃ H, A' = aSet A na (0, 880, .inl (nF H)) ∧ rgS g H x (mV (rg g x) 80 * f)) := by
  refine aMet_of (ini := false) (B := aLook bkX9_times) (by decide) (fun h => by first | rfl | cases h) (Nat.le_of_ble_eq_true rfl) boX9_times ?_
  intro E J hb
  have loop : ∀ (n i c : Nat) (H : Nat → Nat) (x6 x7 : Option Value), 80 - i < n → i ≤ 80 → c < 65536 → (∀ k, k < 80 → rg H x k < 65536) → (∀ k, i ≤ k → k < 80 → rg H x k = rg g x k) → mV (rg H x) i + c * 65536 ^ i = mV (rg g x) i * f → (∀ j, j < 80 * x ∨ 80 * x + 80 ≤ j → H j = g j) → J 5 [some (.ref m), some (.int (nI x)), some (.int (nI f)), some (.long (lN c)), none, some (.int (nI i)), x6, x7] [] O (aSet A na (0, 880, .inl (nF H))) 0 0 := by
    intro n
    induction n with
    | zero => intro i c H x6 x7 hn; omega
    | succ n ih =>
      intro i c H x6 x7 hn hi hc p1 p2 p3 p4
      refine hb.run (aCuts [5] J) 60 5 _ _ _ _ _ _ (aCuts_ok _) ?_
      by_cases hlt : i < 80
      · have e1 : (nI 80 ≤ nI i) = False := by rw [nI_leP (by decide) (by omega)]; simp; omega
        have e2 : vp_in (nI (80 * x + i)) 880 := vp_in_nI (by omega) (by decide)
        have hgi := hg i hlt
        have e3 : H (80 * x + i) = rg g x i := p2 i (Nat.le_refl i) hlt
        have hp : rg g x i * f ≤ 65535 * 65535 := Nat.mul_le_mul (by omega) (by omega)
        have hw : rg g x i * f + c < 2 ^ 63 := by omega
        simp only [↓wpi_isub, ↓wpi_lsub, ↓wpi_ineg, ↓wpi_lneg, ↓wpi_irem, ↓wpi_lrem, ↓wpi_iinc, wp1, wp, wpl, wpi, lget, lput1, lput2, ltail, lkill, aV, aVl, aNth, aPut, aFz, aC0, aC2, aSw, aCat1, aCuts, aSet_eq, List.take, List.drop, List.reverse_cons, List.reverse_nil, List.nil_append, List.cons_append, List.length_cons, List.length_nil, Option.toList, true_and, and_true, Nat.reduceAdd, Nat.reduceEqDiff, Nat.reduceLT, Nat.reduceLeDiff, Nat.zero_add, Nat.add_zero, if_true, if_false, ite_true, ite_false, reduceIte, reduceCtorEq, true_or, or_true, not_true_eq_false, not_false_eq_true, false_and, and_false, true_implies, false_implies, not_false_eq_true, bqX9_times_0, blX9_times_0, bqX9_times_5, blX9_times_5, bqX9_times_12, blX9_times_12, bqX9_times_63, blX9_times_63, e1, hO, pk_mul, nI_add, e2, nI_clamp (show 80 * x + i < 2 ^ 31 by omega), nF_at, e3, nI_l (show rg g x i < 2 ^ 31 by omega), nI_l (show f < 2 ^ 31 by omega), lN_mul, lN_add, m65 hw, lN_i, nF_upd, aSet_aSet, lN_sar3 hw (show 16 < 64 by decide), iInc_p]
        refine ih (i + 1) _ _ _ _ (by omega) (by omega) (by omega) (fun k hk => ?_) (fun k k1 k2 => ?_) ?_ (fun j hj => ?_)
        · rw [rg_up]
          by_cases e : k = i
          · rw [e, uN9_eq]; exact Nat.mod_lt _ (by decide)
          · rw [uN9_ne e]; exact p1 k hk
        · rw [rg_up, uN9_ne (by omega)]; exact p2 k (by omega) k2
        · rw [mV_s, rg_up, mV_up, uN9_eq, mV_s, Nat.pow_succ]
          exact mtimes_step (Nat.div_add_mod (rg g x i * f + c) 65536) p3
        · rw [uN9_ne (by omega)]; exact p4 j hj
      · have e1 : (nI 80 ≤ nI i) = True := by rw [nI_leP (by decide) (by omega)]; simp; omega
        obtain rfl : i = 80 := by omega
        simp only [↓wpi_isub, ↓wpi_lsub, ↓wpi_ineg, ↓wpi_lneg, ↓wpi_irem, ↓wpi_lrem, ↓wpi_iinc, wp1, wp, wpl, wpi, lget, lput1, lput2, ltail, lkill, aV, aVl, aNth, aPut, aFz, aC0, aC2, aSw, aCat1, aCuts, aSet_eq, List.take, List.drop, List.reverse_cons, List.reverse_nil, List.nil_append, List.cons_append, List.length_cons, List.length_nil, Option.toList, true_and, and_true, Nat.reduceAdd, Nat.reduceEqDiff, Nat.reduceLT, Nat.reduceLeDiff, Nat.zero_add, Nat.add_zero, if_true, if_false, ite_true, ite_false, reduceIte, reduceCtorEq, true_or, or_true, not_true_eq_false, not_false_eq_true, false_and, and_false, true_implies, false_implies, not_false_eq_true, bqX9_times_0, blX9_times_0, bqX9_times_5, blX9_times_5, bqX9_times_12, blX9_times_12, bqX9_times_63, blX9_times_63, e1]
        have hc0 : c = 0 := by
          rcases Nat.eq_zero_or_pos c with q | q
          · exact q
          · exfalso
            rw [← p3] at hmax
            have : 1 * 65536 ^ 80 ≤ c * 65536 ^ 80 := Nat.mul_le_mul_right _ q
            omega
        rw [hc0, Nat.zero_mul, Nat.add_zero] at p3
        exact hb.vret ⟨rfl, rfl, H, rfl, p1, p3, p4⟩ (by decide) (by decide)
  refine hb.run (aCuts [5] J) 60 0 _ _ _ _ _ _ (aCuts_ok _) ?_
  simp only [↓wpi_isub, ↓wpi_lsub, ↓wpi_ineg, ↓wpi_lneg, ↓wpi_irem, ↓wpi_lrem, ↓wpi_iinc, wp1, wp, wpl, wpi, lget, lput1, lput2, ltail, lkill, aV, aVl, aNth, aPut, aFz, aC0, aC2, aSw, aCat1, aCuts, aSet_eq, List.take, List.drop, List.reverse_cons, List.reverse_nil, List.nil_append, List.cons_append, List.length_cons, List.length_nil, Option.toList, true_and, and_true, Nat.reduceAdd, Nat.reduceEqDiff, Nat.reduceLT, Nat.reduceLeDiff, Nat.zero_add, Nat.add_zero, if_true, if_false, ite_true, ite_false, reduceIte, reduceCtorEq, true_or, or_true, not_true_eq_false, not_false_eq_true, false_and, and_false, true_implies, false_implies, not_false_eq_true, bqX9_times_0, blX9_times_0, bqX9_times_5, blX9_times_5, bqX9_times_12, blX9_times_12, bqX9_times_63, blX9_times_63, aArgs, List.replicate]
  have h0 := loop 81 0 0 g none none (by omega) (by omega) (by omega) hg (fun _ _ _ => rfl) (by simp [mV]) (fun _ _ => rfl)
  rw [aSet_id hA] at h0
  exact h0
theorem mplus_step {V W c a q r P : Nat} (hd : 65536 * q + r = a + c) (h : V + c * P = W) : V + r * P + q * (P * 65536) = W + a * P := by
  have e9 : (65536 * q + r) * P = (a + c) * P := by rw [hd]
  grind
theorem mV_tail {h k : Nat → Nat} {i : Nat} : ∀ {n : Nat}, i ≤ n → (∀ j, i ≤ j → j < n → h j = k j) → mV h n + mV k i = mV k n + mV h i
  | 0, hi, _ => by
    have : i = 0 := by omega
    subst this; rfl
  | n + 1, hi, he => by
    by_cases e : i = n + 1
    · subst e; omega
    · have ih := mV_tail (h := h) (k := k) (i := i) (n := n) (by omega) (fun j j1 j2 => he j j1 (by omega))
      rw [mV_s, mV_s, he n (by omega) (by omega)]
      omega
set_option maxHeartbeats 4000000 in
theorem ct_X9_plus (hx : x < 11) {f : Nat} (hf : f < 65536) (hO : O m = some (10, v0 :: v1 :: v2 :: v3 :: v4 :: v5 :: v6 :: v7 :: .ref na :: vs)) (hA : A na = some (0, 880, .inl (nF g))) (hg : ∀ k, k < 80 → rg g x k < 65536) (hmax : mV (rg g x) 80 + f < 65536 ^ 80) : aMet l G base tA yX9_plus cX9_plus 6 none rmZ [.ref m, .int (nI x), .int (nI f)] O A (fun r O' A' => r = none ∧ O' = O ∧ ∃ H, A' = aSet A na (0, 880, .inl (nF H)) ∧ rgS g H x (mV (rg g x) 80 + f)) := by
  refine aMet_of (ini := false) (B := aLook bkX9_plus) (by decide) (fun h => by first | rfl | cases h) (Nat.le_of_ble_eq_true rfl) boX9_plus ?_
  intro E J hb
  have loop : ∀ (n i c : Nat) (H : Nat → Nat) (x5 : Option Value), 80 - i < n → i ≤ 80 → c < 65536 → (∀ k, k < 80 → rg H x k < 65536) → (∀ k, i ≤ k → k < 80 → rg H x k = rg g x k) → mV (rg H x) i + c * 65536 ^ i = mV (rg g x) i + f → (∀ j, j < 80 * x ∨ 80 * x + 80 ≤ j → H j = g j) → J 5 [some (.ref m), some (.int (nI x)), some (.int (nI f)), some (.int (nI c)), some (.int (nI i)), x5] [] O (aSet A na (0, 880, .inl (nF H))) 0 0 := by
    intro n
    induction n with
    | zero => intro i c H x5 hn; omega
    | succ n ih =>
      intro i c H x5 hn hi hc p1 p2 p3 p4
      refine hb.run (aCuts [5] J) 60 5 _ _ _ _ _ _ (aCuts_ok _) ?_
      have fin : c = 0 → (eRt E = none ∧ eRet E none O (aSet A na (0, 880, .inl (nF H))) 0 0) := by
        intro hc0
        rw [hc0, Nat.zero_mul, Nat.add_zero] at p3
        refine hb.vret ⟨rfl, rfl, H, rfl, p1, ?_, p4⟩ (by decide) (by decide)
        have := mV_tail (h := rg H x) (k := rg g x) (i := i) (n := 80) hi p2
        omega
      by_cases hlt : i < 80
      · have e1 : (nI 80 ≤ nI i) = False := by rw [nI_leP (by decide) (by omega)]; simp; omega
        by_cases hc0 : c = 0
        · have e4 : (nI c ≤ 0) = True := by rw [hc0, nI_0]; simp
          simp only [↓wpi_isub, ↓wpi_lsub, ↓wpi_ineg, ↓wpi_lneg, ↓wpi_irem, ↓wpi_lrem, ↓wpi_iinc, wp1, wp, wpl, wpi, lget, lput1, lput2, ltail, lkill, aV, aVl, aNth, aPut, aFz, aC0, aC2, aSw, aCat1, aCuts, aSet_eq, List.take, List.drop, List.reverse_cons, List.reverse_nil, List.nil_append, List.cons_append, List.length_cons, List.length_nil, Option.toList, true_and, and_true, Nat.reduceAdd, Nat.reduceEqDiff, Nat.reduceLT, Nat.reduceLeDiff, Nat.zero_add, Nat.add_zero, if_true, if_false, ite_true, ite_false, reduceIte, reduceCtorEq, true_or, or_true, not_true_eq_false, not_false_eq_true, false_and, and_false, true_implies, false_implies, not_false_eq_true, bqX9_plus_0, blX9_plus_0, bqX9_plus_5, blX9_plus_5, bqX9_plus_12, blX9_plus_12, bqX9_plus_16, blX9_plus_16, bqX9_plus_61, blX9_plus_61, e1, e4]
          exact fin hc0
        · have e4 : (nI c ≤ 0) = False := by rw [nI_lez (by omega)]; simp [hc0]
          have e2 : vp_in (nI (80 * x + i)) 880 := vp_in_nI (by omega) (by decide)
          have hgi := hg i hlt
          have e3 : H (80 * x + i) = rg g x i := p2 i (Nat.le_refl i) hlt
          simp only [↓wpi_isub, ↓wpi_lsub, ↓wpi_ineg, ↓wpi_lneg, ↓wpi_irem, ↓wpi_lrem, ↓wpi_iinc, wp1, wp, wpl, wpi, lget, lput1, lput2, ltail, lkill, aV, aVl, aNth, aPut, aFz, aC0, aC2, aSw, aCat1, aCuts, aSet_eq, List.take, List.drop, List.reverse_cons, List.reverse_nil, List.nil_append, List.cons_append, List.length_cons, List.length_nil, Option.toList, true_and, and_true, Nat.reduceAdd, Nat.reduceEqDiff, Nat.reduceLT, Nat.reduceLeDiff, Nat.zero_add, Nat.add_zero, if_true, if_false, ite_true, ite_false, reduceIte, reduceCtorEq, true_or, or_true, not_true_eq_false, not_false_eq_true, false_and, and_false, true_implies, false_implies, not_false_eq_true, bqX9_plus_0, blX9_plus_0, bqX9_plus_5, blX9_plus_5, bqX9_plus_12, blX9_plus_12, bqX9_plus_16, blX9_plus_16, bqX9_plus_61, blX9_plus_61, e1, e4, hO, pk_mul, nI_add, e2, nI_clamp (show 80 * x + i < 2 ^ 31 by omega), nF_at, e3, i65 (show rg g x i + c < 2 ^ 32 by omega), nF_upd, aSet_aSet, shr16 (show rg g x i + c < 2 ^ 31 by omega), iInc_p]
          refine ih (i + 1) _ _ _ (by omega) (by omega) (by omega) (fun k hk => ?_) (fun k k1 k2 => ?_) ?_ (fun j hj => ?_)
          · rw [rg_up]
            by_cases e : k = i
            · rw [e, uN9_eq]; exact Nat.mod_lt _ (by decide)
            · rw [uN9_ne e]; exact p1 k hk
          · rw [rg_up, uN9_ne (by omega)]; exact p2 k (by omega) k2
          · rw [mV_s, rg_up, mV_up, uN9_eq, mV_s, Nat.pow_succ]
            have := mplus_step (Nat.div_add_mod (rg g x i + c) 65536) p3
            omega
          · rw [uN9_ne (by omega)]; exact p4 j hj
      · have e1 : (nI 80 ≤ nI i) = True := by rw [nI_leP (by decide) (by omega)]; simp; omega
        obtain rfl : i = 80 := by omega
        simp only [↓wpi_isub, ↓wpi_lsub, ↓wpi_ineg, ↓wpi_lneg, ↓wpi_irem, ↓wpi_lrem, ↓wpi_iinc, wp1, wp, wpl, wpi, lget, lput1, lput2, ltail, lkill, aV, aVl, aNth, aPut, aFz, aC0, aC2, aSw, aCat1, aCuts, aSet_eq, List.take, List.drop, List.reverse_cons, List.reverse_nil, List.nil_append, List.cons_append, List.length_cons, List.length_nil, Option.toList, true_and, and_true, Nat.reduceAdd, Nat.reduceEqDiff, Nat.reduceLT, Nat.reduceLeDiff, Nat.zero_add, Nat.add_zero, if_true, if_false, ite_true, ite_false, reduceIte, reduceCtorEq, true_or, or_true, not_true_eq_false, not_false_eq_true, false_and, and_false, true_implies, false_implies, not_false_eq_true, bqX9_plus_0, blX9_plus_0, bqX9_plus_5, blX9_plus_5, bqX9_plus_12, blX9_plus_12, bqX9_plus_16, blX9_plus_16, bqX9_plus_61, blX9_plus_61, e1]
        refine fin ?_
        rcases Nat.eq_zero_or_pos c with q | q
        · exact q
        · exfalso
          rw [← p3] at hmax
          have : 1 * 65536 ^ 80 ≤ c * 65536 ^ 80 := Nat.mul_le_mul_right _ q
          omega
  refine hb.run (aCuts [5] J) 60 0 _ _ _ _ _ _ (aCuts_ok _) ?_
  simp only [↓wpi_isub, ↓wpi_lsub, ↓wpi_ineg, ↓wpi_lneg, ↓wpi_irem, ↓wpi_lrem, ↓wpi_iinc, wp1, wp, wpl, wpi, lget, lput1, lput2, ltail, lkill, aV, aVl, aNth, aPut, aFz, aC0, aC2, aSw, aCat1, aCuts, aSet_eq, List.take, List.drop, List.reverse_cons, List.reverse_nil, List.nil_append, List.cons_append, List.length_cons, List.length_nil, Option.toList, true_and, and_true, Nat.reduceAdd, Nat.reduceEqDiff, Nat.reduceLT, Nat.reduceLeDiff, Nat.zero_add, Nat.add_zero, if_true, if_false, ite_true, ite_false, reduceIte, reduceCtorEq, true_or, or_true, not_true_eq_false, not_false_eq_true, false_and, and_false, true_implies, false_implies, not_false_eq_true, bqX9_plus_0, blX9_plus_0, bqX9_plus_5, blX9_plus_5, bqX9_plus_12, blX9_plus_12, bqX9_plus_16, blX9_plus_16, bqX9_plus_61, blX9_plus_61, aArgs, List.replicate]
  have h0 := loop 81 0 f g none (by omega) (by omega) hf hg (fun _ _ _ => rfl) (by simp [mV]) (fun _ _ => rfl)
  rw [aSet_id hA] at h0
  exact h0
end MN1
