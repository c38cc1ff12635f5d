/-! ===== the reference's long naturals: sums, order, bits ===== -/
theorem mV_zero {g : Nat → Nat} : ∀ {n : Nat}, mV g n = 0 ↔ ∀ k, k < n → g k = 0
  | 0 => ⟨fun _ k hk => by omega, fun _ => rfl⟩
  | n + 1 => by
    have ih := mV_zero (g := g) (n := n)
    have hp : 0 < 65536 ^ n := Nat.pow_pos (by decide)
    rw [mV_s]
    constructor
    · intro h k hk
      have h1 : mV g n = 0 := by omega
      have h2 : g n * 65536 ^ n = 0 := by omega
      by_cases e : k = n
      · rw [e]
        rcases Nat.mul_eq_zero.mp h2 with q | q
        · exact q
        · omega
      · exact ih.mp h1 k (by omega)
    · intro h
      rw [ih.mpr (fun k hk => h k (by omega)), h n (by omega), Nat.zero_mul]
theorem mV_cmp {a b : Nat → Nat} {i n : Nat} (hi : i < n) (he : ∀ k, i < k → k < n → a k = b k) (hl : a i < b i) (ha : ∀ k, k < n → a k < 65536) : mV a n < mV b n := by
  have h1 := mV_tail (h := a) (k := b) (i := i + 1) (n := n) hi (fun j j1 j2 => he j (by omega) j2)
  have h2 : mV a i < 65536 ^ i := mV_lt fun k hk => ha k (by omega)
  have h3 : mV a (i + 1) < mV b (i + 1) := by
    rw [mV_s, mV_s]
    have : (a i + 1) * 65536 ^ i ≤ b i * 65536 ^ i := Nat.mul_le_mul_right _ hl
    rw [Nat.add_mul, Nat.one_mul] at this
    omega
  omega
/-- one limb of the value -/
theorem mV_limb {g : Nat → Nat} {i n : Nat} (hi : i < n) (hg : ∀ k, k < n → g k < 65536) : mV g n / 65536 ^ i % 65536 = g i := by
  induction n with
  | zero => omega
  | succ n ih =>
    rw [mV_s]
    by_cases e : i = n
    · subst e
      have h1 : mV g i < 65536 ^ i := mV_lt fun k hk => hg k (by omega)
      rw [Nat.add_mul_div_right _ _ (Nat.pow_pos (by decide)), Nat.div_eq_of_lt h1, Nat.zero_add, Nat.mod_eq_of_lt (hg i (by omega))]
    · have h2 := ih (by omega) (fun k hk => hg k (by omega))
      obtain ⟨d, hd⟩ : ∃ d, n = i + 1 + d := ⟨n - i - 1, by omega⟩
      have h3 : g n * 65536 ^ n = (g n * 65536 ^ d * 65536) * 65536 ^ i := by
        rw [hd, Nat.pow_add, Nat.pow_succ]
        grind
      rw [h3, Nat.add_mul_div_right _ _ (Nat.pow_pos (by decide)), Nat.add_mul_mod_self_right]
      exact h2
theorem div_bit {v i j : Nat} (hj : j < 16) : v / 2 ^ (16 * i + j) % 2 = v / 65536 ^ i % 65536 / 2 ^ j % 2 := by
  have e1 : (2 : Nat) ^ (16 * i + j) = 65536 ^ i * 2 ^ j := by rw [Nat.pow_add, Nat.pow_mul]
  rw [e1, ← Nat.div_div_eq_div_mul]
  generalize v / 65536 ^ i = w
  have e2 : (65536 : Nat) = 2 ^ j * (2 * 2 ^ (15 - j)) := by
    rw [← Nat.pow_succ', ← Nat.pow_add, show j + (15 - j + 1) = 16 by omega]
  rw [e2, Nat.mod_mul_right_div_self, Nat.mod_mul_right_mod]
theorem shrV {n j : Nat} (h : n < 2 ^ 31) (hj : j < 32) : nI n >>> (nI j &&& 31) = nI (n / 2 ^ j) := pk_shrN h _ j (s_l j hj)
theorem iZ_m16 (z : Int) : iZ z &&& nI 65535 = nI (z % 65536).toNat := by
  obtain ⟨n, hn, e⟩ := wb_of32 (iZ z)
  rw [e, i65 hn]
  congr 1
  have h1 : (iZ z).toBitVec = BitVec.ofInt 32 z := rfl
  have h2 : (iZ z).toBitVec.toNat = n := by rw [e]; exact pk_tn hn
  rw [h1, BitVec.toNat_ofInt] at h2
  omega
theorem iZ_ge0 {z : Int} (h1 : -2 ^ 31 ≤ z) (h2 : z < 2 ^ 31) : (0 ≤ iZ z) = (0 ≤ z) := by
  rw [eq_iff_iff, Int32.le_iff_toInt_le, iZ_toInt h1 h2]; rfl
section MN2
variable {l : Launch} {G : aG} {base tA : Nat} {O : aO} {A : aA} {m na x y : Nat} {g : Nat → Nat} {v0 v1 v2 v3 v4 v5 v6 v7 : Value} {vs : List Value}
theorem madd_step {V W U c a b q r P : Nat} (hd : 65536 * q + r = a + b + c) (h : V + c * P = W + U) : V + r * P + q * (P * 65536) = W + a * P + (U + b * P) := by
  have e9 : (65536 * q + r) * P = (a + b + c) * P := by rw [hd]
  grind
set_option maxHeartbeats 4000000 in
theorem ct_X9_add (hx : x < 11) (hy : y < 11) (hxy : x ≠ y) (hO : O m = some (10, v0 :: v1 :: v2 :: v3 :: v4 :: v5 :: v6 :: v7 :: .ref na :: vs)) (hA : A na = some (0, 880, .inl (nF g))) (hg : ∀ k, k < 80 → rg g x k < 65536) (hg2 : ∀ k, k < 80 → rg g y k < 65536) (hmax : mV (rg g x) 80 + mV (rg g y) 80 < 65536 ^ 80) : aMet l G base tA yX9_add cX9_add 6 none rmZ [.ref m, .int (nI x), .int (nI y)] O A (fun r O' A' => r = none ∧ O' = O ∧ ∃ H, A' = aSet A na (0, 880, .inl (nF H)) ∧ rgS g H x (mV (rg g x) 80 + mV (rg g y) 80)) := by
  refine aMet_of (ini := false) (B := aLook bkX9_add) (by decide) (fun h => by first | rfl | cases h) (Nat.le_of_ble_eq_true rfl) boX9_add ?_
  intro E J hb
  have loop : ∀ (n i c : Nat) (H : Nat → Nat) (x5 : Option Value), 80 - i < n → i ≤ 80 → c < 2 → (∀ k, k < 80 → rg H x k < 65536) → (∀ k, i ≤ k → k < 80 → rg H x k = rg g x k) → mV (rg H x) i + c * 65536 ^ i = mV (rg g x) i + mV (rg g y) i → (∀ j, j < 80 * x ∨ 80 * x + 80 ≤ j → H j = g j) → J 5 [some (.ref m), some (.int (nI x)), some (.int (nI y)), some (.int (nI c)), some (.int (nI i)), x5] [] O (aSet A na (0, 880, .inl (nF H))) 0 0 := by
    intro n
    induction n with
    | zero => intro i c H x5 hn; omega
    | succ n ih =>
      intro i c H x5 hn hi hc p1 p2 p3 p4
      refine hb.run (aCuts [5] J) 60 5 _ _ _ _ _ _ (aCuts_ok _) ?_
      by_cases hlt : i < 80
      · have e1 : (nI 80 ≤ nI i) = False := by rw [nI_leP (by decide) (by omega)]; simp; omega
        have e2 : vp_in (nI (80 * x + i)) 880 := vp_in_nI (by omega) (by decide)
        have e5 : vp_in (nI (80 * y + i)) 880 := vp_in_nI (by omega) (by decide)
        have hgi := hg i hlt
        have hgi2 := hg2 i hlt
        have e3 : H (80 * x + i) = rg g x i := p2 i (Nat.le_refl i) hlt
        have e4 : H (80 * y + i) = rg g y i := p4 _ (by omega)
        simp only [↓wpi_isub, ↓wpi_lsub, ↓wpi_ineg, ↓wpi_lneg, ↓wpi_irem, ↓wpi_lrem, ↓wpi_iinc, wp1, wp, wpl, wpi, lget, lput1, lput2, ltail, lkill, aV, aVl, aNth, aPut, aFz, aC0, aC2, aSw, aCat1, aCuts, aSet_eq, List.take, List.drop, List.reverse_cons, List.reverse_nil, List.nil_append, List.cons_append, List.length_cons, List.length_nil, Option.toList, true_and, and_true, Nat.reduceAdd, Nat.reduceEqDiff, Nat.reduceLT, Nat.reduceLeDiff, Nat.zero_add, Nat.add_zero, if_true, if_false, ite_true, ite_false, reduceIte, reduceCtorEq, true_or, or_true, not_true_eq_false, not_false_eq_true, false_and, and_false, true_implies, false_implies, not_false_eq_true, bqX9_add_0, blX9_add_0, bqX9_add_5, blX9_add_5, bqX9_add_12, blX9_add_12, bqX9_add_70, blX9_add_70, e1, hO, pk_mul, nI_add, e2, e5, nI_clamp (show 80 * x + i < 2 ^ 31 by omega), nI_clamp (show 80 * y + i < 2 ^ 31 by omega), nF_at, e3, e4, i65 (show rg g x i + rg g y i + c < 2 ^ 32 by omega), nF_upd, aSet_aSet, shr16 (show rg g x i + rg g y i + c < 2 ^ 31 by omega), iInc_p]
        refine ih (i + 1) _ _ _ (by omega) (by omega) (by omega) (fun k hk => ?_) (fun k k1 k2 => ?_) ?_ (fun j hj => ?_)
        · rw [rg_up]
          by_cases e : k = i
          · rw [e, uN9_eq]; exact Nat.mod_lt _ (by decide)
          · rw [uN9_ne e]; exact p1 k hk
        · rw [rg_up, uN9_ne (by omega)]; exact p2 k (by omega) k2
        · rw [mV_s, rg_up, mV_up, uN9_eq, mV_s, mV_s, Nat.pow_succ]
          exact madd_step (Nat.div_add_mod (rg g x i + rg g y i + c) 65536) p3
        · rw [uN9_ne (by omega)]; exact p4 j hj
      · have e1 : (nI 80 ≤ nI i) = True := by rw [nI_leP (by decide) (by omega)]; simp; omega
        obtain rfl : i = 80 := by omega
        simp only [↓wpi_isub, ↓wpi_lsub, ↓wpi_ineg, ↓wpi_lneg, ↓wpi_irem, ↓wpi_lrem, ↓wpi_iinc, wp1, wp, wpl, wpi, lget, lput1, lput2, ltail, lkill, aV, aVl, aNth, aPut, aFz, aC0, aC2, aSw, aCat1, aCuts, aSet_eq, List.take, List.drop, List.reverse_cons, List.reverse_nil, List.nil_append, List.cons_append, List.length_cons, List.length_nil, Option.toList, true_and, and_true, Nat.reduceAdd, Nat.reduceEqDiff, Nat.reduceLT, Nat.reduceLeDiff, Nat.zero_add, Nat.add_zero, if_true, if_false, ite_true, ite_false, reduceIte, reduceCtorEq, true_or, or_true, not_true_eq_false, not_false_eq_true, false_and, and_false, true_implies, false_implies, not_false_eq_true, bqX9_add_0, blX9_add_0, bqX9_add_5, blX9_add_5, bqX9_add_12, blX9_add_12, bqX9_add_70, blX9_add_70, e1]
        have hc0 : c = 0 := by
          rcases Nat.eq_zero_or_pos c with q | q
          · exact q
          · exfalso
            rw [← p3] at hmax
            have : 1 * 65536 ^ 80 ≤ c * 65536 ^ 80 := Nat.mul_le_mul_right _ q
            omega
        rw [hc0, Nat.zero_mul, Nat.add_zero] at p3
        exact hb.vret ⟨rfl, rfl, H, rfl, p1, p3, p4⟩ (by decide) (by decide)
  refine hb.run (aCuts [5] J) 60 0 _ _ _ _ _ _ (aCuts_ok _) ?_
  simp only [↓wpi_isub, ↓wpi_lsub, ↓wpi_ineg, ↓wpi_lneg, ↓wpi_irem, ↓wpi_lrem, ↓wpi_iinc, wp1, wp, wpl, wpi, lget, lput1, lput2, ltail, lkill, aV, aVl, aNth, aPut, aFz, aC0, aC2, aSw, aCat1, aCuts, aSet_eq, List.take, List.drop, List.reverse_cons, List.reverse_nil, List.nil_append, List.cons_append, List.length_cons, List.length_nil, Option.toList, true_and, and_true, Nat.reduceAdd, Nat.reduceEqDiff, Nat.reduceLT, Nat.reduceLeDiff, Nat.zero_add, Nat.add_zero, if_true, if_false, ite_true, ite_false, reduceIte, reduceCtorEq, true_or, or_true, not_true_eq_false, not_false_eq_true, false_and, and_false, true_implies, false_implies, not_false_eq_true, bqX9_add_0, blX9_add_0, bqX9_add_5, blX9_add_5, bqX9_add_12, blX9_add_12, bqX9_add_70, blX9_add_70, aArgs, List.replicate]
  have h0 := loop 81 0 0 g none (by omega) (by omega) (by omega) hg (fun _ _ _ => rfl) (by simp [mV]) (fun _ _ => rfl)
  rw [aSet_id hA] at h0
  exact h0
theorem mless_step {V W U c a b q r P : Nat} (hd : r + b + c = a + 65536 * q) (h : V + U = W + c * P) : V + r * P + (U + b * P) = W + a * P + q * (P * 65536) := by
  have e9 : (r + b + c) * P = (a + 65536 * q) * P := by rw [hd]
  grind
set_option maxHeartbeats 4000000 in
theorem ct_X9_less (hx : x < 11) (hy : y < 11) (hxy : x ≠ y) (hO : O m = some (10, v0 :: v1 :: v2 :: v3 :: v4 :: v5 :: v6 :: v7 :: .ref na :: vs)) (hA : A na = some (0, 880, .inl (nF g))) (hg : ∀ k, k < 80 → rg g x k < 65536) (hg2 : ∀ k, k < 80 → rg g y k < 65536) (hle : mV (rg g y) 80 ≤ mV (rg g x) 80) : aMet l G base tA yX9_less cX9_less 6 none rmZ [.ref m, .int (nI x), .int (nI y)] O A (fun r O' A' => r = none ∧ O' = O ∧ ∃ H, A' = aSet A na (0, 880, .inl (nF H)) ∧ rgS g H x (mV (rg g x) 80 - mV (rg g y) 80)) := by
  refine aMet_of (ini := false) (B := aLook bkX9_less) (by decide) (fun h => by first | rfl | cases h) (Nat.le_of_ble_eq_true rfl) boX9_less ?_
  intro E J hb
  have loop : ∀ (n i c : Nat) (H : Nat → Nat) (x5 : Option Value), 80 - i < n → i ≤ 80 → c < 2 → (∀ k, k < 80 → rg H x k < 65536) → (∀ k, i ≤ k → k < 80 → rg H x k = rg g x k) → mV (rg H x) i + mV (rg g y) i = mV (rg g x) i + c * 65536 ^ i → (∀ j, j < 80 * x ∨ 80 * x + 80 ≤ j → H j = g j) → J 5 [some (.ref m), some (.int (nI x)), some (.int (nI y)), some (.int (nI c)), some (.int (nI i)), x5] [] O (aSet A na (0, 880, .inl (nF H))) 0 0 := by
    intro n
    induction n with
    | zero => intro i c H x5 hn; omega
    | succ n ih =>
      intro i c H x5 hn hi hc p1 p2 p3 p4
      refine hb.run (aCuts [5] J) 60 5 _ _ _ _ _ _ (aCuts_ok _) ?_
      by_cases hlt : i < 80
      · have e1 : (nI 80 ≤ nI i) = False := by rw [nI_leP (by decide) (by omega)]; simp; omega
        have e2 : vp_in (nI (80 * x + i)) 880 := vp_in_nI (by omega) (by decide)
        have e5 : vp_in (nI (80 * y + i)) 880 := vp_in_nI (by omega) (by decide)
        have hgi := hg i hlt
        have hgi2 := hg2 i hlt
        have e3 : H (80 * x + i) = rg g x i := p2 i (Nat.le_refl i) hlt
        have e4 : H (80 * y + i) = rg g y i := p4 _ (by omega)
        obtain ⟨z, hz⟩ : ∃ z : Int, z = (rg g x i : Int) - rg g y i - c := ⟨_, rfl⟩
        have e6 : iSub (iSub (nI (rg g x i)) (nI (rg g y i))) (nI c) = iZ z := by
          rw [iZ_n (rg g x i), iZ_n (rg g y i), iZ_n c, iSub_Z, iSub_Z, hz]
        have go : ∀ q : Nat, q < 2 → ((z % 65536).toNat : Int) = z + 65536 * q → J 5 [some (.ref m), some (.int (nI x)), some (.int (nI y)), some (.int (nI q)), some (.int (nI (i + 1))), some (.int (iZ z))] [] O (aSet A na (0, 880, .inl (nF (uN9 H (80 * x + i) (z % 65536).toNat)))) 0 0 := by
          intro q hq hqz
          refine ih (i + 1) _ _ _ (by omega) (by omega) hq (fun k hk => ?_) (fun k k1 k2 => ?_) ?_ (fun j hj => ?_)
          · rw [rg_up]
            by_cases e : k = i
            · rw [e, uN9_eq]; omega
            · rw [uN9_ne e]; exact p1 k hk
          · rw [rg_up, uN9_ne (by omega)]; exact p2 k (by omega) k2
          · rw [mV_s, rg_up, mV_up, uN9_eq, mV_s, mV_s, Nat.pow_succ]
            exact mless_step (by omega) p3
          · rw [uN9_ne (by omega)]; exact p4 j hj
        by_cases hz0 : 0 ≤ z
        · have e7 : (0 ≤ iZ z) = True := by rw [iZ_ge0 (by omega) (by omega)]; simp [hz0]
          simp only [↓wpi_isub, ↓wpi_lsub, ↓wpi_ineg, ↓wpi_lneg, ↓wpi_irem, ↓wpi_lrem, ↓wpi_iinc, wp1, wp, wpl, wpi, lget, lput1, lput2, ltail, lkill, aV, aVl, aNth, aPut, aFz, aC0, aC2, aSw, aCat1, aCuts, aSet_eq, List.take, List.drop, List.reverse_cons, List.reverse_nil, List.nil_append, List.cons_append, List.length_cons, List.length_nil, Option.toList, true_and, and_true, Nat.reduceAdd, Nat.reduceEqDiff, Nat.reduceLT, Nat.reduceLeDiff, Nat.zero_add, Nat.add_zero, if_true, if_false, ite_true, ite_false, reduceIte, reduceCtorEq, true_or, or_true, not_true_eq_false, not_false_eq_true, false_and, and_false, true_implies, false_implies, not_false_eq_true, bqX9_less_0, blX9_less_0, bqX9_less_5, blX9_less_5, bqX9_less_12, blX9_less_12, bqX9_less_46, blX9_less_46, bqX9_less_50, blX9_less_50, bqX9_less_51, blX9_less_51, bqX9_less_75, blX9_less_75, e1, hO, pk_mul, nI_add, e2, e5, nI_clamp (show 80 * x + i < 2 ^ 31 by omega), nI_clamp (show 80 * y + i < 2 ^ 31 by omega), nF_at, e3, e4, e6, e7, iZ_m16, nF_upd, aSet_aSet, iInc_p]
          exact go 0 (by decide) (by omega)
        · have e7 : (0 ≤ iZ z) = False := by rw [iZ_ge0 (by omega) (by omega)]; simp; omega
          simp only [↓wpi_isub, ↓wpi_lsub, ↓wpi_ineg, ↓wpi_lneg, ↓wpi_irem, ↓wpi_lrem, ↓wpi_iinc, wp1, wp, wpl, wpi, lget, lput1, lput2, ltail, lkill, aV, aVl, aNth, aPut, aFz, aC0, aC2, aSw, aCat1, aCuts, aSet_eq, List.take, List.drop, List.reverse_cons, List.reverse_nil, List.nil_append, List.cons_append, List.length_cons, List.length_nil, Option.toList, true_and, and_true, Nat.reduceAdd, Nat.reduceEqDiff, Nat.reduceLT, Nat.reduceLeDiff, Nat.zero_add, Nat.add_zero, if_true, if_false, ite_true, ite_false, reduceIte, reduceCtorEq, true_or, or_true, not_true_eq_false, not_false_eq_true, false_and, and_false, true_implies, false_implies, not_false_eq_true, bqX9_less_0, blX9_less_0, bqX9_less_5, blX9_less_5, bqX9_less_12, blX9_less_12, bqX9_less_46, blX9_less_46, bqX9_less_50, blX9_less_50, bqX9_less_51, blX9_less_51, bqX9_less_75, blX9_less_75, e1, hO, pk_mul, nI_add, e2, e5, nI_clamp (show 80 * x + i < 2 ^ 31 by omega), nI_clamp (show 80 * y + i < 2 ^ 31 by omega), nF_at, e3, e4, e6, e7, iZ_m16, nF_upd, aSet_aSet, iInc_p]
          exact go 1 (by decide) (by omega)
      · have e1 : (nI 80 ≤ nI i) = True := by rw [nI_leP (by decide) (by omega)]; simp; omega
        obtain rfl : i = 80 := by omega
        simp only [↓wpi_isub, ↓wpi_lsub, ↓wpi_ineg, ↓wpi_lneg, ↓wpi_irem, ↓wpi_lrem, ↓wpi_iinc, wp1, wp, wpl, wpi, lget, lput1, lput2, ltail, lkill, aV, aVl, aNth, aPut, aFz, aC0, aC2, aSw, aCat1, aCuts, aSet_eq, List.take, List.drop, List.reverse_cons, List.reverse_nil, List.nil_append, List.cons_append, List.length_cons, List.length_nil, Option.toList, true_and, and_true, Nat.reduceAdd, Nat.reduceEqDiff, Nat.reduceLT, Nat.reduceLeDiff, Nat.zero_add, Nat.add_zero, if_true, if_false, ite_true, ite_false, reduceIte, reduceCtorEq, true_or, or_true, not_true_eq_false, not_false_eq_true, false_and, and_false, true_implies, false_implies, not_false_eq_true, bqX9_less_0, blX9_less_0, bqX9_less_5, blX9_less_5, bqX9_less_12, blX9_less_12, bqX9_less_46, blX9_less_46, bqX9_less_50, blX9_less_50, bqX9_less_51, blX9_less_51, bqX9_less_75, blX9_less_75, e1]
        have hH := mV_lt p1
        have hc0 : c = 0 := by
          rcases Nat.eq_zero_or_pos c with q | q
          · exact q
          · exfalso
            have : 1 * 65536 ^ 80 ≤ c * 65536 ^ 80 := Nat.mul_le_mul_right _ q
            omega
        rw [hc0, Nat.zero_mul, Nat.add_zero] at p3
        exact hb.vret ⟨rfl, rfl, H, rfl, p1, by omega, p4⟩ (by decide) (by decide)
  refine hb.run (aCuts [5] J) 60 0 _ _ _ _ _ _ (aCuts_ok _) ?_
  simp only [↓wpi_isub, ↓wpi_lsub, ↓wpi_ineg, ↓wpi_lneg, ↓wpi_irem, ↓wpi_lrem, ↓wpi_iinc, wp1, wp, wpl, wpi, lget, lput1, lput2, ltail, lkill, aV, aVl, aNth, aPut, aFz, aC0, aC2, aSw, aCat1, aCuts, aSet_eq, List.take, List.drop, List.reverse_cons, List.reverse_nil, List.nil_append, List.cons_append, List.length_cons, List.length_nil, Option.toList, true_and, and_true, Nat.reduceAdd, Nat.reduceEqDiff, Nat.reduceLT, Nat.reduceLeDiff, Nat.zero_add, Nat.add_zero, if_true, if_false, ite_true, ite_false, reduceIte, reduceCtorEq, true_or, or_true, not_true_eq_false, not_false_eq_true, false_and, and_false, true_implies, false_implies, not_false_eq_true, bqX9_less_0, blX9_less_0, bqX9_less_5, blX9_less_5, bqX9_less_12, blX9_less_12, bqX9_less_46, blX9_less_46, bqX9_less_50, blX9_less_50, bqX9_less_51, blX9_less_51, bqX9_less_75, blX9_less_75, aArgs, List.replicate]
  have h0 := loop 81 0 0 g none (by omega) (by omega) (by omega) hg (fun _ _ _ => rfl) (by simp [mV]) (fun _ _ => rfl)
  rw [aSet_id hA] at h0
  exact h0
set_option maxHeartbeats 4000000 in
theorem ct_X9_isZero (hx : x < 11) (hO : O m = some (10, v0 :: v1 :: v2 :: v3 :: v4 :: v5 :: v6 :: v7 :: .ref na :: vs)) (hA : A na = some (0, 880, .inl (nF g))) (hg : ∀ k, k < 80 → rg g x k < 65536) : aMet l G base tA yX9_isZero cX9_isZero 4 (some .boolean) rmZ [.ref m, .int (nI x)] O A (fun r O' A' => r = some (.int (bI (decide (mV (rg g x) 80 = 0)))) ∧ O' = O ∧ A' = A) := by
  refine aMet_of (ini := false) (B := aLook bkX9_isZero) (by decide) (fun h => by first | rfl | cases h) (Nat.le_of_ble_eq_true rfl) boX9_isZero ?_
  intro E J hb
  have loop : ∀ (n i : Nat) (b : Bool), 80 - i < n → i ≤ 80 → (b = true ↔ ∀ k, k < i → rg g x k = 0) → J 4 [some (.ref m), some (.int (nI x)), some (.int (bI b)), some (.int (nI i))] [] O A 0 0 := by
    intro n
    induction n with
    | zero => intro i b hn; omega
    | succ n ih =>
      intro i b hn hi hb2
      refine hb.run (aCuts [4] J) 60 4 _ _ _ _ _ _ (aCuts_ok _) ?_
      by_cases hlt : i < 80
      · have e1 : (nI 80 ≤ nI i) = False := by rw [nI_leP (by decide) (by omega)]; simp; omega
        have e2 : vp_in (nI (80 * x + i)) 880 := vp_in_nI (by omega) (by decide)
        have hgi := hg i hlt
        cases b with
        | false =>
          simp only [↓wpi_isub, ↓wpi_lsub, ↓wpi_ineg, ↓wpi_lneg, ↓wpi_irem, ↓wpi_lrem, ↓wpi_iinc, wp1, wp, wpl, wpi, lget, lput1, lput2, ltail, lkill, aV, aVl, aNth, aPut, aFz, aC0, aC2, aSw, aCat1, aCuts, aSet_eq, List.take, List.drop, List.reverse_cons, List.reverse_nil, List.nil_append, List.cons_append, List.length_cons, List.length_nil, Option.toList, true_and, and_true, Nat.reduceAdd, Nat.reduceEqDiff, Nat.reduceLT, Nat.reduceLeDiff, Nat.zero_add, Nat.add_zero, if_true, if_false, ite_true, ite_false, reduceIte, reduceCtorEq, true_or, or_true, not_true_eq_false, not_false_eq_true, false_and, and_false, true_implies, false_implies, not_false_eq_true, bqX9_isZero_0, blX9_isZero_0, bqX9_isZero_4, blX9_isZero_4, bqX9_isZero_10, blX9_isZero_10, bqX9_isZero_14, blX9_isZero_14, bqX9_isZero_28, blX9_isZero_28, bqX9_isZero_32, blX9_isZero_32, bqX9_isZero_33, blX9_isZero_33, bqX9_isZero_40, blX9_isZero_40, e1, bI_f, n0_0, iInc_p]
          refine ih (i + 1) false (by omega) (by omega) ⟨fun q => (by cases q), fun q => ?_⟩
          exact absurd (hb2.mpr fun k hk => q k (by omega)) (by simp)
        | true =>
          have hall := hb2.mp rfl
          by_cases hz : rg g x i = 0
          · have e3 : (nI (g (80 * x + i)) = 0) = True := by rw [show g (80 * x + i) = rg g x i from rfl, hz, nI_0]; simp
            simp only [↓wpi_isub, ↓wpi_lsub, ↓wpi_ineg, ↓wpi_lneg, ↓wpi_irem, ↓wpi_lrem, ↓wpi_iinc, wp1, wp, wpl, wpi, lget, lput1, lput2, ltail, lkill, aV, aVl, aNth, aPut, aFz, aC0, aC2, aSw, aCat1, aCuts, aSet_eq, List.take, List.drop, List.reverse_cons, List.reverse_nil, List.nil_append, List.cons_append, List.length_cons, List.length_nil, Option.toList, true_and, and_true, Nat.reduceAdd, Nat.reduceEqDiff, Nat.reduceLT, Nat.reduceLeDiff, Nat.zero_add, Nat.add_zero, if_true, if_false, ite_true, ite_false, reduceIte, reduceCtorEq, true_or, or_true, not_true_eq_false, not_false_eq_true, false_and, and_false, true_implies, false_implies, not_false_eq_true, bqX9_isZero_0, blX9_isZero_0, bqX9_isZero_4, blX9_isZero_4, bqX9_isZero_10, blX9_isZero_10, bqX9_isZero_14, blX9_isZero_14, bqX9_isZero_28, blX9_isZero_28, bqX9_isZero_32, blX9_isZero_32, bqX9_isZero_33, blX9_isZero_33, bqX9_isZero_40, blX9_isZero_40, e1, bI_t, n1_0, hO, hA, pk_mul, nI_add, e2, nI_clamp (show 80 * x + i < 2 ^ 31 by omega), nF_at, e3, iInc_p]
            refine ih (i + 1) true (by omega) (by omega) ⟨fun _ k hk => ?_, fun _ => rfl⟩
            by_cases e : k = i
            · rw [e]; exact hz
            · exact hall k (by omega)
          · have e3 : (nI (g (80 * x + i)) = 0) = False := by rw [show g (80 * x + i) = rg g x i from rfl, nI_c0 (by omega)]; simp [hz]
            simp only [↓wpi_isub, ↓wpi_lsub, ↓wpi_ineg, ↓wpi_lneg, ↓wpi_irem, ↓wpi_lrem, ↓wpi_iinc, wp1, wp, wpl, wpi, lget, lput1, lput2, ltail, lkill, aV, aVl, aNth, aPut, aFz, aC0, aC2, aSw, aCat1, aCuts, aSet_eq, List.take, List.drop, List.reverse_cons, List.reverse_nil, List.nil_append, List.cons_append, List.length_cons, List.length_nil, Option.toList, true_and, and_true, Nat.reduceAdd, Nat.reduceEqDiff, Nat.reduceLT, Nat.reduceLeDiff, Nat.zero_add, Nat.add_zero, if_true, if_false, ite_true, ite_false, reduceIte, reduceCtorEq, true_or, or_true, not_true_eq_false, not_false_eq_true, false_and, and_false, true_implies, false_implies, not_false_eq_true, bqX9_isZero_0, blX9_isZero_0, bqX9_isZero_4, blX9_isZero_4, bqX9_isZero_10, blX9_isZero_10, bqX9_isZero_14, blX9_isZero_14, bqX9_isZero_28, blX9_isZero_28, bqX9_isZero_32, blX9_isZero_32, bqX9_isZero_33, blX9_isZero_33, bqX9_isZero_40, blX9_isZero_40, e1, bI_t, n1_0, hO, hA, pk_mul, nI_add, e2, nI_clamp (show 80 * x + i < 2 ^ 31 by omega), nF_at, e3, iInc_p]
            exact ih (i + 1) false (by omega) (by omega) ⟨fun q => (by cases q), fun q => absurd (q i (by omega)) hz⟩
      · have e1 : (nI 80 ≤ nI i) = True := by rw [nI_leP (by decide) (by omega)]; simp; omega
        obtain rfl : i = 80 := by omega
        simp only [↓wpi_isub, ↓wpi_lsub, ↓wpi_ineg, ↓wpi_lneg, ↓wpi_irem, ↓wpi_lrem, ↓wpi_iinc, wp1, wp, wpl, wpi, lget, lput1, lput2, ltail, lkill, aV, aVl, aNth, aPut, aFz, aC0, aC2, aSw, aCat1, aCuts, aSet_eq, List.take, List.drop, List.reverse_cons, List.reverse_nil, List.nil_append, List.cons_append, List.length_cons, List.length_nil, Option.toList, true_and, and_true, Nat.reduceAdd, Nat.reduceEqDiff, Nat.reduceLT, Nat.reduceLeDiff, Nat.zero_add, Nat.add_zero, if_true, if_false, ite_true, ite_false, reduceIte, reduceCtorEq, true_or, or_true, not_true_eq_false, not_false_eq_true, false_and, and_false, true_implies, false_implies, not_false_eq_true, bqX9_isZero_0, blX9_isZero_0, bqX9_isZero_4, blX9_isZero_4, bqX9_isZero_10, blX9_isZero_10, bqX9_isZero_14, blX9_isZero_14, bqX9_isZero_28, blX9_isZero_28, bqX9_isZero_32, blX9_isZero_32, bqX9_isZero_33, blX9_isZero_33, bqX9_isZero_40, blX9_isZero_40, e1]
        refine hb.iret (nar_b _) ⟨?_, rfl, rfl⟩ (by decide) (by decide)
        have : b = decide (mV (rg g x) 80 = 0) := by
          cases b with
          | false => rw [decide_eq_false (fun q => by have := hb2.mpr (mV_zero.mp q); cases this)]
          | true => rw [decide_eq_true (mV_zero.mpr (hb2.mp rfl))]
        rw [this]
  refine hb.run (aCuts [4] J) 60 0 _ _ _ _ _ _ (aCuts_ok _) ?_
  simp only [↓wpi_isub, ↓wpi_lsub, ↓wpi_ineg, ↓wpi_lneg, ↓wpi_irem, ↓wpi_lrem, ↓wpi_iinc, wp1, wp, wpl, wpi, lget, lput1, lput2, ltail, lkill, aV, aVl, aNth, aPut, aFz, aC0, aC2, aSw, aCat1, aCuts, aSet_eq, List.take, List.drop, List.reverse_cons, List.reverse_nil, List.nil_append, List.cons_append, List.length_cons, List.length_nil, Option.toList, true_and, and_true, Nat.reduceAdd, Nat.reduceEqDiff, Nat.reduceLT, Nat.reduceLeDiff, Nat.zero_add, Nat.add_zero, if_true, if_false, ite_true, ite_false, reduceIte, reduceCtorEq, true_or, or_true, not_true_eq_false, not_false_eq_true, false_and, and_false, true_implies, false_implies, not_false_eq_true, bqX9_isZero_0, blX9_isZero_0, bqX9_isZero_4, blX9_isZero_4, bqX9_isZero_10, blX9_isZero_10, bqX9_isZero_14, blX9_isZero_14, bqX9_isZero_28, blX9_isZero_28, bqX9_isZero_32, blX9_isZero_32, bqX9_isZero_33, blX9_isZero_33, bqX9_isZero_40, blX9_isZero_40, aArgs, List.replicate]
  exact loop 81 0 true (by omega) (by omega) ⟨fun _ k hk => by omega, fun _ => rfl⟩
set_option maxHeartbeats 4000000 in
theorem ct_X9_order (hx : x < 11) (hy : y < 11) (hO : O m = some (10, v0 :: v1 :: v2 :: v3 :: v4 :: v5 :: v6 :: v7 :: .ref na :: vs)) (hA : A na = some (0, 880, .inl (nF g))) (hg : ∀ k, k < 80 → rg g x k < 65536) (hg2 : ∀ k, k < 80 → rg g y k < 65536) : aMet l G base tA yX9_order cX9_order 6 (some .int) rmZ [.ref m, .int (nI x), .int (nI y)] O A (fun r O' A' => r = some (.int (cmpI (mV (rg g x) 80) (mV (rg g y) 80))) ∧ O' = O ∧ A' = A) := by
  refine aMet_of (ini := false) (B := aLook bkX9_order) (by decide) (fun h => by first | rfl | cases h) (Nat.le_of_ble_eq_true rfl) boX9_order ?_
  intro E J hb
  obtain ⟨V, hV⟩ : ∃ V, V = mV (rg g x) 80 := ⟨_, rfl⟩
  obtain ⟨W, hW⟩ : ∃ W, W = mV (rg g y) 80 := ⟨_, rfl⟩
  rw [← hV, ← hW] at hb
  have loop : ∀ (j : Nat) (x4 x5 : Option Value), j ≤ 80 → (∀ k, j ≤ k → k < 80 → rg g x k = rg g y k) → J 3 [some (.ref m), some (.int (nI x)), some (.int (nI y)), some (.int (iSub (nI j) (nI 1))), x4, x5] [] O (aSet A na (0, 880, .inl (nF g))) 0 0 := by
    intro j
    induction j with
    | zero =>
      intro x4 x5 hj he
      refine hb.run (aCuts [7] J) 60 3 _ _ _ _ _ _ (aCuts_ok _) ?_
      simp only [↓wpi_isub, ↓wpi_lsub, ↓wpi_ineg, ↓wpi_lneg, ↓wpi_irem, ↓wpi_lrem, ↓wpi_iinc, wp1, wp, wpl, wpi, lget, lput1, lput2, ltail, lkill, aV, aVl, aNth, aPut, aFz, aC0, aC2, aSw, aCat1, aCuts, aSet_eq, List.take, List.drop, List.reverse_cons, List.reverse_nil, List.nil_append, List.cons_append, List.length_cons, List.length_nil, Option.toList, true_and, and_true, Nat.reduceAdd, Nat.reduceEqDiff, Nat.reduceLT, Nat.reduceLeDiff, Nat.zero_add, Nat.add_zero, if_true, if_false, ite_true, ite_false, reduceIte, reduceCtorEq, true_or, or_true, not_true_eq_false, not_false_eq_true, false_and, and_false, true_implies, false_implies, not_false_eq_true, bqX9_order_0, blX9_order_0, bqX9_order_3, blX9_order_3, bqX9_order_7, blX9_order_7, bqX9_order_40, blX9_order_40, bqX9_order_47, blX9_order_47, bqX9_order_51, blX9_order_51, bqX9_order_52, blX9_order_52, bqX9_order_53, blX9_order_53, bqX9_order_59, blX9_order_59, iSub_n1]
      refine hb.iret (nar_i _) ⟨?_, rfl, aSet_id hA⟩ (by decide) (by decide)
      have : V = W := by rw [hV, hW]; exact mV_congr (fun k hk => he k (Nat.zero_le k) hk)
      rw [this, cmpI_eq]
    | succ i ih =>
      intro x4 x5 hj he
      rw [iSub_nn (show 1 ≤ i + 1 by omega), Nat.add_sub_cancel]
      have e2 : vp_in (nI (80 * x + i)) 880 := vp_in_nI (by omega) (by decide)
      have e5 : vp_in (nI (80 * y + i)) 880 := vp_in_nI (by omega) (by decide)
      have hgi := hg i (by omega)
      have hgi2 := hg2 i (by omega)
      have hq1 : g (80 * x + i) = rg g x i := rfl
      have hq2 : g (80 * y + i) = rg g y i := rfl
      refine hb.run (aCuts [7] J) 60 3 _ _ _ _ _ _ (aCuts_ok _) ?_
      simp only [↓wpi_isub, ↓wpi_lsub, ↓wpi_ineg, ↓wpi_lneg, ↓wpi_irem, ↓wpi_lrem, ↓wpi_iinc, wp1, wp, wpl, wpi, lget, lput1, lput2, ltail, lkill, aV, aVl, aNth, aPut, aFz, aC0, aC2, aSw, aCat1, aCuts, aSet_eq, List.take, List.drop, List.reverse_cons, List.reverse_nil, List.nil_append, List.cons_append, List.length_cons, List.length_nil, Option.toList, true_and, and_true, Nat.reduceAdd, Nat.reduceEqDiff, Nat.reduceLT, Nat.reduceLeDiff, Nat.zero_add, Nat.add_zero, if_true, if_false, ite_true, ite_false, reduceIte, reduceCtorEq, true_or, or_true, not_true_eq_false, not_false_eq_true, false_and, and_false, true_implies, false_implies, not_false_eq_true, bqX9_order_0, blX9_order_0, bqX9_order_3, blX9_order_3, bqX9_order_7, blX9_order_7, bqX9_order_40, blX9_order_40, bqX9_order_47, blX9_order_47, bqX9_order_51, blX9_order_51, bqX9_order_52, blX9_order_52, bqX9_order_53, blX9_order_53, bqX9_order_59, blX9_order_59, nI_lt0 (show i < 2 ^ 31 by omega)]
      refine hb.run (aCuts [40, 53] J) 60 7 _ _ _ _ _ _ (aCuts_ok _) ?_
      simp only [wp1, bqX9_order_7, blX9_order_7]
      simp only [wpl, wpi, lget, hO, aNth, aSet_eq, aV, pk_mul, nI_add, e2, e5, nI_clamp (show 80 * x + i < 2 ^ 31 by omega), nI_clamp (show 80 * y + i < 2 ^ 31 by omega), nF_at, hq1, hq2]
      by_cases hq : rg g x i = rg g y i
      · have e6 : (nI (rg g x i) = nI (rg g y i)) = True := by rw [hq]; simp
        simp only [↓wpi_isub, ↓wpi_lsub, ↓wpi_ineg, ↓wpi_lneg, ↓wpi_irem, ↓wpi_lrem, ↓wpi_iinc, wp1, wp, wpl, wpi, lget, lput1, lput2, ltail, lkill, aV, aVl, aNth, aPut, aFz, aC0, aC2, aSw, aCat1, aCuts, aSet_eq, List.take, List.drop, List.reverse_cons, List.reverse_nil, List.nil_append, List.cons_append, List.length_cons, List.length_nil, Option.toList, true_and, and_true, Nat.reduceAdd, Nat.reduceEqDiff, Nat.reduceLT, Nat.reduceLeDiff, Nat.zero_add, Nat.add_zero, if_true, if_false, ite_true, ite_false, reduceIte, reduceCtorEq, true_or, or_true, not_true_eq_false, not_false_eq_true, false_and, and_false, true_implies, false_implies, not_false_eq_true, bqX9_order_0, blX9_order_0, bqX9_order_3, blX9_order_3, bqX9_order_7, blX9_order_7, bqX9_order_40, blX9_order_40, bqX9_order_47, blX9_order_47, bqX9_order_51, blX9_order_51, bqX9_order_52, blX9_order_52, bqX9_order_53, blX9_order_53, bqX9_order_59, blX9_order_59, hO, pk_mul, nI_add, e2, e5, nI_clamp (show 80 * x + i < 2 ^ 31 by omega), nI_clamp (show 80 * y + i < 2 ^ 31 by omega), nF_at, hq1, hq2, e6]
        refine hb.run (aCuts [3] J) 60 53 _ _ _ _ _ _ (aCuts_ok _) ?_
        simp only [↓wpi_isub, ↓wpi_lsub, ↓wpi_ineg, ↓wpi_lneg, ↓wpi_irem, ↓wpi_lrem, ↓wpi_iinc, wp1, wp, wpl, wpi, lget, lput1, lput2, ltail, lkill, aV, aVl, aNth, aPut, aFz, aC0, aC2, aSw, aCat1, aCuts, aSet_eq, List.take, List.drop, List.reverse_cons, List.reverse_nil, List.nil_append, List.cons_append, List.length_cons, List.length_nil, Option.toList, true_and, and_true, Nat.reduceAdd, Nat.reduceEqDiff, Nat.reduceLT, Nat.reduceLeDiff, Nat.zero_add, Nat.add_zero, if_true, if_false, ite_true, ite_false, reduceIte, reduceCtorEq, true_or, or_true, not_true_eq_false, not_false_eq_true, false_and, and_false, true_implies, false_implies, not_false_eq_true, bqX9_order_0, blX9_order_0, bqX9_order_3, blX9_order_3, bqX9_order_7, blX9_order_7, bqX9_order_40, blX9_order_40, bqX9_order_47, blX9_order_47, bqX9_order_51, blX9_order_51, bqX9_order_52, blX9_order_52, bqX9_order_53, blX9_order_53, bqX9_order_59, blX9_order_59, iInc_m1]
        refine ih _ _ (by omega) (fun k k1 k2 => ?_)
        by_cases e : k = i
        · rw [e]; exact hq
        · exact he k (by omega) k2
      · have e6 : (nI (rg g x i) = nI (rg g y i)) = False := by rw [nI_c (by omega) (by omega)]; simp [hq]
        simp only [↓wpi_isub, ↓wpi_lsub, ↓wpi_ineg, ↓wpi_lneg, ↓wpi_irem, ↓wpi_lrem, ↓wpi_iinc, wp1, wp, wpl, wpi, lget, lput1, lput2, ltail, lkill, aV, aVl, aNth, aPut, aFz, aC0, aC2, aSw, aCat1, aCuts, aSet_eq, List.take, List.drop, List.reverse_cons, List.reverse_nil, List.nil_append, List.cons_append, List.length_cons, List.length_nil, Option.toList, true_and, and_true, Nat.reduceAdd, Nat.reduceEqDiff, Nat.reduceLT, Nat.reduceLeDiff, Nat.zero_add, Nat.add_zero, if_true, if_false, ite_true, ite_false, reduceIte, reduceCtorEq, true_or, or_true, not_true_eq_false, not_false_eq_true, false_and, and_false, true_implies, false_implies, not_false_eq_true, bqX9_order_0, blX9_order_0, bqX9_order_3, blX9_order_3, bqX9_order_7, blX9_order_7, bqX9_order_40, blX9_order_40, bqX9_order_47, blX9_order_47, bqX9_order_51, blX9_order_51, bqX9_order_52, blX9_order_52, bqX9_order_53, blX9_order_53, bqX9_order_59, blX9_order_59, hO, pk_mul, nI_add, e2, e5, nI_clamp (show 80 * x + i < 2 ^ 31 by omega), nI_clamp (show 80 * y + i < 2 ^ 31 by omega), nF_at, hq1, hq2, e6]
        refine hb.run (aCuts [3] J) 60 40 _ _ _ _ _ _ (aCuts_ok _) ?_
        simp only [↓wpi_isub, ↓wpi_lsub, ↓wpi_ineg, ↓wpi_lneg, ↓wpi_irem, ↓wpi_lrem, ↓wpi_iinc, wp1, wp, wpl, wpi, lget, lput1, lput2, ltail, lkill, aV, aVl, aNth, aPut, aFz, aC0, aC2, aSw, aCat1, aCuts, aSet_eq, List.take, List.drop, List.reverse_cons, List.reverse_nil, List.nil_append, List.cons_append, List.length_cons, List.length_nil, Option.toList, true_and, and_true, Nat.reduceAdd, Nat.reduceEqDiff, Nat.reduceLT, Nat.reduceLeDiff, Nat.zero_add, Nat.add_zero, if_true, if_false, ite_true, ite_false, reduceIte, reduceCtorEq, true_or, or_true, not_true_eq_false, not_false_eq_true, false_and, and_false, true_implies, false_implies, not_false_eq_true, bqX9_order_0, blX9_order_0, bqX9_order_3, blX9_order_3, bqX9_order_7, blX9_order_7, bqX9_order_40, blX9_order_40, bqX9_order_47, blX9_order_47, bqX9_order_51, blX9_order_51, bqX9_order_52, blX9_order_52, bqX9_order_53, blX9_order_53, bqX9_order_59, blX9_order_59, nI_leP (show rg g y i < 2 ^ 31 by omega) (show rg g x i < 2 ^ 31 by omega)]
        refine ⟨fun q => ?_, fun q => ?_⟩
        · refine hb.iret (nar_i _) ⟨?_, rfl, aSet_id hA⟩ (by decide) (by decide)
          have : W < V := by rw [hV, hW]; exact mV_cmp (i := i) (by omega) (fun k k1 k2 => (he k (by omega) k2).symm) (by omega) hg2
          rw [cmpI_gt this]
        · refine hb.iret (nar_i _) ⟨?_, rfl, aSet_id hA⟩ (by decide) (by decide)
          have : V < W := by rw [hV, hW]; exact mV_cmp (i := i) (by omega) (fun k k1 k2 => he k (by omega) k2) (by omega) hg
          rw [cmpI_lt this]
  refine hb.run (aCuts [3] J) 60 0 _ _ _ _ _ _ (aCuts_ok _) ?_
  simp only [↓wpi_isub, ↓wpi_lsub, ↓wpi_ineg, ↓wpi_lneg, ↓wpi_irem, ↓wpi_lrem, ↓wpi_iinc, wp1, wp, wpl, wpi, lget, lput1, lput2, ltail, lkill, aV, aVl, aNth, aPut, aFz, aC0, aC2, aSw, aCat1, aCuts, aSet_eq, List.take, List.drop, List.reverse_cons, List.reverse_nil, List.nil_append, List.cons_append, List.length_cons, List.length_nil, Option.toList, true_and, and_true, Nat.reduceAdd, Nat.reduceEqDiff, Nat.reduceLT, Nat.reduceLeDiff, Nat.zero_add, Nat.add_zero, if_true, if_false, ite_true, ite_false, reduceIte, reduceCtorEq, true_or, or_true, not_true_eq_false, not_false_eq_true, false_and, and_false, true_implies, false_implies, not_false_eq_true, bqX9_order_0, blX9_order_0, bqX9_order_3, blX9_order_3, bqX9_order_7, blX9_order_7, bqX9_order_40, blX9_order_40, bqX9_order_47, blX9_order_47, bqX9_order_51, blX9_order_51, bqX9_order_52, blX9_order_52, bqX9_order_53, blX9_order_53, bqX9_order_59, blX9_order_59, aArgs, List.replicate]
  have h0 := loop 80 none none (by omega) (fun k k1 k2 => by omega)
  rw [iSub_nn (show 1 ≤ 80 by decide), show 80 - 1 = 79 from rfl, aSet_id hA] at h0
  exact h0
set_option maxHeartbeats 4000000 in
theorem ct_X9_bit (hx : x < 11) {k : Nat} (hk : k < 1280) (hO : O m = some (10, v0 :: v1 :: v2 :: v3 :: v4 :: v5 :: v6 :: v7 :: .ref na :: vs)) (hA : A na = some (0, 880, .inl (nF g))) (hg : ∀ k, k < 80 → rg g x k < 65536) : aMet l G base tA yX9_bit cX9_bit 3 (some .int) rmZ [.ref m, .int (nI x), .int (nI k)] O A (fun r O' A' => r = some (.int (nI (mV (rg g x) 80 / 2 ^ k % 2))) ∧ O' = O ∧ A' = A) := by
  refine aMet_of (ini := false) (B := aLook bkX9_bit) (by decide) (fun h => by first | rfl | cases h) (Nat.le_of_ble_eq_true rfl) boX9_bit ?_
  intro E J hb
  have e1 : nI k / nI 16 = nI (k / 16) := pk_div (by omega) (by decide) (by decide)
  have e2 : vp_in (nI (80 * x + k / 16)) 880 := vp_in_nI (by omega) (by decide)
  have hgi := hg (k / 16) (by omega)
  have e3 : g (80 * x + k / 16) = rg g x (k / 16) := rfl
  have e4 : (nI 16 = 0) = False := by simp only [eq_iff_iff, iff_false]; decide +kernel
  refine hb.run (aCuts [] J) 60 0 _ _ _ _ _ _ (aCuts_ok _) ?_
  simp only [↓wpi_isub, ↓wpi_lsub, ↓wpi_ineg, ↓wpi_lneg, ↓wpi_irem, ↓wpi_lrem, ↓wpi_iinc, wp1, wp, wpl, wpi, lget, lput1, lput2, ltail, lkill, aV, aVl, aNth, aPut, aFz, aC0, aC2, aSw, aCat1, aCuts, aSet_eq, List.take, List.drop, List.reverse_cons, List.reverse_nil, List.nil_append, List.cons_append, List.length_cons, List.length_nil, Option.toList, true_and, and_true, Nat.reduceAdd, Nat.reduceEqDiff, Nat.reduceLT, Nat.reduceLeDiff, Nat.zero_add, Nat.add_zero, if_true, if_false, ite_true, ite_false, reduceIte, reduceCtorEq, true_or, or_true, not_true_eq_false, not_false_eq_true, false_and, and_false, true_implies, false_implies, not_false_eq_true, bqX9_bit_0, blX9_bit_0, aArgs, List.replicate, hO, hA, pk_mul, e4, e1, nI_add, e2, nI_clamp (show 80 * x + k / 16 < 2 ^ 31 by omega), nF_at, e3, iRem_n (show k < 2 ^ 31 by omega) (show 0 < 16 by decide) (show 16 < 2 ^ 31 by decide), shrV (show rg g x (k / 16) < 2 ^ 31 by omega) (show k % 16 < 32 by omega), nI_and1]
  refine hb.iret (nar_i _) ⟨?_, rfl, rfl⟩ (by decide) (by decide)
  rw [← mV_limb (n := 80) (by omega) hg, ← div_bit (by omega), show 16 * (k / 16) + k % 16 = k by omega]
end MN2
