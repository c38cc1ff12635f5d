section NAT10
variable {l : Launch} {G : aG} {base tA : Nat} {O : aO} {A : aA} {a la : Nat} {g : Nat → Nat} {u v : Nat}
/-- a limb of the number shifted left by less than a limb -/
def shlT (g : Nat → Nat) (s : Nat) : Nat → Nat
  | 0 => g 0 * 2 ^ s % 2147483648
  | k + 1 => g (k + 1) * 2 ^ s % 2147483648 + g k / 2 ^ (31 - s)
theorem shl_or {x y s : Nat} (hs : s < 31) (hx : x < 2147483648) (hy : y < 2147483648) : (lN (x * 2 ^ s) ||| lN (y / 2 ^ (31 - s))) = lN (x * 2 ^ s + y / 2 ^ (31 - s)) ∧ (x * 2 ^ s + y / 2 ^ (31 - s)) % 2147483648 = x * 2 ^ s % 2147483648 + y / 2 ^ (31 - s) ∧ x * 2 ^ s % 2147483648 + y / 2 ^ (31 - s) < 2147483648 := by
  have e : (2147483648 : Nat) = 2 ^ (31 - s) * 2 ^ s := by rw [← Nat.pow_add, show 31 - s + s = 31 by omega]
  have h1 : y / 2 ^ (31 - s) < 2 ^ s := by
    rw [Nat.div_lt_iff_lt_mul (Nat.two_pow_pos _), Nat.mul_comm, ← e]; exact hy
  have h2 : x * 2 ^ s < 2 ^ 62 := by
    have : (2 : Nat) ^ s ≤ 2 ^ 30 := Nat.pow_le_pow_right (by decide) (by omega)
    have := Nat.mul_le_mul (show x ≤ 2147483647 by omega) this
    omega
  have h3 : (2 : Nat) ^ s ≤ 2 ^ 30 := Nat.pow_le_pow_right (by decide) (by omega)
  have h4 : x * 2 ^ s % 2147483648 = x % 2 ^ (31 - s) * 2 ^ s := by rw [e, Nat.mul_mod_mul_right]
  have h5 : x * 2 ^ s % 2147483648 + 2 ^ s ≤ 2147483648 := by
    rw [h4]
    have : x % 2 ^ (31 - s) + 1 ≤ 2 ^ (31 - s) := Nat.mod_lt _ (Nat.two_pow_pos _)
    have := Nat.mul_le_mul_right (2 ^ s) this
    rw [Nat.add_mul, ← e] at this
    omega
  refine ⟨g_or rfl h1 (by omega), ?_, by omega⟩
  rw [Nat.add_mod, Nat.mod_eq_of_lt (show y / 2 ^ (31 - s) < 2147483648 by omega)]
  exact Nat.mod_eq_of_lt (by omega)
theorem shlT_val (g : Nat → Nat) {s : Nat} (hs : s < 31) : ∀ n, nVal (shlT g s) (n + 1) + g n / 2 ^ (31 - s) * 2147483648 ^ (n + 1) = 2 ^ s * nVal g (n + 1)
  | 0 => by
    have hd : g 0 * 2 ^ s = g 0 / 2 ^ (31 - s) * 2147483648 + g 0 * 2 ^ s % 2147483648 := by
      have e : (2147483648 : Nat) = 2 ^ (31 - s) * 2 ^ s := by rw [← Nat.pow_add, show 31 - s + s = 31 by omega]
      have := Nat.div_add_mod (g 0 * 2 ^ s) 2147483648
      have h2 : g 0 * 2 ^ s / 2147483648 = g 0 / 2 ^ (31 - s) := by
        conv => lhs; rw [e]
        rw [Nat.mul_div_mul_right _ _ (Nat.two_pow_pos s)]
      rw [h2] at this
      omega
    rw [nVal_succ, nVal_succ, show nVal (shlT g s) 0 = 0 from rfl, show nVal g 0 = 0 from rfl]
    simp only [shlT, Nat.pow_zero, Nat.mul_one, Nat.zero_add, Nat.pow_one]
    rw [Nat.mul_comm (2 ^ s), hd]
    omega
  | n + 1 => by
    have ih := shlT_val g hs n
    have hd : g (n + 1) * 2 ^ s = g (n + 1) / 2 ^ (31 - s) * 2147483648 + g (n + 1) * 2 ^ s % 2147483648 := by
      have e : (2147483648 : Nat) = 2 ^ (31 - s) * 2 ^ s := by rw [← Nat.pow_add, show 31 - s + s = 31 by omega]
      have := Nat.div_add_mod (g (n + 1) * 2 ^ s) 2147483648
      have h2 : g (n + 1) * 2 ^ s / 2147483648 = g (n + 1) / 2 ^ (31 - s) := by
        conv => lhs; rw [e]
        rw [Nat.mul_div_mul_right _ _ (Nat.two_pow_pos s)]
      rw [h2] at this
      omega
    rw [nVal_succ (shlT g s) (n + 1), nVal_succ g (n + 1), Nat.mul_add, ← ih, Nat.pow_succ 2147483648 (n + 1)]
    simp only [shlT]
    generalize g (n + 1) * 2 ^ s % 2147483648 = r at *
    generalize g (n + 1) / 2 ^ (31 - s) = q at *
    generalize g n / 2 ^ (31 - s) = c at *
    generalize 2147483648 ^ (n + 1) = P at *
    generalize nVal (shlT g s) (n + 1) = V at *
    have : g (n + 1) * 2 ^ s * P = (q * 2147483648 + r) * P := by rw [hd]
    grind
theorem shlT_lt {s : Nat} (hs : s < 31) (hg : ∀ k, k < 20 → g k < 2147483648) {k : Nat} (hk : k < 20) : shlT g s k < 2147483648 := by
  cases k with
  | zero => exact Nat.mod_lt _ (by decide)
  | succ k => exact (shl_or hs (hg (k + 1) hk) (hg k (by omega))).2.2
set_option maxHeartbeats 8000000 in
theorem ct_X3_shiftLeft (hv : nRep g u v) (hO : O a = some (4, [.ref la, .int (nI u)])) (hA : A la = some (0, 20, .inl (nF g))) {n : Nat} (hn : n < 10000) (hmax : v * 2 ^ n < 2147483648 ^ 19) : aMet l G base tA yX3_shiftLeft cX3_shiftLeft 7 none rmA [.ref a, .int (nI n)] O A (fun r O' A' => r = none ∧ ∃ g' u', nRep g' u' (v * 2 ^ n) ∧ O' = aSet O a (4, [.ref la, .int (nI u')]) ∧ A' = aSet A la (0, 20, .inl (nF g'))) := by
  refine aMet_of (ini := false) (B := aLook bkX3_shiftLeft) (by decide) (fun h => by first | rfl | cases h) (Nat.le_of_ble_eq_true rfl) boX3_shiftLeft ?_
  intro E J hb
  obtain ⟨jp, hjp⟩ : ∃ jp, jp = n / 31 := ⟨_, rfl⟩
  obtain ⟨s, hs⟩ : ∃ s, s = n % 31 := ⟨_, rfl⟩
  have hns : n = jp * 31 + s := by omega
  have hs31 : s < 31 := by omega
  have d31 : nI n / nI 31 = nI jp := by rw [hjp]; exact pk_div (by omega) (by decide) (by decide)
  have m31 : nI n - nI jp * nI 31 = nI s := by rw [← d31, hs]; exact pk_rem (by omega) (by decide) (by decide)
  have z31 : (nI 31 = 0) = False := by simp only [eq_iff_iff, iff_false]; decide +kernel
  refine hb.run (aCuts [32, 98, 130] J) 60 0 _ _ _ _ _ _ (aCuts_ok _) ?_
  simp only [wp1, wp, wpl, wpi, lget, lput1, lput2, ltail, lkill, aV, aVl, aNth, aPut, aFz, aC0, aC2, aSw, aCat1, aCuts, aSet_eq, List.take, List.drop, List.reverse_cons, List.reverse_nil, List.nil_append, List.cons_append, List.length_cons, List.length_nil, Option.toList, true_and, and_true, Nat.reduceAdd, Nat.reduceEqDiff, Nat.reduceLT, Nat.reduceLeDiff, Nat.zero_add, Nat.add_zero, if_true, if_false, ite_true, ite_false, reduceIte, reduceCtorEq, true_or, or_true, not_true_eq_false, not_false_eq_true, false_and, and_false, true_implies, false_implies, not_false_eq_true, bqX3_shiftLeft_0, blX3_shiftLeft_0, bqX3_shiftLeft_14, blX3_shiftLeft_14, bqX3_shiftLeft_25, blX3_shiftLeft_25, bqX3_shiftLeft_26, blX3_shiftLeft_26, bqX3_shiftLeft_32, blX3_shiftLeft_32, bqX3_shiftLeft_37, blX3_shiftLeft_37, bqX3_shiftLeft_42, blX3_shiftLeft_42, bqX3_shiftLeft_55, blX3_shiftLeft_55, bqX3_shiftLeft_56, blX3_shiftLeft_56, bqX3_shiftLeft_95, blX3_shiftLeft_95, bqX3_shiftLeft_98, blX3_shiftLeft_98, bqX3_shiftLeft_104, blX3_shiftLeft_104, bqX3_shiftLeft_118, blX3_shiftLeft_118, bqX3_shiftLeft_130, blX3_shiftLeft_130, aArgs, List.replicate, z31, d31, m31, hO, nI_lez (show n < 2 ^ 31 by omega), nI_add, nI_ltI (show u + jp < 2 ^ 31 by have := hv.1; omega) (show 20 < 2 ^ 31 by decide)]
  have hpw : v * 2 ^ n = v * 2 ^ s * 2147483648 ^ jp := by
    rw [hns, Nat.pow_add, show jp * 31 = 31 * jp by omega, Nat.pow_mul, show (2 : Nat) ^ 31 = 2147483648 from rfl, Nat.mul_assoc, Nat.mul_comm (2 ^ s)]
  have hvz := hv.zero
  have hvr := hv
  obtain ⟨h1, h2, h3, h4, h5⟩ := hv
  refine ⟨fun hc => ?_, fun hn0 => ⟨fun hc => ?_, fun hc => ?_⟩⟩
  · subst hc
    refine hb.vret ⟨rfl, g, u, by rw [Nat.pow_zero, Nat.mul_one]; exact hvr, (aSet_id hO).symm, (aSet_id hA).symm⟩ (by decide) (by decide)
  · sorry
  · sorry
end NAT10
