/-! ===== the reference: writeBinary ===== -/
theorem oct_limb (q m : Nat) : q / 65536 ^ (m / 2) % 65536 / (if m % 2 = 0 then 1 else 256) % 256 = oct q m := by
  unfold oct
  have e : (65536 : Nat) = 256 ^ 2 := rfl
  split
  · rename_i h
    obtain ⟨j, rfl⟩ : ∃ j, m = 2 * j := ⟨m / 2, by omega⟩
    rw [show 2 * j / 2 = j by omega, Nat.div_one, Nat.pow_mul, show (256 : Nat) ^ 2 = 65536 from rfl]
    generalize q / 65536 ^ j = a
    omega
  · rename_i h
    obtain ⟨j, rfl⟩ : ∃ j, m = 2 * j + 1 := ⟨m / 2, by omega⟩
    rw [show (2 * j + 1) / 2 = j by omega, Nat.pow_succ, ← Nat.div_div_eq_div_mul, Nat.pow_mul, show (256 : Nat) ^ 2 = 65536 from rfl]
    generalize q / 65536 ^ j = a
    omega
theorem and255 {n : Nat} (h : n < 2 ^ 32) : nI n &&& nI 255 = nI (n % 256) := pk_andN h 8 (by decide +kernel)
section MWB
variable {l : Launch} {G : aG} {base tA : Nat} {Y ρ : Nat → Nat} {τ : Nat → Int32} {ex : Bool} {N N' : aN} {O0 O : aO} {A0 A : aA} {k i : Nat}
theorem mBy_of {g : Nat → Nat} (h : mW Y ρ τ ex N' O0 A0 O A) (hs : nSame N N' k) (hg : ∀ i, i < N 5 k → N' (6 + k) i = g i) : mW Y ρ τ ex (nBy N k g) O0 A0 O A := by
  have : N' = nBy N k g := by
    funext r i
    unfold nBy
    split
    · rename_i e
      subst e
      split
      · rename_i e; exact hg i e
      · rename_i e
        exact (h.1.2.2.2 k i).2 (by rw [hs 5 k (by omega)]; omega)
    · rename_i e; exact hs r i e
  rw [← this]; exact h
theorem m_putS (h : mW Y ρ τ ex N' O0 A0 O A) (hs : nSame N N' k) (hk : k < N 0 0) (hi : i < N 5 k) {w : Nat} (hw : w < 2 ^ 32) : aMet l G base tA yX9_put cX9_put 4 none rmZ [.ref (Y 0), .int (nI k), .int (nI i), .int (nI w)] O A (fun r O' A' => r = none ∧ mW Y ρ τ ex (nU N' (6 + k) i (w % 256)) O0 A0 O' A') :=
  m_put h (by rw [hs 0 0 (by omega)]; exact hk) (by rw [hs 5 k (by omega)]; exact hi) hw
theorem m_readS (h : mW Y ρ τ ex N' O0 A0 O A) (hs : nSame N N' k) (hk : k < N 0 0) (hi : i < 64) : aMet l G base tA yX9_read cX9_read 3 (some .int) rmZ [.ref (Y 0), .int (nI k), .int (nI i)] O A (fun r O' A' => r = some (.int (nI (N' (6 + k) i))) ∧ O' = O ∧ A' = A) :=
  m_read h (by rw [hs 0 0 (by omega)]; exact hk) hi
theorem mW.sizS (h : mW Y ρ τ ex N' O0 A0 O A) (hs : nSame N N' k) : A (Y 5) = some (0, 64, .inl (nF (N 5))) := by
  have : N' 5 = N 5 := funext fun j => hs 5 j (by omega)
  rw [← this]; exact h.siz
theorem mW.usaS (h : mW Y ρ τ ex N' O0 A0 O A) (hs : nSame N N' k) : A (Y 2) = some (0, 64, .inl (nF (N 1))) := by
  have : N' 1 = N 1 := funext fun j => hs 1 j (by omega)
  rw [← this]; exact h.usa
theorem mW.digS (h : mW Y ρ τ ex N' O0 A0 O A) (hs : nSame N N' k) : A (Y 3) = some (0, 64, .inl (nF (N 2))) := by
  have : N' 2 = N 2 := funext fun j => hs 2 j (by omega)
  rw [← this]; exact h.dig
set_option maxRecDepth 4000 in
set_option maxHeartbeats 8000000 in
theorem m_writeBinary (h : mW Y ρ τ ex N O0 A0 O A) (hk : k < N 0 0) (hz16 : N 5 k ≤ 16) (neg : Bool) : aMet l G base tA yX9_writeBinary cX9_writeBinary 8 none rmM1 [.ref (Y 0), .int (nI k), .int (sBI neg)] O A (fun r O' A' => r = none ∧ mW Y ρ τ ex (nBy N k (xW (N 5 k) (ρ 6) neg)) O0 A0 O' A') := by
  refine aMet_of (ini := false) (B := aLook bkX9_writeBinary) (by decide) (fun h => by first | rfl | cases h) (Nat.le_of_ble_eq_true rfl) boX9_writeBinary ?_
  intro E J hb
  have hc := h.1.1
  obtain ⟨s1, s2⟩ := h.szb hk
  obtain ⟨q, hq⟩ : ∃ q, q = ρ 6 := ⟨_, rfl⟩
  rw [← hq] at hb
  have iv : vp_in (nI k) 64 := vp_in_nI (by omega) (by decide)
  have kc := nI_clamp (show k < 2 ^ 31 by omega)
  have gz := nF_at (N 5) k
  have n16 : (nI 16 = 0) = False := by simp only [eq_iff_iff, iff_false]; decide +kernel
  have loop : ∀ (j c : Nat) (x5 x6 x7 : Option Value) (N1 : aN) (O1 : aO) (A1 : aA), j ≤ N 5 k → c ≤ 1 → (neg = true → c = xC q (N 5 k - j)) → nSame N N1 k → (∀ p, j ≤ p → p < N 5 k → N1 (6 + k) p = xW (N 5 k) q neg p) → mW Y ρ τ ex N1 O0 A0 O1 A1 →
      J 12 [some (.ref (Y 0)), some (.int (nI k)), some (.int (sBI neg)), some (.int (nI c)), some (.int (iSub (nI j) (nI 1))), x5, x6, x7] [] O1 A1 0 0 := by
    intro j
    induction j with
    | zero =>
      intro c x5 x6 x7 N1 O1 A1 hj hc hcn hs hd h1
      refine hb.run (aCuts [12, 97] J) 60 12 _ _ _ _ _ _ (aCuts_ok _) ?_
      simp only [↓wpi_isub, ↓wpi_lsub, ↓wpi_ineg, ↓wpi_lneg, ↓wpi_irem, ↓wpi_lrem, ↓wpi_iinc, wp1, wp, wpl, wpi, lget, lput1, lput2, ltail, lkill, aV, aVl, aNth, aPut, aFz, aC0, aC2, aSw, aCat1, aCuts, aSet_eq, List.take, List.drop, List.reverse_cons, List.reverse_nil, List.nil_append, List.cons_append, List.length_cons, List.length_nil, Option.toList, true_and, and_true, Nat.reduceAdd, Nat.reduceEqDiff, Nat.reduceLT, Nat.reduceLeDiff, Nat.zero_add, Nat.add_zero, if_true, if_false, ite_true, ite_false, reduceIte, reduceCtorEq, true_or, or_true, not_true_eq_false, not_false_eq_true, false_and, and_false, true_implies, false_implies, not_false_eq_true, bqX9_writeBinary_0, blX9_writeBinary_0, bqX9_writeBinary_12, blX9_writeBinary_12, bqX9_writeBinary_17, blX9_writeBinary_17, bqX9_writeBinary_63, blX9_writeBinary_63, bqX9_writeBinary_74, blX9_writeBinary_74, bqX9_writeBinary_76, blX9_writeBinary_76, bqX9_writeBinary_97, blX9_writeBinary_97, bqX9_writeBinary_103, blX9_writeBinary_103, iSub_n1]
      exact hb.vret ⟨rfl, mBy_of h1 hs fun i hi => hd i (by omega) hi⟩ (by decide) (by decide)
    | succ i ih =>
      intro c x5 x6 x7 N1 O1 A1 hj hc hcn hs hd h1
      rw [iSub_nn (show 1 ≤ i + 1 by omega), Nat.add_sub_cancel]
      obtain ⟨m, hm⟩ : ∃ m, m = N 5 k - 1 - i := ⟨_, rfl⟩
      obtain ⟨g, hg, hr⟩ := h1.row
      have g6 := hr 6 (by decide)
      rw [← hq] at g6
      have hlim : g (480 + m / 2) = q / 65536 ^ (m / 2) % 65536 := by
        rw [← g6.2, mV_limb (by omega) g6.1]; rfl
      have hll : g (480 + m / 2) < 65536 := g6.1 (m / 2) (by omega)
      have hoc := oct_limb q m
      rw [← hlim] at hoc
      have hol := oct_lt q m
      have e2 : vp_in (nI (480 + m / 2)) 880 := vp_in_nI (by omega) (by decide)
      have dv : nI (8 * m) / nI 16 = nI (m / 2) := by rw [pk_div (by omega) (by decide) (by decide), show 8 * m / 16 = m / 2 by omega]
      have sb1 := iSub_nn (show 1 ≤ N 5 k by omega)
      have sb2 : iSub (nI (N 5 k - 1)) (nI i) = nI m := by rw [iSub_nn (by omega), ← hm]
      have rm : iRem (nI (8 * m)) (nI 16) = nI (if m % 2 = 0 then 0 else 8) := by
        rw [iRem_n (by omega) (by decide) (by decide)]; congr 1; split <;> omega
      have sh : (nI (g (480 + m / 2)) >>> (nI (if m % 2 = 0 then 0 else 8) &&& 31)) &&& nI 255 = nI (oct q m) := by
        by_cases hp : m % 2 = 0
        · rw [if_pos hp, shr0 (by omega), and255 (by omega)]; rw [if_pos hp, Nat.div_one] at hoc; rw [hoc]
        · rw [if_neg hp, shr8 (by omega), and255 (by omega)]; rw [if_neg hp] at hoc; rw [hoc]
      have o8 : nI (oct q m) >>> (nI 8 &&& 31) = nI (oct q m / 256) := shr8 (by omega)
      refine hb.run (aCuts [12, 97] J) 60 12 _ _ _ _ _ _ (aCuts_ok _) ?_
      cases neg
      · have e0 : (0 ≤ sBI false) = True := by rw [sBI_ge]; simp
        simp only [↓wpi_isub, ↓wpi_lsub, ↓wpi_ineg, ↓wpi_lneg, ↓wpi_irem, ↓wpi_lrem, ↓wpi_iinc, wp1, wp, wpl, wpi, lget, lput1, lput2, ltail, lkill, aV, aVl, aNth, aPut, aFz, aC0, aC2, aSw, aCat1, aCuts, aSet_eq, List.take, List.drop, List.reverse_cons, List.reverse_nil, List.nil_append, List.cons_append, List.length_cons, List.length_nil, Option.toList, true_and, and_true, Nat.reduceAdd, Nat.reduceEqDiff, Nat.reduceLT, Nat.reduceLeDiff, Nat.zero_add, Nat.add_zero, if_true, if_false, ite_true, ite_false, reduceIte, reduceCtorEq, true_or, or_true, not_true_eq_false, not_false_eq_true, false_and, and_false, true_implies, false_implies, not_false_eq_true, bqX9_writeBinary_0, blX9_writeBinary_0, bqX9_writeBinary_12, blX9_writeBinary_12, bqX9_writeBinary_17, blX9_writeBinary_17, bqX9_writeBinary_63, blX9_writeBinary_63, bqX9_writeBinary_74, blX9_writeBinary_74, bqX9_writeBinary_76, blX9_writeBinary_76, bqX9_writeBinary_97, blX9_writeBinary_97, bqX9_writeBinary_103, blX9_writeBinary_103, nI_lt0 (show i < 2 ^ 31 by omega), h1.obj, h1.sizS hs, iv, kc, gz, sb1, sb2, pk_mul, n16, dv, nI_add, hg, e2, nI_clamp (show 480 + m / 2 < 2 ^ 31 by omega), nF_at, rm, sh, e0, o8, and255 (show oct q m < 2 ^ 32 by omega)]
        refine ⟨_, _, _, _, hb.callV lvX9_149 (m_putS h1 hs hk (i := i) (w := oct q m % 256) (by omega) (by omega)) rfl h1.obj (by decide) (by decide) (by decide), ?_, fun _ _ _ h => h.elim⟩
        rintro _ O3 A3 ⟨rfl, h3⟩
        rw [Nat.mod_mod, Nat.mod_eq_of_lt hol] at h3
        refine hb.run (aCuts [12, 97] J) 60 97 _ _ _ _ _ _ (aCuts_ok _) ?_
        simp only [↓wpi_isub, ↓wpi_lsub, ↓wpi_ineg, ↓wpi_lneg, ↓wpi_irem, ↓wpi_lrem, ↓wpi_iinc, wp1, wp, wpl, wpi, lget, lput1, lput2, ltail, lkill, aV, aVl, aNth, aPut, aFz, aC0, aC2, aSw, aCat1, aCuts, aSet_eq, List.take, List.drop, List.reverse_cons, List.reverse_nil, List.nil_append, List.cons_append, List.length_cons, List.length_nil, Option.toList, true_and, and_true, Nat.reduceAdd, Nat.reduceEqDiff, Nat.reduceLT, Nat.reduceLeDiff, Nat.zero_add, Nat.add_zero, if_true, if_false, ite_true, ite_false, reduceIte, reduceCtorEq, true_or, or_true, not_true_eq_false, not_false_eq_true, false_and, and_false, true_implies, false_implies, not_false_eq_true, bqX9_writeBinary_0, blX9_writeBinary_0, bqX9_writeBinary_12, blX9_writeBinary_12, bqX9_writeBinary_17, blX9_writeBinary_17, bqX9_writeBinary_63, blX9_writeBinary_63, bqX9_writeBinary_74, blX9_writeBinary_74, bqX9_writeBinary_76, blX9_writeBinary_76, bqX9_writeBinary_97, blX9_writeBinary_97, bqX9_writeBinary_103, blX9_writeBinary_103, iInc_m1]
        refine ih _ _ _ _ _ _ _ (by omega) (by omega) (fun q => by cases q) hs.put (fun p p1 p2 => ?_) h3
        by_cases e : p = i
        · subst e; rw [nU_eq, hm]; rfl
        · rw [nU_ne (Or.inr e)]; exact hd p (by omega) p2
      · have e0 : (0 ≤ sBI true) = False := by rw [sBI_ge]; simp
        have hcx := hcn rfl
        rw [show N 5 k - (i + 1) = m by omega] at hcx
        have hxl : 255 - oct q m + c < 2 ^ 31 := by omega
        simp only [↓wpi_isub, ↓wpi_lsub, ↓wpi_ineg, ↓wpi_lneg, ↓wpi_irem, ↓wpi_lrem, ↓wpi_iinc, wp1, wp, wpl, wpi, lget, lput1, lput2, ltail, lkill, aV, aVl, aNth, aPut, aFz, aC0, aC2, aSw, aCat1, aCuts, aSet_eq, List.take, List.drop, List.reverse_cons, List.reverse_nil, List.nil_append, List.cons_append, List.length_cons, List.length_nil, Option.toList, true_and, and_true, Nat.reduceAdd, Nat.reduceEqDiff, Nat.reduceLT, Nat.reduceLeDiff, Nat.zero_add, Nat.add_zero, if_true, if_false, ite_true, ite_false, reduceIte, reduceCtorEq, true_or, or_true, not_true_eq_false, not_false_eq_true, false_and, and_false, true_implies, false_implies, not_false_eq_true, bqX9_writeBinary_0, blX9_writeBinary_0, bqX9_writeBinary_12, blX9_writeBinary_12, bqX9_writeBinary_17, blX9_writeBinary_17, bqX9_writeBinary_63, blX9_writeBinary_63, bqX9_writeBinary_74, blX9_writeBinary_74, bqX9_writeBinary_76, blX9_writeBinary_76, bqX9_writeBinary_97, blX9_writeBinary_97, bqX9_writeBinary_103, blX9_writeBinary_103, nI_lt0 (show i < 2 ^ 31 by omega), h1.obj, h1.sizS hs, iv, kc, gz, sb1, sb2, pk_mul, n16, dv, nI_add, hg, e2, nI_clamp (show 480 + m / 2 < 2 ^ 31 by omega), nF_at, rm, sh, e0, iSub_nn (show oct q m ≤ 255 by omega), shr8 hxl, and255 (show 255 - oct q m + c < 2 ^ 32 by omega)]
        refine ⟨_, _, _, _, hb.callV lvX9_149 (m_putS h1 hs hk (i := i) (w := (255 - oct q m + c) % 256) (by omega) (by omega)) rfl h1.obj (by decide) (by decide) (by decide), ?_, fun _ _ _ h => h.elim⟩
        rintro _ O3 A3 ⟨rfl, h3⟩
        rw [Nat.mod_mod] at h3
        refine hb.run (aCuts [12, 97] J) 60 97 _ _ _ _ _ _ (aCuts_ok _) ?_
        simp only [↓wpi_isub, ↓wpi_lsub, ↓wpi_ineg, ↓wpi_lneg, ↓wpi_irem, ↓wpi_lrem, ↓wpi_iinc, wp1, wp, wpl, wpi, lget, lput1, lput2, ltail, lkill, aV, aVl, aNth, aPut, aFz, aC0, aC2, aSw, aCat1, aCuts, aSet_eq, List.take, List.drop, List.reverse_cons, List.reverse_nil, List.nil_append, List.cons_append, List.length_cons, List.length_nil, Option.toList, true_and, and_true, Nat.reduceAdd, Nat.reduceEqDiff, Nat.reduceLT, Nat.reduceLeDiff, Nat.zero_add, Nat.add_zero, if_true, if_false, ite_true, ite_false, reduceIte, reduceCtorEq, true_or, or_true, not_true_eq_false, not_false_eq_true, false_and, and_false, true_implies, false_implies, not_false_eq_true, bqX9_writeBinary_0, blX9_writeBinary_0, bqX9_writeBinary_12, blX9_writeBinary_12, bqX9_writeBinary_17, blX9_writeBinary_17, bqX9_writeBinary_63, blX9_writeBinary_63, bqX9_writeBinary_74, blX9_writeBinary_74, bqX9_writeBinary_76, blX9_writeBinary_76, bqX9_writeBinary_97, blX9_writeBinary_97, bqX9_writeBinary_103, blX9_writeBinary_103, iInc_m1]
        refine ih _ _ _ _ _ _ _ (by omega) (by omega) (fun _ => ?_) hs.put (fun p p1 p2 => ?_) h3
        · rw [show N 5 k - i = m + 1 by omega, hcx]; rfl
        · by_cases e : p = i
          · subst e; rw [nU_eq, hcx, hm]; rfl
          · rw [nU_ne (Or.inr e)]; exact hd p (by omega) p2
  refine hb.run (aCuts [12, 97] J) 60 0 _ _ _ _ _ _ (aCuts_ok _) ?_
  simp only [↓wpi_isub, ↓wpi_lsub, ↓wpi_ineg, ↓wpi_lneg, ↓wpi_irem, ↓wpi_lrem, ↓wpi_iinc, wp1, wp, wpl, wpi, lget, lput1, lput2, ltail, lkill, aV, aVl, aNth, aPut, aFz, aC0, aC2, aSw, aCat1, aCuts, aSet_eq, List.take, List.drop, List.reverse_cons, List.reverse_nil, List.nil_append, List.cons_append, List.length_cons, List.length_nil, Option.toList, true_and, and_true, Nat.reduceAdd, Nat.reduceEqDiff, Nat.reduceLT, Nat.reduceLeDiff, Nat.zero_add, Nat.add_zero, if_true, if_false, ite_true, ite_false, reduceIte, reduceCtorEq, true_or, or_true, not_true_eq_false, not_false_eq_true, false_and, and_false, true_implies, false_implies, not_false_eq_true, bqX9_writeBinary_0, blX9_writeBinary_0, bqX9_writeBinary_12, blX9_writeBinary_12, bqX9_writeBinary_17, blX9_writeBinary_17, bqX9_writeBinary_63, blX9_writeBinary_63, bqX9_writeBinary_74, blX9_writeBinary_74, bqX9_writeBinary_76, blX9_writeBinary_76, bqX9_writeBinary_97, blX9_writeBinary_97, bqX9_writeBinary_103, blX9_writeBinary_103, aArgs, List.replicate, h.obj, h.siz, iv, kc, gz]
  exact loop (N 5 k) 1 _ _ _ N _ _ (by omega) (by omega) (fun _ => by rw [Nat.sub_self]; rfl) nSame.rf (fun i i1 i2 => by omega) h
end MWB
