/-! ===== the reference: its constructor ===== -/
def yZ (a q1 q2 q3 q4 q5 q6 q7 : Nat) : Nat → Nat
  | 0 => a | 1 => q1 | 2 => q2 | 3 => q3 | 4 => q4 | 5 => q5 | 6 => q6 | _ => q7
theorem yZ_lt {a q1 q2 q3 q4 q5 q6 q7 : Nat} (h1 : a < q1) (h2 : q1 < q2) (h3 : q2 < q3) (h4 : q3 < q4) (h5 : q4 < q5) (h6 : q5 < q6) (h7 : q6 < q7) : ∀ j i, i < j → j < 8 → yZ a q1 q2 q3 q4 q5 q6 q7 i < yZ a q1 q2 q3 q4 q5 q6 q7 j := by
  have step : ∀ i, i < 7 → yZ a q1 q2 q3 q4 q5 q6 q7 i < yZ a q1 q2 q3 q4 q5 q6 q7 (i + 1) := by
    intro i hi
    obtain rfl | rfl | rfl | rfl | rfl | rfl | rfl : i = 0 ∨ i = 1 ∨ i = 2 ∨ i = 3 ∨ i = 4 ∨ i = 5 ∨ i = 6 := by omega
    · exact h1
    · exact h2
    · exact h3
    · exact h4
    · exact h5
    · exact h6
    · exact h7
  intro j
  induction j with
  | zero => intro i hi; omega
  | succ j ih =>
    intro i hi hj
    have s := step j (by omega)
    by_cases e : i = j
    · rw [e]; exact s
    · have := ih i (by omega) (by omega); omega
theorem yZ_inj {a q1 q2 q3 q4 q5 q6 q7 : Nat} (h1 : a < q1) (h2 : q1 < q2) (h3 : q2 < q3) (h4 : q3 < q4) (h5 : q4 < q5) (h6 : q5 < q6) (h7 : q6 < q7) : ∀ i j, i < 8 → j < 8 → yZ a q1 q2 q3 q4 q5 q6 q7 i = yZ a q1 q2 q3 q4 q5 q6 q7 j → i = j := by
  intro i j hi hj e
  have m := yZ_lt h1 h2 h3 h4 h5 h6 h7
  rcases Nat.lt_trichotomy i j with q | q | q
  · have := m j i q hj; omega
  · exact q
  · have := m i j q hi; omega
theorem mB_0 : mB (fun _ _ => 0) = fun _ => 0 := by
  funext j
  have : (nI 0).toInt8.toInt32 = 0 := by decide +kernel
  exact this
section MIN
variable {l : Launch} {G : aG} {base tA : Nat} {O0 : aO} {A : aA} {a : Nat}
abbrev rmNM : Room := { frames := 2, cells := 8, slots := 5300, locals := 20 }
abbrev mNew : Nat × List Value := (10, [.int 0, .null, .null, .null, .null, .null, .null, .int 0, .null, .int 0, .int 0, .int 0, .int 0, .int 0])
set_option maxRecDepth 4000 in
set_option maxHeartbeats 8000000 in
theorem ct_X9_init : aMet l G base tA yX9_init cX9_init 1 none rmNM [.ref a] (aSet O0 a mNew) A (fun r O' A' => r = none ∧ ∃ Y, Y 0 = a ∧ (∀ i, i < 8 → i ≠ 0 → ∀ x, usd (aSet O0 a mNew) A x → x < Y i) ∧ mW Y (fun _ => 0) (fun _ => nI 0) false (fun _ _ => 0) O0 A O' A') := by
  refine aMet_of (ini := true) (B := aLook bkX9_init) (by decide) (fun h => by first | rfl | cases h) (Nat.le_of_ble_eq_true rfl) boX9_init ?_
  intro E J hb
  obtain ⟨O, hO9⟩ : ∃ O, O = aSet O0 a mNew := ⟨_, rfl⟩
  have hO : O a = some mNew := by rw [hO9]; exact aSet_eq
  rw [← hO9] at hb ⊢
  refine hb.run (aCuts [4] J) 60 0 _ _ _ _ _ _ (aCuts_ok _) ?_
  simp only [↓wpi_isub, ↓wpi_lsub, ↓wpi_ineg, ↓wpi_lneg, ↓wpi_irem, ↓wpi_lrem, ↓wpi_iinc, wp1, wp, wpl, wpi, lget, lput1, lput2, ltail, lkill, aV, aVl, aNth, aPut, aFz, aC0, aC2, aSw, aCat1, aCuts, aSet_eq, List.take, List.drop, List.reverse_cons, List.reverse_nil, List.nil_append, List.cons_append, List.length_cons, List.length_nil, Option.toList, true_and, and_true, Nat.reduceAdd, Nat.reduceEqDiff, Nat.reduceLT, Nat.reduceLeDiff, Nat.zero_add, Nat.add_zero, if_true, if_false, ite_true, ite_false, reduceIte, reduceCtorEq, true_or, or_true, not_true_eq_false, not_false_eq_true, false_and, and_false, true_implies, false_implies, not_false_eq_true, bqX9_init_0, blX9_init_0, bqX9_init_4, blX9_init_4, aArgs, List.replicate]
  refine ⟨_, _, _, _, hb.objInit loX9_1 (by decide) (by decide), ?_, fun _ _ _ h => h.elim⟩
  rintro _ O' A' ⟨rfl, e1, e2⟩
  rw [e1, e2]
  refine hb.run (aCuts [4] J) 60 4 _ _ _ _ _ _ (aCuts_ok _) ?_
  simp only [↓wpi_isub, ↓wpi_lsub, ↓wpi_ineg, ↓wpi_lneg, ↓wpi_irem, ↓wpi_lrem, ↓wpi_iinc, wp1, wp, wpl, wpi, lget, lput1, lput2, ltail, lkill, aV, aVl, aNth, aPut, aFz, aC0, aC2, aSw, aCat1, aCuts, aSet_eq, List.take, List.drop, List.reverse_cons, List.reverse_nil, List.nil_append, List.cons_append, List.length_cons, List.length_nil, Option.toList, true_and, and_true, Nat.reduceAdd, Nat.reduceEqDiff, Nat.reduceLT, Nat.reduceLeDiff, Nat.zero_add, Nat.add_zero, if_true, if_false, ite_true, ite_false, reduceIte, reduceCtorEq, true_or, or_true, not_true_eq_false, not_false_eq_true, false_and, and_false, true_implies, false_implies, not_false_eq_true, bqX9_init_0, blX9_init_0, bqX9_init_4, blX9_init_4, hb.rc, hb.rs, aBl, hO]
  refine ⟨4096, rfl, by decide, by decide, ?_⟩
  intro q1 f1 g1
  refine ⟨64, rfl, by decide, by decide, ?_⟩
  intro q2 f2 g2
  refine ⟨64, rfl, by decide, by decide, ?_⟩
  intro q3 f3 g3
  refine ⟨64, rfl, by decide, by decide, ?_⟩
  intro q4 f4 g4
  refine ⟨64, rfl, by decide, by decide, ?_⟩
  intro q5 f5 g5
  refine ⟨64, rfl, by decide, by decide, ?_⟩
  intro q6 f6 g6
  refine ⟨880, rfl, by decide, by decide, ?_⟩
  intro q7 f7 g7
  have u1 : ∀ x, usd O A x → x < q1 := fun x hx => hx.elim (f1 x) (g1 x)
  have a1 : a < q1 := f1 a (by rw [hO]; simp)
  have l2 : q1 < q2 := g2 q1 (by rw [aSet_eq]; simp)
  have l3 : q2 < q3 := g3 q2 (by rw [aSet_eq]; simp)
  have l4 : q3 < q4 := g4 q3 (by rw [aSet_eq]; simp)
  have l5 : q4 < q5 := g5 q4 (by rw [aSet_eq]; simp)
  have l6 : q5 < q6 := g6 q5 (by rw [aSet_eq]; simp)
  have l7 : q6 < q7 := g7 q6 (by rw [aSet_eq]; simp)
  refine hb.vret ⟨rfl, yZ a q1 q2 q3 q4 q5 q6 q7, rfl, ?_, wfN0, yZ_inj a1 l2 l3 l4 l5 l6 l7, ?_, ⟨?_, ?_, ?_, ?_, ?_, ?_⟩, ⟨fun _ => 0, ?_, ?_⟩, ?_⟩ (by decide) (by decide)
  · intro i hi h0 x hx
    have h1 := u1 x hx
    by_cases e : i = 1
    · rw [e]; exact h1
    · have := yZ_lt a1 l2 l3 l4 l5 l6 l7 i 1 (by omega) hi
      exact Nat.lt_trans h1 this
  · rw [show yZ a q1 q2 q3 q4 q5 q6 q7 0 = a from rfl, aSet_eq]; rfl
  · rw [show yZ a q1 q2 q3 q4 q5 q6 q7 1 = q1 from rfl, aSet_ne (by omega), aSet_ne (by omega), aSet_ne (by omega), aSet_ne (by omega), aSet_ne (by omega), aSet_ne (by omega), aSet_eq, mB_0]
  · rw [show yZ a q1 q2 q3 q4 q5 q6 q7 2 = q2 from rfl, aSet_ne (by omega), aSet_ne (by omega), aSet_ne (by omega), aSet_ne (by omega), aSet_ne (by omega), aSet_eq, ← nF_0]
  · rw [show yZ a q1 q2 q3 q4 q5 q6 q7 3 = q3 from rfl, aSet_ne (by omega), aSet_ne (by omega), aSet_ne (by omega), aSet_ne (by omega), aSet_eq, ← nF_0]
  · rw [show yZ a q1 q2 q3 q4 q5 q6 q7 4 = q4 from rfl, aSet_ne (by omega), aSet_ne (by omega), aSet_ne (by omega), aSet_eq, ← nF_0]
  · rw [show yZ a q1 q2 q3 q4 q5 q6 q7 5 = q5 from rfl, aSet_ne (by omega), aSet_ne (by omega), aSet_eq, ← nF_0]
  · rw [show yZ a q1 q2 q3 q4 q5 q6 q7 6 = q6 from rfl, aSet_ne (by omega), aSet_eq, ← nF_0]
  · rw [show yZ a q1 q2 q3 q4 q5 q6 q7 7 = q7 from rfl, aSet_eq, ← nF_0]
  · intro x hx
    exact ⟨fun k hk => (by decide : 0 < 65536), mV_zero.mpr fun k hk => rfl⟩
  · intro z hz
    have z0 : z ≠ a := (hz 0 (by decide)).symm
    have z1 : z ≠ q1 := (hz 1 (by decide)).symm
    have z2 : z ≠ q2 := (hz 2 (by decide)).symm
    have z3 : z ≠ q3 := (hz 3 (by decide)).symm
    have z4 : z ≠ q4 := (hz 4 (by decide)).symm
    have z5 : z ≠ q5 := (hz 5 (by decide)).symm
    have z6 : z ≠ q6 := (hz 6 (by decide)).symm
    have z7 : z ≠ q7 := (hz 7 (by decide)).symm
    refine ⟨?_, ?_⟩
    · rw [aSet_ne z0, aSet_ne z0, aSet_ne z0, aSet_ne z0, aSet_ne z0, aSet_ne z0, aSet_ne z0, hO9, aSet_ne z0]
    · rw [aSet_ne z7, aSet_ne z6, aSet_ne z5, aSet_ne z4, aSet_ne z3, aSet_ne z2, aSet_ne z1]
end MIN
