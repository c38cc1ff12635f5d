/-! ===== the reference's state ===== -/
def mB (N : aN) : Nat → Int32 := fun j => (nI (N (6 + j / 64) (j % 64))).toInt8.toInt32
def tU (τ : Nat → Int32) (i : Nat) (v : Int32) : Nat → Int32 := fun j => if j = i then v else τ j
def mF (Y : Nat → Nat) (τ : Nat → Int32) (ex : Bool) (N : aN) : List Value := [.int (τ 0), .ref (Y 1), .ref (Y 2), .ref (Y 3), .ref (Y 4), .ref (Y 5), .ref (Y 6), .int (nI (N 0 0)), .ref (Y 7), .int (τ 1), .int (τ 2), .int (τ 3), .int (τ 4), .int (bI ex)]
/-- Y: the object, bytes, usages, digits, scales, sizes, kinds, the row; ρ the registers; τ: thrown, sign, sign2, signTop, power -/
def mW (Y : Nat → Nat) (ρ : Nat → Nat) (τ : Nat → Int32) (ex : Bool) (N : aN) (O0 : aO) (A0 : aA) (O : aO) (A : aA) : Prop :=
  wfN N ∧ (∀ i j, i < 8 → j < 8 → Y i = Y j → i = j) ∧ O (Y 0) = some (10, mF Y τ ex N) ∧
  (A (Y 1) = some (1, 4096, .inl (mB N)) ∧ A (Y 2) = some (0, 64, .inl (nF (N 1))) ∧ A (Y 3) = some (0, 64, .inl (nF (N 2))) ∧ A (Y 4) = some (0, 64, .inl (nF (N 3))) ∧ A (Y 5) = some (0, 64, .inl (nF (N 5))) ∧ A (Y 6) = some (0, 64, .inl (nF (N 4)))) ∧
  (∃ g, A (Y 7) = some (0, 880, .inl (nF g)) ∧ ∀ x, x < 11 → (∀ k, k < 80 → rg g x k < 65536) ∧ mV (rg g x) 80 = ρ x) ∧
  ∀ x, (∀ i, i < 8 → Y i ≠ x) → O x = O0 x ∧ A x = A0 x
section MW
variable {l : Launch} {G : aG} {base tA : Nat} {Y ρ : Nat → Nat} {τ : Nat → Int32} {ex : Bool} {N : aN} {O0 O : aO} {A0 A : aA} {x y i : Nat}
theorem mW.obj (h : mW Y ρ τ ex N O0 A0 O A) : O (Y 0) = some (10, [.int (τ 0), .ref (Y 1), .ref (Y 2), .ref (Y 3), .ref (Y 4), .ref (Y 5), .ref (Y 6), .int (nI (N 0 0)), .ref (Y 7), .int (τ 1), .int (τ 2), .int (τ 3), .int (τ 4), .int (bI ex)]) := h.2.2.1
theorem mW.inj (h : mW Y ρ τ ex N O0 A0 O A) {i j : Nat} (hi : i < 8) (hj : j < 8) (hij : i ≠ j) : Y i ≠ Y j := fun e => hij (h.2.1 i j hi hj e)
theorem mW.row (h : mW Y ρ τ ex N O0 A0 O A) : ∃ g, A (Y 7) = some (0, 880, .inl (nF g)) ∧ ∀ x, x < 11 → (∀ k, k < 80 → rg g x k < 65536) ∧ mV (rg g x) 80 = ρ x := h.2.2.2.2.1
theorem mW.byt (h : mW Y ρ τ ex N O0 A0 O A) : A (Y 1) = some (1, 4096, .inl (mB N)) := h.2.2.2.1.1
theorem mW.usa (h : mW Y ρ τ ex N O0 A0 O A) : A (Y 2) = some (0, 64, .inl (nF (N 1))) := h.2.2.2.1.2.1
theorem mW.dig (h : mW Y ρ τ ex N O0 A0 O A) : A (Y 3) = some (0, 64, .inl (nF (N 2))) := h.2.2.2.1.2.2.1
theorem mW.sca (h : mW Y ρ τ ex N O0 A0 O A) : A (Y 4) = some (0, 64, .inl (nF (N 3))) := h.2.2.2.1.2.2.2.1
theorem mW.siz (h : mW Y ρ τ ex N O0 A0 O A) : A (Y 5) = some (0, 64, .inl (nF (N 5))) := h.2.2.2.1.2.2.2.2.1
theorem mW.kin (h : mW Y ρ τ ex N O0 A0 O A) : A (Y 6) = some (0, 64, .inl (nF (N 4))) := h.2.2.2.1.2.2.2.2.2
theorem mW.frm (h : mW Y ρ τ ex N O0 A0 O A) : ∀ x, (∀ i, i < 8 → Y i ≠ x) → O x = O0 x ∧ A x = A0 x := h.2.2.2.2.2
theorem mW.lt (h : mW Y ρ τ ex N O0 A0 O A) (hx : x < 11) : ρ x < 65536 ^ 80 := by
  obtain ⟨g, -, hr⟩ := h.row
  rw [← (hr x hx).2]; exact mV_lt (hr x hx).1
/-- one register changed -/
theorem mW.set (h : mW Y ρ τ ex N O0 A0 O A) {g H : Nat → Nat} {v : Nat} (hx : x < 11) (hr : ∀ x, x < 11 → (∀ k, k < 80 → rg g x k < 65536) ∧ mV (rg g x) 80 = ρ x) (hS : rgS g H x v) : mW Y (rU ρ x v) τ ex N O0 A0 O (aSet A (Y 7) (0, 880, .inl (nF H))) := by
  have nA : ∀ j, j < 7 → aSet A (Y 7) (0, 880, .inl (nF H)) (Y j) = A (Y j) := fun j hj => aSet_ne (h.inj (by omega) (by decide) (by omega))
  refine ⟨h.1, h.2.1, h.2.2.1, ⟨?_, ?_, ?_, ?_, ?_, ?_⟩, ⟨H, aSet_eq, fun z hz => ?_⟩, fun z hz => ⟨(h.frm z hz).1, by rw [aSet_ne (hz 7 (by decide)).symm]; exact (h.frm z hz).2⟩⟩
  · rw [nA 1 (by decide)]; exact h.byt
  · rw [nA 2 (by decide)]; exact h.usa
  · rw [nA 3 (by decide)]; exact h.dig
  · rw [nA 4 (by decide)]; exact h.sca
  · rw [nA 5 (by decide)]; exact h.siz
  · rw [nA 6 (by decide)]; exact h.kin
  · by_cases e : z = x
    · subst e; rw [rU_eq]; exact ⟨hS.1, hS.2.1⟩
    · have hq : ∀ k, k < 80 → rg H z k = rg g z k := fun k hk => hS.2.2 _ (by omega)
      rw [rU_ne e, mV_congr hq]
      exact ⟨fun k hk => by rw [hq k hk]; exact (hr z hz).1 k hk, (hr z hz).2⟩
/-- fields changed -/
theorem mW.fld (h : mW Y ρ τ ex N O0 A0 O A) (τ' : Nat → Int32) (ex' : Bool) : mW Y ρ τ' ex' N O0 A0 (aSet O (Y 0) (10, mF Y τ' ex' N)) A :=
  ⟨h.1, h.2.1, aSet_eq, h.2.2.2.1, h.2.2.2.2.1, fun z hz => ⟨by rw [aSet_ne (hz 0 (by decide)).symm]; exact (h.frm z hz).1, (h.frm z hz).2⟩⟩
theorem m_clear (h : mW Y ρ τ ex N O0 A0 O A) (hx : x < 11) : aMet l G base tA yX9_clear cX9_clear 3 none rmZ [.ref (Y 0), .int (nI x)] O A (fun r O' A' => r = none ∧ mW Y (rU ρ x 0) τ ex N O0 A0 O' A') := by
  obtain ⟨g, hg, hr⟩ := h.row
  refine (ct_X9_clear hx h.obj hg).mono ?_
  rintro r O' A' ⟨rfl, rfl, H, rfl, hS⟩
  exact ⟨rfl, h.set hx hr hS⟩
theorem m_copy (h : mW Y ρ τ ex N O0 A0 O A) (hx : x < 11) (hy : y < 11) (hxy : x ≠ y) : aMet l G base tA yX9_copy cX9_copy 4 none rmZ [.ref (Y 0), .int (nI x), .int (nI y)] O A (fun r O' A' => r = none ∧ mW Y (rU ρ y (ρ x)) τ ex N O0 A0 O' A') := by
  obtain ⟨g, hg, hr⟩ := h.row
  refine (ct_X9_copy hx hy hxy h.obj hg (hr x hx).1).mono ?_
  rintro r O' A' ⟨rfl, rfl, H, rfl, hS⟩
  rw [(hr x hx).2] at hS
  exact ⟨rfl, h.set hy hr hS⟩
theorem m_times (h : mW Y ρ τ ex N O0 A0 O A) (hx : x < 11) {f : Nat} (hf : f < 65536) (hmax : ρ x * f < 65536 ^ 80) : aMet l G base tA yX9_times cX9_times 8 none rmZ [.ref (Y 0), .int (nI x), .int (nI f)] O A (fun r O' A' => r = none ∧ mW Y (rU ρ x (ρ x * f)) τ ex N O0 A0 O' A') := by
  obtain ⟨g, hg, hr⟩ := h.row
  refine (ct_X9_times hx hf h.obj hg (hr x hx).1 (by rw [(hr x hx).2]; exact hmax)).mono ?_
  rintro r O' A' ⟨rfl, rfl, H, rfl, hS⟩
  rw [(hr x hx).2] at hS
  exact ⟨rfl, h.set hx hr hS⟩
theorem m_plus (h : mW Y ρ τ ex N O0 A0 O A) (hx : x < 11) {f : Nat} (hf : f < 65536) (hmax : ρ x + f < 65536 ^ 80) : aMet l G base tA yX9_plus cX9_plus 6 none rmZ [.ref (Y 0), .int (nI x), .int (nI f)] O A (fun r O' A' => r = none ∧ mW Y (rU ρ x (ρ x + f)) τ ex N O0 A0 O' A') := by
  obtain ⟨g, hg, hr⟩ := h.row
  refine (ct_X9_plus hx hf h.obj hg (hr x hx).1 (by rw [(hr x hx).2]; exact hmax)).mono ?_
  rintro r O' A' ⟨rfl, rfl, H, rfl, hS⟩
  rw [(hr x hx).2] at hS
  exact ⟨rfl, h.set hx hr hS⟩
theorem m_add (h : mW Y ρ τ ex N O0 A0 O A) (hx : x < 11) (hy : y < 11) (hxy : x ≠ y) (hmax : ρ x + ρ y < 65536 ^ 80) : aMet l G base tA yX9_add cX9_add 6 none rmZ [.ref (Y 0), .int (nI x), .int (nI y)] O A (fun r O' A' => r = none ∧ mW Y (rU ρ x (ρ x + ρ y)) τ ex N O0 A0 O' A') := by
  obtain ⟨g, hg, hr⟩ := h.row
  refine (ct_X9_add hx hy hxy h.obj hg (hr x hx).1 (hr y hy).1 (by rw [(hr x hx).2, (hr y hy).2]; exact hmax)).mono ?_
  rintro r O' A' ⟨rfl, rfl, H, rfl, hS⟩
  rw [(hr x hx).2, (hr y hy).2] at hS
  exact ⟨rfl, h.set hx hr hS⟩
theorem m_less (h : mW Y ρ τ ex N O0 A0 O A) (hx : x < 11) (hy : y < 11) (hxy : x ≠ y) (hle : ρ y ≤ ρ x) : aMet l G base tA yX9_less cX9_less 6 none rmZ [.ref (Y 0), .int (nI x), .int (nI y)] O A (fun r O' A' => r = none ∧ mW Y (rU ρ x (ρ x - ρ y)) τ ex N O0 A0 O' A') := by
  obtain ⟨g, hg, hr⟩ := h.row
  refine (ct_X9_less hx hy hxy h.obj hg (hr x hx).1 (hr y hy).1 (by rw [(hr x hx).2, (hr y hy).2]; exact hle)).mono ?_
  rintro r O' A' ⟨rfl, rfl, H, rfl, hS⟩
  rw [(hr x hx).2, (hr y hy).2] at hS
  exact ⟨rfl, h.set hx hr hS⟩
theorem m_isZero (h : mW Y ρ τ ex N O0 A0 O A) (hx : x < 11) : aMet l G base tA yX9_isZero cX9_isZero 4 (some .boolean) rmZ [.ref (Y 0), .int (nI x)] O A (fun r O' A' => r = some (.int (bI (decide (ρ x = 0)))) ∧ O' = O ∧ A' = A) := by
  obtain ⟨g, hg, hr⟩ := h.row
  rw [← (hr x hx).2]
  exact ct_X9_isZero hx h.obj hg (hr x hx).1
theorem m_order (h : mW Y ρ τ ex N O0 A0 O A) (hx : x < 11) (hy : y < 11) : aMet l G base tA yX9_order cX9_order 6 (some .int) rmZ [.ref (Y 0), .int (nI x), .int (nI y)] O A (fun r O' A' => r = some (.int (cmpI (ρ x) (ρ y))) ∧ O' = O ∧ A' = A) := by
  obtain ⟨g, hg, hr⟩ := h.row
  rw [← (hr x hx).2, ← (hr y hy).2]
  exact ct_X9_order hx hy h.obj hg (hr x hx).1 (hr y hy).1
theorem m_bit (h : mW Y ρ τ ex N O0 A0 O A) (hx : x < 11) {k : Nat} (hk : k < 1280) : aMet l G base tA yX9_bit cX9_bit 3 (some .int) rmZ [.ref (Y 0), .int (nI x), .int (nI k)] O A (fun r O' A' => r = some (.int (nI (ρ x / 2 ^ k % 2))) ∧ O' = O ∧ A' = A) := by
  obtain ⟨g, hg, hr⟩ := h.row
  rw [← (hr x hx).2]
  exact ct_X9_bit hx hk h.obj hg (hr x hx).1
abbrev rmM1 : Room := { frames := 2, cells := 0, slots := 0, locals := 40 }
set_option maxHeartbeats 4000000 in
theorem m_small (h : mW Y ρ τ ex N O0 A0 O A) (hx : x < 11) {v : Nat} (hv : v < 65536) : aMet l G base tA yX9_small cX9_small 3 none rmM1 [.ref (Y 0), .int (nI x), .int (nI v)] O A (fun r O' A' => r = none ∧ mW Y (rU ρ x v) τ ex N O0 A0 O' A') := by
  refine aMet_of (ini := false) (B := aLook bkX9_small) (by decide) (fun h => by first | rfl | cases h) (Nat.le_of_ble_eq_true rfl) boX9_small ?_
  intro E J hb
  refine hb.run (aCuts [5] J) 60 0 _ _ _ _ _ _ (aCuts_ok _) ?_
  simp only [↓wpi_isub, ↓wpi_lsub, ↓wpi_ineg, ↓wpi_lneg, ↓wpi_irem, ↓wpi_lrem, ↓wpi_iinc, wp1, wp, wpl, wpi, lget, lput1, lput2, ltail, lkill, aV, aVl, aNth, aPut, aFz, aC0, aC2, aSw, aCat1, aCuts, aSet_eq, List.take, List.drop, List.reverse_cons, List.reverse_nil, List.nil_append, List.cons_append, List.length_cons, List.length_nil, Option.toList, true_and, and_true, Nat.reduceAdd, Nat.reduceEqDiff, Nat.reduceLT, Nat.reduceLeDiff, Nat.zero_add, Nat.add_zero, if_true, if_false, ite_true, ite_false, reduceIte, reduceCtorEq, true_or, or_true, not_true_eq_false, not_false_eq_true, false_and, and_false, true_implies, false_implies, not_false_eq_true, bqX9_small_0, blX9_small_0, bqX9_small_5, blX9_small_5, aArgs, List.replicate]
  refine ⟨_, _, _, _, hb.callV lvX9_36 (m_clear h hx) rfl h.obj (by decide) (by decide) (by decide), ?_, fun _ _ _ h => h.elim⟩
  rintro _ O1 A1 ⟨rfl, h1⟩
  obtain ⟨g, hg, hr⟩ := h1.row
  have e2 : vp_in (nI (80 * x)) 880 := vp_in_nI (by omega) (by decide)
  refine hb.run (aCuts [5] J) 60 5 _ _ _ _ _ _ (aCuts_ok _) ?_
  simp only [↓wpi_isub, ↓wpi_lsub, ↓wpi_ineg, ↓wpi_lneg, ↓wpi_irem, ↓wpi_lrem, ↓wpi_iinc, wp1, wp, wpl, wpi, lget, lput1, lput2, ltail, lkill, aV, aVl, aNth, aPut, aFz, aC0, aC2, aSw, aCat1, aCuts, aSet_eq, List.take, List.drop, List.reverse_cons, List.reverse_nil, List.nil_append, List.cons_append, List.length_cons, List.length_nil, Option.toList, true_and, and_true, Nat.reduceAdd, Nat.reduceEqDiff, Nat.reduceLT, Nat.reduceLeDiff, Nat.zero_add, Nat.add_zero, if_true, if_false, ite_true, ite_false, reduceIte, reduceCtorEq, true_or, or_true, not_true_eq_false, not_false_eq_true, false_and, and_false, true_implies, false_implies, not_false_eq_true, bqX9_small_0, blX9_small_0, bqX9_small_5, blX9_small_5, h1.obj, pk_mul, hg, e2, nI_clamp (show 80 * x < 2 ^ 31 by omega), nF_upd]
  have hz := mV_zero.mp ((hr x hx).2.trans rU_eq)
  have hS : rgS g (uN9 g (80 * x) v) x v := by
    have eu : rg (uN9 g (80 * x) v) x = uN9 (rg g x) 0 v := by have := rg_up (H := g) (x := x) (i := 0) (c := v); exact this
    refine ⟨fun k hk => ?_, ?_, fun j hj => uN9_ne (by omega)⟩
    · rw [eu]
      by_cases e : k = 0
      · rw [e, uN9_eq]; exact hv
      · rw [uN9_ne e]; exact (hr x hx).1 k hk
    · rw [eu]
      have h1 := mV_tail (h := uN9 (rg g x) 0 v) (k := rg g x) (i := 1) (n := 80) (by decide) (fun j j1 j2 => uN9_ne (by omega))
      have h2 : mV (rg g x) 1 = 0 := by rw [mV_s, hz 0 (by decide)]; rfl
      have h3 : mV (uN9 (rg g x) 0 v) 1 = v := by rw [mV_s, uN9_eq]; simp [mV]
      have h4 : mV (rg g x) 80 = 0 := (hr x hx).2.trans rU_eq
      omega
  have := h1.set hx hr hS
  rw [rU_rU] at this
  exact hb.vret ⟨rfl, this⟩ (by decide) (by decide)
set_option maxHeartbeats 4000000 in
theorem m_tens (h : mW Y ρ τ ex N O0 A0 O A) (hx : x < 11) {p : Nat} (hp : p < 10000) (hmax : ρ x * 10 ^ p < 65536 ^ 80) : aMet l G base tA yX9_tens cX9_tens 4 none rmM1 [.ref (Y 0), .int (nI x), .int (nI p)] O A (fun r O' A' => r = none ∧ mW Y (rU ρ x (ρ x * 10 ^ p)) τ ex N O0 A0 O' A') := by
  refine aMet_of (ini := false) (B := aLook bkX9_tens) (by decide) (fun h => by first | rfl | cases h) (Nat.le_of_ble_eq_true rfl) boX9_tens ?_
  intro E J hb
  have loop : ∀ (n i : Nat) (O1 : aO) (A1 : aA), p - i < n → i ≤ p → mW Y (rU ρ x (ρ x * 10 ^ i)) τ ex N O0 A0 O1 A1 → J 2 [some (.ref (Y 0)), some (.int (nI x)), some (.int (nI p)), some (.int (nI i))] [] O1 A1 0 0 := by
    intro n
    induction n with
    | zero => intro i O1 A1 hn; omega
    | succ n ih =>
      intro i O1 A1 hn hi h1
      refine hb.run (aCuts [2, 14] J) 60 2 _ _ _ _ _ _ (aCuts_ok _) ?_
      by_cases hlt : i < p
      · have e1 : (nI p ≤ nI i) = False := by rw [nI_leP (by omega) (by omega)]; simp; omega
        have hm : ρ x * 10 ^ (i + 1) ≤ ρ x * 10 ^ p := Nat.mul_le_mul_left _ (p10_le (by omega))
        have es : ρ x * 10 ^ i * 10 = ρ x * 10 ^ (i + 1) := by rw [Nat.mul_assoc, ← Nat.pow_succ]
        simp only [↓wpi_isub, ↓wpi_lsub, ↓wpi_ineg, ↓wpi_lneg, ↓wpi_irem, ↓wpi_lrem, ↓wpi_iinc, wp1, wp, wpl, wpi, lget, lput1, lput2, ltail, lkill, aV, aVl, aNth, aPut, aFz, aC0, aC2, aSw, aCat1, aCuts, aSet_eq, List.take, List.drop, List.reverse_cons, List.reverse_nil, List.nil_append, List.cons_append, List.length_cons, List.length_nil, Option.toList, true_and, and_true, Nat.reduceAdd, Nat.reduceEqDiff, Nat.reduceLT, Nat.reduceLeDiff, Nat.zero_add, Nat.add_zero, if_true, if_false, ite_true, ite_false, reduceIte, reduceCtorEq, true_or, or_true, not_true_eq_false, not_false_eq_true, false_and, and_false, true_implies, false_implies, not_false_eq_true, bqX9_tens_0, blX9_tens_0, bqX9_tens_2, blX9_tens_2, bqX9_tens_7, blX9_tens_7, bqX9_tens_14, blX9_tens_14, bqX9_tens_20, blX9_tens_20, e1]
        refine ⟨_, _, _, _, hb.callV lvX9_43 (m_times h1 hx (f := 10) (by decide) (by rw [rU_eq, es]; omega)) rfl h1.obj (by decide) (by decide) (by decide), ?_, fun _ _ _ h => h.elim⟩
        rintro _ O2 A2 ⟨rfl, h2⟩
        rw [rU_rU, rU_eq, es] at h2
        refine hb.run (aCuts [2, 14] J) 60 14 _ _ _ _ _ _ (aCuts_ok _) ?_
        simp only [↓wpi_isub, ↓wpi_lsub, ↓wpi_ineg, ↓wpi_lneg, ↓wpi_irem, ↓wpi_lrem, ↓wpi_iinc, wp1, wp, wpl, wpi, lget, lput1, lput2, ltail, lkill, aV, aVl, aNth, aPut, aFz, aC0, aC2, aSw, aCat1, aCuts, aSet_eq, List.take, List.drop, List.reverse_cons, List.reverse_nil, List.nil_append, List.cons_append, List.length_cons, List.length_nil, Option.toList, true_and, and_true, Nat.reduceAdd, Nat.reduceEqDiff, Nat.reduceLT, Nat.reduceLeDiff, Nat.zero_add, Nat.add_zero, if_true, if_false, ite_true, ite_false, reduceIte, reduceCtorEq, true_or, or_true, not_true_eq_false, not_false_eq_true, false_and, and_false, true_implies, false_implies, not_false_eq_true, bqX9_tens_0, blX9_tens_0, bqX9_tens_2, blX9_tens_2, bqX9_tens_7, blX9_tens_7, bqX9_tens_14, blX9_tens_14, bqX9_tens_20, blX9_tens_20, iInc_p]
        exact ih (i + 1) _ _ (by omega) (by omega) h2
      · have e1 : (nI p ≤ nI i) = True := by rw [nI_leP (by omega) (by omega)]; simp; omega
        obtain rfl : i = p := by omega
        simp only [↓wpi_isub, ↓wpi_lsub, ↓wpi_ineg, ↓wpi_lneg, ↓wpi_irem, ↓wpi_lrem, ↓wpi_iinc, wp1, wp, wpl, wpi, lget, lput1, lput2, ltail, lkill, aV, aVl, aNth, aPut, aFz, aC0, aC2, aSw, aCat1, aCuts, aSet_eq, List.take, List.drop, List.reverse_cons, List.reverse_nil, List.nil_append, List.cons_append, List.length_cons, List.length_nil, Option.toList, true_and, and_true, Nat.reduceAdd, Nat.reduceEqDiff, Nat.reduceLT, Nat.reduceLeDiff, Nat.zero_add, Nat.add_zero, if_true, if_false, ite_true, ite_false, reduceIte, reduceCtorEq, true_or, or_true, not_true_eq_false, not_false_eq_true, false_and, and_false, true_implies, false_implies, not_false_eq_true, bqX9_tens_0, blX9_tens_0, bqX9_tens_2, blX9_tens_2, bqX9_tens_7, blX9_tens_7, bqX9_tens_14, blX9_tens_14, bqX9_tens_20, blX9_tens_20, e1]
        exact hb.vret ⟨rfl, h1⟩ (by decide) (by decide)
  refine hb.run (aCuts [2, 14] J) 60 0 _ _ _ _ _ _ (aCuts_ok _) ?_
  simp only [↓wpi_isub, ↓wpi_lsub, ↓wpi_ineg, ↓wpi_lneg, ↓wpi_irem, ↓wpi_lrem, ↓wpi_iinc, wp1, wp, wpl, wpi, lget, lput1, lput2, ltail, lkill, aV, aVl, aNth, aPut, aFz, aC0, aC2, aSw, aCat1, aCuts, aSet_eq, List.take, List.drop, List.reverse_cons, List.reverse_nil, List.nil_append, List.cons_append, List.length_cons, List.length_nil, Option.toList, true_and, and_true, Nat.reduceAdd, Nat.reduceEqDiff, Nat.reduceLT, Nat.reduceLeDiff, Nat.zero_add, Nat.add_zero, if_true, if_false, ite_true, ite_false, reduceIte, reduceCtorEq, true_or, or_true, not_true_eq_false, not_false_eq_true, false_and, and_false, true_implies, false_implies, not_false_eq_true, bqX9_tens_0, blX9_tens_0, bqX9_tens_2, blX9_tens_2, bqX9_tens_7, blX9_tens_7, bqX9_tens_14, blX9_tens_14, bqX9_tens_20, blX9_tens_20, aArgs, List.replicate]
  refine loop (p + 1) 0 _ _ (by omega) (by omega) ?_
  rw [Nat.pow_zero, Nat.mul_one, rU_id]; exact h
set_option maxHeartbeats 4000000 in
theorem m_twice (h : mW Y ρ τ ex N O0 A0 O A) (hx : x < 11) {p : Nat} (hp : p < 10000) (hmax : ρ x * 2 ^ p < 65536 ^ 80) : aMet l G base tA yX9_twice cX9_twice 4 none rmM1 [.ref (Y 0), .int (nI x), .int (nI p)] O A (fun r O' A' => r = none ∧ mW Y (rU ρ x (ρ x * 2 ^ p)) τ ex N O0 A0 O' A') := by
  refine aMet_of (ini := false) (B := aLook bkX9_twice) (by decide) (fun h => by first | rfl | cases h) (Nat.le_of_ble_eq_true rfl) boX9_twice ?_
  intro E J hb
  have loop : ∀ (n i : Nat) (O1 : aO) (A1 : aA), p - i < n → i ≤ p → mW Y (rU ρ x (ρ x * 2 ^ i)) τ ex N O0 A0 O1 A1 → J 2 [some (.ref (Y 0)), some (.int (nI x)), some (.int (nI p)), some (.int (nI i))] [] O1 A1 0 0 := by
    intro n
    induction n with
    | zero => intro i O1 A1 hn; omega
    | succ n ih =>
      intro i O1 A1 hn hi h1
      refine hb.run (aCuts [2, 13] J) 60 2 _ _ _ _ _ _ (aCuts_ok _) ?_
      by_cases hlt : i < p
      · have e1 : (nI p ≤ nI i) = False := by rw [nI_leP (by omega) (by omega)]; simp; omega
        have hm : ρ x * 2 ^ (i + 1) ≤ ρ x * 2 ^ p := Nat.mul_le_mul_left _ (p2le (by omega))
        have es : ρ x * 2 ^ i * 2 = ρ x * 2 ^ (i + 1) := by rw [Nat.mul_assoc, ← Nat.pow_succ]
        simp only [↓wpi_isub, ↓wpi_lsub, ↓wpi_ineg, ↓wpi_lneg, ↓wpi_irem, ↓wpi_lrem, ↓wpi_iinc, wp1, wp, wpl, wpi, lget, lput1, lput2, ltail, lkill, aV, aVl, aNth, aPut, aFz, aC0, aC2, aSw, aCat1, aCuts, aSet_eq, List.take, List.drop, List.reverse_cons, List.reverse_nil, List.nil_append, List.cons_append, List.length_cons, List.length_nil, Option.toList, true_and, and_true, Nat.reduceAdd, Nat.reduceEqDiff, Nat.reduceLT, Nat.reduceLeDiff, Nat.zero_add, Nat.add_zero, if_true, if_false, ite_true, ite_false, reduceIte, reduceCtorEq, true_or, or_true, not_true_eq_false, not_false_eq_true, false_and, and_false, true_implies, false_implies, not_false_eq_true, bqX9_twice_0, blX9_twice_0, bqX9_twice_2, blX9_twice_2, bqX9_twice_7, blX9_twice_7, bqX9_twice_13, blX9_twice_13, bqX9_twice_19, blX9_twice_19, e1]
        refine ⟨_, _, _, _, hb.callV lvX9_43 (m_times h1 hx (f := 2) (by decide) (by rw [rU_eq, es]; omega)) rfl h1.obj (by decide) (by decide) (by decide), ?_, fun _ _ _ h => h.elim⟩
        rintro _ O2 A2 ⟨rfl, h2⟩
        rw [rU_rU, rU_eq, es] at h2
        refine hb.run (aCuts [2, 13] J) 60 13 _ _ _ _ _ _ (aCuts_ok _) ?_
        simp only [↓wpi_isub, ↓wpi_lsub, ↓wpi_ineg, ↓wpi_lneg, ↓wpi_irem, ↓wpi_lrem, ↓wpi_iinc, wp1, wp, wpl, wpi, lget, lput1, lput2, ltail, lkill, aV, aVl, aNth, aPut, aFz, aC0, aC2, aSw, aCat1, aCuts, aSet_eq, List.take, List.drop, List.reverse_cons, List.reverse_nil, List.nil_append, List.cons_append, List.length_cons, List.length_nil, Option.toList, true_and, and_true, Nat.reduceAdd, Nat.reduceEqDiff, Nat.reduceLT, Nat.reduceLeDiff, Nat.zero_add, Nat.add_zero, if_true, if_false, ite_true, ite_false, reduceIte, reduceCtorEq, true_or, or_true, not_true_eq_false, not_false_eq_true, false_and, and_false, true_implies, false_implies, not_false_eq_true, bqX9_twice_0, blX9_twice_0, bqX9_twice_2, blX9_twice_2, bqX9_twice_7, blX9_twice_7, bqX9_twice_13, blX9_twice_13, bqX9_twice_19, blX9_twice_19, iInc_p]
        exact ih (i + 1) _ _ (by omega) (by omega) h2
      · have e1 : (nI p ≤ nI i) = True := by rw [nI_leP (by omega) (by omega)]; simp; omega
        obtain rfl : i = p := by omega
        simp only [↓wpi_isub, ↓wpi_lsub, ↓wpi_ineg, ↓wpi_lneg, ↓wpi_irem, ↓wpi_lrem, ↓wpi_iinc, wp1, wp, wpl, wpi, lget, lput1, lput2, ltail, lkill, aV, aVl, aNth, aPut, aFz, aC0, aC2, aSw, aCat1, aCuts, aSet_eq, List.take, List.drop, List.reverse_cons, List.reverse_nil, List.nil_append, List.cons_append, List.length_cons, List.length_nil, Option.toList, true_and, and_true, Nat.reduceAdd, Nat.reduceEqDiff, Nat.reduceLT, Nat.reduceLeDiff, Nat.zero_add, Nat.add_zero, if_true, if_false, ite_true, ite_false, reduceIte, reduceCtorEq, true_or, or_true, not_true_eq_false, not_false_eq_true, false_and, and_false, true_implies, false_implies, not_false_eq_true, bqX9_twice_0, blX9_twice_0, bqX9_twice_2, blX9_twice_2, bqX9_twice_7, blX9_twice_7, bqX9_twice_13, blX9_twice_13, bqX9_twice_19, blX9_twice_19, e1]
        exact hb.vret ⟨rfl, h1⟩ (by decide) (by decide)
  refine hb.run (aCuts [2, 13] J) 60 0 _ _ _ _ _ _ (aCuts_ok _) ?_
  simp only [↓wpi_isub, ↓wpi_lsub, ↓wpi_ineg, ↓wpi_lneg, ↓wpi_irem, ↓wpi_lrem, ↓wpi_iinc, wp1, wp, wpl, wpi, lget, lput1, lput2, ltail, lkill, aV, aVl, aNth, aPut, aFz, aC0, aC2, aSw, aCat1, aCuts, aSet_eq, List.take, List.drop, List.reverse_cons, List.reverse_nil, List.nil_append, List.cons_append, List.length_cons, List.length_nil, Option.toList, true_and, and_true, Nat.reduceAdd, Nat.reduceEqDiff, Nat.reduceLT, Nat.reduceLeDiff, Nat.zero_add, Nat.add_zero, if_true, if_false, ite_true, ite_false, reduceIte, reduceCtorEq, true_or, or_true, not_true_eq_false, not_false_eq_true, false_and, and_false, true_implies, false_implies, not_false_eq_true, bqX9_twice_0, blX9_twice_0, bqX9_twice_2, blX9_twice_2, bqX9_twice_7, blX9_twice_7, bqX9_twice_13, blX9_twice_13, bqX9_twice_19, blX9_twice_19, aArgs, List.replicate]
  refine loop (p + 1) 0 _ _ (by omega) (by omega) ?_
  rw [Nat.pow_zero, Nat.mul_one, rU_id]; exact h
set_option maxHeartbeats 4000000 in
theorem m_length (h : mW Y ρ τ ex N O0 A0 O A) (hx : x < 11) : aMet l G base tA yX9_length cX9_length 3 (some .int) rmM1 [.ref (Y 0), .int (nI x)] O A (fun r O' A' => r = some (.int (nI (blen (ρ x)))) ∧ O' = O ∧ A' = A) := by
  refine aMet_of (ini := false) (B := aLook bkX9_length) (by decide) (fun h => by first | rfl | cases h) (Nat.le_of_ble_eq_true rfl) boX9_length ?_
  intro E J hb
  obtain ⟨V, hV⟩ : ∃ V, V = ρ x := ⟨_, rfl⟩
  rw [← hV] at hb
  have loop : ∀ (k : Nat), k ≤ 1280 → V < 2 ^ k → J 4 [some (.ref (Y 0)), some (.int (nI x)), some (.int (nI k))] [] O A 0 0 := by
    intro k
    induction k with
    | zero =>
      intro hk hv
      have e1 : (nI 0 ≤ 0) = True := by rw [nI_0]; simp
      refine hb.run (aCuts [4, 16] J) 60 4 _ _ _ _ _ _ (aCuts_ok _) ?_
      simp only [↓wpi_isub, ↓wpi_lsub, ↓wpi_ineg, ↓wpi_lneg, ↓wpi_irem, ↓wpi_lrem, ↓wpi_iinc, wp1, wp, wpl, wpi, lget, lput1, lput2, ltail, lkill, aV, aVl, aNth, aPut, aFz, aC0, aC2, aSw, aCat1, aCuts, aSet_eq, List.take, List.drop, List.reverse_cons, List.reverse_nil, List.nil_append, List.cons_append, List.length_cons, List.length_nil, Option.toList, true_and, and_true, Nat.reduceAdd, Nat.reduceEqDiff, Nat.reduceLT, Nat.reduceLeDiff, Nat.zero_add, Nat.add_zero, if_true, if_false, ite_true, ite_false, reduceIte, reduceCtorEq, true_or, or_true, not_true_eq_false, not_false_eq_true, false_and, and_false, true_implies, false_implies, not_false_eq_true, bqX9_length_0, blX9_length_0, bqX9_length_4, blX9_length_4, bqX9_length_8, blX9_length_8, bqX9_length_16, blX9_length_16, bqX9_length_19, blX9_length_19, bqX9_length_25, blX9_length_25, e1]
      refine hb.iret (nar_i _) ⟨?_, rfl, rfl⟩ (by decide) (by decide)
      have : V = 0 := by rw [Nat.pow_zero] at hv; omega
      rw [this, blen_0]
    | succ i ih =>
      intro hk hv
      have e1 : (nI (i + 1) ≤ 0) = False := by rw [nI_lez (by omega)]; simp
      refine hb.run (aCuts [4, 16] J) 60 4 _ _ _ _ _ _ (aCuts_ok _) ?_
      simp only [↓wpi_isub, ↓wpi_lsub, ↓wpi_ineg, ↓wpi_lneg, ↓wpi_irem, ↓wpi_lrem, ↓wpi_iinc, wp1, wp, wpl, wpi, lget, lput1, lput2, ltail, lkill, aV, aVl, aNth, aPut, aFz, aC0, aC2, aSw, aCat1, aCuts, aSet_eq, List.take, List.drop, List.reverse_cons, List.reverse_nil, List.nil_append, List.cons_append, List.length_cons, List.length_nil, Option.toList, true_and, and_true, Nat.reduceAdd, Nat.reduceEqDiff, Nat.reduceLT, Nat.reduceLeDiff, Nat.zero_add, Nat.add_zero, if_true, if_false, ite_true, ite_false, reduceIte, reduceCtorEq, true_or, or_true, not_true_eq_false, not_false_eq_true, false_and, and_false, true_implies, false_implies, not_false_eq_true, bqX9_length_0, blX9_length_0, bqX9_length_4, blX9_length_4, bqX9_length_8, blX9_length_8, bqX9_length_16, blX9_length_16, bqX9_length_19, blX9_length_19, bqX9_length_25, blX9_length_25, e1, iSub_nn (show 1 ≤ i + 1 by omega), Nat.add_sub_cancel]
      refine ⟨_, _, _, _, hb.callV lvX9_50 (m_bit h hx (k := i) (by omega)) rfl h.obj (by decide) (by decide) (by decide), ?_, fun _ _ _ h => h.elim⟩
      rintro _ O A ⟨rfl, rfl, rfl⟩
      rw [← hV]
      refine hb.run (aCuts [4, 16] J) 60 16 _ _ _ _ _ _ (aCuts_ok _) ?_
      have hd : V / 2 ^ i < 2 := by rw [Nat.div_lt_iff_lt_mul (Nat.two_pow_pos _), Nat.mul_comm, ← Nat.pow_succ]; exact hv
      by_cases hb0 : V / 2 ^ i = 0
      · have e2 : (nI (V / 2 ^ i % 2) = 0) = True := by rw [hb0, Nat.zero_mod, nI_0]; simp
        simp only [↓wpi_isub, ↓wpi_lsub, ↓wpi_ineg, ↓wpi_lneg, ↓wpi_irem, ↓wpi_lrem, ↓wpi_iinc, wp1, wp, wpl, wpi, lget, lput1, lput2, ltail, lkill, aV, aVl, aNth, aPut, aFz, aC0, aC2, aSw, aCat1, aCuts, aSet_eq, List.take, List.drop, List.reverse_cons, List.reverse_nil, List.nil_append, List.cons_append, List.length_cons, List.length_nil, Option.toList, true_and, and_true, Nat.reduceAdd, Nat.reduceEqDiff, Nat.reduceLT, Nat.reduceLeDiff, Nat.zero_add, Nat.add_zero, if_true, if_false, ite_true, ite_false, reduceIte, reduceCtorEq, true_or, or_true, not_true_eq_false, not_false_eq_true, false_and, and_false, true_implies, false_implies, not_false_eq_true, bqX9_length_0, blX9_length_0, bqX9_length_4, blX9_length_4, bqX9_length_8, blX9_length_8, bqX9_length_16, blX9_length_16, bqX9_length_19, blX9_length_19, bqX9_length_25, blX9_length_25, e2, iInc_m (show 0 < i + 1 by omega), Nat.add_sub_cancel]
        refine ih (by omega) ?_
        rcases Nat.lt_or_ge V (2 ^ i) with q | q
        · exact q
        · have := Nat.div_pos q (Nat.two_pow_pos i); omega
      · have e3 : V / 2 ^ i % 2 = 1 := by generalize V / 2 ^ i = w at hd hb0 ⊢; omega
        have e2 : (nI (V / 2 ^ i % 2) = 0) = False := by rw [e3]; exact n1_0
        simp only [↓wpi_isub, ↓wpi_lsub, ↓wpi_ineg, ↓wpi_lneg, ↓wpi_irem, ↓wpi_lrem, ↓wpi_iinc, wp1, wp, wpl, wpi, lget, lput1, lput2, ltail, lkill, aV, aVl, aNth, aPut, aFz, aC0, aC2, aSw, aCat1, aCuts, aSet_eq, List.take, List.drop, List.reverse_cons, List.reverse_nil, List.nil_append, List.cons_append, List.length_cons, List.length_nil, Option.toList, true_and, and_true, Nat.reduceAdd, Nat.reduceEqDiff, Nat.reduceLT, Nat.reduceLeDiff, Nat.zero_add, Nat.add_zero, if_true, if_false, ite_true, ite_false, reduceIte, reduceCtorEq, true_or, or_true, not_true_eq_false, not_false_eq_true, false_and, and_false, true_implies, false_implies, not_false_eq_true, bqX9_length_0, blX9_length_0, bqX9_length_4, blX9_length_4, bqX9_length_8, blX9_length_8, bqX9_length_16, blX9_length_16, bqX9_length_19, blX9_length_19, bqX9_length_25, blX9_length_25, e2]
        refine hb.iret (nar_i _) ⟨?_, rfl, rfl⟩ (by decide) (by decide)
        have h1 : 2 ^ i ≤ V := by
          rcases Nat.lt_or_ge V (2 ^ i) with q | q
          · exact absurd (Nat.div_eq_of_lt q) hb0
          · exact q
        rw [blen_of h1 hv]
  refine hb.run (aCuts [4, 16] J) 60 0 _ _ _ _ _ _ (aCuts_ok _) ?_
  simp only [↓wpi_isub, ↓wpi_lsub, ↓wpi_ineg, ↓wpi_lneg, ↓wpi_irem, ↓wpi_lrem, ↓wpi_iinc, wp1, wp, wpl, wpi, lget, lput1, lput2, ltail, lkill, aV, aVl, aNth, aPut, aFz, aC0, aC2, aSw, aCat1, aCuts, aSet_eq, List.take, List.drop, List.reverse_cons, List.reverse_nil, List.nil_append, List.cons_append, List.length_cons, List.length_nil, Option.toList, true_and, and_true, Nat.reduceAdd, Nat.reduceEqDiff, Nat.reduceLT, Nat.reduceLeDiff, Nat.zero_add, Nat.add_zero, if_true, if_false, ite_true, ite_false, reduceIte, reduceCtorEq, true_or, or_true, not_true_eq_false, not_false_eq_true, false_and, and_false, true_implies, false_implies, not_false_eq_true, bqX9_length_0, blX9_length_0, bqX9_length_4, blX9_length_4, bqX9_length_8, blX9_length_8, bqX9_length_16, blX9_length_16, bqX9_length_19, blX9_length_19, bqX9_length_25, blX9_length_25, aArgs, List.replicate]
  refine loop 1280 (by omega) ?_
  have := h.lt hx
  rw [hV]
  exact Nat.lt_of_lt_of_le this (by rw [show (65536 : Nat) = 2 ^ 16 from rfl, ← Nat.pow_mul]; exact Nat.le_refl _)
end MW
