/-! ===== the reference: loadFloat ===== -/
def fEx (u w : Nat) : Nat := if w / 2 ^ fS u = 0 then 1 else w / 2 ^ fS u
def fMn (u w : Nat) : Nat := w % 2 ^ fS u + if w / 2 ^ fS u = 0 then 0 else 2 ^ fS u
def fF (u w : Nat) : Nat := fMn u w * 2 ^ fEx u w
theorem fF_mono {u w w' : Nat} (h : w ≤ w') : fF u w ≤ fF u w' := by
  unfold fF fMn fEx
  obtain ⟨P, hP⟩ : ∃ P, P = 2 ^ fS u := ⟨_, rfl⟩
  rw [← hP]
  have hp : 0 < P := by rw [hP]; exact Nat.two_pow_pos _
  have d1 := Nat.div_add_mod w P
  have d2 := Nat.div_add_mod w' P
  have m1 := Nat.mod_lt w hp
  have m2 := Nat.mod_lt w' hp
  have hle : w / P ≤ w' / P := Nat.div_le_div_right h
  generalize w / P = e at d1 hle ⊢
  generalize w' / P = e' at d2 hle ⊢
  generalize w % P = m at d1 m1 ⊢
  generalize w' % P = m' at d2 m2 ⊢
  by_cases he : e = e'
  · subst he
    have : m ≤ m' := by omega
    exact Nat.mul_le_mul_right _ (Nat.add_le_add_right this _)
  · have h1 : (m + if e = 0 then 0 else P) * 2 ^ (if e = 0 then 1 else e) ≤ P * 2 ^ (e + 1) := by
      split
      · rename_i q; subst q; exact Nat.mul_le_mul_right _ (by omega)
      · rw [Nat.pow_succ, Nat.mul_comm (2 ^ e) 2, ← Nat.mul_assoc]; exact Nat.mul_le_mul_right _ (by omega)
    have h2 : P * 2 ^ (e + 1) ≤ (m' + if e' = 0 then 0 else P) * 2 ^ (if e' = 0 then 1 else e') := by
      rw [if_neg (by omega), if_neg (by omega)]
      exact Nat.mul_le_mul (by omega) (Nat.pow_le_pow_right (by decide) (by omega))
    exact Nat.le_trans h1 h2
theorem fLE_pos {u : Nat} : 0 < fLeast u ∧ fLeast u < fEnd u := by unfold fLeast fEnd; split <;> decide
theorem fm_iff {u w : Nat} (hu : u = 9 ∨ u = 10) : fG u w ↔ w = 0 ∨ (2 ^ fX u ≤ fF u w * 10 ^ 31 ∧ fF u w < 10 ^ 31 * 2 ^ fX u) := by
  have hp := fLE_pos (u := u)
  have n1 : 2 ^ fX u ≤ fF u (fLeast u) * 10 ^ 31 := by rcases hu with e | e <;> subst e <;> decide +kernel
  have n2 : fF u (fLeast u - 1) * 10 ^ 31 < 2 ^ fX u := by rcases hu with e | e <;> subst e <;> decide +kernel
  have n3 : fF u (fEnd u - 1) < 10 ^ 31 * 2 ^ fX u := by rcases hu with e | e <;> subst e <;> decide +kernel
  have n4 : 10 ^ 31 * 2 ^ fX u ≤ fF u (fEnd u) := by rcases hu with e | e <;> subst e <;> decide +kernel
  unfold fG
  constructor
  · rintro (q | ⟨q1, q2⟩)
    · exact Or.inl q
    · refine Or.inr ⟨Nat.le_trans n1 (Nat.mul_le_mul_right _ (fF_mono q1)), Nat.lt_of_le_of_lt (fF_mono (show w ≤ fEnd u - 1 by omega)) n3⟩
  · rintro (q | ⟨q1, q2⟩)
    · exact Or.inl q
    · refine Or.inr ⟨?_, ?_⟩
      · refine Nat.le_of_not_lt fun q => ?_
        exact absurd (Nat.le_trans q1 (Nat.mul_le_mul_right _ (fF_mono (show w ≤ fLeast u - 1 by omega)))) (Nat.not_le.mpr n2)
      · refine Nat.lt_of_not_le fun q => ?_
        exact absurd (Nat.lt_of_lt_of_le q2 (Nat.le_trans n4 (fF_mono q))) (Nat.lt_irrefl _)
theorem fmid {M e x t : Nat} : (2 ^ (x - e) ≤ M * 2 ^ (e - x) * t ∧ M * 2 ^ (e - x) < 2 ^ (x - e) * t) ↔ (2 ^ x ≤ M * 2 ^ e * t ∧ M * 2 ^ e < t * 2 ^ x) := by
  rcases Nat.le_total x e with q | q
  · obtain ⟨r, rfl⟩ := Nat.exists_eq_add_of_le q
    have p := Nat.two_pow_pos x
    rw [show x - (x + r) = 0 by omega, show x + r - x = r by omega, Nat.pow_add, Nat.pow_zero, Nat.one_mul]
    rw [show M * (2 ^ x * 2 ^ r) = M * 2 ^ r * 2 ^ x by rw [Nat.mul_assoc, Nat.mul_comm (2 ^ r)]]
    have e1 : 2 ^ x ≤ M * 2 ^ r * 2 ^ x * t ↔ 1 ≤ M * 2 ^ r * t := by
      rw [Nat.mul_right_comm _ (2 ^ x) t]
      have := Nat.mul_le_mul_right_iff (n := 1) (m := M * 2 ^ r * t) p
      rw [Nat.one_mul] at this; exact this
    rw [e1, Nat.mul_lt_mul_right p]
  · obtain ⟨r, rfl⟩ := Nat.exists_eq_add_of_le q
    have p := Nat.two_pow_pos e
    rw [show e + r - e = r by omega, show e - (e + r) = 0 by omega, Nat.pow_add, Nat.pow_zero, Nat.mul_one]
    have e1 : 2 ^ e * 2 ^ r ≤ M * 2 ^ e * t ↔ 2 ^ r ≤ M * t := by
      rw [Nat.mul_right_comm M, Nat.mul_comm (2 ^ e)]; exact Nat.mul_le_mul_right_iff p
    have e2 : M * 2 ^ e < t * (2 ^ e * 2 ^ r) ↔ M < 2 ^ r * t := by
      rw [show t * (2 ^ e * 2 ^ r) = 2 ^ r * t * 2 ^ e by rw [Nat.mul_comm (2 ^ r) t, Nat.mul_assoc, Nat.mul_comm (2 ^ r)]]
      exact Nat.mul_lt_mul_right p
    rw [e1, e2]
theorem fS_lt {u w : Nat} : fMn u w < 2 ^ 53 ∧ 2 ^ fS u ≤ 2 ^ 52 := by
  have hs : 2 ^ fS u ≤ 2 ^ 52 := Nat.pow_le_pow_right (by decide) (by unfold fS; split <;> decide)
  have := Nat.mod_lt w (Nat.two_pow_pos (fS u))
  refine ⟨?_, hs⟩
  unfold fMn
  split <;> omega
/-- far outside -/
theorem f_far {u w : Nat} (hM : fMn u w ≠ 0) (h : fX u + 110 < fEx u w ∨ fEx u w + 260 < fX u) : ¬ (2 ^ fX u ≤ fF u w * 10 ^ 31 ∧ fF u w < 10 ^ 31 * 2 ^ fX u) := by
  rintro ⟨q1, q2⟩
  rcases h with h | h
  · have h1 : 2 ^ (fX u + 111) ≤ 2 ^ fEx u w := Nat.pow_le_pow_right (by decide) (by omega)
    have h2 : 2 ^ fEx u w ≤ fF u w := by unfold fF; exact Nat.le_mul_of_pos_left _ (by omega)
    rw [Nat.pow_add] at h1
    have h3 : 10 ^ 31 * 2 ^ fX u ≤ 2 ^ fX u * 2 ^ 111 := by rw [Nat.mul_comm]; exact Nat.mul_le_mul_left _ (by decide +kernel)
    omega
  · have hM2 := (fS_lt (u := u) (w := w)).1
    have h1 : fF u w * 10 ^ 31 < 2 ^ 53 * 2 ^ fEx u w * 2 ^ 103 := by
      unfold fF
      have a : fMn u w * 2 ^ fEx u w < 2 ^ 53 * 2 ^ fEx u w := Nat.mul_lt_mul_of_pos_right hM2 (Nat.two_pow_pos _)
      have b : fMn u w * 2 ^ fEx u w * 10 ^ 31 ≤ fMn u w * 2 ^ fEx u w * 2 ^ 103 := Nat.mul_le_mul_left _ (by decide +kernel)
      exact Nat.lt_of_le_of_lt b (Nat.mul_lt_mul_of_pos_right a (Nat.two_pow_pos _))
    have h2 : 2 ^ 53 * 2 ^ fEx u w * 2 ^ 103 = 2 ^ (53 + fEx u w + 103) := by rw [Nat.pow_add, Nat.pow_add]
    have h3 : 2 ^ (53 + fEx u w + 103) ≤ 2 ^ fX u := Nat.pow_le_pow_right (by decide) (by omega)
    omega
def fQ (b : Nat → Nat) (c : Nat) : Nat → Nat := fun i => if i = 0 then 0 else if i = 1 then c else b i
theorem f_4 {b : Nat → Nat} (h8 : ∀ i, b i < 256) : ∃ T, T < 65536 ∧ (∀ c, bvv (fQ b c) 4 = c * 65536 + T) ∧ fBt b 4 = (b 0 % 128 * 256 + b 1) * 65536 + T := by
  have g2 := h8 2
  have g3 := h8 3
  refine ⟨b 2 * 256 + b 3, by omega, fun c => ?_, ?_⟩
  · simp only [bvv, fQ, Nat.reduceEqDiff, if_true, if_false]
    omega
  · unfold fBt
    simp only [bvv, fDg, Nat.reduceEqDiff, if_true, if_false]
    omega
theorem f_8 {b : Nat → Nat} (h8 : ∀ i, b i < 256) : ∃ T, T < 281474976710656 ∧ (∀ c, bvv (fQ b c) 8 = c * 281474976710656 + T) ∧ fBt b 8 = (b 0 % 128 * 256 + b 1) * 281474976710656 + T := by
  have g2 := h8 2
  have g3 := h8 3
  have g4 := h8 4
  have g5 := h8 5
  have g6 := h8 6
  have g7 := h8 7
  refine ⟨b 2 * 1099511627776 + b 3 * 4294967296 + b 4 * 16777216 + b 5 * 65536 + b 6 * 256 + b 7, by omega, fun c => ?_, ?_⟩
  · simp only [bvv, fQ, Nat.reduceEqDiff, if_true, if_false]
    omega
  · unfold fBt
    simp only [bvv, fDg, Nat.reduceEqDiff, if_true, if_false]
    omega
def fH (u : Nat) : Nat := if u = 9 then 128 else 16
def fEb (u : Nat) (b : Nat → Nat) : Nat := b 0 % 128 * (256 / fH u) + b 1 / fH u
def fMh (u : Nat) (b : Nat → Nat) : Nat := b 1 % fH u + if fEb u b = 0 then 0 else fH u
theorem f_c9 : fH 9 = 128 ∧ fS 9 = 23 ∧ fX 9 = 150 := ⟨rfl, rfl, rfl⟩
theorem f_c10 : fH 10 = 16 ∧ fS 10 = 52 ∧ fX 10 = 1075 := ⟨rfl, rfl, rfl⟩
theorem f_p9 : 2 ^ fS 9 = 8388608 := by rw [f_c9.2.1]
theorem f_p10 : 2 ^ fS 10 = 4503599627370496 := by rw [f_c10.2.1]
theorem fEb9 {b : Nat → Nat} : fEb 9 b = b 0 % 128 * 2 + b 1 / 128 := by unfold fEb; rw [f_c9.1]
theorem fEb10 {b : Nat → Nat} : fEb 10 b = b 0 % 128 * 16 + b 1 / 16 := by unfold fEb; rw [f_c10.1]
theorem sz9 {d : Nat} : szOf 9 d = 4 := by unfold szOf; simp
theorem sz10 {d : Nat} : szOf 10 d = 8 := by unfold szOf; simp
/-- what the reference's loop makes of the bytes -/
theorem f_w {u d : Nat} {b : Nat → Nat} (hu : u = 9 ∨ u = 10) (h8 : ∀ i, b i < 256) : fBt b (szOf u d) / 2 ^ fS u = fEb u b ∧ bvv (fQ b (fMh u b)) (szOf u d) = fMn u (fBt b (szOf u d)) := by
  have g0 := h8 0
  have g1 := h8 1
  rcases hu with e | e
  · subst e
    obtain ⟨T, hT, h1, h2⟩ := f_4 h8
    rw [sz9, h1, h2]
    have hd : ((b 0 % 128 * 256 + b 1) * 65536 + T) / 2 ^ fS 9 = fEb 9 b := by
      rw [f_p9, fEb9]; omega
    refine ⟨hd, ?_⟩
    unfold fMn fMh
    rw [hd, f_p9, f_c9.1]
    by_cases q : fEb 9 b = 0
    · rw [if_pos q, if_pos q]; rw [fEb9] at q; omega
    · rw [if_neg q, if_neg q]; omega
  · subst e
    obtain ⟨T, hT, h1, h2⟩ := f_8 h8
    rw [sz10, h1, h2]
    have hd : ((b 0 % 128 * 256 + b 1) * 281474976710656 + T) / 2 ^ fS 10 = fEb 10 b := by
      rw [f_p10, fEb10]; omega
    refine ⟨hd, ?_⟩
    unfold fMn fMh
    rw [hd, f_p10, f_c10.1]
    by_cases q : fEb 10 b = 0
    · rw [if_pos q, if_pos q]; rw [fEb10] at q; omega
    · rw [if_neg q, if_neg q]; omega
