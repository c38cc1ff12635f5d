/-! ===== the reference: numbers for nearest and storeFloat ===== -/
theorem fr_eq {A' D' A X : Nat} (hD : 0 < D') (hX : 0 < X) (h : A' * X = A * D') : A' / D' = A / X ∧ (A' % D') * X = (A % X) * D' := by
  refine ⟨?_, ?_⟩
  · rw [← Nat.mul_div_mul_right A' D' hX, h, Nat.mul_comm D' X, Nat.mul_div_mul_right A X hD]
  · rw [← Nat.mul_mod_mul_right, h, Nat.mul_comm D' X, Nat.mul_mod_mul_right]
def rA (P : Int) (x : Nat) : Nat := x * 2 ^ (-P).toNat
def rD (P : Int) (y : Nat) : Nat := y * 2 ^ P.toNat
theorem rD_pos {P : Int} {y : Nat} (h : y ≠ 0) : 0 < rD P y := Nat.mul_pos (by omega) (Nat.two_pow_pos _)
theorem rAD (P : Int) (j x y : Nat) : rA (P + j) x * (rD P y * 2 ^ j) = rA P x * rD (P + j) y := by
  unfold rA rD
  have e : (-(P + j)).toNat + (P.toNat + j) = (-P).toNat + (P + j).toNat := by omega
  have h1 : 2 ^ (-(P + j)).toNat * (2 ^ P.toNat * 2 ^ j) = 2 ^ (-P).toNat * 2 ^ (P + j).toNat := by
    rw [← Nat.pow_add, ← Nat.pow_add, ← Nat.pow_add, e]
  calc x * 2 ^ (-(P + j)).toNat * (y * 2 ^ P.toNat * 2 ^ j) = x * y * (2 ^ (-(P + j)).toNat * (2 ^ P.toNat * 2 ^ j)) := by ac_rfl
    _ = x * y * (2 ^ (-P).toNat * 2 ^ (P + j).toNat) := by rw [h1]
    _ = x * 2 ^ (-P).toNat * (y * 2 ^ (P + j).toNat) := by ac_rfl
theorem near_q {p x y : Nat} (hy : y ≠ 0) (j : Nat) : rA (nE p x y + j) x / rD (nE p x y + j) y = nQ p x y / 2 ^ j ∧ rA (nE p x y + j) x % rD (nE p x y + j) y * (nD p x y * 2 ^ j) = (nR p x y + nD p x y * (nQ p x y % 2 ^ j)) * rD (nE p x y + j) y := by
  have hD : 0 < nD p x y := rD_pos (P := nE p x y) hy
  have h := rAD (nE p x y) j x y
  have hX : 0 < nD p x y * 2 ^ j := Nat.mul_pos hD (Nat.two_pow_pos _)
  obtain ⟨h1, h2⟩ := fr_eq (rD_pos hy) hX h
  refine ⟨?_, ?_⟩
  · rw [h1]; unfold nQ; rw [Nat.div_div_eq_div_mul]; rfl
  · rw [h2]; congr 1
    have := @Nat.mod_mul (nD p x y) (2 ^ j) (rA (nE p x y) x)
    exact this
theorem near_0 {p x y : Nat} (hy : y ≠ 0) (j : Nat) : rA (nE p x y + j) x % rD (nE p x y + j) y = 0 ↔ (nQ p x y % 2 ^ j = 0 ∧ nR p x y = 0) := by
  obtain ⟨-, h2⟩ := near_q (p := p) (x := x) hy j
  have hD : 0 < nD p x y := rD_pos (P := nE p x y) hy
  have hX : 0 < nD p x y * 2 ^ j := Nat.mul_pos hD (Nat.two_pow_pos _)
  have hD' : 0 < rD (nE p x y + j) y := rD_pos hy
  generalize rA (nE p x y + j) x % rD (nE p x y + j) y = r at h2 ⊢
  generalize rD (nE p x y + j) y = D' at h2 hD'
  generalize nD p x y * 2 ^ j = X at h2 hX
  constructor
  · intro e
    rw [e, Nat.zero_mul] at h2
    have := (Nat.mul_eq_zero.mp h2.symm).resolve_right (by omega)
    have h3 : nD p x y * (nQ p x y % 2 ^ j) = 0 := by omega
    exact ⟨(Nat.mul_eq_zero.mp h3).resolve_left (by omega), by omega⟩
  · rintro ⟨e1, e2⟩
    rw [e1, e2, Nat.mul_zero, Nat.add_zero, Nat.zero_mul] at h2
    exact (Nat.mul_eq_zero.mp h2).resolve_right (by omega)
theorem near_cmp {p x y : Nat} (hy : y ≠ 0) {e : Nat} (he : 1 ≤ e) : (rD (nE p x y + e) y < rA (nE p x y + e) x % rD (nE p x y + e) y * 2 ↔ (2 ^ (e - 1) < nQ p x y % 2 ^ e ∨ (nQ p x y % 2 ^ e = 2 ^ (e - 1) ∧ nR p x y ≠ 0))) ∧ (rA (nE p x y + e) x % rD (nE p x y + e) y * 2 = rD (nE p x y + e) y ↔ (nQ p x y % 2 ^ e = 2 ^ (e - 1) ∧ nR p x y = 0)) := by
  obtain ⟨-, h2⟩ := near_q (p := p) (x := x) hy e
  have hD : 0 < nD p x y := rD_pos (P := nE p x y) hy
  have hR : nR p x y < nD p x y := Nat.mod_lt _ hD
  have hD' : 0 < rD (nE p x y + e) y := rD_pos hy
  have he2 : 2 ^ e = 2 * 2 ^ (e - 1) := by rw [← Nat.pow_succ']; congr 1; omega
  have hh := Nat.two_pow_pos (e - 1)
  rw [he2] at h2 ⊢
  generalize nQ p x y % (2 * 2 ^ (e - 1)) = w at h2 ⊢
  generalize 2 ^ (e - 1) = t at h2 hh ⊢
  generalize rA (nE p x y + e) x % rD (nE p x y + e) y = r at h2 ⊢
  generalize rD (nE p x y + e) y = D' at h2 hD' ⊢
  generalize nR p x y = R at h2 hR ⊢
  generalize nD p x y = D at h2 hR hD
  -- r * (D * (2 t)) = (R + D w) D'
  have h3 : r * 2 * (D * t) = (R + D * w) * D' := by rw [← h2]; ac_rfl
  have hDt : 0 < D * t := Nat.mul_pos hD hh
  have k1 : D' < r * 2 ↔ D * t < R + D * w := by
    have a := Nat.mul_lt_mul_right (b := D') (c := r * 2) hDt
    have b := Nat.mul_lt_mul_right (b := D * t) (c := R + D * w) hD'
    rw [← a, ← b, h3, Nat.mul_comm D' (D * t)]
  have k2 : r * 2 = D' ↔ R + D * w = D * t := by
    constructor
    · intro q; rw [q, Nat.mul_comm D' (D * t)] at h3
      exact (Nat.eq_of_mul_eq_mul_right hD' h3).symm
    · intro q; rw [q, Nat.mul_comm (D * t) D'] at h3
      exact Nat.eq_of_mul_eq_mul_right hDt h3
  rw [k1, k2]
  rcases Nat.lt_trichotomy w t with q | q | q
  · have : D * (w + 1) ≤ D * t := Nat.mul_le_mul_left _ q
    rw [Nat.mul_add, Nat.mul_one] at this
    exact ⟨⟨fun _ => by omega, fun _ => by omega⟩, ⟨fun _ => by omega, fun _ => by omega⟩⟩
  · subst q
    exact ⟨⟨fun _ => Or.inr ⟨rfl, by omega⟩, fun _ => by omega⟩, ⟨fun _ => ⟨rfl, by omega⟩, fun _ => by omega⟩⟩
  · have : D * (t + 1) ≤ D * w := Nat.mul_le_mul_left _ q
    rw [Nat.mul_add, Nat.mul_one] at this
    exact ⟨⟨fun _ => Or.inl q, fun _ => by omega⟩, ⟨fun _ => by omega, fun _ => by omega⟩⟩
/-- what the reference rounds to is what the class rounds to -/
theorem near_K {p x y : Nat} (hy : y ≠ 0) {e : Nat} (he : 1 ≤ e) (neg : Bool) : nK (nQ p x y) (nR p x y) e = if rA (nE p x y + e) x % rD (nE p x y + e) y ≠ 0 ∧ rdA 2 neg (nQ p x y / 2 ^ e) (rA (nE p x y + e) x % rD (nE p x y + e) y) (rD (nE p x y + e) y) = true then nQ p x y / 2 ^ e + 1 else nQ p x y / 2 ^ e := by
  obtain ⟨k1, k2⟩ := near_cmp (p := p) (x := x) hy he
  have k0 := near_0 (p := p) (x := x) hy e
  have hh := Nat.two_pow_pos (e - 1)
  unfold nK
  have hr : rdA 2 neg (nQ p x y / 2 ^ e) (rA (nE p x y + e) x % rD (nE p x y + e) y) (rD (nE p x y + e) y) = decide (rD (nE p x y + e) y < rA (nE p x y + e) x % rD (nE p x y + e) y * 2 ∨ (rA (nE p x y + e) x % rD (nE p x y + e) y * 2 = rD (nE p x y + e) y ∧ nQ p x y / 2 ^ e % 2 = 1)) := rfl
  have hne : rA (nE p x y + e) x % rD (nE p x y + e) y ≠ 0 ↔ ¬ (nQ p x y % 2 ^ e = 0 ∧ nR p x y = 0) := not_congr k0
  have hcond : (rA (nE p x y + e) x % rD (nE p x y + e) y ≠ 0 ∧ rdA 2 neg (nQ p x y / 2 ^ e) (rA (nE p x y + e) x % rD (nE p x y + e) y) (rD (nE p x y + e) y) = true) ↔ (2 ^ (e - 1) < nQ p x y % 2 ^ e ∨ (nQ p x y % 2 ^ e = 2 ^ (e - 1) ∧ (nR p x y ≠ 0 ∨ nQ p x y / 2 ^ e % 2 = 1))) := by
    rw [hr, decide_eq_true_iff, k1, k2, hne]
    generalize nQ p x y % 2 ^ e = w
    generalize 2 ^ (e - 1) = t at hh ⊢
    generalize nQ p x y / 2 ^ e = q
    generalize nR p x y = R
    omega
  by_cases c : 2 ^ (e - 1) < nQ p x y % 2 ^ e ∨ (nQ p x y % 2 ^ e = 2 ^ (e - 1) ∧ (nR p x y ≠ 0 ∨ nQ p x y / 2 ^ e % 2 = 1))
  · rw [if_pos c, if_pos (hcond.mpr c)]
  · rw [if_neg c, if_neg (fun q => c (hcond.mp q))]
theorem near_x {p x y : Nat} (hy : y ≠ 0) (e : Nat) : decide (rA (nE p x y + e) x % rD (nE p x y + e) y = 0) = nXa (nQ p x y) (nR p x y) e := by
  unfold nXa
  rw [decide_eq_decide]; exact near_0 hy e
/-- the bits of the quotient on the way -/
theorem near_b {p x y j : Nat} (hx : x ≠ 0) (hy : y ≠ 0) (hp : 1 ≤ p) (hj : j ≤ nX p x y) : blen (nQ p x y / 2 ^ j) = p + nX p x y - j := by
  obtain ⟨h1, h2⟩ := nX_12 (p := p) hx hy
  obtain ⟨b1, b2, b3⟩ := blen_pos (n := nQ p x y) (by intro q; rw [q, blen_0] at h1; omega)
  rw [h1] at b1 b2
  have hp2 := Nat.two_pow_pos j
  have := blen_of (n := nQ p x y / 2 ^ j) (k := p + nX p x y - j - 1) (by
    rw [Nat.le_div_iff_mul_le hp2, p2m]
    rw [show p + nX p x y - j - 1 + j = p + nX p x y - 1 by omega]; exact b1) (by
    rw [Nat.div_lt_iff_lt_mul hp2, p2m]
    rw [show p + nX p x y - j - 1 + 1 + j = p + nX p x y by omega]; exact b2)
  rw [this]; omega
theorem near_r {p x y : Nat} (hx : x < 2 ^ 400) (hy : y < 2 ^ 400) (hp : p ≤ 53) {j : Nat} (hj : j ≤ 2) : -460 ≤ nE p x y + j ∧ nE p x y + j ≤ 402 ∧ rA (nE p x y + j) x < 2 ^ 1000 ∧ rD (nE p x y + j) y < 2 ^ 1000 := by
  have lx : blen x ≤ 400 := blen_lt hx
  have ly : blen y ≤ 400 := blen_lt hy
  have hE : nE p x y = (blen x : Int) - blen y - (p + 1 : Nat) := rfl
  refine ⟨by omega, by omega, ?_, ?_⟩
  · unfold rA
    have h1 : 2 ^ (-(nE p x y + j)).toNat ≤ 2 ^ 460 := p2le (by omega)
    have h2 : x * 2 ^ (-(nE p x y + j)).toNat ≤ x * 2 ^ 460 := Nat.mul_le_mul_left _ h1
    have h3 : x * 2 ^ 460 < 2 ^ 400 * 2 ^ 460 := Nat.mul_lt_mul_of_pos_right hx (Nat.two_pow_pos _)
    rw [p2m] at h3
    exact Nat.lt_of_le_of_lt h2 (Nat.lt_of_lt_of_le h3 (p2le (by decide)))
  · unfold rD
    have h1 : 2 ^ (nE p x y + j).toNat ≤ 2 ^ 460 := p2le (by omega)
    have h2 : y * 2 ^ (nE p x y + j).toNat ≤ y * 2 ^ 460 := Nat.mul_le_mul_left _ h1
    have h3 : y * 2 ^ 460 < 2 ^ 400 * 2 ^ 460 := Nat.mul_lt_mul_of_pos_right hy (Nat.two_pow_pos _)
    rw [p2m] at h3
    exact Nat.lt_of_le_of_lt h2 (Nat.lt_of_lt_of_le h3 (p2le (by decide)))
theorem b1000 : 2 ^ 1000 < 65536 ^ 79 ∧ 2 ^ 1000 * 2 < 65536 ^ 80 ∧ 2 ^ 1000 < 65536 ^ 80 := by decide +kernel
theorem iZ_leP {z : Int} (h1 : -2 ^ 31 ≤ z) (h2 : z < 2 ^ 31) : (iZ z ≤ 0) = (z ≤ 0) := by
  rw [Int32.le_iff_toInt_le, iZ_toInt h1 h2]; rfl
theorem iZ_nn {z : Int} (h : 0 ≤ z) : iZ z = nI z.toNat := by
  rw [iZ_n]; congr 1; omega
theorem iSub_0Z (z : Int) : iSub (nI 0) (iZ z) = iZ (-z) := by rw [iZ_n, iSub_Z]; congr 1; omega
/-! thresholds -/
theorem fE_iff {u w : Nat} (hu : u = 9 ∨ u = 10) : fEnd u ≤ w ↔ 10 ^ 31 * 2 ^ fX u ≤ fF u w := by
  have hp := fLE_pos (u := u)
  have n3 : fF u (fEnd u - 1) < 10 ^ 31 * 2 ^ fX u := by rcases hu with e | e <;> subst e <;> decide +kernel
  have n4 : 10 ^ 31 * 2 ^ fX u ≤ fF u (fEnd u) := by rcases hu with e | e <;> subst e <;> decide +kernel
  constructor
  · intro q; exact Nat.le_trans n4 (fF_mono q)
  · intro q
    refine Nat.le_of_not_lt fun q2 => ?_
    exact absurd (Nat.lt_of_le_of_lt (Nat.le_trans q (fF_mono (show w ≤ fEnd u - 1 by omega))) n3) (Nat.lt_irrefl _)
theorem fL_iff {u w : Nat} (hu : u = 9 ∨ u = 10) : fLeast u ≤ w ↔ 2 ^ fX u ≤ fF u w * 10 ^ 31 := by
  have hp := fLE_pos (u := u)
  have n1 : 2 ^ fX u ≤ fF u (fLeast u) * 10 ^ 31 := by rcases hu with e | e <;> subst e <;> decide +kernel
  have n2 : fF u (fLeast u - 1) * 10 ^ 31 < 2 ^ fX u := by rcases hu with e | e <;> subst e <;> decide +kernel
  constructor
  · intro q; exact Nat.le_trans n1 (Nat.mul_le_mul_right _ (fF_mono q))
  · intro q
    refine Nat.le_of_not_lt fun q2 => ?_
    exact absurd (Nat.le_trans q (Nat.mul_le_mul_right _ (fF_mono (show w ≤ fLeast u - 1 by omega)))) (Nat.not_le.mpr n2)
theorem fc_le {a b c : Nat} (h : 0 < c) : a * c ≤ b * c ↔ a ≤ b := Nat.mul_le_mul_right_iff (n := a) (m := b) h
/-- the comparison at 10 to the 31 and 10 to the -31, exponents taken off -/
theorem fmidA {M e x t : Nat} : (2 ^ (x - e) * t ≤ M * 2 ^ (e - x) ↔ t * 2 ^ x ≤ M * 2 ^ e) ∧ (2 ^ (x - e) ≤ M * 2 ^ (e - x) * t ↔ 2 ^ x ≤ M * 2 ^ e * t) := by
  rcases Nat.le_total x e with q | q
  · obtain ⟨r, rfl⟩ := Nat.exists_eq_add_of_le q
    have p := Nat.two_pow_pos x
    rw [show x - (x + r) = 0 by omega, show x + r - x = r by omega, Nat.pow_add, Nat.pow_zero, Nat.one_mul]
    have e0 : M * (2 ^ x * 2 ^ r) = M * 2 ^ r * 2 ^ x := by ac_rfl
    rw [e0]
    refine ⟨(fc_le p).symm, ?_⟩
    rw [Nat.mul_right_comm _ (2 ^ x) t]
    have := fc_le (a := 1) (b := M * 2 ^ r * t) p
    rw [Nat.one_mul] at this; exact this.symm
  · obtain ⟨r, rfl⟩ := Nat.exists_eq_add_of_le q
    have p := Nat.two_pow_pos e
    rw [show e + r - e = r by omega, show e - (e + r) = 0 by omega, Nat.pow_add, Nat.pow_zero, Nat.mul_one]
    have e1 : t * (2 ^ e * 2 ^ r) = 2 ^ r * t * 2 ^ e := by ac_rfl
    have e2 : 2 ^ e * 2 ^ r = 2 ^ r * 2 ^ e := Nat.mul_comm _ _
    have e3 : M * 2 ^ e * t = M * t * 2 ^ e := by ac_rfl
    rw [e1, e2, e3]
    exact ⟨(fc_le p).symm, (fc_le p).symm⟩
theorem t31 : 10 ^ 31 ≤ 2 ^ 103 ∧ 10 ^ 31 ≤ 2 ^ 400 := by decide +kernel
theorem fU {u : Nat} (hu : u = 9 ∨ u = 10) : fPrec u = fS u + 1 ∧ fBias u + fS u = fX u ∧ fS u ≤ 52 ∧ 150 ≤ fX u ∧ 2 ^ fS u ≤ fLeast u ∧ fLeast u < fEnd u ∧ fX u ≤ 1075 ∧ (fS u + 1 + 103 ≤ fX u) := by
  rcases hu with e | e <;> subst e <;> decide +kernel
/-- the outcome of nearest, as the bits of a floating number -/
theorem near_thr {u Q : Nat} {P : Int} (hu : u = 9 ∨ u = 10) (q1 : 2 ^ fS u ≤ Q) (q2 : Q < 2 ^ (fS u + 1)) :
    (2 ^ min (-P).toNat 600 * 10 ^ 31 ≤ Q * 2 ^ min P.toNat 400 ↔ (fEnd u : Int) ≤ (P + fX u) * 2 ^ fS u + Q - 2 ^ fS u) ∧ (2 ^ min (-P).toNat 600 ≤ Q * 2 ^ min P.toNat 400 * 10 ^ 31 ↔ (fLeast u : Int) ≤ (P + fX u) * 2 ^ fS u + Q - 2 ^ fS u) := by
  obtain ⟨u1, u2, u3, u4, u5, u6, u7, u8⟩ := fU hu
  obtain ⟨t1, t2⟩ := t31
  have hS := Nat.two_pow_pos (fS u)
  have hs1 : 2 ^ (fS u + 1) = 2 * 2 ^ fS u := Nat.pow_succ'
  have hQ53 : 2 ^ (fS u + 1) ≤ 2 ^ 53 := p2le (by omega)
  by_cases c1 : P + fX u ≤ 0
  · -- far below
    have hB : (P + fX u) * 2 ^ fS u + Q - 2 ^ fS u < (2 ^ fS u : Int) := by
      have : (P + fX u) * 2 ^ fS u ≤ 0 := Int.mul_nonpos_of_nonpos_of_nonneg c1 (Int.le_of_lt (by exact_mod_cast hS))
      have h2 : (Q : Int) < 2 * 2 ^ fS u := by rw [hs1] at q2; exact_mod_cast q2
      omega
    have hS2 : ((2 ^ fS u : Nat) : Int) = (2 : Int) ^ fS u := by norm_cast
    have hm : Q * 2 ^ min P.toNat 400 * 10 ^ 31 < 2 ^ min (-P).toNat 600 := by
      rw [show P.toNat = 0 by omega, Nat.zero_min, Nat.pow_zero, Nat.mul_one]
      have a : Q * 10 ^ 31 ≤ Q * 2 ^ 103 := Nat.mul_le_mul_left _ t1
      have b : Q * 2 ^ 103 < 2 ^ (fS u + 1) * 2 ^ 103 := Nat.mul_lt_mul_of_pos_right q2 (Nat.two_pow_pos _)
      rw [p2m] at b
      have c : 2 ^ (fS u + 1 + 103) ≤ 2 ^ min (-P).toNat 600 := p2le (by omega)
      exact Nat.lt_of_le_of_lt a (Nat.lt_of_lt_of_le b c)
    constructor
    · refine ⟨fun q => ?_, fun q => by omega⟩
      have j1 : Q * 2 ^ min P.toNat 400 ≤ Q * 2 ^ min P.toNat 400 * 10 ^ 31 := Nat.le_mul_of_pos_right _ (by decide)
      have j2 : 2 ^ min (-P).toNat 600 ≤ 2 ^ min (-P).toNat 600 * 10 ^ 31 := Nat.le_mul_of_pos_right _ (by decide)
      exact absurd (Nat.lt_of_le_of_lt (Nat.le_trans j2 (Nat.le_trans q j1)) hm) (Nat.lt_irrefl _)
    · exact ⟨fun q => absurd (Nat.lt_of_le_of_lt q hm) (Nat.lt_irrefl _), fun q => by omega⟩
  · obtain ⟨E, hE⟩ : ∃ E : Nat, (E : Int) = P + fX u := ⟨(P + fX u).toNat, by omega⟩
    have hE1 : 1 ≤ E := by omega
    obtain ⟨w, hw⟩ : ∃ w, w = E * 2 ^ fS u + (Q - 2 ^ fS u) := ⟨_, rfl⟩
    have hB : (P + fX u) * 2 ^ fS u + Q - 2 ^ fS u = (w : Int) := by
      rw [← hE, hw]
      push_cast [Int.ofNat_sub q1]
      omega
    have hd : w / 2 ^ fS u = E := by
      rw [hw, Nat.mul_comm, Nat.mul_add_div hS, Nat.div_eq_of_lt (by omega), Nat.add_zero]
    have hmd : w % 2 ^ fS u = Q - 2 ^ fS u := by
      rw [hw, Nat.mul_comm, Nat.mul_add_mod, Nat.mod_eq_of_lt (by omega)]
    have hF : fF u w = Q * 2 ^ E := by
      unfold fF fMn fEx
      rw [hd, hmd, if_neg (by omega), if_neg (by omega), show Q - 2 ^ fS u + 2 ^ fS u = Q by omega]
    have hEnd := fE_iff (u := u) (w := w) hu
    have hLst := fL_iff (u := u) (w := w) hu
    rw [hF] at hEnd hLst
    rw [hB]
    have hEnd2 : (fEnd u : Int) ≤ (w : Int) ↔ 10 ^ 31 * 2 ^ fX u ≤ Q * 2 ^ E := by rw [Int.ofNat_le]; exact hEnd
    have hLst2 : (fLeast u : Int) ≤ (w : Int) ↔ 2 ^ fX u ≤ Q * 2 ^ E * 10 ^ 31 := by rw [Int.ofNat_le]; exact hLst
    rw [hEnd2, hLst2]
    have hQ0 : 1 ≤ Q := by omega
    by_cases c2 : P ≤ 400 ∧ -P ≤ 600
    · have a1 : min (-P).toNat 600 = fX u - E := by omega
      have a2 : min P.toNat 400 = E - fX u := by omega
      rw [a1, a2]
      exact fmidA
    · by_cases c3 : 400 < P
      · -- far above
        have a1 : min (-P).toNat 600 = 0 := by omega
        have a2 : min P.toNat 400 = 400 := by omega
        rw [a1, a2, Nat.pow_zero, Nat.one_mul]
        have k1 : 2 ^ 400 ≤ Q * 2 ^ 400 := Nat.le_mul_of_pos_left _ hQ0
        have k2 : 2 ^ (fX u + 400) ≤ Q * 2 ^ E := Nat.le_trans (p2le (by omega)) (Nat.le_mul_of_pos_left _ hQ0)
        rw [Nat.pow_add, Nat.mul_comm (2 ^ fX u)] at k2
        have k3 : 10 ^ 31 * 2 ^ fX u ≤ 2 ^ 400 * 2 ^ fX u := Nat.mul_le_mul_right _ t2
        have k4 : 2 ^ fX u ≤ 10 ^ 31 * 2 ^ fX u := Nat.le_mul_of_pos_left _ (by decide)
        have k5 : Q * 2 ^ E ≤ Q * 2 ^ E * 10 ^ 31 := Nat.le_mul_of_pos_right _ (by decide)
        have k6 : Q * 2 ^ 400 ≤ Q * 2 ^ 400 * 10 ^ 31 := Nat.le_mul_of_pos_right _ (by decide)
        have k7 := Nat.two_pow_pos 400
        exact ⟨⟨fun _ => Nat.le_trans k3 k2, fun _ => Nat.le_trans t2 k1⟩, ⟨fun _ => Nat.le_trans k4 (Nat.le_trans k3 (Nat.le_trans k2 k5)), fun _ => Nat.le_trans k7 (Nat.le_trans k1 k6)⟩⟩
      · have a1 : min (-P).toNat 600 = 600 := by omega
        have a2 : min P.toNat 400 = 0 := by omega
        rw [a1, a2, Nat.pow_zero, Nat.mul_one]
        have k1 : Q * 10 ^ 31 < 2 ^ 600 := by
          have a : Q * 10 ^ 31 ≤ Q * 2 ^ 103 := Nat.mul_le_mul_left _ t1
          have b : Q * 2 ^ 103 < 2 ^ (fS u + 1) * 2 ^ 103 := Nat.mul_lt_mul_of_pos_right q2 (Nat.two_pow_pos _)
          rw [p2m] at b
          exact Nat.lt_of_le_of_lt a (Nat.lt_of_lt_of_le b (p2le (by omega)))
        have k2 : Q * 2 ^ E * 10 ^ 31 < 2 ^ fX u := by
          have a : Q * 2 ^ E * 10 ^ 31 = Q * 10 ^ 31 * 2 ^ E := by ac_rfl
          rw [a]
          have b : Q * 10 ^ 31 * 2 ^ E < 2 ^ 600 * 2 ^ E := Nat.mul_lt_mul_of_pos_right k1 (Nat.two_pow_pos _)
          rw [p2m] at b
          exact Nat.lt_of_lt_of_le b (p2le (by omega))
        have k3 : Q ≤ Q * 10 ^ 31 := Nat.le_mul_of_pos_right _ (by decide)
        have k4 : Q * 2 ^ E ≤ Q * 2 ^ E * 10 ^ 31 := Nat.le_mul_of_pos_right _ (by decide)
        have k5 : 2 ^ fX u ≤ 10 ^ 31 * 2 ^ fX u := Nat.le_mul_of_pos_left _ (by decide)
        have k6 : 2 ^ 600 ≤ 2 ^ 600 * 10 ^ 31 := Nat.le_mul_of_pos_right _ (by decide)
        exact ⟨⟨fun q => absurd (Nat.lt_of_le_of_lt (Nat.le_trans k6 (Nat.le_trans q k3)) k1) (Nat.lt_irrefl _), fun q => absurd (Nat.lt_of_le_of_lt (Nat.le_trans k5 (Nat.le_trans q k4)) k2) (Nat.lt_irrefl _)⟩, ⟨fun q => absurd (Nat.lt_of_le_of_lt q k1) (Nat.lt_irrefl _), fun q => absurd (Nat.lt_of_le_of_lt q k2) (Nat.lt_irrefl _)⟩⟩
