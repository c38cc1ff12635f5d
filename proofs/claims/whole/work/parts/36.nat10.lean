/-! ===== differences that the kernel doesn't unfold ===== -/
noncomputable def iSub (a b : Int32) : Int32 := Classical.choose (⟨a - b, rfl⟩ : ∃ x : Int32, x = a - b)
theorem iSub_eq (a b : Int32) : iSub a b = a - b := Classical.choose_spec (⟨a - b, rfl⟩ : ∃ x : Int32, x = a - b)
noncomputable def lSub (a b : Int64) : Int64 := Classical.choose (⟨a - b, rfl⟩ : ∃ x : Int64, x = a - b)
theorem lSub_eq (a b : Int64) : lSub a b = a - b := Classical.choose_spec (⟨a - b, rfl⟩ : ∃ x : Int64, x = a - b)
noncomputable def iNeg (a : Int32) : Int32 := Classical.choose (⟨-a, rfl⟩ : ∃ x : Int32, x = -a)
theorem iNeg_eq (a : Int32) : iNeg a = -a := Classical.choose_spec (⟨-a, rfl⟩ : ∃ x : Int32, x = -a)
noncomputable def lNeg (a : Int64) : Int64 := Classical.choose (⟨-a, rfl⟩ : ∃ x : Int64, x = -a)
theorem lNeg_eq (a : Int64) : lNeg a = -a := Classical.choose_spec (⟨-a, rfl⟩ : ∃ x : Int64, x = -a)
noncomputable def iRem (a b : Int32) : Int32 := Classical.choose (⟨a - a / b * b, rfl⟩ : ∃ x : Int32, x = a - a / b * b)
theorem iRem_eq (a b : Int32) : iRem a b = a - a / b * b := Classical.choose_spec (⟨a - a / b * b, rfl⟩ : ∃ x : Int32, x = a - a / b * b)
noncomputable def lRem (a b : Int64) : Int64 := Classical.choose (⟨a - a / b * b, rfl⟩ : ∃ x : Int64, x = a - a / b * b)
theorem lRem_eq (a b : Int64) : lRem a b = a - a / b * b := Classical.choose_spec (⟨a - a / b * b, rfl⟩ : ∃ x : Int64, x = a - a / b * b)
noncomputable def iInc (a : Int32) (c : Int) : Int32 := Classical.choose (⟨a + Int32.ofInt c, rfl⟩ : ∃ x : Int32, x = a + Int32.ofInt c)
theorem iInc_eq (a : Int32) (c : Int) : iInc a c = a + Int32.ofInt c := Classical.choose_spec (⟨a + Int32.ofInt c, rfl⟩ : ∃ x : Int32, x = a + Int32.ofInt c)
section OPQ
variable (E : aE) (jmp nxt : aK0) (x y z : Nat) (ts : List Nat) (pc : Nat) (L : aL) (r : List Value) (O : aO) (A : aA) (nc ns : Nat)
theorem wpi_isub (a b : Int32) : wpi E jmp nxt .isub x y z ts pc L (.int b :: .int a :: r) O A nc ns = nxt (pc + 1) L (.int (iSub a b) :: r) O A nc ns := by rw [iSub_eq]; rfl
theorem wpi_lsub (a b : Int64) : wpi E jmp nxt .lsub x y z ts pc L (.long b :: .long a :: r) O A nc ns = nxt (pc + 1) L (.long (lSub a b) :: r) O A nc ns := by rw [lSub_eq]; rfl
theorem wpi_ineg (a : Int32) : wpi E jmp nxt .ineg x y z ts pc L (.int a :: r) O A nc ns = nxt (pc + 1) L (.int (iNeg a) :: r) O A nc ns := by rw [iNeg_eq]; rfl
theorem wpi_lneg (a : Int64) : wpi E jmp nxt .lneg x y z ts pc L (.long a :: r) O A nc ns = nxt (pc + 1) L (.long (lNeg a) :: r) O A nc ns := by rw [lNeg_eq]; rfl
theorem wpi_irem (a b : Int32) : wpi E jmp nxt .irem x y z ts pc L (.int b :: .int a :: r) O A nc ns = (¬ b = 0 ∧ nxt (pc + 1) L (.int (iRem a b) :: r) O A nc ns) := by rw [iRem_eq]; rfl
theorem wpi_lrem (a b : Int64) : wpi E jmp nxt .lrem x y z ts pc L (.long b :: .long a :: r) O A nc ns = (¬ b = 0 ∧ nxt (pc + 1) L (.long (lRem a b) :: r) O A nc ns) := by rw [lRem_eq]; rfl
theorem wpi_iinc (k : Nat) (c : Int) : wpi E jmp nxt (.iinc k c) x y z ts pc L r O A nc ns = (match lget L x with | some (.int v) => nxt (pc + 3) (lput1 L x (.int (iInc v c))) r O A nc ns | _ => False) := by
  simp only [iInc_eq]; rfl
end OPQ
theorem iSub_nn {m n : Nat} (h : n ≤ m) : iSub (nI m) (nI n) = nI (m - n) := by rw [iSub_eq]; exact pk_sub h
theorem iInc_p (n : Nat) : iInc (nI n) 1 = nI (n + 1) := by rw [iInc_eq]; exact nI_inc n
theorem iInc_m {n : Nat} (h : 0 < n) : iInc (nI n) (-1) = nI (n - 1) := by rw [iInc_eq]; exact nI_dec h
theorem iInc_m1 (x : Int32) : iInc x (-1) = iSub x (nI 1) := by rw [iInc_eq, iSub_eq]; exact nI_dec1 x
theorem iSub_01 : iSub (nI 0) (nI 1) = -nI 1 := by rw [iSub_eq]; decide +kernel
section NAT10
variable {l : Launch} {G : aG} {base tA : Nat} {O : aO} {A : aA} {a la : Nat} {g : Nat → Nat} {u v : Nat}
/-- a limb of the number shifted left by less than a limb -/
def shlT (g : Nat → Nat) (s : Nat) : Nat → Nat
  | 0 => g 0 * 2 ^ s % 2147483648
  | k + 1 => g (k + 1) * 2 ^ s % 2147483648 + g k / 2 ^ (31 - s)
theorem shlT_s (g : Nat → Nat) (s k : Nat) : shlT g s (k + 1) = g (k + 1) * 2 ^ s % 2147483648 + g k / 2 ^ (31 - s) := by simp only [shlT]
theorem shlT_z (g : Nat → Nat) (s : Nat) : shlT g s 0 = g 0 * 2 ^ s % 2147483648 := by simp only [shlT]
theorem shl_or {x y s : Nat} (hs : s < 31) (hx : x < 2147483648) (hy : y < 2147483648) : (lN (x * 2 ^ s) ||| lN (y / 2 ^ (31 - s))) = lN (x * 2 ^ s + y / 2 ^ (31 - s)) ∧ (x * 2 ^ s + y / 2 ^ (31 - s)) % 2147483648 = x * 2 ^ s % 2147483648 + y / 2 ^ (31 - s) ∧ x * 2 ^ s % 2147483648 + y / 2 ^ (31 - s) < 2147483648 := by
  have e : (2147483648 : Nat) = 2 ^ (31 - s) * 2 ^ s := by rw [← Nat.pow_add, show 31 - s + s = 31 by omega]
  have h1 : y / 2 ^ (31 - s) < 2 ^ s := by
    rw [Nat.div_lt_iff_lt_mul (Nat.two_pow_pos _), Nat.mul_comm, ← e]; exact hy
  have h2 : x * 2 ^ s < 2 ^ 62 := by
    have : (2 : Nat) ^ s ≤ 2 ^ 30 := Nat.pow_le_pow_right (by decide) (by omega)
    have := Nat.mul_le_mul (show x ≤ 2147483647 by omega) this
    omega
  have h3 : (2 : Nat) ^ s ≤ 2 ^ 30 := Nat.pow_le_pow_right (by decide) (by omega)
  have h4 : x * 2 ^ s % 2147483648 = x % 2 ^ (31 - s) * 2 ^ s := by rw [e, Nat.mul_mod_mul_right]
  have h5 : x * 2 ^ s % 2147483648 + 2 ^ s ≤ 2147483648 := by
    rw [h4]
    have : x % 2 ^ (31 - s) + 1 ≤ 2 ^ (31 - s) := Nat.mod_lt _ (Nat.two_pow_pos _)
    have := Nat.mul_le_mul_right (2 ^ s) this
    rw [Nat.add_mul, ← e] at this
    omega
  refine ⟨g_or rfl h1 (by omega), ?_, by omega⟩
  rw [Nat.add_mod, Nat.mod_eq_of_lt (show y / 2 ^ (31 - s) < 2147483648 by omega)]
  exact Nat.mod_eq_of_lt (by omega)
theorem shlT_val (g : Nat → Nat) {s : Nat} (hs : s < 31) : ∀ n, nVal (shlT g s) (n + 1) + g n / 2 ^ (31 - s) * 2147483648 ^ (n + 1) = 2 ^ s * nVal g (n + 1)
  | 0 => by
    have hd : g 0 * 2 ^ s = g 0 / 2 ^ (31 - s) * 2147483648 + g 0 * 2 ^ s % 2147483648 := by
      have e : (2147483648 : Nat) = 2 ^ (31 - s) * 2 ^ s := by rw [← Nat.pow_add, show 31 - s + s = 31 by omega]
      have := Nat.div_add_mod (g 0 * 2 ^ s) 2147483648
      have h2 : g 0 * 2 ^ s / 2147483648 = g 0 / 2 ^ (31 - s) := by
        conv => lhs; rw [e]
        rw [Nat.mul_div_mul_right _ _ (Nat.two_pow_pos s)]
      rw [h2] at this
      omega
    rw [nVal_succ, nVal_succ, show nVal (shlT g s) 0 = 0 from rfl, show nVal g 0 = 0 from rfl]
    simp only [shlT, Nat.pow_zero, Nat.mul_one, Nat.zero_add, Nat.pow_one]
    rw [Nat.mul_comm (2 ^ s), hd]
    omega
  | n + 1 => by
    have ih := shlT_val g hs n
    have hd : g (n + 1) * 2 ^ s = g (n + 1) / 2 ^ (31 - s) * 2147483648 + g (n + 1) * 2 ^ s % 2147483648 := by
      have e : (2147483648 : Nat) = 2 ^ (31 - s) * 2 ^ s := by rw [← Nat.pow_add, show 31 - s + s = 31 by omega]
      have := Nat.div_add_mod (g (n + 1) * 2 ^ s) 2147483648
      have h2 : g (n + 1) * 2 ^ s / 2147483648 = g (n + 1) / 2 ^ (31 - s) := by
        conv => lhs; rw [e]
        rw [Nat.mul_div_mul_right _ _ (Nat.two_pow_pos s)]
      rw [h2] at this
      omega
    rw [nVal_succ (shlT g s) (n + 1), nVal_succ g (n + 1), Nat.mul_add, ← ih, Nat.pow_succ 2147483648 (n + 1)]
    simp only [shlT]
    generalize g (n + 1) * 2 ^ s % 2147483648 = r at *
    generalize g (n + 1) / 2 ^ (31 - s) = q at *
    generalize g n / 2 ^ (31 - s) = c at *
    generalize 2147483648 ^ (n + 1) = P at *
    generalize nVal (shlT g s) (n + 1) = V at *
    have : g (n + 1) * 2 ^ s * P = (q * 2147483648 + r) * P := by rw [hd]
    grind
theorem nI_mask2 (w : Nat) : nI w &&& nI 2147483647 = nI (w % 2147483648) := nI_mask w
theorem shlT_lt {s : Nat} (hs : s < 31) (hg : ∀ k, k < 20 → g k < 2147483648) {k : Nat} (hk : k < 20) : shlT g s k < 2147483648 := by
  cases k with
  | zero => exact Nat.mod_lt _ (by decide)
  | succ k => exact (shl_or hs (hg (k + 1) hk) (hg k (by omega))).2.2
end NAT10
