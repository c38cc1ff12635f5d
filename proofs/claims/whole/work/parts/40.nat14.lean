theorem dv_alg {V Q D P B L N q r : Nat} (h1 : V = Q * D * (P * B) + (L + P * N)) (h2 : D * q + r = N) : V = (q + B * Q) * D * P + (L + P * r) := by
  subst h2; grind
theorem nVal_cons (g : Nat → Nat) (m : Nat) : nVal g (m + 1) = g 0 + 2147483648 * nVal (fun k => g (1 + k)) m := by
  rw [Nat.add_comm m 1, nVal_split g 1 m, nVal_succ g 0, show nVal g 0 = 0 from rfl]; simp
theorem nRep_norm {g : Nat → Nat} {u V m : Nat} (h : nRep g u V) (h1 : 1073741824 * 2147483648 ^ m ≤ V) (h2 : V < 2147483648 ^ (m + 1)) : u = m + 1 ∧ 1073741824 ≤ g m := by
  have hl := h.lt
  have hP : 0 < 2147483648 ^ m := Nat.pow_pos (by decide)
  have hu1 : m < u := by
    rcases Nat.lt_or_ge m u with q | q
    · exact q
    · have := Nat.pow_le_pow_right (show 0 < 2147483648 by decide) q
      have := Nat.lt_of_lt_of_le hl this
      omega
  have hu2 : u ≤ m + 1 := by
    rcases Nat.lt_or_ge (m + 1) u with q | q
    · have hg := nVal_ge (by omega) (h.2.2.2.1 (by omega))
      rw [← h.2.2.2.2] at hg
      have := Nat.pow_le_pow_right (show 0 < 2147483648 by decide) (show m + 1 ≤ u - 1 by omega)
      omega
    · exact q
  have hu : u = m + 1 := by omega
  refine ⟨hu, ?_⟩
  have hv := h.2.2.2.2
  rw [hu, nVal_succ g m] at hv
  have hL := nVal_lt (g := g) (n := m) (fun k hk => h.2.1 k (by have := h.1; omega))
  have h3 : 1073741824 * 2147483648 ^ m < (g m + 1) * 2147483648 ^ m := by rw [Nat.add_mul]; omega
  have := Nat.lt_of_mul_lt_mul_right h3
  omega
theorem dv_scale {g : Nat → Nat} {u v : Nat} (h : nRep g u v) (hu : 0 < u) : ∃ m s, u = m + 1 ∧ s < 31 ∧ blen (g (u - 1)) ≤ 31 ∧ s = 31 - blen (g (u - 1)) ∧ 1073741824 * 2147483648 ^ m ≤ v * 2 ^ s ∧ v * 2 ^ s < 2147483648 ^ (m + 1) := by
  obtain ⟨m, hm⟩ : ∃ m, u = m + 1 := ⟨u - 1, by omega⟩
  have ht := h.2.2.2.1 hu
  have htb := h.2.1 (u - 1) (by have := h.1; omega)
  have hb31 : blen (g (u - 1)) ≤ 31 := blen_lt htb
  obtain ⟨b1, b2, b3⟩ := blen_pos ht
  have hv := h.2.2.2.2
  rw [hm, nVal_succ g m, show m = u - 1 by omega] at hv
  have hL := nVal_lt (g := g) (n := u - 1) (fun k hk => h.2.1 k (by have := h.1; omega))
  refine ⟨m, 31 - blen (g (u - 1)), hm, by omega, hb31, rfl, ?_, ?_⟩
  · rw [show m = u - 1 by omega]
    have e : (1073741824 : Nat) = 2 ^ (blen (g (u - 1)) - 1) * 2 ^ (31 - blen (g (u - 1))) := by rw [← Nat.pow_add, show blen (g (u - 1)) - 1 + (31 - blen (g (u - 1))) = 30 by omega]
    generalize blen (g (u - 1)) = k at *
    rw [e]
    have h1 : 2 ^ (k - 1) * 2147483648 ^ (u - 1) ≤ v := by
      have := Nat.mul_le_mul_right (2147483648 ^ (u - 1)) b1
      omega
    have := Nat.mul_le_mul_right (2 ^ (31 - k)) h1
    rw [Nat.mul_right_comm]; exact this
  · rw [show m = u - 1 by omega]
    have e : (2147483648 : Nat) = 2 ^ blen (g (u - 1)) * 2 ^ (31 - blen (g (u - 1))) := by rw [← Nat.pow_add, show blen (g (u - 1)) + (31 - blen (g (u - 1))) = 31 by omega]
    rw [Nat.pow_succ 2147483648 (u - 1)]
    conv => rhs; arg 2; rw [e]
    generalize blen (g (u - 1)) = k at *
    have h1 : v < 2 ^ k * 2147483648 ^ (u - 1) := by
      have := Nat.mul_le_mul_right (2147483648 ^ (u - 1)) (show g (u - 1) + 1 ≤ 2 ^ k from b2)
      rw [Nat.add_mul] at this
      omega
    have := Nat.mul_lt_mul_of_pos_right h1 (Nat.two_pow_pos (31 - k))
    rw [Nat.mul_comm (2147483648 ^ (u - 1)), Nat.mul_right_comm]; exact this
abbrev rmD : Room := { frames := 3, cells := 0, slots := 0, locals := 90 }
section NAT14
variable {l : Launch} {G : aG} {base tA : Nat} {O : aO} {A : aA} {a la b lb c lc e le : Nat} {g g2 g3 g4 : Nat → Nat} {u v u2 v2 u3 v3 u4 v4 : Nat}
/-- what the division's loop keeps -/
def dvI (V D w pls p : Nat) (h q : Nat → Nat) : Prop := (∀ k, k < 20 → h k < 2147483648) ∧ (∀ k, p + w ≤ k → k < 20 → h k = 0) ∧ nVal (fun k => h (p + k)) w < D ∧ (∀ k, k < 20 → q k < 2147483648) ∧ (∀ k, pls ≤ k → k < 20 → q k = 0) ∧ ∃ m, p + m = pls ∧ V = nVal (fun k => q (p + k)) m * D * 2147483648 ^ p + nVal h (p + w)
theorem dvI_lt {V D w pls p : Nat} {h q : Nat → Nat} (H : dvI V D w pls (p + 1) h q) (hp : p < 20) : nVal (fun k => h (p + k)) (w + 1) < D * 2147483648 := by
  obtain ⟨h1, h2, h3, -⟩ := H
  rw [nVal_cons]
  have e : (fun k => h (p + (1 + k))) = fun k => h (p + 1 + k) := by funext k; rw [← Nat.add_assoc]
  have hx : h (p + 0) < 2147483648 := h1 _ (by omega)
  rw [e]
  generalize nVal (fun k => h (p + 1 + k)) w = y at *
  show h (p + 0) + _ < _
  omega
theorem dvI_next {V D w pls p : Nat} {h q h' : Nat → Nat} (H : dvI V D w pls (p + 1) h q) (hD : 0 < D) (hpw : p + w < 20) (k1 : ∀ k, k < 20 → h' k < 2147483648) (k2 : ∀ k, k < p ∨ p + w < k → h' k = h k) (k3 : h' (p + w) = 0) (k4 : nVal (fun k => h' (p + k)) w = nVal (fun k => h (p + k)) (w + 1) % D) : dvI V D w pls p h' (uN9 q p (nVal (fun k => h (p + k)) (w + 1) / D)) := by
  have hlt := dvI_lt H (by omega)
  obtain ⟨h1, h2, h3, q1, q2, m, hm, hV⟩ := H
  refine ⟨k1, fun k a1 a2 => ?_, by rw [k4]; exact Nat.mod_lt _ hD, fun k hk => ?_, fun k a1 a2 => ?_, m + 1, by omega, ?_⟩
  · rcases Nat.eq_or_lt_of_le a1 with z | z
    · rw [← z]; exact k3
    · rw [k2 k (Or.inr z)]; exact h2 k (by omega) a2
  · by_cases z : k = p
    · rw [z, uN9_eq]; exact Nat.div_lt_of_lt_mul hlt
    · rw [uN9_ne z]; exact q1 k hk
  · rw [uN9_ne (by omega)]; exact q2 k a1 a2
  · have e1 : nVal (fun k => uN9 q p (nVal (fun k => h (p + k)) (w + 1) / D) (p + k)) (m + 1) = nVal (fun k => h (p + k)) (w + 1) / D + 2147483648 * nVal (fun k => q (p + 1 + k)) m := by
      rw [nVal_cons]
      congr 1
      · exact uN9_eq
      · congr 1
        refine nVal_congr (fun k hk => ?_)
        show uN9 q p _ (p + (1 + k)) = _
        rw [uN9_ne (by omega), Nat.add_assoc]
    rw [e1, nVal_split h' p w, k4, nVal_congr (g := h') (h := h) (n := p) (fun k hk => k2 k (Or.inl hk))]
    refine dv_alg (N := nVal (fun k => h (p + k)) (w + 1)) ?_ (Nat.div_add_mod _ _)
    rw [hV, Nat.pow_succ 2147483648 p, show p + 1 + w = p + (w + 1) by omega, nVal_split h p (w + 1)]
end NAT14
