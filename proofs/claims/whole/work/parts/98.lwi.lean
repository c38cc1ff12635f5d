/-! ===== the law: both objects side by side ===== -/
theorem mW.mv {Y ρ : Nat → Nat} {τ : Nat → Int32} {ex : Bool} {N : aN} {O0 O O' : aO} {A0 A A' : aA} (h : mW Y ρ τ ex N O0 A0 O A) (hm : ∀ j, j < 8 → O' (Y j) = O (Y j) ∧ A' (Y j) = A (Y j)) : mW Y ρ τ ex N O' A' O' A' := by
  refine ⟨h.1, h.2.1, ?_, ⟨?_, ?_, ?_, ?_, ?_, ?_⟩, ?_, fun x hx => ⟨rfl, rfl⟩⟩
  · rw [(hm 0 (by decide)).1]; exact h.2.2.1
  · rw [(hm 1 (by decide)).2]; exact h.byt
  · rw [(hm 2 (by decide)).2]; exact h.usa
  · rw [(hm 3 (by decide)).2]; exact h.dig
  · rw [(hm 4 (by decide)).2]; exact h.sca
  · rw [(hm 5 (by decide)).2]; exact h.siz
  · rw [(hm 6 (by decide)).2]; exact h.kin
  · rw [(hm 7 (by decide)).2]; exact h.row
theorem cW.mv {tA : Nat} {Z ρ : Nat → Nat} {sg : Nat → Bool} {N : aN} {O0 O O' : aO} {A0 A A' : aA} (h : cW tA Z ρ sg N O0 A0 O A) (hm : ∀ i, i < zN N → O' (Z i) = O (Z i) ∧ A' (Z i) = A (Z i)) (ht : A' tA = A tA) : cW tA Z ρ sg N O' A' O' A' := by
  have z : zN N = 40 + 2 * N 0 0 := rfl
  refine ⟨h.1, h.2.1, fun i hi => ?_, fun f hf => ?_, ⟨?_, ?_, ?_, ?_, ?_⟩, fun k hk => ⟨?_, ?_⟩, ?_, ?_, fun x hx => ⟨rfl, rfl⟩⟩
  · obtain ⟨g, u, q1, q2, q3⟩ := h.reg hi
    exact ⟨g, u, q1, by rw [(hm i (by omega)).1]; exact q2, by rw [(hm (15 + i) (by omega)).2]; exact q3⟩
  · rw [(hm _ (by omega)).1]; exact h.frac hf
  · rw [(hm _ (by omega)).1]; exact h.rdr
  · rw [(hm _ (by omega)).1]; exact h.ari
  · rw [(hm _ (by omega)).1]; exact h.sto
  · rw [(hm _ (by omega)).1]; exact h.wri
  · rw [(hm _ (by omega)).1]; exact h.obj
  · rw [(hm _ (by omega)).1]; exact h.num hk
  · rw [(hm _ (by omega)).2]; exact h.byt hk
  · rw [(hm _ (by omega)).2]; exact h.arr
  · rw [ht]; exact h.tens
/-- the object X at Z with the numbers N, the reference M at Y with the numbers N2 and thrown t, the array B for answers, the script of L cells at S -/
def lJ (tA S B X M L : Nat) (xs : Nat → Int32) (Z Y : Nat → Nat) (N N2 : aN) (t : Int32) (O : aO) (A : aA) : Prop :=
  (Z 37 = X ∧ Z 39 = tA ∧ Y 0 = M) ∧ cX tA Z N O A O A ∧ mX Y N2 t O A O A ∧ (∃ f, A B = some (2, 1, .inr (.inl f))) ∧ (∃ tS ys, (tS = 0 ∨ 4 ≤ tS) ∧ A S = some (tS, L, .inl ys) ∧ ∀ j, j < L → ys j = xs j) ∧
  ((∀ i, Z i ≠ B) ∧ (∀ i, i ≠ 39 → Z i ≠ S) ∧ (∀ i j, j < 8 → Z i ≠ Y j) ∧ (∀ j, j < 8 → Y j ≠ B ∧ Y j ≠ S) ∧ B ≠ S)
section LWI
variable {tA S B X M L : Nat} {xs : Nat → Int32} {Z Z' Y : Nat → Nat} {N N' N2 N2' : aN} {t t' : Int32} {O O' : aO} {A A' : aA}
theorem mX.usd {Y : Nat → Nat} {O0 : aO} {A0 : aA} (h : mX Y N t O0 A0 O A) {j : Nat} (hj : j < 8) : usd O A (Y j) := by
  obtain ⟨ρ, τ, ex, -, hm⟩ := h
  obtain rfl | rfl | rfl | rfl | rfl | rfl | rfl | rfl : j = 0 ∨ j = 1 ∨ j = 2 ∨ j = 3 ∨ j = 4 ∨ j = 5 ∨ j = 6 ∨ j = 7 := by omega
  · exact Or.inl (by rw [hm.obj]; simp)
  · exact Or.inr (by rw [hm.byt]; simp)
  · exact Or.inr (by rw [hm.usa]; simp)
  · exact Or.inr (by rw [hm.dig]; simp)
  · exact Or.inr (by rw [hm.sca]; simp)
  · exact Or.inr (by rw [hm.siz]; simp)
  · exact Or.inr (by rw [hm.kin]; simp)
  · obtain ⟨g, hg, -⟩ := hm.row
    exact Or.inr (by rw [hg]; simp)
/-- behind a call of the class -/
theorem lJ.cls (h : lJ tA S B X M L xs Z Y N N2 t O A) (hc : cX tA Z' N' O A O' A') (h37 : Z' 37 = X) (h39 : Z' 39 = tA) (hf : ∀ i, Z' i = Z i ∨ ∀ x, usd O A x → x < Z' i) : lJ tA S B X M L xs Z' Y N' N2 t O' A' ∧ A' B = A B := by
  obtain ⟨⟨g1, g2, g3⟩, hc0, hm, ⟨f, hB⟩, ⟨tS, ys, hS1, hS, hys⟩, d1, d2, d3, d4, d5⟩ := h
  have uB : usd O A B := Or.inr (by rw [hB]; simp)
  have uS : usd O A S := Or.inr (by rw [hS]; simp)
  have e1 : ∀ i, Z' i ≠ B := fun i => (hf i).elim (fun e => by rw [e]; exact d1 i) (fun q => by have := q B uB; omega)
  have e2 : ∀ i, i ≠ 39 → Z' i ≠ S := fun i hi => (hf i).elim (fun e => by rw [e]; exact d2 i hi) (fun q => by have := q S uS; omega)
  have e3 : ∀ i j, j < 8 → Z' i ≠ Y j := fun i j hj => (hf i).elim (fun e => by rw [e]; exact d3 i j hj) (fun q => by have := q (Y j) (hm.usd hj); omega)
  obtain ⟨ρ, sg, hc⟩ := hc
  have fB := hc.frm B (fun i _ => e1 i)
  refine ⟨⟨⟨h37, h39, g3⟩, ⟨ρ, sg, hc.mv (fun _ _ => ⟨rfl, rfl⟩) rfl⟩, ?_, ⟨f, by rw [fB.2]; exact hB⟩, ?_, e1, e2, e3, d4, d5⟩, fB.2⟩
  · obtain ⟨ρ', τ', ex', ht, hm'⟩ := hm
    exact ⟨ρ', τ', ex', ht, hm'.mv fun j hj => hc.frm (Y j) (fun i _ => e3 i j hj)⟩
  · by_cases hq : S = tA
    · obtain ⟨tf, q1, qt⟩ := hc.tens
      obtain ⟨ρ0, sg0, hc0⟩ := hc0
      obtain ⟨tf0, q2, q3⟩ := hc0.tens
      rw [hq, q2] at hS
      simp only [Option.some.injEq, Prod.mk.injEq, Sum.inl.injEq] at hS
      obtain ⟨r1, r2, r3⟩ := hS
      refine ⟨4, tf, Or.inr (by decide), by rw [hq, q1, ← r2], fun j hj => ?_⟩
      rw [← hys j hj, ← r3, q3 j (by omega), qt j (by omega)]
    · have fS := hc.frm S (fun i _ => by
        by_cases hi : i = 39
        · rw [hi, h39]; exact fun e => hq e.symm
        · exact e2 i hi)
      exact ⟨tS, ys, hS1, by rw [fS.2]; exact hS, hys⟩
/-- the answer is laid into B -/
theorem lJ.sto (h : lJ tA S B X M L xs Z Y N N2 t O A) (f : Nat → Int64) : lJ tA S B X M L xs Z Y N N2 t O (aSet A B (2, 1, .inr (.inl f))) := by
  obtain ⟨g, ⟨ρ, sg, hc⟩, ⟨ρ', τ', ex', ht, hm⟩, -, ⟨tS, ys, hS1, hS, hys⟩, d1, d2, d3, d4, d5⟩ := h
  refine ⟨g, ⟨ρ, sg, hc.mv (fun i _ => ⟨rfl, aSet_ne (d1 i)⟩) ?_⟩, ⟨ρ', τ', ex', ht, hm.mv fun j hj => ⟨rfl, aSet_ne (d4 j hj).1⟩⟩, ⟨f, aSet_eq⟩, ⟨tS, ys, hS1, by rw [aSet_ne (Ne.symm d5)]; exact hS, hys⟩, d1, d2, d3, d4, d5⟩
  rw [← g.2.1]; exact aSet_ne (d1 39)
/-- behind a call of the reference -/
theorem lJ.ref (h : lJ tA S B X M L xs Z Y N N2 t O A) (hm : mX Y N2' t' O A O' A') : lJ tA S B X M L xs Z Y N N2' t' O' A' ∧ A' B = A B := by
  obtain ⟨g, ⟨ρ, sg, hc⟩, -, ⟨f, hB⟩, ⟨tS, ys, hS1, hS, hys⟩, d1, d2, d3, d4, d5⟩ := h
  obtain ⟨ρ', τ', ex', ht, hm⟩ := hm
  have fB := hm.frm B (fun j hj => (d4 j hj).1)
  have fS := hm.frm S (fun j hj => (d4 j hj).2)
  have fZ : ∀ i, O' (Z i) = O (Z i) ∧ A' (Z i) = A (Z i) := fun i => hm.frm (Z i) (fun j hj => Ne.symm (d3 i j hj))
  refine ⟨⟨g, ⟨ρ, sg, hc.mv (fun i _ => fZ i) ?_⟩, ⟨ρ', τ', ex', ht, hm.mv fun j hj => ⟨rfl, rfl⟩⟩, ⟨f, by rw [fB.2]; exact hB⟩, ⟨tS, ys, hS1, by rw [fS.2]; exact hS, hys⟩, d1, d2, d3, d4, d5⟩, fB.2⟩
  rw [← g.2.1]; exact (fZ 39).2
end LWI
/-! ===== the answers are the same ===== -/
theorem nI_inj64 {a b : Nat} (ha : a < 2 ^ 31) (hb : b < 2 ^ 31) (h : nI a = nI b) : a = b := (nI_eq ha hb).mp h
theorem iN_uniq {N : aN} (hw : wfN N) {a b : Nat} (ha : a < N 0 0) (hb : b < N 0 0) (h : nI a = nI b) : a = b := by
  have := hw.1
  exact nI_inj64 (by omega) (by omega) h
theorem iB_uniq {N : aN} (hw : wfN N) {k a b : Nat} (hk : k < N 0 0) (ha : a < N 5 k) (hb : b < N 5 k) (h : nI a = nI b) : a = b := by
  obtain ⟨h1, h2, h3, h4, h5, h6⟩ := hw.2.1 k hk
  have : N 5 k ≤ 64 := by rw [h6]; exact szOf_hi h3
  exact nI_inj64 (by omega) (by omega) h
theorem nmP_det {N N' N'' : aN} {x y z : Int32} {r r' : Option Value} (h1 : nmP N x y z r N') (h2 : nmP N x y z r' N'') : r = r' ∧ N' = N'' := by
  rcases h1 with ⟨u, d, s, q1, q2, q3⟩ | ⟨q1, q2, q3⟩
  · rcases h2 with ⟨u', d', s', p1, p2, p3⟩ | ⟨p1, p2, p3⟩
    · obtain ⟨a1, a2, a3, a4, a5, a6, a7, a8⟩ := q1
      obtain ⟨b1, b2, b3, b4, b5, b6, b7, b8⟩ := p1
      have e1 := nI_inj64 (by omega) (by omega) (a1.symm.trans b1)
      have e2 := nI_inj64 (by omega) (by omega) (a2.symm.trans b2)
      have e3 := nI_inj64 (by omega) (by omega) (a3.symm.trans b3)
      subst e1; subst e2; subst e3
      exact ⟨q2.trans p2.symm, q3.trans p3.symm⟩
    · exact absurd q1 (p1 u d s)
  · rcases h2 with ⟨u', d', s', p1, p2, p3⟩ | ⟨p1, p2, p3⟩
    · exact absurd p1 (q1 u' d' s')
    · exact ⟨q2.trans p2.symm, q3.trans p3.symm⟩
theorem rnP_det {N N' N'' : aN} {k : Nat} {y : Int32} {r r' : Option Value} (h1 : rnP N k y r N') (h2 : rnP N k y r' N'') : r = r' ∧ N' = N'' := by
  rcases h1 with ⟨j, q0, q1, q2, q3⟩ | ⟨q1, q2, q3⟩
  · rcases h2 with ⟨j', p0, p1, p2, p3⟩ | ⟨p1, p2, p3⟩
    · have e1 := nI_inj64 (by omega) (by omega) (q1.symm.trans p1)
      subst e1
      exact ⟨q2.trans p2.symm, q3.trans p3.symm⟩
    · exact absurd q1 (p1 j q0)
  · rcases h2 with ⟨j', p0, p1, p2, p3⟩ | ⟨p1, p2, p3⟩
    · exact absurd p1 (q1 j' p0)
    · exact ⟨q2.trans p2.symm, q3.trans p3.symm⟩
theorem cvP_det {N N' N'' : aN} {ka kb : Nat} {r r' : Option Value} (h1 : cvP N ka kb r N') (h2 : cvP N ka kb r' N'') : r = r' ∧ N' = N'' := by
  rcases h1 with ⟨q1, q2, q3⟩ | ⟨q1, q2, q3⟩
  · rcases h2 with ⟨p1, p2, p3⟩ | ⟨p1, p2, p3⟩
    · exact ⟨q2.trans p2.symm, q3.trans p3.symm⟩
    · exact absurd q1 p1
  · rcases h2 with ⟨p1, p2, p3⟩ | ⟨p1, p2, p3⟩
    · exact absurd p1 q1
    · exact ⟨q2.trans p2.symm, q3.trans p3.symm⟩
theorem cmP_det {N : aN} {ka kb : Nat} {r r' : Option Value} (h1 : cmP N ka kb r) (h2 : cmP N ka kb r') : r = r' := by
  rcases h1 with ⟨q1, q2, q3⟩ | ⟨q1, q2⟩
  · rcases h2 with ⟨p1, p2, p3⟩ | ⟨p1, p2⟩
    · exact q3.trans p3.symm
    · exact absurd ⟨q1, q2⟩ p1
  · rcases h2 with ⟨p1, p2, p3⟩ | ⟨p1, p2⟩
    · exact absurd ⟨p1, p2⟩ q1
    · exact q2.trans p2.symm
theorem dgP_det {N : aN} {k : Nat} {y : Int32} {r r' : Option Value} (h1 : dgP N k y r) (h2 : dgP N k y r') : r = r' := by
  rcases h1 with ⟨j, q1, q2, q3, q4, q5⟩ | ⟨q1, q2⟩
  · rcases h2 with ⟨j', p1, p2, p3, p4, p5⟩ | ⟨p1, p2⟩
    · have e1 := nI_inj64 (by omega) (by omega) (q2.symm.trans p2)
      subst e1
      exact q5.trans p5.symm
    · exact absurd ⟨j, q1, q2, q3, q4⟩ p1
  · rcases h2 with ⟨j', p1, p2, p3, p4, p5⟩ | ⟨p1, p2⟩
    · exact absurd ⟨j', p1, p2, p3, p4⟩ q1
    · exact q2.trans p2.symm
theorem hfP_det {N : aN} {k : Nat} {r r' : Option Value} (h1 : hfP N k r) (h2 : hfP N k r') : r = r' := by
  rcases h1 with ⟨q1, q2⟩ | ⟨q1, q2⟩
  · rcases h2 with ⟨p1, p2⟩ | ⟨p1, p2⟩
    · exact q2.trans p2.symm
    · exact absurd q1 p1
  · rcases h2 with ⟨p1, p2⟩ | ⟨p1, p2⟩
    · exact absurd p1 q1
    · exact q2.trans p2.symm
theorem apN_det {N : aN} (hw : wfN N) {o xa xb xi : Int32} {a b i a' b' i' : Nat} (h1 : apN N o xa xb xi a b i) (h2 : apN N o xa xb xi a' b' i') : a = a' ∧ b = b' ∧ i = i' := by
  obtain ⟨q1, q2, q3, q4, q5, q6, q7⟩ := h1
  obtain ⟨p1, p2, p3, p4, p5, p6, p7⟩ := h2
  have e1 := iN_uniq hw q1 p1 (q4.symm.trans p4)
  have e3 := iN_uniq hw q3 p3 (q5.symm.trans p5)
  refine ⟨e1, ?_, e3⟩
  by_cases h5 : o = nI 5
  · rw [q6 h5, p6 h5]; exact e1
  · exact iN_uniq hw q2 p2 ((q7 h5).symm.trans (p7 h5))
theorem apP_det {N N' N'' : aN} {op : Nat} {p : Int} {a b i : Nat} {r r' : Option Value} (h1 : apP N op p a b i r N') (h2 : apP N op p a b i r' N'') : r = r' ∧ N' = N'' := by
  rcases h1 with ⟨q1, q2, q3⟩ | ⟨q1, q2, q3, q4⟩
  · rcases h2 with ⟨p1, p2, p3⟩ | ⟨p1, p2, p3, p4⟩
    · exact ⟨q2.trans p2.symm, q3.trans p3.symm⟩
    · exact absurd ⟨p1, p2⟩ q1
  · rcases h2 with ⟨p1, p2, p3⟩ | ⟨p1, p2, p3, p4⟩
    · exact absurd ⟨q1, q2⟩ p1
    · rcases q4 with ⟨a1, a2, a3⟩ | ⟨z, d, a1, a2, a3⟩
      · rcases p4 with ⟨b1, b2, b3⟩ | ⟨z', d', b1, b2, b3⟩
        · exact ⟨a2.trans b2.symm, a3.trans b3.symm⟩
        · rw [a1] at b1; cases b1
      · rcases p4 with ⟨b1, b2, b3⟩ | ⟨z', d', b1, b2, b3⟩
        · rw [a1] at b1; cases b1
        · rw [a1] at b1
          cases b1
          exact ⟨a2.trans b2.symm, a3.trans b3.symm⟩
theorem apQ_det {N N' N'' : aN} (hw : wfN N) {o xa xb xi : Int32} {r r' : Option Value} (h1 : apQ N o xa xb xi r N') (h2 : apQ N o xa xb xi r' N'') : r = r' ∧ N' = N'' := by
  obtain ⟨a, b, i, hn, q⟩ := h1
  obtain ⟨a', b', i', hn', p⟩ := h2
  obtain ⟨rfl, rfl, rfl⟩ := apN_det hw hn hn'
  rcases q with ⟨q1, q2, q3⟩ | ⟨q1, op, q2, q3, q4⟩
  · rcases p with ⟨p1, p2, p3⟩ | ⟨p1, op', p2, p3, p4⟩
    · exact ⟨q2.trans p2.symm, q3.trans p3.symm⟩
    · exact absurd p1 q1
  · rcases p with ⟨p1, p2, p3⟩ | ⟨p1, op', p2, p3, p4⟩
    · exact absurd q1 p1
    · have e := nI_inj64 (by omega) (by omega) (q3.symm.trans p3)
      subst e
      exact apP_det q4 p4
theorem apQX {N N' : aN} (hw : wfN N) {o xa xb xi : Int32} {r : Option Value} (h1 : apQ N o xa xb xi r N') (h2 : apX N o xa xb xi) : False := by
  obtain ⟨a, b, i, hn, q⟩ := h1
  obtain ⟨hV, a', b', i', op', hn', p1, p2, p3, p4, p5, p6⟩ := h2
  obtain ⟨rfl, rfl, rfl⟩ := apN_det hw hn hn'
  rcases q with ⟨q1, -⟩ | ⟨q1, op, q2, q3, q4⟩
  · exact q1 hV
  · have e := nI_inj64 (by omega) (by omega) (q3.symm.trans p2)
    subst e
    rcases q4 with ⟨r1, -⟩ | ⟨-, -, r3, -⟩
    · exact r1 ⟨p3, p4⟩
    · exact r3 ⟨p5, p6⟩
theorem apNs {N : aN} {o xa xb xi : Int32} {a b i : Nat} (h : apN N o xa xb xi a b i) : isN N xa ∧ isN N xi ∧ (o = nI 5 ∨ isN N xb) := by
  obtain ⟨q1, q2, q3, q4, q5, q6, q7⟩ := h
  refine ⟨⟨a, q1, q4⟩, ⟨i, q3, q5⟩, ?_⟩
  by_cases h5 : o = nI 5
  · exact Or.inl h5
  · exact Or.inr ⟨b, q2, q7 h5⟩
theorem apQn {N N' : aN} {o xa xb xi : Int32} {r : Option Value} (h : apQ N o xa xb xi r N') : (isN N xa ∧ isN N xi ∧ (o = nI 5 ∨ isN N xb)) ∧ ∃ w, r = some (.int w) := by
  obtain ⟨a, b, i, hn, q⟩ := h
  refine ⟨apNs hn, ?_⟩
  rcases q with ⟨-, q2, -⟩ | ⟨-, op, -, -, q4⟩
  · exact ⟨_, q2⟩
  · rcases q4 with ⟨-, r2, -⟩ | ⟨-, -, -, ⟨-, r2, -⟩ | ⟨z, d, -, r2, -⟩⟩
    · exact ⟨_, r2⟩
    · exact ⟨_, r2⟩
    · exact ⟨_, r2⟩
theorem apXn {N : aN} {o xa xb xi : Int32} (h : apX N o xa xb xi) : isN N xa ∧ isN N xi ∧ (o = nI 5 ∨ isN N xb) := by
  obtain ⟨-, a, b, i, op, hn, -⟩ := h
  exact apNs hn
theorem i32_of (x : Int32) : ∃ n, n < 2 ^ 32 ∧ x = nI n := by
  refine ⟨x.toBitVec.toNat, x.toBitVec.isLt, ?_⟩
  apply Int32.toBitVec_inj.mp
  apply BitVec.eq_of_toNat_eq
  rw [pk_tn x.toBitVec.isLt]
