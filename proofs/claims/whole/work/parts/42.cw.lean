/-! ===== the object's state: registers, signs, numerals ===== -/
theorem aMet.mono {l : Launch} {G : aG} {base tA : Nat} {y : MethodName} {cc : ByteArray} {nL : Nat} {ret : Option FieldType} {rm : Room} {av : List Value} {O : aO} {A : aA} {P P' : aPost} (h : aMet l G base tA y cc nL ret rm av O A P) (hp : ∀ r O' A', P r O' A' → P' r O' A') : aMet l G base tA y cc nL ret rm av O A P' := by
  intro p e h1 h2 h3 s m args below h4 h5 h6 h7
  obtain ⟨n, o, a1, a2, a3, ⟨⟨v, O', A', b1, b2, b3⟩, b4⟩, b5⟩ := h p e h1 h2 h3 s m args below h4 h5 h6 h7
  exact ⟨n, o, a1, a2, a3, ⟨⟨v, O', A', b1, hp _ _ _ b2, b3⟩, b4⟩, b5⟩
theorem aBody.callW {l : Launch} {G : aG} {base tA : Nat} {own : String} {R : Room} {ret : Option FieldType} {B : Nat → Option (List aIn)} {Post : aPost} {E : aE} {J : aK0} (hb : aBody l G base tA own R ret B Post E J) {idx ci b mxL n nc ns : Nat} {y : MethodName} {cy : ByteArray} {rt : Option FieldType} {rm : Room} {As : List Value} {O : aO} {A : aA} {Po : aPost} (h1 : aLkV own idx ci y cy mxL n rt) (h2 : aMet l G base tA y cy mxL rt rm (.ref b :: As) O A Po) (h3 : As.length = n) (h4 : ∃ fs, O b = some (ci, fs)) (h5 : rm.frames + 1 ≤ R.frames ∧ 8 + (mxL + 11) + rm.locals ≤ R.locals) (h6 : nc + rm.cells ≤ R.cells) (h7 : ns + rm.slots ≤ R.slots) : eCall E (.invokevirtual idx) (.ref b :: As) O A nc ns rm.cells rm.slots Po (fun _ _ _ => False) := h4.elim fun _ h => hb.callV h1 h2 h3 h h5 h6 h7
def rU (ρ : Nat → Nat) (i v : Nat) : Nat → Nat := fun j => if j = i then v else ρ j
def bU (ρ : Nat → Bool) (i : Nat) (v : Bool) : Nat → Bool := fun j => if j = i then v else ρ j
theorem rU_eq {ρ : Nat → Nat} {i v : Nat} : rU ρ i v i = v := if_pos rfl
theorem rU_ne {ρ : Nat → Nat} {i v j : Nat} (h : j ≠ i) : rU ρ i v j = ρ j := if_neg h
theorem bU_eq {ρ : Nat → Bool} {i : Nat} {v : Bool} : bU ρ i v i = v := if_pos rfl
theorem bU_ne {ρ : Nat → Bool} {i j : Nat} {v : Bool} (h : j ≠ i) : bU ρ i v j = ρ j := if_neg h
theorem rU_rU {ρ : Nat → Nat} {i v w : Nat} : rU (rU ρ i v) i w = rU ρ i w := by
  funext j; simp only [rU]; split <;> rfl
theorem bU_bU {ρ : Nat → Bool} {i : Nat} {v w : Bool} : bU (bU ρ i v) i w = bU ρ i w := by
  funext j; simp only [bU]; split <;> rfl
theorem rU_id {ρ : Nat → Nat} {i : Nat} : rU ρ i (ρ i) = ρ := by
  funext j; simp only [rU]; split
  · rename_i h; rw [h]
  · rfl
theorem rU_id' {ρ : Nat → Nat} {i v : Nat} (h : ρ i = v) : rU ρ i v = ρ := by rw [← h]; exact rU_id
theorem bU_id {ρ : Nat → Bool} {i : Nat} : bU ρ i (ρ i) = ρ := by
  funext j; simp only [bU]; split
  · rename_i h; rw [h]
  · rfl
theorem bU_id' {ρ : Nat → Bool} {i : Nat} {v : Bool} (h : ρ i = v) : bU ρ i v = ρ := by rw [← h]; exact bU_id
theorem rU_comm {ρ : Nat → Nat} {i j v w : Nat} (h : i ≠ j) : rU (rU ρ i v) j w = rU (rU ρ j w) i v := by
  funext k; simp only [rU]; split <;> split <;> simp_all
abbrev aN : Type := Nat → Nat → Nat
/-- rows: 0 the count; 1 usage, 2 digits, 3 scale, 4 rounding, 5 size of each number; 6 + k the bytes of number k -/
def nU (N : aN) (r i v : Nat) : aN := fun r' i' => if r' = r ∧ i' = i then v else N r' i'
theorem nU_eq {N : aN} {r i v : Nat} : nU N r i v r i = v := if_pos ⟨rfl, rfl⟩
theorem nU_ne {N : aN} {r i v r' i' : Nat} (h : r' ≠ r ∨ i' ≠ i) : nU N r i v r' i' = N r' i' := if_neg (by omega)
def szOf (u d : Nat) : Nat := if u = 2 ∨ u = 3 then d + 1 else if u = 5 ∨ u = 6 then d / 2 + 1 else if u = 7 ∨ u = 8 then (if d ≤ 4 then 2 else if d ≤ 9 then 4 else if d ≤ 18 then 8 else 16) else if u = 9 then 4 else if u = 10 then 8 else if u = 11 then 2 * d + 2 else d
theorem szOf_lo {u d : Nat} (h : 1 ≤ d) : 1 ≤ szOf u d := by
  unfold szOf; repeat' split
  all_goals omega
theorem szOf_hi {u d : Nat} (h : d ≤ 31) : szOf u d ≤ 64 := by
  unfold szOf; repeat' split
  all_goals omega
def wfN (N : aN) : Prop := N 0 0 ≤ 64 ∧ (∀ k, k < N 0 0 → N 1 k ≤ 11 ∧ 1 ≤ N 2 k ∧ N 2 k ≤ 31 ∧ N 3 k ≤ N 2 k ∧ N 4 k ≤ 7 ∧ N 5 k = szOf (N 1 k) (N 2 k)) ∧ (∀ k, N 0 0 ≤ k → N 1 k = 0 ∧ N 2 k = 0 ∧ N 3 k = 0 ∧ N 4 k = 0 ∧ N 5 k = 0) ∧ ∀ k i, N (6 + k) i < 256 ∧ (N 5 k ≤ i → N (6 + k) i = 0)
/-- a byte as the machine keeps it -/
def bF (g : Nat → Nat) : Nat → Int32 := fun k => (nI (g k)).toInt8.toInt32
def natAt (O : aO) (A : aA) (a la v : Nat) : Prop := ∃ g u, nRep g u v ∧ O a = some (4, [.ref la, .int (nI u)]) ∧ A la = some (0, 20, .inl (nF g))
def zN (N : aN) : Nat := 40 + 2 * N 0 0
def nmF (Z : Nat → Nat) (N : aN) : Nat → Option Nat := fun k => if k < N 0 0 then some (Z (40 + 2 * k)) else none
def cW (tA : Nat) (Z : Nat → Nat) (ρ : Nat → Nat) (sg : Nat → Bool) (N : aN) (O0 : aO) (A0 : aA) (O : aO) (A : aA) : Prop :=
  wfN N ∧
  (∀ i j, i < zN N → j < zN N → Z i = Z j → i = j) ∧
  (∀ i, i < 15 → natAt O A (Z i) (Z (15 + i)) (ρ i)) ∧
  (∀ f, f < 3 → O (Z (30 + f)) = some (3, [.int (bI (sg f)), .ref (Z (2 * f)), .ref (Z (2 * f + 1))])) ∧
  (O (Z 33) = some (6, [.ref (Z 6)]) ∧ O (Z 34) = some (2, [.ref (Z 7), .ref (Z 8), .ref (Z 9), .ref (Z 10)]) ∧ O (Z 35) = some (7, [.ref (Z 36), .ref (Z 11), .ref (Z 12), .ref (Z 13), .ref (Z 14), .int (bI (sg 3))]) ∧ O (Z 36) = some (8, []) ∧ O (Z 37) = some (9, [.ref (Z 38), .int (nI (N 0 0)), .ref (Z 33), .ref (Z 34), .ref (Z 35), .ref (Z 30), .ref (Z 31), .ref (Z 32)])) ∧
  (∀ k, k < N 0 0 → O (Z (40 + 2 * k)) = some (5, [.int (nI (N 1 k)), .int (nI (N 2 k)), .int (nI (N 3 k)), .ref (Z (41 + 2 * k)), .int (nI (N 4 k))]) ∧ A (Z (41 + 2 * k)) = some (1, N 5 k, .inl (bF (N (6 + k))))) ∧
  A (Z 38) = some (3, 64, .inr (.inr (.inr (.inr (nmF Z N))))) ∧
  (∃ tf : Nat → Int32, A tA = some (4, 10, .inl tf) ∧ ∀ k, k < 10 → tf k = nI (10 ^ k)) ∧
  ∀ x, (∀ i, i < zN N → Z i ≠ x) → O x = O0 x ∧ A x = A0 x
section CW
variable {l : Launch} {G : aG} {base tA : Nat} {Z ρ : Nat → Nat} {sg : Nat → Bool} {N : aN} {O0 O : aO} {A0 A : aA}
theorem cW.wf (h : cW tA Z ρ sg N O0 A0 O A) : wfN N := h.1
theorem cW.inj (h : cW tA Z ρ sg N O0 A0 O A) {i j : Nat} (hi : i < zN N) (hj : j < zN N) (hij : i ≠ j) : Z i ≠ Z j := fun e => hij (h.2.1 i j hi hj e)
theorem cW.reg (h : cW tA Z ρ sg N O0 A0 O A) {i : Nat} (hi : i < 15) : natAt O A (Z i) (Z (15 + i)) (ρ i) := h.2.2.1 i hi
theorem cW.rO (h : cW tA Z ρ sg N O0 A0 O A) {i : Nat} (hi : i < 15) : ∃ fs, O (Z i) = some (4, fs) := by
  obtain ⟨g, u, -, h, -⟩ := h.reg hi
  exact ⟨_, h⟩
theorem cW.frac (h : cW tA Z ρ sg N O0 A0 O A) {f : Nat} (hf : f < 3) : O (Z (30 + f)) = some (3, [.int (bI (sg f)), .ref (Z (2 * f)), .ref (Z (2 * f + 1))]) := h.2.2.2.1 f hf
theorem cW.rdr (h : cW tA Z ρ sg N O0 A0 O A) : O (Z 33) = some (6, [.ref (Z 6)]) := h.2.2.2.2.1.1
theorem cW.ari (h : cW tA Z ρ sg N O0 A0 O A) : O (Z 34) = some (2, [.ref (Z 7), .ref (Z 8), .ref (Z 9), .ref (Z 10)]) := h.2.2.2.2.1.2.1
theorem cW.sto (h : cW tA Z ρ sg N O0 A0 O A) : O (Z 35) = some (7, [.ref (Z 36), .ref (Z 11), .ref (Z 12), .ref (Z 13), .ref (Z 14), .int (bI (sg 3))]) := h.2.2.2.2.1.2.2.1
theorem cW.wri (h : cW tA Z ρ sg N O0 A0 O A) : O (Z 36) = some (8, []) := h.2.2.2.2.1.2.2.2.1
theorem cW.obj (h : cW tA Z ρ sg N O0 A0 O A) : O (Z 37) = some (9, [.ref (Z 38), .int (nI (N 0 0)), .ref (Z 33), .ref (Z 34), .ref (Z 35), .ref (Z 30), .ref (Z 31), .ref (Z 32)]) := h.2.2.2.2.1.2.2.2.2
theorem cW.num (h : cW tA Z ρ sg N O0 A0 O A) {k : Nat} (hk : k < N 0 0) : O (Z (40 + 2 * k)) = some (5, [.int (nI (N 1 k)), .int (nI (N 2 k)), .int (nI (N 3 k)), .ref (Z (41 + 2 * k)), .int (nI (N 4 k))]) := (h.2.2.2.2.2.1 k hk).1
theorem cW.byt (h : cW tA Z ρ sg N O0 A0 O A) {k : Nat} (hk : k < N 0 0) : A (Z (41 + 2 * k)) = some (1, N 5 k, .inl (bF (N (6 + k)))) := (h.2.2.2.2.2.1 k hk).2
theorem cW.arr (h : cW tA Z ρ sg N O0 A0 O A) : A (Z 38) = some (3, 64, .inr (.inr (.inr (.inr (nmF Z N))))) := h.2.2.2.2.2.2.1
theorem cW.tens (h : cW tA Z ρ sg N O0 A0 O A) : ∃ tf : Nat → Int32, A tA = some (4, 10, .inl tf) ∧ ∀ k, k < 10 → tf k = nI (10 ^ k) := h.2.2.2.2.2.2.2.1
theorem cW.frm (h : cW tA Z ρ sg N O0 A0 O A) : ∀ x, (∀ i, i < zN N → Z i ≠ x) → O x = O0 x ∧ A x = A0 x := h.2.2.2.2.2.2.2.2
theorem cW.bnd (h : cW tA Z ρ sg N O0 A0 O A) {k : Nat} (hk : k < N 0 0) : N 1 k ≤ 11 ∧ 1 ≤ N 2 k ∧ N 2 k ≤ 31 ∧ N 3 k ≤ N 2 k ∧ N 4 k ≤ 7 ∧ N 5 k = szOf (N 1 k) (N 2 k) := h.1.2.1 k hk
/-- registers changed -/
theorem cW.regs (h : cW tA Z ρ sg N O0 A0 O A) {ρ' : Nat → Nat} {O' : aO} {A' : aA} (h1 : ∀ i, i < 15 → natAt O' A' (Z i) (Z (15 + i)) (ρ' i)) (h2 : ∀ x, (∀ i, i < 15 → x ≠ Z i) → O' x = O x) (h3 : ∀ x, (∀ i, i < 15 → x ≠ Z (15 + i)) → A' x = A x) : cW tA Z ρ' sg N O0 A0 O' A' := by
  have z : zN N = 40 + 2 * N 0 0 := rfl
  have hn : ∀ j, 15 ≤ j → j < zN N → O' (Z j) = O (Z j) := fun j j1 j2 => h2 _ fun i hi => h.inj j2 (by omega) (by omega)
  have hA : ∀ j, 30 ≤ j → j < zN N → A' (Z j) = A (Z j) := fun j j1 j2 => h3 _ fun i hi => h.inj j2 (by omega) (by omega)
  refine ⟨h.1, h.2.1, h1, fun f hf => ?_, ⟨?_, ?_, ?_, ?_, ?_⟩, fun k hk => ⟨?_, ?_⟩, ?_, ?_, fun x hx => ⟨?_, ?_⟩⟩
  · rw [hn _ (by omega) (by omega)]; exact h.frac hf
  · rw [hn _ (by omega) (by omega)]; exact h.rdr
  · rw [hn _ (by omega) (by omega)]; exact h.ari
  · rw [hn _ (by omega) (by omega)]; exact h.sto
  · rw [hn _ (by omega) (by omega)]; exact h.wri
  · rw [hn _ (by omega) (by omega)]; exact h.obj
  · rw [hn _ (by omega) (by omega)]; exact h.num hk
  · rw [hA _ (by omega) (by omega)]; exact h.byt hk
  · rw [hA _ (by omega) (by omega)]; exact h.arr
  · obtain ⟨tf, t1, t2⟩ := h.tens
    refine ⟨tf, ?_, t2⟩
    rw [h3 _ fun i hi e => ?_]
    · exact t1
    · obtain ⟨g, u, -, -, q⟩ := h.reg hi
      rw [← e, t1] at q; cases q
  · rw [h2 _ fun i hi => (hx i (by omega)).symm]; exact (h.frm x hx).1
  · rw [h3 _ fun i hi => (hx (15 + i) (by omega)).symm]; exact (h.frm x hx).2
/-- one register changed -/
theorem cW.set (h : cW tA Z ρ sg N O0 A0 O A) {i v u : Nat} {g : Nat → Nat} (hi : i < 15) (hv : nRep g u v) : cW tA Z (rU ρ i v) sg N O0 A0 (aSet O (Z i) (4, [.ref (Z (15 + i)), .int (nI u)])) (aSet A (Z (15 + i)) (0, 20, .inl (nF g))) := by
  have z : zN N = 40 + 2 * N 0 0 := rfl
  refine h.regs (fun j hj => ?_) (fun x hx => aSet_ne (hx i hi)) (fun x hx => aSet_ne (hx i hi))
  by_cases e : j = i
  · subst e
    exact ⟨g, u, by rw [rU_eq]; exact hv, aSet_eq, aSet_eq⟩
  · obtain ⟨g', u', q1, q2, q3⟩ := h.reg hj
    refine ⟨g', u', by rw [rU_ne e]; exact q1, ?_, ?_⟩
    · rw [aSet_ne (h.inj (by omega) (by omega) e)]; exact q2
    · rw [aSet_ne (h.inj (by omega) (by omega) (by omega))]; exact q3
/-- a sign changed -/
theorem cW.sgn (h : cW tA Z ρ sg N O0 A0 O A) {f : Nat} {b : Bool} (hf : f < 3) : cW tA Z ρ (bU sg f b) N O0 A0 (aSet O (Z (30 + f)) (3, [.int (bI b), .ref (Z (2 * f)), .ref (Z (2 * f + 1))])) A := by
  have z : zN N = 40 + 2 * N 0 0 := rfl
  have hn : ∀ j, j < zN N → j ≠ 30 + f → (aSet O (Z (30 + f)) (3, [.int (bI b), .ref (Z (2 * f)), .ref (Z (2 * f + 1))])) (Z j) = O (Z j) := fun j j1 j2 => aSet_ne (h.inj j1 (by omega) j2)
  refine ⟨h.1, h.2.1, fun i hi => ?_, fun f' hf' => ?_, ⟨?_, ?_, ?_, ?_, ?_⟩, fun k hk => ⟨?_, h.byt hk⟩, h.arr, h.tens, fun x hx => ⟨?_, (h.frm x hx).2⟩⟩
  · obtain ⟨g', u', q1, q2, q3⟩ := h.reg hi
    exact ⟨g', u', q1, by rw [hn _ (by omega) (by omega)]; exact q2, q3⟩
  · by_cases e : f' = f
    · subst e; rw [bU_eq, aSet_eq]
    · rw [bU_ne e, hn _ (by omega) (by omega)]; exact h.frac hf'
  · rw [hn _ (by omega) (by omega)]; exact h.rdr
  · rw [hn _ (by omega) (by omega)]; exact h.ari
  · rw [hn _ (by omega) (by omega), bU_ne (by omega)]; exact h.sto
  · rw [hn _ (by omega) (by omega)]; exact h.wri
  · rw [hn _ (by omega) (by omega)]; exact h.obj
  · rw [hn _ (by omega) (by omega)]; exact h.num hk
  · rw [aSet_ne (hx _ (by omega)).symm]; exact (h.frm x hx).1
/-- the flag of the storage changed -/
theorem cW.exa (h : cW tA Z ρ sg N O0 A0 O A) {b : Bool} : cW tA Z ρ (bU sg 3 b) N O0 A0 (aSet O (Z 35) (7, [.ref (Z 36), .ref (Z 11), .ref (Z 12), .ref (Z 13), .ref (Z 14), .int (bI b)])) A := by
  have z : zN N = 40 + 2 * N 0 0 := rfl
  have hn : ∀ j, j < zN N → j ≠ 35 → (aSet O (Z 35) (7, [.ref (Z 36), .ref (Z 11), .ref (Z 12), .ref (Z 13), .ref (Z 14), .int (bI b)])) (Z j) = O (Z j) := fun j j1 j2 => aSet_ne (h.inj j1 (by omega) j2)
  refine ⟨h.1, h.2.1, fun i hi => ?_, fun f' hf' => ?_, ⟨?_, ?_, ?_, ?_, ?_⟩, fun k hk => ⟨?_, h.byt hk⟩, h.arr, h.tens, fun x hx => ⟨?_, (h.frm x hx).2⟩⟩
  · obtain ⟨g', u', q1, q2, q3⟩ := h.reg hi
    exact ⟨g', u', q1, by rw [hn _ (by omega) (by omega)]; exact q2, q3⟩
  · rw [bU_ne (by omega), hn _ (by omega) (by omega)]; exact h.frac hf'
  · rw [hn _ (by omega) (by omega)]; exact h.rdr
  · rw [hn _ (by omega) (by omega)]; exact h.ari
  · rw [bU_eq, aSet_eq]
  · rw [hn _ (by omega) (by omega)]; exact h.wri
  · rw [hn _ (by omega) (by omega)]; exact h.obj
  · rw [hn _ (by omega) (by omega)]; exact h.num hk
  · rw [aSet_ne (hx _ (by omega)).symm]; exact (h.frm x hx).1
/-- a byte changed -/
theorem cW.byU (h : cW tA Z ρ sg N O0 A0 O A) {k i b : Nat} (hk : k < N 0 0) (hi : i < N 5 k) (hb : b < 256) : cW tA Z ρ sg (nU N (6 + k) i b) O0 A0 O (aSet A (Z (41 + 2 * k)) (1, N 5 k, .inl (upd (bF (N (6 + k))) i (nI b).toInt8.toInt32))) := by
  have z : zN N = 40 + 2 * N 0 0 := rfl
  have e0 : ∀ r j, r < 6 → nU N (6 + k) i b r j = N r j := fun r j hr => nU_ne (by omega)
  have z' : zN (nU N (6 + k) i b) = zN N := by unfold zN; rw [e0 _ _ (by decide)]
  have hn : ∀ j, j < zN N → j ≠ 41 + 2 * k → (aSet A (Z (41 + 2 * k)) (1, N 5 k, .inl (upd (bF (N (6 + k))) i (nI b).toInt8.toInt32))) (Z j) = A (Z j) := fun j j1 j2 => aSet_ne (h.inj j1 (by omega) j2)
  refine ⟨⟨?_, ?_, ?_, ?_⟩, ?_, fun i hi => ?_, fun f' hf' => h.frac hf', ⟨h.rdr, h.ari, h.sto, h.wri, ?_⟩, fun k' hk' => ⟨?_, ?_⟩, ?_, ?_, fun x hx => ⟨?_, ?_⟩⟩
  · rw [e0 _ _ (by decide)]; exact h.1.1
  · intro k' hk'
    rw [e0 _ _ (by decide)] at hk'
    rw [e0 _ _ (by decide), e0 _ _ (by decide), e0 _ _ (by decide), e0 _ _ (by decide), e0 _ _ (by decide)]; exact h.1.2.1 k' hk'
  · intro k' hk'
    rw [e0 _ _ (by decide)] at hk'
    rw [e0 _ _ (by decide), e0 _ _ (by decide), e0 _ _ (by decide), e0 _ _ (by decide), e0 _ _ (by decide)]; exact h.1.2.2.1 k' hk'
  · intro k' i'
    rw [e0 5 k' (by decide)]
    by_cases e : 6 + k' = 6 + k ∧ i' = i
    · obtain ⟨e1, e2⟩ := e
      have e1 : k' = k := by omega
      subst e1; subst e2
      rw [nU_eq]
      exact ⟨hb, fun h => by omega⟩
    · rw [nU_ne (by omega)]; exact h.1.2.2.2 k' i'
  · rw [z']; exact h.2.1
  · obtain ⟨g', u', q1, q2, q3⟩ := h.reg hi
    exact ⟨g', u', q1, q2, by rw [hn _ (by omega) (by omega)]; exact q3⟩
  · rw [e0 _ _ (by decide)]; exact h.obj
  · rw [e0 _ _ (by decide)] at hk'
    rw [e0 _ _ (by decide), e0 _ _ (by decide), e0 _ _ (by decide), e0 _ _ (by decide)]; exact h.num hk'
  · rw [e0 _ _ (by decide)] at hk'
    rw [e0 _ _ (by decide)]
    by_cases e : k' = k
    · subst e
      rw [aSet_eq]
      have : upd (bF (N (6 + k'))) i (nI b).toInt8.toInt32 = bF (nU N (6 + k') i b (6 + k')) := by
        funext j
        unfold upd bF
        by_cases e : j = i
        · subst e; rw [if_pos rfl, nU_eq]
        · rw [if_neg e, nU_ne (Or.inr e)]
      rw [this]
    · rw [hn _ (by omega) (by omega), h.byt hk']
      have : bF (N (6 + k')) = bF (nU N (6 + k) i b (6 + k')) := by
        funext j
        unfold bF
        rw [nU_ne (by omega)]
      rw [this]
  · rw [hn _ (by omega) (by omega), h.arr]
    have : nmF Z N = nmF Z (nU N (6 + k) i b) := by
      funext j
      unfold nmF
      rw [e0 _ _ (by decide)]
    rw [this]
  · obtain ⟨tf, t1, t2⟩ := h.tens
    refine ⟨tf, ?_, t2⟩
    rw [aSet_ne fun e => ?_]
    · exact t1
    · have q := h.byt hk
      rw [← e, t1] at q; cases q
  · rw [z'] at hx; exact (h.frm x hx).1
  · rw [z'] at hx; rw [aSet_ne (hx _ (by omega)).symm]; exact (h.frm x hx).2
/-- a number's rounding changed -/
theorem cW.rnd (h : cW tA Z ρ sg N O0 A0 O A) {k b : Nat} (hk : k < N 0 0) (hb : b ≤ 7) : cW tA Z ρ sg (nU N 4 k b) O0 A0 (aSet O (Z (40 + 2 * k)) (5, [.int (nI (N 1 k)), .int (nI (N 2 k)), .int (nI (N 3 k)), .ref (Z (41 + 2 * k)), .int (nI b)])) A := by
  have z : zN N = 40 + 2 * N 0 0 := rfl
  have e0 : ∀ r j, r ≠ 4 → nU N 4 k b r j = N r j := fun r j hr => nU_ne (by omega)
  have er : ∀ r, r ≠ 4 → nU N 4 k b r = N r := fun r hr => funext fun j => e0 r j hr
  have z' : zN (nU N 4 k b) = zN N := by unfold zN; rw [e0 _ _ (by decide)]
  have hn : ∀ j, j < zN N → j ≠ 40 + 2 * k → (aSet O (Z (40 + 2 * k)) (5, [.int (nI (N 1 k)), .int (nI (N 2 k)), .int (nI (N 3 k)), .ref (Z (41 + 2 * k)), .int (nI b)])) (Z j) = O (Z j) := fun j j1 j2 => aSet_ne (h.inj j1 (by omega) j2)
  refine ⟨⟨?_, ?_, ?_, ?_⟩, ?_, fun i hi => ?_, fun f' hf' => ?_, ⟨?_, ?_, ?_, ?_, ?_⟩, fun k' hk' => ⟨?_, ?_⟩, ?_, h.tens, fun x hx => ⟨?_, ?_⟩⟩
  · rw [e0 _ _ (by decide)]; exact h.1.1
  · intro k' hk'
    rw [e0 _ _ (by decide)] at hk'
    have q := h.1.2.1 k' hk'
    rw [e0 1 k' (by decide), e0 2 k' (by decide), e0 3 k' (by decide), e0 5 k' (by decide)]
    by_cases e : k' = k
    · subst e; rw [nU_eq]; exact ⟨q.1, q.2.1, q.2.2.1, q.2.2.2.1, hb, q.2.2.2.2.2⟩
    · rw [nU_ne (Or.inr e)]; exact q
  · intro k' hk'
    rw [e0 _ _ (by decide)] at hk'
    rw [e0 1 k' (by decide), e0 2 k' (by decide), e0 3 k' (by decide), e0 5 k' (by decide), nU_ne (by omega)]; exact h.1.2.2.1 k' hk'
  · intro k' i'
    rw [e0 5 k' (by decide), e0 (6 + k') i' (by omega)]
    exact h.1.2.2.2 k' i'
  · rw [z']; exact h.2.1
  · obtain ⟨g', u', q1, q2, q3⟩ := h.reg hi
    exact ⟨g', u', q1, by rw [hn _ (by omega) (by omega)]; exact q2, q3⟩
  · rw [hn _ (by omega) (by omega)]; exact h.frac hf'
  · rw [hn _ (by omega) (by omega)]; exact h.rdr
  · rw [hn _ (by omega) (by omega)]; exact h.ari
  · rw [hn _ (by omega) (by omega)]; exact h.sto
  · rw [hn _ (by omega) (by omega)]; exact h.wri
  · rw [e0 _ _ (by decide), hn _ (by omega) (by omega)]; exact h.obj
  · rw [e0 _ _ (by decide)] at hk'
    rw [e0 _ _ (by decide), e0 _ _ (by decide), e0 _ _ (by decide)]
    by_cases e : k' = k
    · subst e; rw [nU_eq, aSet_eq]
    · rw [nU_ne (Or.inr e), hn _ (by omega) (by omega)]; exact h.num hk'
  · rw [e0 _ _ (by decide)] at hk'
    rw [e0 _ _ (by decide), er _ (by omega)]; exact h.byt hk'
  · rw [h.arr]
    have : nmF Z N = nmF Z (nU N 4 k b) := by
      funext j
      unfold nmF
      rw [e0 _ _ (by decide)]
    rw [this]
  · rw [z'] at hx; rw [aSet_ne (hx _ (by omega)).symm]; exact (h.frm x hx).1
  · rw [z'] at hx; exact (h.frm x hx).2
end CW
