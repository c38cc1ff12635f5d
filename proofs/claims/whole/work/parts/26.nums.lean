/-! ===== numbers ===== -/
theorem lN_sar {w k : Nat} (h : w < 2 ^ 62) (hk : k < 64) : lN w >>> ((nI k).toInt64 &&& 63) = lN (w / 2 ^ k) := by
  rw [wb_c k hk]
  exact pf_shr (by rw [wb_tb, wb_sm k hk, BitVec.toNat_ofNat, Nat.mod_eq_of_lt (by omega)]) h
theorem nI_mask (w : Nat) : nI w &&& nI 2147483647 = nI (w % 2 ^ 31) := by
  rw [pk_and (nI w) 31 (by decide)]
  congr 1
  show (BitVec.ofNat 32 w).toNat % 2 ^ 31 = w % 2 ^ 31
  rw [BitVec.toNat_ofNat]
  omega
theorem nI_one : Int32.ofInt 1 = nI 1 := rfl
theorem nI_inc (n : Nat) : nI n + Int32.ofInt 1 = nI (n + 1) := nI_1 n
theorem nI_dec {n : Nat} (h : 0 < n) : nI n + Int32.ofInt (-1) = nI (n - 1) := by
  obtain ⟨m, rfl⟩ : ∃ m, n = m + 1 := ⟨n - 1, by omega⟩
  exact pk_m1 m
theorem nI_z {n : Nat} (h : n < 2 ^ 31) : (nI n = 0) ↔ n = 0 := by
  rw [← nI_0]; exact nI_eq h (by decide)
theorem lg_cmp_z {a b : Nat} (ha : a < 2 ^ 63) (hb : b < 2 ^ 63) : (lg_cmp (lN a) (lN b) = 0) ↔ a = b := by
  rw [lg_cmp_eq, pk_lEQ ha hb]
/-- an int array of naturals -/
def nF (g : Nat → Nat) : Nat → Int32 := fun k => nI (g k)
def uN9 (g : Nat → Nat) (i y : Nat) : Nat → Nat := fun k => if k = i then y else g k
theorem nF_at (g : Nat → Nat) (k : Nat) : nF g k = nI (g k) := rfl
theorem nF_upd (g : Nat → Nat) (i y : Nat) : upd (nF g) i (nI y) = nF (uN9 g i y) := by
  funext k; simp only [upd, nF, uN9]; split <;> rfl
theorem uN9_eq {g : Nat → Nat} {i y : Nat} : uN9 g i y i = y := if_pos rfl
theorem uN9_ne {g : Nat → Nat} {i y k : Nat} (h : k ≠ i) : uN9 g i y k = g k := if_neg h
theorem nF_0 : (fun _ => 0 : Nat → Int32) = nF (fun _ => 0) := by funext k; exact nI_0.symm
/-- places where a walk stops: heads of loops, behind calls -/
def aCuts : List Nat → aK0 → Nat → Option aKc
  | [], _, _ => none
  | k :: r, J, pc => if pc = k then some (J pc) else aCuts r J pc
theorem aCuts_ok {J : aK0} : ∀ (ks : List Nat) (pc : Nat) (Q : aKc), aCuts ks J pc = some Q → ∀ L st O A nc ns, Q L st O A nc ns → J pc L st O A nc ns
  | [], _, _, h => by cases h
  | k :: r, pc, Q, h => by
    unfold aCuts at h
    split at h
    · cases h
      exact fun _ _ _ _ _ _ h => h
    · exact aCuts_ok r pc Q h
/-- a truth as an int -/
def bI (b : Bool) : Int32 := nI (if b then 1 else 0)
theorem bI_t : bI true = nI 1 := rfl
theorem bI_f : bI false = nI 0 := rfl
theorem nar_b (b : Bool) : narrow .boolean (.int (bI b)) = .int (bI b) := by cases b <;> decide +kernel
theorem nar_b0 : narrow .boolean (.int (nI 0)) = .int (nI 0) := by decide +kernel
theorem nar_b1 : narrow .boolean (.int (nI 1)) = .int (nI 1) := by decide +kernel
theorem nar_i (v : Int32) : narrow .int (.int v) = .int v := rfl
/-! ===== long naturals in limbs of 31 bits ===== -/
def nVal (g : Nat → Nat) : Nat → Nat
  | 0 => 0
  | n + 1 => nVal g n + g n * 2147483648 ^ n
theorem nVal_congr {g h : Nat → Nat} : ∀ {n : Nat}, (∀ k, k < n → g k = h k) → nVal g n = nVal h n
  | 0, _ => rfl
  | n + 1, e => by
    simp only [nVal]
    rw [nVal_congr (n := n) (fun k hk => e k (by omega)), e n (by omega)]
theorem nVal_lt {g : Nat → Nat} : ∀ {n : Nat}, (∀ k, k < n → g k < 2147483648) → nVal g n < 2147483648 ^ n
  | 0, _ => by simp [nVal]
  | n + 1, h => by
    have h1 := nVal_lt (n := n) (fun k hk => h k (by omega))
    have h2 := h n (by omega)
    simp only [nVal, Nat.pow_succ]
    calc nVal g n + g n * 2147483648 ^ n < 2147483648 ^ n + g n * 2147483648 ^ n := by omega
      _ = (g n + 1) * 2147483648 ^ n := by rw [Nat.add_mul]; omega
      _ ≤ 2147483648 * 2147483648 ^ n := Nat.mul_le_mul_right _ (by omega)
      _ = 2147483648 ^ n * 2147483648 := Nat.mul_comm _ _
/-- the number that a row of limbs holds: used ones are those up to the highest that is not 0 -/
def nRep (g : Nat → Nat) (u v : Nat) : Prop := u ≤ 20 ∧ (∀ k, k < 20 → g k < 2147483648) ∧ (∀ k, u ≤ k → k < 20 → g k = 0) ∧ (0 < u → g (u - 1) ≠ 0) ∧ v = nVal g u
theorem nRep.lt {g : Nat → Nat} {u v : Nat} (h : nRep g u v) : v < 2147483648 ^ u := by
  obtain ⟨h1, h2, h3, h4, rfl⟩ := h
  exact nVal_lt (fun k hk => h2 k (by omega))
theorem nVal_ge {g : Nat → Nat} {u : Nat} (hu : 0 < u) (h : g (u - 1) ≠ 0) : 2147483648 ^ (u - 1) ≤ nVal g u := by
  obtain ⟨m, rfl⟩ : ∃ m, u = m + 1 := ⟨u - 1, by omega⟩
  simp only [nVal, Nat.add_sub_cancel] at h ⊢
  have : 1 * 2147483648 ^ m ≤ g m * 2147483648 ^ m := Nat.mul_le_mul_right _ (by omega)
  omega
theorem nRep.zero {g : Nat → Nat} {u v : Nat} (h : nRep g u v) : v = 0 ↔ u = 0 := by
  obtain ⟨h1, h2, h3, h4, rfl⟩ := h
  constructor
  · intro hv
    rcases Nat.eq_zero_or_pos u with hu | hu
    · exact hu
    · have := nVal_ge hu (h4 hu)
      have : 0 < 2147483648 ^ (u - 1) := Nat.pow_pos (by decide)
      omega
  · rintro rfl; rfl
section BODY
variable {l : Launch} {G : aG} {base tA : Nat} {own : String} {R : Room} {ret : Option FieldType} {B : Nat → Option (List aIn)} {Post : aPost} {E : aE} {J : aK0}
theorem aBody.run (hb : aBody l G base tA own R ret B Post E J) (K : Nat → Option aKc) (n pc : Nat) (L : aL) (st : List Value) (O : aO) (A : aA) (nc ns : Nat) (hK : ∀ pc P, K pc = some P → ∀ L st O A nc ns, P L st O A nc ns → J pc L st O A nc ns) (h : wp1 E B K n pc L st O A nc ns) : J pc L st O A nc ns := hb.1 K n pc L st O A nc ns hK h
theorem aBody.callV (hb : aBody l G base tA own R ret B Post E J) {idx ci b mxL n nc ns : Nat} {y : MethodName} {cy : ByteArray} {rt : Option FieldType} {rm : Room} {As fs : List Value} {O : aO} {A : aA} {Po : aPost} (h1 : aLkV own idx ci y cy mxL n rt) (h2 : aMet l G base tA y cy mxL rt rm (.ref b :: As) O A Po) (h3 : As.length = n) (h4 : O b = some (ci, fs)) (h5 : rm.frames + 1 ≤ R.frames ∧ 8 + (mxL + 11) + rm.locals ≤ R.locals) (h6 : nc + rm.cells ≤ R.cells) (h7 : ns + rm.slots ≤ R.slots) : eCall E (.invokevirtual idx) (.ref b :: As) O A nc ns rm.cells rm.slots Po (fun _ _ _ => False) := hb.2.1 h1 h2 h3 h4 h5 h6 h7
theorem aBody.callS (hb : aBody l G base tA own R ret B Post E J) {idx mxL n nc ns : Nat} {y : MethodName} {cy : ByteArray} {rt : Option FieldType} {rm : Room} {As : List Value} {O : aO} {A : aA} {Po : aPost} (h1 : aLkS own idx y cy mxL n rt) (h2 : aMet l G base tA y cy mxL rt rm As O A Po) (h3 : As.length = n) (h5 : rm.frames + 1 ≤ R.frames ∧ 8 + (mxL + 11) + rm.locals ≤ R.locals) (h6 : nc + rm.cells ≤ R.cells) (h7 : ns + rm.slots ≤ R.slots) : eCall E (.invokestatic idx) As O A nc ns rm.cells rm.slots Po (fun _ _ _ => False) := hb.2.2.1 h1 h2 h3 h5 h6 h7
theorem aBody.callI (hb : aBody l G base tA own R ret B Post E J) {idx b mxL n nc ns : Nat} {y : MethodName} {cy : ByteArray} {rm : Room} {As : List Value} {O : aO} {A : aA} {Po : aPost} (h1 : aLkI own idx y cy mxL n) (h2 : aMet l G base tA y cy mxL none rm (.ref b :: As) O A Po) (h3 : As.length = n) (h5 : rm.frames + 1 ≤ R.frames ∧ 8 + (mxL + 11) + rm.locals ≤ R.locals) (h6 : nc + rm.cells ≤ R.cells) (h7 : ns + rm.slots ≤ R.slots) : eCall E (.invokespecial idx) (.ref b :: As) O A nc ns rm.cells rm.slots Po (fun _ _ _ => False) := hb.2.2.2.1 h1 h2 h3 h5 h6 h7
theorem aBody.objInit (hb : aBody l G base tA own R ret B Post E J) {idx b nc ns : Nat} {O : aO} {A : aA} (h1 : Cond.methodLink own idx Lib.objectInit ∈ aT) (h2 : 1 ≤ R.frames) (h3 : 20 ≤ R.locals) : eCall E (.invokespecial idx) [.ref b] O A nc ns 0 0 (fun v O' A' => v = none ∧ O' = O ∧ A' = A) (fun _ _ _ => False) := hb.2.2.2.2.1 h1 h2 h3
theorem aBody.rets (hb : aBody l G base tA own R ret B Post E J) {v : Option Value} {O : aO} {A : aA} {nc ns : Nat} (h : Post v O A) (h1 : nc ≤ R.cells) (h2 : ns ≤ R.slots) : eRet E v O A nc ns := hb.2.2.2.2.2.1 v O A nc ns h h1 h2
theorem aBody.tens (hb : aBody l G base tA own R ret B Post E J) : eTA E = tA := hb.2.2.2.2.2.2.1
theorem aBody.rt (hb : aBody l G base tA own R ret B Post E J) : eRt E = ret := hb.2.2.2.2.2.2.2.1
theorem aBody.rc (hb : aBody l G base tA own R ret B Post E J) : eRc E = R.cells := hb.2.2.2.2.2.2.2.2.1
theorem aBody.rs (hb : aBody l G base tA own R ret B Post E J) : eRs E = R.slots := hb.2.2.2.2.2.2.2.2.2
/-- the end with an int (a boolean, a byte, a short) -/
theorem aBody.iret {ty : FieldType} (hb : aBody l G base tA own R (some ty) B Post E J) {v : Int32} {O : aO} {A : aA} {nc ns : Nat} (hn : narrow ty (.int v) = .int v) (h : Post (some (.int v)) O A) (h1 : nc ≤ R.cells) (h2 : ns ≤ R.slots) : (∃ ty, eRt E = some ty ∧ narrow ty (.int v) = .int v) ∧ eRet E (some (.int v)) O A nc ns := ⟨⟨ty, hb.rt, hn⟩, hb.rets h h1 h2⟩
theorem aBody.lret (hb : aBody l G base tA own R (some .long) B Post E J) {v : Int64} {O : aO} {A : aA} {nc ns : Nat} (h : Post (some (.long v)) O A) (h1 : nc ≤ R.cells) (h2 : ns ≤ R.slots) : eRt E = some .long ∧ eRet E (some (.long v)) O A nc ns := ⟨hb.rt, hb.rets h h1 h2⟩
theorem aBody.aret {n : String} (hb : aBody l G base tA own R (some (.object n)) B Post E J) {v : Nat} {O : aO} {A : aA} {nc ns : Nat} (h : Post (some (.ref v)) O A) (h1 : nc ≤ R.cells) (h2 : ns ≤ R.slots) : (∃ n, eRt E = some (.object n)) ∧ eRet E (some (.ref v)) O A nc ns := ⟨⟨n, hb.rt⟩, hb.rets h h1 h2⟩
theorem aBody.vret (hb : aBody l G base tA own R none B Post E J) {O : aO} {A : aA} {nc ns : Nat} (h : Post none O A) (h1 : nc ≤ R.cells) (h2 : ns ≤ R.slots) : eRt E = none ∧ eRet E none O A nc ns := ⟨hb.rt, hb.rets h h1 h2⟩
end BODY
abbrev rmZ : Room := { frames := 1, cells := 0, slots := 0, locals := 0 }
