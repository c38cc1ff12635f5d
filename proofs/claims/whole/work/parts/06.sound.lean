/-! ===== the calculus is sound: each clause by a row of the kit ===== -/
/-- a field by its pool number: number ci's field k of the tables -/
def aFl (own : String) (idx ci k z : Nat) : Prop := ∃ (C : String) (T : u_T) (N : Nat) (ty : Nat → FieldType), vwCl[ci]? = some (C, T, N) ∧ k < N ∧ Cond.fieldLink own idx (T k).1 (T k).2.1 (T k).2.2.1 ∈ aT ∧ (∀ w ∈ u_ws C T N, w ∈ aT) ∧ (∀ j, j < N → parseFieldDescriptor (T j).2.2.1 = some (ty j)) ∧ (∀ a, a < N → ∀ b, b < N → a ≠ b → (T a).2.1 ≠ (T b).2.1) ∧
  ((z = 0 ∧ ty k = .int) ∨ (z = 1 ∧ ty k = .boolean) ∨ (z = 2 ∧ ((∃ n, ty k = .object n) ∨ ∃ t, ty k = .array t)))
/-- a class by its pool number -/
def aCl (own : String) (idx ci n : Nat) (ts : List Nat) : Prop := ∃ (C : String) (T : u_T) (ty : Nat → FieldType), vwCl[ci]? = some (C, T, n) ∧ Cond.classLink own idx C ∈ aT ∧ Cond.instantiable C n ∈ aT ∧ Cond.initialized C ∈ aT ∧ (∀ w ∈ u_ws C T n, w ∈ aT) ∧ (∀ j, j < n → parseFieldDescriptor (T j).2.2.1 = some (ty j)) ∧ ∀ j, j < n → defaultValue (ty j) = vp_V (aBl ts) j
def aLen : Instr → Nat
  | .bipush _ => 2 | .sipush _ => 3 | .ldc _ => 2 | .ldc2_w _ => 3 | .iload _ => 2 | .lload _ => 2 | .aload _ => 2 | .istore _ => 2 | .astore _ => 2 | .lstore _ => 2 | .iinc _ _ => 3
  | .ifCond _ _ => 3 | .if_icmp _ _ => 3 | .goto _ => 3 | .getfield _ => 3 | .putfield _ => 3 | .getstatic _ => 3 | .invokevirtual _ => 3 | .invokestatic _ => 3 | .invokespecial _ => 3 | .new _ => 3 | .newarray _ => 2 | .anewarray _ => 3
  | _ => 1
def aTg (pc : Nat) : List Int → List Nat → Prop
  | [], [] => True
  | o :: r, t :: r' => (pc : Int) + o = (t : Int) ∧ aTg pc r r'
  | _, _ => False
/-- what an entry's numbers must be -/
def aEx (own : String) (nL : Nat) (ini : Bool) (pc : Nat) (i : Instr) (x y z : Nat) (ts : List Nat) : Prop :=
  match i with
  | .iconst n => Int32.ofInt n = aV x y
  | .bipush n => (Int8.ofInt n).toInt32 = aV x y
  | .sipush n => (Int16.ofInt n).toInt32 = aV x y
  | .ldc idx => Cond.constant own idx (aV x y) ∈ aT
  | .lconst n => Int64.ofNat (n : Nat) = aVl x y
  | .ldc2_w idx => Cond.constantLong own idx (aVl x y) ∈ aT
  | .iload_n k => (k : Nat) = x
  | .lload_n k => (k : Nat) = x
  | .aload_n k => (k : Nat) = x
  | .iload k => k = x
  | .lload k => k = x
  | .aload k => k = x
  | .istore_n k => (k : Nat) = x ∧ x < nL
  | .astore_n k => (k : Nat) = x ∧ x < nL
  | .lstore_n k => (k : Nat) = x ∧ x + 1 < nL
  | .istore k => k = x ∧ x < nL
  | .astore k => k = x ∧ x < nL
  | .lstore k => k = x ∧ x + 1 < nL
  | .iinc k _ => k = x ∧ x < nL
  | .ifCond _ off => (pc : Int) + off = (x : Int)
  | .if_icmp _ off => (pc : Int) + off = (x : Int)
  | .goto off => (pc : Int) + off = (x : Int)
  | .tableswitch d lo hi offs => (pc : Int) + d = (y : Int) ∧ lo = (x : Int) ∧ hi + 1 = (x : Int) + ts.length ∧ x + ts.length < 65536 ∧ aTg pc offs.toList ts
  | .getfield idx => aFl own idx x y z
  | .putfield idx => aFl own idx x y z ∧ ∃ (C : String) (T : u_T) (N : Nat), vwCl[x]? = some (C, T, N) ∧ ((T y).2.2.2 = false ∨ (ini = true ∧ (T y).1 = own))
  | .getstatic idx => Cond.fieldLink own idx "PackedDecimals$Natural" "TENS" "[I" ∈ aT
  | .new idx => z = 0 → aCl own idx x y ts
  | .newarray ty => x < 3 ∧ newarray.typeOf ty = aTy x ∧ Cond.arrayClass (newarray.typeOf ty) ∈ aT
  | .anewarray idx => Cond.classLink own idx "PackedDecimals$Numeral" ∈ aT
  | _ => True
def aBlk (own : String) (cc : ByteArray) (nL : Nat) (ini : Bool) : Nat → List aIn → Prop
  | _, [] => True
  | pc, (i, x, y, z, ts) :: r => (∃ n, decode cc pc = .ok (i, n) ∧ (n = aLen i ∨ ∃ a b c d, i = .tableswitch a b c d)) ∧ aEx own nL ini pc i x y z ts ∧ aBlk own cc nL ini (pc + aLen i) r
section SND
variable {p : Program} {l : Launch} {e : Env} {R : Room} {s : State} {m : MethodId} {args : Array Value} {below : List Frame} {meth : Method} {c : Code} {Q : State → Prop} {G : aG} {base tA : Nat} {own : String} {cc : ByteArray} {nL : Nat} {ini : Bool}
/-- the machine at a place with this abstract world comes to Q -/
def aW (p : Program) (l : Launch) (e : Env) (R : Room) (s : State) (m : MethodId) (args : Array Value) (below : List Frame) (meth : Method) (c : Code) (Q : State → Prop) (G : aG) (base nL : Nat) : aK0 := fun pc L st O A nc ns =>
  ∀ (H : Heap) (locs : List Loc) (ls : Array Slot), aRel G base O A H → va_S (fun q => base ≤ q) s.heap H locs → lv_has ls nL (aAs 0 L) → W p l e R s m args below meth c H locs nc ns Q (F0 m pc ls st)
/-- what holds in a method's body -/
def aCx (G : aG) (base tA : Nat) (own : String) (cc : ByteArray) (nL : Nat) (ini : Bool) (p : Program) (s : State) (m : MethodId) (args : Array Value) (meth : Method) (c : Code) : Prop :=
  p.tables.exec = Jvm.exec ∧ c.code = cc ∧ c.maxLocals = nL ∧ s.vm.findClass own = some m.cls ∧ (∀ w ∈ aT, w.before args s = true) ∧ aKn G s ∧ aSt base tA s s.heap ∧ aStr s ∧ (ini = true → meth.name = "<init>") ∧ base ≤ s.heap.size ∧ meth.locks = false
theorem aRel.obj {G : aG} {base : Nat} {O : aO} {A : aA} {H H' : Heap} {a ci : Nat} {fs fs' : List Value} (h : aRel G base O A H) (ha : O a = some (ci, fs)) (z : H'.size = H.size) (oq : ∀ q : Nat, q ≠ a → H'[q]? = H[q]?) (hn : va_at G.1 vwCl (a, .inr (ci, fs')) H') (hA : ∀ t x, A a ≠ some (t, x)) : aRel G base (aSet O a (ci, fs')) A H' := by
  refine ⟨by rw [z]; exact h.1, fun b cj gs hb => ?_, fun b t x hb => ?_⟩
  · by_cases e : b = a
    · rw [e, aSet_eq] at hb
      cases hb
      rw [e]
      exact ⟨(h.2.1 a ci fs ha).1, hn⟩
    · rw [aSet_ne e] at hb
      exact ⟨(h.2.1 b cj gs hb).1, (h.2.1 b cj gs hb).2.kept (oq b e)⟩
  · have e : b ≠ a := fun e => hA t x (by rw [← e]; exact hb)
    exact (h.2.2 b t x hb).kept (oq b e)
theorem aRel.arr {G : aG} {base : Nat} {O : aO} {A : aA} {H H' : Heap} {a t : Nat} {x x' : vp_A} (h : aRel G base O A H) (ha : A a = some (t, x)) (z : H'.size = H.size) (oq : ∀ q : Nat, q ≠ a → H'[q]? = H[q]?) (ht : t < 4) (hn : H'[a]? = some (vp_cell (G.2 t) x')) (hO : ∀ ci fs, O a ≠ some (ci, fs)) : aRel G base O (aSet A a (t, x')) H' := by
  refine ⟨by rw [z]; exact h.1, fun b cj gs hb => ?_, fun b u y hb => ?_⟩
  · have e : b ≠ a := fun e => hO cj gs (by rw [← e]; exact hb)
    exact ⟨(h.2.1 b cj gs hb).1, (h.2.1 b cj gs hb).2.kept (oq b e)⟩
  · by_cases e : b = a
    · rw [e, aSet_eq] at hb
      cases hb
      rw [e]
      exact Or.inl ⟨ht, ((h.2.2 a t x ha).made ht).1, hn⟩
    · rw [aSet_ne e] at hb
      exact (h.2.2 b u y hb).kept (oq b e)
end SND
