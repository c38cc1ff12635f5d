/-! ===== what one instruction asks: a calculus over the abstract world ===== -/
abbrev aIn : Type := Instr × Nat × Nat × Nat × List Nat
abbrev aPost : Type := Option Value → aO → aA → Prop
abbrev aPostX : Type := String → aO → aA → Prop
/-- calls, the return, an exception that comes out of a call, a throw, (TENS, the answer's type, the room for cells and slots) -/
abbrev aE : Type := (Instr → List Value → aO → aA → Nat → Nat → Nat → Nat → aPost → aPostX → Prop) × (Option Value → aO → aA → Nat → Nat → Prop) × (Nat → String → aKc) × (Nat → Nat → aKc) × Nat × Option FieldType × Nat × Nat
def eCall (E : aE) := E.1
def eRet (E : aE) := E.2.1
def eExc (E : aE) := E.2.2.1
def eThr (E : aE) := E.2.2.2.1
def eTA (E : aE) := E.2.2.2.2.1
def eRt (E : aE) := E.2.2.2.2.2.1
def eRc (E : aE) := E.2.2.2.2.2.2.1
def eRs (E : aE) := E.2.2.2.2.2.2.2
def aV : Nat → Nat → Int32
  | x, 0 => nI x
  | x, _ + 1 => -nI x
def aVl : Nat → Nat → Int64
  | x, 0 => lN x
  | x, _ + 1 => -lN x
def aNth : List Value → Nat → Option Value
  | [], _ => none
  | v :: _, 0 => some v
  | _ :: r, n + 1 => aNth r n
def aPut : List Value → Nat → Value → List Value
  | [], _, _ => []
  | _ :: r, 0, v => v :: r
  | w :: r, n + 1, v => w :: aPut r n v
/-- may the field of this kind (0 int, 1 boolean, 2 a reference) hold it -/
def aFz : Nat → Value → Prop
  | 0, .int _ => True
  | 1, .int v => v = 0 ∨ v = 1
  | 2, .ref _ => True
  | 2, .null => True
  | _, _ => False
def aBl : List Nat → List Value
  | [] => []
  | 2 :: r => .null :: aBl r
  | _ :: r => .int 0 :: aBl r
/-- the condition of a jump -/
def aC0 : ClassFile.Cond → Int32 → Prop
  | .eq, x => x = 0
  | .ne, x => ¬ x = 0
  | .lt, x => x < 0
  | .ge, x => 0 ≤ x
  | .gt, x => 0 < x
  | .le, x => x ≤ 0
def aC2 : ClassFile.Cond → Int32 → Int32 → Prop
  | .eq, x, y => x = y
  | .ne, x, y => ¬ x = y
  | .lt, x, y => x < y
  | .ge, x, y => y ≤ x
  | .gt, x, y => y < x
  | .le, x, y => x ≤ y
/-- a switch: the places from lo on, else d -/
def aSw (v : Int32) (J : Nat → Prop) (d l0 : Nat) : Nat → List Nat → Prop
  | lo, [] => v.toInt < (l0 : Int) ∨ (lo : Int) ≤ v.toInt → J d
  | lo, t :: r => (v = nI lo → J t) ∧ aSw v J d l0 (lo + 1) r
def aCat1 : Value → Prop
  | .long _ => False
  | .double _ => False
  | _ => True
def wpi (E : aE) (jmp nxt : aK0) (i : Instr) (x y z : Nat) (ts : List Nat) (pc : Nat) (L : aL) (st : List Value) (O : aO) (A : aA) (nc ns : Nat) : Prop :=
  match i with
  | .iconst _ => nxt (pc + 1) L (.int (aV x y) :: st) O A nc ns
  | .bipush _ => nxt (pc + 2) L (.int (aV x y) :: st) O A nc ns
  | .sipush _ => nxt (pc + 3) L (.int (aV x y) :: st) O A nc ns
  | .ldc _ => nxt (pc + 2) L (.int (aV x y) :: st) O A nc ns
  | .lconst _ => nxt (pc + 1) L (.long (aVl x y) :: st) O A nc ns
  | .ldc2_w _ => nxt (pc + 3) L (.long (aVl x y) :: st) O A nc ns
  | .iload_n _ => (match lget L x with | some (.int v) => nxt (pc + 1) L (.int v :: st) O A nc ns | _ => False)
  | .iload _ => (match lget L x with | some (.int v) => nxt (pc + 2) L (.int v :: st) O A nc ns | _ => False)
  | .lload_n _ => (match lget L x with | some (.long v) => nxt (pc + 1) L (.long v :: st) O A nc ns | _ => False)
  | .lload _ => (match lget L x with | some (.long v) => nxt (pc + 2) L (.long v :: st) O A nc ns | _ => False)
  | .aload_n _ => (match lget L x with | some (.ref v) => nxt (pc + 1) L (.ref v :: st) O A nc ns | _ => False)
  | .aload _ => (match lget L x with | some (.ref v) => nxt (pc + 2) L (.ref v :: st) O A nc ns | _ => False)
  | .istore_n _ => (match st with | .int v :: r => nxt (pc + 1) (lput1 L x (.int v)) r O A nc ns | _ => False)
  | .istore _ => (match st with | .int v :: r => nxt (pc + 2) (lput1 L x (.int v)) r O A nc ns | _ => False)
  | .astore_n _ => (match st with | .ref v :: r => nxt (pc + 1) (lput1 L x (.ref v)) r O A nc ns | _ => False)
  | .astore _ => (match st with | .ref v :: r => nxt (pc + 2) (lput1 L x (.ref v)) r O A nc ns | _ => False)
  | .lstore_n _ => (match st with | .long v :: r => nxt (pc + 1) (lput2 L x (.long v)) r O A nc ns | _ => False)
  | .lstore _ => (match st with | .long v :: r => nxt (pc + 2) (lput2 L x (.long v)) r O A nc ns | _ => False)
  | .iinc _ c => (match lget L x with | some (.int v) => nxt (pc + 3) (lput1 L x (.int (v + Int32.ofInt c))) st O A nc ns | _ => False)
  | .iadd => (match st with | .int b :: .int a :: r => nxt (pc + 1) L (.int (a + b) :: r) O A nc ns | _ => False)
  | .isub => (match st with | .int b :: .int a :: r => nxt (pc + 1) L (.int (a - b) :: r) O A nc ns | _ => False)
  | .imul => (match st with | .int b :: .int a :: r => nxt (pc + 1) L (.int (a * b) :: r) O A nc ns | _ => False)
  | .iand => (match st with | .int b :: .int a :: r => nxt (pc + 1) L (.int (a &&& b) :: r) O A nc ns | _ => False)
  | .ior => (match st with | .int b :: .int a :: r => nxt (pc + 1) L (.int (a ||| b) :: r) O A nc ns | _ => False)
  | .idiv => (match st with | .int b :: .int a :: r => ¬ b = 0 ∧ nxt (pc + 1) L (.int (a / b) :: r) O A nc ns | _ => False)
  | .irem => (match st with | .int b :: .int a :: r => ¬ b = 0 ∧ nxt (pc + 1) L (.int (a - a / b * b) :: r) O A nc ns | _ => False)
  | .ishl => (match st with | .int b :: .int a :: r => nxt (pc + 1) L (.int (a <<< (b &&& 31)) :: r) O A nc ns | _ => False)
  | .ishr => (match st with | .int b :: .int a :: r => nxt (pc + 1) L (.int (a >>> (b &&& 31)) :: r) O A nc ns | _ => False)
  | .ineg => (match st with | .int a :: r => nxt (pc + 1) L (.int (-a) :: r) O A nc ns | _ => False)
  | .lneg => (match st with | .long a :: r => nxt (pc + 1) L (.long (-a) :: r) O A nc ns | _ => False)
  | .ladd => (match st with | .long b :: .long a :: r => nxt (pc + 1) L (.long (a + b) :: r) O A nc ns | _ => False)
  | .lsub => (match st with | .long b :: .long a :: r => nxt (pc + 1) L (.long (a - b) :: r) O A nc ns | _ => False)
  | .lmul => (match st with | .long b :: .long a :: r => nxt (pc + 1) L (.long (a * b) :: r) O A nc ns | _ => False)
  | .land => (match st with | .long b :: .long a :: r => nxt (pc + 1) L (.long (a &&& b) :: r) O A nc ns | _ => False)
  | .lor => (match st with | .long b :: .long a :: r => nxt (pc + 1) L (.long (a ||| b) :: r) O A nc ns | _ => False)
  | .ldiv => (match st with | .long b :: .long a :: r => ¬ b = 0 ∧ nxt (pc + 1) L (.long (a / b) :: r) O A nc ns | _ => False)
  | .lrem => (match st with | .long b :: .long a :: r => ¬ b = 0 ∧ nxt (pc + 1) L (.long (a - a / b * b) :: r) O A nc ns | _ => False)
  | .lshl => (match st with | .int b :: .long a :: r => nxt (pc + 1) L (.long (a <<< (b.toInt64 &&& 63)) :: r) O A nc ns | _ => False)
  | .lshr => (match st with | .int b :: .long a :: r => nxt (pc + 1) L (.long (a >>> (b.toInt64 &&& 63)) :: r) O A nc ns | _ => False)
  | .lushr => (match st with | .int b :: .long a :: r => nxt (pc + 1) L (.long ((a.toUInt64 >>> (b.toInt64.toUInt64 &&& Int64.toUInt64 63)).toInt64) :: r) O A nc ns | _ => False)
  | .lcmp => (match st with | .long b :: .long a :: r => nxt (pc + 1) L (.int (lg_cmp a b) :: r) O A nc ns | _ => False)
  | .i2l => (match st with | .int a :: r => nxt (pc + 1) L (.long a.toInt64 :: r) O A nc ns | _ => False)
  | .l2i => (match st with | .long a :: r => nxt (pc + 1) L (.int a.toInt32 :: r) O A nc ns | _ => False)
  | .i2b => (match st with | .int a :: r => nxt (pc + 1) L (.int a.toInt8.toInt32 :: r) O A nc ns | _ => False)
  | .i2s => (match st with | .int a :: r => nxt (pc + 1) L (.int a.toInt16.toInt32 :: r) O A nc ns | _ => False)
  | .dup => (match st with | v :: r => aCat1 v ∧ nxt (pc + 1) L (v :: v :: r) O A nc ns | _ => False)
  | .pop => (match st with | v :: r => aCat1 v ∧ nxt (pc + 1) L r O A nc ns | _ => False)
  | .dup2 => (match st with | v :: w :: r => aCat1 v ∧ aCat1 w ∧ nxt (pc + 1) L (v :: w :: v :: w :: r) O A nc ns | _ => False)
  | .ifCond c _ => (match st with | .int v :: r => (aC0 c v → jmp x L r O A nc ns) ∧ (¬ aC0 c v → jmp (pc + 3) L r O A nc ns) | _ => False)
  | .if_icmp c _ => (match st with | .int w :: .int v :: r => (aC2 c v w → jmp x L r O A nc ns) ∧ (¬ aC2 c v w → jmp (pc + 3) L r O A nc ns) | _ => False)
  | .goto _ => jmp x L st O A nc ns
  | .tableswitch _ _ _ _ => (match st with | .int v :: r => aSw v (fun t => jmp t L r O A nc ns) y x x ts | _ => False)
  | .getfield _ => (match st with | .ref a :: r => (match O a with | some (ci, fs) => ci = x ∧ (match aNth fs y with | some v => nxt (pc + 3) L (v :: r) O A nc ns | none => False) | none => False) | _ => False)
  | .putfield _ => (match st with | v :: .ref a :: r => (match O a with | some (ci, fs) => ci = x ∧ y < fs.length ∧ aFz z v ∧ nxt (pc + 3) L r (aSet O a (ci, aPut fs y v)) A nc ns | none => False) | _ => False)
  | .getstatic _ => nxt (pc + 3) L (.ref (eTA E) :: st) O A nc ns
  | .iaload => (match st with | .int i :: .ref a :: r => (match A a with | some (t, n, .inl f) => (t = 0 ∨ 4 ≤ t) ∧ vp_in i n ∧ nxt (pc + 1) L (.int (f i.toNatClampNeg) :: r) O A nc ns | _ => False) | _ => False)
  | .baload => (match st with | .int i :: .ref a :: r => (match A a with | some (t, n, .inl f) => t = 1 ∧ vp_in i n ∧ nxt (pc + 1) L (.int (f i.toNatClampNeg) :: r) O A nc ns | _ => False) | _ => False)
  | .laload => (match st with | .int i :: .ref a :: r => (match A a with | some (t, n, .inr (.inl f)) => t = 2 ∧ vp_in i n ∧ nxt (pc + 1) L (.long (f i.toNatClampNeg) :: r) O A nc ns | _ => False) | _ => False)
  | .aaload => (match st with | .int i :: .ref a :: r => (match A a with | some (t, n, .inr (.inr (.inr (.inr f)))) => t = 3 ∧ vp_in i n ∧ nxt (pc + 1) L (va_rf (f i.toNatClampNeg) :: r) O A nc ns | _ => False) | _ => False)
  | .iastore => (match st with | .int v :: .int i :: .ref a :: r => (match A a with | some (t, n, .inl f) => t = 0 ∧ vp_in i n ∧ nxt (pc + 1) L r O (aSet A a (t, n, .inl (upd f i.toNatClampNeg v))) nc ns | _ => False) | _ => False)
  | .bastore => (match st with | .int v :: .int i :: .ref a :: r => (match A a with | some (t, n, .inl f) => t = 1 ∧ vp_in i n ∧ nxt (pc + 1) L r O (aSet A a (t, n, .inl (upd f i.toNatClampNeg (vp_nar .byte v)))) nc ns | _ => False) | _ => False)
  | .lastore => (match st with | .long v :: .int i :: .ref a :: r => (match A a with | some (t, n, .inr (.inl f)) => t = 2 ∧ vp_in i n ∧ nxt (pc + 1) L r O (aSet A a (t, n, .inr (.inl (vp_updL f i.toNatClampNeg v)))) nc ns | _ => False) | _ => False)
  | .aastore => (match st with | .ref v :: .int i :: .ref a :: r => (match A a with | some (t, n, .inr (.inr (.inr (.inr f)))) => t = 3 ∧ vp_in i n ∧ (∃ fs, O v = some (5, fs)) ∧ nxt (pc + 1) L r O (aSet A a (t, n, .inr (.inr (.inr (.inr (va_up f i.toNatClampNeg (some v))))))) nc ns | _ => False) | _ => False)
  | .arraylength => (match st with | .ref a :: r => (match A a with | some (_, n, _) => nxt (pc + 1) L (.int (nI n) :: r) O A nc ns | _ => False) | _ => False)
  | .invokevirtual _ => x ≤ st.length ∧ ∃ (Post : aPost) (PostX : aPostX) (mc ms : Nat), eCall E i (st.take x).reverse O A nc ns mc ms Post PostX ∧ (st.drop x).length ≤ 4 ∧ (∀ v O' A', Post v O' A' → nxt (pc + 3) L (v.toList ++ st.drop x) O' A' (nc + mc) (ns + ms)) ∧ ∀ n O' A', PostX n O' A' → eExc E pc n L (st.drop x) O' A' (nc + mc) (ns + ms)
  | .invokestatic _ => x ≤ st.length ∧ ∃ (Post : aPost) (PostX : aPostX) (mc ms : Nat), eCall E i (st.take x).reverse O A nc ns mc ms Post PostX ∧ (st.drop x).length ≤ 4 ∧ (∀ v O' A', Post v O' A' → nxt (pc + 3) L (v.toList ++ st.drop x) O' A' (nc + mc) (ns + ms)) ∧ ∀ n O' A', PostX n O' A' → eExc E pc n L (st.drop x) O' A' (nc + mc) (ns + ms)
  | .invokespecial _ => x ≤ st.length ∧ ∃ (Post : aPost) (PostX : aPostX) (mc ms : Nat), eCall E i (st.take x).reverse O A nc ns mc ms Post PostX ∧ (st.drop x).length ≤ 4 ∧ (∀ v O' A', Post v O' A' → nxt (pc + 3) L (v.toList ++ st.drop x) O' A' (nc + mc) (ns + ms)) ∧ ∀ n O' A', PostX n O' A' → eExc E pc n L (st.drop x) O' A' (nc + mc) (ns + ms)
  | .new _ => (match z with
    | 0 => nc + 1 ≤ eRc E ∧ ns + y ≤ eRs E ∧ ∀ q : Nat, (∀ a, O a ≠ none → a < q) → (∀ a, A a ≠ none → a < q) → nxt (pc + 3) L (.ref q :: st) (aSet O q (x, aBl ts)) A (nc + 1) (ns + y)
    | _ => eThr E z pc L st O A nc ns)
  | .newarray _ => (match st with | .int n :: r => ∃ N : Nat, n = nI N ∧ N ≤ 65536 ∧ nc + 1 ≤ eRc E ∧ ns + N ≤ eRs E ∧ ∀ q : Nat, (∀ a, O a ≠ none → a < q) → (∀ a, A a ≠ none → a < q) → nxt (pc + 2) L (.ref q :: r) O (aSet A q (x, N, if x = 2 then .inr (.inl fun _ => 0) else .inl fun _ => 0)) (nc + 1) (ns + N) | _ => False)
  | .anewarray _ => (match st with | .int n :: r => ∃ N : Nat, n = nI N ∧ N ≤ 65536 ∧ nc + 1 ≤ eRc E ∧ ns + N ≤ eRs E ∧ ∀ q : Nat, (∀ a, O a ≠ none → a < q) → (∀ a, A a ≠ none → a < q) → nxt (pc + 3) L (.ref q :: r) O (aSet A q (3, N, .inr (.inr (.inr (.inr fun _ => none))))) (nc + 1) (ns + N) | _ => False)
  | .ireturn => (match st with | [.int v] => (∃ ty, eRt E = some ty ∧ narrow ty (.int v) = .int v) ∧ eRet E (some (.int v)) O A nc ns | _ => False)
  | .lreturn => (match st with | [.long v] => eRt E = some .long ∧ eRet E (some (.long v)) O A nc ns | _ => False)
  | .areturn => (match st with | [.ref v] => (∃ n, eRt E = some (.object n)) ∧ eRet E (some (.ref v)) O A nc ns | _ => False)
  | .return_ => (match st with | [] => eRt E = none ∧ eRet E none O A nc ns | _ => False)
  | _ => False
def wpl (E : aE) (jmp : aK0) : List aIn → aK0
  | [] => jmp
  | (i, x, y, z, ts) :: r => fun pc L st O A nc ns => wpi E jmp (wpl E jmp r) i x y z ts pc L st O A nc ns
def wp (E : aE) (B : Nat → Option (List aIn)) (K : Nat → Option aKc) : Nat → aK0
  | 0 => fun _ _ _ _ _ _ _ => False
  | n + 1 => fun pc L st O A nc ns => match K pc with
    | some P => P L st O A nc ns
    | none => (match B pc with | some is => wpl E (wp E B K n) is pc L st O A nc ns | none => False)
/-- from a block's start, even where it is a cut -/
def wp1 (E : aE) (B : Nat → Option (List aIn)) (K : Nat → Option aKc) (n : Nat) : aK0 := fun pc L st O A nc ns => match B pc with | some is => wpl E (wp E B K n) is pc L st O A nc ns | none => False
