/-! ===== the words that every method has ===== -/
def aT : List Cond := lw_tbl.filter goodWord
theorem aT_mem {w : Cond} (i : Nat) (h : lw_tbl[i]? = some w) (hg : goodWord w = true) : w ∈ aT := List.mem_filter.mpr ⟨List.mem_of_getElem? h, hg⟩
theorem aT_good : GoodIn aT aT := fun w h => ⟨h, good_of_word (List.mem_filter.mp h).2⟩
def aWs (y : MethodName) (cc : ByteArray) (n : Nat) (ret : Option FieldType) : List Cond := .code y cc n ret :: aT
theorem aWs_good {y : MethodName} {cc : ByteArray} {n : Nat} {ret : Option FieldType} (h : Cond.code y cc n ret ∈ aT) : GoodIn aT (aWs y cc n ret) := fun w hw => (List.mem_cons.mp hw).elim (fun e => by rw [e]; exact aT_good _ h) (aT_good w)
/-! ===== the world: objects and arrays by their addresses ===== -/
abbrev aO : Type := Nat → Option (Nat × List Value)
abbrev aA : Type := Nat → Option (Nat × vp_A)
abbrev aL : Type := List (Option Value)
abbrev aKc : Type := aL → List Value → aO → aA → Nat → Nat → Prop
abbrev aK0 : Type := Nat → aKc
def aSet {α : Type} (f : Nat → Option α) (a : Nat) (e : α) : Nat → Option α := fun b => if b = a then some e else f b
theorem aSet_eq {α : Type} {f : Nat → Option α} {a : Nat} {e : α} : aSet f a e a = some e := if_pos rfl
theorem aSet_ne {α : Type} {f : Nat → Option α} {a b : Nat} {e : α} (h : b ≠ a) : aSet f a e b = f b := if_neg h
theorem aSet_aSet {α : Type} {f : Nat → Option α} {a : Nat} {e e' : α} : aSet (aSet f a e) a e' = aSet f a e' := by
  funext b; simp only [aSet]; split <;> rfl
theorem aSet_comm {α : Type} {f : Nat → Option α} {a b : Nat} {e e' : α} (h : a ≠ b) : aSet (aSet f a e) b e' = aSet (aSet f b e') a e := by
  funext c; simp only [aSet]; split <;> split <;> simp_all
theorem aSet_id {α : Type} {f : Nat → Option α} {a : Nat} {e : α} (h : f a = some e) : aSet f a e = f := by
  funext b; simp only [aSet]; split
  · rename_i hb; rw [hb, h]
  · rfl
def aTy : Nat → FieldType
  | 0 => .int
  | 1 => .byte
  | 2 => .long
  | 3 => .object "PackedDecimals$Numeral"
  | _ => .int
abbrev aG : Type := va_G × (Nat → ClassId)
def aTys (G : aG) : List (ClassId × FieldType) := [(G.2 0, aTy 0), (G.2 1, aTy 1), (G.2 2, aTy 2), (G.2 3, aTy 3)]
theorem aTys_at {G : aG} {t : Nat} (h : t < 4) : (aTys G)[t]? = some (G.2 t, aTy t) := by
  match t, h with
  | 0, _ => rfl
  | 1, _ => rfl
  | 2, _ => rfl
  | 3, _ => rfl
/-- an array: kinds 0 to 3 are made here and may be written; 4 and 5 are int arrays from elsewhere, that are only read -/
def aAt (G : aG) (base a t : Nat) (x : vp_A) (H : Heap) : Prop := (t < 4 ∧ base ≤ a ∧ H[a]? = some (vp_cell (G.2 t) x)) ∨ (4 ≤ t ∧ t < 6 ∧ ∃ (cell : Cell) (f : Nat → Int32), x.2 = .inl f ∧ H[a]? = some cell ∧ cell.cls = G.2 t ∧ (∀ k, cell.vm ≠ .statics k) ∧ cell.vm ≠ .unknown ∧ cell.slots.size = x.1 ∧ ∀ j, j < x.1 → cell.slots[j]? = some (.int (f j)))
theorem aAt.kept {G : aG} {base a t : Nat} {x : vp_A} {H H1 : Heap} (h : aAt G base a t x H) (hq : H1[a]? = H[a]?) : aAt G base a t x H1 := by
  unfold aAt at h ⊢
  rw [hq]; exact h
theorem aAt.lt {G : aG} {base a t : Nat} {x : vp_A} {H : Heap} (h : aAt G base a t x H) : a < H.size := by
  rcases h with ⟨-, -, h⟩ | ⟨-, -, cell, f, -, h, -⟩
  · exact (Array.getElem?_eq_some_iff.mp h).1
  · exact (Array.getElem?_eq_some_iff.mp h).1
theorem aAt.made {G : aG} {base a t : Nat} {x : vp_A} {H : Heap} (h : aAt G base a t x H) (ht : t < 4) : base ≤ a ∧ H[a]? = some (vp_cell (G.2 t) x) := by
  rcases h with ⟨-, h1, h2⟩ | ⟨h, -⟩
  · exact ⟨h1, h2⟩
  · omega
def aRel (G : aG) (base : Nat) (O : aO) (A : aA) (H : Heap) : Prop :=
  base ≤ H.size ∧ (∀ a ci fs, O a = some (ci, fs) → base ≤ a ∧ va_at G.1 vwCl (a, .inr (ci, fs)) H) ∧ ∀ a t x, A a = some (t, x) → aAt G base a t x H
def aKn (G : aG) (U : State) : Prop := va_K G.1 vwCl (aTys G) U ∧ ArrOfT U (G.2 4) .int ∧ ArrOfT U (G.2 5) .int
theorem aKn.moved {G : aG} {u U : State} (hvm : u.vm.Alike U.vm) (h : aKn G u) : aKn G U := ⟨va_K.moved hvm h.1, arrOfT_moved hvm h.2.1, arrOfT_moved hvm h.2.2⟩
def aSt (base tA : Nat) (U : State) (H : Heap) : Prop := va_Z "PackedDecimals$Natural" "TENS" "[I" (.ref tA) (fun q => base ≤ q) U H ∧ vx_Zq Bundle.tN "UNASSIGNED_STACK" Bundle.steD (fun q => base ≤ q) U H ∧ vx_Zq Bundle.tN "SUPPRESSED_SENTINEL" Bundle.listD (fun q => base ≤ q) U H
def aStrs : List (Nat × String) := [(51, "digits below 0"), (129, "no such number"), (132, "no such byte"), (93, "the divisor's whole part is 0")]
def aNst : List (String × Nat × MethodName) := [(RX8, 17, yX5_init), (RX5, 11, yX3_init), (RX8, 24, yX0_init), (RX0, 9, yX3_init), (RX8, 31, yX6_init), (RX6, 11, yX7_init), (RX6, 20, yX3_init), (RX8, 38, yX2_init), (RX2, 9, yX3_init)]
def aXs : List String := ["java/lang/NegativeArraySizeException", "java/lang/ArrayIndexOutOfBoundsException", "java/lang/ArithmeticException"]
/-- the texts, the private constructors of nest mates, the array of numerals, the exceptions that are caught -/
def aStr (U : State) : Prop := (∀ q ∈ aStrs, ∃ a : Nat, vk_R RX8 q.1 q.2 a U) ∧ (∀ q ∈ aNst, va_Nw (.methodLinkNest q.1 q.2.1 q.2.2 "PackedDecimals") U) ∧ va_AO "PackedDecimals$Numeral" U ∧ (∀ n ∈ aXs, va_Nw (.castable n n) U) ∧ va_Nc "java/lang/ArithmeticException" "java/lang/ArrayIndexOutOfBoundsException" U
theorem aSt.moved {base tA : Nat} {u U : State} {H : Heap} (hvm : u.vm.Alike U.vm) (h : aSt base tA u H) : aSt base tA U H := ⟨va_Z.moved hvm h.1, vx_Zq.moved hvm h.2.1, vx_Zq.moved hvm h.2.2⟩
theorem aSt.kept {base tA : Nat} {U : State} {H H1 : Heap} (h : aSt base tA U H) (hq : ∀ a : Nat, a < H.size → ¬ base ≤ a → H1[a]? = H[a]?) : aSt base tA U H1 := ⟨h.1.kept hq, h.2.1.kept hq, h.2.2.kept hq⟩
theorem aStr.warm {s U : State} (hW : s.WarmedH U.vm) (h : aStr s) : aStr U := ⟨fun q hq => (h.1 q hq).elim fun a ha => ⟨a, vk_R.warm hW ha⟩, fun q hq => va_Nw.warmM hW (h.2.1 q hq), h.2.2.1.moved hW.alike, fun n hn => va_Nw.warmC hW (h.2.2.2.1 n hn), h.2.2.2.2.moved hW.alike⟩
def aGood (G : aG) (base tA : Nat) (O : aO) (A : aA) (U : State) : Prop := aRel G base O A U.heap ∧ aKn G U ∧ aSt base tA U U.heap ∧ aStr U
theorem aGood.blind {G : aG} {base tA : Nat} {O : aO} {A : aA} {av : List Value} : FrameBlind (va_Pc av (fun U => aGood G base tA O A U)) := by
  intro a U g mk h
  obtain ⟨h0, h1, h2, h3, h4⟩ := h
  exact ⟨h0, h1, aKn.moved (u := U) (U := U.calling g mk a) (Vm.Alike.refl U.vm) h2, aSt.moved (u := U) (U := U.calling g mk a) (Vm.Alike.refl U.vm) h3, aStr.warm (s := U) (U := U.calling g mk a) (State.WarmedH.refl U) h4⟩
/-! ===== locals ===== -/
def aAs : Nat → aL → List (Nat × Value)
  | _, [] => []
  | n, none :: r => aAs (n + 1) r
  | n, some v :: r => (n, v) :: aAs (n + 1) r
def lget : aL → Nat → Option Value
  | [], _ => none
  | x :: _, 0 => x
  | _ :: r, n + 1 => lget r n
def lkill : Option Value → Option Value
  | some (.long _) => none
  | some (.double _) => none
  | x => x
def lput1 : aL → Nat → Value → aL
  | [], _, _ => []
  | _ :: r, 0, v => some v :: r
  | x :: r, 1, v => lkill x :: lput1 r 0 v
  | x :: r, n + 2, v => x :: lput1 r (n + 1) v
def ltail : aL → aL
  | [] => []
  | _ :: r => none :: r
def lput2 : aL → Nat → Value → aL
  | [], _, _ => []
  | _ :: r, 0, v => some v :: ltail r
  | x :: r, 1, v => lkill x :: lput2 r 0 v
  | x :: r, n + 2, v => x :: lput2 r (n + 1) v
theorem aAs_ge : ∀ (L : aL) (n : Nat) (q : Nat × Value), q ∈ aAs n L → n ≤ q.1
  | [], _, _, h => by cases h
  | none :: r, n, q, h => Nat.le_of_succ_le (aAs_ge r (n + 1) q h)
  | some v :: r, n, q, h => by
    rcases List.mem_cons.mp h with h | h
    · rw [h]; exact Nat.le_refl _
    · exact Nat.le_of_succ_le (aAs_ge r (n + 1) q h)
theorem aAs_get : ∀ (L : aL) (n i : Nat) (v : Value), lget L i = some v → (n + i, v) ∈ aAs n L
  | [], _, _, _, h => by cases h
  | x :: r, n, 0, v, h => by
    have h : x = some v := h
    rw [h]; exact List.mem_cons_self
  | none :: r, n, i + 1, v, h => by
    have h9 := aAs_get r (n + 1) i v h
    rw [show n + (i + 1) = n + 1 + i by omega]; exact h9
  | some w :: r, n, i + 1, v, h => by
    have h9 := aAs_get r (n + 1) i v h
    rw [show n + (i + 1) = n + 1 + i by omega]; exact List.mem_cons_of_mem _ h9
theorem lkill_some {x : Option Value} {v : Value} (h : lkill x = some v) : x = some v ∧ v.category ≠ 2 := by
  cases x with
  | none => cases h
  | some w => cases w <;> simp [lkill] at h <;> subst h <;> simp [Value.category]
theorem aAs_cons {x : Option Value} {r : aL} {n : Nat} {q : Nat × Value} : q ∈ aAs n (x :: r) ↔ (x = some q.2 ∧ q.1 = n) ∨ q ∈ aAs (n + 1) r := by
  cases x with
  | none => simp [aAs]
  | some v =>
    simp only [aAs, List.mem_cons]
    constructor
    · rintro (h | h)
      · left; rw [h]; exact ⟨rfl, rfl⟩
      · right; exact h
    · rintro (⟨h1, h2⟩ | h)
      · left; cases h1; exact Prod.ext h2 rfl
      · right; exact h
theorem aAs_put1 : ∀ (L : aL) (n i : Nat) (v : Value) (q : Nat × Value), q ∈ aAs n (lput1 L i v) → q = (n + i, v) ∨ (q ∈ aAs n L ∧ q.1 ≠ n + i ∧ ¬ (q.1 + 1 = n + i ∧ q.2.category = 2))
  | [], _, _, _, _, h => by cases h
  | x :: r, n, 0, v, q, h => by
    rcases aAs_cons.mp h with ⟨h1, h2⟩ | h
    · left; cases h1; exact Prod.ext h2 rfl
    · right
      have hg := aAs_ge r (n + 1) q h
      exact ⟨aAs_cons.mpr (Or.inr h), by omega, by omega⟩
  | x :: r, n, 1, v, q, h => by
    rcases aAs_cons.mp h with ⟨h1, h2⟩ | h
    · right
      obtain ⟨k1, k2⟩ := lkill_some h1
      exact ⟨aAs_cons.mpr (Or.inl ⟨k1, h2⟩), by omega, fun z => k2 z.2⟩
    · rcases aAs_put1 r (n + 1) 0 v q h with h | ⟨h1, h2, h3⟩
      · left; exact h
      · right; exact ⟨aAs_cons.mpr (Or.inr h1), h2, h3⟩
  | x :: r, n, i + 2, v, q, h => by
    rcases aAs_cons.mp h with ⟨h1, h2⟩ | h
    · right
      exact ⟨aAs_cons.mpr (Or.inl ⟨h1, h2⟩), by omega, by omega⟩
    · have e : n + 1 + (i + 1) = n + (i + 2) := by omega
      rcases aAs_put1 r (n + 1) (i + 1) v q h with h | ⟨h1, h2, h3⟩
      · left; rw [h, e]
      · right; exact ⟨aAs_cons.mpr (Or.inr h1), by omega, by rw [← e]; exact h3⟩
theorem aAs_put2 : ∀ (L : aL) (n i : Nat) (v : Value) (q : Nat × Value), q ∈ aAs n (lput2 L i v) → q = (n + i, v) ∨ (q ∈ aAs n L ∧ q.1 ≠ n + i ∧ q.1 ≠ n + i + 1 ∧ ¬ (q.1 + 1 = n + i ∧ q.2.category = 2))
  | [], _, _, _, _, h => by cases h
  | x :: r, n, 0, v, q, h => by
    rcases aAs_cons.mp h with ⟨h1, h2⟩ | h
    · left; cases h1; exact Prod.ext h2 rfl
    · cases r with
      | nil => cases h
      | cons y r =>
        rcases aAs_cons.mp h with ⟨h1, h2⟩ | h
        · cases h1
        · right
          have hg := aAs_ge r (n + 1 + 1) q h
          exact ⟨aAs_cons.mpr (Or.inr (aAs_cons.mpr (Or.inr h))), by omega, by omega, by omega⟩
  | x :: r, n, 1, v, q, h => by
    rcases aAs_cons.mp h with ⟨h1, h2⟩ | h
    · right
      obtain ⟨k1, k2⟩ := lkill_some h1
      exact ⟨aAs_cons.mpr (Or.inl ⟨k1, h2⟩), by omega, by omega, fun z => k2 z.2⟩
    · rcases aAs_put2 r (n + 1) 0 v q h with h | ⟨h1, h2, h3, h4⟩
      · left; exact h
      · right; exact ⟨aAs_cons.mpr (Or.inr h1), h2, h3, h4⟩
  | x :: r, n, i + 2, v, q, h => by
    rcases aAs_cons.mp h with ⟨h1, h2⟩ | h
    · right
      exact ⟨aAs_cons.mpr (Or.inl ⟨h1, h2⟩), by omega, by omega, by omega⟩
    · have e : n + 1 + (i + 1) = n + (i + 2) := by omega
      rcases aAs_put2 r (n + 1) (i + 1) v q h with h | ⟨h1, h2, h3, h4⟩
      · left; rw [h, e]
      · right; exact ⟨aAs_cons.mpr (Or.inr h1), by omega, by omega, by rw [← e]; exact h4⟩
theorem lv_put1 {ls : Array Slot} {nL i : Nat} {L : aL} {v : Value} (h : lv_has ls nL ((i, v) :: (aAs 0 L).filter (fun q => !(q.1 == i) && !(q.1 + 1 == i && q.2.category == 2)))) : lv_has ls nL (aAs 0 (lput1 L i v)) := by
  refine ⟨h.1, h.2.1, fun q hq => ?_⟩
  rcases aAs_put1 L 0 i v q hq with e | ⟨h1, h2, h3⟩
  · rw [e, Nat.zero_add]; exact h.2.2 (i, v) List.mem_cons_self
  · refine h.2.2 q (List.mem_cons_of_mem _ (List.mem_filter.mpr ⟨h1, ?_⟩))
    simp only [Nat.zero_add] at h2 h3
    simp [h2]
    omega
theorem lv_put2 {ls : Array Slot} {nL i : Nat} {L : aL} {v : Value} (h : lv_has ls nL ((i, v) :: (aAs 0 L).filter (fun q => !(q.1 == i) && (!(q.1 == i + 1) && !(q.1 + 1 == i && q.2.category == 2))))) : lv_has ls nL (aAs 0 (lput2 L i v)) := by
  refine ⟨h.1, h.2.1, fun q hq => ?_⟩
  rcases aAs_put2 L 0 i v q hq with e | ⟨h1, h2, h3, h4⟩
  · rw [e, Nat.zero_add]; exact h.2.2 (i, v) List.mem_cons_self
  · refine h.2.2 q (List.mem_cons_of_mem _ (List.mem_filter.mpr ⟨h1, ?_⟩))
    simp only [Nat.zero_add] at h2 h3 h4
    simp [h2, h3]
    omega
theorem lv_lget {ls : Array Slot} {nL i : Nat} {L : aL} {v : Value} (h : lv_has ls nL (aAs 0 L)) (hi : lget L i = some v) : ls[i]? = some (.val v) := by
  have h9 := h.2.2 _ (aAs_get L 0 i v hi)
  simpa using h9
