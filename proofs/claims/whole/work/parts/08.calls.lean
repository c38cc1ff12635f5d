section SND3
variable {p : Program} {l : Launch} {e : Env} {R : Room} {s : State} {m : MethodId} {args : Array Value} {below : List Frame} {meth : Method} {c : Code} {Q : State → Prop} {G : aG} {base tA : Nat} {own : String} {cc : ByteArray} {nL : Nat} {ini : Bool}
variable {pc : Nat} {L : aL} {st : List Value} {O : aO} {A : aA} {nc ns : Nat} {H : Heap}
theorem aRel.freshO (h : aRel G base O A H) : ∀ a, O a ≠ none → a < H.size := by
  intro a ha
  cases hq : O a with
  | none => exact absurd hq ha
  | some q =>
    obtain ⟨ci, fs⟩ := q
    exact (h.2.1 a ci fs hq).2.lt
theorem aRel.freshA (h : aRel G base O A H) : ∀ a, A a ≠ none → a < H.size := by
  intro a ha
  cases hq : A a with
  | none => exact absurd hq ha
  | some q =>
    obtain ⟨t, x⟩ := q
    exact (h.2.2 a t x hq).lt
theorem aRel.pushO {H1 : Heap} {ci : Nat} {fs : List Value} (h : aRel G base O A H) (z : H1.size = H.size + 1) (o1 : ∀ q : Nat, q < H.size → H1[q]? = H[q]?) (hn : va_at G.1 vwCl (H.size, .inr (ci, fs)) H1) : aRel G base (aSet O H.size (ci, fs)) A H1 := by
  refine ⟨by rw [z]; exact Nat.le_succ_of_le h.1, fun b cj gs hb => ?_, fun b t x hb => ?_⟩
  · by_cases e : b = H.size
    · rw [e, aSet_eq] at hb
      cases hb
      rw [e]
      exact ⟨h.1, hn⟩
    · rw [aSet_ne e] at hb
      exact ⟨(h.2.1 b cj gs hb).1, (h.2.1 b cj gs hb).2.kept (o1 b (h.2.1 b cj gs hb).2.lt)⟩
  · exact (h.2.2 b t x hb).kept (o1 b (h.freshA b (by rw [hb]; simp)))
theorem aRel.pushA {H1 : Heap} {t : Nat} {x : vp_A} (h : aRel G base O A H) (ht : t < 4) (z : H1.size = H.size + 1) (o1 : ∀ q : Nat, q < H.size → H1[q]? = H[q]?) (hn : H1[H.size]? = some (vp_cell (G.2 t) x)) : aRel G base O (aSet A H.size (t, x)) H1 := by
  refine ⟨by rw [z]; exact Nat.le_succ_of_le h.1, fun b cj gs hb => ?_, fun b u y hb => ?_⟩
  · exact ⟨(h.2.1 b cj gs hb).1, (h.2.1 b cj gs hb).2.kept (o1 b (h.2.1 b cj gs hb).2.lt)⟩
  · by_cases e : b = H.size
    · rw [e, aSet_eq] at hb
      cases hb
      rw [e]
      exact Or.inl ⟨ht, h.1, hn⟩
    · rw [aSet_ne e] at hb
      exact (h.2.2 b u y hb).kept (o1 b (h.freshA b (by rw [hb]; simp)))
theorem va_S.pushed {A9 : Nat → Prop} {H0 H1 : Heap} {locs : List Loc} (hS : va_S A9 H0 H locs) (z : H1.size = H.size + 1) (o1 : ∀ q : Nat, q < H.size → H1[q]? = H[q]?) : va_S A9 H0 H1 locs :=
  ⟨Nat.le_trans hS.1 (by omega), fun x h1 h2 => (o1 x (Nat.lt_of_lt_of_le h1 hS.1)).trans (hS.2.1 x h1 h2), hS.2.2⟩
theorem aI_new (C : aCx G base tA own cc nL ini p s m args meth c) {idx ci n : Nat} {ts : List Nat} (hF : aCl own idx ci n ts) (hd : decode cc pc = .ok (.new idx, 3)) (hc1 : nc + 1 ≤ R.cells) (hs1 : ns + n ≤ R.slots)
    (kk : ∀ q : Nat, (∀ a, O a ≠ none → a < q) → (∀ a, A a ≠ none → a < q) → aW p l e R s m args below meth c Q G base nL (pc + 3) L (.ref q :: st) (aSet O q (ci, aBl ts)) A (nc + 1) (ns + n)) : aW p l e R s m args below meth c Q G base nL pc L st O A nc ns := by
  intro H locs ls hR hS hL
  obtain ⟨hx, hb, hml, hown, hts, hK, hst, hstr, hi, hbs, hlk⟩ := C
  obtain ⟨Cn, T, ty, hc, hcl, hinst, hini, hin, hty, hbl⟩ := hF
  have hKn := hK.1.1 ci _ hc
  refine W.newcK hx hb hown (hts _ hcl) (hts _ hinst) (hts _ hini) rfl hd hc1 hs1 hKn.2.1 rfl fun H1 kC hkC e1 z1 o1 => ?_
  exact kk H.size hR.freshO hR.freshA H1 locs ls (hR.pushO z1 o1 ⟨_, hc, (u_born ty hts hin hKn hkC e1 hty).to hbl⟩) (hS.pushed z1 o1) hL
theorem aI_newa (C : aCx G base tA own cc nL ini p s m args meth c) {x N : Nat} {at9 : ArrayType} {n : Int32} (hF : x < 3 ∧ newarray.typeOf at9 = aTy x ∧ Cond.arrayClass (newarray.typeOf at9) ∈ aT) (hd : decode cc pc = .ok (.newarray at9, 2)) (hn : n = nI N) (hN : N ≤ 65536) (hc1 : nc + 1 ≤ R.cells) (hs1 : ns + N ≤ R.slots)
    (kk : ∀ q : Nat, (∀ a, O a ≠ none → a < q) → (∀ a, A a ≠ none → a < q) → aW p l e R s m args below meth c Q G base nL (pc + 2) L (.ref q :: st) O (aSet A q (x, N, if x = 2 then .inr (.inl fun _ => 0) else .inl fun _ => 0)) (nc + 1) (ns + N)) : aW p l e R s m args below meth c Q G base nL pc L (.int n :: st) O A nc ns := by
  intro H locs ls hR hS hL
  obtain ⟨hx, hb, hml, hown, hts, hK, hst, hstr, hi, hbs, hlk⟩ := C
  obtain ⟨hx3, hty, harr⟩ := hF
  subst hn
  refine va_newaK hx hb (hts _ harr) rfl hd rfl (nI_pos (by omega)) (nI_clamp (by omega)) ?_ hc1 hs1 rfl fun H1 cA e1 z1 o1 hAr hNm => ?_
  · have : componentBytes (newarray.typeOf at9) ≤ 8 := by cases at9 <;> decide
    calc N * componentBytes (newarray.typeOf at9) ≤ 65536 * 8 := Nat.mul_le_mul hN this
      _ ≤ 536870912 := by decide
  · have hra := (hK.1.2 x _ (aTys_at (by omega))).2
    rw [hty] at hNm e1
    have hcA : G.2 x = cA := by
      match x, hx3, hra, hNm with
      | 0, _, hra, hNm => exact Option.some.inj (hra.symm.trans hNm)
      | 1, _, hra, hNm => exact Option.some.inj (hra.symm.trans hNm)
      | 2, _, hra, hNm => exact Option.some.inj (hra.symm.trans hNm)
    refine kk H.size hR.freshO hR.freshA H1 locs ls (hR.pushA (by omega) z1 o1 ?_) (hS.pushed z1 o1) hL
    rw [e1, ← hcA]
    match x, hx3 with
    | 0, _ => rfl
    | 1, _ => rfl
    | 2, _ => rfl
theorem aI_anew (C : aCx G base tA own cc nL ini p s m args meth c) {idx N : Nat} {n : Int32} (hF : Cond.classLink own idx "PackedDecimals$Numeral" ∈ aT) (hd : decode cc pc = .ok (.anewarray idx, 3)) (hn : n = nI N) (hN : N ≤ 65536) (hc1 : nc + 1 ≤ R.cells) (hs1 : ns + N ≤ R.slots)
    (kk : ∀ q : Nat, (∀ a, O a ≠ none → a < q) → (∀ a, A a ≠ none → a < q) → aW p l e R s m args below meth c Q G base nL (pc + 3) L (.ref q :: st) O (aSet A q (3, N, .inr (.inr (.inr (.inr fun _ => none))))) (nc + 1) (ns + N)) : aW p l e R s m args below meth c Q G base nL pc L (.int n :: st) O A nc ns := by
  intro H locs ls hR hS hL
  obtain ⟨hx, hb, hml, hown, hts, hK, hst, hstr, hi, hbs, hlk⟩ := C
  subst hn
  have hcl : (nI N).toNatClampNeg = N := nI_clamp (by omega)
  refine W.anew hx hb hown (hts _ hF) (va_AO.use hstr.2.2.1) rfl hd rfl (nI_pos (by omega)) (by rw [hcl]; omega) hc1 (by rw [hcl]; exact hs1) fun cA kA comp f1 f2 f3 f4 => ?_
  rw [hcl]
  generalize hH1 : H.push ({ cls := cA, slots := Array.replicate N .null, vm := .none } : Cell) = H1
  have z1 : H1.size = H.size + 1 := by rw [← hH1, Array.size_push]
  have e1 : H1[H.size]? = some (arrV cA N (fun _ => .null)) := by rw [← hH1, Array.getElem?_push_size, ← arrV_new]
  have o1 : ∀ q : Nat, q < H.size → H1[q]? = H[q]? := fun q hq => by rw [← hH1, Array.getElem?_push, if_neg (Nat.ne_of_lt hq)]
  obtain ⟨kA9, comp9, k1, k2, k3, k4⟩ := (hK.1.2 3 _ rfl).2
  have hcA : G.2 3 = cA := Option.some.inj (k4.symm.trans f1)
  refine kk H.size hR.freshO hR.freshA H1 locs ls (hR.pushA (by decide) z1 o1 ?_) (hS.pushed z1 o1) hL
  rw [e1, ← hcA]
  rfl
theorem aI_gets (C : aCx G base tA own cc nL ini p s m args meth c) {idx : Nat} (hF : Cond.fieldLink own idx "PackedDecimals$Natural" "TENS" "[I" ∈ aT) (hd : decode cc pc = .ok (.getstatic idx, 3)) (kk : aW p l e R s m args below meth c Q G base nL (pc + 3) L (.ref tA :: st) O A nc ns) : aW p l e R s m args below meth c Q G base nL pc L st O A nc ns := by
  intro H locs ls hR hS hL
  obtain ⟨hx, hb, hml, hown, hts, hK, hst, hstr, hi, hbs, hlk⟩ := C
  exact va_gets hx hb hst.1 hS hown (hts _ hF) (fun _ h => h) hd (kk H locs ls hR hS hL)
/-! ===== contracts ===== -/
def aQc (G : aG) (base tA : Nat) (Post : aPost) : Array Value → State → Outcome → State → Prop := fun _ st o t => (∃ v O' A', o = .returned v ∧ Post v O' A' ∧ aGood G base tA O' A' t) ∧ va_F (fun q => base ≤ q) st t
def aXc (G : aG) (base tA : Nat) (PostX : aPostX) : String → State → State → Prop := fun n st t => (∃ O' A', PostX n O' A' ∧ aGood G base tA O' A' t) ∧ va_F (fun q => base ≤ q) st t
/-- the contract of a method that returns -/
def aMet (l : Launch) (G : aG) (base tA : Nat) (y : MethodName) (cc : ByteArray) (nL : Nat) (ret : Option FieldType) (rm : Room) (av : List Value) (O : aO) (A : aA) (Post : aPost) : Prop :=
  Met l y (aWs y cc nL ret) rm (va_Pc av (fun U => aGood G base tA O A U)) (aQc G base tA Post) rm.cells rm.slots (fun q => base ≤ q)
/-- the contract of a method that returns or throws -/
def aMetX (l : Launch) (G : aG) (base tA : Nat) (y : MethodName) (cc : ByteArray) (nL : Nat) (ret : Option FieldType) (rm : Room) (av : List Value) (O : aO) (A : aA) (Post : aPost) (PostX : aPostX) : Prop :=
  vx_Met l y (aWs y cc nL ret) rm (va_Pc av (fun U => aGood G base tA O A U)) (aQc G base tA Post) (aXc G base tA PostX) rm.cells rm.slots (fun q => base ≤ q)
theorem aWords {st : List Value} (h : st.length ≤ 4) : (st.map fun v => v.category).sum ≤ 8 := by
  have hc : ∀ v : Value, v.category ≤ 2 := fun v => by cases v <;> simp [Value.category]
  have : ∀ st : List Value, (st.map fun v => v.category).sum ≤ 2 * st.length := by
    intro st
    induction st with
    | nil => simp
    | cons v r ih =>
      have := hc v
      simp only [List.map_cons, List.sum_cons, List.length_cons]
      omega
  have := this st
  omega
/-- behind a call that returns -/
theorem aBack (C : aCx G base tA own cc nL ini p s m args meth c) {Post : aPost} {mc ms : Nat} {st0 : List Value} {ls : Array Slot} {locs : List Loc} {a : Array Value}
    (hr : va_Run p l e R s m args below meth c H locs nc ns mc ms (F0 m pc ls st0) st (aQc G base tA Post a) (fun q => base ≤ q)) (hS : va_S (fun q => base ≤ q) s.heap H locs) (hL : lv_has ls nL (aAs 0 L))
    (kk : ∀ v O' A', Post v O' A' → aW p l e R s m args below meth c Q G base nL (pc + 3) L (v.toList ++ st) O' A' (nc + mc) (ns + ms)) : W p l e R s m args below meth c H locs nc ns Q (F0 m pc ls st0) := by
  intro T hT X
  obtain ⟨v, st₀, t, T', LL, h0, X', hL9, e1, e2, ⟨⟨v', O', A', hv, hp, hg⟩, hz, hk⟩, stp⟩ := hr T hT X
  cases hv
  rw [h0] at hz hk
  obtain ⟨t2, a1, b1⟩ := kk v O' A' hp T'.heap (locs ++ LL) ls (by rw [e1]; exact hg.1) ⟨Nat.le_trans hS.1 (by rw [e1]; exact hz), fun q h1 h2 => by rw [e1, hk q (Nat.lt_of_lt_of_le h1 hS.1) h2]; exact hS.2.1 q h1 h2, fun q hq => by
      rcases List.mem_append.mp hq with h | h
      · exact hS.2.2 q h
      · exact hL9 q h⟩ hL T' rfl X'
  exact ⟨t2, stp t2 a1, b1⟩
theorem aGood_at (C : aCx G base tA own cc nL ini p s m args meth c) {locs : List Loc} (hR : aRel G base O A H) (hS : va_S (fun q => base ≤ q) s.heap H locs) {U : State} (hU : U.heap = H) (hW : s.WarmedH U.vm) : aGood G base tA O A U := by
  obtain ⟨hx, hb, hml, hown, hts, hK, hst, hstr, hi, hbs, hlk⟩ := C
  exact ⟨by rw [hU]; exact hR, hK.moved hW.alike, (hst.moved hW.alike).kept (by rw [hU]; exact hS.2.1), hstr.warm hW⟩
/-- a call of an instance method by its pool number -/
def aLkV (own : String) (idx ci : Nat) (y : MethodName) (cc : ByteArray) (nL n : Nat) (ret : Option FieldType) : Prop := ∃ (Cn : String) (T : u_T) (N : Nat), vwCl[ci]? = some (Cn, T, N) ∧ Cond.methodLink own idx y ∈ aT ∧ Cond.instanceMethod y ∈ aT ∧ Cond.selects Cn y y ∈ aT ∧ Cond.initialized Cn ∈ aT ∧ Cond.code y cc nL ret ∈ aT ∧ (y.cls = Cn ∧ y.cls ≠ "java/lang/invoke/MethodHandle" ∧ y.cls ≠ "java/lang/invoke/VarHandle" ∧ (parseMethodDescriptor y.desc).map (fun d => d.parameters.length) = some n)
theorem aI_callV (C : aCx G base tA own cc nL ini p s m args meth c) {idx ci b mxL n : Nat} {y : MethodName} {cy : ByteArray} {ret : Option FieldType} {rm : Room} {As : List Value} {fs : List Value} {Post : aPost} (hF : aLkV own idx ci y cy mxL n ret) (hM : aMet l G base tA y cy mxL ret rm (.ref b :: As) O A Post) (hn : As.length = n) (hb9 : O b = some (ci, fs))
    (hRm : rm.frames + 1 ≤ R.frames ∧ 8 + (mxL + 11) + rm.locals ≤ R.locals) (hc1 : nc + rm.cells ≤ R.cells) (hs1 : ns + rm.slots ≤ R.slots) (hst4 : st.length ≤ 4) (hd : decode cc pc = .ok (.invokevirtual idx, 3))
    (kk : ∀ v O' A', Post v O' A' → aW p l e R s m args below meth c Q G base nL (pc + 3) L (v.toList ++ st) O' A' (nc + rm.cells) (ns + rm.slots)) : aW p l e R s m args below meth c Q G base nL pc L (As.reverse ++ .ref b :: st) O A nc ns := by
  intro H locs ls hR hS hL
  obtain ⟨Cn, T, N, hc, hlk, hins, hsel, hini, hcd, hdd⟩ := hF
  have hcx := id C
  obtain ⟨hx, hb, hml, hown, hts, hK, hst, hstr, hi, hbs, hlk9⟩ := hcx
  have hG : GoodIn aT (wsV own idx Cn y (aWs y cy mxL ret)) := by
    intro w hw
    unfold wsV at hw
    rcases List.mem_append.mp hw with h | h
    · have : w ∈ aT := by
        simp only [List.mem_cons, List.not_mem_nil, or_false] at h
        rcases h with rfl | rfl | rfl | rfl <;> assumption
      exact aT_good w this
    · exact aWs_good hcd w h
  have hrun := va_runV (C := Cn) (b := b) (As := As) (rest := st) (g := F0 m pc ls (As.reverse ++ .ref b :: st)) (H := H) (locs := locs) (cells := nc) (slots := ns) (l := l) (e := e) (below := below) (meth := meth) ⟨hx, hb, hml, hown, hts⟩ hM (cwV (R := R) n hts hG rfl rfl rfl hdd hRm)
    ⟨aGood.blind, va_recv (D := G.1) (ci := ci) (q0 := 0) hK.1 (va_P1 (hR.2.1 b ci fs hb9).2) hc rfl, fun U hU hW => ⟨rfl, aGood_at C hR hS hU hW⟩⟩ rfl hn hL.1 rfl (lv_room (aWords hst4)) hd ⟨hc1, hs1⟩
  exact aBack C hrun hS hL kk
def aLkS (own : String) (idx : Nat) (y : MethodName) (cc : ByteArray) (nL n : Nat) (ret : Option FieldType) : Prop := Cond.methodLink own idx y ∈ aT ∧ Cond.static y ∈ aT ∧ Cond.initialized y.cls ∈ aT ∧ Cond.code y cc nL ret ∈ aT ∧ (y.cls ≠ "java/lang/invoke/MethodHandle" ∧ y.cls ≠ "java/lang/invoke/VarHandle" ∧ (parseMethodDescriptor y.desc).map (fun d => d.parameters.length) = some n)
theorem aI_callS (C : aCx G base tA own cc nL ini p s m args meth c) {idx mxL n : Nat} {y : MethodName} {cy : ByteArray} {ret : Option FieldType} {rm : Room} {As : List Value} {Post : aPost} (hF : aLkS own idx y cy mxL n ret) (hM : aMet l G base tA y cy mxL ret rm As O A Post) (hn : As.length = n)
    (hRm : rm.frames + 1 ≤ R.frames ∧ 8 + (mxL + 11) + rm.locals ≤ R.locals) (hc1 : nc + rm.cells ≤ R.cells) (hs1 : ns + rm.slots ≤ R.slots) (hst4 : st.length ≤ 4) (hd : decode cc pc = .ok (.invokestatic idx, 3))
    (kk : ∀ v O' A', Post v O' A' → aW p l e R s m args below meth c Q G base nL (pc + 3) L (v.toList ++ st) O' A' (nc + rm.cells) (ns + rm.slots)) : aW p l e R s m args below meth c Q G base nL pc L (As.reverse ++ st) O A nc ns := by
  intro H locs ls hR hS hL
  obtain ⟨hlk, hstc, hini, hcd, hdd⟩ := hF
  have hcx := id C
  obtain ⟨hx, hb, hml, hown, hts, hK, hst, hstr, hi, hbs, hlk9⟩ := hcx
  have hG : GoodIn aT (va_wsS own idx y (aWs y cy mxL ret)) := by
    intro w hw
    unfold va_wsS at hw
    rcases List.mem_append.mp hw with h | h
    · have : w ∈ aT := by
        simp only [List.mem_cons, List.not_mem_nil, or_false] at h
        rcases h with rfl | rfl | rfl <;> assumption
      exact aT_good w this
    · exact aWs_good hcd w h
  have hrun := va_runS (As := As) (rest := st) (g := F0 m pc ls (As.reverse ++ st)) (H := H) (locs := locs) (cells := nc) (slots := ns) (l := l) (e := e) (below := below) (meth := meth) ⟨hx, hb, hml, hown, hts⟩ hM (va_cwS (R := R) n hts hG rfl rfl rfl hdd hRm)
    ⟨aGood.blind, fun U hU hW => ⟨rfl, aGood_at C hR hS hU hW⟩⟩ rfl hn hL.1 rfl (lv_room (aWords hst4)) hd ⟨hc1, hs1⟩
  exact aBack C hrun hS hL kk
/-- a constructor by its pool number; nest: a nest mate's private one -/
def aLkI (own : String) (idx : Nat) (y : MethodName) (cc : ByteArray) (nL n : Nat) : Prop := (Cond.methodLink own idx y ∈ aT ∨ (own, idx, y) ∈ aNst) ∧ Cond.instanceMethod y ∈ aT ∧ Cond.initialized y.cls ∈ aT ∧ Cond.code y cc nL none ∈ aT ∧ y.name = "<init>" ∧ (y.cls ≠ "java/lang/invoke/MethodHandle" ∧ y.cls ≠ "java/lang/invoke/VarHandle" ∧ (parseMethodDescriptor y.desc).map (fun d => d.parameters.length) = some n)
theorem aI_callI (C : aCx G base tA own cc nL ini p s m args meth c) {idx b mxL n : Nat} {y : MethodName} {cy : ByteArray} {rm : Room} {As : List Value} {Post : aPost} (hF : aLkI own idx y cy mxL n) (hM : aMet l G base tA y cy mxL none rm (.ref b :: As) O A Post) (hn : As.length = n)
    (hRm : rm.frames + 1 ≤ R.frames ∧ 8 + (mxL + 11) + rm.locals ≤ R.locals) (hc1 : nc + rm.cells ≤ R.cells) (hs1 : ns + rm.slots ≤ R.slots) (hst4 : st.length ≤ 4) (hd : decode cc pc = .ok (.invokespecial idx, 3))
    (kk : ∀ v O' A', Post v O' A' → aW p l e R s m args below meth c Q G base nL (pc + 3) L (v.toList ++ st) O' A' (nc + rm.cells) (ns + rm.slots)) : aW p l e R s m args below meth c Q G base nL pc L (As.reverse ++ .ref b :: st) O A nc ns := by
  intro H locs ls hR hS hL
  obtain ⟨hlk, hins, hini, hcd, hnm, hdd⟩ := hF
  have hcx := id C
  obtain ⟨hx, hb, hml, hown, hts, hK, hst, hstr, hi, hbs, hlk9⟩ := hcx
  have hpre : PreS s H (va_Pc (.ref b :: As) (fun U => aGood G base tA O A U)) (.ref b :: As) := ⟨aGood.blind, fun U hU hW => ⟨rfl, aGood_at C hR hS hU hW⟩⟩
  rcases hlk with hlk | hlk
  · have hrun := va_runI (b := b) (As := As) (rest := st) (g := F0 m pc ls (As.reverse ++ .ref b :: st)) (H := H) (locs := locs) (cells := nc) (slots := ns) (l := l) (e := e) (below := below) (meth := meth) ⟨hx, hb, hml, hown, hts⟩ hM (cwI (R := R) n hts (aWs_good hcd) rfl rfl rfl (hts _ hini) (hts _ hlk) (hts _ hins) hnm hdd hRm)
      hpre rfl hn hL.1 rfl (lv_room (aWords hst4)) hd ⟨hc1, hs1⟩
    exact aBack C hrun hS hL kk
  · have hrun := va_runIN (b := b) (As := As) (rest := st) (g := F0 m pc ls (As.reverse ++ .ref b :: st)) (H := H) (locs := locs) (cells := nc) (slots := ns) (l := l) (e := e) (below := below) (meth := meth) ⟨hx, hb, hml, hown, hts⟩ hM ⟨va_cnB (R := R) n hts (aWs_good hcd) rfl rfl rfl (hstr.2.1 _ hlk) (hts _ hini) hdd hRm, hnm, hts _ hins⟩
      hpre rfl hn hL.1 rfl (lv_room (aWords hst4)) hd ⟨hc1, hs1⟩
    exact aBack C hrun hS hL kk
end SND3
