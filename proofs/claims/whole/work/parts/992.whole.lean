/-! THE CLAIM OUT OF ONE WALK OF THE LAW'S BODY. Your part is whole_start (and what it stands on); all else here is the same for every law, but numbers. -/
def R_law : String := "PackedDecimalsLaw"
def lw_P (b : Addr) (xs : List Int32) (args : Array Value) (s : State) : Prop := args = #[.ref b] ∧ s.IntsAt b xs ∧ xs.length ≤ 2560 ∧ (Jvm.Cond.and given_1 narrow_1).before args s = true
def lw_Q (_ : Array Value) (s : State) (o : Outcome) (t : State) : Prop := o = .returned (some (.int 1)) ∧ Framed s o t [] 601024 7293033
def lw_Z (below : List Frame) (a : Array Value) (s : State) : State → Prop := fun t => ∃ o, t.status = .running ∧ Ended t below o ∧ lw_Q a s o t
/-- the law's own end, with 1 on the stack, nothing written that was there before, its room as the claim has it -/
theorem lw_ret {p : Program} {l : Launch} {e : Env} {s : State} {m : MethodId} {below : List Frame} {meth : Method} {c : Code} {b : Nat} (hx : p.tables.exec = Jvm.exec) (hb : c.code = code) (hr : meth.sig.returnType = ret) (hlocks : meth.locks = false) {pc : Nat} {H : Heap} {ls : Array Slot} (hdg : decode code pc = .ok (.ireturn, 1)) : W p l e room_1 s m #[Value.ref b] below meth c H [] 601024 7293033 (lw_Z below #[Value.ref b] s) (F0 m pc ls [.int 1]) := by
  intro T hT X
  obtain ⟨fs, hret, hrun, hended, hW, hframe⟩ := X.leave (v := some (.int 1)) (hlocks := hlocks) (fun h => by rw [hr] at h; cases h)
  have hmeth' : T.vm.method? m = some meth := X.method'
  refine ⟨T.setFrames fs, ?_, .returned (some (.int 1)), hrun, hended, rfl, ⟨_, rfl⟩, hW, hframe⟩
  jvm_step X.here [X.here.top, hx, hb, hdg, hmeth', hr, ret, narrow_b1]
  (try refine ⟨rfl, ?_⟩); (try refine ⟨rfl, ?_⟩)
  first | (intro acts; rw [hret _ acts rfl rfl rfl]) | rw [hret _ _ rfl rfl rfl]
  exact Steps.refl _
/-- what holds at the law's entry: the machine, the code, the tables' words (any of lw_tbl by 'hts w (by decide +kernel)'), the script of L ints xs at the cell b, what the Statement gives of the start (any of its parts by flat_of_before) -/
def lw_At (p : Program) (s : State) (m : MethodId) (meth : Method) (c : Code) (b L : Nat) (xs : Nat → Int32) : Prop :=
  p.tables.exec = Jvm.exec ∧ c.code = code ∧ meth.sig.returnType = ret ∧ c.maxLocals = 7 ∧ s.vm.findClass R_law = some m.cls ∧ (∀ w ∈ lw_tbl, w.before #[Value.ref b] s = true) ∧ va_X b L xs s s.heap ∧ b < s.heap.size ∧ meth.locks = false ∧ (Jvm.Cond.and given_1 narrow_1).before #[Value.ref b] s = true
theorem len_is {args : Array Value} {first s : State} {o : Option Outcome} {idx : List Nat} {t : Term} {a : Addr} {cell : Cell} {n : Nat} (hn : n < 2 ^ 31) (h : (Term.length t).eval args first o idx s = some (.int (Int32.ofNat n))) (ht : t.eval args first o idx s = some (.ref a)) (hc : s.arrayAt? a = some cell) : cell.slots.size = n := by
  simp only [Term.eval, Option.bind_eq_bind, ht, Option.bind_some, hc] at h
  by_cases hs : cell.slots.size < 2147483648
  · rw [if_pos hs] at h
    have h1 : cell.slots.size.toInt32 = Int32.ofNat n := Value.int.inj (Option.some.inj h)
    have h2 : (Int32.ofNat cell.slots.size).toNatClampNeg = (Int32.ofNat n).toNatClampNeg := congrArg Int32.toNatClampNeg h1
    rw [Int32.toNatClampNeg_ofNat_of_lt (by omega), Int32.toNatClampNeg_ofNat_of_lt (by omega)] at h2
    exact h2
  · rw [if_neg hs] at h; cases h
theorem lw_at {w : Cond} (i : Nat) (h : lw_tbl[i]? = some w) : w ∈ lw_tbl := List.mem_of_getElem? h
theorem kn_X0 : ∀ w ∈ Cond.instantiable RX0 4 :: u_ws RX0 TX0 4, w ∈ aT := aAll (by decide +kernel)
theorem kn_X2 : ∀ w ∈ Cond.instantiable RX2 3 :: u_ws RX2 TX2 3, w ∈ aT := aAll (by decide +kernel)
theorem kn_X3 : ∀ w ∈ Cond.instantiable RX3 2 :: u_ws RX3 TX3 2, w ∈ aT := aAll (by decide +kernel)
theorem kn_X4 : ∀ w ∈ Cond.instantiable RX4 5 :: u_ws RX4 TX4 5, w ∈ aT := aAll (by decide +kernel)
theorem kn_X5 : ∀ w ∈ Cond.instantiable RX5 1 :: u_ws RX5 TX5 1, w ∈ aT := aAll (by decide +kernel)
theorem kn_X6 : ∀ w ∈ Cond.instantiable RX6 6 :: u_ws RX6 TX6 6, w ∈ aT := aAll (by decide +kernel)
theorem kn_X7 : ∀ w ∈ Cond.instantiable RX7 0 :: u_ws RX7 TX7 0, w ∈ aT := aAll (by decide +kernel)
theorem kn_X8 : ∀ w ∈ Cond.instantiable RX8 8 :: u_ws RX8 TX8 8, w ∈ aT := aAll (by decide +kernel)
theorem kn_X9 : ∀ w ∈ Cond.instantiable RX9 14 :: u_ws RX9 TX9 14, w ∈ aT := aAll (by decide +kernel)
theorem kn_J0 : ∀ w ∈ Cond.instantiable RJx00060 6 :: u_ws RJx00060 TJx00060 6, w ∈ aT := aAll (by decide +kernel)
theorem kn_J1 : ∀ w ∈ Cond.instantiable RJxde1cd 6 :: u_ws RJxde1cd TJxde1cd 6, w ∈ aT := aAll (by decide +kernel)
theorem kn_one {s : State} {args : Array Value} {C : String} {T : u_T} {N n : Nat} (hT : ∀ w ∈ aT, w.before args s = true) (h : ∀ w ∈ Cond.instantiable C n :: u_ws C T N, w ∈ aT) : ∃ (cC : ClassId) (iS : Nat → Nat), u_Kn s C T N cC iS :=
  u_known hT (fun w hw => h w (List.mem_cons_of_mem _ hw)) (hT _ (h _ List.mem_cons_self))
theorem kn_all {s : State} {args : Array Value} (hT : ∀ w ∈ aT, w.before args s = true) (c : Nat) : ∃ (cC : ClassId) (iS : Nat → Nat), ∀ q, vwCl[c]? = some q → u_Kn s q.1 q.2.1 q.2.2 cC iS := by
  have fin : ∀ {C : String} {T : u_T} {N n : Nat}, vwCl[c]? = some (C, T, N) → (∀ w ∈ Cond.instantiable C n :: u_ws C T N, w ∈ aT) → ∃ (cC : ClassId) (iS : Nat → Nat), ∀ q, vwCl[c]? = some q → u_Kn s q.1 q.2.1 q.2.2 cC iS := by
    intro C T N n hc h
    obtain ⟨cC, iS, hk⟩ := kn_one hT h
    exact ⟨cC, iS, fun q hq => by rw [hc] at hq; cases hq; exact hk⟩
  match c with
  | 0 => exact fin rfl kn_J0
  | 1 => exact fin rfl kn_J1
  | 2 => exact fin rfl kn_X0
  | 3 => exact fin rfl kn_X2
  | 4 => exact fin rfl kn_X3
  | 5 => exact fin rfl kn_X4
  | 6 => exact fin rfl kn_X5
  | 7 => exact fin rfl kn_X6
  | 8 => exact fin rfl kn_X7
  | 9 => exact fin rfl kn_X8
  | 10 => exact fin rfl kn_X9
  | n + 11 => exact ⟨0, fun _ => 0, fun q hq => by cases hq⟩
theorem kn_arr {s : State} {args : Array Value} {ty : FieldType} (h : (Cond.arrayClass ty).before args s = true) : ∃ c, ArrOfT s c ty ∧ s.vm.findClass ("[" ++ ty.toString) = some c := by
  obtain ⟨c, k, comp, h1, h2, h3⟩ := Cond.arrayClass_spec h
  exact ⟨c, fun n z => ⟨fun k h => (by cases h), k, h2, comp, h3⟩, h1⟩
def gK (D : va_G) (a b c d e f : ClassId) : aG := (D, fun t => match t with | 0 => a | 1 => b | 2 => c | 3 => d | 4 => e | _ => f)
theorem start_K {s : State} {args : Array Value} (hT : ∀ w ∈ aT, w.before args s = true) (hAO : (Cond.arrayOver (.object "PackedDecimals$Numeral")).before args s = true) {e f : ClassId} (he : ArrOfT s e .int) (hf : ArrOfT s f .int) : ∃ G : aG, aKn G s ∧ G.2 4 = e ∧ G.2 5 = f := by
  obtain ⟨a, a1, a2⟩ := kn_arr (hT _ (aT_mem 119 (by decide +kernel) rfl : Cond.arrayClass .int ∈ aT))
  obtain ⟨b, b1, b2⟩ := kn_arr (hT _ (aT_mem 308 (by decide +kernel) rfl : Cond.arrayClass .byte ∈ aT))
  obtain ⟨c, c1, c2⟩ := kn_arr (hT _ (aT_mem 1105 (by decide +kernel) rfl : Cond.arrayClass .long ∈ aT))
  obtain ⟨comp, d, kN, d1, d2, d3, d4, d5⟩ := Cond.arrayOver_spec hAO
  refine ⟨gK (fun c => Classical.choose (kn_all hT c), fun c => Classical.choose (Classical.choose_spec (kn_all hT c))) a b c d e f, ⟨⟨fun c q hq => Classical.choose_spec (Classical.choose_spec (kn_all hT c)) q hq, fun k q hk => ?_⟩, he, hf⟩, rfl, rfl⟩
  match k, hk with
  | 0, hk => cases hk; exact ⟨a1, a2⟩
  | 1, hk => cases hk; exact ⟨b1, b2⟩
  | 2, hk => cases hk; exact ⟨c1, c2⟩
  | 3, hk =>
    cases hk
    exact ⟨fun n z => ⟨fun k h => (by cases h), kN, d3, comp, d4⟩, kN, comp, d3, d4, d1, d5⟩
  | n + 4, hk => cases hk
set_option maxRecDepth 100000 in
theorem start_S {s : State} {args : Array Value} (hts : ∀ w ∈ lw_tbl, w.before args s = true) (hgv : (Jvm.Cond.and given_1 narrow_1).before args s = true) : aStr s := by
  have hT : ∀ w ∈ aT, w.before args s = true := fun w hw => hts w (List.mem_filter.mp hw).1
  obtain ⟨c8, i8, hk8⟩ := kn_one hT kn_X8
  have hfl := flat_of_before _ hgv
  refine ⟨fun q hq => ?_, fun q hq => ?_, va_AO.of (hts _ (lw_at 99 (by decide +kernel))), fun n hn => ?_, va_Nc.of (hfl _ (by decide +kernel))⟩
  · have one : ∀ (k : Nat) (tx : String), (Cond.stringRef RX8 k tx).before args s = true → ∃ a : Nat, vk_R RX8 k tx a s := fun k tx h => by
      obtain ⟨-, -, -, a, -, -, -, -, -, hev⟩ := Cond.stringRef_spec hk8.2.1 h
      exact ⟨a, vk_R.of h hev⟩
    simp only [aStrs, List.mem_cons, List.not_mem_nil, or_false] at hq
    rcases hq with rfl | rfl | rfl | rfl
    · exact one _ _ (hts _ (lw_at 282 (by decide +kernel)))
    · exact one _ _ (hts _ (lw_at 377 (by decide +kernel)))
    · exact one _ _ (hts _ (lw_at 387 (by decide +kernel)))
    · exact one _ _ (hts _ (lw_at 597 (by decide +kernel)))
  · simp only [aNst, List.mem_cons, List.not_mem_nil, or_false] at hq
    rcases hq with rfl | rfl | rfl | rfl | rfl | rfl | rfl | rfl | rfl
    · exact va_Nw.of rfl (hts _ (lw_at 102 (by decide +kernel)))
    · exact va_Nw.of rfl (hts _ (lw_at 108 (by decide +kernel)))
    · exact va_Nw.of rfl (hts _ (lw_at 126 (by decide +kernel)))
    · exact va_Nw.of rfl (hts _ (lw_at 131 (by decide +kernel)))
    · exact va_Nw.of rfl (hts _ (lw_at 147 (by decide +kernel)))
    · exact va_Nw.of rfl (hts _ (lw_at 153 (by decide +kernel)))
    · exact va_Nw.of rfl (hts _ (lw_at 159 (by decide +kernel)))
    · exact va_Nw.of rfl (hts _ (lw_at 181 (by decide +kernel)))
    · exact va_Nw.of rfl (hts _ (lw_at 186 (by decide +kernel)))
  · simp only [aXs, List.mem_cons, List.not_mem_nil, or_false] at hn
    rcases hn with rfl | rfl | rfl
    · exact va_Nw.of rfl (hts _ (lw_at 243 (by decide +kernel)))
    · exact va_Nw.of rfl (hts _ (lw_at 368 (by decide +kernel)))
    · exact va_Nw.of rfl (hts _ (lw_at 590 (by decide +kernel)))
abbrev tTENS : Term := .static "PackedDecimals$Natural" "TENS" "[I"
def tf0 : Nat → Int32 := fun k => nI (10 ^ k)
set_option maxRecDepth 100000 in
theorem start_T {s : State} {args : Array Value} (hgv : (Jvm.Cond.and given_1 narrow_1).before args s = true) : ∃ (t : Nat) (cell : Cell), tTENS.eval args s none [] s = some (.ref t) ∧ s.heap[t]? = some cell ∧ s.isArrayOf cell .int ∧ cell.vm ≠ .unknown ∧ cell.slots.size = 10 ∧ ∀ j, j < 10 → cell.slots[j]? = some (.int (tf0 j)) := by
  have hfl := flat_of_before _ hgv
  have harr : (Cond.arrayOf tTENS .int).before args s = true := hfl _ (by decide +kernel)
  have hlen : (Term.length tTENS).eval args s none [] s = some (.int (Int32.ofNat 10)) := va_eqt (z := Int32.ofNat 10) (hfl _ (by decide +kernel))
  have hel : ∀ j : Nat, j < 10 → (Term.elem tTENS (.int (Int32.ofNat j))).eval args s none [] s = some (.int (tf0 j)) := by
    intro j hj
    obtain rfl | rfl | rfl | rfl | rfl | rfl | rfl | rfl | rfl | rfl : j = 0 ∨ j = 1 ∨ j = 2 ∨ j = 3 ∨ j = 4 ∨ j = 5 ∨ j = 6 ∨ j = 7 ∨ j = 8 ∨ j = 9 := by omega
    all_goals exact va_eqt (hfl _ (by decide +kernel))
  obtain ⟨t, ht, cell, h1, h2, h3, h4, h5, h6, -⟩ := va_Tof (A := fun _ => False) (by decide) harr hlen hel (fun _ _ h => h)
  refine ⟨t, cell, ht, h1, h2, h3, ?_, h6⟩
  obtain ⟨a, cell2, q1, q2, -⟩ := Term.length_spec hlen
  cases ht.symm.trans q1
  obtain ⟨q3, -, -, -⟩ := State.arrayAt?_spec q2
  cases h1.symm.trans q3
  exact len_is (by decide) hlen ht q2
theorem no_below {n : Nat} : ∀ a : Nat, a < n → ¬ n ≤ a := fun a h1 h2 => by omega
set_option maxRecDepth 100000 in
theorem start_Z {s : State} {args : Array Value} {t : Nat} (hts : ∀ w ∈ lw_tbl, w.before args s = true) (hgv : (Jvm.Cond.and given_1 narrow_1).before args s = true) (ht : tTENS.eval args s none [] s = some (.ref t)) : aSt s.heap.size t s s.heap := by
  have hfl := flat_of_before _ hgv
  have hT : ∀ w ∈ aT, w.before args s = true := fun w hw => hts w (List.mem_filter.mp hw).1
  have iN : Cond.initialized "PackedDecimals$Natural" ∈ aT := aAll (ws := [_]) (by decide +kernel) _ (List.mem_singleton.mpr rfl)
  have iT : Cond.initialized "java/lang/Throwable" ∈ aT := aAll (ws := [_]) (by decide +kernel) _ (List.mem_singleton.mpr rfl)
  exact ⟨va_Zof (hts _ (lw_at 483 (by decide +kernel))) (hT _ iN) ht no_below, vx_Zqof (hts _ (lw_at 268 (by decide +kernel))) (hT _ iT) (hfl _ (by decide +kernel)) no_below, vx_Zqof (hts _ (lw_at 270 (by decide +kernel))) (hT _ iT) (hfl _ (by decide +kernel)) no_below⟩
set_option maxHeartbeats 4000000 in
theorem whole_start {p : Program} {e : Env} {s : State} {m : MethodId} {below : List Frame} {meth : Method} {c : Code} (l : Launch) (hsT : l.stackTraces = false) {b L : Nat} {xs : Nat → Int32} (hL : L ≤ 2560) (C0 : lw_At p s m meth c b L xs) : W p l e room_1 s m #[Value.ref b] below meth c s.heap [] 0 0 (lw_Z below #[Value.ref b] s) (entryFrame m ([Value.ref b] : List Value).toArray 7) := by
  obtain ⟨hx, hb, hr, hml, hown, hts, ⟨scr, x1, x2, x3, x4, x5⟩, hbl, hlocks, hgv⟩ := C0
  have hT : ∀ w ∈ aT, w.before #[Value.ref b] s = true := fun w hw => hts w (List.mem_filter.mp hw).1
  obtain ⟨tA, cell, t1, t2, t3, t4, t5, t6⟩ := start_T hgv
  obtain ⟨⟨q1, q2⟩, p1, p2⟩ := And.intro t3 x2
  obtain ⟨G, hK, hG4, hG5⟩ := start_K hT (hts _ (lw_at 99 (by decide +kernel))) (e := cell.cls) (f := scr.cls) (fun n z => ⟨fun k h => (by cases h), q2⟩) (fun n z => ⟨fun k h => (by cases h), p2⟩)
  have hstr := start_S hts hgv
  have hst := start_Z hts hgv t1
  have C : aCx G s.heap.size tA RL cL_law 7 false p s m #[Value.ref b] meth c := ⟨hx, hb, hml, hown, hT, hK, hst, hstr, (fun h => by cases h), Nat.le_refl _, hlocks⟩
  have htl : tA < s.heap.size := (Array.getElem?_eq_some_iff.mp t2).1
  obtain ⟨A, hA⟩ : ∃ A : aA, A = fun a => if a = tA then some (4, 10, .inl tf0) else if a = b then some (5, L, .inl xs) else none := ⟨_, rfl⟩
  have hAt : A tA = some (4, 10, .inl tf0) := by rw [hA]; exact if_pos rfl
  have hR : aRel G s.heap.size (fun _ => none) A s.heap := by
    refine ⟨Nat.le_refl _, fun a ci fs h => (by cases h), fun a t x h => ?_⟩
    rw [hA] at h
    by_cases ha : a = tA
    · simp only [ha, if_true, Option.some.injEq, Prod.mk.injEq] at h
      obtain ⟨rfl, rfl⟩ := h
      exact Or.inr ⟨by decide, by decide, cell, tf0, rfl, by rw [ha]; exact t2, hG4.symm, q1, t4, t5, t6⟩
    · by_cases hab : a = b
      · simp only [ha, hab, if_true, if_false] at h
        rw [if_neg (by rw [← hab]; exact ha)] at h
        simp only [Option.some.injEq, Prod.mk.injEq] at h
        obtain ⟨rfl, rfl⟩ := h
        exact Or.inr ⟨by decide, by decide, scr, xs, rfl, by rw [hab]; exact x1, hG5.symm, p1, x3, x4, x5⟩
      · simp only [ha, hab, if_false] at h
        cases h
  have hS0 : ∃ tS ys, (tS = 0 ∨ 4 ≤ tS) ∧ A b = some (tS, L, .inl ys) := by
    by_cases hbt : b = tA
    · refine ⟨4, tf0, Or.inr (by decide), ?_⟩
      rw [hbt, t2] at x1
      cases x1
      rw [hbt, hAt, ← x4, t5]
    · exact ⟨5, xs, Or.inr (by decide), by rw [hA]; simp [hbt]⟩
  obtain ⟨tS, ys, hS1, hSb⟩ := hS0
  have hS : va_S (fun q => s.heap.size ≤ q) s.heap s.heap [] := va_S.rf
  have hl := lv_entry [Value.ref b] (n := 7) (Nat.le_of_ble_eq_true rfl)
  rw [lg_entry_eq]
  rw [← aAs_args [Value.ref b] 7 0] at hl
  obtain ⟨Q, hQ⟩ : ∃ Q, Q = lw_Z below #[Value.ref b] s := ⟨_, rfl⟩
  rw [← hQ]
  let E : aE := (fun i av' O A nc ns mc ms Po PoX => aCallOK p l e room_1 s m #[Value.ref b] below meth c Q G s.heap.size cL_law 7 i av' O A nc ns mc ms Po PoX, fun v _ _ nc ns => v = some (.int (nI 1)) ∧ nc ≤ room_1.cells ∧ ns ≤ room_1.slots, fun _ _ _ _ _ _ _ _ => False, fun _ _ _ _ _ _ _ _ => False, tA, some .boolean, room_1.cells, room_1.slots)
  have hE : aEnv p l e room_1 s m #[Value.ref b] below meth c Q G s.heap.size tA cL_law 7 E := by
    refine ⟨fun _ _ _ _ _ _ _ _ _ _ h => h, ?_, ?_, ?_, ?_, fun _ _ _ _ _ _ _ _ h => False.elim h, fun _ _ _ _ _ _ _ _ h => False.elim h, rfl, rfl, rfl⟩
    · intro pc L v ty O A nc ns hd hrt hnar hp H locs ls hR' hS' hL'
      have hv : v = nI 1 := Value.int.inj (Option.some.inj hp.1)
      have h1 : (nI 1 : Int32) = 1 := by decide +kernel
      rw [hQ, hv, h1]
      refine va_forget (fun q hq => hS'.2.2 q hq) ?_
      refine W.widen (k := 601024) (n := 7293033) hp.2.1 hp.2.2 ?_
      exact lw_ret hx hb hr hlocks hd
    · intro pc L v O A nc ns hd hrt; cases hrt
    · intro pc L v n O A nc ns hd hrt; cases hrt
    · intro pc L O A nc ns hd hrt; cases hrt
  have hbL : aBodyL l G s.heap.size tA E (aW p l e room_1 s m #[Value.ref b] below meth c Q G s.heap.size 7) := by
    refine ⟨⟨?_, ?_, ?_, ?_, ?_, ?_, rfl, rfl, rfl, rfl⟩, ?_⟩
    · intro K n pc L st O A nc ns hKK h
      exact wp1_ok C hE boL_law hKK n h
    · intro idx ci b' mxL n nc ns y' cy rt rm' As fs O A Po h1 h2 h3 h4 h5 h6 h7 pc L st hd h9 hk _
      have := aI_callV C (Q := Q) (R := room_1) (e := e) (below := below) h1 h2 h3 h4 h5 h6 h7 h9 hd hk
      simpa using this
    · intro idx mxL n nc ns y' cy rt rm' As O A Po h1 h2 h3 h5 h6 h7 pc L st hd h9 hk _
      exact aI_callS C (Q := Q) (R := room_1) (e := e) (below := below) h1 h2 h3 h5 h6 h7 h9 hd hk
    · intro idx b' mxL n nc ns y' cy rm' As O A Po h1 h2 h3 h5 h6 h7 pc L st hd h9 hk _
      have := aI_callI C (Q := Q) (R := room_1) (e := e) (below := below) h1 h2 h3 h5 h6 h7 h9 hd hk
      simpa using this
    · intro idx b' nc ns O A h1 h2 h3 pc L st hd h9 hk _ H locs ls hR' hS' hL'
      have h8 := aWords h9
      exact W.objInit hx hb hown (hT _ h1) (hT _ aT_objInit.1) (hT _ aT_objInit.2) rfl (hL'.1.trans hml.symm) rfl hd h2 (by show 0 + (st.map fun v => v.category).sum + 12 ≤ room_1.locals; omega) (hk none O A ⟨rfl, rfl, rfl⟩ H locs ls hR' hS' hL')
    · intro v O A nc ns h1 h2 h3
      exact ⟨h1, h2, h3⟩
    · intro idx mxL n nc ns y' cy rt hh rm' As O A Po h1 h2 h3 h5 h6 h7 pc L st hd h9 hk _
      exact aI_callSW C (Q := Q) (R := room_1) (e := e) (below := below) h1 h2 h3 h5 h6 h7 h9 hd hk
  exact lw_body (O := fun _ => none) hsT hbL hL hAt (fun k _ => rfl) hS1 hSb s.heap [] _ hR hS hl
set_option maxHeartbeats 4000000 in
theorem lw_walk (l : Launch) (hsT : l.stackTraces = false) (b : Addr) (xs : List Int32) : MetFree l x (headSpec (Jvm.Cond.code x code maxLocals ret :: tables_1) room_1) (lw_P b xs) (fun _ _ _ _ _ => True) lw_Q := by
  refine MetFree.of_bodyS (code := code) (maxLocals := maxLocals) (ret := ret) (by decide) ?_ ?_
  · intro args s m h hn
    obtain ⟨meth, c, h1, h2, h3, h4, h5, h6, -, -⟩ := Cond.code_spec hn (atoms_spec (ws := Jvm.Cond.code x code maxLocals ret :: tables_1) h _ List.mem_cons_self)
    exact ⟨meth, c, h1, h2, h3, h4, h5, h6⟩
  · intro p e s m args below meth c s₁ B hml0 hP _
    obtain ⟨rfl, hx, hbd, hgv⟩ := hP
    obtain ⟨scr, harrAt, hlist, hof, hsmall⟩ := hx
    obtain ⟨hcb, hkn, -, -⟩ := State.arrayAt?_spec harrAt
    have hown : s.vm.findClass R_law = some m.cls := findClass_of_methodNamed B.named
    have hts0 : ∀ c ∈ (Jvm.Cond.code x code maxLocals ret :: tables_1), c.before #[Value.ref b] s = true := atoms_spec (ws := Jvm.Cond.code x code maxLocals ret :: tables_1) B.pre
    have hts : ∀ w ∈ lw_tbl, w.before #[Value.ref b] s = true := k2_hts_sels lw_privs (fun w hw => hts0 w (List.mem_cons_of_mem _ hw)) lw_privs_ok
    have hml : c.maxLocals = 7 := B.maxLocals_eq (hts0 _ List.mem_cons_self)
    have X₀ : Stand p l e room_1 s m #[Value.ref b] below meth c s₁ [] 0 0 := Stand.of_body B
    have hh0 : s₁.heap = s.heap := by rw [B.state]; rfl
    have hsz : scr.slots.size = xs.length := by rw [← Array.length_toList, hlist, List.length_map]
    have hval : ∀ j : Nat, j < xs.length → scr.slots[j]? = some (.int (xs.getD j 0)) := fun j hj => by
      rw [← Array.getElem?_toList, hlist]
      simp [hj]
    have hbl : b < s.heap.size := (Array.getElem?_eq_some_iff.mp hcb).1
    have hX : va_X b xs.length (fun j => xs.getD j 0) s s.heap := ⟨scr, hcb, hof, hkn, hsz, hval⟩
    have K : W p l e room_1 s m #[Value.ref b] below meth c s₁.heap [] 0 0 (lw_Z below #[Value.ref b] s) (entryFrame m ([Value.ref b] : List Value).toArray 7) := by
      rw [hh0]
      exact whole_start l hsT hbd ⟨B.exec, B.bytes, B.returns, hml, hown, hts, hX, hbl, B.notSynchronized, hgv⟩
    obtain ⟨t, a1, o, b1, b2, b3⟩ := K s₁ rfl X₀
    exact ⟨t, o, a1, b1, b2, b3⟩
theorem lw_pre_spec {args : Array Value} {s : State} (h : (Jvm.Cond.and given_1 narrow_1).before args s = true) (hr : rest_1_c.before args s = true) : ∃ (b : Addr) (xs : List Int32), lw_P b xs args s := by
  have hs := flat_of_before _ h
  have hq := flat_of_before _ hr
  have hc : (Cond.count 1).before args s = true := hs _ (by decide +kernel)
  have harr : (Cond.arrayOf (.arg 0) .int).before args s = true := hs _ (by decide +kernel)
  have hle : (Cond.le (.length (.arg 0)) (.int 2560)).before args s = true := hs _ (by decide +kernel)
  have hlen : (Cond.isInt (.length (.arg 0))).before args s = true := hq _ (by decide +kernel)
  have hall : (Cond.all (.arg 0) (.isInt (.elem (.arg 0) (.index 0)))).before args s = true := hq _ (by decide +kernel)
  obtain ⟨b, xs, hb, hx⟩ := State.ints_of_pre rfl harr hlen hall
  have hsm : xs.length < 2 ^ 31 := hx.choose_spec.2.2.2
  have hev : (Term.length (.arg 0)).eval args s none [] s = some (.int xs.length.toInt32) := hx.length_eval hb
  have hv := Cond.le_ints hev (show (Term.int 2560).eval args s none [] s = some (.int 2560) from rfl)
  have hd : xs.length.toInt32 ≤ 2560 := by
    simpa [Cond.before, Cond.holds, hv] using hle
  have hN : xs.length ≤ 2560 := (Int32.ofNat_le_ofNat hsm (by decide)).mp (show Int32.ofNat xs.length ≤ Int32.ofNat 2560 from hd)
  exact ⟨b, xs, Cond.one_arg hc (show args[0]? = some (.ref b) from hb), hx, hN, h⟩
theorem lw_comes (l : Launch) (hsT : l.stackTraces = false) : Comes l x (Jvm.Cond.code x code maxLocals ret :: tables_1) room_1 (fun tb e args s => Calls_1 tb e args s ∧ rest_1 tb e args s ∧ Pre_1 tb e args s)
    (fun _ _ args s o t => lw_Q args s o t) := by
  intro p e ha hc hk s m args below hf hfit hheap happ hpre
  obtain ⟨b, xs, hP⟩ := lw_pre_spec hpre.2.2 hpre.2.1
  obtain ⟨k, o, h1, h2, h3, hQ⟩ := lw_walk l hsT b xs p e ha hc hk s m args below hf ((Spec.applies_iff_loose hf).mp happ).1 hP trivial
  exact ⟨k, o, h1, h2, h3, hQ⟩
theorem lw_frame {s t : State} {o : Outcome} {args : Array Value} (h : Framed s o t [] 601024 7293033) :
    Framed s o t (fieldLocs frame_1_writes args s ++ arrayLocs frame_1_arrays args s ++ staticLocs frame_1_statics s) 601024 7293033 := h
theorem lw_limb (L : Cond) (hL : ∀ (args : Array Value) (s t : State), L.after args s (.returned (some (.int 1))) t = true) :
    ArmFor flags0 classFile x code maxLocals ret World_1 tables_1 room_1 Calls_1 rest_1 Pre_1
      (fun tb e a s o t => postC L tb e a s o t ∧ Framed s o t (fieldLocs frame_1_writes a s ++ arrayLocs frame_1_arrays a s ++ staticLocs frame_1_statics s) 601024 7293033) := by
  intro l hfl _ _ p e ha hc hk s m args below hf hfit hheap happ hpre
  obtain ⟨k, o, h1, h2, h3, rfl, hF⟩ := lw_comes l (by show (!l.flags.contains noTraceFlag) = false; rw [hfl]; decide +kernel) p e ha hc hk s m args below hf hfit hheap happ hpre
  exact ⟨k, _, h1, h2, h3, hL args s _, lw_frame hF⟩
theorem i_vc : Claimed_1_1 ∧ Claimed_1_2 := ⟨lw_limb limb_1_1 (fun args s t => by simp [limb_1_1, Cond.after, Cond.holds, Cond.value]), lw_limb limb_1_2 (fun args s t => Cond.after_iff.mpr (by
  first | (rw [show limb_1_2 = Cond.eq .result (.int 1) from rfl, Cond.eq_ints (x := 1) (y := 1) rfl rfl]; simp; done) | (simp [limb_1_2, Cond.value, Term.eval]; done)))⟩
