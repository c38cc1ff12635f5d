/-! ===== methods that return or throw ===== -/
def xN : Nat → String
  | 1 => "java/lang/NegativeArraySizeException"
  | 2 => "java/lang/ArrayIndexOutOfBoundsException"
  | _ => "java/lang/ArithmeticException"
theorem declares_of {x : MethodName} {bytes : ByteArray} {n : Nat} {ret : Option FieldType} {args : Array Value} {s : State} (h1 : (Cond.instanceMethod x).before args s = true) (h2 : (Cond.code x bytes n ret).before args s = true) : (Cond.declares x).before args s = true := by
  obtain ⟨m, meth, hn, hm, hst, -⟩ := Cond.instanceMethod_spec h1
  obtain ⟨meth', c, hm', -, -, -, -, -, -, hsig⟩ := Cond.code_spec hn h2
  cases hm.symm.trans hm'
  show (Cond.declares x).holds args s none s [] = true
  simp only [Cond.holds, Cond.value, hn, Option.bind_some, hm, Option.map_some, hst, hsig]
  simp
def aThS (own : String) (cc : ByteArray) (z pc : Nat) : Prop := ∃ (text : String) (names : List String) (ds : List (MethodName × ByteArray)) (ik is ic : Nat), own = RX8 ∧ Bundle.fit (xN z) = true ∧ (∀ n ∈ names, Bundle.fit n = true) ∧ Cond.classLink RX8 ik (xN z) ∈ aT ∧ Cond.initialized (xN z) ∈ aT ∧ (is, text) ∈ aStrs ∧
  (∀ w ∈ (vx_atS RX8 ic (xN z) names).filter goodWord, w ∈ aT) ∧ (∀ w ∈ (vx_atS RX8 ic (xN z) names).filter (fun w => !goodWord w), w ∈ Cond.castable (xN z) (xN z) :: ds.map (fun q => Cond.declares q.1)) ∧ (∀ q ∈ ds, Cond.instanceMethod q.1 ∈ aT ∧ Cond.code q.1 q.2 2 none ∈ aT) ∧ xN z ∈ aXs ∧ (∀ w ∈ Cond.classLink RX8 ik (xN z) :: Cond.initialized (xN z) :: vx_atS RX8 ic (xN z) names, vx_ot w = true) ∧
  names.length ≤ 3 ∧ decode cc pc = .ok (.new ik, 3) ∧ decode cc (pc + 3) = .ok (.dup, 1) ∧ decode cc (pc + 4) = .ok (.ldc is, 2) ∧ decode cc (pc + 6) = .ok (.invokespecial ic, 3) ∧ decode cc (pc + 9) = .ok (.athrow, 1)
section EXC
variable {l : Launch} {G : aG} {base tA : Nat}
/-- what an exception leaves, but for the texts -/
def aXw (G : aG) (base tA : Nat) (PostX : aPostX) : String → State → State → Prop := fun n st t => (∃ O' A', PostX n O' A' ∧ aRel G base O' A' t.heap ∧ aKn G t ∧ aSt base tA t t.heap) ∧ va_F (fun q => base ≤ q) st t
theorem aRel.ext {O : aO} {A : aA} {H H1 : Heap} (h : aRel G base O A H) (z : H.size ≤ H1.size) (o1 : ∀ q : Nat, q < H.size → H1[q]? = H[q]?) : aRel G base O A H1 :=
  ⟨Nat.le_trans h.1 z, fun b cj gs hb => ⟨(h.2.1 b cj gs hb).1, (h.2.1 b cj gs hb).2.kept (o1 b (h.2.1 b cj gs hb).2.lt)⟩, fun b t x hb => (h.2.2 b t x hb).kept (o1 b (h.freshA b (by rw [hb]; simp)))⟩
theorem va_S.ext {A9 : Nat → Prop} {H0 H H1 : Heap} {locs : List Loc} (hS : va_S A9 H0 H locs) (z : H.size ≤ H1.size) (o1 : ∀ q : Nat, q < H.size → H1[q]? = H[q]?) : va_S A9 H0 H1 locs :=
  ⟨Nat.le_trans hS.1 z, fun x h1 h2 => (o1 x (Nat.lt_of_lt_of_le h1 hS.1)).trans (hS.2.1 x h1 h2), hS.2.2⟩
section BX
variable {p : Program} {e : Env} {R : Room} {s : State} {m : MethodId} {args : Array Value} {below : List Frame} {meth : Method} {c : Code} {Q : State → Prop} {own : String} {cc : ByteArray} {nL : Nat} {ini : Bool} {pc : Nat} {L : aL} {st : List Value} {O : aO} {A : aA} {nc ns : Nat} {H : Heap}
/-- behind a call that returns or throws -/
theorem aBackX {Post : aPost} {PostX : aPostX} {mc ms : Nat} {st0 : List Value} {ls : Array Slot} {locs : List Loc} {a : Array Value}
    (hr : vx_Run p l e R s m args below meth c H locs nc ns mc ms (F0 m pc ls st0) st (aQc G base tA Post a) (aXc G base tA PostX) (fun q => base ≤ q)) (hS : va_S (fun q => base ≤ q) s.heap H locs) (hL : lv_has ls nL (aAs 0 L))
    (kk : ∀ v O' A', Post v O' A' → aW p l e R s m args below meth c Q G base nL (pc + 3) L (v.toList ++ st) O' A' (nc + mc) (ns + ms))
    (kx : ∀ n O' A', PostX n O' A' → aX p l e R s m args below meth c Q G base nL pc n L st O' A' (nc + mc) (ns + ms)) : W p l e R s m args below meth c H locs nc ns Q (F0 m pc ls st0) := by
  intro T hT X
  rcases hr T hT X with ⟨v, st₀, t, T', LL, h0, X', hL9, e1, e2, ⟨⟨v', O', A', hv, hp, hg⟩, hz, hk⟩, stp⟩ | ⟨q, st₀, t, T', LL, En, ce, h0, X', hL9, e1, e2, ⟨⟨O', A', hp, hg⟩, hz, hk⟩, hce, hcv, hcl, stp⟩
  · cases hv
    rw [h0] at hz hk
    obtain ⟨t2, a1, b1⟩ := kk v O' A' hp T'.heap (locs ++ LL) ls (by rw [e1]; exact hg.1) ⟨Nat.le_trans hS.1 (by rw [e1]; exact hz), fun q h1 h2 => by rw [e1, hk q (Nat.lt_of_lt_of_le h1 hS.1) h2]; exact hS.2.1 q h1 h2, fun q hq => by
        rcases List.mem_append.mp hq with h | h
        · exact hS.2.2 q h
        · exact hL9 q h⟩ hL T' rfl X'
    exact ⟨t2, stp t2 a1, b1⟩
  · rw [h0] at hz hk
    obtain ⟨t2, a1, b1⟩ := kx En O' A' hp T'.heap (locs ++ LL) ls q ce (by rw [e1]; exact hg.1) ⟨Nat.le_trans hS.1 (by rw [e1]; exact hz), fun q h1 h2 => by rw [e1, hk q (Nat.lt_of_lt_of_le h1 hS.1) h2]; exact hS.2.1 q h1 h2, fun q hq => by
        rcases List.mem_append.mp hq with h | h
        · exact hS.2.2 q h
        · exact hL9 q h⟩ hL (by rw [e1]; exact hce) hcv hcl T' rfl X'
    exact ⟨t2, stp.trans a1, b1⟩
theorem aI_callVX (C : aCx G base tA own cc nL ini p s m args meth c) {idx ci b mxL n : Nat} {y : MethodName} {cy : ByteArray} {ret : Option FieldType} {rm : Room} {As : List Value} {fs : List Value} {Post : aPost} {PostX : aPostX} (hF : aLkV own idx ci y cy mxL n ret) (hM : aMetX l G base tA y cy mxL ret rm (.ref b :: As) O A Post PostX) (hn : As.length = n) (hb9 : O b = some (ci, fs))
    (hRm : rm.frames + 1 ≤ R.frames ∧ 8 + (mxL + 11) + rm.locals ≤ R.locals) (hc1 : nc + rm.cells ≤ R.cells) (hs1 : ns + rm.slots ≤ R.slots) (hst4 : st.length ≤ 4) (hd : decode cc pc = .ok (.invokevirtual idx, 3))
    (kk : ∀ v O' A', Post v O' A' → aW p l e R s m args below meth c Q G base nL (pc + 3) L (v.toList ++ st) O' A' (nc + rm.cells) (ns + rm.slots))
    (kx : ∀ n O' A', PostX n O' A' → aX p l e R s m args below meth c Q G base nL pc n L st O' A' (nc + rm.cells) (ns + rm.slots)) : aW p l e R s m args below meth c Q G base nL pc L (As.reverse ++ .ref b :: st) O A nc ns := by
  intro H locs ls hR hS hL
  obtain ⟨Cn, T, N, hc, hlk, hins, hsel, hini, hcd, hdd⟩ := hF
  have hcx := id C
  obtain ⟨hx, hb, hml, hown, hts, hK, hst, hstr, hi, hbs, hlk9⟩ := hcx
  have hG : GoodIn aT (wsV own idx Cn y (aWs y cy mxL ret)) := by
    intro w hw
    unfold wsV at hw
    rcases List.mem_append.mp hw with h | h
    · have : w ∈ aT := by
        simp only [List.mem_cons, List.not_mem_nil, or_false] at h
        rcases h with rfl | rfl | rfl | rfl <;> assumption
      exact aT_good w this
    · exact aWs_good hcd w h
  have hrun := vx_runV (C := Cn) (b := b) (As := As) (rest := st) (g := F0 m pc ls (As.reverse ++ .ref b :: st)) (H := H) (locs := locs) (cells := nc) (slots := ns) (l := l) (e := e) (below := below) (meth := meth) ⟨hx, hb, hml, hown, hts⟩ hM (cwV (R := R) n hts hG rfl rfl rfl hdd hRm)
    ⟨aGood.blind, va_recv (D := G.1) (ci := ci) (q0 := 0) hK.1 (va_P1 (hR.2.1 b ci fs hb9).2) hc rfl, fun U hU hW => ⟨rfl, aGood_at C hR hS hU hW⟩⟩ rfl hn hL.1 rfl (lv_room (aWords hst4)) hd ⟨hc1, hs1⟩
  exact aBackX hrun hS hL kk kx
end BX
/-- what the proof of a body that may throw has -/
def aBodyX (l : Launch) (G : aG) (base tA : Nat) (own : String) (cc : ByteArray) (R : Room) (ret : Option FieldType) (B : Nat → Option (List aIn)) (Post : aPost) (PostX : aPostX) (E : aE) (J : aK0) : Prop :=
  aBody l G base tA own R ret B Post E J ∧
  (∀ {idx ci b mxL n nc ns : Nat} {y : MethodName} {cy : ByteArray} {rt : Option FieldType} {rm : Room} {As fs : List Value} {O : aO} {A : aA} {Po : aPost} {PoX : aPostX}, aLkV own idx ci y cy mxL n rt → aMetX l G base tA y cy mxL rt rm (.ref b :: As) O A Po PoX → As.length = n → O b = some (ci, fs) → (rm.frames + 1 ≤ R.frames ∧ 8 + (mxL + 11) + rm.locals ≤ R.locals) → nc + rm.cells ≤ R.cells → ns + rm.slots ≤ R.slots → eCall E (.invokevirtual idx) (.ref b :: As) O A nc ns rm.cells rm.slots Po PoX) ∧
  (∀ pc n L st O A nc ns, PostX n O A → nc ≤ R.cells → ns ≤ R.slots → eExc E pc n L st O A nc ns) ∧
  (∀ z pc L st O A nc ns, aThS own cc z pc → PostX (xN z) O A → nc + 1 ≤ R.cells → ns + 6 ≤ R.slots → st.length ≤ 4 → 6 < R.frames → 111 ≤ R.locals → eThr E z pc L st O A nc ns)
set_option maxHeartbeats 1000000 in
theorem aMetX_of (hst9 : l.stackTraces = false) {y : MethodName} {cc : ByteArray} {nL : Nat} {ini : Bool} {ret : Option FieldType} {rm : Room} {av : List Value} {O : aO} {A : aA} {Post : aPost} {PostX : aPostX} {B : Nat → Option (List aIn)} (hy : plainName y.cls = true) (hini : ini = true → y.name = "<init>") (hav : (lg_sl av).length ≤ nL)
    (hB : ∀ pc is, B pc = some is → aBlk y.cls cc nL ini pc is) (body : ∀ (E : aE) (J : aK0), aBodyX l G base tA y.cls cc rm ret B Post PostX E J → J 0 (aArgs av nL) [] O A 0 0) : aMetX l G base tA y cc nL ret rm av O A Post PostX := by
  have weak : vx_Met l y (aWs y cc nL ret) rm (va_Pc av (fun U => aGood G base tA O A U)) (aQc G base tA Post) (aXw G base tA PostX) rm.cells rm.slots (fun q => base ≤ q) := by
    refine vx_ofW (cc := cc) (maxL := nL) (ret := ret) hy rfl ?_
    intro p e s m args below meth c s₁ Bd hml htab hv
    obtain ⟨rfl, hR, hK, hst, hstr⟩ := hv
    have hx := Bd.exec
    have hb := Bd.bytes
    have hr := Bd.returns
    have hts := atoms_spec (ws := aWs y cc nL ret) Bd.pre
    have hown : s.vm.findClass y.cls = some m.cls := findClass_of_methodNamed Bd.named
    have hlocks := Bd.notSynchronized
    have hnm : meth.name = y.name := (name_of_methodNamed Bd.named Bd.method).1
    have hT : ∀ w ∈ aT, w.before av.toArray s = true := fun w hw => hts w (List.mem_cons_of_mem _ hw)
    have C : aCx G base tA y.cls cc nL ini p s m av.toArray meth c := ⟨hx, hb, hml, hown, hT, hK, hst, hstr, fun h => by rw [hnm]; exact hini h, hR.1, hlocks⟩
    have hS : va_S (fun q => base ≤ q) s.heap s.heap [] := va_S.rf
    have hl := lv_entry av (n := nL) hav
    rw [lg_entry_eq]
    rw [← aAs_args av nL 0] at hl
    have fin : ∀ {v : Option Value} {O' : aO} {A' : aA} {H : Heap} {locs : List Loc}, aRel G base O' A' H → va_S (fun q => base ≤ q) s.heap H locs → Post v O' A' → ∀ t : State, t.heap = H → s.WarmedH t.vm → aQc G base tA Post av.toArray s (.returned v) t :=
      fun hR' hS' hp t ht hW => ⟨⟨_, _, _, rfl, hp, aGood_at C hR' hS' ht hW⟩, hS'.F ht⟩
    have finX : ∀ {n : String} {O' : aO} {A' : aA} {H : Heap} {locs : List Loc}, aRel G base O' A' H → va_S (fun q => base ≤ q) s.heap H locs → PostX n O' A' → ∀ t : State, t.heap = H → s.vm.Alike t.vm → aXw G base tA PostX n s t :=
      fun hR' hS' hp t ht hW => ⟨⟨_, _, hp, by rw [ht]; exact hR', hK.moved hW, (hst.moved hW).kept (by rw [ht]; exact hS'.2.1)⟩, hS'.F ht⟩
    obtain ⟨Q, hQ⟩ : ∃ Q, Q = vx_MQ below (aQc G base tA Post) (aXw G base tA PostX) av.toArray s rm.cells rm.slots (fun q => base ≤ q) := ⟨_, rfl⟩
    show W p l e rm s m av.toArray below meth c s.heap [] 0 0 (vx_MQ below (aQc G base tA Post) (aXw G base tA PostX) av.toArray s rm.cells rm.slots (fun q => base ≤ q)) _
    rw [← hQ]
    let E : aE := (fun i av' O A nc ns mc ms Po PoX => aCallOK p l e rm s m av.toArray below meth c Q G base cc nL i av' O A nc ns mc ms Po PoX, fun v O A nc ns => Post v O A ∧ nc ≤ rm.cells ∧ ns ≤ rm.slots, fun _ n _ _ O A nc ns => PostX n O A ∧ nc ≤ rm.cells ∧ ns ≤ rm.slots, fun z pc _ st O A nc ns => aThS y.cls cc z pc ∧ PostX (xN z) O A ∧ nc + 1 ≤ rm.cells ∧ ns + 6 ≤ rm.slots ∧ st.length ≤ 4 ∧ 6 < rm.frames ∧ 111 ≤ rm.locals, tA, ret, rm.cells, rm.slots)
    have hE : aEnv p l e rm s m av.toArray below meth c Q G base tA cc nL E := by
      refine ⟨fun _ _ _ _ _ _ _ _ _ _ h => h, ?_, ?_, ?_, ?_, ?_, ?_, rfl, rfl, rfl⟩
      · intro pc L v ty O A nc ns hd hrt hnar hp H locs ls hR' hS' hL'
        rw [hQ]
        refine W.widen (k := rm.cells) (n := rm.slots) hp.2.1 hp.2.2 ?_
        exact vx_ret (W.zret hx hb (hr.trans hrt) hnar (fin hR' hS' hp.1) hS'.2.2 hd)
      · intro pc L v O A nc ns hd hrt hp H locs ls hR' hS' hL'
        rw [hQ]
        refine W.widen (k := rm.cells) (n := rm.slots) hp.2.1 hp.2.2 ?_
        exact vx_ret (W.lret hx hb (hr.trans hrt) (fin hR' hS' hp.1) hS'.2.2 hd)
      · intro pc L v n O A nc ns hd hrt hp H locs ls hR' hS' hL'
        rw [hQ]
        refine W.widen (k := rm.cells) (n := rm.slots) hp.2.1 hp.2.2 ?_
        exact vx_ret (W.aret hx hb (hr.trans hrt) (Or.inl ⟨_, rfl⟩) (Or.inr ⟨_, rfl⟩) (fin hR' hS' hp.1) hS'.2.2 hd)
      · intro pc L O A nc ns hd hrt hp H locs ls hR' hS' hL'
        rw [hQ]
        refine W.widen (k := rm.cells) (n := rm.slots) hp.2.1 hp.2.2 ?_
        exact vx_ret (W.vret hx hb (hr.trans hrt) (fin hR' hS' hp.1) hS'.2.2 hd)
      · intro pc n L st O A nc ns hp H locs ls q ce hR' hS' hL' hce hcv hcl
        rw [hQ]
        exact vx_out (fun x hx => (htab x hx).elim) hlocks hce hcv hcl (finX hR' hS' hp.1) hS'.2.2 hp.2.1 hp.2.2
      · intro z pc L st O A nc ns hp H locs ls hR' hS' hL'
        rw [hQ]
        obtain ⟨⟨text, names, ds, ik, is, ic, hwn, t1, t2, t3, t4, t5, t6, t7, t11, t8, t9, t10, d0, d3, d4, d6, d9⟩, hp1, hp2, hp3, hp4, hp5, hp6⟩ := hp
        obtain ⟨sa, hsa⟩ := hstr.1 _ t5
        have h8 := aWords hp4
        have hat : ∀ w ∈ vx_atS RX8 ic (xN (z + 1)) names, w.before av.toArray s = true := vx_hat (fun w hw => hT w (t6 w hw)) t7 (vx_c (va_Nw.use rfl (hstr.2.2.2.1 _ t8)) (fun w hw => by obtain ⟨q, q1, q2⟩ := List.mem_map.mp hw; rw [← q2]; exact declares_of (hT _ (t11 q q1).1) (hT _ (t11 q q1).2)))
        exact vx_throwS hx hb hst9 (own := RX8) (by rw [← hwn]; exact hown) t1 t2 (hT _ t3) (hT _ t4) hsa hat t9 hst.2.1 hst.2.2 hS' (hL'.1.trans hml.symm) d0 d3 d4 d6 d9 (fun x hx => (htab x hx).elim) (by omega) (by omega) hp2 hp3 hlocks
          (fun t hA z1 o1 => finX (hR'.ext z1 o1) (hS'.ext z1 o1) hp1 t rfl hA) hS'.2.2 hp2 hp3
    refine body E (aW p l e rm s m av.toArray below meth c Q G base nL) ⟨⟨?_, ?_, ?_, ?_, ?_, ?_, rfl, rfl, rfl, rfl⟩, ?_, ?_, ?_⟩ s.heap [] _ hR hS hl
    · intro K n pc L st O A nc ns hKK h
      exact wp1_ok C hE hB hKK n h
    · intro idx ci b mxL n nc ns y' cy rt rm' As fs O A Po h1 h2 h3 h4 h5 h6 h7 pc L st hd h9 hk _
      have := aI_callV C (Q := Q) (R := rm) (e := e) (below := below) h1 h2 h3 h4 h5 h6 h7 h9 hd hk
      simpa using this
    · intro idx mxL n nc ns y' cy rt rm' As O A Po h1 h2 h3 h5 h6 h7 pc L st hd h9 hk _
      exact aI_callS C (Q := Q) (R := rm) (e := e) (below := below) h1 h2 h3 h5 h6 h7 h9 hd hk
    · intro idx b mxL n nc ns y' cy rm' As O A Po h1 h2 h3 h5 h6 h7 pc L st hd h9 hk _
      have := aI_callI C (Q := Q) (R := rm) (e := e) (below := below) h1 h2 h3 h5 h6 h7 h9 hd hk
      simpa using this
    · intro idx b nc ns O A h1 h2 h3 pc L st hd h9 hk _ H locs ls hR' hS' hL'
      have h8 := aWords h9
      exact W.objInit hx hb hown (hT _ h1) (hT _ aT_objInit.1) (hT _ aT_objInit.2) rfl (hL'.1.trans hml.symm) rfl hd h2 (by show 0 + (st.map fun v => v.category).sum + 12 ≤ rm.locals; omega) (hk none O A ⟨rfl, rfl, rfl⟩ H locs ls hR' hS' hL')
    · intro v O A nc ns h1 h2 h3
      exact ⟨h1, h2, h3⟩
    · intro idx ci b mxL n nc ns y' cy rt rm' As fs O A Po PoX h1 h2 h3 h4 h5 h6 h7 pc L st hd h9 hk hkx
      have := aI_callVX C (Q := Q) (R := rm) (e := e) (below := below) h1 h2 h3 h4 h5 h6 h7 h9 hd hk hkx
      simpa using this
    · intro pc n L st O A nc ns h1 h2 h3
      exact ⟨h1, h2, h3⟩
    · intro z pc L st O A nc ns h1 h2 h3 h4 h5 h6 h7
      exact ⟨h1, h2, h3, h4, h5, h6, h7⟩
  intro p e h1 h2 h3 s m args below h4 h5 h6 h7
  obtain ⟨n, o, a1, a2, a3, hq⟩ := weak p e h1 h2 h3 s m args below h4 h5 h6 h7
  refine ⟨n, o, a1, a2, a3, ?_⟩
  rcases hq with hq | ⟨q, ho, En, ce, LL, ⟨⟨O', A', hp, k1, k2, k3⟩, hF⟩, r1, r2, r3, hW, r5⟩
  · exact Or.inl hq
  · exact Or.inr ⟨q, ho, En, ce, LL, ⟨⟨O', A', hp, k1, k2, k3, aStr.warm hW h6.2.2.2.2⟩, hF⟩, r1, r2, r3, hW, r5⟩
end EXC
theorem aDs {ds : List (MethodName × ByteArray)} (h : (ds.flatMap (fun q => [Cond.instanceMethod q.1, Cond.code q.1 q.2 2 none])).all (fun w => lw_tbl.any (fun v => decide (v = w)) && goodWord w) = true) : ∀ q ∈ ds, Cond.instanceMethod q.1 ∈ aT ∧ Cond.code q.1 q.2 2 none ∈ aT := fun q hq =>
  ⟨aAll h _ (List.mem_flatMap.mpr ⟨q, hq, List.mem_cons_self⟩), aAll h _ (List.mem_flatMap.mpr ⟨q, hq, List.mem_cons_of_mem _ List.mem_cons_self⟩)⟩
theorem aAllF {ws : List Cond} (h : ws.all (fun w => lw_tbl.any (fun v => decide (v = w)) && goodWord w) = true) : ∀ w ∈ ws, w ∈ aT := aAll h
set_option maxRecDepth 100000 in
theorem ths_find : aThS RX8 cX8_find 2 21 := ⟨"no such number", ["java/lang/IndexOutOfBoundsException", "java/lang/RuntimeException", "java/lang/Exception"], [(Bundle.initS "java/lang/IndexOutOfBoundsException", Bundle.six), (Bundle.initS "java/lang/RuntimeException", Bundle.six), (Bundle.initS "java/lang/Exception", Bundle.six), (Bundle.initS Bundle.tN, LibCode.Throwable.InitS.code)], 127, 129, 131, rfl, by decide +kernel, by decide +kernel, aAll (ws := [_]) (by decide +kernel) _ (List.mem_singleton.mpr rfl), aAll (ws := [_]) (by decide +kernel) _ (List.mem_singleton.mpr rfl), by decide +kernel, aAll (by decide +kernel), by decide +kernel, aDs (by decide +kernel), by decide +kernel, by decide +kernel, by decide, by decide +kernel, by decide +kernel, by decide +kernel, by decide +kernel, by decide +kernel⟩
set_option maxRecDepth 100000 in
theorem ths_findB : aThS RX8 cX8_findWithByte 2 19 := ⟨"no such byte", ["java/lang/IndexOutOfBoundsException", "java/lang/RuntimeException", "java/lang/Exception"], [(Bundle.initS "java/lang/IndexOutOfBoundsException", Bundle.six), (Bundle.initS "java/lang/RuntimeException", Bundle.six), (Bundle.initS "java/lang/Exception", Bundle.six), (Bundle.initS Bundle.tN, LibCode.Throwable.InitS.code)], 127, 132, 131, rfl, by decide +kernel, by decide +kernel, aAll (ws := [_]) (by decide +kernel) _ (List.mem_singleton.mpr rfl), aAll (ws := [_]) (by decide +kernel) _ (List.mem_singleton.mpr rfl), by decide +kernel, aAll (by decide +kernel), by decide +kernel, aDs (by decide +kernel), by decide +kernel, by decide +kernel, by decide, by decide +kernel, by decide +kernel, by decide +kernel, by decide +kernel, by decide +kernel⟩
set_option maxRecDepth 100000 in
theorem ths_number : aThS RX8 cX8_number 1 4 := ⟨"digits below 0", ["java/lang/RuntimeException", "java/lang/Exception"], [(Bundle.initS "java/lang/RuntimeException", Bundle.six), (Bundle.initS "java/lang/Exception", Bundle.six), (Bundle.initS Bundle.tN, LibCode.Throwable.InitS.code)], 49, 51, 53, rfl, by decide +kernel, by decide +kernel, aAll (ws := [_]) (by decide +kernel) _ (List.mem_singleton.mpr rfl), aAll (ws := [_]) (by decide +kernel) _ (List.mem_singleton.mpr rfl), by decide +kernel, aAll (by decide +kernel), by decide +kernel, aDs (by decide +kernel), by decide +kernel, by decide +kernel, by decide, by decide +kernel, by decide +kernel, by decide +kernel, by decide +kernel, by decide +kernel⟩
set_option maxRecDepth 100000 in
theorem ths_apply : aThS RX8 cX8_apply 3 123 := ⟨"the divisor's whole part is 0", ["java/lang/RuntimeException", "java/lang/Exception"], [(Bundle.initS "java/lang/RuntimeException", Bundle.six), (Bundle.initS "java/lang/Exception", Bundle.six), (Bundle.initS Bundle.tN, LibCode.Throwable.InitS.code)], 91, 93, 95, rfl, by decide +kernel, by decide +kernel, aAll (ws := [_]) (by decide +kernel) _ (List.mem_singleton.mpr rfl), aAll (ws := [_]) (by decide +kernel) _ (List.mem_singleton.mpr rfl), by decide +kernel, aAll (by decide +kernel), by decide +kernel, aDs (by decide +kernel), by decide +kernel, by decide +kernel, by decide, by decide +kernel, by decide +kernel, by decide +kernel, by decide +kernel, by decide +kernel⟩
