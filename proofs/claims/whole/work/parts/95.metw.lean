/-! ===== methods with a table of handlers ===== -/
def aWsW (y : MethodName) (cc : ByteArray) (n : Nat) (ret : Option FieldType) (hh : List (Nat × Nat × Nat × Nat)) : List Cond := .codeWith y cc n ret hh :: aT
theorem aWsW_good {y : MethodName} {cc : ByteArray} {n : Nat} {ret : Option FieldType} {hh : List (Nat × Nat × Nat × Nat)} (h : Cond.codeWith y cc n ret hh ∈ aT) : GoodIn aT (aWsW y cc n ret hh) := fun w hw => (List.mem_cons.mp hw).elim (fun e => by rw [e]; exact aT_good _ h) (aT_good w)
/-- the contract of a method that has a table and returns -/
def aMetW (l : Launch) (G : aG) (base tA : Nat) (y : MethodName) (cc : ByteArray) (nL : Nat) (ret : Option FieldType) (hh : List (Nat × Nat × Nat × Nat)) (rm : Room) (av : List Value) (O : aO) (A : aA) (Post : aPost) : Prop :=
  Met l y (aWsW y cc nL ret hh) rm (va_Pc av (fun U => aGood G base tA O A U)) (aQc G base tA Post) rm.cells rm.slots (fun q => base ≤ q)
/-- the exception n, thrown at pc, is caught at h -/
def aCth (own : String) (hh : List (Nat × Nat × Nat × Nat)) (pc : Nat) (n : String) (h : Nat) : Prop :=
  ∃ (pre : List ExceptionTableEntry) (x : ExceptionTableEntry) (suf : List ExceptionTableEntry), tableOf hh = pre ++ x :: suf ∧ (∀ z ∈ pre, covers z pc = false ∨ (z.catchType ≠ 0 ∧ ∃ nm : String, Cond.classLink own z.catchType nm ∈ aT ∧ n = "java/lang/ArithmeticException" ∧ nm = "java/lang/ArrayIndexOutOfBoundsException")) ∧ covers x pc = true ∧ x.catchType ≠ 0 ∧ Cond.classLink own x.catchType n ∈ aT ∧ n ∈ aXs ∧ x.handlerPc = h
section METW
variable {l : Launch} {G : aG} {base tA : Nat}
/-- what the proof of a body with a table has -/
def aBodyW (l : Launch) (G : aG) (base tA : Nat) (own : String) (hh : List (Nat × Nat × Nat × Nat)) (R : Room) (ret : Option FieldType) (B : Nat → Option (List aIn)) (Post : aPost) (E : aE) (J : aK0) : Prop :=
  aBody l G base tA own R ret B Post E J ∧
  (∀ {idx ci b mxL n nc ns : Nat} {y : MethodName} {cy : ByteArray} {rt : Option FieldType} {rm : Room} {As fs : List Value} {O : aO} {A : aA} {Po : aPost} {PoX : aPostX}, aLkV own idx ci y cy mxL n rt → aMetX l G base tA y cy mxL rt rm (.ref b :: As) O A Po PoX → As.length = n → O b = some (ci, fs) → (rm.frames + 1 ≤ R.frames ∧ 8 + (mxL + 11) + rm.locals ≤ R.locals) → nc + rm.cells ≤ R.cells → ns + rm.slots ≤ R.slots → eCall E (.invokevirtual idx) (.ref b :: As) O A nc ns rm.cells rm.slots Po PoX) ∧
  (∀ pc n h L st O A nc ns, aCth own hh pc n h → (∀ q : Nat, J h L [.ref q] O A nc ns) → eExc E pc n L st O A nc ns)
set_option maxHeartbeats 1000000 in
theorem aMetW_of {y : MethodName} {cc : ByteArray} {nL : Nat} {ret : Option FieldType} {hh : List (Nat × Nat × Nat × Nat)} {rm : Room} {av : List Value} {O : aO} {A : aA} {Post : aPost} {B : Nat → Option (List aIn)} (hy : plainName y.cls = true) (hav : (lg_sl av).length ≤ nL)
    (hB : ∀ pc is, B pc = some is → aBlk y.cls cc nL false pc is) (body : ∀ (E : aE) (J : aK0), aBodyW l G base tA y.cls hh rm ret B Post E J → J 0 (aArgs av nL) [] O A 0 0) : aMetW l G base tA y cc nL ret hh rm av O A Post := by
  have weak : vx_Met l y (aWsW y cc nL ret hh) rm (va_Pc av (fun U => aGood G base tA O A U)) (aQc G base tA Post) (fun _ _ _ => False) rm.cells rm.slots (fun q => base ≤ q) := by
    refine vx_ofWH (cc := cc) (maxL := nL) (ret := ret) (hh := hh) hy rfl ?_
    intro p e s m args below meth c s₁ Bd hml hv
    obtain ⟨rfl, hR, hK, hst, hstr⟩ := hv
    have hx := Bd.exec
    have hb := Bd.bytes
    have hr := Bd.returns
    have hts := atoms_spec (ws := aWsW y cc nL ret hh) Bd.pre
    have hown : s.vm.findClass y.cls = some m.cls := findClass_of_methodNamed Bd.named
    have hlocks := Bd.notSynchronized
    have hT : ∀ w ∈ aT, w.before av.toArray s = true := fun w hw => hts w (List.mem_cons_of_mem _ hw)
    have htab : c.exceptionTable.toList = tableOf hh := vx_table (x := y) Bd (hts _ List.mem_cons_self)
    have C : aCx G base tA y.cls cc nL false p s m av.toArray meth c := ⟨hx, hb, hml, hown, hT, hK, hst, hstr, (fun h => by cases h), hR.1, hlocks⟩
    have hS : va_S (fun q => base ≤ q) s.heap s.heap [] := va_S.rf
    have hl := lv_entry av (n := nL) hav
    rw [lg_entry_eq]
    rw [← aAs_args av nL 0] at hl
    have fin : ∀ {v : Option Value} {O' : aO} {A' : aA} {H : Heap} {locs : List Loc}, aRel G base O' A' H → va_S (fun q => base ≤ q) s.heap H locs → Post v O' A' → ∀ t : State, t.heap = H → s.WarmedH t.vm → aQc G base tA Post av.toArray s (.returned v) t :=
      fun hR' hS' hp t ht hW => ⟨⟨_, _, _, rfl, hp, aGood_at C hR' hS' ht hW⟩, hS'.F ht⟩
    obtain ⟨Q, hQ⟩ : ∃ Q, Q = vx_MQ below (aQc G base tA Post) (fun _ _ _ => False) av.toArray s rm.cells rm.slots (fun q => base ≤ q) := ⟨_, rfl⟩
    show W p l e rm s m av.toArray below meth c s.heap [] 0 0 (vx_MQ below (aQc G base tA Post) (fun _ _ _ => False) av.toArray s rm.cells rm.slots (fun q => base ≤ q)) _
    rw [← hQ]
    let E : aE := (fun i av' O A nc ns mc ms Po PoX => aCallOK p l e rm s m av.toArray below meth c Q G base cc nL i av' O A nc ns mc ms Po PoX, fun v O A nc ns => Post v O A ∧ nc ≤ rm.cells ∧ ns ≤ rm.slots, fun pc n L _ O A nc ns => ∃ h, aCth y.cls hh pc n h ∧ ∀ q : Nat, aW p l e rm s m av.toArray below meth c Q G base nL h L [.ref q] O A nc ns, fun _ _ _ _ _ _ _ _ => False, tA, ret, rm.cells, rm.slots)
    have hE : aEnv p l e rm s m av.toArray below meth c Q G base tA cc nL E := by
      refine ⟨fun _ _ _ _ _ _ _ _ _ _ h => h, ?_, ?_, ?_, ?_, ?_, fun _ _ _ _ _ _ _ _ h => False.elim h, rfl, rfl, rfl⟩
      · intro pc L v ty O A nc ns hd hrt hnar hp H locs ls hR' hS' hL'
        rw [hQ]
        refine W.widen (k := rm.cells) (n := rm.slots) hp.2.1 hp.2.2 ?_
        exact vx_ret (W.zret hx hb (hr.trans hrt) hnar (fin hR' hS' hp.1) hS'.2.2 hd)
      · intro pc L v O A nc ns hd hrt hp H locs ls hR' hS' hL'
        rw [hQ]
        refine W.widen (k := rm.cells) (n := rm.slots) hp.2.1 hp.2.2 ?_
        exact vx_ret (W.lret hx hb (hr.trans hrt) (fin hR' hS' hp.1) hS'.2.2 hd)
      · intro pc L v n O A nc ns hd hrt hp H locs ls hR' hS' hL'
        rw [hQ]
        refine W.widen (k := rm.cells) (n := rm.slots) hp.2.1 hp.2.2 ?_
        exact vx_ret (W.aret hx hb (hr.trans hrt) (Or.inl ⟨_, rfl⟩) (Or.inr ⟨_, rfl⟩) (fin hR' hS' hp.1) hS'.2.2 hd)
      · intro pc L O A nc ns hd hrt hp H locs ls hR' hS' hL'
        rw [hQ]
        refine W.widen (k := rm.cells) (n := rm.slots) hp.2.1 hp.2.2 ?_
        exact vx_ret (W.vret hx hb (hr.trans hrt) (fin hR' hS' hp.1) hS'.2.2 hd)
      · intro pc n L st O A nc ns hp H locs ls q ce hR' hS' hL' hce hcv hcl
        obtain ⟨h, ⟨pre, x, suf, e1, e2, e3, e4, e5, e6, e7⟩, kk⟩ := hp
        refine vx_catch hown pre x suf (htab.trans e1) (fun z hz => ?_) e3 e4 (hT _ e5) (va_Nw.use rfl (hstr.2.2.2.1 _ e6)) hce hcv hcl (by rw [e7]; exact kk q H locs ls hR' hS' hL')
        rcases e2 z hz with h9 | ⟨h0, nm, h1, h2, h3⟩
        · exact Or.inl h9
        · exact Or.inr ⟨h0, nm, hT _ h1, by rw [h2, h3]; exact hstr.2.2.2.2⟩
    refine body E (aW p l e rm s m av.toArray below meth c Q G base nL) ⟨⟨?_, ?_, ?_, ?_, ?_, ?_, rfl, rfl, rfl, rfl⟩, ?_, ?_⟩ s.heap [] _ hR hS hl
    · intro K n pc L st O A nc ns hKK h
      exact wp1_ok C hE hB hKK n h
    · intro idx ci b mxL n nc ns y' cy rt rm' As fs O A Po h1 h2 h3 h4 h5 h6 h7 pc L st hd h9 hk _
      have := aI_callV C (Q := Q) (R := rm) (e := e) (below := below) h1 h2 h3 h4 h5 h6 h7 h9 hd hk
      simpa using this
    · intro idx mxL n nc ns y' cy rt rm' As O A Po h1 h2 h3 h5 h6 h7 pc L st hd h9 hk _
      exact aI_callS C (Q := Q) (R := rm) (e := e) (below := below) h1 h2 h3 h5 h6 h7 h9 hd hk
    · intro idx b mxL n nc ns y' cy rm' As O A Po h1 h2 h3 h5 h6 h7 pc L st hd h9 hk _
      have := aI_callI C (Q := Q) (R := rm) (e := e) (below := below) h1 h2 h3 h5 h6 h7 h9 hd hk
      simpa using this
    · intro idx b nc ns O A h1 h2 h3 pc L st hd h9 hk _ H locs ls hR' hS' hL'
      have h8 := aWords h9
      exact W.objInit hx hb hown (hT _ h1) (hT _ aT_objInit.1) (hT _ aT_objInit.2) rfl (hL'.1.trans hml.symm) rfl hd h2 (by show 0 + (st.map fun v => v.category).sum + 12 ≤ rm.locals; omega) (hk none O A ⟨rfl, rfl, rfl⟩ H locs ls hR' hS' hL')
    · intro v O A nc ns h1 h2 h3
      exact ⟨h1, h2, h3⟩
    · intro idx ci b mxL n nc ns y' cy rt rm' As fs O A Po PoX h1 h2 h3 h4 h5 h6 h7 pc L st hd h9 hk hkx
      have := aI_callVX C (Q := Q) (R := rm) (e := e) (below := below) h1 h2 h3 h4 h5 h6 h7 h9 hd hk hkx
      simpa using this
    · intro pc n h L st O A nc ns h1 h2
      exact ⟨h, h1, h2⟩
  intro p e h1 h2 h3 s m args below h4 h5 h6 h7
  obtain ⟨n, o, a1, a2, a3, hq⟩ := weak p e h1 h2 h3 s m args below h4 h5 h6 h7
  refine ⟨n, o, a1, a2, a3, ?_⟩
  rcases hq with hq | ⟨q, ho, En, ce, LL, hf, -⟩
  · exact hq
  · exact hf.elim
/-- a static method with a table, by its pool number -/
def aLkSW (own : String) (idx : Nat) (y : MethodName) (cc : ByteArray) (nL n : Nat) (ret : Option FieldType) (hh : List (Nat × Nat × Nat × Nat)) : Prop := Cond.methodLink own idx y ∈ aT ∧ Cond.static y ∈ aT ∧ Cond.initialized y.cls ∈ aT ∧ Cond.codeWith y cc nL ret hh ∈ aT ∧ (y.cls ≠ "java/lang/invoke/MethodHandle" ∧ y.cls ≠ "java/lang/invoke/VarHandle" ∧ (parseMethodDescriptor y.desc).map (fun d => d.parameters.length) = some n)
theorem aI_callSW {p : Program} {e : Env} {R : Room} {s : State} {m : MethodId} {args : Array Value} {below : List Frame} {meth : Method} {c : Code} {Q : State → Prop} {own : String} {cc : ByteArray} {nL : Nat} {ini : Bool} {pc : Nat} {L : aL} {st : List Value} {O : aO} {A : aA} {nc ns : Nat} (C : aCx G base tA own cc nL ini p s m args meth c) {idx mxL n : Nat} {y : MethodName} {cy : ByteArray} {ret : Option FieldType} {hh : List (Nat × Nat × Nat × Nat)} {rm : Room} {As : List Value} {Post : aPost} (hF : aLkSW own idx y cy mxL n ret hh) (hM : aMetW l G base tA y cy mxL ret hh rm As O A Post) (hn : As.length = n)
    (hRm : rm.frames + 1 ≤ R.frames ∧ 8 + (mxL + 11) + rm.locals ≤ R.locals) (hc1 : nc + rm.cells ≤ R.cells) (hs1 : ns + rm.slots ≤ R.slots) (hst4 : st.length ≤ 4) (hd : decode cc pc = .ok (.invokestatic idx, 3))
    (kk : ∀ v O' A', Post v O' A' → aW p l e R s m args below meth c Q G base nL (pc + 3) L (v.toList ++ st) O' A' (nc + rm.cells) (ns + rm.slots)) : aW p l e R s m args below meth c Q G base nL pc L (As.reverse ++ st) O A nc ns := by
  intro H locs ls hR hS hL
  obtain ⟨hlk, hstc, hini, hcd, hdd⟩ := hF
  have hcx := id C
  obtain ⟨hx, hb, hml, hown, hts, hK, hst, hstr, hi, hbs, hlk9⟩ := hcx
  have hG : GoodIn aT (va_wsS own idx y (aWsW y cy mxL ret hh)) := by
    intro w hw
    unfold va_wsS at hw
    rcases List.mem_append.mp hw with h | h
    · have : w ∈ aT := by
        simp only [List.mem_cons, List.not_mem_nil, or_false] at h
        rcases h with rfl | rfl | rfl <;> assumption
      exact aT_good w this
    · exact aWsW_good hcd w h
  have hrun := vx_runSW (As := As) (rest := st) (g := F0 m pc ls (As.reverse ++ st)) (H := H) (locs := locs) (cells := nc) (slots := ns) (l := l) (e := e) (below := below) (meth := meth) ⟨hx, hb, hml, hown, hts⟩ hM (vx_cwSW (R := R) n hts hG rfl rfl rfl hdd hRm)
    ⟨aGood.blind, fun U hU hW => ⟨rfl, aGood_at C hR hS hU hW⟩⟩ rfl hn hL.1 rfl (lv_room (aWords hst4)) hd ⟨hc1, hs1⟩
  exact aBack C hrun hS hL kk
end METW
