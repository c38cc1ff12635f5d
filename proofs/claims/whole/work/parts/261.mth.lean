/-! ===== bodies that call Math.max and Math.min ===== -/
def aBody2 (l : Launch) (G : aG) (base tA : Nat) (own : String) (R : Room) (ret : Option FieldType) (B : Nat → Option (List aIn)) (Post : aPost) (E : aE) (J : aK0) : Prop :=
  aBody l G base tA own R ret B Post E J ∧
  (∀ {idx nc ns : Nat} {x y : Int32} {O : aO} {A : aA}, Cond.methodLink own idx Lib.Math.max.name ∈ aT → 1 ≤ R.frames → 21 ≤ R.locals → nc ≤ R.cells → ns ≤ R.slots → eCall E (.invokestatic idx) [.int x, .int y] O A nc ns 0 0 (fun v O' A' => v = some (.int (if x < y then y else x)) ∧ O' = O ∧ A' = A) (fun _ _ _ => False)) ∧
  (∀ {idx nc ns : Nat} {x y : Int32} {O : aO} {A : aA}, Cond.methodLink own idx Lib.Math.min.name ∈ aT → 1 ≤ R.frames → 21 ≤ R.locals → nc ≤ R.cells → ns ≤ R.slots → eCall E (.invokestatic idx) [.int x, .int y] O A nc ns 0 0 (fun v O' A' => v = some (.int (if y < x then y else x)) ∧ O' = O ∧ A' = A) (fun _ _ _ => False))
theorem aT_math : (Cond.static Lib.Math.max.name ∈ aT ∧ Cond.code Lib.Math.max.name Lib.Math.max.code 2 (some .int) ∈ aT) ∧ (Cond.static Lib.Math.min.name ∈ aT ∧ Cond.code Lib.Math.min.name Lib.Math.min.code 2 (some .int) ∈ aT) ∧ Cond.initialized "java/lang/Math" ∈ aT := by
  refine ⟨⟨?_, ?_⟩, ⟨?_, ?_⟩, ?_⟩ <;> exact List.mem_filter.mpr ⟨by decide +kernel, by decide +kernel⟩
section MET2
variable {l : Launch} {G : aG} {base tA : Nat}
set_option maxHeartbeats 1000000 in
theorem aMet_of2 {y : MethodName} {cc : ByteArray} {nL : Nat} {ini : Bool} {ret : Option FieldType} {rm : Room} {av : List Value} {O : aO} {A : aA} {Post : aPost} {B : Nat → Option (List aIn)} (hy : plainName y.cls = true) (hini : ini = true → y.name = "<init>") (hav : (lg_sl av).length ≤ nL)
    (hB : ∀ pc is, B pc = some is → aBlk y.cls cc nL ini pc is) (body : ∀ (E : aE) (J : aK0), aBody2 l G base tA y.cls rm ret B Post E J → J 0 (aArgs av nL) [] O A 0 0) : aMet l G base tA y cc nL ret rm av O A Post := by
  refine Met.ofW (cc := cc) (maxL := nL) (ret := ret) hy rfl ?_
  intro p e s m args below meth c s₁ Bd hml hv
  obtain ⟨rfl, hR, hK, hst, hstr⟩ := hv
  have hx := Bd.exec
  have hb := Bd.bytes
  have hr := Bd.returns
  have hts := atoms_spec (ws := aWs y cc nL ret) Bd.pre
  have hown : s.vm.findClass y.cls = some m.cls := findClass_of_methodNamed Bd.named
  have hlocks := Bd.notSynchronized
  have hnm : meth.name = y.name := (name_of_methodNamed Bd.named Bd.method).1
  have hT : ∀ w ∈ aT, w.before av.toArray s = true := fun w hw => hts w (List.mem_cons_of_mem _ hw)
  have C : aCx G base tA y.cls cc nL ini p s m av.toArray meth c := ⟨hx, hb, hml, hown, hT, hK, hst, hstr, fun h => by rw [hnm]; exact hini h, hR.1, hlocks⟩
  have hS : va_S (fun q => base ≤ q) s.heap s.heap [] := va_S.rf
  have hl := lv_entry av (n := nL) hav
  rw [lg_entry_eq]
  rw [← aAs_args av nL 0] at hl
  have fin : ∀ {v : Option Value} {O' : aO} {A' : aA} {H : Heap} {locs : List Loc}, aRel G base O' A' H → va_S (fun q => base ≤ q) s.heap H locs → Post v O' A' → ∀ t : State, t.heap = H → s.WarmedH t.vm → aQc G base tA Post av.toArray s (.returned v) t :=
    fun hR' hS' hp t ht hW => ⟨⟨_, _, _, rfl, hp, aGood_at C hR' hS' ht hW⟩, hS'.F ht⟩
  obtain ⟨Q, hQ⟩ : ∃ Q, Q = MQ below (aQc G base tA Post) av.toArray s rm.cells rm.slots (fun q => base ≤ q) := ⟨_, rfl⟩
  show W p l e rm s m av.toArray below meth c s.heap [] 0 0 (MQ below (aQc G base tA Post) av.toArray s rm.cells rm.slots (fun q => base ≤ q)) _
  rw [← hQ]
  let E : aE := (fun i av' O A nc ns mc ms Po PoX => aCallOK p l e rm s m av.toArray below meth c Q G base cc nL i av' O A nc ns mc ms Po PoX, fun v O A nc ns => Post v O A ∧ nc ≤ rm.cells ∧ ns ≤ rm.slots, fun _ _ _ _ _ _ _ _ => False, fun _ _ _ _ _ _ _ _ => False, tA, ret, rm.cells, rm.slots)
  have hE : aEnv p l e rm s m av.toArray below meth c Q G base tA cc nL E := by
    refine ⟨fun _ _ _ _ _ _ _ _ _ _ h => h, ?_, ?_, ?_, ?_, fun _ _ _ _ _ _ _ _ h => False.elim h, fun _ _ _ _ _ _ _ _ h => False.elim h, rfl, rfl, rfl⟩
    · intro pc L v ty O A nc ns hd hrt hnar hp H locs ls hR' hS' hL'
      rw [hQ]
      refine W.widen (k := rm.cells) (n := rm.slots) hp.2.1 hp.2.2 ?_
      exact W.zret hx hb (hr.trans hrt) hnar (fin hR' hS' hp.1) hS'.2.2 hd
    · intro pc L v O A nc ns hd hrt hp H locs ls hR' hS' hL'
      rw [hQ]
      refine W.widen (k := rm.cells) (n := rm.slots) hp.2.1 hp.2.2 ?_
      exact W.lret hx hb (hr.trans hrt) (fin hR' hS' hp.1) hS'.2.2 hd
    · intro pc L v n O A nc ns hd hrt hp H locs ls hR' hS' hL'
      rw [hQ]
      refine W.widen (k := rm.cells) (n := rm.slots) hp.2.1 hp.2.2 ?_
      exact W.aret hx hb (hr.trans hrt) (Or.inl ⟨_, rfl⟩) (Or.inr ⟨_, rfl⟩) (fin hR' hS' hp.1) hS'.2.2 hd
    · intro pc L O A nc ns hd hrt hp H locs ls hR' hS' hL'
      rw [hQ]
      refine W.widen (k := rm.cells) (n := rm.slots) hp.2.1 hp.2.2 ?_
      exact W.vret hx hb (hr.trans hrt) (fin hR' hS' hp.1) hS'.2.2 hd
  refine body E (aW p l e rm s m av.toArray below meth c Q G base nL) ⟨⟨?_, ?_, ?_, ?_, ?_, ?_, rfl, rfl, rfl, rfl⟩, ?_, ?_⟩ s.heap [] _ hR hS hl
  · intro K n pc L st O A nc ns hKK h
    exact wp1_ok C hE hB hKK n h
  · intro idx ci b mxL n nc ns y' cy rt rm' As fs O A Po h1 h2 h3 h4 h5 h6 h7 pc L st hd h9 hk _
    have := aI_callV C (Q := Q) (R := rm) (e := e) (below := below) h1 h2 h3 h4 h5 h6 h7 h9 hd hk
    simpa using this
  · intro idx mxL n nc ns y' cy rt rm' As O A Po h1 h2 h3 h5 h6 h7 pc L st hd h9 hk _
    exact aI_callS C (Q := Q) (R := rm) (e := e) (below := below) h1 h2 h3 h5 h6 h7 h9 hd hk
  · intro idx b mxL n nc ns y' cy rm' As O A Po h1 h2 h3 h5 h6 h7 pc L st hd h9 hk _
    have := aI_callI C (Q := Q) (R := rm) (e := e) (below := below) h1 h2 h3 h5 h6 h7 h9 hd hk
    simpa using this
  · intro idx b nc ns O A h1 h2 h3 pc L st hd h9 hk _ H locs ls hR' hS' hL'
    have h8 := aWords h9
    exact W.objInit hx hb hown (hT _ h1) (hT _ aT_objInit.1) (hT _ aT_objInit.2) rfl (hL'.1.trans hml.symm) rfl hd h2 (by show 0 + (st.map fun v => v.category).sum + 12 ≤ rm.locals; omega) (hk none O A ⟨rfl, rfl, rfl⟩ H locs ls hR' hS' hL')
  · intro v O A nc ns h1 h2 h3
    exact ⟨h1, h2, h3⟩
  · intro idx nc ns x y O A h1 h2 h3 h4 h5 pc L st hd h9 hk _ H locs ls hR' hS' hL'
    have h8 := aWords h9
    exact va_mmax hx hb (hml.trans hL'.1.symm) hown (hT _ h1) (hT _ aT_math.1.1) (hT _ aT_math.2.2) (hT _ aT_math.1.2) h2 (by show (st.map fun v => v.category).sum + 13 ≤ rm.locals; omega) h4 h5 hd (hk _ O A ⟨rfl, rfl, rfl⟩ H locs ls hR' hS' hL')
  · intro idx nc ns x y O A h1 h2 h3 h4 h5 pc L st hd h9 hk _ H locs ls hR' hS' hL'
    have h8 := aWords h9
    exact va_mmin hx hb (hml.trans hL'.1.symm) hown (hT _ h1) (hT _ aT_math.2.1.1) (hT _ aT_math.2.2) (hT _ aT_math.2.1.2) h2 (by show (st.map fun v => v.category).sum + 13 ≤ rm.locals; omega) h4 h5 hd (hk _ O A ⟨rfl, rfl, rfl⟩ H locs ls hR' hS' hL')
end MET2
section BODY2
variable {l : Launch} {G : aG} {base tA : Nat} {own : String} {R : Room} {ret : Option FieldType} {B : Nat → Option (List aIn)} {Post : aPost} {E : aE} {J : aK0}
theorem aBody2.maxN (hb : aBody2 l G base tA own R ret B Post E J) {idx nc ns x y : Nat} {O : aO} {A : aA} (h1 : Cond.methodLink own idx Lib.Math.max.name ∈ aT) (hx : x < 2 ^ 31) (hy : y < 2 ^ 31) (h2 : 1 ≤ R.frames) (h3 : 21 ≤ R.locals) (h4 : nc ≤ R.cells) (h5 : ns ≤ R.slots) : eCall E (.invokestatic idx) [.int (nI x), .int (nI y)] O A nc ns 0 0 (fun v O' A' => v = some (.int (nI (max x y))) ∧ O' = O ∧ A' = A) (fun _ _ _ => False) := by
  have h := hb.2.1 (x := nI x) (y := nI y) (O := O) (A := A) h1 h2 h3 h4 h5
  have e : (if nI x < nI y then nI y else nI x) = nI (max x y) := by
    by_cases c : x < y
    · rw [if_pos ((nI_ltI hx hy).mpr c), Nat.max_eq_right (by omega)]
    · rw [if_neg (fun q => c ((nI_ltI hx hy).mp q)), Nat.max_eq_left (by omega)]
  rw [e] at h
  exact h
theorem aBody2.minN (hb : aBody2 l G base tA own R ret B Post E J) {idx nc ns x y : Nat} {O : aO} {A : aA} (h1 : Cond.methodLink own idx Lib.Math.min.name ∈ aT) (hx : x < 2 ^ 31) (hy : y < 2 ^ 31) (h2 : 1 ≤ R.frames) (h3 : 21 ≤ R.locals) (h4 : nc ≤ R.cells) (h5 : ns ≤ R.slots) : eCall E (.invokestatic idx) [.int (nI x), .int (nI y)] O A nc ns 0 0 (fun v O' A' => v = some (.int (nI (min x y))) ∧ O' = O ∧ A' = A) (fun _ _ _ => False) := by
  have h := hb.2.2 (x := nI x) (y := nI y) (O := O) (A := A) h1 h2 h3 h4 h5
  have e : (if nI y < nI x then nI y else nI x) = nI (min x y) := by
    by_cases c : y < x
    · rw [if_pos ((nI_ltI hy hx).mpr c), Nat.min_eq_right (by omega)]
    · rw [if_neg (fun q => c ((nI_ltI hy hx).mp q)), Nat.min_eq_left (by omega)]
  rw [e] at h
  exact h
end BODY2
