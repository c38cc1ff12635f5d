section MET
variable {l : Launch} {G : aG} {base tA : Nat}
/-- a method's start: its arguments as locals -/
def aArgs : List Value → Nat → aL
  | [], n => List.replicate n none
  | .long v :: r, n => some (.long v) :: none :: aArgs r (n - 2)
  | .double v :: r, n => some (.double v) :: none :: aArgs r (n - 2)
  | v :: r, n => some v :: aArgs r (n - 1)
theorem aAs_rep : ∀ (n k : Nat), aAs k (List.replicate n none) = []
  | 0, _ => rfl
  | n + 1, k => aAs_rep n (k + 1)
theorem aAs_args : ∀ (av : List Value) (n k : Nat), aAs k (aArgs av n) = lv_args k av
  | [], n, k => aAs_rep n k
  | .long v :: r, n, k => by simp only [aArgs, aAs, lv_args, Value.category]; rw [aAs_args r (n - 2) (k + 1 + 1)]; rfl
  | .double v :: r, n, k => by simp only [aArgs, aAs, lv_args, Value.category]; rw [aAs_args r (n - 2) (k + 1 + 1)]; rfl
  | .int v :: r, n, k => by simp only [aArgs, aAs, lv_args, Value.category]; rw [aAs_args r (n - 1) (k + 1)]; rfl
  | .float v :: r, n, k => by simp only [aArgs, aAs, lv_args, Value.category]; rw [aAs_args r (n - 1) (k + 1)]; rfl
  | .null :: r, n, k => by simp only [aArgs, aAs, lv_args, Value.category]; rw [aAs_args r (n - 1) (k + 1)]; rfl
  | .ref v :: r, n, k => by simp only [aArgs, aAs, lv_args, Value.category]; rw [aAs_args r (n - 1) (k + 1)]; rfl
  | .retAddr v :: r, n, k => by simp only [aArgs, aAs, lv_args, Value.category]; rw [aAs_args r (n - 1) (k + 1)]; rfl
/-- what the proof of a body has: its calls, its return, and J, the machine at a place -/
def aBody (l : Launch) (G : aG) (base tA : Nat) (own : String) (R : Room) (ret : Option FieldType) (B : Nat → Option (List aIn)) (Post : aPost) (E : aE) (J : aK0) : Prop :=
  (∀ (K : Nat → Option aKc) (n pc : Nat) (L : aL) (st : List Value) (O : aO) (A : aA) (nc ns : Nat), (∀ pc P, K pc = some P → ∀ L st O A nc ns, P L st O A nc ns → J pc L st O A nc ns) → wp1 E B K n pc L st O A nc ns → J pc L st O A nc ns) ∧
  (∀ {idx ci b mxL n nc ns : Nat} {y : MethodName} {cy : ByteArray} {rt : Option FieldType} {rm : Room} {As fs : List Value} {O : aO} {A : aA} {Po : aPost}, aLkV own idx ci y cy mxL n rt → aMet l G base tA y cy mxL rt rm (.ref b :: As) O A Po → As.length = n → O b = some (ci, fs) → (rm.frames + 1 ≤ R.frames ∧ 8 + (mxL + 11) + rm.locals ≤ R.locals) → nc + rm.cells ≤ R.cells → ns + rm.slots ≤ R.slots → eCall E (.invokevirtual idx) (.ref b :: As) O A nc ns rm.cells rm.slots Po (fun _ _ _ => False)) ∧
  (∀ {idx mxL n nc ns : Nat} {y : MethodName} {cy : ByteArray} {rt : Option FieldType} {rm : Room} {As : List Value} {O : aO} {A : aA} {Po : aPost}, aLkS own idx y cy mxL n rt → aMet l G base tA y cy mxL rt rm As O A Po → As.length = n → (rm.frames + 1 ≤ R.frames ∧ 8 + (mxL + 11) + rm.locals ≤ R.locals) → nc + rm.cells ≤ R.cells → ns + rm.slots ≤ R.slots → eCall E (.invokestatic idx) As O A nc ns rm.cells rm.slots Po (fun _ _ _ => False)) ∧
  (∀ {idx b mxL n nc ns : Nat} {y : MethodName} {cy : ByteArray} {rm : Room} {As : List Value} {O : aO} {A : aA} {Po : aPost}, aLkI own idx y cy mxL n → aMet l G base tA y cy mxL none rm (.ref b :: As) O A Po → As.length = n → (rm.frames + 1 ≤ R.frames ∧ 8 + (mxL + 11) + rm.locals ≤ R.locals) → nc + rm.cells ≤ R.cells → ns + rm.slots ≤ R.slots → eCall E (.invokespecial idx) (.ref b :: As) O A nc ns rm.cells rm.slots Po (fun _ _ _ => False)) ∧
  (∀ {idx b nc ns : Nat} {O : aO} {A : aA}, Cond.methodLink own idx Lib.objectInit ∈ aT → 1 ≤ R.frames → 20 ≤ R.locals → eCall E (.invokespecial idx) [.ref b] O A nc ns 0 0 (fun v O' A' => v = none ∧ O' = O ∧ A' = A) (fun _ _ _ => False)) ∧
  (∀ v O A nc ns, Post v O A → nc ≤ R.cells → ns ≤ R.slots → eRet E v O A nc ns) ∧
  eTA E = tA ∧ eRt E = ret ∧ eRc E = R.cells ∧ eRs E = R.slots
theorem aT_objInit : Cond.instanceMethod Lib.objectInit ∈ aT ∧ Cond.code Lib.objectInit ⟨#[0xb1]⟩ 1 none ∈ aT := by
  constructor
  · exact List.mem_filter.mpr ⟨by decide +kernel, by decide +kernel⟩
  · exact List.mem_filter.mpr ⟨by decide +kernel, by decide +kernel⟩
set_option maxHeartbeats 1000000 in
theorem aMet_of {y : MethodName} {cc : ByteArray} {nL : Nat} {ini : Bool} {ret : Option FieldType} {rm : Room} {av : List Value} {O : aO} {A : aA} {Post : aPost} {B : Nat → Option (List aIn)} (hy : plainName y.cls = true) (hini : ini = true → y.name = "<init>") (hav : (lg_sl av).length ≤ nL)
    (hB : ∀ pc is, B pc = some is → aBlk y.cls cc nL ini pc is) (body : ∀ (E : aE) (J : aK0), aBody l G base tA y.cls rm ret B Post E J → J 0 (aArgs av nL) [] O A 0 0) : aMet l G base tA y cc nL ret rm av O A Post := by
  refine Met.ofW (cc := cc) (maxL := nL) (ret := ret) hy rfl ?_
  intro p e s m args below meth c s₁ Bd hml hv
  obtain ⟨rfl, hR, hK, hst, hstr⟩ := hv
  have hx := Bd.exec
  have hb := Bd.bytes
  have hr := Bd.returns
  have hts := atoms_spec (ws := aWs y cc nL ret) Bd.pre
  have hown : s.vm.findClass y.cls = some m.cls := findClass_of_methodNamed Bd.named
  have hlocks := Bd.notSynchronized
  have hnm : meth.name = y.name := (name_of_methodNamed Bd.named Bd.method).1
  have hT : ∀ w ∈ aT, w.before av.toArray s = true := fun w hw => hts w (List.mem_cons_of_mem _ hw)
  have C : aCx G base tA y.cls cc nL ini p s m av.toArray meth c := ⟨hx, hb, hml, hown, hT, hK, hst, hstr, fun h => by rw [hnm]; exact hini h, hR.1, hlocks⟩
  have hS : va_S (fun q => base ≤ q) s.heap s.heap [] := va_S.rf
  have hl := lv_entry av (n := nL) hav
  rw [lg_entry_eq]
  rw [← aAs_args av nL 0] at hl
  have fin : ∀ {v : Option Value} {O' : aO} {A' : aA} {H : Heap} {locs : List Loc}, aRel G base O' A' H → va_S (fun q => base ≤ q) s.heap H locs → Post v O' A' → ∀ t : State, t.heap = H → s.WarmedH t.vm → aQc G base tA Post av.toArray s (.returned v) t :=
    fun hR' hS' hp t ht hW => ⟨⟨_, _, _, rfl, hp, aGood_at C hR' hS' ht hW⟩, hS'.F ht⟩
  obtain ⟨Q, hQ⟩ : ∃ Q, Q = MQ below (aQc G base tA Post) av.toArray s rm.cells rm.slots (fun q => base ≤ q) := ⟨_, rfl⟩
  show W p l e rm s m av.toArray below meth c s.heap [] 0 0 (MQ below (aQc G base tA Post) av.toArray s rm.cells rm.slots (fun q => base ≤ q)) _
  rw [← hQ]
  let E : aE := (fun i av' O A nc ns mc ms Po PoX => aCallOK p l e rm s m av.toArray below meth c Q G base cc nL i av' O A nc ns mc ms Po PoX, fun v O A nc ns => Post v O A ∧ nc ≤ rm.cells ∧ ns ≤ rm.slots, fun _ _ _ _ _ _ _ _ => False, fun _ _ _ _ _ _ _ _ => False, tA, ret, rm.cells, rm.slots)
  have hE : aEnv p l e rm s m av.toArray below meth c Q G base tA cc nL E := by
    refine ⟨fun _ _ _ _ _ _ _ _ _ _ h => h, ?_, ?_, ?_, ?_, fun _ _ _ _ _ _ _ _ h => False.elim h, fun _ _ _ _ _ _ _ _ h => False.elim h, rfl, rfl, rfl⟩
    · intro pc L v ty O A nc ns hd hrt hnar hp H locs ls hR' hS' hL'
      rw [hQ]
      refine W.widen (k := rm.cells) (n := rm.slots) hp.2.1 hp.2.2 ?_
      exact W.zret hx hb (hr.trans hrt) hnar (fin hR' hS' hp.1) hS'.2.2 hd
    · intro pc L v O A nc ns hd hrt hp H locs ls hR' hS' hL'
      rw [hQ]
      refine W.widen (k := rm.cells) (n := rm.slots) hp.2.1 hp.2.2 ?_
      exact W.lret hx hb (hr.trans hrt) (fin hR' hS' hp.1) hS'.2.2 hd
    · intro pc L v n O A nc ns hd hrt hp H locs ls hR' hS' hL'
      rw [hQ]
      refine W.widen (k := rm.cells) (n := rm.slots) hp.2.1 hp.2.2 ?_
      exact W.aret hx hb (hr.trans hrt) (Or.inl ⟨_, rfl⟩) (Or.inr ⟨_, rfl⟩) (fin hR' hS' hp.1) hS'.2.2 hd
    · intro pc L O A nc ns hd hrt hp H locs ls hR' hS' hL'
      rw [hQ]
      refine W.widen (k := rm.cells) (n := rm.slots) hp.2.1 hp.2.2 ?_
      exact W.vret hx hb (hr.trans hrt) (fin hR' hS' hp.1) hS'.2.2 hd
  refine body E (aW p l e rm s m av.toArray below meth c Q G base nL) ⟨?_, ?_, ?_, ?_, ?_, ?_, rfl, rfl, rfl, rfl⟩ s.heap [] _ hR hS hl
  · intro K n pc L st O A nc ns hKK h
    exact wp1_ok C hE hB hKK n h
  · intro idx ci b mxL n nc ns y' cy rt rm' As fs O A Po h1 h2 h3 h4 h5 h6 h7 pc L st hd h9 hk _
    have := aI_callV C (Q := Q) (R := rm) (e := e) (below := below) h1 h2 h3 h4 h5 h6 h7 h9 hd hk
    simpa using this
  · intro idx mxL n nc ns y' cy rt rm' As O A Po h1 h2 h3 h5 h6 h7 pc L st hd h9 hk _
    exact aI_callS C (Q := Q) (R := rm) (e := e) (below := below) h1 h2 h3 h5 h6 h7 h9 hd hk
  · intro idx b mxL n nc ns y' cy rm' As O A Po h1 h2 h3 h5 h6 h7 pc L st hd h9 hk _
    have := aI_callI C (Q := Q) (R := rm) (e := e) (below := below) h1 h2 h3 h5 h6 h7 h9 hd hk
    simpa using this
  · intro idx b nc ns O A h1 h2 h3 pc L st hd h9 hk _ H locs ls hR' hS' hL'
    have h8 := aWords h9
    exact W.objInit hx hb hown (hT _ h1) (hT _ aT_objInit.1) (hT _ aT_objInit.2) rfl (hL'.1.trans hml.symm) rfl hd h2 (by show 0 + (st.map fun v => v.category).sum + 12 ≤ rm.locals; omega) (hk none O A ⟨rfl, rfl, rfl⟩ H locs ls hR' hS' hL')
  · intro v O A nc ns h1 h2 h3
    exact ⟨h1, h2, h3⟩
end MET
/-! ===== the code, block by block, checked by a program ===== -/
def aLook : List (Nat × List aIn) → Nat → Option (List aIn)
  | [], _ => none
  | (k, is) :: r, pc => if pc = k then some is else aLook r pc
def aTsw : Instr → Bool
  | .tableswitch _ _ _ _ => true
  | _ => false
def aIsIn (q : aIn) (lk : List aIn) : Bool := lk.any (fun p => decide (p = q))
theorem aIsIn_ok {q : aIn} {lk : List aIn} (h : aIsIn q lk = true) : q ∈ lk := by
  obtain ⟨p, h1, h2⟩ := List.any_eq_true.mp h
  rw [← of_decide_eq_true h2]; exact h1
def aExB (nL : Nat) (lk : List aIn) (pc : Nat) (q : aIn) : Bool :=
  match q.1 with
  | .iconst n => decide (Int32.ofInt n = aV q.2.1 q.2.2.1)
  | .bipush n => decide ((Int8.ofInt n).toInt32 = aV q.2.1 q.2.2.1)
  | .sipush n => decide ((Int16.ofInt n).toInt32 = aV q.2.1 q.2.2.1)
  | .lconst n => decide (Int64.ofNat (n : Nat) = aVl q.2.1 q.2.2.1)
  | .iload_n k => decide ((k : Nat) = q.2.1)
  | .lload_n k => decide ((k : Nat) = q.2.1)
  | .aload_n k => decide ((k : Nat) = q.2.1)
  | .iload k => decide (k = q.2.1)
  | .lload k => decide (k = q.2.1)
  | .aload k => decide (k = q.2.1)
  | .istore_n k => decide ((k : Nat) = q.2.1 ∧ q.2.1 < nL)
  | .astore_n k => decide ((k : Nat) = q.2.1 ∧ q.2.1 < nL)
  | .lstore_n k => decide ((k : Nat) = q.2.1 ∧ q.2.1 + 1 < nL)
  | .istore k => decide (k = q.2.1 ∧ q.2.1 < nL)
  | .astore k => decide (k = q.2.1 ∧ q.2.1 < nL)
  | .lstore k => decide (k = q.2.1 ∧ q.2.1 + 1 < nL)
  | .iinc k _ => decide (k = q.2.1 ∧ q.2.1 < nL)
  | .ifCond _ off => decide ((pc : Int) + off = (q.2.1 : Int))
  | .if_icmp _ off => decide ((pc : Int) + off = (q.2.1 : Int))
  | .goto off => decide ((pc : Int) + off = (q.2.1 : Int))
  | .tableswitch d lo hi offs => decide ((pc : Int) + d = (q.2.2.1 : Int) ∧ lo = (q.2.1 : Int) ∧ hi + 1 = (q.2.1 : Int) + q.2.2.2.2.length ∧ q.2.1 + q.2.2.2.2.length < 65536 ∧ offs.toList.map (fun o => (pc : Int) + o) = q.2.2.2.2.map Int.ofNat)
  | .new _ => q.2.2.2.1 != 0 || aIsIn q lk
  | .ldc _ => aIsIn q lk
  | .ldc2_w _ => aIsIn q lk
  | .getfield _ => aIsIn q lk
  | .putfield _ => aIsIn q lk
  | .getstatic _ => aIsIn q lk
  | .newarray _ => aIsIn q lk
  | .anewarray _ => aIsIn q lk
  | _ => true
def aChk (cc : ByteArray) (nL : Nat) (lk : List aIn) : Nat → List aIn → Bool
  | _, [] => true
  | pc, q :: r => (match decode cc pc with | .ok (i, n) => decide (i = q.1) && (n == aLen q.1 || aTsw q.1) | _ => false) && (aExB nL lk pc q && aChk cc nL lk (pc + aLen q.1) r)
theorem aTg_of (pc : Nat) : ∀ (os : List Int) (ts : List Nat), os.map (fun o => (pc : Int) + o) = ts.map Int.ofNat → aTg pc os ts
  | [], [], _ => trivial
  | [], _ :: _, h => by simp at h
  | _ :: _, [], h => by simp at h
  | o :: r, t :: r', h => by
    simp only [List.map_cons, List.cons.injEq] at h
    exact ⟨h.1, aTg_of pc r r' h.2⟩
set_option maxRecDepth 20000 in
theorem aExB_ok {own : String} {nL : Nat} {ini : Bool} {lk : List aIn} (hlk : ∀ q ∈ lk, ∀ pc, aEx own nL ini pc q.1 q.2.1 q.2.2.1 q.2.2.2.1 q.2.2.2.2) {pc : Nat} {q : aIn} (h : aExB nL lk pc q = true) : aEx own nL ini pc q.1 q.2.1 q.2.2.1 q.2.2.2.1 q.2.2.2.2 := by
  obtain ⟨i, x, y, z, ts⟩ := q
  cases i
  case tableswitch d lo hi offs =>
    have h := of_decide_eq_true h
    exact ⟨h.1, h.2.1, h.2.2.1, h.2.2.2.1, aTg_of pc _ _ h.2.2.2.2⟩
  case new idx =>
    intro hz
    have hz : z = 0 := hz
    subst hz
    have h : aIsIn (Instr.new idx, x, y, 0, ts) lk = true := by simpa [aExB] using h
    exact hlk _ (aIsIn_ok h) pc rfl
  all_goals first | (dsimp only [aExB] at h; dsimp only [aEx]; exact of_decide_eq_true h) | exact hlk _ (aIsIn_ok h) pc | exact trivial
theorem aChk_ok {own : String} {cc : ByteArray} {nL : Nat} {ini : Bool} {lk : List aIn} (hlk : ∀ q ∈ lk, ∀ pc, aEx own nL ini pc q.1 q.2.1 q.2.2.1 q.2.2.2.1 q.2.2.2.2) : ∀ (is : List aIn) (pc : Nat), aChk cc nL lk pc is = true → aBlk own cc nL ini pc is
  | [], _, _ => trivial
  | q :: r, pc, h => by
    obtain ⟨i, x, y, z, ts⟩ := q
    unfold aChk at h
    simp only [Bool.and_eq_true] at h
    obtain ⟨h1, h2, h3⟩ := h
    refine ⟨?_, aExB_ok hlk h2, aChk_ok hlk r _ h3⟩
    split at h1
    · rename_i i' n hd
      simp only [Bool.and_eq_true, decide_eq_true_eq, Bool.or_eq_true, beq_iff_eq] at h1
      obtain ⟨rfl, h1⟩ := h1
      refine ⟨n, hd, ?_⟩
      rcases h1 with h1 | h1
      · exact Or.inl h1
      · right
        cases i' <;> first | exact ⟨_, _, _, _, rfl⟩ | (simp [aTsw] at h1)
    · simp at h1
theorem aLook_mem {bk : List (Nat × List aIn)} {pc : Nat} {is : List aIn} (h : aLook bk pc = some is) : (pc, is) ∈ bk := by
  induction bk with
  | nil => cases h
  | cons q r ih =>
    obtain ⟨k, js⟩ := q
    unfold aLook at h
    split at h
    · rename_i e
      cases h
      rw [e]; exact List.mem_cons_self
    · exact List.mem_cons_of_mem _ (ih h)
theorem aBks_ok {own : String} {cc : ByteArray} {nL : Nat} {ini : Bool} {lk : List aIn} (hlk : ∀ q ∈ lk, ∀ pc, aEx own nL ini pc q.1 q.2.1 q.2.2.1 q.2.2.2.1 q.2.2.2.2) {bk : List (Nat × List aIn)} (h : bk.all (fun q => aChk cc nL lk q.1 q.2) = true) : ∀ pc is, aLook bk pc = some is → aBlk own cc nL ini pc is :=
  fun pc is hl => aChk_ok hlk is pc (List.all_eq_true.mp h _ (aLook_mem hl))
theorem aAll {ws : List Cond} (h : ws.all (fun w => lw_tbl.any (fun v => decide (v = w)) && goodWord w) = true) : ∀ w ∈ ws, w ∈ aT := by
  intro w hw
  have h1 := List.all_eq_true.mp h w hw
  simp only [Bool.and_eq_true] at h1
  obtain ⟨v, h2, h3⟩ := List.any_eq_true.mp h1.1
  rw [of_decide_eq_true h3] at h2
  exact List.mem_filter.mpr ⟨h2, h1.2⟩
