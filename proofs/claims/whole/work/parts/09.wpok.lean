section SND4
variable {p : Program} {l : Launch} {e : Env} {R : Room} {s : State} {m : MethodId} {args : Array Value} {below : List Frame} {meth : Method} {c : Code} {Q : State → Prop} {G : aG} {base tA : Nat} {own : String} {cc : ByteArray} {nL : Nat} {ini : Bool}
variable {pc : Nat} {L : aL} {st : List Value} {O : aO} {A : aA} {nc ns : Nat} {H : Heap}
/-- an exception of this name goes through this place -/
def aX (p : Program) (l : Launch) (e : Env) (R : Room) (s : State) (m : MethodId) (args : Array Value) (below : List Frame) (meth : Method) (c : Code) (Q : State → Prop) (G : aG) (base nL : Nat) : Nat → String → aKc := fun pc n L st O A nc ns =>
  ∀ (H : Heap) (locs : List Loc) (ls : Array Slot) (q : Nat) (ce : Cell), aRel G base O A H → va_S (fun q => base ≤ q) s.heap H locs → lv_has ls nL (aAs 0 L) → H[q]? = some ce → ce.vm = .none → s.vm.findClass n = some ce.cls → vx_W p l e R s m args below meth c H locs nc ns Q (F0 m pc ls st) q
def aCallOK (p : Program) (l : Launch) (e : Env) (R : Room) (s : State) (m : MethodId) (args : Array Value) (below : List Frame) (meth : Method) (c : Code) (Q : State → Prop) (G : aG) (base : Nat) (cc : ByteArray) (nL : Nat) (i : Instr) (av : List Value) (O : aO) (A : aA) (nc ns mc ms : Nat) (Post : aPost) (PostX : aPostX) : Prop :=
  ∀ (pc : Nat) (L : aL) (st : List Value), decode cc pc = .ok (i, 3) → st.length ≤ 4 → (∀ v O' A', Post v O' A' → aW p l e R s m args below meth c Q G base nL (pc + 3) L (v.toList ++ st) O' A' (nc + mc) (ns + ms)) →
    (∀ n O' A', PostX n O' A' → aX p l e R s m args below meth c Q G base nL pc n L st O' A' (nc + mc) (ns + ms)) → aW p l e R s m args below meth c Q G base nL pc L (av.reverse ++ st) O A nc ns
/-- what the words of E mean for the machine -/
def aEnv (p : Program) (l : Launch) (e : Env) (R : Room) (s : State) (m : MethodId) (args : Array Value) (below : List Frame) (meth : Method) (c : Code) (Q : State → Prop) (G : aG) (base tA : Nat) (cc : ByteArray) (nL : Nat) (E : aE) : Prop :=
  (∀ i av O A nc ns mc ms Post PostX, eCall E i av O A nc ns mc ms Post PostX → aCallOK p l e R s m args below meth c Q G base cc nL i av O A nc ns mc ms Post PostX) ∧
  (∀ pc L v ty O A nc ns, decode cc pc = .ok (.ireturn, 1) → eRt E = some ty → narrow ty (.int v) = .int v → eRet E (some (.int v)) O A nc ns → aW p l e R s m args below meth c Q G base nL pc L [.int v] O A nc ns) ∧
  (∀ pc L v O A nc ns, decode cc pc = .ok (.lreturn, 1) → eRt E = some .long → eRet E (some (.long v)) O A nc ns → aW p l e R s m args below meth c Q G base nL pc L [.long v] O A nc ns) ∧
  (∀ pc L v n O A nc ns, decode cc pc = .ok (.areturn, 1) → eRt E = some (.object n) → eRet E (some (.ref v)) O A nc ns → aW p l e R s m args below meth c Q G base nL pc L [.ref v] O A nc ns) ∧
  (∀ pc L O A nc ns, decode cc pc = .ok (.return_, 1) → eRt E = none → eRet E none O A nc ns → aW p l e R s m args below meth c Q G base nL pc L [] O A nc ns) ∧
  (∀ pc n L st O A nc ns, eExc E pc n L st O A nc ns → aX p l e R s m args below meth c Q G base nL pc n L st O A nc ns) ∧
  (∀ z pc L st O A nc ns, eThr E (z + 1) pc L st O A nc ns → aW p l e R s m args below meth c Q G base nL pc L st O A nc ns) ∧
  eTA E = tA ∧ eRc E = R.cells ∧ eRs E = R.slots
theorem aSw_ok {v : Int32} {J : Nat → Prop} {d l0 pc : Nat} : ∀ (ts : List Nat) (offs : List Int) (lo : Nat), aTg pc offs ts → aSw v J d l0 lo ts → (v.toInt < (l0 : Int) ∨ ((lo + ts.length : Nat) : Int) ≤ v.toInt → J d) ∧ ∀ k : Nat, v.toInt = ((lo + k : Nat) : Int) → k < ts.length → lo + ts.length < 2 ^ 31 → ∃ (off : Int) (t : Nat), offs[k]? = some off ∧ (pc : Int) + off = (t : Int) ∧ J t
  | [], [], lo, _, h => ⟨by simpa [aSw] using h, fun k _ hk => absurd hk (Nat.not_lt_zero k)⟩
  | [], _ :: _, _, h, _ => by cases h
  | _ :: _, [], _, h, _ => by cases h
  | t :: r, o :: r', lo, ht, h => by
    obtain ⟨h1, h2⟩ := h
    obtain ⟨i1, i2⟩ := aSw_ok r r' (lo + 1) ht.2 h2
    refine ⟨fun z => i1 ?_, fun k hk hl hb => ?_⟩
    · rcases z with z | z
      · exact Or.inl z
      · right
        simp only [List.length_cons] at z
        omega
    match k, hk, hl with
    | 0, hk, _ =>
      refine ⟨o, t, rfl, ht.1, h1 ?_⟩
      apply Int32.toInt_inj.mp
      rw [nI_toInt (by omega)]
      exact hk
    | k + 1, hk, hl =>
      simp only [List.length_cons] at hl hb
      obtain ⟨off, t', q1, q2, q3⟩ := i2 k (by rw [hk]; congr 1; omega) (by omega) (by omega)
      exact ⟨off, t', q1, q2, q3⟩
theorem aCat1_eq {v : Value} (h : aCat1 v) : v.category = 1 := by cases v <;> first | rfl | exact h.elim
set_option maxHeartbeats 4000000 in
set_option maxRecDepth 100000 in
theorem wpi_ok (C : aCx G base tA own cc nL ini p s m args meth c) {E : aE} (hE : aEnv p l e R s m args below meth c Q G base tA cc nL E) {jmp nxt : aK0} (hj : ∀ pc L st O A nc ns, jmp pc L st O A nc ns → aW p l e R s m args below meth c Q G base nL pc L st O A nc ns)
    {i : Instr} {x y z : Nat} {ts : List Nat} (hn : ∀ L st O A nc ns, nxt (pc + aLen i) L st O A nc ns → aW p l e R s m args below meth c Q G base nL (pc + aLen i) L st O A nc ns) (hd9 : ∃ n, decode cc pc = .ok (i, n) ∧ (n = aLen i ∨ ∃ a b c d, i = .tableswitch a b c d)) (hx : aEx own nL ini pc i x y z ts)
    (h : wpi E jmp nxt i x y z ts pc L st O A nc ns) : aW p l e R s m args below meth c Q G base nL pc L st O A nc ns := by
  have hcx := id C
  obtain ⟨hex, hb, hml, hown, hts, hK, hst, hstr, hi, hbs, hlk⟩ := hcx
  obtain ⟨hE1, hE2, hE3, hE4, hE5, hE6, hE7, hE8, hE9, hE10⟩ := hE
  obtain ⟨len, hd, hlen⟩ := hd9
  have hd1 : (∀ a b c d, i ≠ .tableswitch a b c d) → decode cc pc = .ok (i, aLen i) := fun h9 => by
    rcases hlen with h1 | ⟨a, b, c, d, h1⟩
    · rw [← h1]; exact hd
    · exact absurd h1 (h9 a b c d)
  cases i
  case tableswitch d lo hi offs =>
    dsimp only [wpi] at h
    dsimp only [aEx] at hx
    split at h
    · rename_i v r
      obtain ⟨e1, e2, e3, e5, e4⟩ := hx
      obtain ⟨k1, k2⟩ := aSw_ok ts offs.toList x e4 h
      intro H locs ls hR hS hL
      by_cases hlo : v.toInt < (x : Int)
      · exact lv_tableOut hex hb hd (Or.inl (by rw [e2]; exact hlo)) e1 (hj _ _ _ _ _ _ _ (k1 (Or.inl hlo)) H locs ls hR hS hL)
      · by_cases hhi : ((x + ts.length : Nat) : Int) ≤ v.toInt
        · exact lv_tableOut hex hb hd (Or.inr (by omega)) e1 (hj _ _ _ _ _ _ _ (k1 (Or.inr hhi)) H locs ls hR hS hL)
        · obtain ⟨off, t, q1, q2, q3⟩ := k2 (v.toInt - x).toNat (by omega) (by omega) (by omega)
          exact lv_tableIn hex hb hd (by rw [e2]; omega) (by omega) (by rw [e2, ← Array.getElem?_toList]; exact q1) q2 (hj _ _ _ _ _ _ _ q3 H locs ls hR hS hL)
    · exact h.elim
  case iadd =>
    have hd := hd1 (fun a b c d h => by cases h)
    dsimp only [wpi] at h
    dsimp only [aEx] at hx
    split at h
    · exact fun H locs ls hR hS hL => lv_iadd hex hb hd (hn _ _ _ _ _ _ h H locs ls hR hS hL)
    · exact h.elim
  case isub =>
    have hd := hd1 (fun a b c d h => by cases h)
    dsimp only [wpi] at h
    dsimp only [aEx] at hx
    split at h
    · exact fun H locs ls hR hS hL => lv_isub hex hb hd (hn _ _ _ _ _ _ h H locs ls hR hS hL)
    · exact h.elim
  case imul =>
    have hd := hd1 (fun a b c d h => by cases h)
    dsimp only [wpi] at h
    dsimp only [aEx] at hx
    split at h
    · exact fun H locs ls hR hS hL => lv_imul hex hb hd (hn _ _ _ _ _ _ h H locs ls hR hS hL)
    · exact h.elim
  case iand =>
    have hd := hd1 (fun a b c d h => by cases h)
    dsimp only [wpi] at h
    dsimp only [aEx] at hx
    split at h
    · exact fun H locs ls hR hS hL => lv_iand hex hb hd (hn _ _ _ _ _ _ h H locs ls hR hS hL)
    · exact h.elim
  case ior =>
    have hd := hd1 (fun a b c d h => by cases h)
    dsimp only [wpi] at h
    dsimp only [aEx] at hx
    split at h
    · exact fun H locs ls hR hS hL => lv_ior hex hb hd (hn _ _ _ _ _ _ h H locs ls hR hS hL)
    · exact h.elim
  case ishl =>
    have hd := hd1 (fun a b c d h => by cases h)
    dsimp only [wpi] at h
    dsimp only [aEx] at hx
    split at h
    · exact fun H locs ls hR hS hL => lv_ishl hex hb hd (hn _ _ _ _ _ _ h H locs ls hR hS hL)
    · exact h.elim
  case ishr =>
    have hd := hd1 (fun a b c d h => by cases h)
    dsimp only [wpi] at h
    dsimp only [aEx] at hx
    split at h
    · exact fun H locs ls hR hS hL => lv_ishr hex hb hd (hn _ _ _ _ _ _ h H locs ls hR hS hL)
    · exact h.elim
  case ladd =>
    have hd := hd1 (fun a b c d h => by cases h)
    dsimp only [wpi] at h
    dsimp only [aEx] at hx
    split at h
    · exact fun H locs ls hR hS hL => lv_ladd hex hb hd (hn _ _ _ _ _ _ h H locs ls hR hS hL)
    · exact h.elim
  case lsub =>
    have hd := hd1 (fun a b c d h => by cases h)
    dsimp only [wpi] at h
    dsimp only [aEx] at hx
    split at h
    · exact fun H locs ls hR hS hL => lv_lsub hex hb hd (hn _ _ _ _ _ _ h H locs ls hR hS hL)
    · exact h.elim
  case lmul =>
    have hd := hd1 (fun a b c d h => by cases h)
    dsimp only [wpi] at h
    dsimp only [aEx] at hx
    split at h
    · exact fun H locs ls hR hS hL => lv_lmul hex hb hd (hn _ _ _ _ _ _ h H locs ls hR hS hL)
    · exact h.elim
  case land =>
    have hd := hd1 (fun a b c d h => by cases h)
    dsimp only [wpi] at h
    dsimp only [aEx] at hx
    split at h
    · exact fun H locs ls hR hS hL => lv_land hex hb hd (hn _ _ _ _ _ _ h H locs ls hR hS hL)
    · exact h.elim
  case lor =>
    have hd := hd1 (fun a b c d h => by cases h)
    dsimp only [wpi] at h
    dsimp only [aEx] at hx
    split at h
    · exact fun H locs ls hR hS hL => lv_lor hex hb hd (hn _ _ _ _ _ _ h H locs ls hR hS hL)
    · exact h.elim
  case lcmp =>
    have hd := hd1 (fun a b c d h => by cases h)
    dsimp only [wpi] at h
    dsimp only [aEx] at hx
    split at h
    · exact fun H locs ls hR hS hL => W.lcmp hex hb hd (hn _ _ _ _ _ _ h H locs ls hR hS hL)
    · exact h.elim
  case ineg =>
    have hd := hd1 (fun a b c d h => by cases h)
    dsimp only [wpi] at h
    dsimp only [aEx] at hx
    split at h
    · exact fun H locs ls hR hS hL => lv_ineg hex hb hd (hn _ _ _ _ _ _ h H locs ls hR hS hL)
    · exact h.elim
  case lneg =>
    have hd := hd1 (fun a b c d h => by cases h)
    dsimp only [wpi] at h
    dsimp only [aEx] at hx
    split at h
    · exact fun H locs ls hR hS hL => lv_lneg hex hb hd (hn _ _ _ _ _ _ h H locs ls hR hS hL)
    · exact h.elim
  case i2l =>
    have hd := hd1 (fun a b c d h => by cases h)
    dsimp only [wpi] at h
    dsimp only [aEx] at hx
    split at h
    · exact fun H locs ls hR hS hL => lv_i2l hex hb hd rfl (hn _ _ _ _ _ _ h H locs ls hR hS hL)
    · exact h.elim
  case l2i =>
    have hd := hd1 (fun a b c d h => by cases h)
    dsimp only [wpi] at h
    dsimp only [aEx] at hx
    split at h
    · exact fun H locs ls hR hS hL => lv_l2i hex hb hd rfl (hn _ _ _ _ _ _ h H locs ls hR hS hL)
    · exact h.elim
  case i2b =>
    have hd := hd1 (fun a b c d h => by cases h)
    dsimp only [wpi] at h
    dsimp only [aEx] at hx
    split at h
    · exact fun H locs ls hR hS hL => lv_i2b hex hb hd rfl (hn _ _ _ _ _ _ h H locs ls hR hS hL)
    · exact h.elim
  case i2s =>
    have hd := hd1 (fun a b c d h => by cases h)
    dsimp only [wpi] at h
    dsimp only [aEx] at hx
    split at h
    · exact fun H locs ls hR hS hL => lv_i2s hex hb hd rfl (hn _ _ _ _ _ _ h H locs ls hR hS hL)
    · exact h.elim
  case lshl =>
    have hd := hd1 (fun a b c d h => by cases h)
    dsimp only [wpi] at h
    dsimp only [aEx] at hx
    split at h
    · exact fun H locs ls hR hS hL => lv_lshl hex hb hd rfl (hn _ _ _ _ _ _ h H locs ls hR hS hL)
    · exact h.elim
  case lshr =>
    have hd := hd1 (fun a b c d h => by cases h)
    dsimp only [wpi] at h
    dsimp only [aEx] at hx
    split at h
    · exact fun H locs ls hR hS hL => lv_lshr hex hb hd rfl (hn _ _ _ _ _ _ h H locs ls hR hS hL)
    · exact h.elim
  case lushr =>
    have hd := hd1 (fun a b c d h => by cases h)
    dsimp only [wpi] at h
    dsimp only [aEx] at hx
    split at h
    · exact fun H locs ls hR hS hL => lv_lushr hex hb hd rfl (hn _ _ _ _ _ _ h H locs ls hR hS hL)
    · exact h.elim
  case idiv =>
    have hd := hd1 (fun a b c d h => by cases h)
    dsimp only [wpi] at h
    dsimp only [aEx] at hx
    split at h
    · exact fun H locs ls hR hS hL => lv_idiv hex hb hd h.1 (hn _ _ _ _ _ _ h.2 H locs ls hR hS hL)
    · exact h.elim
  case irem =>
    have hd := hd1 (fun a b c d h => by cases h)
    dsimp only [wpi] at h
    dsimp only [aEx] at hx
    split at h
    · exact fun H locs ls hR hS hL => lv_irem hex hb hd h.1 (hn _ _ _ _ _ _ h.2 H locs ls hR hS hL)
    · exact h.elim
  case ldiv =>
    have hd := hd1 (fun a b c d h => by cases h)
    dsimp only [wpi] at h
    dsimp only [aEx] at hx
    split at h
    · exact fun H locs ls hR hS hL => lv_ldiv hex hb hd h.1 (hn _ _ _ _ _ _ h.2 H locs ls hR hS hL)
    · exact h.elim
  case lrem =>
    have hd := hd1 (fun a b c d h => by cases h)
    dsimp only [wpi] at h
    dsimp only [aEx] at hx
    split at h
    · exact fun H locs ls hR hS hL => lv_lrem hex hb hd h.1 (hn _ _ _ _ _ _ h.2 H locs ls hR hS hL)
    · exact h.elim
  case iconst n =>
    have hd := hd1 (fun a b c d h => by cases h)
    dsimp only [wpi] at h
    dsimp only [aEx] at hx
    exact fun H locs ls hR hS hL => lv_iconst hex hb hd hx (hn _ _ _ _ _ _ h H locs ls hR hS hL)
  case bipush n =>
    have hd := hd1 (fun a b c d h => by cases h)
    dsimp only [wpi] at h
    dsimp only [aEx] at hx
    exact fun H locs ls hR hS hL => lv_bipush hex hb hd hx (hn _ _ _ _ _ _ h H locs ls hR hS hL)
  case sipush n =>
    have hd := hd1 (fun a b c d h => by cases h)
    dsimp only [wpi] at h
    dsimp only [aEx] at hx
    exact fun H locs ls hR hS hL => lv_sipush hex hb hd hx (hn _ _ _ _ _ _ h H locs ls hR hS hL)
  case lconst n =>
    have hd := hd1 (fun a b c d h => by cases h)
    dsimp only [wpi] at h
    dsimp only [aEx] at hx
    exact fun H locs ls hR hS hL => lv_lconst hex hb hd hx (hn _ _ _ _ _ _ h H locs ls hR hS hL)
  case ldc n =>
    have hd := hd1 (fun a b c d h => by cases h)
    dsimp only [wpi] at h
    dsimp only [aEx] at hx
    exact fun H locs ls hR hS hL => lv_ldc hex hb hown (hts _ hx) hd (hn _ _ _ _ _ _ h H locs ls hR hS hL)
  case ldc2_w n =>
    have hd := hd1 (fun a b c d h => by cases h)
    dsimp only [wpi] at h
    dsimp only [aEx] at hx
    exact fun H locs ls hR hS hL => lv_ldc2 hex hb hown (hts _ hx) hd (hn _ _ _ _ _ _ h H locs ls hR hS hL)
  case iload_n n =>
    have hd := hd1 (fun a b c d h => by cases h)
    dsimp only [wpi] at h
    dsimp only [aEx] at hx
    split at h
    · rename_i v hv
      exact fun H locs ls hR hS hL => lv_iload_n hex hb hd hx (lv_lget hL hv) (hn _ _ _ _ _ _ h H locs ls hR hS hL)
    · exact h.elim
  case lload_n n =>
    have hd := hd1 (fun a b c d h => by cases h)
    dsimp only [wpi] at h
    dsimp only [aEx] at hx
    split at h
    · rename_i v hv
      exact fun H locs ls hR hS hL => lv_lload_n hex hb hd hx (lv_lget hL hv) (hn _ _ _ _ _ _ h H locs ls hR hS hL)
    · exact h.elim
  case aload_n n =>
    have hd := hd1 (fun a b c d h => by cases h)
    dsimp only [wpi] at h
    dsimp only [aEx] at hx
    split at h
    · rename_i v hv
      exact fun H locs ls hR hS hL => lv_aload_n hex hb hd hx (lv_lget hL hv) (hn _ _ _ _ _ _ h H locs ls hR hS hL)
    · exact h.elim
  case iload n =>
    have hd := hd1 (fun a b c d h => by cases h)
    dsimp only [wpi] at h
    dsimp only [aEx] at hx
    subst hx
    split at h
    · rename_i v hv
      exact fun H locs ls hR hS hL => lv_iload hex hb hd (lv_lget hL hv) (hn _ _ _ _ _ _ h H locs ls hR hS hL)
    · exact h.elim
  case lload n =>
    have hd := hd1 (fun a b c d h => by cases h)
    dsimp only [wpi] at h
    dsimp only [aEx] at hx
    subst hx
    split at h
    · rename_i v hv
      exact fun H locs ls hR hS hL => lv_lload hex hb hd (lv_lget hL hv) (hn _ _ _ _ _ _ h H locs ls hR hS hL)
    · exact h.elim
  case aload n =>
    have hd := hd1 (fun a b c d h => by cases h)
    dsimp only [wpi] at h
    dsimp only [aEx] at hx
    subst hx
    split at h
    · rename_i v hv
      exact fun H locs ls hR hS hL => lv_aload hex hb hd (lv_lget hL hv) (hn _ _ _ _ _ _ h H locs ls hR hS hL)
    · exact h.elim
  case istore_n n =>
    have hd := hd1 (fun a b c d h => by cases h)
    dsimp only [wpi] at h
    dsimp only [aEx] at hx
    split at h
    · exact fun H locs ls hR hS hL => lv_istore_n hex hb hd hx.1 hL hx.2 rfl (fun ls' hl' => hn _ _ _ _ _ _ h H locs ls' hR hS (lv_put1 hl'))
    · exact h.elim
  case astore_n n =>
    have hd := hd1 (fun a b c d h => by cases h)
    dsimp only [wpi] at h
    dsimp only [aEx] at hx
    split at h
    · exact fun H locs ls hR hS hL => lv_astore_n hex hb hd hx.1 hL hx.2 rfl (fun ls' hl' => hn _ _ _ _ _ _ h H locs ls' hR hS (lv_put1 hl'))
    · exact h.elim
  case lstore_n n =>
    have hd := hd1 (fun a b c d h => by cases h)
    dsimp only [wpi] at h
    dsimp only [aEx] at hx
    split at h
    · exact fun H locs ls hR hS hL => lv_lstore_n hex hb hd hx.1 hL hx.2 rfl (fun ls' hl' => hn _ _ _ _ _ _ h H locs ls' hR hS (lv_put2 hl'))
    · exact h.elim
  case istore n =>
    have hd := hd1 (fun a b c d h => by cases h)
    dsimp only [wpi] at h
    dsimp only [aEx] at hx
    obtain ⟨rfl, hx⟩ := hx
    split at h
    · exact fun H locs ls hR hS hL => lv_istore hex hb hd hL hx rfl (fun ls' hl' => hn _ _ _ _ _ _ h H locs ls' hR hS (lv_put1 hl'))
    · exact h.elim
  case astore n =>
    have hd := hd1 (fun a b c d h => by cases h)
    dsimp only [wpi] at h
    dsimp only [aEx] at hx
    obtain ⟨rfl, hx⟩ := hx
    split at h
    · exact fun H locs ls hR hS hL => lv_astore hex hb hd hL hx rfl (fun ls' hl' => hn _ _ _ _ _ _ h H locs ls' hR hS (lv_put1 hl'))
    · exact h.elim
  case lstore n =>
    have hd := hd1 (fun a b c d h => by cases h)
    dsimp only [wpi] at h
    dsimp only [aEx] at hx
    obtain ⟨rfl, hx⟩ := hx
    split at h
    · exact fun H locs ls hR hS hL => lv_lstore hex hb hd hL hx rfl (fun ls' hl' => hn _ _ _ _ _ _ h H locs ls' hR hS (lv_put2 hl'))
    · exact h.elim
  case iinc k n =>
    have hd := hd1 (fun a b c d h => by cases h)
    dsimp only [wpi] at h
    dsimp only [aEx] at hx
    obtain ⟨rfl, hx⟩ := hx
    split at h
    · rename_i v hv
      intro H locs ls hR hS hL
      have hm := aAs_get L 0 k _ hv
      rw [Nat.zero_add] at hm
      obtain ⟨j, hj9⟩ := List.getElem?_of_mem hm
      exact lv_iinc hex hb hd hL hj9 rfl hx rfl (fun ls' hl' => hn _ _ _ _ _ _ h H locs ls' hR hS (lv_put1 hl'))
    · exact h.elim
  case dup =>
    have hd := hd1 (fun a b c d h => by cases h)
    dsimp only [wpi] at h
    dsimp only [aEx] at hx
    split at h
    · exact fun H locs ls hR hS hL => lv_dup hex hb hd (aCat1_eq h.1) (hn _ _ _ _ _ _ h.2 H locs ls hR hS hL)
    · exact h.elim
  case pop =>
    have hd := hd1 (fun a b c d h => by cases h)
    dsimp only [wpi] at h
    dsimp only [aEx] at hx
    split at h
    · exact fun H locs ls hR hS hL => lv_pop hex hb hd (aCat1_eq h.1) (hn _ _ _ _ _ _ h.2 H locs ls hR hS hL)
    · exact h.elim
  case dup2 =>
    have hd := hd1 (fun a b c d h => by cases h)
    dsimp only [wpi] at h
    dsimp only [aEx] at hx
    split at h
    · exact fun H locs ls hR hS hL => lv_dup2_11 hex hb hd (aCat1_eq h.1) (aCat1_eq h.2.1) (hn _ _ _ _ _ _ h.2.2 H locs ls hR hS hL)
    · exact h.elim
  case ifCond cd off =>
    have hd := hd1 (fun a b c d h => by cases h)
    dsimp only [wpi] at h
    dsimp only [aEx] at hx
    split at h
    · cases cd
      case eq => exact fun H locs ls hR hS hL => lv_if_eq hex hb hd hx (fun g => hj _ _ _ _ _ _ _ (h.1 g) H locs ls hR hS hL) (fun g => hj _ _ _ _ _ _ _ (h.2 g) H locs ls hR hS hL)
      case ne => exact fun H locs ls hR hS hL => lv_if_ne hex hb hd hx (fun g => hj _ _ _ _ _ _ _ (h.1 g) H locs ls hR hS hL) (fun g => hj _ _ _ _ _ _ _ (h.2 (fun k => k g)) H locs ls hR hS hL)
      case lt => exact fun H locs ls hR hS hL => lv_if_lt hex hb hd hx (fun g => hj _ _ _ _ _ _ _ (h.1 g) H locs ls hR hS hL) (fun g => hj _ _ _ _ _ _ _ (h.2 g) H locs ls hR hS hL)
      case ge => exact fun H locs ls hR hS hL => lv_if_ge hex hb hd hx (fun g => hj _ _ _ _ _ _ _ (h.1 g) H locs ls hR hS hL) (fun g => hj _ _ _ _ _ _ _ (h.2 g) H locs ls hR hS hL)
      case gt => exact fun H locs ls hR hS hL => lv_if_gt hex hb hd hx (fun g => hj _ _ _ _ _ _ _ (h.1 g) H locs ls hR hS hL) (fun g => hj _ _ _ _ _ _ _ (h.2 g) H locs ls hR hS hL)
      case le => exact fun H locs ls hR hS hL => lv_if_le hex hb hd hx (fun g => hj _ _ _ _ _ _ _ (h.1 g) H locs ls hR hS hL) (fun g => hj _ _ _ _ _ _ _ (h.2 g) H locs ls hR hS hL)
    · exact h.elim
  case if_icmp cd off =>
    have hd := hd1 (fun a b c d h => by cases h)
    dsimp only [wpi] at h
    dsimp only [aEx] at hx
    split at h
    · cases cd
      case eq => exact fun H locs ls hR hS hL => lv_icmp_eq hex hb hd hx (fun g => hj _ _ _ _ _ _ _ (h.1 g) H locs ls hR hS hL) (fun g => hj _ _ _ _ _ _ _ (h.2 g) H locs ls hR hS hL)
      case ne => exact fun H locs ls hR hS hL => lv_icmp_ne hex hb hd hx (fun g => hj _ _ _ _ _ _ _ (h.1 g) H locs ls hR hS hL) (fun g => hj _ _ _ _ _ _ _ (h.2 (fun k => k g)) H locs ls hR hS hL)
      case lt => exact fun H locs ls hR hS hL => lv_icmp_lt hex hb hd hx (fun g => hj _ _ _ _ _ _ _ (h.1 g) H locs ls hR hS hL) (fun g => hj _ _ _ _ _ _ _ (h.2 g) H locs ls hR hS hL)
      case ge => exact fun H locs ls hR hS hL => lv_icmp_ge hex hb hd hx (fun g => hj _ _ _ _ _ _ _ (h.1 g) H locs ls hR hS hL) (fun g => hj _ _ _ _ _ _ _ (h.2 g) H locs ls hR hS hL)
      case gt => exact fun H locs ls hR hS hL => lv_icmp_gt hex hb hd hx (fun g => hj _ _ _ _ _ _ _ (h.1 g) H locs ls hR hS hL) (fun g => hj _ _ _ _ _ _ _ (h.2 g) H locs ls hR hS hL)
      case le => exact fun H locs ls hR hS hL => lv_icmp_le hex hb hd hx (fun g => hj _ _ _ _ _ _ _ (h.1 g) H locs ls hR hS hL) (fun g => hj _ _ _ _ _ _ _ (h.2 g) H locs ls hR hS hL)
    · exact h.elim
  case goto off =>
    have hd := hd1 (fun a b c d h => by cases h)
    dsimp only [wpi] at h
    dsimp only [aEx] at hx
    exact fun H locs ls hR hS hL => lv_goto hex hb hd hx (hj _ _ _ _ _ _ _ h H locs ls hR hS hL)
  case getfield idx =>
    have hd := hd1 (fun a b c d h => by cases h)
    dsimp only [wpi] at h
    dsimp only [aEx] at hx
    split at h
    · split at h
      · rename_i a r ci fs ha
        obtain ⟨rfl, h⟩ := h
        split at h
        · rename_i v hv
          exact aI_get C hx hd ha hv (hn _ _ _ _ _ _ h)
        · exact h.elim
      · exact h.elim
    · exact h.elim
  case putfield idx =>
    have hd := hd1 (fun a b c d h => by cases h)
    dsimp only [wpi] at h
    dsimp only [aEx] at hx
    split at h
    · split at h
      · rename_i v a r ci fs ha
        obtain ⟨rfl, h1, h2, h⟩ := h
        exact aI_put C hx hd ha h1 h2 (hn _ _ _ _ _ _ h)
      · exact h.elim
    · exact h.elim
  case getstatic idx =>
    have hd := hd1 (fun a b c d h => by cases h)
    dsimp only [wpi] at h
    dsimp only [aEx] at hx
    exact aI_gets C hx hd (by rw [← hE8]; exact hn _ _ _ _ _ _ h)
  case iaload =>
    have hd := hd1 (fun a b c d h => by cases h)
    dsimp only [wpi] at h
    dsimp only [aEx] at hx
    split at h
    · split at h
      · rename_i i a r t n f ha
        exact aI_iald C ha h.1 h.2.1 hd (hn _ _ _ _ _ _ h.2.2)
      · exact h.elim
    · exact h.elim
  case baload =>
    have hd := hd1 (fun a b c d h => by cases h)
    dsimp only [wpi] at h
    dsimp only [aEx] at hx
    split at h
    · split at h
      · rename_i i a r t n f ha
        obtain ⟨rfl, h1, h2⟩ := h
        exact aI_bald C ha h1 hd (hn _ _ _ _ _ _ h2)
      · exact h.elim
    · exact h.elim
  case laload =>
    have hd := hd1 (fun a b c d h => by cases h)
    dsimp only [wpi] at h
    dsimp only [aEx] at hx
    split at h
    · split at h
      · rename_i i a r t n f ha
        obtain ⟨rfl, h1, h2⟩ := h
        exact aI_lald C ha h1 hd (hn _ _ _ _ _ _ h2)
      · exact h.elim
    · exact h.elim
  case aaload =>
    have hd := hd1 (fun a b c d h => by cases h)
    dsimp only [wpi] at h
    dsimp only [aEx] at hx
    split at h
    · split at h
      · rename_i i a r t n f ha
        obtain ⟨rfl, h1, h2⟩ := h
        exact aI_aald C ha h1 hd (hn _ _ _ _ _ _ h2)
      · exact h.elim
    · exact h.elim
  case iastore =>
    have hd := hd1 (fun a b c d h => by cases h)
    dsimp only [wpi] at h
    dsimp only [aEx] at hx
    split at h
    · split at h
      · rename_i v i a r t n f ha
        obtain ⟨rfl, h1, h2⟩ := h
        exact aI_iast C ha h1 hd (hn _ _ _ _ _ _ h2)
      · exact h.elim
    · exact h.elim
  case bastore =>
    have hd := hd1 (fun a b c d h => by cases h)
    dsimp only [wpi] at h
    dsimp only [aEx] at hx
    split at h
    · split at h
      · rename_i v i a r t n f ha
        obtain ⟨rfl, h1, h2⟩ := h
        exact aI_bast C ha h1 hd (hn _ _ _ _ _ _ h2)
      · exact h.elim
    · exact h.elim
  case lastore =>
    have hd := hd1 (fun a b c d h => by cases h)
    dsimp only [wpi] at h
    dsimp only [aEx] at hx
    split at h
    · split at h
      · rename_i v i a r t n f ha
        obtain ⟨rfl, h1, h2⟩ := h
        exact aI_last C ha h1 hd (hn _ _ _ _ _ _ h2)
      · exact h.elim
    · exact h.elim
  case aastore =>
    have hd := hd1 (fun a b c d h => by cases h)
    dsimp only [wpi] at h
    dsimp only [aEx] at hx
    split at h
    · split at h
      · rename_i v i a r t n f ha
        obtain ⟨rfl, h1, ⟨fs, h3⟩, h2⟩ := h
        exact aI_aast C ha h1 h3 hd (hn _ _ _ _ _ _ h2)
      · exact h.elim
    · exact h.elim
  case arraylength =>
    have hd := hd1 (fun a b c d h => by cases h)
    dsimp only [wpi] at h
    dsimp only [aEx] at hx
    split at h
    · split at h
      · rename_i a r t n f ha
        exact aI_alen C ha hd (hn _ _ _ _ _ _ h)
      · exact h.elim
    · exact h.elim
  case invokevirtual idx =>
    have hd := hd1 (fun a b c d h => by cases h)
    dsimp only [wpi] at h
    dsimp only [aEx] at hx
    obtain ⟨hx9, Post, PostX, mc, ms, h1, h2, h3, h4⟩ := h
    have h5 := hE1 _ _ _ _ _ _ _ _ _ _ h1 pc L (st.drop x) hd h2 (fun v O' A' hq => hn _ _ _ _ _ _ (h3 v O' A' hq)) (fun n O' A' hq => hE6 _ _ _ _ _ _ _ _ (h4 n O' A' hq))
    rw [List.reverse_reverse, List.take_append_drop] at h5
    exact h5
  case invokestatic idx =>
    have hd := hd1 (fun a b c d h => by cases h)
    dsimp only [wpi] at h
    dsimp only [aEx] at hx
    obtain ⟨hx9, Post, PostX, mc, ms, h1, h2, h3, h4⟩ := h
    have h5 := hE1 _ _ _ _ _ _ _ _ _ _ h1 pc L (st.drop x) hd h2 (fun v O' A' hq => hn _ _ _ _ _ _ (h3 v O' A' hq)) (fun n O' A' hq => hE6 _ _ _ _ _ _ _ _ (h4 n O' A' hq))
    rw [List.reverse_reverse, List.take_append_drop] at h5
    exact h5
  case invokespecial idx =>
    have hd := hd1 (fun a b c d h => by cases h)
    dsimp only [wpi] at h
    dsimp only [aEx] at hx
    obtain ⟨hx9, Post, PostX, mc, ms, h1, h2, h3, h4⟩ := h
    have h5 := hE1 _ _ _ _ _ _ _ _ _ _ h1 pc L (st.drop x) hd h2 (fun v O' A' hq => hn _ _ _ _ _ _ (h3 v O' A' hq)) (fun n O' A' hq => hE6 _ _ _ _ _ _ _ _ (h4 n O' A' hq))
    rw [List.reverse_reverse, List.take_append_drop] at h5
    exact h5
  case new idx =>
    have hd := hd1 (fun a b c d h => by cases h)
    dsimp only [wpi] at h
    dsimp only [aEx] at hx
    match z, hx, h with
    | 0, hx, h =>
      obtain ⟨h1, h2, h3⟩ := h
      exact aI_new C (hx rfl) hd (by rw [← hE9]; exact h1) (by rw [← hE10]; exact h2) (fun q hq hq2 => hn _ _ _ _ _ _ (h3 q hq hq2))
    | z + 1, hx, h => exact hE7 _ _ _ _ _ _ _ _ h
  case newarray ty =>
    have hd := hd1 (fun a b c d h => by cases h)
    dsimp only [wpi] at h
    dsimp only [aEx] at hx
    split at h
    · obtain ⟨N, h1, h2, h3, h4, h5⟩ := h
      exact aI_newa C hx hd h1 h2 (by rw [← hE9]; exact h3) (by rw [← hE10]; exact h4) (fun q hq hq2 => hn _ _ _ _ _ _ (h5 q hq hq2))
    · exact h.elim
  case anewarray idx =>
    have hd := hd1 (fun a b c d h => by cases h)
    dsimp only [wpi] at h
    dsimp only [aEx] at hx
    split at h
    · obtain ⟨N, h1, h2, h3, h4, h5⟩ := h
      exact aI_anew C hx hd h1 h2 (by rw [← hE9]; exact h3) (by rw [← hE10]; exact h4) (fun q hq hq2 => hn _ _ _ _ _ _ (h5 q hq hq2))
    · exact h.elim
  case ireturn =>
    have hd := hd1 (fun a b c d h => by cases h)
    dsimp only [wpi] at h
    dsimp only [aEx] at hx
    split at h
    · obtain ⟨⟨ty, h1, h2⟩, h3⟩ := h; exact hE2 _ _ _ _ _ _ _ _ hd h1 h2 h3
    · exact h.elim
  case lreturn =>
    have hd := hd1 (fun a b c d h => by cases h)
    dsimp only [wpi] at h
    dsimp only [aEx] at hx
    split at h
    · exact hE3 _ _ _ _ _ _ _ hd h.1 h.2
    · exact h.elim
  case areturn =>
    have hd := hd1 (fun a b c d h => by cases h)
    dsimp only [wpi] at h
    dsimp only [aEx] at hx
    split at h
    · obtain ⟨⟨n, h1⟩, h3⟩ := h; exact hE4 _ _ _ _ _ _ _ _ hd h1 h3
    · exact h.elim
  case return_ =>
    have hd := hd1 (fun a b c d h => by cases h)
    dsimp only [wpi] at h
    dsimp only [aEx] at hx
    split at h
    · exact hE5 _ _ _ _ _ _ hd h.1 h.2
    · exact h.elim
  all_goals (exact (show False from h).elim)
theorem wpl_ok (C : aCx G base tA own cc nL ini p s m args meth c) {E : aE} (hE : aEnv p l e R s m args below meth c Q G base tA cc nL E) {jmp : aK0} (hj : ∀ pc L st O A nc ns, jmp pc L st O A nc ns → aW p l e R s m args below meth c Q G base nL pc L st O A nc ns) :
    ∀ (is : List aIn) (pc : Nat) (L : aL) (st : List Value) (O : aO) (A : aA) (nc ns : Nat), aBlk own cc nL ini pc is → wpl E jmp is pc L st O A nc ns → aW p l e R s m args below meth c Q G base nL pc L st O A nc ns
  | [], pc, L, st, O, A, nc, ns, _, h => hj pc L st O A nc ns h
  | (i, x, y, z, ts) :: r, pc, L, st, O, A, nc, ns, hB, h =>
    wpi_ok C hE hj (fun L st O A nc ns h9 => wpl_ok C hE hj r _ L st O A nc ns hB.2.2 h9) hB.1 hB.2.1 h
theorem wp_ok (C : aCx G base tA own cc nL ini p s m args meth c) {E : aE} (hE : aEnv p l e R s m args below meth c Q G base tA cc nL E) {B : Nat → Option (List aIn)} (hB : ∀ pc is, B pc = some is → aBlk own cc nL ini pc is) {K : Nat → Option aKc}
    (hK : ∀ pc P, K pc = some P → ∀ L st O A nc ns, P L st O A nc ns → aW p l e R s m args below meth c Q G base nL pc L st O A nc ns) :
    ∀ (n pc : Nat) (L : aL) (st : List Value) (O : aO) (A : aA) (nc ns : Nat), wp E B K n pc L st O A nc ns → aW p l e R s m args below meth c Q G base nL pc L st O A nc ns
  | 0, _, _, _, _, _, _, _, h => h.elim
  | n + 1, pc, L, st, O, A, nc, ns, h => by
    unfold wp at h
    split at h
    · rename_i P hP
      exact hK pc P hP L st O A nc ns h
    · split at h
      · rename_i is his
        exact wpl_ok C hE (wp_ok C hE hB hK n) is pc L st O A nc ns (hB pc is his) h
      · exact h.elim
theorem wp1_ok (C : aCx G base tA own cc nL ini p s m args meth c) {E : aE} (hE : aEnv p l e R s m args below meth c Q G base tA cc nL E) {B : Nat → Option (List aIn)} (hB : ∀ pc is, B pc = some is → aBlk own cc nL ini pc is) {K : Nat → Option aKc}
    (hK : ∀ pc P, K pc = some P → ∀ L st O A nc ns, P L st O A nc ns → aW p l e R s m args below meth c Q G base nL pc L st O A nc ns) (n : Nat) (h : wp1 E B K n pc L st O A nc ns) : aW p l e R s m args below meth c Q G base nL pc L st O A nc ns := by
  unfold wp1 at h
  split at h
  · rename_i is his
    exact wpl_ok C hE (wp_ok C hE hB hK n) is pc L st O A nc ns (hB pc is his) h
  · exact h.elim
end SND4
