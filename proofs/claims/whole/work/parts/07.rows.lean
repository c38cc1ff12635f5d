section SND2
variable {p : Program} {l : Launch} {e : Env} {R : Room} {s : State} {m : MethodId} {args : Array Value} {below : List Frame} {meth : Method} {c : Code} {Q : State → Prop} {G : aG} {base tA : Nat} {own : String} {cc : ByteArray} {nL : Nat} {ini : Bool}
variable {pc : Nat} {L : aL} {st : List Value} {O : aO} {A : aA} {nc ns : Nat} {H : Heap}
theorem aRel.apart (hK : aKn G s) (h : aRel G base O A H) {a ci t : Nat} {fs : List Value} {x : vp_A} (h1 : O a = some (ci, fs)) (h2 : A a = some (t, x)) : False := by
  obtain ⟨r, hr, cell, q1, q2, q3, q4⟩ := (h.2.1 a ci fs h1).2
  obtain ⟨-, -, kC, hk, hkind⟩ := hK.1.1 ci r hr
  have fin : ∀ ty, ArrOfT s (G.2 t) ty → cell.cls = G.2 t → False := by
    intro ty hA hcl
    obtain ⟨-, kA, hkA, comp, hkd⟩ := hA 0 (fun _ => .null)
    rw [← q2, hcl] at hk
    have hkA' : s.vm.classes[G.2 t]? = some kA := hkA
    rw [hk] at hkA'
    cases hkA'
    rw [hkind] at hkd
    cases hkd
  rcases h.2.2 a t x h2 with ⟨t4, -, g1⟩ | ⟨t4, t6, cell9, f, -, g1, hcl, -⟩
  · have hc : cell = vp_cell (G.2 t) x := Option.some.inj (q1.symm.trans g1)
    exact fin _ (hK.1.2 t _ (aTys_at t4)).1 (by rw [hc]; obtain ⟨n, f | f | f | f | f⟩ := x <;> rfl)
  · cases Option.some.inj (q1.symm.trans g1)
    rcases (show t = 4 ∨ t = 5 by omega) with rfl | rfl
    · exact fin _ hK.2.1 hcl
    · exact fin _ hK.2.2 hcl
theorem va_P1 {D : va_G} {cl : List vw_C} {q : Nat × va_E} (h : va_at D cl q H) : va_P D cl [q] H := by
  intro k q' hq
  match k, hq with
  | 0, hq => cases hq; exact h
theorem aNth_eq : ∀ (fs : List Value) (k : Nat), aNth fs k = fs[k]?
  | [], _ => rfl
  | _ :: _, 0 => rfl
  | _ :: r, k + 1 => by rw [List.getElem?_cons_succ]; exact aNth_eq r k
theorem aPut_eq : ∀ (fs : List Value) (k : Nat) (v : Value), aPut fs k v = fs.set k v
  | [], _, _ => rfl
  | _ :: _, 0, _ => rfl
  | _ :: r, k + 1, v => by rw [List.set_cons_succ, ← aPut_eq r k v]; rfl
theorem aI_get (C : aCx G base tA own cc nL ini p s m args meth c) {idx ci k z a : Nat} {fs : List Value} {v : Value} (hF : aFl own idx ci k z) (hd : decode cc pc = .ok (.getfield idx, 3)) (ha : O a = some (ci, fs)) (hv : aNth fs k = some v) (kk : aW p l e R s m args below meth c Q G base nL (pc + 3) L (v :: st) O A nc ns) : aW p l e R s m args below meth c Q G base nL pc L (.ref a :: st) O A nc ns := by
  intro H locs ls hR hS hL
  obtain ⟨hx, hb, hml, hown, hts, hK, hst, hstr, hi, hbs, hlk⟩ := C
  obtain ⟨Cn, T, N, ty, hc, hk, hlink, hin, hty, hnm, hz⟩ := hF
  exact va_get (D := G.1) (ci := ci) (C := Cn) (T := T) (N := N) (Ts := aT) hx hb hts hin hown hK.1 (va_P1 (hR.2.1 a ci fs ha).2) 0 rfl hc k hk (hts _ hlink) (fun _ h => h) (by rw [← aNth_eq]; exact hv) hd (kk H locs ls hR hS hL)
theorem aFz_ok {z : Nat} {ty : FieldType} {v : Value} (hz : (z = 0 ∧ ty = .int) ∨ (z = 1 ∧ ty = .boolean) ∨ (z = 2 ∧ ((∃ n, ty = .object n) ∨ ∃ t, ty = .array t))) (h : aFz z v) : narrow ty v = v ∧ fits ty v = true := by
  rcases hz with ⟨rfl, rfl⟩ | ⟨rfl, rfl⟩ | ⟨rfl, ⟨n, rfl⟩ | ⟨t, rfl⟩⟩
  · cases v <;> simp [aFz] at h; exact ⟨rfl, rfl⟩
  · cases v <;> simp [aFz] at h
    rcases h with rfl | rfl
    · exact ⟨by decide +kernel, by decide +kernel⟩
    · exact ⟨by decide +kernel, by decide +kernel⟩
  · cases v <;> simp [aFz] at h <;> exact ⟨rfl, rfl⟩
  · cases v <;> simp [aFz] at h <;> exact ⟨rfl, rfl⟩
theorem aI_put (C : aCx G base tA own cc nL ini p s m args meth c) {idx ci k z a : Nat} {fs : List Value} {v : Value} (hF : aFl own idx ci k z ∧ ∃ (C : String) (T : u_T) (N : Nat), vwCl[ci]? = some (C, T, N) ∧ ((T k).2.2.2 = false ∨ (ini = true ∧ (T k).1 = own))) (hd : decode cc pc = .ok (.putfield idx, 3)) (ha : O a = some (ci, fs)) (hl : k < fs.length) (hv : aFz z v) (kk : aW p l e R s m args below meth c Q G base nL (pc + 3) L st (aSet O a (ci, aPut fs k v)) A nc ns) : aW p l e R s m args below meth c Q G base nL pc L (v :: .ref a :: st) O A nc ns := by
  intro H locs ls hR hS hL
  obtain ⟨hx, hb, hml, hown, hts, hK, hst, hstr, hini, hbs, hlk⟩ := C
  obtain ⟨⟨Cn, T, N, ty, hc, hk, hlink, hin, hty, hnm, hz⟩, C2, T2, N2, e2, hf2⟩ := hF
  rw [hc] at e2
  cases e2
  obtain ⟨hn, hfit⟩ := aFz_ok hz hv
  have hap := va_apart (own := own) (D := G.1) (ci := ci) hts hin ty hty hnm hK.1 hc
  obtain ⟨hba, r, h1, cell, q1, q2, q3, q4⟩ := hR.2.1 a ci fs ha
  have hr : r = (Cn, T, N) := Option.some.inj (h1.symm.trans hc)
  subst hr
  obtain ⟨hSl, hfc, kC, hkC, hkind⟩ := hK.1.1 ci _ hc
  obtain ⟨cf, kf, fi, f, hi, hsl⟩ := hSl k hk
  have hlay := hts _ (hin _ (u_in_lay hk))
  have hst' := (u_facts hfc hkC (u_lays hts hin hk) hi).1
  have fin : ∀ H' : Heap, H'[a]? = some (cell.setSlot f.slot v) → H'.size = H.size → (∀ q, q ≠ a → H'[q]? = H[q]?) → W p l e R s m args below meth c H' (locs ++ [⟨a, f.slot⟩]) nc ns Q (F0 m (pc + 3) ls st) := by
    intro H' e1 e2 e3
    rw [hsl] at e1
    refine kk H' _ ls (hR.obj ha e2 e3 ?_ (fun t x hA => hR.apart hK ha hA)) (hS.put e2 e3 hba) hL
    rw [aPut_eq]
    exact ⟨_, hc, t_OB.to (V := updV (vp_V fs) k v) ⟨_, e1, q2, q3, t_set q4 hap hk v⟩ (fun j _ => vp_updV_set hl v j)⟩
  by_cases hff : (T k).2.2.2 = false
  · unfold u_lay at hlay
    rw [if_neg (by rw [hff]; decide)] at hlay
    have h6 := u_store hfc hkC hkind hlay hi (hty k hk) hn hfit
    exact W.putK hx hb (f := f) ⟨hown, hts _ hlink, ⟨_, _, _, hi⟩, hst'⟩ (by rw [q2]; exact h6) q1 q3 (by rw [hsl]; exact k2_hasslot (q4 k hk)) rfl rfl hd fin
  · have hff2 : (T k).2.2.2 = true := by simpa using hff
    have hdecl : (T k).1 = own := (hf2.resolve_left hff).2
    have hin2 : meth.name = "<init>" := hini (hf2.resolve_left hff).1
    unfold u_lay at hlay
    rw [if_pos hff2] at hlay
    have hcf : m.cls = cf := by
      obtain ⟨_, _, c', _, _, _, -, -, hf', -, -, -, hown2, -⟩ := Cond.laysFinal_spec hlay
      have e1 : c' = cf := by have := hi.symm.trans hf'; simp at this; exact this.1.symm
      rw [hdecl] at hown2
      rw [← e1]; exact Option.some.inj (hown.symm.trans hown2)
    have h6 := u_fits hfc hkC hkind (Or.inr hlay) hi (hty k hk) hn hfit
    exact W.putFinK hx hb hown (hts _ hlink) hi hst' hcf hin2 (by rw [q2]; exact h6) q1 q3 (by rw [hsl]; exact k2_hasslot (q4 k hk)) rfl rfl hd fin
theorem aI_iald (C : aCx G base tA own cc nL ini p s m args meth c) {a t n : Nat} {f : Nat → Int32} {i : Int32} (ha : A a = some (t, n, .inl f)) (ht : t = 0 ∨ 4 ≤ t) (hin : vp_in i n) (hd : decode cc pc = .ok (.iaload, 1)) (kk : aW p l e R s m args below meth c Q G base nL (pc + 1) L (.int (f i.toNatClampNeg) :: st) O A nc ns) : aW p l e R s m args below meth c Q G base nL pc L (.int i :: .ref a :: st) O A nc ns := by
  intro H locs ls hR hS hL
  obtain ⟨hx, hb, hml, hown, hts, hK, hst, hstr, hi, hbs, hlk⟩ := C
  rcases hR.2.2 a _ _ ha with ⟨t4, -, g⟩ | ⟨t4, t6, cell, f9, hf9, g, hcl, hv1, hv2, hsz, hval⟩
  · have ht : t = 0 := by omega
    subst ht
    have hq : va_at G.1 vwCl (a, .inl (G.2 0, n, .inl f)) H := g
    exact va_iald (D := G.1) (tys := aTys G) hx hb hK.1 (va_P1 hq) 0 0 rfl rfl hin hd (kk H locs ls hR hS hL)
  · have hff : f9 = f := by cases hf9; rfl
    subst hff
    have hlt : i.toNatClampNeg < n := Nat.not_le.mp fun q => hin (Or.inr q)
    have har : s.isArrayOf cell .int := by
      refine ⟨hv1, ?_⟩
      rw [hcl]
      rcases (show t = 4 ∨ t = 5 by omega) with rfl | rfl
      · exact (hK.2.1 0 (fun _ => .null)).2
      · exact (hK.2.2 0 (fun _ => .null)).2
    have hsz : cell.slots.size = n := hsz
    exact W.iald (v := .int (f9 i.toNatClampNeg)) hx hb g har hv2 (by rw [hsz]; exact hin) (hval _ hlt) rfl rfl hd (kk H locs ls hR hS hL)
theorem aI_bald (C : aCx G base tA own cc nL ini p s m args meth c) {a n : Nat} {f : Nat → Int32} {i : Int32} (ha : A a = some (1, n, .inl f)) (hin : vp_in i n) (hd : decode cc pc = .ok (.baload, 1)) (kk : aW p l e R s m args below meth c Q G base nL (pc + 1) L (.int (f i.toNatClampNeg) :: st) O A nc ns) : aW p l e R s m args below meth c Q G base nL pc L (.int i :: .ref a :: st) O A nc ns := by
  intro H locs ls hR hS hL
  obtain ⟨hx, hb, hml, hown, hts, hK, hst, hstr, hi, hbs, hlk⟩ := C
  have hq : va_at G.1 vwCl (a, .inl (G.2 1, n, .inl f)) H := ((hR.2.2 a _ _ ha).made (by decide)).2
  exact va_bald (D := G.1) (tys := aTys G) hx hb hK.1 (va_P1 hq) 0 1 rfl rfl hin hd (kk H locs ls hR hS hL)
theorem aI_lald (C : aCx G base tA own cc nL ini p s m args meth c) {a n : Nat} {f : Nat → Int64} {i : Int32} (ha : A a = some (2, n, .inr (.inl f))) (hin : vp_in i n) (hd : decode cc pc = .ok (.laload, 1)) (kk : aW p l e R s m args below meth c Q G base nL (pc + 1) L (.long (f i.toNatClampNeg) :: st) O A nc ns) : aW p l e R s m args below meth c Q G base nL pc L (.int i :: .ref a :: st) O A nc ns := by
  intro H locs ls hR hS hL
  obtain ⟨hx, hb, hml, hown, hts, hK, hst, hstr, hi, hbs, hlk⟩ := C
  have hq : va_at G.1 vwCl (a, .inl (G.2 2, n, .inr (.inl f))) H := ((hR.2.2 a _ _ ha).made (by decide)).2
  exact va_lald (D := G.1) (tys := aTys G) hx hb hK.1 (va_P1 hq) 0 2 rfl rfl hin hd (kk H locs ls hR hS hL)
theorem aI_aald (C : aCx G base tA own cc nL ini p s m args meth c) {a n : Nat} {f : Nat → Option Nat} {i : Int32} (ha : A a = some (3, n, .inr (.inr (.inr (.inr f))))) (hin : vp_in i n) (hd : decode cc pc = .ok (.aaload, 1)) (kk : aW p l e R s m args below meth c Q G base nL (pc + 1) L (va_rf (f i.toNatClampNeg) :: st) O A nc ns) : aW p l e R s m args below meth c Q G base nL pc L (.int i :: .ref a :: st) O A nc ns := by
  intro H locs ls hR hS hL
  obtain ⟨hx, hb, hml, hown, hts, hK, hst, hstr, hi, hbs, hlk⟩ := C
  have hq : va_at G.1 vwCl (a, .inl (G.2 3, n, .inr (.inr (.inr (.inr f))))) H := ((hR.2.2 a _ _ ha).made (by decide)).2
  exact va_aldq (D := G.1) (tys := aTys G) hx hb hK.1 (va_P1 hq) 0 3 rfl rfl hin hd (kk H locs ls hR hS hL)
theorem aI_alen (C : aCx G base tA own cc nL ini p s m args meth c) {a t n : Nat} {x : (Nat → Int32) ⊕ (Nat → Int64) ⊕ (Nat → UInt32) ⊕ (Nat → UInt64) ⊕ (Nat → Option Nat)} (ha : A a = some (t, n, x)) (hd : decode cc pc = .ok (.arraylength, 1)) (kk : aW p l e R s m args below meth c Q G base nL (pc + 1) L (.int (nI n) :: st) O A nc ns) : aW p l e R s m args below meth c Q G base nL pc L (.ref a :: st) O A nc ns := by
  intro H locs ls hR hS hL
  obtain ⟨hx, hb, hml, hown, hts, hK, hst, hstr, hi, hbs, hlk⟩ := C
  rcases hR.2.2 a _ _ ha with ⟨t4, -, g⟩ | ⟨t4, t6, cell, f9, hf9, g, hcl, hv1, hv2, hsz, hval⟩
  · have hq : va_at G.1 vwCl (a, .inl (G.2 t, n, x)) H := g
    exact va_alen (D := G.1) (tys := aTys G) hx hb hK.1 (va_P1 hq) 0 t rfl (aTys_at t4) rfl hd (kk H locs ls hR hS hL)
  · have har : s.isArrayOf cell .int := by
      refine ⟨hv1, ?_⟩
      rw [hcl]
      rcases (show t = 4 ∨ t = 5 by omega) with rfl | rfl
      · exact (hK.2.1 0 (fun _ => .null)).2
      · exact (hK.2.2 0 (fun _ => .null)).2
    have hsz : cell.slots.size = n := hsz
    exact W.alen (n := Int32.ofNat n) hx hb g har (by rw [hsz] <;> rfl) rfl rfl hd (kk H locs ls hR hS hL)
theorem aI_iast (C : aCx G base tA own cc nL ini p s m args meth c) {a n : Nat} {f : Nat → Int32} {i v : Int32} (ha : A a = some (0, n, .inl f)) (hin : vp_in i n) (hd : decode cc pc = .ok (.iastore, 1)) (kk : aW p l e R s m args below meth c Q G base nL (pc + 1) L st O (aSet A a (0, n, .inl (upd f i.toNatClampNeg v))) nc ns) : aW p l e R s m args below meth c Q G base nL pc L (.int v :: .int i :: .ref a :: st) O A nc ns := by
  intro H locs ls hR hS hL
  obtain ⟨hx, hb, hml, hown, hts, hK, hst, hstr, hi, hbs, hlk⟩ := C
  obtain ⟨hba, g⟩ := (hR.2.2 a _ _ ha).made (by decide)
  refine W.iast hx hb g ((hK.1.2 0 _ rfl).1 n (fun j => .int (f j))) (fun q => by cases q) (by show ¬ (i < 0 ∨ (arrV _ _ _).slots.size ≤ _); rw [arrV_size]; exact hin) rfl rfl hd fun H1 e z oq => ?_
  refine kk H1 _ ls (hR.arr ha z oq (by decide) ?_ (fun ci fs hO => hR.apart hK hO ha)) (hS.put z oq hba) hL
  rw [e, vp_cell_i, vp_cell_i, arrV_store]
  congr 2
  funext q
  by_cases hq : q = i.toNatClampNeg
  · subst hq
    simp [updV, upd]
  · simp [updV, upd, hq]
theorem aI_bast (C : aCx G base tA own cc nL ini p s m args meth c) {a n : Nat} {f : Nat → Int32} {i v : Int32} (ha : A a = some (1, n, .inl f)) (hin : vp_in i n) (hd : decode cc pc = .ok (.bastore, 1)) (kk : aW p l e R s m args below meth c Q G base nL (pc + 1) L st O (aSet A a (1, n, .inl (upd f i.toNatClampNeg (vp_nar .byte v)))) nc ns) : aW p l e R s m args below meth c Q G base nL pc L (.int v :: .int i :: .ref a :: st) O A nc ns := by
  intro H locs ls hR hS hL
  obtain ⟨hx, hb, hml, hown, hts, hK, hst, hstr, hi, hbs, hlk⟩ := C
  obtain ⟨hba, g⟩ := (hR.2.2 a _ _ ha).made (by decide)
  refine W.bast hx hb g ((hK.1.2 1 _ rfl).1 n (fun j => .int (f j))) (fun q => by cases q) (by show ¬ (i < 0 ∨ (arrV _ _ _).slots.size ≤ _); rw [arrV_size]; exact hin) rfl rfl hd fun H1 e z oq => ?_
  refine kk H1 _ ls (hR.arr ha z oq (by decide) ?_ (fun ci fs hO => hR.apart hK hO ha)) (hS.put z oq hba) hL
  rw [e, vp_cell_i, vp_cell_i, arrV_store]
  congr 2
  funext q
  by_cases hq : q = i.toNatClampNeg
  · subst hq
    simp [updV, upd, vp_nar]
    try rfl
  · simp [updV, upd, hq]
theorem aI_last (C : aCx G base tA own cc nL ini p s m args meth c) {a n : Nat} {f : Nat → Int64} {i : Int32} {v : Int64} (ha : A a = some (2, n, .inr (.inl f))) (hin : vp_in i n) (hd : decode cc pc = .ok (.lastore, 1)) (kk : aW p l e R s m args below meth c Q G base nL (pc + 1) L st O (aSet A a (2, n, .inr (.inl (vp_updL f i.toNatClampNeg v)))) nc ns) : aW p l e R s m args below meth c Q G base nL pc L (.long v :: .int i :: .ref a :: st) O A nc ns := by
  intro H locs ls hR hS hL
  obtain ⟨hx, hb, hml, hown, hts, hK, hst, hstr, hi, hbs, hlk⟩ := C
  obtain ⟨hba, g⟩ := (hR.2.2 a _ _ ha).made (by decide)
  refine W.last hx hb g ((hK.1.2 2 _ rfl).1 n (fun j => .long (f j))) (fun q => by cases q) (by show ¬ (i < 0 ∨ (arrV _ _ _).slots.size ≤ _); rw [arrV_size]; exact hin) rfl rfl hd fun H1 e z oq => ?_
  refine kk H1 _ ls (hR.arr ha z oq (by decide) ?_ (fun ci fs hO => hR.apart hK hO ha)) (hS.put z oq hba) hL
  rw [e, vp_cell_l, vp_cell_l, arrV_store]
  congr 2
  funext q
  by_cases hq : q = i.toNatClampNeg
  · subst hq
    simp [updV, vp_updL]
  · simp [updV, vp_updL, hq]
theorem aI_aast (C : aCx G base tA own cc nL ini p s m args meth c) {a n v : Nat} {fs : List Value} {f : Nat → Option Nat} {i : Int32} (ha : A a = some (3, n, .inr (.inr (.inr (.inr f))))) (hin : vp_in i n) (hv : O v = some (5, fs)) (hd : decode cc pc = .ok (.aastore, 1)) (kk : aW p l e R s m args below meth c Q G base nL (pc + 1) L st O (aSet A a (3, n, .inr (.inr (.inr (.inr (va_up f i.toNatClampNeg (some v))))))) nc ns) : aW p l e R s m args below meth c Q G base nL pc L (.ref v :: .int i :: .ref a :: st) O A nc ns := by
  intro H locs ls hR hS hL
  obtain ⟨hx, hb, hml, hown, hts, hK, hst, hstr, hi, hbs, hlk⟩ := C
  obtain ⟨hba, g⟩ := (hR.2.2 a _ _ ha).made (by decide)
  have hlt : i.toNatClampNeg < n := Nat.not_le.mp fun q => hin (Or.inr q)
  have h0 : ¬ i < 0 := fun q => hin (Or.inl q)
  obtain ⟨-, r', hr', cellV, g1, g2, g3, -⟩ := hR.2.1 v _ _ hv
  have hcls := (hK.1.1 5 _ rfl).2
  obtain ⟨kA, comp, k1, k2, k3, -⟩ := (hK.1.2 3 _ rfl).2
  have hcomp : comp = G.1.1 5 := Option.some.inj (k3.symm.trans hcls.1)
  subst hcomp
  obtain ⟨kC, hkC, -⟩ := id hcls.2
  refine W.aast hx hb g (fun q h => by cases h) (fun h => by cases h) k1 k2 rfl hkC ⟨h0, by show _ < (arrV _ _ _).slots.size; rw [arrV_size]; exact hlt⟩ g1 (fun q h => by rw [h] at g3; cases g3) (by rw [g2]; exact hkC) (by rw [g2]; exact va_assign hcls) rfl rfl hd fun H1 e z oq => ?_
  refine kk H1 _ ls (hR.arr ha z oq (by decide) ?_ (fun ci fs hO => hR.apart hK hO ha)) (hS.put z oq hba) hL
  rw [e, vp_cell_q, vp_cell_q, arrV_store]
  congr 2
  funext q
  by_cases hq : q = i.toNatClampNeg
  · subst hq
    simp [updV, va_up, va_rf]
  · simp [updV, va_up, hq]
end SND2
