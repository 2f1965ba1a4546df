theorem mTys_at (E : Nat → ClassId) {j : Nat} {ty : FieldType} (h : mTy[j]? = some ty) : (mTys E)[j]? = some (E j, ty) := by
  match j, h with
  | 0, h => cases h; rfl
  | 1, h => cases h; rfl
  | 2, h => cases h; rfl
  | 3, h => cases h; rfl
  | 4, h => cases h; rfl
  | 5, h => cases h; rfl
  | 6, h => cases h; rfl
  | j + 7, h => simp [mTy] at h
theorem z_getf {K : zK} {yn : MethodName} {cc : ByteArray} {nL : Nat} {ret : Option FieldType} {d mc ms : Nat} {B : zB} {Q : State → Prop} {pc : Nat} {L : List (Option Value)} {rest : List Value} {M : mM} {k n : Nat} {C : String} {T : u_T} {N ci ix a : Nat} {fs : List Value} {v : Value} (ok : zOk K yn cc nL ret d mc ms B) (hd : decode cc pc = .ok (.getfield ix, 3)) (hin : ∀ w ∈ u_ws C T N, w ∈ zgw) (hc : vwCl[ci]? = some (C, T, N)) (j : Nat) (hj : j < N) (hw : Cond.fieldLink yn.cls ix (T j).1 (T j).2.1 (T j).2.2.1 ∈ zgw) (hm : M a = some (.inr (ci, fs))) (hv : fs[j]? = some v)
    (kk : zV nL B Q (pc + 3) L (v :: rest) M k n) : zV nL B Q pc L (.ref a :: rest) M k n := by
  obtain ⟨p, l, e, R, s, m, args, below, meth, c, D, E, A⟩ := B
  obtain ⟨⟨hx, hb, hml, hr, hown⟩, hts, hlocks, hK, hA, hnm, hR, hF, hT⟩ := ok
  intro H ls locs hl hM hz hS
  exact va_get (D := D) (ci := ci) (v := v) (C := C) (T := T) (N := N) hx hb hts hin hown hK (hM.one hm) 0 rfl hc j hj (hts _ hw) (fun _ h9 => h9) hv hd (kk H ls locs hl hM hz hS)
theorem mRep.put {D : va_G} {E : Nat → ClassId} {A : Nat → Prop} {M : mM} {H H1 : Heap} (h : mRep D E A M H) {a : Nat} {e0 e : mE} (ha : M a = some e0) (he : va_at D vwCl (a, mC E e) H1) (oq : ∀ q : Nat, q ≠ a → H1[q]? = H[q]?) : mRep D E A (mU M a e) H1 := by
  intro q e' h'
  by_cases hqa : q = a
  · subst hqa
    rw [mU_s] at h'
    cases h'
    exact ⟨he, (h q e0 ha).2⟩
  · rw [mU_n hqa] at h'
    exact ⟨(h q e' h').1.kept (oq q hqa), (h q e' h').2⟩
theorem z_putf {K : zK} {yn : MethodName} {cc : ByteArray} {nL : Nat} {ret : Option FieldType} {d mc ms : Nat} {B : zB} {Q : State → Prop} {pc : Nat} {L : List (Option Value)} {rest : List Value} {M : mM} {k n : Nat} {C : String} {T : u_T} {N ci ix a : Nat} {fs : List Value} {v : Value} {ty : FieldType} (ok : zOk K yn cc nL ret d mc ms B) (hd : decode cc pc = .ok (.putfield ix, 3)) (hin : ∀ w ∈ u_ws C T N, w ∈ zgw) (ty0 : Nat → FieldType) (hty : ∀ k, k < N → parseFieldDescriptor (T k).2.2.1 = some (ty0 k)) (hnm2 : ∀ a, a < N → ∀ b, b < N → a ≠ b → (T a).2.1 ≠ (T b).2.1) (hc : vwCl[ci]? = some (C, T, N)) (j : Nat) (hj : j < N) (hw : Cond.fieldLink yn.cls ix (T j).1 (T j).2.1 (T j).2.2.1 ∈ zgw) (hfin : (T j).2.2.2 = false) (hm : M a = some (.inr (ci, fs))) (hds : parseFieldDescriptor (T j).2.2.1 = some ty) (hn : narrow ty v = v) (hfit : fits ty v = true) (hlen : j < fs.length)
    (kk : zV nL B Q (pc + 3) L rest (mU M a (.inr (ci, fs.set j v))) k n) : zV nL B Q pc L (v :: .ref a :: rest) M k n := by
  obtain ⟨p, l, e, R, s, m, args, below, meth, c, D, E, A⟩ := B
  obtain ⟨⟨hx, hb, hml, hr, hown⟩, hts, hlocks, hK, hA, hnm, hR, hF, hT⟩ := ok
  intro H ls locs hl hM hz hS
  have hin' : ∀ w ∈ u_ws C T N, w ∈ zgw := hin
  have hap := va_apart (own := yn.cls) hts hin ty0 hty hnm2 hK hc
  obtain ⟨r, h1, cell, q1, q2, q3, q4⟩ := (hM a _ hm).1
  have hr9 : r = (C, T, N) := Option.some.inj (h1.symm.trans hc)
  subst hr9
  obtain ⟨hSl, hfc, kC, hkC, hkind⟩ := hK.1 ci _ hc
  obtain ⟨cf, kf, fi, f, hi, hsl⟩ := hSl j hj
  have hlay := hts _ (hin _ (u_in_lay hj))
  unfold u_lay at hlay
  rw [if_neg (by rw [hfin]; decide)] at hlay
  have hst := (u_facts hfc hkC (u_lays hts hin hj) hi).1
  have h6 := u_store hfc hkC hkind hlay hi hds hn hfit
  refine W.putK hx hb (f := f) ⟨hown, hts _ hw, ⟨_, _, _, hi⟩, hst⟩ (by rw [q2]; exact h6) q1 q3 (by rw [hsl]; exact k2_hasslot (q4 j hj)) rfl rfl hd fun H' e1 e2 e3 => ?_
  rw [hsl] at e1
  exact kk H' ls _ hl (hM.put hm ⟨_, hc, t_OB.to (V := updV (vp_V fs) j v) ⟨_, e1, q2, q3, t_set q4 hap hj v⟩ (fun i _ => vp_updV_set hlen v i)⟩ e3) (by rw [e2]; exact hz) (hS.put e2 e3 (hM a _ hm).2)
theorem z_putF {K : zK} {yn : MethodName} {cc : ByteArray} {nL : Nat} {ret : Option FieldType} {d mc ms : Nat} {B : zB} {Q : State → Prop} {pc : Nat} {L : List (Option Value)} {rest : List Value} {M : mM} {k n : Nat} {C : String} {T : u_T} {N ci ix a : Nat} {fs : List Value} {v : Value} {ty : FieldType} (ok : zOk K yn cc nL ret d mc ms B) (hd : decode cc pc = .ok (.putfield ix, 3)) (hin : ∀ w ∈ u_ws C T N, w ∈ zgw) (ty0 : Nat → FieldType) (hty : ∀ k, k < N → parseFieldDescriptor (T k).2.2.1 = some (ty0 k)) (hnm2 : ∀ a, a < N → ∀ b, b < N → a ≠ b → (T a).2.1 ≠ (T b).2.1) (hc : vwCl[ci]? = some (C, T, N)) (j : Nat) (hj : j < N) (hw : Cond.fieldLink yn.cls ix (T j).1 (T j).2.1 (T j).2.2.1 ∈ zgw) (hfin : (T j).2.2.2 = true) (hini : yn.name = "<init>") (hdecl : (T j).1 = yn.cls) (hm : M a = some (.inr (ci, fs))) (hds : parseFieldDescriptor (T j).2.2.1 = some ty) (hn : narrow ty v = v) (hfit : fits ty v = true) (hlen : j < fs.length)
    (kk : zV nL B Q (pc + 3) L rest (mU M a (.inr (ci, fs.set j v))) k n) : zV nL B Q pc L (v :: .ref a :: rest) M k n := by
  obtain ⟨p, l, e, R, s, m, args, below, meth, c, D, E, A⟩ := B
  obtain ⟨⟨hx, hb, hml, hr, hown⟩, hts, hlocks, hK, hA, hnm, hR, hF, hT⟩ := ok
  intro H ls locs hl hM hz hS
  have hin' : ∀ w ∈ u_ws C T N, w ∈ zgw := hin
  have hap := va_apart (own := yn.cls) hts hin ty0 hty hnm2 hK hc
  obtain ⟨r, h1, cell, q1, q2, q3, q4⟩ := (hM a _ hm).1
  have hr9 : r = (C, T, N) := Option.some.inj (h1.symm.trans hc)
  subst hr9
  obtain ⟨hSl, hfc, kC, hkC, hkind⟩ := hK.1 ci _ hc
  obtain ⟨cf, kf, fi, f, hi, hsl⟩ := hSl j hj
  have hlay := hts _ (hin _ (u_in_lay hj))
  unfold u_lay at hlay
  rw [if_pos hfin] at hlay
  have hst := (u_facts hfc hkC (u_lays hts hin hj) hi).1
  have hcf : m.cls = cf := by
    obtain ⟨_, _, c', _, _, _, -, -, hf', -, -, -, hown2, -⟩ := Cond.laysFinal_spec hlay
    have e1 : c' = cf := by have := hi.symm.trans hf'; simp at this; exact this.1.symm
    rw [hdecl] at hown2
    rw [← e1]; exact Option.some.inj (hown.symm.trans hown2)
  have h6 := u_fits hfc hkC hkind (Or.inr hlay) hi hds hn hfit
  refine W.putFinK hx hb hown (hts _ hw) hi hst hcf (hnm.trans hini) (by rw [q2]; exact h6) q1 q3 (by rw [hsl]; exact k2_hasslot (q4 j hj)) rfl rfl hd fun H' e1 e2 e3 => ?_
  rw [hsl] at e1
  exact kk H' ls _ hl (hM.put hm ⟨_, hc, t_OB.to (V := updV (vp_V fs) j v) ⟨_, e1, q2, q3, t_set q4 hap hj v⟩ (fun i _ => vp_updV_set hlen v i)⟩ e3) (by rw [e2]; exact hz) (hS.put e2 e3 (hM a _ hm).2)
theorem z_iaload {K : zK} {yn : MethodName} {cc : ByteArray} {nL : Nat} {ret : Option FieldType} {d mc ms : Nat} {B : zB} {Q : State → Prop} {pc : Nat} {L : List (Option Value)} {rest : List Value} {M : mM} {k n : Nat} {a N : Nat} {f : Nat → Int32} {i : Int32} (ok : zOk K yn cc nL ret d mc ms B) (hd : decode cc pc = .ok (.iaload, 1)) (hm : M a = some (.inl (0, N, .inl f))) (hin : vp_in i N)
    (kk : zV nL B Q (pc + 1) L (.int (f i.toNatClampNeg) :: rest) M k n) : zV nL B Q pc L (.int i :: .ref a :: rest) M k n := by
  obtain ⟨p, l, e, R, s, m, args, below, meth, c, D, E, A⟩ := B
  obtain ⟨⟨hx, hb, hml, hr, hown⟩, hts, hlocks, hK, hA, hnm, hR, hF, hT⟩ := ok
  intro H ls locs hl hM hz hS
  exact va_iald (D := D) (cl := vwCl) hx hb hK (hM.one hm) 0 0 rfl (mTys_at E (j := 0) rfl) hin hd (kk H ls locs hl hM hz hS)
theorem z_caload {K : zK} {yn : MethodName} {cc : ByteArray} {nL : Nat} {ret : Option FieldType} {d mc ms : Nat} {B : zB} {Q : State → Prop} {pc : Nat} {L : List (Option Value)} {rest : List Value} {M : mM} {k n : Nat} {a N : Nat} {f : Nat → Int32} {i : Int32} (ok : zOk K yn cc nL ret d mc ms B) (hd : decode cc pc = .ok (.caload, 1)) (hm : M a = some (.inl (2, N, .inl f))) (hin : vp_in i N)
    (kk : zV nL B Q (pc + 1) L (.int (f i.toNatClampNeg) :: rest) M k n) : zV nL B Q pc L (.int i :: .ref a :: rest) M k n := by
  obtain ⟨p, l, e, R, s, m, args, below, meth, c, D, E, A⟩ := B
  obtain ⟨⟨hx, hb, hml, hr, hown⟩, hts, hlocks, hK, hA, hnm, hR, hF, hT⟩ := ok
  intro H ls locs hl hM hz hS
  exact va_cald (D := D) (cl := vwCl) hx hb hK (hM.one hm) 0 2 rfl (mTys_at E (j := 2) rfl) hin hd (kk H ls locs hl hM hz hS)
theorem z_aaload {K : zK} {yn : MethodName} {cc : ByteArray} {nL : Nat} {ret : Option FieldType} {d mc ms : Nat} {B : zB} {Q : State → Prop} {pc : Nat} {L : List (Option Value)} {rest : List Value} {M : mM} {k n : Nat} {a N j : Nat} {C : String} {f : Nat → Option Nat} {i : Int32} (ok : zOk K yn cc nL ret d mc ms B) (hd : decode cc pc = .ok (.aaload, 1)) (hm : M a = some (.inl (j, N, .inr (.inr (.inr (.inr f)))))) (hj : mTy[j]? = some (.object C)) (hin : vp_in i N)
    (kk : zV nL B Q (pc + 1) L (va_rf (f i.toNatClampNeg) :: rest) M k n) : zV nL B Q pc L (.int i :: .ref a :: rest) M k n := by
  obtain ⟨p, l, e, R, s, m, args, below, meth, c, D, E, A⟩ := B
  obtain ⟨⟨hx, hb, hml, hr, hown⟩, hts, hlocks, hK, hA, hnm, hR, hF, hT⟩ := ok
  intro H ls locs hl hM hz hS
  exact va_aldq (D := D) (cl := vwCl) (C := C) hx hb hK (hM.one hm) 0 j rfl (mTys_at E hj) hin hd (kk H ls locs hl hM hz hS)
theorem z_iastore {K : zK} {yn : MethodName} {cc : ByteArray} {nL : Nat} {ret : Option FieldType} {d mc ms : Nat} {B : zB} {Q : State → Prop} {pc : Nat} {L : List (Option Value)} {rest : List Value} {M : mM} {k n : Nat} {a N : Nat} {f : Nat → Int32} {i : Int32} {x : Int32} (ok : zOk K yn cc nL ret d mc ms B) (hd : decode cc pc = .ok (.iastore, 1)) (hm : M a = some (.inl (0, N, .inl (f)))) (hin : vp_in i N)
    (kk : zV nL B Q (pc + 1) L rest (mU M a (.inl (0, N, .inl (upd f i.toNatClampNeg x)))) k n) : zV nL B Q pc L (.int x :: .int i :: .ref a :: rest) M k n := by
  obtain ⟨p, l, e, R, s, m, args, below, meth, c, D, E, A⟩ := B
  obtain ⟨⟨hx, hb, hml, hr, hown⟩, hts, hlocks, hK, hA, hnm, hR, hF, hT⟩ := ok
  intro H ls locs hl hM hz hS
  refine W.iast hx hb (hM a _ hm).1 ((hK.2 0 _ (mTys_at E (j := 0) rfl)).1 N (fun j => .int (f j))) (fun q => by cases q) (by show ¬ (i < 0 ∨ (arrV _ _ _).slots.size ≤ _); rw [arrV_size]; exact hin) rfl rfl hd fun H1 e9 z9 oq => ?_
  refine kk H1 ls _ hl (hM.put hm ?_ oq) (by rw [z9]; exact hz) (hS.put z9 oq (hM a _ hm).2)
  show H1[a]? = some (vp_cell _ _)
  rw [e9]
  show some ((vp_cell (E 0) (N, .inl (f))).setSlot _ _) = _
  rw [vp_cell_i, vp_cell_i, arrV_store]
  congr 2
  funext q
  by_cases hq : q = i.toNatClampNeg
  · subst hq
    simp [updV, upd, vp_nar, vp_updL]
    try rfl
  · simp [updV, upd, vp_updL, hq]
theorem z_castore {K : zK} {yn : MethodName} {cc : ByteArray} {nL : Nat} {ret : Option FieldType} {d mc ms : Nat} {B : zB} {Q : State → Prop} {pc : Nat} {L : List (Option Value)} {rest : List Value} {M : mM} {k n : Nat} {a N : Nat} {f : Nat → Int32} {i : Int32} {x : Int32} (ok : zOk K yn cc nL ret d mc ms B) (hd : decode cc pc = .ok (.castore, 1)) (hm : M a = some (.inl (2, N, .inl (f)))) (hin : vp_in i N)
    (kk : zV nL B Q (pc + 1) L rest (mU M a (.inl (2, N, .inl (upd f i.toNatClampNeg (vp_nar .char x))))) k n) : zV nL B Q pc L (.int x :: .int i :: .ref a :: rest) M k n := by
  obtain ⟨p, l, e, R, s, m, args, below, meth, c, D, E, A⟩ := B
  obtain ⟨⟨hx, hb, hml, hr, hown⟩, hts, hlocks, hK, hA, hnm, hR, hF, hT⟩ := ok
  intro H ls locs hl hM hz hS
  refine W.cast hx hb (hM a _ hm).1 ((hK.2 2 _ (mTys_at E (j := 2) rfl)).1 N (fun j => .int (f j))) (fun q => by cases q) (by show ¬ (i < 0 ∨ (arrV _ _ _).slots.size ≤ _); rw [arrV_size]; exact hin) rfl rfl hd fun H1 e9 z9 oq => ?_
  refine kk H1 ls _ hl (hM.put hm ?_ oq) (by rw [z9]; exact hz) (hS.put z9 oq (hM a _ hm).2)
  show H1[a]? = some (vp_cell _ _)
  rw [e9]
  show some ((vp_cell (E 2) (N, .inl (f))).setSlot _ _) = _
  rw [vp_cell_i, vp_cell_i, arrV_store]
  congr 2
  funext q
  by_cases hq : q = i.toNatClampNeg
  · subst hq
    simp [updV, upd, vp_nar, vp_updL]
    try rfl
  · simp [updV, upd, vp_updL, hq]
theorem z_aastore {K : zK} {yn : MethodName} {cc : ByteArray} {nL : Nat} {ret : Option FieldType} {d mc ms : Nat} {B : zB} {Q : State → Prop} {pc : Nat} {L : List (Option Value)} {rest : List Value} {M : mM} {k n : Nat} {a N j v ci : Nat} {f : Nat → Option Nat} {i : Int32} {r : vw_C} {vs : List Value} (ok : zOk K yn cc nL ret d mc ms B) (hd : decode cc pc = .ok (.aastore, 1)) (hm : M a = some (.inl (j, N, .inr (.inr (.inr (.inr f)))))) (hj : mTy[j]? = some (.object r.1)) (hv : M v = some (.inr (ci, vs))) (hc : vwCl[ci]? = some r) (hin : vp_in i N)
    (kk : zV nL B Q (pc + 1) L rest (mU M a (.inl (j, N, .inr (.inr (.inr (.inr (va_up f i.toNatClampNeg (some v)))))))) k n) : zV nL B Q pc L (.ref v :: .int i :: .ref a :: rest) M k n := by
  obtain ⟨p, l, e, R, s, m, args, below, meth, c, D, E, A⟩ := B
  obtain ⟨⟨hx, hb, hml, hr, hown⟩, hts, hlocks, hK, hA, hnm, hR, hF, hT⟩ := ok
  intro H ls locs hl hM hz hS
  have hlt : i.toNatClampNeg < N := Nat.not_le.mp fun q => hin (Or.inr q)
  have h0 : ¬ i < 0 := fun q => hin (Or.inl q)
  obtain ⟨r', hr', cellV, g1, g2, g3, -⟩ := (hM v _ hv).1
  have hcls := (hK.1 ci r hc).2
  obtain ⟨kA, comp, k1, k2, k3, -⟩ := (hK.2 j _ (mTys_at E hj)).2
  have hcomp : comp = D.1 ci := Option.some.inj (k3.symm.trans hcls.1)
  subst hcomp
  obtain ⟨kC, hkC, -⟩ := hcls.2
  refine W.aast hx hb (hM a _ hm).1 (fun q h => by cases h) (fun h => by cases h) k1 k2 rfl hkC ⟨h0, by show _ < (arrV _ _ _).slots.size; rw [arrV_size]; exact hlt⟩ g1 (fun q h => by rw [g3] at h; cases h) (by rw [g2]; exact hkC) (by rw [g2]; exact va_assign hcls) rfl rfl hd fun H1 e9 z9 oq => ?_
  refine kk H1 ls _ hl (hM.put hm ?_ oq) (by rw [z9]; exact hz) (hS.put z9 oq (hM a _ hm).2)
  show H1[a]? = some (vp_cell _ _)
  rw [e9]
  show some ((vp_cell (E j) (N, .inr (.inr (.inr (.inr f))))).setSlot _ _) = _
  rw [vp_cell_q, vp_cell_q, arrV_store]
  congr 2
  funext q
  by_cases hq : q = i.toNatClampNeg
  · subst hq
    simp [updV, va_up, va_rf]
  · simp [updV, va_up, hq]
theorem z_arraycopy {K : zK} {yn : MethodName} {cc : ByteArray} {nL : Nat} {ret : Option FieldType} {d mc ms : Nat} {B : zB} {Q : State → Prop} {pc : Nat} {L : List (Option Value)} {rest : List Value} {M : mM} {k n : Nat} {ix a0 a N0 N1 : Nat} {f g : Nat → Int32} {sp dp w : Int32} (ok : zOk K yn cc nL ret d mc ms B) (hd : decode cc pc = .ok (.invokestatic ix, 3)) (hw : Cond.methodLink yn.cls ix arraycopyName ∈ zgw) (hw2 : Cond.native arraycopyName ∈ zgw) (hw3 : Cond.static arraycopyName ∈ zgw) (hw4 : Cond.initialized "java/lang/System" ∈ zgw) (hm0 : M a0 = some (.inl (0, N0, .inl f))) (hm : M a = some (.inl (0, N1, .inl g)))
    (h1 : ¬ sp < 0) (h2 : ¬ dp < 0) (h3 : ¬ w < 0) (h4 : sp.toNatClampNeg + w.toNatClampNeg ≤ N0) (h5 : dp.toNatClampNeg + w.toNatClampNeg ≤ N1) (hd1 : 1 ≤ d) (hcat : (rest.map fun v => v.category).sum ≤ 8)
    (kk : zV nL B Q (pc + 3) L rest (mU M a (.inl (0, N1, .inl (va_cpy f g sp.toNatClampNeg dp.toNatClampNeg w.toNatClampNeg)))) k n) : zV nL B Q pc L (.int w :: .int dp :: .ref a :: .int sp :: .ref a0 :: rest) M k n := by
  obtain ⟨p, l, e, R, s, m, args, below, meth, c, D, E, A⟩ := B
  obtain ⟨⟨hx, hb, hml, hr, hown⟩, hts, hlocks, hK, hA, hnm, hR, hF, hT⟩ := ok
  intro H ls locs hl hM hz hS
  have nn : ∀ z : Int32, ¬ z < 0 → z.toInt = (z.toNatClampNeg : Int) := by
    intro z hz9
    have hz0 : (0 : Int) ≤ z.toInt := by
      have := Int32.not_lt.mp hz9
      simpa using Int32.le_iff_toInt_le.mp this
    show z.toInt = ((z.toInt.toNat : Nat) : Int)
    omega
  intro T9 hT9 X
  have hc0 : H[a0]? = some (vp_cell (E 0) (N0, .inl f)) := (hM a0 _ hm0).1
  have hc1 : H[a]? = some (vp_cell (E 0) (N1, .inl g)) := (hM a _ hm).1
  obtain ⟨-, k0, hk0, cm0, hkk0⟩ := (hK.2 0 _ (mTys_at E (j := 0) rfl)).1 N0 (fun j => .int (f j))
  have hlo : 40 * d ≤ R.locals := hR.2.1
  obtain ⟨vm', X', step⟩ := X.arraycopy hx hown (hts _ hw) (hts _ hw2) (hts _ hw3) (hts _ hw4) (src := a0) (dst := a) (cs := vp_cell (E 0) (N0, .inl f)) (cd := vp_cell (E 0) (N1, .inl g)) (srcPos := sp) (destPos := dp) (n := w) (by rw [hT9]; exact hc0) (by rw [hT9]; exact hc1)
    (fun _ h => by cases h) (fun _ h => by cases h) (fun h => by cases h) (fun h => by cases h) hk0 hk0 hkk0 hkk0 (by simp [refKind]) h1 h2 h3
    (by rw [nn sp h1, nn w h3]; show ¬ _ > ((arrV (E 0) N0 (fun j => .int (f j))).slots.size : Int); rw [arrV_size]; omega)
    (by rw [nn dp h2, nn w h3]; show ¬ _ > ((arrV (E 0) N1 (fun j => .int (g j))).slots.size : Int); rw [arrV_size]; omega)
    (fun vm₁ _ i hi => by
      have e : (vp_cell (E 0) (N0, .inl f)).slots.getD (sp.toNatClampNeg + i) .null = .int (f (sp.toNatClampNeg + i)) := by
        show (arrV (E 0) N0 (fun j => .int (f j))).slots.getD _ _ = _
        rw [Array.getD_eq_getD_getElem?, arrV_read _ _ (by omega)]
        rfl
      refine ⟨?_, ?_⟩
      · rw [e]
        rfl
      · rw [e]
        exact trivial)
    (g := F0 m pc ls (.int w :: .int dp :: .ref a :: .int sp :: .ref a0 :: rest)) rfl (by rw [hml]; exact hl.1) (rest := rest) rfl (by rw [hb]; exact hd) (Nat.le_trans hd1 hR.1) (by
      show 2 * 0 + _ + _ ≤ _
      have e9 : nativeFrameWords "java/lang/System" "arraycopy" 5 + 11 ≤ 32 := by decide +kernel
      omega)
  have e1 : copied (vp_cell (E 0) (N0, .inl f)) (vp_cell (E 0) (N1, .inl g)) sp dp w = vp_cell (E 0) (N1, .inl (va_cpy f g sp.toNatClampNeg dp.toNatClampNeg w.toNatClampNeg)) := va_copied (fun z => .int z) (E 0) (E 0) f g h4
  rw [e1] at X' step
  have hl9 : a < H.size := (Array.getElem?_eq_some_iff.mp hc1).1
  have hheap : ((T9.setVm vm').setCell a (vp_cell (E 0) (N1, .inl (va_cpy f g sp.toNatClampNeg dp.toNatClampNeg w.toNatClampNeg)))).heap = H.setIfInBounds a (vp_cell (E 0) (N1, .inl (va_cpy f g sp.toNatClampNeg dp.toNatClampNeg w.toNatClampNeg))) := by rw [← hT9]; rfl
  have oq : ∀ q : Nat, q ≠ a → (H.setIfInBounds a (vp_cell (E 0) (N1, .inl (va_cpy f g sp.toNatClampNeg dp.toNatClampNeg w.toNatClampNeg))))[q]? = H[q]? := fun q hq => by simp [Array.getElem?_setIfInBounds, Ne.symm hq]
  obtain ⟨t, a1, b1⟩ := kk _ ls _ hl (hM.put hm (show (H.setIfInBounds a _)[a]? = some _ by simp [Array.getElem?_setIfInBounds, hl9]) oq) (by simp; exact hz) ⟨by simp; exact hS.1, fun q g1 g2 => by
      rw [oq q (fun e => g2 (by rw [e]; exact (hM a _ hm).2))]
      exact hS.2.1 q g1 g2, fun q hq => by
      rcases List.mem_append.mp hq with h | h
      · exact hS.2.2 q h
      · obtain ⟨z, -, hz9⟩ := List.mem_map.mp h
        rw [← hz9]
        exact (hM a _ hm).2⟩ _ hheap X'
  exact ⟨t, step t a1, b1⟩
theorem z_new {K : zK} {yn : MethodName} {cc : ByteArray} {nL : Nat} {ret : Option FieldType} {d mc ms : Nat} {B : zB} {Q : State → Prop} {pc : Nat} {L : List (Option Value)} {rest : List Value} {M : mM} {k n : Nat} {C : String} {T : u_T} {N ci ix : Nat} {fs : List Value} (ok : zOk K yn cc nL ret d mc ms B) (hd : decode cc pc = .ok (.new ix, 3)) (hin : ∀ w ∈ u_ws C T N, w ∈ zgw) (ty : Nat → FieldType) (hty : ∀ k, k < N → parseFieldDescriptor (T k).2.2.1 = some (ty k)) (hc : vwCl[ci]? = some (C, T, N)) (hw : Cond.classLink yn.cls ix C ∈ zgw) (hw2 : Cond.instantiable C N ∈ zgw) (hw3 : Cond.initialized C ∈ zgw) (hfs : ∀ j, j < N → defaultValue (ty j) = vp_V fs j) (hk : k + 1 ≤ mc) (hn : n + N ≤ ms) {a : Nat} (ha : zSz B + k = a)
    (kk : zV nL B Q (pc + 3) L (.ref a :: rest) (mU M a (.inr (ci, fs))) (k + 1) (n + N)) : zV nL B Q pc L rest M k n := by
  subst ha
  obtain ⟨p, l, e, R, s, m, args, below, meth, c, D, E, A⟩ := B
  obtain ⟨⟨hx, hb, hml, hr, hown⟩, hts, hlocks, hK, hA, hnm, hR, hF, hT⟩ := ok
  intro H ls locs hl hM hz hS
  have hKn := hK.1 ci _ hc
  refine W.newcK hx hb hown (hts _ hw) (hts _ hw2) (hts _ hw3) rfl hd (Nat.le_trans hk hR.2.2.1) (Nat.le_trans hn hR.2.2.2) hKn.2.1 hz fun H1 kC hkC e1 z1 o1 => ?_
  have hq : ∀ q, q < H.size → H1[q]? = H[q]? := fun q h => o1 q (by rw [← hz]; exact h)
  exact kk H1 ls locs hl (hM.push ⟨_, hc, (u_born ty hts hin hKn hkC e1 hty).to hfs⟩ (hA _ (Nat.le_add_right _ _)) hq) (by rw [z1]; omega) ⟨Nat.le_trans hS.1 (by omega), fun x h1 h2 => (hq x (Nat.lt_of_lt_of_le h1 hS.1)).trans (hS.2.1 x h1 h2), hS.2.2⟩
theorem z_newI {K : zK} {yn : MethodName} {cc : ByteArray} {nL : Nat} {ret : Option FieldType} {d mc ms : Nat} {B : zB} {Q : State → Prop} {pc : Nat} {L : List (Option Value)} {rest : List Value} {M : mM} {k n : Nat} {x : Int32} {N : Nat} (ok : zOk K yn cc nL ret d mc ms B) (hd : decode cc pc = .ok (.newarray .int, 2)) (hw : Cond.arrayClass .int ∈ zgw) (hx0 : ¬ x < 0) (hxN : x.toNatClampNeg = N) (hby : N * componentBytes .int ≤ 536870912) (hk : k + 1 ≤ mc) (hn : n + N ≤ ms) {a : Nat} (ha : zSz B + k = a)
    (kk : zV nL B Q (pc + 2) L (.ref a :: rest) (mU M a (.inl (0, N, .inl (fun _ => 0)))) (k + 1) (n + N)) : zV nL B Q pc L (.int x :: rest) M k n := by
  subst ha
  obtain ⟨p, l, e, R, s, m, args, below, meth, c, D, E, A⟩ := B
  obtain ⟨⟨hx, hb, hml, hr, hown⟩, hts, hlocks, hK, hA, hnm, hR, hF, hT⟩ := ok
  intro H ls locs hl hM hz hS
  refine va_newaK (atype := .int) hx hb (hts _ hw) rfl hd rfl hx0 hxN hby (Nat.le_trans hk hR.2.2.1) (Nat.le_trans hn hR.2.2.2) hz fun H1 cA e1 z1 o1 hAr hNm => ?_
  have hq : ∀ q, q < H.size → H1[q]? = H[q]? := fun q h => o1 q (by rw [← hz]; exact h)
  have hcA : E 0 = cA := Option.some.inj ((hK.2 0 _ (mTys_at E (j := 0) rfl)).2.symm.trans hNm)
  subst hcA
  exact kk H1 ls locs hl (hM.push (show H1[_]? = some (vp_cell _ _) by rw [vp_cell_i]; exact e1) (hA _ (Nat.le_add_right _ _)) hq) (by rw [z1]; omega) ⟨Nat.le_trans hS.1 (by omega), fun x h1 h2 => (hq x (Nat.lt_of_lt_of_le h1 hS.1)).trans (hS.2.1 x h1 h2), hS.2.2⟩
theorem z_newC {K : zK} {yn : MethodName} {cc : ByteArray} {nL : Nat} {ret : Option FieldType} {d mc ms : Nat} {B : zB} {Q : State → Prop} {pc : Nat} {L : List (Option Value)} {rest : List Value} {M : mM} {k n : Nat} {x : Int32} {N : Nat} (ok : zOk K yn cc nL ret d mc ms B) (hd : decode cc pc = .ok (.newarray .char, 2)) (hw : Cond.arrayClass .char ∈ zgw) (hx0 : ¬ x < 0) (hxN : x.toNatClampNeg = N) (hby : N * componentBytes .char ≤ 536870912) (hk : k + 1 ≤ mc) (hn : n + N ≤ ms) {a : Nat} (ha : zSz B + k = a)
    (kk : zV nL B Q (pc + 2) L (.ref a :: rest) (mU M a (.inl (2, N, .inl (fun _ => 0)))) (k + 1) (n + N)) : zV nL B Q pc L (.int x :: rest) M k n := by
  subst ha
  obtain ⟨p, l, e, R, s, m, args, below, meth, c, D, E, A⟩ := B
  obtain ⟨⟨hx, hb, hml, hr, hown⟩, hts, hlocks, hK, hA, hnm, hR, hF, hT⟩ := ok
  intro H ls locs hl hM hz hS
  refine va_newaK (atype := .char) hx hb (hts _ hw) rfl hd rfl hx0 hxN hby (Nat.le_trans hk hR.2.2.1) (Nat.le_trans hn hR.2.2.2) hz fun H1 cA e1 z1 o1 hAr hNm => ?_
  have hq : ∀ q, q < H.size → H1[q]? = H[q]? := fun q h => o1 q (by rw [← hz]; exact h)
  have hcA : E 2 = cA := Option.some.inj ((hK.2 2 _ (mTys_at E (j := 2) rfl)).2.symm.trans hNm)
  subst hcA
  exact kk H1 ls locs hl (hM.push (show H1[_]? = some (vp_cell _ _) by rw [vp_cell_i]; exact e1) (hA _ (Nat.le_add_right _ _)) hq) (by rw [z1]; omega) ⟨Nat.le_trans hS.1 (by omega), fun x h1 h2 => (hq x (Nat.lt_of_lt_of_le h1 hS.1)).trans (hS.2.1 x h1 h2), hS.2.2⟩
theorem z_newR {K : zK} {yn : MethodName} {cc : ByteArray} {nL : Nat} {ret : Option FieldType} {d mc ms : Nat} {B : zB} {Q : State → Prop} {pc : Nat} {L : List (Option Value)} {rest : List Value} {M : mM} {k n : Nat} {x : Int32} {N j ix : Nat} {C : String} (ok : zOk K yn cc nL ret d mc ms B) (hd : decode cc pc = .ok (.anewarray ix, 3)) (hw : Cond.classLink yn.cls ix C ∈ zgw) (hAO : ∀ s : State, zFx s → va_AO C s) (hj : mTy[j]? = some (.object C)) (hx0 : ¬ x < 0) (hxN : x.toNatClampNeg = N) (hby : N * 4 ≤ 536870912) (hk : k + 1 ≤ mc) (hn : n + N ≤ ms) {a : Nat} (ha : zSz B + k = a)
    (kk : zV nL B Q (pc + 3) L (.ref a :: rest) (mU M a (.inl (j, N, .inr (.inr (.inr (.inr (fun _ => none))))))) (k + 1) (n + N)) : zV nL B Q pc L (.int x :: rest) M k n := by
  subst ha
  subst hxN
  obtain ⟨p, l, e, R, s, m, args, below, meth, c, D, E, A⟩ := B
  obtain ⟨⟨hx, hb, hml, hr, hown⟩, hts, hlocks, hK, hA, hnm, hR, hF, hT⟩ := ok
  intro H ls locs hl hM hz hS
  refine W.anew hx hb hown (hts _ hw) (va_AO.use (hAO s hF)) rfl hd rfl hx0 hby (Nat.le_trans hk hR.2.2.1) (Nat.le_trans hn hR.2.2.2) fun cA kA comp f1 f2 f3 f4 => ?_
  generalize hH1 : H.push ({ cls := cA, slots := Array.replicate x.toNatClampNeg .null, vm := .none } : Cell) = H1
  have z1 : H1.size = H.size + 1 := by rw [← hH1, Array.size_push]
  have e1 : H1[H.size]? = some (arrV cA x.toNatClampNeg (fun _ => .null)) := by rw [← hH1, Array.getElem?_push_size, ← arrV_new]
  have hq : ∀ q : Nat, q < H.size → H1[q]? = H[q]? := fun q hq => by rw [← hH1, Array.getElem?_push, if_neg (Nat.ne_of_lt hq)]
  obtain ⟨kA2, comp2, g1, g2, g3, g4⟩ := (hK.2 j _ (mTys_at E hj)).2
  have hcA : E j = cA := Option.some.inj (g4.symm.trans f1)
  subst hcA
  have hz9 : H.size = zSz (p, l, e, R, s, m, args, below, meth, c, D, E, A) + k := hz
  rw [hz9] at e1
  show W p l e R s m args below meth c H1 locs (k + 1) (n + x.toNatClampNeg) Q (F0 m (pc + 3) ls (.ref H.size :: rest))
  rw [hz9]
  exact kk H1 ls locs hl (hM.push (show H1[_]? = some (vp_cell _ _) by rw [vp_cell_q]; exact e1) (hA _ (Nat.le_add_right _ _)) hq) (by rw [z1, hz]; omega) ⟨Nat.le_trans hS.1 (by omega), fun x h1 h2 => (hq x (Nat.lt_of_lt_of_le h1 hS.1)).trans (hS.2.1 x h1 h2), hS.2.2⟩

