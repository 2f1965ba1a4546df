/-! THE CLAIM OUT OF ONE WALK OF THE LAW'S BODY. Your part is whole_start (and what it stands on); all else here is the same for every law, but numbers. -/
def R_law : String := "FreightSplitsLaw"
def lw_P (b : Addr) (xs : List Int32) (args : Array Value) (s : State) : Prop := args = #[.ref b] ∧ s.IntsAt b xs ∧ xs.length ≤ 260 ∧ (Jvm.Cond.and given_1 narrow_1).before args s = true
def lw_Q (_ : Array Value) (s : State) (o : Outcome) (t : State) : Prop := o = .returned (some (.int 1)) ∧ Framed s o t [] 600000 7302250
def lw_Z (below : List Frame) (a : Array Value) (s : State) : State → Prop := fun t => ∃ o, t.status = .running ∧ Ended t below o ∧ lw_Q a s o t
/-- the law's own end, with 1 on the stack, nothing written that was there before, its room as the claim has it -/
theorem lw_ret {p : Program} {l : Launch} {e : Env} {s : State} {m : MethodId} {below : List Frame} {meth : Method} {c : Code} {b : Nat} (hx : p.tables.exec = Jvm.exec) (hb : c.code = code) (hr : meth.sig.returnType = ret) (hlocks : meth.locks = false) {pc : Nat} {H : Heap} {ls : Array Slot} (hdg : decode code pc = .ok (.ireturn, 1)) : W p l e room_1 s m #[Value.ref b] below meth c H [] 600000 7302250 (lw_Z below #[Value.ref b] s) (F0 m pc ls [.int 1]) := by
  intro T hT X
  obtain ⟨fs, hret, hrun, hended, hW, hframe⟩ := X.leave (v := some (.int 1)) (hlocks := hlocks) (fun h => by rw [hr] at h; cases h)
  have hmeth' : T.vm.method? m = some meth := X.method'
  refine ⟨T.setFrames fs, ?_, .returned (some (.int 1)), hrun, hended, rfl, ⟨_, rfl⟩, hW, hframe⟩
  jvm_step X.here [X.here.top, hx, hb, hdg, hmeth', hr, ret, narrow_b1]
  (try refine ⟨rfl, ?_⟩); (try refine ⟨rfl, ?_⟩)
  first | (intro acts; rw [hret _ acts rfl rfl rfl]) | rw [hret _ _ rfl rfl rfl]
  exact Steps.refl _
/-- what holds at the law's entry: the machine, the code, the tables' words (any of lw_tbl by 'hts w (by decide +kernel)'), the script of L ints xs at the cell b, what the Statement gives of the start (any of its parts by flat_of_before) -/
def lw_At (p : Program) (s : State) (m : MethodId) (meth : Method) (c : Code) (b L : Nat) (xs : Nat → Int32) : Prop :=
  p.tables.exec = Jvm.exec ∧ c.code = code ∧ meth.sig.returnType = ret ∧ c.maxLocals = 11 ∧ s.vm.findClass R_law = some m.cls ∧ (∀ w ∈ lw_tbl, w.before #[Value.ref b] s = true) ∧ va_X b L xs s s.heap ∧ b < s.heap.size ∧ meth.locks = false ∧ (Jvm.Cond.and given_1 narrow_1).before #[Value.ref b] s = true
set_option maxRecDepth 20000 in
set_option maxHeartbeats 4000000 in
theorem lL_env {s : State} {b : Nat} (hts : ∀ w ∈ lw_tbl, w.before #[Value.ref b] s = true) : ∃ (D : va_G) (E : Nat → ClassId), va_K D vwCl (mTys E) s ∧ zFx s := by
 have hzω := fun (wω : Cond) (hwω : wω ∈ zgw) => hts wω (List.mem_filter.mp hwω).1
 obtain ⟨cC0ω, iS0ω, hk0ω⟩ := u_known hzω zin_X0 (hzω _ zw_34)
 obtain ⟨cC1ω, iS1ω, hk1ω⟩ := u_known hzω zin_X1 (hzω _ zw_23)
 obtain ⟨cC2ω, iS2ω, hk2ω⟩ := u_known hzω zin_X2 (hzω _ zw_234)
 obtain ⟨cC3ω, iS3ω, hk3ω⟩ := u_known hzω zin_X3 (hzω _ zw_155)
 obtain ⟨cC4ω, iS4ω, hk4ω⟩ := u_known hzω zin_X4 (hzω _ zw_254)
 obtain ⟨cC5ω, iS5ω, hk5ω⟩ := u_known hzω zin_X5 (hzω _ zw_105)
 obtain ⟨cC6ω, iS6ω, hk6ω⟩ := u_known hzω zin_X6 (hzω _ zw_15)
 obtain ⟨eA0ω, kA0ω, cm0ω, ha0ω, hb0ω, hc0ω⟩ := Cond.arrayClass_spec (hzω _ zw_104)
 obtain ⟨eA1ω, kA1ω, cm1ω, ha1ω, hb1ω, hc1ω⟩ := Cond.arrayClass_spec (hzω _ zw_104)
 obtain ⟨eA2ω, kA2ω, cm2ω, ha2ω, hb2ω, hc2ω⟩ := Cond.arrayClass_spec (hzω _ zw_273)
 have ao3ω : (Cond.arrayOver (.object RX0)).before #[Value.ref b] s = true := (hts _ (List.mem_of_getElem? (i := 29) (by decide +kernel)))
 obtain ⟨cm3ω, eA3ω, kA3ω, ha3ω, hb3ω, hc3ω, hd3ω, he3ω⟩ := Cond.arrayOver_spec ao3ω
 have ao4ω : (Cond.arrayOver (.object RX5)).before #[Value.ref b] s = true := (hts _ (List.mem_of_getElem? (i := 31) (by decide +kernel)))
 obtain ⟨cm4ω, eA4ω, kA4ω, ha4ω, hb4ω, hc4ω, hd4ω, he4ω⟩ := Cond.arrayOver_spec ao4ω
 have ao5ω : (Cond.arrayOver (.object RX3)).before #[Value.ref b] s = true := (hts _ (List.mem_of_getElem? (i := 33) (by decide +kernel)))
 obtain ⟨cm5ω, eA5ω, kA5ω, ha5ω, hb5ω, hc5ω, hd5ω, he5ω⟩ := Cond.arrayOver_spec ao5ω
 have ao6ω : (Cond.arrayOver (.object RX1)).before #[Value.ref b] s = true := (hts _ (List.mem_of_getElem? (i := 240) (by decide +kernel)))
 obtain ⟨cm6ω, eA6ω, kA6ω, ha6ω, hb6ω, hc6ω, hd6ω, he6ω⟩ := Cond.arrayOver_spec ao6ω
 refine ⟨(fun kω => match kω with | 0 => cC0ω | 1 => cC1ω | 2 => cC2ω | 3 => cC3ω | 4 => cC4ω | 5 => cC5ω | _ => cC6ω, fun kω => match kω with | 0 => iS0ω | 1 => iS1ω | 2 => iS2ω | 3 => iS3ω | 4 => iS4ω | 5 => iS5ω | _ => iS6ω), fun kω => match kω with | 0 => eA0ω | 1 => eA1ω | 2 => eA2ω | 3 => eA3ω | 4 => eA4ω | 5 => eA5ω | _ => eA6ω, ⟨fun cω qω h9ω => ?_, fun kω qω h9ω => ?_⟩, ⟨va_AO.of ao3ω, va_AO.of ao4ω, va_AO.of ao5ω, va_AO.of ao6ω, va_Nw.of rfl (hts _ (List.mem_of_getElem? (i := 156) (by decide +kernel))), va_Nw.of rfl (hts _ (List.mem_of_getElem? (i := 255) (by decide +kernel))), va_Nw.of rfl (hts _ (List.mem_of_getElem? (i := 405) (by decide +kernel))), va_Nw.of rfl (hts _ (List.mem_of_getElem? (i := 405) (by decide +kernel)))⟩⟩
 · match cω, h9ω with
   | 0, h9ω => cases h9ω; exact hk0ω
   | 1, h9ω => cases h9ω; exact hk1ω
   | 2, h9ω => cases h9ω; exact hk2ω
   | 3, h9ω => cases h9ω; exact hk3ω
   | 4, h9ω => cases h9ω; exact hk4ω
   | 5, h9ω => cases h9ω; exact hk5ω
   | 6, h9ω => cases h9ω; exact hk6ω
   | cω + 7, h9ω => simp at h9ω
 · match kω, h9ω with
   | 0, h9ω => cases h9ω; exact ⟨fun nω zω => ⟨fun kω hω => (by cases hω), kA0ω, hb0ω, cm0ω, hc0ω⟩, ha0ω⟩
   | 1, h9ω => cases h9ω; exact ⟨fun nω zω => ⟨fun kω hω => (by cases hω), kA1ω, hb1ω, cm1ω, hc1ω⟩, ha1ω⟩
   | 2, h9ω => cases h9ω; exact ⟨fun nω zω => ⟨fun kω hω => (by cases hω), kA2ω, hb2ω, cm2ω, hc2ω⟩, ha2ω⟩
   | 3, h9ω => cases h9ω; exact ⟨fun nω zω => ⟨fun kω hω => (by cases hω), kA3ω, hc3ω, cm3ω, hd3ω⟩, kA3ω, cm3ω, hc3ω, hd3ω, ha3ω, he3ω⟩
   | 4, h9ω => cases h9ω; exact ⟨fun nω zω => ⟨fun kω hω => (by cases hω), kA4ω, hc4ω, cm4ω, hd4ω⟩, kA4ω, cm4ω, hc4ω, hd4ω, ha4ω, he4ω⟩
   | 5, h9ω => cases h9ω; exact ⟨fun nω zω => ⟨fun kω hω => (by cases hω), kA5ω, hc5ω, cm5ω, hd5ω⟩, kA5ω, cm5ω, hc5ω, hd5ω, ha5ω, he5ω⟩
   | 6, h9ω => cases h9ω; exact ⟨fun nω zω => ⟨fun kω hω => (by cases hω), kA6ω, hc6ω, cm6ω, hd6ω⟩, kA6ω, cm6ω, hc6ω, hd6ω, ha6ω, he6ω⟩
   | kω + 7, h9ω => simp [mTys] at h9ω
theorem z_ixor {K : zK} {yn : MethodName} {cc : ByteArray} {nL : Nat} {ret : Option FieldType} {d mc ms : Nat} {B : zB} {Q : State → Prop} {pc : Nat} {L : List (Option Value)} {rest : List Value} {M : mM} {k n : Nat} {x y : Int32} (ok : zOk K yn cc nL ret d mc ms B) (hd : decode cc pc = .ok (.ixor, 1))
    (kk : zV nL B Q (pc + 1) L (.int (x ^^^ y) :: rest) M k n) : zV nL B Q pc L (.int y :: .int x :: rest) M k n := by
  obtain ⟨pω, lω, eω, Rω, sω, mω, argsω, belowω, methω, cω, Dω, Eω, Aω⟩ := B
  obtain ⟨⟨hxω, hbω, hmlω, hrω, hownω⟩, htsω, hlocksω, hK, hAω, hnmω, hRω, hFω, hTω⟩ := ok
  intro Hω lsω locsω hlω hMω hzω hSω
  exact lv_ixor hxω hbω hd (kk Hω lsω locsω hlω hMω hzω hSω)
def s00 : Nat → Int32 := zM0.1 1
theorem zX_0 : zX s00 0 0 := ⟨fun _ hω => absurd hω (Nat.not_lt_zero _), by decide, fun _ hω => absurd hω (Nat.not_lt_zero _), fun _ hω => absurd hω (Nat.not_lt_zero _)⟩
theorem cnt_13 {s : Nat → Int32} {n : Nat} {p t : Int32} : spCount s n p t 13 = -1000001 := (if_neg (by decide)).trans (if_neg (by decide))
theorem cnt_23 {s : Nat → Int32} {n : Nat} {p t : Int32} : spCount s n p t 23 = -1000001 := (if_neg (by decide)).trans (if_neg (by decide))
theorem oof_m {s : Nat → Int32} {w : Int32} : spOof s (-1) w = -1000001 := if_neg (fun zω => zω.1 (by decide))
theorem oof_5 {s : Nat → Int32} {i : Int32} : spOof s i 5 = -1000001 := if_neg (fun zω => absurd zω.2 (by decide))
theorem lR_0 {M : mM} {m : Nat} (h : lR M m (upd (upd (upd (fun _ => 0) 0 3) 1 8) 2 1) (fun _ => 0) (fun _ => 0) (fun _ => 0) (fun _ => 0) (fun _ => 0)) : lP M m s00 0 0 0 := h.lP (by omega) (by omega) (by omega) ⟨fun _ _ => rfl, fun jω hjω => absurd hjω (by omega), fun jω hjω => absurd hjω (by omega), fun jω hjω => absurd hjω (by omega), fun jω hjω => absurd hjω (by omega), fun jω hjω => absurd hjω (by omega)⟩
set_option maxRecDepth 20000 in
set_option maxHeartbeats 1000000 in
theorem lw_tail {B : zB} {Q : State → Prop} {K : zK} {nm : String} {c : Nat} (ok : zOk K (⟨"FreightSplitsLaw", nm, "([I)Z"⟩ : MethodName) cL_law 11 ret 9 600000 7302250 B) (fin : ∀ (L2 : List (Option Value)) (M2 : mM), zV 11 B Q 286 L2 [.int 1] M2 257 2764) {M : mM} {s : Nat → Int32} {n nv no τ : Nat} (hS : lS M c s n nv no) (hτ : s 5 = nI τ) (hτ2 : τ ≤ 150) : zV 11 B Q 139 [some (.ref (K.1 0)), some (.ref c), some (.ref (c + 251)), some (.ref (c + 251 + 1)), some (.ref (c + 251 + 2)), some (.ref (c + 251 + 3)), some (.ref (c + 251 + 4)), some (.ref (c + 251 + 5)), some (.int 1), some (.int (nI 5)), none] [] M 257 2764 := by
  refine z_bipush (v := 12) ok dL_law_139 (by decide) ?_
  refine z_aload_n ok dL_law_141 rfl ?_
  refine z_iconst (v := 0) ok dL_law_142 (by decide) ?_
  refine z_callSi ok dL_law_143 zm_L_cell zw_320 zw_321 (ct_L_cell (j := 0) (by omega)) rfl rfl (by decide) (by decide) (by decide) (Nat.le_of_ble_eq_true rfl) (fun xz1 Mz2 qz3 => ?_)
  obtain rfl := qz3.symm
  refine z_bipush (v := 48) ok dL_law_146 (by decide) ?_
  refine z_callSi ok dL_law_148 zm_L_low zw_324 zw_325 (ct_L_low (W := 48) (by omega) (by omega)) rfl rfl (by decide) (by decide) (by decide) (Nat.le_of_ble_eq_true rfl) (fun xz4 Mz5 qz6 => ?_)
  obtain ⟨⟨Y, hY, rfl⟩, hMe⟩ := qz6
  obtain rfl := hMe.symm
  refine z_iadd ok dL_law_151 ?_
  refine zV_eqi (yadd (a := 12) rfl) ?_
  refine z_istore ok dL_law_152 (by decide) rfl ?_
  refine z_iconst (v := 0) ok dL_law_154 (by decide) ?_
  refine z_istore ok dL_law_155 (by decide) rfl ?_
  have loop157 : ∀ (t6 i6 : Nat) (s : Nat → Int32) (n nv no τ : Nat) (M : mM), 12 + Y < i6 + t6 → i6 ≤ 12 + Y → lS M c s n nv no → s 5 = nI τ → τ ≤ 150 + 30 * i6 → zV 11 B Q 157 [some (.ref (K.1 0)), some (.ref c), some (.ref (c + 251)), some (.ref (c + 251 + 1)), some (.ref (c + 251 + 2)), some (.ref (c + 251 + 3)), some (.ref (c + 251 + 4)), some (.ref (c + 251 + 5)), some (.int 1), some (.int (nI (12 + Y))), some (.int (nI i6))] [] M 257 2764 := by
    intro t6
    induction t6 with
    | zero => intro i6 s n nv no τ M h16 h26; exact absurd h16 (by omega)
    | succ t6 ih6 =>
      intro i6 s n nv no τ M h16 h26 hS hτ hτ2
      refine z_iload ok dL_law_157 rfl ?_
      refine z_iload ok dL_law_159 rfl ?_
      refine z_icmp_ge (tgt := 232) ok dL_law_161 (by decide) (fun cz161 => ?_) (fun cz161 => ?_)
      · refine z_iload ok dL_law_232 rfl ?_
        have ho := hS.1
        have hN := hS.2.2.1.N
        obtain ⟨fs, hs⟩ := ho.self
        refine z_if_eq (tgt := 285) ok dL_law_234 (by decide) (fun q9 => absurd q9 (by decide)) (fun _ => ?_)
        refine z_aload_n ok dL_law_237 rfl ?_
        refine z_bipush (v := 13) ok dL_law_238 (by decide) ?_
        refine z_callVi ok dL_law_240 zm_X6_count zw_300 zi_X6_count hs rfl (ho.to_count hN) rfl rfl (by decide) (by decide) (by decide) (Nat.le_of_ble_eq_true rfl) (fun xz7 Mz8 qz9 => ?_)
        obtain ⟨⟨p9, rfl⟩, hMe⟩ := qz9
        obtain rfl := hMe.symm
        refine zV_eqi cnt_13 ?_
        refine z_ldc ok dL_law_243 zw_409 ?_
        refine z_icmp_ne (tgt := 285) ok dL_law_245 (by decide) (fun q9 => absurd rfl q9) (fun _ => ?_)
        refine z_aload_n ok dL_law_248 rfl ?_
        refine z_bipush (v := 23) ok dL_law_249 (by decide) ?_
        refine z_callVi ok dL_law_251 zm_X6_count zw_300 zi_X6_count hs rfl (ho.to_count hN) rfl rfl (by decide) (by decide) (by decide) (Nat.le_of_ble_eq_true rfl) (fun xz10 Mz11 qz12 => ?_)
        obtain ⟨⟨p9, rfl⟩, hMe⟩ := qz12
        obtain rfl := hMe.symm
        refine zV_eqi cnt_23 ?_
        refine z_ldc ok dL_law_254 zw_409 ?_
        refine z_icmp_ne (tgt := 285) ok dL_law_256 (by decide) (fun q9 => absurd rfl q9) (fun _ => ?_)
        refine z_aload_n ok dL_law_259 rfl ?_
        refine z_iconst (v := -1) ok dL_law_260 (by decide) ?_
        refine z_iconst (v := 0) ok dL_law_261 (by decide) ?_
        refine z_callVi ok dL_law_262 zm_X6_offerOf zw_291 zi_X6_offerOf hs rfl (ho.to_offerOf hN) rfl rfl (by decide) (by decide) (by decide) (Nat.le_of_ble_eq_true rfl) (fun xz13 Mz14 qz15 => ?_)
        obtain ⟨rfl, hMe⟩ := qz15
        obtain rfl := hMe.symm
        refine zV_eqi oof_m ?_
        refine z_ldc ok dL_law_265 zw_409 ?_
        refine z_icmp_ne (tgt := 285) ok dL_law_267 (by decide) (fun q9 => absurd rfl q9) (fun _ => ?_)
        refine z_aload_n ok dL_law_270 rfl ?_
        refine z_iconst (v := 0) ok dL_law_271 (by decide) ?_
        refine z_iconst (v := 5) ok dL_law_272 (by decide) ?_
        refine z_callVi ok dL_law_273 zm_X6_offerOf zw_291 zi_X6_offerOf hs rfl (ho.to_offerOf hN) rfl rfl (by decide) (by decide) (by decide) (Nat.le_of_ble_eq_true rfl) (fun xz16 Mz17 qz18 => ?_)
        obtain ⟨rfl, hMe⟩ := qz18
        obtain rfl := hMe.symm
        refine zV_eqi oof_5 ?_
        refine z_ldc ok dL_law_276 zw_409 ?_
        refine z_icmp_ne (tgt := 285) ok dL_law_278 (by decide) (fun q9 => absurd rfl q9) (fun _ => ?_)
        refine z_iconst (v := 1) ok dL_law_281 (by decide) ?_
        refine z_goto (tgt := 286) ok dL_law_282 (by decide) ?_
        exact fin _ _
      · have hi6 : i6 < 12 + Y := by have := mt (nI_leI (a := 12 + Y) (b := i6) (by omega) (by omega)).mpr cz161; omega
        refine z_iload ok dL_law_164 rfl ?_
        refine z_if_eq (tgt := 232) ok dL_law_166 (by decide) (fun q9 => absurd q9 (by decide)) (fun _ => ?_)
        refine z_aload_n ok dL_law_169 rfl ?_
        refine z_aload_n ok dL_law_170 rfl ?_
        refine z_aload_n ok dL_law_171 rfl ?_
        refine z_aload ok dL_law_172 rfl ?_
        refine z_aload ok dL_law_174 rfl ?_
        refine z_aload ok dL_law_176 rfl ?_
        refine z_aload ok dL_law_178 rfl ?_
        refine z_aload_n ok dL_law_180 rfl ?_
        refine z_bipush (v := 6) ok dL_law_181 (by decide) ?_
        refine z_iload ok dL_law_183 rfl ?_
        refine z_iadd ok dL_law_185 ?_
        refine zV_eqi (yadd (a := 6) rfl) ?_
        refine z_callSi ok dL_law_186 zm_L_cell zw_320 zw_321 (ct_L_cell (j := 6 + i6) (by omega)) rfl rfl (by decide) (by decide) (by decide) (Nat.le_of_ble_eq_true rfl) (fun xz19 Mz20 qz21 => ?_)
        obtain rfl := qz21.symm
        refine z_sipush (v := 7919) ok dL_law_189 (by decide) ?_
        refine z_iload ok dL_law_192 rfl ?_
        refine z_imul ok dL_law_194 ?_
        refine z_ixor ok dL_law_195 ?_
        refine z_callSi ok dL_law_196 zm_L_acts zw_328 zw_329 (ct_L_acts hS hτ (by omega)) rfl rfl (by decide) (by decide) (by decide) (Nat.le_of_ble_eq_true rfl) (fun xz22 Mz23 qz24 => ?_)
        obtain ⟨rfl, s9, n9, nv9, no9, τ9, hS9, hτ9, hle9, hfz9⟩ := qz24
        refine z_if_eq (tgt := 223) ok dL_law_199 (by decide) (fun q9 => absurd q9 (by decide)) (fun _ => ?_)
        refine z_aload_n ok dL_law_202 rfl ?_
        refine z_aload_n ok dL_law_203 rfl ?_
        refine z_aload_n ok dL_law_204 rfl ?_
        refine z_aload ok dL_law_205 rfl ?_
        refine z_aload ok dL_law_207 rfl ?_
        refine z_aload ok dL_law_209 rfl ?_
        refine z_aload ok dL_law_211 rfl ?_
        refine z_callSi ok dL_law_213 zm_L_isSo zw_589 zw_590 (ct_L_isSo hS9) rfl rfl (by decide) (by decide) (by decide) (Nat.le_of_ble_eq_true rfl) (fun xz25 Mz26 qz27 => ?_)
        obtain ⟨rfl, hMe⟩ := qz27
        obtain rfl := hMe.symm
        refine z_if_eq (tgt := 223) ok dL_law_216 (by decide) (fun q9 => absurd q9 (by decide)) (fun _ => ?_)
        refine z_iconst (v := 1) ok dL_law_219 (by decide) ?_
        refine z_goto (tgt := 224) ok dL_law_220 (by decide) ?_
        refine z_istore ok dL_law_224 (by decide) rfl ?_
        refine z_iinc ok dL_law_226 rfl (zinc2 _) (by decide) rfl ?_
        refine z_goto (tgt := 157) ok dL_law_229 (by decide) ?_
        exact ih6 (i6 + 1) s9 n9 nv9 no9 τ9 _ (by omega) (by omega) hS9 hτ9 (by omega)
  exact loop157 (12 + Y + 1) 0 s n nv no τ _ (by omega) (by omega) hS hτ (by omega)
set_option maxRecDepth 20000 in
set_option maxHeartbeats 1000000 in
theorem lw_head {B : zB} {Q : State → Prop} {K : zK} {nm : String} {c : Nat} (ok : zOk K (⟨"FreightSplitsLaw", nm, "([I)Z"⟩ : MethodName) cL_law 11 ret 9 600000 7302250 B) (fin : ∀ (L2 : List (Option Value)) (M2 : mM), zV 11 B Q 286 L2 [.int 1] M2 257 2764) {M : mM} {s : Nat → Int32} (hS : lS M c s 0 0 0) (hτ : s 5 = nI 0) : zV 11 B Q 55 [some (.ref (K.1 0)), some (.ref c), some (.ref (c + 251)), some (.ref (c + 251 + 1)), some (.ref (c + 251 + 2)), some (.ref (c + 251 + 3)), some (.ref (c + 251 + 4)), some (.ref (c + 251 + 5)), none, none, none] [] M 257 2764 := by
  refine z_aload_n ok dL_law_55 rfl ?_
  refine z_aload_n ok dL_law_56 rfl ?_
  refine z_aload_n ok dL_law_57 rfl ?_
  refine z_aload ok dL_law_58 rfl ?_
  refine z_aload ok dL_law_60 rfl ?_
  refine z_aload ok dL_law_62 rfl ?_
  refine z_aload ok dL_law_64 rfl ?_
  refine z_callSi ok dL_law_66 zm_L_isSo zw_589 zw_590 (ct_L_isSo hS) rfl rfl (by decide) (by decide) (by decide) (Nat.le_of_ble_eq_true rfl) (fun xz1 Mz2 qz3 => ?_)
  obtain ⟨rfl, hMe⟩ := qz3
  obtain rfl := hMe.symm
  refine z_istore ok dL_law_69 (by decide) rfl ?_
  refine z_iconst (v := 0) ok dL_law_71 (by decide) ?_
  refine z_istore ok dL_law_72 (by decide) rfl ?_
  have loop74 : ∀ (t5 i5 : Nat) (s : Nat → Int32) (n nv no τ : Nat) (M : mM), 5 < i5 + t5 → i5 ≤ 5 → lS M c s n nv no → s 5 = nI τ → τ ≤ 30 * i5 → zV 11 B Q 74 [some (.ref (K.1 0)), some (.ref c), some (.ref (c + 251)), some (.ref (c + 251 + 1)), some (.ref (c + 251 + 2)), some (.ref (c + 251 + 3)), some (.ref (c + 251 + 4)), some (.ref (c + 251 + 5)), some (.int 1), some (.int (nI i5)), none] [] M 257 2764 := by
    intro t5
    induction t5 with
    | zero => intro i5 s n nv no τ M h15 h25; exact absurd h15 (by omega)
    | succ t5 ih5 =>
      intro i5 s n nv no τ M h15 h25 hS hτ hτ2
      refine z_iload ok dL_law_74 rfl ?_
      refine z_iconst (v := 5) ok dL_law_76 (by decide) ?_
      refine z_icmp_ge (tgt := 139) ok dL_law_77 (by decide) (fun cz77 => ?_) (fun cz77 => ?_)
      · have hi5 : i5 = 5 := by have := (nI_leI (a := 5) (by omega) (by omega)).mp cz77; omega
        rw [hi5]
        exact lw_tail ok fin hS hτ (by omega)
      · have hi5 : i5 < 5 := by have := mt (nI_leI (a := 5) (b := i5) (by omega) (by omega)).mpr cz77; omega
        refine z_iload ok dL_law_80 rfl ?_
        refine z_if_eq (tgt := 139) ok dL_law_82 (by decide) (fun q9 => absurd q9 (by decide)) (fun _ => ?_)
        refine z_aload_n ok dL_law_85 rfl ?_
        refine z_aload_n ok dL_law_86 rfl ?_
        refine z_aload_n ok dL_law_87 rfl ?_
        refine z_aload ok dL_law_88 rfl ?_
        refine z_aload ok dL_law_90 rfl ?_
        refine z_aload ok dL_law_92 rfl ?_
        refine z_aload ok dL_law_94 rfl ?_
        refine z_aload_n ok dL_law_96 rfl ?_
        refine z_iconst (v := 1) ok dL_law_97 (by decide) ?_
        refine z_iload ok dL_law_98 rfl ?_
        refine z_iadd ok dL_law_100 ?_
        refine zV_eqi (yadd (a := 1) rfl) ?_
        refine z_callSi ok dL_law_101 zm_L_cell zw_320 zw_321 (ct_L_cell (j := 1 + i5) (by omega)) rfl rfl (by decide) (by decide) (by decide) (Nat.le_of_ble_eq_true rfl) (fun xz4 Mz5 qz6 => ?_)
        obtain rfl := qz6.symm
        refine z_ldc ok dL_law_104 zw_327 ?_
        refine z_iand ok dL_law_106 ?_
        refine z_sipush (v := 832) ok dL_law_107 (by decide) ?_
        refine z_idiv ok dL_law_110 (by decide) ?_
        refine z_sipush (v := 832) ok dL_law_111 (by decide) ?_
        refine z_imul ok dL_law_114 ?_
        refine z_iload ok dL_law_115 rfl ?_
        refine z_iconst (v := 2) ok dL_law_117 (by decide) ?_
        refine z_icmp_ge (tgt := 126) ok dL_law_118 (by decide) (fun cz118 => ?_) (fun cz118 => ?_)
        · refine z_iconst (v := 0) ok dL_law_126 (by decide) ?_
          refine z_iadd ok dL_law_127 ?_
          refine z_callSi ok dL_law_128 zm_L_acts zw_328 zw_329 (ct_L_acts hS hτ (by omega)) rfl rfl (by decide) (by decide) (by decide) (Nat.le_of_ble_eq_true rfl) (fun xz7 Mz8 qz9 => ?_)
          obtain ⟨rfl, s9, n9, nv9, no9, τ9, hS9, hτ9, hle9, hfz9⟩ := qz9
          refine z_istore ok dL_law_131 (by decide) rfl ?_
          refine z_iinc ok dL_law_133 rfl (zinc2 _) (by decide) rfl ?_
          refine z_goto (tgt := 74) ok dL_law_136 (by decide) ?_
          exact ih5 (i5 + 1) s9 n9 nv9 no9 τ9 _ (by omega) (by omega) hS9 hτ9 (by omega)
        · refine z_bipush (v := 6) ok dL_law_121 (by decide) ?_
          refine z_goto (tgt := 127) ok dL_law_123 (by decide) ?_
          refine z_iadd ok dL_law_127 ?_
          refine z_callSi ok dL_law_128 zm_L_acts zw_328 zw_329 (ct_L_acts hS hτ (by omega)) rfl rfl (by decide) (by decide) (by decide) (Nat.le_of_ble_eq_true rfl) (fun xz10 Mz11 qz12 => ?_)
          obtain ⟨rfl, s9, n9, nv9, no9, τ9, hS9, hτ9, hle9, hfz9⟩ := qz12
          refine z_istore ok dL_law_131 (by decide) rfl ?_
          refine z_iinc ok dL_law_133 rfl (zinc2 _) (by decide) rfl ?_
          refine z_goto (tgt := 74) ok dL_law_136 (by decide) ?_
          exact ih5 (i5 + 1) s9 n9 nv9 no9 τ9 _ (by omega) (by omega) hS9 hτ9 (by omega)
  exact loop74 6 0 s 0 0 0 0 _ (by omega) (by omega) hS hτ (by omega)
theorem lO.keep {M M' : mM} {c : Nat} {s : Nat → Int32} (h : lO M c s) (hq : ∀ q, c ≤ q → q < c + 251 → M' q = M q) : lO M' c s := by
  obtain ⟨pastω, pω, txω, nω, nvω, noω, oω, fpω, frω, vbω, nxzω, numsω, h⟩ := h
  exact ⟨pastω, pω, txω, nω, nvω, noω, oω, fpω, frω, vbω, nxzω, numsω, cR.mk ((hq _ (by omega) (by omega)).trans h.F) ((hq _ (by omega) (by omega)).trans h.Y) (h.A.kept (hq _ (by omega) (by omega))) ((hq _ (by omega) (by omega)).trans h.S) (h.C.kept (hq _ (by omega) (by omega))) (h.U.kept (hq _ (by omega) (by omega))) h.B (h.H.kept (fun qω h1ω h2ω => hq _ (by omega) (by omega))) (h.T.kept (fun qω h1ω h2ω => hq _ (by omega) (by omega))) (fun iω hiω => (h.R iω hiω).kept (fun qω h1ω h2ω => hq _ (by omega) (by omega))) (fun jω hjω => (h.W jω hjω).kept (fun qω h1ω h2ω => by have h5ω := Nat.mod_lt (oω + jω) (show 5 > 0 by decide); exact hq _ (by omega) (by omega)))⟩
set_option maxRecDepth 20000 in
set_option maxHeartbeats 1000000 in
theorem lw_main {B : zB} {Q : State → Prop} {K : zK} {nm : String} {c : Nat} (ok : zOk K (⟨"FreightSplitsLaw", nm, "([I)Z"⟩ : MethodName) cL_law 11 ret 9 600000 7302250 B) (hz : zSz B = c) (fin : ∀ (L2 : List (Option Value)) (M2 : mM), zV 11 B Q 286 L2 [.int 1] M2 257 2764) : zV 11 B Q 0 [some (.ref (K.1 0)), none, none, none, none, none, none, none, none, none, none] [] (fun _ => none) 0 0 := by
  refine z_new (T := TX6) (N := 6) (ci := 6) (fs := [.null, .null, .null, .null, .int 0, .int 0]) (a := c) ok dL_law_0 zin_X6 tyX6 tyX6_ok rfl zw_14 zw_15 zw_4 (fun j hj => match j, hj with | 0, _ => rfl | 1, _ => rfl | 2, _ => rfl | 3, _ => rfl | 4, _ => rfl | 5, _ => rfl) (by decide) (by decide) (by omega) ?_
  refine zV_up (fun M1 he1 hu1 => ?_)
  refine z_dup ok dL_law_3 rfl ?_
  refine z_callIv ok dL_law_4 zm_X6_init zw_16 zw_17 rfl rfl (by rw [show zSz B + (0 + 1) = c + 1 from by omega]; exact ct_X6_init he1) rfl rfl (by decide) (by decide) (by decide) (Nat.le_of_ble_eq_true rfl) (fun M2 q2 => ?_)
  refine z_astore_n ok dL_law_7 (by decide) rfl ?_
  refine z_bipush (v := 13) ok dL_law_8 (by decide) ?_
  refine z_newI (a := c + 251) (N := 13) ok dL_law_10 zw_104 (by decide) rfl (by decide) (by decide) (by decide) (by omega) ?_
  refine zV_up (fun Ma0 ha0 hb0 => ?_)
  refine z_astore_n ok dL_law_12 (by decide) rfl ?_
  refine z_bipush (v := 64) ok dL_law_13 (by decide) ?_
  refine z_newI (a := c + 251 + 1) (N := 64) ok dL_law_15 zw_104 (by decide) rfl (by decide) (by decide) (by decide) (by omega) ?_
  refine zV_up (fun Ma1 ha1 hb1 => ?_)
  refine z_astore_n ok dL_law_17 (by decide) rfl ?_
  refine z_bipush (v := 64) ok dL_law_18 (by decide) ?_
  refine z_newI (a := c + 251 + 2) (N := 64) ok dL_law_20 zw_104 (by decide) rfl (by decide) (by decide) (by decide) (by omega) ?_
  refine zV_up (fun Ma2 ha2 hb2 => ?_)
  refine z_astore ok dL_law_22 (by decide) rfl ?_
  refine z_bipush (v := 64) ok dL_law_24 (by decide) ?_
  refine z_newI (a := c + 251 + 3) (N := 64) ok dL_law_26 zw_104 (by decide) rfl (by decide) (by decide) (by decide) (by omega) ?_
  refine zV_up (fun Ma3 ha3 hb3 => ?_)
  refine z_astore ok dL_law_28 (by decide) rfl ?_
  refine z_bipush (v := 32) ok dL_law_30 (by decide) ?_
  refine z_newI (a := c + 251 + 4) (N := 32) ok dL_law_32 zw_104 (by decide) rfl (by decide) (by decide) (by decide) (by omega) ?_
  refine zV_up (fun Ma4 ha4 hb4 => ?_)
  refine z_astore ok dL_law_34 (by decide) rfl ?_
  refine z_bipush (v := 50) ok dL_law_36 (by decide) ?_
  refine z_newI (a := c + 251 + 5) (N := 50) ok dL_law_38 zw_104 (by decide) rfl (by decide) (by decide) (by decide) (by omega) ?_
  refine zV_up (fun Ma5 ha5 hb5 => ?_)
  refine z_astore ok dL_law_40 (by decide) rfl ?_
  have hr0 : lR Ma5 (c + 251) (fun _ => 0) (fun _ => 0) (fun _ => 0) (fun _ => 0) (fun _ => 0) (fun _ => 0) := ⟨⟨_, ((hb5 _ (by omega)).trans ((hb4 _ (by omega)).trans ((hb3 _ (by omega)).trans ((hb2 _ (by omega)).trans ((hb1 _ (by omega)).trans ha0))))), fun _ _ => rfl⟩, ⟨_, ((hb5 _ (by omega)).trans ((hb4 _ (by omega)).trans ((hb3 _ (by omega)).trans ((hb2 _ (by omega)).trans ha1)))), fun _ _ => rfl⟩, ⟨_, ((hb5 _ (by omega)).trans ((hb4 _ (by omega)).trans ((hb3 _ (by omega)).trans ha2))), fun _ _ => rfl⟩, ⟨_, ((hb5 _ (by omega)).trans ((hb4 _ (by omega)).trans ha3)), fun _ _ => rfl⟩, ⟨_, ((hb5 _ (by omega)).trans ha4), fun _ _ => rfl⟩, ⟨_, ha5, fun _ _ => rfl⟩⟩
  have hu9 : ∀ q, c ≤ q → q < c + 251 → Ma5 q = M2 q := fun q h1 h2 => (hb5 q (by omega)).trans ((hb4 q (by omega)).trans ((hb3 q (by omega)).trans ((hb2 q (by omega)).trans ((hb1 q (by omega)).trans (hb0 q (by omega))))))
  refine z_aload_n ok dL_law_42 rfl ?_
  refine z_iconst (v := 0) ok dL_law_43 (by decide) ?_
  refine z_iconst (v := 3) ok dL_law_44 (by decide) ?_
  refine r_ast0 0 ok dL_law_45 hr0 rfl (by omega) (fun Mb0 hr1 hf0 => ?_)
  refine z_aload_n ok dL_law_46 rfl ?_
  refine z_iconst (v := 1) ok dL_law_47 (by decide) ?_
  refine z_bipush (v := 8) ok dL_law_48 (by decide) ?_
  refine r_ast0 1 ok dL_law_50 hr1 rfl (by omega) (fun Mb1 hr2 hf1 => ?_)
  refine z_aload_n ok dL_law_51 rfl ?_
  refine z_iconst (v := 2) ok dL_law_52 (by decide) ?_
  refine z_iconst (v := 1) ok dL_law_53 (by decide) ?_
  refine r_ast0 2 ok dL_law_54 hr2 rfl (by omega) (fun Mb2 hr3 hf2 => ?_)
  have hc9 : lO M2 c s00 := ⟨_, _, _, q2.1⟩
  have hO : lO Mb2 c s00 := hc9.keep (fun q h1 h2 => (hf2 q (Or.inl (by omega))).trans ((hf1 q (Or.inl (by omega))).trans ((hf0 q (Or.inl (by omega))).trans (hu9 q h1 h2))))
  have hS : lS Mb2 c s00 0 0 0 := ⟨hO, lR_0 hr3, zWF_0, zX_0⟩
  exact lw_head ok fin hS rfl

theorem lw_end {K : zK} {nm : String} {p : Program} {l : Launch} {e : Env} {s : State} {m : MethodId} {below : List Frame} {meth : Method} {c : Code} {D : va_G} {E : Nat → ClassId} {b : Nat} {L : List (Option Value)} {M : mM} (ok : zOk K (⟨"FreightSplitsLaw", nm, "([I)Z"⟩ : MethodName) cL_law 11 ret 9 600000 7302250 (p, l, e, room_1, s, m, #[Value.ref b], below, meth, c, D, E, fun q => s.heap.size ≤ q)) : zV 11 (p, l, e, room_1, s, m, #[Value.ref b], below, meth, c, D, E, fun q => s.heap.size ≤ q) (lw_Z below #[Value.ref b] s) 286 L [.int 1] M 257 2764 := by
  intro H ls locs hl hM hz hS
  exact va_forget (fun q hq => hS.2.2 q hq) (W.widen (by decide) (by decide) (lw_ret ok.1.1 ok.1.2.1 ok.1.2.2.2.1 ok.2.2.1 dL_law_286))
set_option maxHeartbeats 4000000 in
theorem lw_begin {p : Program} {e : Env} {s : State} {m : MethodId} {below : List Frame} {meth : Method} {c : Code} (l : Launch) {b L : Nat} {xs : Nat → Int32} (hL : L ≤ 260) (C0 : lw_At p s m meth c b L xs) : W p l e room_1 s m #[Value.ref b] below meth c s.heap [] 0 0 (lw_Z below #[Value.ref b] s) (entryFrame m ([Value.ref b] : List Value).toArray 11) := by
  obtain ⟨hxω, hbω, hrω, hmlω, hownω, htsω, hXω, hblω, hlocksω, hgvω⟩ := C0
  obtain ⟨Dω, Eω, hK, hFω⟩ := lL_env htsω
  have okω : zOk ((fun kω => match kω with | 0 => b | _ => L), xs) (⟨"FreightSplitsLaw", meth.name, "([I)Z"⟩ : MethodName) cL_law 11 ret 9 600000 7302250 (p, l, e, room_1, s, m, #[Value.ref b], below, meth, c, Dω, Eω, fun qω => s.heap.size ≤ qω) := ⟨⟨hxω, hbω, hmlω, hrω, hownω⟩, fun (wω : Cond) (hwω : wω ∈ zgw) => htsω wω (List.mem_filter.mp hwω).1, hlocksω, hK, fun _ h9ω => h9ω, rfl, ⟨by decide +kernel, by decide +kernel, by decide +kernel, by decide +kernel⟩, hFω, ⟨hXω, hblω, Nat.not_le.mpr hblω, hL⟩⟩
  have mainω := lw_main (c := s.heap.size) okω rfl (fun _ _ => lw_end okω)
  have hlω := lv_entry ([Value.ref b] : List Value) (n := 11) (Nat.le_of_ble_eq_true rfl)
  rw [lg_entry_eq]
  exact mainω s.heap _ [] hlω (fun qω uω h9ω => by cases h9ω) rfl va_S.rf
