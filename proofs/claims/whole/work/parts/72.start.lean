/-! THE CLAIM OUT OF ONE WALK OF THE LAW'S BODY. Your part is whole_start (and what it stands on); all else here is the same for every law, but numbers. -/
def R_law : String := "FreightSplitsLaw"
def lw_P (b : Addr) (xs : List Int32) (args : Array Value) (s : State) : Prop := args = #[.ref b] ∧ s.IntsAt b xs ∧ xs.length ≤ 3584 ∧ (Jvm.Cond.and given_1 narrow_1).before args s = true
def lw_Q (_ : Array Value) (s : State) (o : Outcome) (t : State) : Prop := o = .returned (some (.int 1)) ∧ Framed s o t [] 600000 7302250
def lw_Z (below : List Frame) (a : Array Value) (s : State) : State → Prop := fun t => ∃ o, t.status = .running ∧ Ended t below o ∧ lw_Q a s o t
/-- the law's own end, with 1 on the stack, nothing written that was there before, its room as the claim has it -/
theorem lw_ret {p : Program} {l : Launch} {e : Env} {s : State} {m : MethodId} {below : List Frame} {meth : Method} {c : Code} {b : Nat} (hx : p.tables.exec = Jvm.exec) (hb : c.code = code) (hr : meth.sig.returnType = ret) (hlocks : meth.locks = false) {pc : Nat} {H : Heap} {ls : Array Slot} (hdg : decode code pc = .ok (.ireturn, 1)) : W p l e room_1 s m #[Value.ref b] below meth c H [] 600000 7302250 (lw_Z below #[Value.ref b] s) (F0 m pc ls [.int 1]) := by
  intro T hT X
  obtain ⟨fs, hret, hrun, hended, hW, hframe⟩ := X.leave (v := some (.int 1)) (hlocks := hlocks) (fun h => by rw [hr] at h; cases h)
  have hmeth' : T.vm.method? m = some meth := X.method'
  refine ⟨T.setFrames fs, ?_, .returned (some (.int 1)), hrun, hended, rfl, ⟨_, rfl⟩, hW, hframe⟩
  jvm_step X.here [X.here.top, hx, hb, hdg, hmeth', hr, ret, narrow_b1]
  (try refine ⟨rfl, ?_⟩); (try refine ⟨rfl, ?_⟩)
  first | (intro acts; rw [hret _ acts rfl rfl rfl]) | rw [hret _ _ rfl rfl rfl]
  exact Steps.refl _
/-- what holds at the law's entry: the machine, the code, the tables' words (any of lw_tbl by 'hts w (by decide +kernel)'), the script of L ints xs at the cell b, what the Statement gives of the start (any of its parts by flat_of_before) -/
def lw_At (p : Program) (s : State) (m : MethodId) (meth : Method) (c : Code) (b L : Nat) (xs : Nat → Int32) : Prop :=
  p.tables.exec = Jvm.exec ∧ c.code = code ∧ meth.sig.returnType = ret ∧ c.maxLocals = 4 ∧ s.vm.findClass R_law = some m.cls ∧ (∀ w ∈ lw_tbl, w.before #[Value.ref b] s = true) ∧ va_X b L xs s s.heap ∧ b < s.heap.size ∧ meth.locks = false ∧ (Jvm.Cond.and given_1 narrow_1).before #[Value.ref b] s = true
set_option maxRecDepth 20000 in
set_option maxHeartbeats 4000000 in
theorem lL_env {s : State} {b : Nat} (hts : ∀ w ∈ lw_tbl, w.before #[Value.ref b] s = true) (hgv : (Jvm.Cond.and given_1 narrow_1).before #[Value.ref b] s = true) : ∃ (K : zK) (D : va_G) (E : Nat → ClassId), va_K D vwCl (mTys E) s ∧ zFx s ∧ zStr K (fun q => s.heap.size ≤ q) s s.heap := by
 have hzω := fun (wω : Cond) (hwω : wω ∈ zgw) => hts wω (List.mem_filter.mp hwω).1
 have hsω := flat_of_before _ hgv
 obtain ⟨cC0ω, iS0ω, hk0ω⟩ := u_known hzω zin_X0 (hzω _ zw_73)
 obtain ⟨cC1ω, iS1ω, hk1ω⟩ := u_known hzω zin_X1 (hzω _ zw_62)
 obtain ⟨cC2ω, iS2ω, hk2ω⟩ := u_known hzω zin_X2 (hzω _ zw_273)
 obtain ⟨cC3ω, iS3ω, hk3ω⟩ := u_known hzω zin_X3 (hzω _ zw_194)
 obtain ⟨cC4ω, iS4ω, hk4ω⟩ := u_known hzω zin_X4 (hzω _ zw_293)
 obtain ⟨cC5ω, iS5ω, hk5ω⟩ := u_known hzω zin_X5 (hzω _ zw_144)
 obtain ⟨cC6ω, iS6ω, hk6ω⟩ := u_known hzω zin_X6 (hzω _ zw_54)
 obtain ⟨cC7ω, iS7ω, hk7ω⟩ := u_known hzω zin_X7 (hzω _ zw_759)
 obtain ⟨eA0ω, kA0ω, cm0ω, ha0ω, hb0ω, hc0ω⟩ := Cond.arrayClass_spec (hzω _ zw_143)
 obtain ⟨eA1ω, kA1ω, cm1ω, ha1ω, hb1ω, hc1ω⟩ := Cond.arrayClass_spec (hzω _ zw_814)
 obtain ⟨eA2ω, kA2ω, cm2ω, ha2ω, hb2ω, hc2ω⟩ := Cond.arrayClass_spec (hzω _ zw_318)
 have ao3ω : (Cond.arrayOver (.object RX0)).before #[Value.ref b] s = true := (hts _ (List.mem_of_getElem? (i := 68) (by decide +kernel)))
 obtain ⟨cm3ω, eA3ω, kA3ω, ha3ω, hb3ω, hc3ω, hd3ω, he3ω⟩ := Cond.arrayOver_spec ao3ω
 have ao4ω : (Cond.arrayOver (.object RX5)).before #[Value.ref b] s = true := (hts _ (List.mem_of_getElem? (i := 70) (by decide +kernel)))
 obtain ⟨cm4ω, eA4ω, kA4ω, ha4ω, hb4ω, hc4ω, hd4ω, he4ω⟩ := Cond.arrayOver_spec ao4ω
 have ao5ω : (Cond.arrayOver (.object RX3)).before #[Value.ref b] s = true := (hts _ (List.mem_of_getElem? (i := 72) (by decide +kernel)))
 obtain ⟨cm5ω, eA5ω, kA5ω, ha5ω, hb5ω, hc5ω, hd5ω, he5ω⟩ := Cond.arrayOver_spec ao5ω
 have ao6ω : (Cond.arrayOver (.object RX1)).before #[Value.ref b] s = true := (hts _ (List.mem_of_getElem? (i := 279) (by decide +kernel)))
 obtain ⟨cm6ω, eA6ω, kA6ω, ha6ω, hb6ω, hc6ω, hd6ω, he6ω⟩ := Cond.arrayOver_spec ao6ω
 obtain ⟨adKω, adVω, hS8ω, hT8ω⟩ := vk_Sof (tm := fun iω => Term.string RX4 (71 + 2 * iω)) (N := 8) (len := zLen) (byt := zByt) (A := fun qω => s.heap.size ≤ qω) (args := #[Value.ref b]) (s := s) (by decide +kernel)
  (fun iω hiω => hsω _ ((by decide +kernel : ∀ iω, iω < 8 → Cond.exactly (Term.string RX4 (71 + 2 * iω)) "java/lang/String" ∈ flatC (Jvm.Cond.and given_1 narrow_1)) iω hiω))
  (fun iω hiω => hsω _ ((by decide +kernel : ∀ iω, iω < 8 → Cond.eq (.field (Term.string RX4 (71 + 2 * iω)) "java/lang/String" "coder" "B") (.int 0) ∈ flatC (Jvm.Cond.and given_1 narrow_1)) iω hiω))
  (fun iω hiω => hsω _ ((by decide +kernel : ∀ iω, iω < 8 → Cond.arrayOf (.field (Term.string RX4 (71 + 2 * iω)) "java/lang/String" "value" "[B") .byte ∈ flatC (Jvm.Cond.and given_1 narrow_1)) iω hiω))
  (fun iω hiω => hsω _ ((by decide +kernel : ∀ iω, iω < 8 → Cond.eq (.length (.field (Term.string RX4 (71 + 2 * iω)) "java/lang/String" "value" "[B")) (.int (Int32.ofNat (zLen.getD iω 0))) ∈ flatC (Jvm.Cond.and given_1 narrow_1)) iω hiω))
  (fun iω hiω jω hjω => hsω _ ((by decide +kernel : ∀ iω, iω < 8 → ∀ jω, jω < zLen.getD iω 0 → Cond.eq (.elem (.field (Term.string RX4 (71 + 2 * iω)) "java/lang/String" "value" "[B") (.int (Int32.ofNat jω))) (.int ((zByt.getD iω []).getD jω 0)) ∈ flatC (Jvm.Cond.and given_1 narrow_1)) iω hiω jω hjω))
  (fun iω jω hiω hjω hijω => ((by decide +kernel : ∀ iω, iω < 8 → ∀ jω, jω < 8 → iω ≠ jω → (Cond.not (Cond.eq (Term.string RX4 (71 + 2 * iω)) (Term.string RX4 (71 + 2 * jω))) ∈ flatC (Jvm.Cond.and given_1 narrow_1) ∨ Cond.not (Cond.eq (Term.string RX4 (71 + 2 * jω)) (Term.string RX4 (71 + 2 * iω))) ∈ flatC (Jvm.Cond.and given_1 narrow_1))) iω hiω jω hjω hijω).elim (fun h9ω => Or.inl (hsω _ h9ω)) (fun h9ω => Or.inr (hsω _ h9ω)))
  (fun aω h9ω => Nat.not_le.mpr h9ω)
 refine ⟨(adKω, adVω), (fun kω => match kω with | 0 => cC0ω | 1 => cC1ω | 2 => cC2ω | 3 => cC3ω | 4 => cC4ω | 5 => cC5ω | 6 => cC6ω | _ => cC7ω, fun kω => match kω with | 0 => iS0ω | 1 => iS1ω | 2 => iS2ω | 3 => iS3ω | 4 => iS4ω | 5 => iS5ω | 6 => iS6ω | _ => iS7ω), fun kω => match kω with | 0 => eA0ω | 1 => eA1ω | 2 => eA2ω | 3 => eA3ω | 4 => eA4ω | 5 => eA5ω | _ => eA6ω, ⟨fun cω qω h9ω => ?_, fun kω qω h9ω => ?_⟩, ⟨va_AO.of ao3ω, va_AO.of ao4ω, va_AO.of ao5ω, va_AO.of ao6ω, va_Nw.of rfl (hts _ (List.mem_of_getElem? (i := 195) (by decide +kernel))), va_Nw.of rfl (hts _ (List.mem_of_getElem? (i := 294) (by decide +kernel))), va_Nw.of rfl (hts _ (List.mem_of_getElem? (i := 402) (by decide +kernel))), va_Nw.of rfl (hts _ (List.mem_of_getElem? (i := 743) (by decide +kernel)))⟩, hS8ω, fun iω hiω => vk_R.of (A := #[Value.ref b]) ?_ (hT8ω iω hiω), va_Zof (hts _ (List.mem_of_getElem? (i := 693) (by decide +kernel))) (hzω _ zw_49) (va_eqt (hsω _ (by decide +kernel))) (fun aω h9ω => Nat.not_le.mpr h9ω), va_Zqof (hts _ (List.mem_of_getElem? (i := 709) (by decide +kernel))) (hzω _ zw_51) (hsω _ (by decide +kernel)) (fun aω h9ω => Nat.not_le.mpr h9ω)⟩
 · match cω, h9ω with
   | 0, h9ω => cases h9ω; exact hk0ω
   | 1, h9ω => cases h9ω; exact hk1ω
   | 2, h9ω => cases h9ω; exact hk2ω
   | 3, h9ω => cases h9ω; exact hk3ω
   | 4, h9ω => cases h9ω; exact hk4ω
   | 5, h9ω => cases h9ω; exact hk5ω
   | 6, h9ω => cases h9ω; exact hk6ω
   | 7, h9ω => cases h9ω; exact hk7ω
   | cω + 8, h9ω => simp at h9ω
 · match kω, h9ω with
   | 0, h9ω => cases h9ω; exact ⟨fun nω zω => ⟨fun kω hω => (by cases hω), kA0ω, hb0ω, cm0ω, hc0ω⟩, ha0ω⟩
   | 1, h9ω => cases h9ω; exact ⟨fun nω zω => ⟨fun kω hω => (by cases hω), kA1ω, hb1ω, cm1ω, hc1ω⟩, ha1ω⟩
   | 2, h9ω => cases h9ω; exact ⟨fun nω zω => ⟨fun kω hω => (by cases hω), kA2ω, hb2ω, cm2ω, hc2ω⟩, ha2ω⟩
   | 3, h9ω => cases h9ω; exact ⟨fun nω zω => ⟨fun kω hω => (by cases hω), kA3ω, hc3ω, cm3ω, hd3ω⟩, kA3ω, cm3ω, hc3ω, hd3ω, ha3ω, he3ω⟩
   | 4, h9ω => cases h9ω; exact ⟨fun nω zω => ⟨fun kω hω => (by cases hω), kA4ω, hc4ω, cm4ω, hd4ω⟩, kA4ω, cm4ω, hc4ω, hd4ω, ha4ω, he4ω⟩
   | 5, h9ω => cases h9ω; exact ⟨fun nω zω => ⟨fun kω hω => (by cases hω), kA5ω, hc5ω, cm5ω, hd5ω⟩, kA5ω, cm5ω, hc5ω, hd5ω, ha5ω, he5ω⟩
   | 6, h9ω => cases h9ω; exact ⟨fun nω zω => ⟨fun kω hω => (by cases hω), kA6ω, hc6ω, cm6ω, hd6ω⟩, kA6ω, cm6ω, hc6ω, hd6ω, ha6ω, he6ω⟩
   | kω + 7, h9ω => simp [mTys] at h9ω
 · rcases (by omega : iω = 0 ∨ iω = 1 ∨ iω = 2 ∨ iω = 3 ∨ iω = 4 ∨ iω = 5 ∨ iω = 6 ∨ iω = 7) with h9ω | h9ω | h9ω | h9ω | h9ω | h9ω | h9ω | h9ω <;> rw [h9ω]
   · exact (hts _ (List.mem_of_getElem? (i := 672) (by decide +kernel)))
   · exact (hts _ (List.mem_of_getElem? (i := 673) (by decide +kernel)))
   · exact (hts _ (List.mem_of_getElem? (i := 674) (by decide +kernel)))
   · exact (hts _ (List.mem_of_getElem? (i := 675) (by decide +kernel)))
   · exact (hts _ (List.mem_of_getElem? (i := 676) (by decide +kernel)))
   · exact (hts _ (List.mem_of_getElem? (i := 677) (by decide +kernel)))
   · exact (hts _ (List.mem_of_getElem? (i := 678) (by decide +kernel)))
   · exact (hts _ (List.mem_of_getElem? (i := 679) (by decide +kernel)))
