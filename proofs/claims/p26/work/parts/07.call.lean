/-- an int, nothing, any one value as an answer -/
def zI (P : Int32 → mM → Prop) : Option Value → mM → Prop := fun r M => ∃ x : Int32, r = some (.int x) ∧ P x M
def zU (P : mM → Prop) : Option Value → mM → Prop := fun r M => r = none ∧ P M
def zA (P : Value → mM → Prop) : Option Value → mM → Prop := fun r M => ∃ v : Value, r = some v ∧ P v M
/-- what the tables have of a method -/
def zMeth (y : MethodName) (cc : ByteArray) (nL : Nat) (ret : Option FieldType) (np : Nat) : Prop := Cond.code y cc nL ret ∈ zgw ∧ Cond.initialized y.cls ∈ zgw ∧ (y.cls ≠ "java/lang/invoke/MethodHandle" ∧ y.cls ≠ "java/lang/invoke/VarHandle" ∧ (parseMethodDescriptor y.desc).map (fun d => d.parameters.length) = some np) ∧ nL ≤ 21
theorem zgw_in {y : MethodName} {cc : ByteArray} {nL np : Nat} {ret : Option FieldType} (h : zMeth y cc nL ret np) : GoodIn zgw (Cond.code y cc nL ret :: zgw) := fun w hw => by
  have hm : w ∈ zgw := by
    rcases List.mem_cons.mp hw with h2 | h2
    · rw [h2]; exact h.1
    · exact h2
  exact ⟨hm, good_of_word (zgw_good w hm)⟩
theorem z_run {p : Program} {l : Launch} {e : Env} {R : Room} {s : State} {m : MethodId} {args : Array Value} {below : List Frame} {meth : Method} {c : Code} {H : Heap} {locs : List Loc} {k n mc' ms' : Nat} {D : va_G} {E : Nat → ClassId} {A : Nat → Prop} {pc : Nat} {ls : Array Slot} {st0 rest : List Value} {Qc : Option Value → mM → Prop} {Q : State → Prop} {av : Array Value}
    (hr : va_Run p l e R s m args below meth c H locs k n mc' ms' (F0 m pc ls st0) rest (zQ D E A Qc H.size mc' av) A) (hz : H.size = s.heap.size + k) (hS : va_S A s.heap H locs)
    (kk : ∀ (r : Option Value) (M' : mM) (H1 : Heap) (locs1 : List Loc), Qc r M' → mRep D E A M' H1 → H1.size = s.heap.size + (k + mc') → va_S A s.heap H1 locs1 → W p l e R s m args below meth c H1 locs1 (k + mc') (n + ms') Q (F0 m (pc + 3) ls (r.toList ++ rest))) : W p l e R s m args below meth c H locs k n Q (F0 m pc ls st0) := by
  intro T hT X
  obtain ⟨v, st₀, t, T', L, h0, X', hL, e1, e2, ⟨⟨r, M', hv, hq, hsz, hM', hK'⟩, hz1, hk1⟩, st⟩ := hr T hT X
  cases hv
  rw [h0] at hz1 hk1
  obtain ⟨t2, a1, b1⟩ := kk v M' T'.heap (locs ++ L) hq (by rw [e1]; exact hM') (by rw [e1, hsz, hz]; omega) ⟨Nat.le_trans hS.1 (by rw [e1]; exact hz1), fun q h1 h2 => by rw [e1, hk1 q (Nat.lt_of_lt_of_le h1 hS.1) h2]; exact hS.2.1 q h1 h2, fun q hq => by
      rcases List.mem_append.mp hq with h | h
      · exact hS.2.2 q h
      · exact hL q h⟩ T' rfl X'
  exact ⟨t2, st t2 a1, b1⟩
theorem z_callVi {K : zK} {yn : MethodName} {cc : ByteArray} {nL : Nat} {ret : Option FieldType} {d mc ms : Nat} {B : zB} {Q : State → Prop} {pc : Nat} {L : List (Option Value)} {rest : List Value} {M : mM} {k n : Nat} {y' : MethodName} {cc' : ByteArray} {nL' np ix : Nat} {ret' : Option FieldType} {d' mc' ms' : Nat} {b ci N : Nat} {fs As : List Value} {T : u_T} {P : Int32 → mM → Prop} {stk : List Value} (ok : zOk K yn cc nL ret d mc ms B) (hd : decode cc pc = .ok (.invokevirtual ix, 3)) (hy : zMeth y' cc' nL' ret' np) (hw : Cond.methodLink yn.cls ix y' ∈ zgw) (hw2 : Cond.instanceMethod y' ∈ zgw ∧ Cond.selects y'.cls y' y' ∈ zgw) (hm : M b = some (.inr (ci, fs))) (hc : vwCl[ci]? = some (y'.cls, T, N)) (hC : zCt K y' cc' nL' ret' d' (.ref b :: As) M (zSz B + k) mc' ms' (zI P)) (hst : stk = As.reverse ++ .ref b :: rest) (hlen : As.length = np) (hdd : d' + 1 ≤ d) (hk : k + mc' ≤ mc) (hn : n + ms' ≤ ms) (hcat : (rest.map fun v => v.category).sum ≤ 8)
    (kk : ∀ (x : Int32) (M' : mM), P x M' → zV nL B Q (pc + 3) L (.int x :: rest) M' (k + mc') (n + ms')) : zV nL B Q pc L stk M k n := by
  obtain ⟨p, l, e, R, s, m, args, below, meth, c, D, E, A⟩ := B
  obtain ⟨⟨hx, hb, hml, hr, hown⟩, hts, hlocks, hK, hA, hnm, hR, hF, hT⟩ := ok
  intro H ls locs hl hM hz hS
  have hroom : 8 + (nL' + 11) + 40 * d' ≤ R.locals := by
    have h1 := hy.2.2.2
    have h2 := hR.2.1
    omega
  have hKu : ∀ U : State, U.heap = H → s.WarmedH U.vm → zP K D E A (.ref b :: As) M H.size (.ref b :: As).toArray U := fun U hU hW => ⟨rfl, by rw [hU], by rw [hU]; exact hM, va_K.moved hW.alike hK, fun q hq => hA q (Nat.le_trans hS.1 hq), zFx.warm hW hF, by rw [hU]; exact zStr.warm hW (hT.kept hS.2.1)⟩
  have hM1 := hC l D E A
  rw [show zSz (p, l, e, R, s, m, args, below, meth, c, D, E, A) + k = H.size from hz.symm] at hM1
  exact z_run (va_runV (C := y'.cls) (As := As) (rest := rest) (nL := nL) (own := yn.cls) (index := ix) (n := np) ⟨hx, hb, hml, hown, hts⟩ hM1 ⟨callB_of (ws := Cond.code y' cc' nL' ret' :: zgw) (rm := zRm d' mc' ms') np hts (zgw_in hy) rfl rfl rfl (hts _ hy.2.1) (hts _ hw) hy.2.2.1 ⟨Nat.le_trans hdd hR.1, hroom⟩, hts _ hw2.1, hts _ hw2.2⟩ ⟨zP_blind, va_recv (q0 := 0) hK (hM.one hm) hc rfl, hKu⟩ rfl hlen hl.1 hst (lv_room hcat) hd ⟨Nat.le_trans hk hR.2.2.1, Nat.le_trans hn hR.2.2.2⟩) hz hS (fun r M' H1 locs1 hq hM' hz' hS' => by
    obtain ⟨x, rfl, hq⟩ := hq
    exact kk x M' hq H1 ls locs1 hl hM' hz' hS')
theorem z_callVv {K : zK} {yn : MethodName} {cc : ByteArray} {nL : Nat} {ret : Option FieldType} {d mc ms : Nat} {B : zB} {Q : State → Prop} {pc : Nat} {L : List (Option Value)} {rest : List Value} {M : mM} {k n : Nat} {y' : MethodName} {cc' : ByteArray} {nL' np ix : Nat} {ret' : Option FieldType} {d' mc' ms' : Nat} {b ci N : Nat} {fs As : List Value} {T : u_T} {P : mM → Prop} {stk : List Value} (ok : zOk K yn cc nL ret d mc ms B) (hd : decode cc pc = .ok (.invokevirtual ix, 3)) (hy : zMeth y' cc' nL' ret' np) (hw : Cond.methodLink yn.cls ix y' ∈ zgw) (hw2 : Cond.instanceMethod y' ∈ zgw ∧ Cond.selects y'.cls y' y' ∈ zgw) (hm : M b = some (.inr (ci, fs))) (hc : vwCl[ci]? = some (y'.cls, T, N)) (hC : zCt K y' cc' nL' ret' d' (.ref b :: As) M (zSz B + k) mc' ms' (zU P)) (hst : stk = As.reverse ++ .ref b :: rest) (hlen : As.length = np) (hdd : d' + 1 ≤ d) (hk : k + mc' ≤ mc) (hn : n + ms' ≤ ms) (hcat : (rest.map fun v => v.category).sum ≤ 8)
    (kk : ∀ (M' : mM), P M' → zV nL B Q (pc + 3) L rest M' (k + mc') (n + ms')) : zV nL B Q pc L stk M k n := by
  obtain ⟨p, l, e, R, s, m, args, below, meth, c, D, E, A⟩ := B
  obtain ⟨⟨hx, hb, hml, hr, hown⟩, hts, hlocks, hK, hA, hnm, hR, hF, hT⟩ := ok
  intro H ls locs hl hM hz hS
  have hroom : 8 + (nL' + 11) + 40 * d' ≤ R.locals := by
    have h1 := hy.2.2.2
    have h2 := hR.2.1
    omega
  have hKu : ∀ U : State, U.heap = H → s.WarmedH U.vm → zP K D E A (.ref b :: As) M H.size (.ref b :: As).toArray U := fun U hU hW => ⟨rfl, by rw [hU], by rw [hU]; exact hM, va_K.moved hW.alike hK, fun q hq => hA q (Nat.le_trans hS.1 hq), zFx.warm hW hF, by rw [hU]; exact zStr.warm hW (hT.kept hS.2.1)⟩
  have hM1 := hC l D E A
  rw [show zSz (p, l, e, R, s, m, args, below, meth, c, D, E, A) + k = H.size from hz.symm] at hM1
  exact z_run (va_runV (C := y'.cls) (As := As) (rest := rest) (nL := nL) (own := yn.cls) (index := ix) (n := np) ⟨hx, hb, hml, hown, hts⟩ hM1 ⟨callB_of (ws := Cond.code y' cc' nL' ret' :: zgw) (rm := zRm d' mc' ms') np hts (zgw_in hy) rfl rfl rfl (hts _ hy.2.1) (hts _ hw) hy.2.2.1 ⟨Nat.le_trans hdd hR.1, hroom⟩, hts _ hw2.1, hts _ hw2.2⟩ ⟨zP_blind, va_recv (q0 := 0) hK (hM.one hm) hc rfl, hKu⟩ rfl hlen hl.1 hst (lv_room hcat) hd ⟨Nat.le_trans hk hR.2.2.1, Nat.le_trans hn hR.2.2.2⟩) hz hS (fun r M' H1 locs1 hq hM' hz' hS' => by
    obtain ⟨rfl, hq⟩ := hq
    exact kk M' hq H1 ls locs1 hl hM' hz' hS')
theorem z_callVa {K : zK} {yn : MethodName} {cc : ByteArray} {nL : Nat} {ret : Option FieldType} {d mc ms : Nat} {B : zB} {Q : State → Prop} {pc : Nat} {L : List (Option Value)} {rest : List Value} {M : mM} {k n : Nat} {y' : MethodName} {cc' : ByteArray} {nL' np ix : Nat} {ret' : Option FieldType} {d' mc' ms' : Nat} {b ci N : Nat} {fs As : List Value} {T : u_T} {P : Value → mM → Prop} {stk : List Value} (ok : zOk K yn cc nL ret d mc ms B) (hd : decode cc pc = .ok (.invokevirtual ix, 3)) (hy : zMeth y' cc' nL' ret' np) (hw : Cond.methodLink yn.cls ix y' ∈ zgw) (hw2 : Cond.instanceMethod y' ∈ zgw ∧ Cond.selects y'.cls y' y' ∈ zgw) (hm : M b = some (.inr (ci, fs))) (hc : vwCl[ci]? = some (y'.cls, T, N)) (hC : zCt K y' cc' nL' ret' d' (.ref b :: As) M (zSz B + k) mc' ms' (zA P)) (hst : stk = As.reverse ++ .ref b :: rest) (hlen : As.length = np) (hdd : d' + 1 ≤ d) (hk : k + mc' ≤ mc) (hn : n + ms' ≤ ms) (hcat : (rest.map fun v => v.category).sum ≤ 8)
    (kk : ∀ (x : Value) (M' : mM), P x M' → zV nL B Q (pc + 3) L (x :: rest) M' (k + mc') (n + ms')) : zV nL B Q pc L stk M k n := by
  obtain ⟨p, l, e, R, s, m, args, below, meth, c, D, E, A⟩ := B
  obtain ⟨⟨hx, hb, hml, hr, hown⟩, hts, hlocks, hK, hA, hnm, hR, hF, hT⟩ := ok
  intro H ls locs hl hM hz hS
  have hroom : 8 + (nL' + 11) + 40 * d' ≤ R.locals := by
    have h1 := hy.2.2.2
    have h2 := hR.2.1
    omega
  have hKu : ∀ U : State, U.heap = H → s.WarmedH U.vm → zP K D E A (.ref b :: As) M H.size (.ref b :: As).toArray U := fun U hU hW => ⟨rfl, by rw [hU], by rw [hU]; exact hM, va_K.moved hW.alike hK, fun q hq => hA q (Nat.le_trans hS.1 hq), zFx.warm hW hF, by rw [hU]; exact zStr.warm hW (hT.kept hS.2.1)⟩
  have hM1 := hC l D E A
  rw [show zSz (p, l, e, R, s, m, args, below, meth, c, D, E, A) + k = H.size from hz.symm] at hM1
  exact z_run (va_runV (C := y'.cls) (As := As) (rest := rest) (nL := nL) (own := yn.cls) (index := ix) (n := np) ⟨hx, hb, hml, hown, hts⟩ hM1 ⟨callB_of (ws := Cond.code y' cc' nL' ret' :: zgw) (rm := zRm d' mc' ms') np hts (zgw_in hy) rfl rfl rfl (hts _ hy.2.1) (hts _ hw) hy.2.2.1 ⟨Nat.le_trans hdd hR.1, hroom⟩, hts _ hw2.1, hts _ hw2.2⟩ ⟨zP_blind, va_recv (q0 := 0) hK (hM.one hm) hc rfl, hKu⟩ rfl hlen hl.1 hst (lv_room hcat) hd ⟨Nat.le_trans hk hR.2.2.1, Nat.le_trans hn hR.2.2.2⟩) hz hS (fun r M' H1 locs1 hq hM' hz' hS' => by
    obtain ⟨x, rfl, hq⟩ := hq
    exact kk x M' hq H1 ls locs1 hl hM' hz' hS')
theorem z_callSi {K : zK} {yn : MethodName} {cc : ByteArray} {nL : Nat} {ret : Option FieldType} {d mc ms : Nat} {B : zB} {Q : State → Prop} {pc : Nat} {L : List (Option Value)} {rest : List Value} {M : mM} {k n : Nat} {y' : MethodName} {cc' : ByteArray} {nL' np ix : Nat} {ret' : Option FieldType} {d' mc' ms' : Nat} {As : List Value} {P : Int32 → mM → Prop} {stk : List Value} (ok : zOk K yn cc nL ret d mc ms B) (hd : decode cc pc = .ok (.invokestatic ix, 3)) (hy : zMeth y' cc' nL' ret' np) (hw : Cond.methodLink yn.cls ix y' ∈ zgw) (hw2 : Cond.static y' ∈ zgw) (hC : zCt K y' cc' nL' ret' d' As M (zSz B + k) mc' ms' (zI P)) (hst : stk = As.reverse ++ rest) (hlen : As.length = np) (hdd : d' + 1 ≤ d) (hk : k + mc' ≤ mc) (hn : n + ms' ≤ ms) (hcat : (rest.map fun v => v.category).sum ≤ 8)
    (kk : ∀ (x : Int32) (M' : mM), P x M' → zV nL B Q (pc + 3) L (.int x :: rest) M' (k + mc') (n + ms')) : zV nL B Q pc L stk M k n := by
  obtain ⟨p, l, e, R, s, m, args, below, meth, c, D, E, A⟩ := B
  obtain ⟨⟨hx, hb, hml, hr, hown⟩, hts, hlocks, hK, hA, hnm, hR, hF, hT⟩ := ok
  intro H ls locs hl hM hz hS
  have hroom : 8 + (nL' + 11) + 40 * d' ≤ R.locals := by
    have h1 := hy.2.2.2
    have h2 := hR.2.1
    omega
  have hKu : ∀ U : State, U.heap = H → s.WarmedH U.vm → zP K D E A As M H.size As.toArray U := fun U hU hW => ⟨rfl, by rw [hU], by rw [hU]; exact hM, va_K.moved hW.alike hK, fun q hq => hA q (Nat.le_trans hS.1 hq), zFx.warm hW hF, by rw [hU]; exact zStr.warm hW (hT.kept hS.2.1)⟩
  have hM1 := hC l D E A
  rw [show zSz (p, l, e, R, s, m, args, below, meth, c, D, E, A) + k = H.size from hz.symm] at hM1
  exact z_run (va_runS (As := As) (rest := rest) (nL := nL) (own := yn.cls) (index := ix) (n := np) ⟨hx, hb, hml, hown, hts⟩ hM1 ⟨callB_of (ws := Cond.code y' cc' nL' ret' :: zgw) (rm := zRm d' mc' ms') np hts (zgw_in hy) rfl rfl rfl (hts _ hy.2.1) (hts _ hw) hy.2.2.1 ⟨Nat.le_trans hdd hR.1, hroom⟩, hts _ hw2⟩ ⟨zP_blind, hKu⟩ rfl hlen hl.1 hst (lv_room hcat) hd ⟨Nat.le_trans hk hR.2.2.1, Nat.le_trans hn hR.2.2.2⟩) hz hS (fun r M' H1 locs1 hq hM' hz' hS' => by
    obtain ⟨x, rfl, hq⟩ := hq
    exact kk x M' hq H1 ls locs1 hl hM' hz' hS')
theorem z_callSv {K : zK} {yn : MethodName} {cc : ByteArray} {nL : Nat} {ret : Option FieldType} {d mc ms : Nat} {B : zB} {Q : State → Prop} {pc : Nat} {L : List (Option Value)} {rest : List Value} {M : mM} {k n : Nat} {y' : MethodName} {cc' : ByteArray} {nL' np ix : Nat} {ret' : Option FieldType} {d' mc' ms' : Nat} {As : List Value} {P : mM → Prop} {stk : List Value} (ok : zOk K yn cc nL ret d mc ms B) (hd : decode cc pc = .ok (.invokestatic ix, 3)) (hy : zMeth y' cc' nL' ret' np) (hw : Cond.methodLink yn.cls ix y' ∈ zgw) (hw2 : Cond.static y' ∈ zgw) (hC : zCt K y' cc' nL' ret' d' As M (zSz B + k) mc' ms' (zU P)) (hst : stk = As.reverse ++ rest) (hlen : As.length = np) (hdd : d' + 1 ≤ d) (hk : k + mc' ≤ mc) (hn : n + ms' ≤ ms) (hcat : (rest.map fun v => v.category).sum ≤ 8)
    (kk : ∀ (M' : mM), P M' → zV nL B Q (pc + 3) L rest M' (k + mc') (n + ms')) : zV nL B Q pc L stk M k n := by
  obtain ⟨p, l, e, R, s, m, args, below, meth, c, D, E, A⟩ := B
  obtain ⟨⟨hx, hb, hml, hr, hown⟩, hts, hlocks, hK, hA, hnm, hR, hF, hT⟩ := ok
  intro H ls locs hl hM hz hS
  have hroom : 8 + (nL' + 11) + 40 * d' ≤ R.locals := by
    have h1 := hy.2.2.2
    have h2 := hR.2.1
    omega
  have hKu : ∀ U : State, U.heap = H → s.WarmedH U.vm → zP K D E A As M H.size As.toArray U := fun U hU hW => ⟨rfl, by rw [hU], by rw [hU]; exact hM, va_K.moved hW.alike hK, fun q hq => hA q (Nat.le_trans hS.1 hq), zFx.warm hW hF, by rw [hU]; exact zStr.warm hW (hT.kept hS.2.1)⟩
  have hM1 := hC l D E A
  rw [show zSz (p, l, e, R, s, m, args, below, meth, c, D, E, A) + k = H.size from hz.symm] at hM1
  exact z_run (va_runS (As := As) (rest := rest) (nL := nL) (own := yn.cls) (index := ix) (n := np) ⟨hx, hb, hml, hown, hts⟩ hM1 ⟨callB_of (ws := Cond.code y' cc' nL' ret' :: zgw) (rm := zRm d' mc' ms') np hts (zgw_in hy) rfl rfl rfl (hts _ hy.2.1) (hts _ hw) hy.2.2.1 ⟨Nat.le_trans hdd hR.1, hroom⟩, hts _ hw2⟩ ⟨zP_blind, hKu⟩ rfl hlen hl.1 hst (lv_room hcat) hd ⟨Nat.le_trans hk hR.2.2.1, Nat.le_trans hn hR.2.2.2⟩) hz hS (fun r M' H1 locs1 hq hM' hz' hS' => by
    obtain ⟨rfl, hq⟩ := hq
    exact kk M' hq H1 ls locs1 hl hM' hz' hS')
theorem z_callSa {K : zK} {yn : MethodName} {cc : ByteArray} {nL : Nat} {ret : Option FieldType} {d mc ms : Nat} {B : zB} {Q : State → Prop} {pc : Nat} {L : List (Option Value)} {rest : List Value} {M : mM} {k n : Nat} {y' : MethodName} {cc' : ByteArray} {nL' np ix : Nat} {ret' : Option FieldType} {d' mc' ms' : Nat} {As : List Value} {P : Value → mM → Prop} {stk : List Value} (ok : zOk K yn cc nL ret d mc ms B) (hd : decode cc pc = .ok (.invokestatic ix, 3)) (hy : zMeth y' cc' nL' ret' np) (hw : Cond.methodLink yn.cls ix y' ∈ zgw) (hw2 : Cond.static y' ∈ zgw) (hC : zCt K y' cc' nL' ret' d' As M (zSz B + k) mc' ms' (zA P)) (hst : stk = As.reverse ++ rest) (hlen : As.length = np) (hdd : d' + 1 ≤ d) (hk : k + mc' ≤ mc) (hn : n + ms' ≤ ms) (hcat : (rest.map fun v => v.category).sum ≤ 8)
    (kk : ∀ (x : Value) (M' : mM), P x M' → zV nL B Q (pc + 3) L (x :: rest) M' (k + mc') (n + ms')) : zV nL B Q pc L stk M k n := by
  obtain ⟨p, l, e, R, s, m, args, below, meth, c, D, E, A⟩ := B
  obtain ⟨⟨hx, hb, hml, hr, hown⟩, hts, hlocks, hK, hA, hnm, hR, hF, hT⟩ := ok
  intro H ls locs hl hM hz hS
  have hroom : 8 + (nL' + 11) + 40 * d' ≤ R.locals := by
    have h1 := hy.2.2.2
    have h2 := hR.2.1
    omega
  have hKu : ∀ U : State, U.heap = H → s.WarmedH U.vm → zP K D E A As M H.size As.toArray U := fun U hU hW => ⟨rfl, by rw [hU], by rw [hU]; exact hM, va_K.moved hW.alike hK, fun q hq => hA q (Nat.le_trans hS.1 hq), zFx.warm hW hF, by rw [hU]; exact zStr.warm hW (hT.kept hS.2.1)⟩
  have hM1 := hC l D E A
  rw [show zSz (p, l, e, R, s, m, args, below, meth, c, D, E, A) + k = H.size from hz.symm] at hM1
  exact z_run (va_runS (As := As) (rest := rest) (nL := nL) (own := yn.cls) (index := ix) (n := np) ⟨hx, hb, hml, hown, hts⟩ hM1 ⟨callB_of (ws := Cond.code y' cc' nL' ret' :: zgw) (rm := zRm d' mc' ms') np hts (zgw_in hy) rfl rfl rfl (hts _ hy.2.1) (hts _ hw) hy.2.2.1 ⟨Nat.le_trans hdd hR.1, hroom⟩, hts _ hw2⟩ ⟨zP_blind, hKu⟩ rfl hlen hl.1 hst (lv_room hcat) hd ⟨Nat.le_trans hk hR.2.2.1, Nat.le_trans hn hR.2.2.2⟩) hz hS (fun r M' H1 locs1 hq hM' hz' hS' => by
    obtain ⟨x, rfl, hq⟩ := hq
    exact kk x M' hq H1 ls locs1 hl hM' hz' hS')
theorem z_callIv {K : zK} {yn : MethodName} {cc : ByteArray} {nL : Nat} {ret : Option FieldType} {d mc ms : Nat} {B : zB} {Q : State → Prop} {pc : Nat} {L : List (Option Value)} {rest : List Value} {M : mM} {k n : Nat} {y' : MethodName} {cc' : ByteArray} {nL' np ix : Nat} {ret' : Option FieldType} {d' mc' ms' : Nat} {b : Nat} {As : List Value} {P : mM → Prop} {stk : List Value} (ok : zOk K yn cc nL ret d mc ms B) (hd : decode cc pc = .ok (.invokespecial ix, 3)) (hy : zMeth y' cc' nL' ret' np) (hw : Cond.methodLink yn.cls ix y' ∈ zgw) (hw2 : Cond.instanceMethod y' ∈ zgw) (hnm2 : y'.name = "<init>") (hret : ret' = none) (hC : zCt K y' cc' nL' ret' d' (.ref b :: As) M (zSz B + k) mc' ms' (zU P)) (hst : stk = As.reverse ++ .ref b :: rest) (hlen : As.length = np) (hdd : d' + 1 ≤ d) (hk : k + mc' ≤ mc) (hn : n + ms' ≤ ms) (hcat : (rest.map fun v => v.category).sum ≤ 8)
    (kk : ∀ (M' : mM), P M' → zV nL B Q (pc + 3) L rest M' (k + mc') (n + ms')) : zV nL B Q pc L stk M k n := by
  subst hret
  obtain ⟨p, l, e, R, s, m, args, below, meth, c, D, E, A⟩ := B
  obtain ⟨⟨hx, hb, hml, hr, hown⟩, hts, hlocks, hK, hA, hnm, hR, hF, hT⟩ := ok
  intro H ls locs hl hM hz hS
  have hroom : 8 + (nL' + 11) + 40 * d' ≤ R.locals := by
    have h1 := hy.2.2.2
    have h2 := hR.2.1
    omega
  have hKu : ∀ U : State, U.heap = H → s.WarmedH U.vm → zP K D E A (.ref b :: As) M H.size (.ref b :: As).toArray U := fun U hU hW => ⟨rfl, by rw [hU], by rw [hU]; exact hM, va_K.moved hW.alike hK, fun q hq => hA q (Nat.le_trans hS.1 hq), zFx.warm hW hF, by rw [hU]; exact zStr.warm hW (hT.kept hS.2.1)⟩
  have hM1 := hC l D E A
  rw [show zSz (p, l, e, R, s, m, args, below, meth, c, D, E, A) + k = H.size from hz.symm] at hM1
  exact z_run (va_runI (As := As) (rest := rest) (nL := nL) (own := yn.cls) (index := ix) (n := np) ⟨hx, hb, hml, hown, hts⟩ hM1 ⟨callB_of (ws := Cond.code y' cc' nL' none :: zgw) (rm := zRm d' mc' ms') np hts (zgw_in hy) rfl rfl rfl (hts _ hy.2.1) (hts _ hw) hy.2.2.1 ⟨Nat.le_trans hdd hR.1, hroom⟩, hnm2, hts _ hw2⟩ ⟨zP_blind, hKu⟩ rfl hlen hl.1 hst (lv_room hcat) hd ⟨Nat.le_trans hk hR.2.2.1, Nat.le_trans hn hR.2.2.2⟩) hz hS (fun r M' H1 locs1 hq hM' hz' hS' => by
    obtain ⟨rfl, hq⟩ := hq
    exact kk M' hq H1 ls locs1 hl hM' hz' hS')
theorem z_callSNi {K : zK} {yn : MethodName} {cc : ByteArray} {nL : Nat} {ret : Option FieldType} {d mc ms : Nat} {B : zB} {Q : State → Prop} {pc : Nat} {L : List (Option Value)} {rest : List Value} {M : mM} {k n : Nat} {y' : MethodName} {cc' : ByteArray} {nL' np ix : Nat} {ret' : Option FieldType} {d' mc' ms' : Nat} {As : List Value} {host : String} {P : Int32 → mM → Prop} {stk : List Value} (ok : zOk K yn cc nL ret d mc ms B) (hd : decode cc pc = .ok (.invokestatic ix, 3)) (hy : zMeth y' cc' nL' ret' np) (hw : ∀ U, zFx U → va_Nw (.methodLinkNest yn.cls ix y' host) U) (hw2 : Cond.static y' ∈ zgw) (hC : zCt K y' cc' nL' ret' d' As M (zSz B + k) mc' ms' (zI P)) (hst : stk = As.reverse ++ rest) (hlen : As.length = np) (hdd : d' + 1 ≤ d) (hk : k + mc' ≤ mc) (hn : n + ms' ≤ ms) (hcat : (rest.map fun v => v.category).sum ≤ 8)
    (kk : ∀ (x : Int32) (M' : mM), P x M' → zV nL B Q (pc + 3) L (.int x :: rest) M' (k + mc') (n + ms')) : zV nL B Q pc L stk M k n := by
  obtain ⟨p, l, e, R, s, m, args, below, meth, c, D, E, A⟩ := B
  obtain ⟨⟨hx, hb, hml, hr, hown⟩, hts, hlocks, hK, hA, hnm, hR, hF, hT⟩ := ok
  intro H ls locs hl hM hz hS
  have hroom : 8 + (nL' + 11) + 40 * d' ≤ R.locals := by
    have h1 := hy.2.2.2
    have h2 := hR.2.1
    omega
  have hKu : ∀ U : State, U.heap = H → s.WarmedH U.vm → zP K D E A As M H.size As.toArray U := fun U hU hW => ⟨rfl, by rw [hU], by rw [hU]; exact hM, va_K.moved hW.alike hK, fun q hq => hA q (Nat.le_trans hS.1 hq), zFx.warm hW hF, by rw [hU]; exact zStr.warm hW (hT.kept hS.2.1)⟩
  have hM1 := hC l D E A
  rw [show zSz (p, l, e, R, s, m, args, below, meth, c, D, E, A) + k = H.size from hz.symm] at hM1
  exact z_run (va_runSN (As := As) (rest := rest) (nL := nL) (own := yn.cls) (index := ix) (n := np) ⟨hx, hb, hml, hown, hts⟩ hM1 ⟨va_cnB (rm := zRm d' mc' ms') np hts (zgw_in hy) rfl rfl rfl (hw s hF) (hts _ hy.2.1) hy.2.2.1 ⟨Nat.le_trans hdd hR.1, hroom⟩, hts _ hw2, trivial⟩ ⟨zP_blind, hKu⟩ rfl hlen hl.1 hst (lv_room hcat) hd ⟨Nat.le_trans hk hR.2.2.1, Nat.le_trans hn hR.2.2.2⟩) hz hS (fun r M' H1 locs1 hq hM' hz' hS' => by
    obtain ⟨x, rfl, hq⟩ := hq
    exact kk x M' hq H1 ls locs1 hl hM' hz' hS')
theorem z_callINv {K : zK} {yn : MethodName} {cc : ByteArray} {nL : Nat} {ret : Option FieldType} {d mc ms : Nat} {B : zB} {Q : State → Prop} {pc : Nat} {L : List (Option Value)} {rest : List Value} {M : mM} {k n : Nat} {y' : MethodName} {cc' : ByteArray} {nL' np ix : Nat} {ret' : Option FieldType} {d' mc' ms' : Nat} {b : Nat} {As : List Value} {host : String} {P : mM → Prop} {stk : List Value} (ok : zOk K yn cc nL ret d mc ms B) (hd : decode cc pc = .ok (.invokespecial ix, 3)) (hy : zMeth y' cc' nL' ret' np) (hw : ∀ U, zFx U → va_Nw (.methodLinkNest yn.cls ix y' host) U) (hw2 : Cond.instanceMethod y' ∈ zgw) (hnm2 : y'.name = "<init>") (hret : ret' = none) (hC : zCt K y' cc' nL' ret' d' (.ref b :: As) M (zSz B + k) mc' ms' (zU P)) (hst : stk = As.reverse ++ .ref b :: rest) (hlen : As.length = np) (hdd : d' + 1 ≤ d) (hk : k + mc' ≤ mc) (hn : n + ms' ≤ ms) (hcat : (rest.map fun v => v.category).sum ≤ 8)
    (kk : ∀ (M' : mM), P M' → zV nL B Q (pc + 3) L rest M' (k + mc') (n + ms')) : zV nL B Q pc L stk M k n := by
  subst hret
  obtain ⟨p, l, e, R, s, m, args, below, meth, c, D, E, A⟩ := B
  obtain ⟨⟨hx, hb, hml, hr, hown⟩, hts, hlocks, hK, hA, hnm, hR, hF, hT⟩ := ok
  intro H ls locs hl hM hz hS
  have hroom : 8 + (nL' + 11) + 40 * d' ≤ R.locals := by
    have h1 := hy.2.2.2
    have h2 := hR.2.1
    omega
  have hKu : ∀ U : State, U.heap = H → s.WarmedH U.vm → zP K D E A (.ref b :: As) M H.size (.ref b :: As).toArray U := fun U hU hW => ⟨rfl, by rw [hU], by rw [hU]; exact hM, va_K.moved hW.alike hK, fun q hq => hA q (Nat.le_trans hS.1 hq), zFx.warm hW hF, by rw [hU]; exact zStr.warm hW (hT.kept hS.2.1)⟩
  have hM1 := hC l D E A
  rw [show zSz (p, l, e, R, s, m, args, below, meth, c, D, E, A) + k = H.size from hz.symm] at hM1
  exact z_run (va_runIN (As := As) (rest := rest) (nL := nL) (own := yn.cls) (index := ix) (n := np) ⟨hx, hb, hml, hown, hts⟩ hM1 ⟨va_cnB (rm := zRm d' mc' ms') np hts (zgw_in hy) rfl rfl rfl (hw s hF) (hts _ hy.2.1) hy.2.2.1 ⟨Nat.le_trans hdd hR.1, hroom⟩, hnm2, hts _ hw2⟩ ⟨zP_blind, hKu⟩ rfl hlen hl.1 hst (lv_room hcat) hd ⟨Nat.le_trans hk hR.2.2.1, Nat.le_trans hn hR.2.2.2⟩) hz hS (fun r M' H1 locs1 hq hM' hz' hS' => by
    obtain ⟨rfl, hq⟩ := hq
    exact kk M' hq H1 ls locs1 hl hM' hz' hS')
theorem z_objInit {K : zK} {yn : MethodName} {cc : ByteArray} {nL : Nat} {ret : Option FieldType} {d mc ms : Nat} {B : zB} {Q : State → Prop} {pc : Nat} {L : List (Option Value)} {rest : List Value} {M : mM} {k n : Nat} {ix a : Nat} (ok : zOk K yn cc nL ret d mc ms B) (hd : decode cc pc = .ok (.invokespecial ix, 3)) (hw : Cond.methodLink yn.cls ix objectInit ∈ zgw) (hw2 : Cond.instanceMethod objectInit ∈ zgw) (hw3 : Cond.code objectInit ⟨#[0xb1]⟩ 1 none ∈ zgw) (hd1 : 1 ≤ d) (hcat : (rest.map fun v => v.category).sum ≤ 8)
    (kk : zV nL B Q (pc + 3) L rest M k n) : zV nL B Q pc L (.ref a :: rest) M k n := by
  obtain ⟨p, l, e, R, s, m, args, below, meth, c, D, E, A⟩ := B
  obtain ⟨⟨hx, hb, hml, hr, hown⟩, hts, hlocks, hK, hA, hnm, hR, hF, hT⟩ := ok
  intro H ls locs hl hM hz hS
  refine W.objInit hx hb hown (hts _ hw) (hts _ hw2) (hts _ hw3) rfl (by rw [hml]; exact hl.1) rfl hd (Nat.le_trans hd1 hR.1) ?_ (kk H ls locs hl hM hz hS)
  have h2 := hR.2.1
  have h3 := lv_room (m := m) (pc := pc) (ls := ls) (rest := rest) hcat
  show 2 * 0 + _ + 12 ≤ _
  omega
theorem z_iret {K : zK} {yn : MethodName} {cc : ByteArray} {nL : Nat} {ret : Option FieldType} {d mc ms : Nat} {B : zB} {pc : Nat} {L : List (Option Value)} {M : mM} {k n : Nat} {P : Int32 → mM → Prop} {x : Int32} {ty : FieldType} (ok : zOk K yn cc nL ret d mc ms B) (hd : decode cc pc = .ok (.ireturn, 1)) (hrt : ret = some ty) (hnr : narrow ty (.int x) = .int x) (hk : k = mc) (hn : n ≤ ms) (hq : P x M) : zV nL B (zE B (zI P) mc ms) pc L [.int x] M k n := by
  obtain ⟨p, l, e, R, s, m, args, below, meth, c, D, E, A⟩ := B
  obtain ⟨⟨hx, hb, hml, hr, hown⟩, hts, hlocks, hK, hA, hnm, hR, hF, hT⟩ := ok
  intro H ls locs hl hM hz hS
  exact W.widen (k := mc) (n := ms) (Nat.le_of_eq hk) hn (W.zret (v := x) hx hb (hr.trans hrt) hnr (fun t ht hW => ⟨⟨_, M, rfl, ⟨x, rfl, hq⟩, by rw [ht, hz, hk], by rw [ht]; exact hM, va_K.moved hW.alike hK⟩, hS.F ht⟩) hS.2.2 hd)
theorem z_vret {K : zK} {yn : MethodName} {cc : ByteArray} {nL : Nat} {ret : Option FieldType} {d mc ms : Nat} {B : zB} {pc : Nat} {L : List (Option Value)} {M : mM} {k n : Nat} {P : mM → Prop} (ok : zOk K yn cc nL ret d mc ms B) (hd : decode cc pc = .ok (.return_, 1)) (hrt : ret = none) (hk : k = mc) (hn : n ≤ ms) (hq : P M) : zV nL B (zE B (zU P) mc ms) pc L [] M k n := by
  obtain ⟨p, l, e, R, s, m, args, below, meth, c, D, E, A⟩ := B
  obtain ⟨⟨hx, hb, hml, hr, hown⟩, hts, hlocks, hK, hA, hnm, hR, hF, hT⟩ := ok
  intro H ls locs hl hM hz hS
  exact W.widen (k := mc) (n := ms) (Nat.le_of_eq hk) hn (W.vret hx hb (hr.trans hrt) (fun t ht hW => ⟨⟨_, M, rfl, ⟨rfl, hq⟩, by rw [ht, hz, hk], by rw [ht]; exact hM, va_K.moved hW.alike hK⟩, hS.F ht⟩) hS.2.2 hd)
theorem z_aret {K : zK} {yn : MethodName} {cc : ByteArray} {nL : Nat} {ret : Option FieldType} {d mc ms : Nat} {B : zB} {pc : Nat} {L : List (Option Value)} {M : mM} {k n : Nat} {P : Value → mM → Prop} {v : Value} {ty : FieldType} (ok : zOk K yn cc nL ret d mc ms B) (hd : decode cc pc = .ok (.areturn, 1)) (hrt : ret = some ty) (hty : (∃ n, ty = .object n) ∨ ∃ t, ty = .array t) (hv : v = .null ∨ ∃ a, v = .ref a) (hk : k = mc) (hn : n ≤ ms) (hq : P v M) : zV nL B (zE B (zA P) mc ms) pc L [v] M k n := by
  obtain ⟨p, l, e, R, s, m, args, below, meth, c, D, E, A⟩ := B
  obtain ⟨⟨hx, hb, hml, hr, hown⟩, hts, hlocks, hK, hA, hnm, hR, hF, hT⟩ := ok
  intro H ls locs hl hM hz hS
  exact W.widen (k := mc) (n := ms) (Nat.le_of_eq hk) hn (W.aret (v := v) hx hb (hr.trans hrt) hty hv (fun t ht hW => ⟨⟨_, M, rfl, ⟨v, rfl, hq⟩, by rw [ht, hz, hk], by rw [ht]; exact hM, va_K.moved hW.alike hK⟩, hS.F ht⟩) hS.2.2 hd)
/-- fewer locals are listed from here on -/
theorem z_le {nL : Nat} {B : zB} {Q : State → Prop} {pc : Nat} {L L' : List (Option Value)} {stk : List Value} {M : mM} {k n : Nat} (h : zle L' L) (kk : zV nL B Q pc L' stk M k n) : zV nL B Q pc L stk M k n := by
  obtain ⟨p, l, e, R, s, m, args, below, meth, c, D, E, A⟩ := B
  intro H ls locs hl hM hz hS
  exact kk H ls locs (hl.le h) hM hz hS
/-- a contract says more than another -/
theorem zCt.mono {K : zK} {yn : MethodName} {cc : ByteArray} {nL : Nat} {ret : Option FieldType} {d : Nat} {av : List Value} {M : mM} {nx mc ms : Nat} {P Q : Option Value → mM → Prop} (h : zCt K yn cc nL ret d av M nx mc ms P) (hPQ : ∀ r M', P r M' → Q r M') : zCt K yn cc nL ret d av M nx mc ms Q := by
  intro l D E A
  exact MetFree.mono (h l D E A) (fun _ _ h => h) (fun _ _ _ _ _ h => h) (fun a st o t _ h => ⟨⟨by
    obtain ⟨r, M', h1, h2, h3⟩ := h.1.1
    exact ⟨r, M', h1, hPQ r M' h2, h3⟩, h.1.2⟩, h.2⟩)

