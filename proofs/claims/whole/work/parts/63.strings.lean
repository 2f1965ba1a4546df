theorem z_strV {K : zK} {yn : MethodName} {cc : ByteArray} {nL : Nat} {ret : Option FieldType} {d mc ms : Nat} {B : zB} {Q : State → Prop} {pc : Nat} {L : List (Option Value)} {rest : List Value} {M : mM} {k n : Nat} {ix i : Nat} (ok : zOk K yn cc nL ret d mc ms B) (hd : decode cc pc = .ok (.getfield ix, 3)) (hi : i < 8) (hw : Cond.fieldLink yn.cls ix "java/lang/String" "value" "[B" ∈ zgw)
    (kk : zV nL B Q (pc + 3) L (.ref (K.2 i) :: rest) M k n) : zV nL B Q pc L (.ref (K.1 i) :: rest) M k n := by
  obtain ⟨p, l, e, R, s, m, args, below, meth, c, D, E, A⟩ := B
  obtain ⟨⟨hx, hb, hml, hr, hown⟩, hts, hlocks, hK, hA, hnm, hR, hF, hT⟩ := ok
  intro H ls locs hl hM hz hS
  exact vk_getf hx hb (hT.1.1 i hi).2.2.1 hS hown (hts _ hw) (fun _ h9 => h9) hd (kk H ls locs hl hM hz hS)
theorem z_strC {K : zK} {yn : MethodName} {cc : ByteArray} {nL : Nat} {ret : Option FieldType} {d mc ms : Nat} {B : zB} {Q : State → Prop} {pc : Nat} {L : List (Option Value)} {rest : List Value} {M : mM} {k n : Nat} {ix i : Nat} (ok : zOk K yn cc nL ret d mc ms B) (hd : decode cc pc = .ok (.getfield ix, 3)) (hi : i < 8) (hw : Cond.fieldLink yn.cls ix "java/lang/String" "coder" "B" ∈ zgw)
    (kk : zV nL B Q (pc + 3) L (.int 0 :: rest) M k n) : zV nL B Q pc L (.ref (K.1 i) :: rest) M k n := by
  obtain ⟨pω, lω, eω, Rω, sω, mω, argsω, belowω, methω, cω, Dω, Eω, Aω⟩ := B
  obtain ⟨⟨hxω, hbω, hmlω, hrω, hownω⟩, htsω, hlocksω, hK, hAω, hnmω, hRω, hFω, hTω⟩ := ok
  intro Hω lsω locsω hlω hMω hzω hSω
  exact vk_getf hxω hbω (hTω.1.1 i hi).2.1 hSω hownω (htsω _ hw) (fun _ h9ω => h9ω) hd (kk Hω lsω locsω hlω hMω hzω hSω)
theorem z_strL {K : zK} {yn : MethodName} {cc : ByteArray} {nL : Nat} {ret : Option FieldType} {d mc ms : Nat} {B : zB} {Q : State → Prop} {pc : Nat} {L : List (Option Value)} {rest : List Value} {M : mM} {k n : Nat} {i : Nat} (ok : zOk K yn cc nL ret d mc ms B) (hd : decode cc pc = .ok (.arraylength, 1)) (hi : i < 8)
    (kk : zV nL B Q (pc + 1) L (.int (nI (zLen.getD i 0)) :: rest) M k n) : zV nL B Q pc L (.ref (K.2 i) :: rest) M k n := by
  obtain ⟨pω, lω, eω, Rω, sω, mω, argsω, belowω, methω, cω, Dω, Eω, Aω⟩ := B
  obtain ⟨⟨hxω, hbω, hmlω, hrω, hownω⟩, htsω, hlocksω, hK, hAω, hnmω, hRω, hFω, hTω⟩ := ok
  intro Hω lsω locsω hlω hMω hzω hSω
  exact va_tlen hxω hbω (hTω.1.1 i hi).2.2.2 hSω rfl hd (kk Hω lsω locsω hlω hMω hzω hSω)
def zLtr (i j : Nat) : Int32 := (zByt.getD i []).getD j 0
theorem z_strB {K : zK} {yn : MethodName} {cc : ByteArray} {nL : Nat} {ret : Option FieldType} {d mc ms : Nat} {B : zB} {Q : State → Prop} {pc : Nat} {L : List (Option Value)} {rest : List Value} {M : mM} {k n : Nat} {i j : Nat} {x : Int32} (ok : zOk K yn cc nL ret d mc ms B) (hd : decode cc pc = .ok (.baload, 1)) (hi : i < 8) (hj : j < zLen.getD i 0) (hj8 : zLen.getD i 0 < 2 ^ 31) (hxj : x = nI j)
    (kk : zV nL B Q (pc + 1) L (.int (zLtr i j) :: rest) M k n) : zV nL B Q pc L (.int x :: .ref (K.2 i) :: rest) M k n := by
  obtain ⟨pω, lω, eω, Rω, sω, mω, argsω, belowω, methω, cω, Dω, Eω, Aω⟩ := B
  obtain ⟨⟨hxω, hbω, hmlω, hrω, hownω⟩, htsω, hlocksω, hK, hAω, hnmω, hRω, hFω, hTω⟩ := ok
  intro Hω lsω locsω hlω hMω hzω hSω
  exact va_tb hxω hbω (hTω.1.1 i hi).2.2.2 hSω (by rw [hxj]; exact vp_in_nI hj hj8) (by rw [hxj, nI_clamp (by omega)]; rfl) hd (kk Hω lsω locsω hlω hMω hzω hSω)
theorem z_getCS {K : zK} {yn : MethodName} {cc : ByteArray} {nL : Nat} {ret : Option FieldType} {d mc ms : Nat} {B : zB} {Q : State → Prop} {pc : Nat} {L : List (Option Value)} {rest : List Value} {M : mM} {k n : Nat} {ix : Nat} (ok : zOk K yn cc nL ret d mc ms B) (hd : decode cc pc = .ok (.getstatic ix, 3)) (hw : Cond.fieldLink yn.cls ix "java/lang/String" "COMPACT_STRINGS" "Z" ∈ zgw)
    (kk : zV nL B Q (pc + 3) L (.int 1 :: rest) M k n) : zV nL B Q pc L rest M k n := by
  obtain ⟨pω, lω, eω, Rω, sω, mω, argsω, belowω, methω, cω, Dω, Eω, Aω⟩ := B
  obtain ⟨⟨hxω, hbω, hmlω, hrω, hownω⟩, htsω, hlocksω, hK, hAω, hnmω, hRω, hFω, hTω⟩ := ok
  intro Hω lsω locsω hlω hMω hzω hSω
  exact va_gets hxω hbω hTω.2.2.1 hSω hownω (htsω _ hw) (fun _ h9ω => h9ω) hd (kk Hω lsω locsω hlω hMω hzω hSω)
theorem z_getFM {K : zK} {yn : MethodName} {cc : ByteArray} {nL : Nat} {ret : Option FieldType} {d mc ms : Nat} {B : zB} {Q : State → Prop} {pc : Nat} {L : List (Option Value)} {rest : List Value} {M : mM} {k n : Nat} {ix : Nat} (ok : zOk K yn cc nL ret d mc ms B) (hd : decode cc pc = .ok (.getstatic ix, 3)) (hw : Cond.fieldLink yn.cls ix "jdk/internal/util/Preconditions" "SIOOBE_FORMATTER" "Ljava/util/function/BiFunction;" ∈ zgw)
    (k1 : zV nL B Q (pc + 3) L (.null :: rest) M k n) (k2 : ∀ t : Nat, zV nL B Q (pc + 3) L (.ref t :: rest) M k n) : zV nL B Q pc L rest M k n := by
  obtain ⟨pω, lω, eω, Rω, sω, mω, argsω, belowω, methω, cω, Dω, Eω, Aω⟩ := B
  obtain ⟨⟨hxω, hbω, hmlω, hrω, hownω⟩, htsω, hlocksω, hK, hAω, hnmω, hRω, hFω, hTω⟩ := ok
  intro Hω lsω locsω hlω hMω hzω hSω
  rcases hTω.2.2.2 with hZω | ⟨tω, hZω⟩
  · exact va_gets hxω hbω hZω hSω hownω (htsω _ hw) (fun _ h9ω => h9ω) hd (k1 Hω lsω locsω hlω hMω hzω hSω)
  · exact va_gets hxω hbω hZω hSω hownω (htsω _ hw) (fun _ h9ω => h9ω) hd (k2 tω Hω lsω locsω hlω hMω hzω hSω)
theorem z_callVS {K : zK} {yn : MethodName} {cc : ByteArray} {nL : Nat} {ret : Option FieldType} {d mc ms : Nat} {B : zB} {Q : State → Prop} {pc : Nat} {L : List (Option Value)} {rest : List Value} {M : mM} {k n : Nat} {y' : MethodName} {cc' : ByteArray} {nL' np ix : Nat} {ret' : Option FieldType} {d' mc' ms' : Nat} {i : Nat} {As : List Value} {P : Int32 → mM → Prop} {stk : List Value} (ok : zOk K yn cc nL ret d mc ms B) (hd : decode cc pc = .ok (.invokevirtual ix, 3)) (hy : zMeth y' cc' nL' ret' np) (hw : Cond.methodLink yn.cls ix y' ∈ zgw) (hw2 : Cond.instanceMethod y' ∈ zgw ∧ Cond.selects y'.cls y' y' ∈ zgw) (hi : i < 8) (hcl : y'.cls = "java/lang/String") (hC : zCt K y' cc' nL' ret' d' (.ref (K.1 i) :: As) M (zSz B + k) mc' ms' (zI P)) (hst : stk = As.reverse ++ .ref (K.1 i) :: rest) (hlen : As.length = np) (hdd : d' + 1 ≤ d) (hk : k + mc' ≤ mc) (hn : n + ms' ≤ ms) (hcat : (rest.map fun v => v.category).sum ≤ 8)
    (kk : ∀ (x : Int32) (M' : mM), P x M' → zV nL B Q (pc + 3) L (.int x :: rest) M' (k + mc') (n + ms')) : zV nL B Q pc L stk M k n := by
  obtain ⟨pω, lω, eω, Rω, sω, mω, argsω, belowω, methω, cω, Dω, Eω, Aω⟩ := B
  obtain ⟨⟨hxω, hbω, hmlω, hrω, hownω⟩, htsω, hlocksω, hK, hAω, hnmω, hRω, hFω, hTω⟩ := ok
  intro Hω lsω locsω hlω hMω hzω hSω
  have hroomω : 8 + (nL' + 11) + 40 * d' ≤ Rω.locals := by
    have h1ω := hy.2.2.2
    have h2ω := hRω.2.1
    omega
  have hKuω : ∀ Uω : State, Uω.heap = Hω → sω.WarmedH Uω.vm → zP K Dω Eω Aω (.ref (K.1 i) :: As) M Hω.size (.ref (K.1 i) :: As).toArray Uω := fun Uω hUω hWω => ⟨rfl, by rw [hUω], by rw [hUω]; exact hMω, va_K.moved hWω.alike hK, fun qω hqω => hAω qω (Nat.le_trans hSω.1 hqω), zFx.warm hWω hFω, by rw [hUω]; exact zStr.warm hWω (hTω.kept hSω.2.1)⟩
  have hM1ω := hC lω Dω Eω Aω
  rw [show zSz (pω, lω, eω, Rω, sω, mω, argsω, belowω, methω, cω, Dω, Eω, Aω) + k = Hω.size from hzω.symm] at hM1ω
  exact z_run (va_runV (C := y'.cls) (As := As) (rest := rest) (nL := nL) (own := yn.cls) (index := ix) (n := np) ⟨hxω, hbω, hmlω, hownω, htsω⟩ hM1ω ⟨callB_of (ws := Cond.code y' cc' nL' ret' :: zgw) (rm := zRm d' mc' ms') np htsω (zgw_in hy) rfl rfl rfl (htsω _ hy.2.1) (htsω _ hw) hy.2.2.1 ⟨Nat.le_trans hdd hRω.1, hroomω⟩, htsω _ hw2.1, htsω _ hw2.2⟩ ⟨zP_blind, (by rw [hcl]; exact vk_recv hTω.1 hi hSω), hKuω⟩ rfl hlen hlω.1 hst (lv_room hcat) hd ⟨Nat.le_trans hk hRω.2.2.1, Nat.le_trans hn hRω.2.2.2⟩) hzω hSω (fun rω M'ω H1ω locs1ω hqω hM'ω hz'ω hS'ω => by
    obtain ⟨xω, rfl, hqω⟩ := hqω
    exact kk xω M'ω hqω H1ω lsω locs1ω hlω hM'ω hz'ω hS'ω)
theorem zLtr_n : ∀ i, i < 8 → ∀ j, j < 5 → ((zLtr i j &&& 255).toUInt32 % 65536).toInt32 = zLtr i j := by decide +kernel
theorem zLtr_m : ∀ i, i < 8 → ∀ j, j < 5 → ((zLtr i j).toUInt32 % 65536).toInt32 = zLtr i j := by decide +kernel
theorem zLtr_nar {i j : Nat} (hi : i < 8) (hj : j < 5) : narrow .char (.int (zLtr i j)) = .int (zLtr i j) := congrArg Value.int (zLtr_m i hi j hj)
theorem zLen_5 : ∀ i, i < 8 → zLen.getD i 0 ≤ 5 := by decide
theorem zLen_s : ∀ i, i < 8 → nI (zLen.getD i 0) >>> ((0 : Int32) &&& 31) = nI (zLen.getD i 0) := by decide +kernel
set_option maxRecDepth 20000 in
set_option maxHeartbeats 4000000 in
theorem ct_J0_coder_7d493 {K : zK} {M : mM} {nx : Nat} {i : Nat} (hi : i < 8) : zCt K yJ0_coder_7d493 cJ0_coder_7d493 1 zr_J0_coder_7d493 0 [.ref (K.1 i)] M nx 0 0 (zI (fun x M' => x = 0 ∧ M' = M)) := by
  refine z_enter [some (.ref (K.1 i))] (by decide +kernel) (Nat.le_of_ble_eq_true rfl) rfl (fun Bω okω hzω => ?_)
  refine z_getCS okω dJ0_coder_7d493_0 zw_692 ?_
  refine z_if_eq (tgt := 13) okω dJ0_coder_7d493_3 (by decide) (fun q9ω => absurd q9ω (by decide)) (fun _ => ?_)
  refine z_aload_n okω dJ0_coder_7d493_6 rfl ?_
  refine z_strC okω dJ0_coder_7d493_7 hi zw_1058 ?_
  refine z_goto (tgt := 14) okω dJ0_coder_7d493_10 (by decide) ?_
  exact z_iret okω dJ0_coder_7d493_14 rfl rfl rfl (Nat.zero_le _) ⟨rfl, rfl⟩

set_option maxRecDepth 20000 in
set_option maxHeartbeats 4000000 in
theorem ct_J0_isLatin1_aae02 {K : zK} {M : mM} {nx : Nat} {i : Nat} (hi : i < 8) : zCt K yJ0_isLatin1_aae02 cJ0_isLatin1_aae02 1 zr_J0_isLatin1_aae02 0 [.ref (K.1 i)] M nx 0 0 (zI (fun x M' => x = 1 ∧ M' = M)) := by
  refine z_enter [some (.ref (K.1 i))] (by decide +kernel) (Nat.le_of_ble_eq_true rfl) rfl (fun Bω okω hzω => ?_)
  refine z_getCS okω dJ0_isLatin1_aae02_0 zw_692 ?_
  refine z_if_eq (tgt := 17) okω dJ0_isLatin1_aae02_3 (by decide) (fun q9ω => absurd q9ω (by decide)) (fun _ => ?_)
  refine z_aload_n okω dJ0_isLatin1_aae02_6 rfl ?_
  refine z_strC okω dJ0_isLatin1_aae02_7 hi zw_1058 ?_
  refine z_if_ne (tgt := 17) okω dJ0_isLatin1_aae02_10 (by decide) (fun q9ω => absurd rfl q9ω) (fun _ => ?_)
  refine z_iconst (v := 1) okω dJ0_isLatin1_aae02_13 (by decide) ?_
  refine z_goto (tgt := 18) okω dJ0_isLatin1_aae02_14 (by decide) ?_
  exact z_iret okω dJ0_isLatin1_aae02_18 rfl rfl rfl (Nat.zero_le _) ⟨rfl, rfl⟩

set_option maxRecDepth 20000 in
set_option maxHeartbeats 4000000 in
theorem ct_J0_length_8abf5 {K : zK} {M : mM} {nx : Nat} {i : Nat} (hi : i < 8) : zCt K yJ0_length_8abf5 cJ0_length_8abf5 1 zr_J0_length_8abf5 1 [.ref (K.1 i)] M nx 0 0 (zI (fun x M' => x = nI (zLen.getD i 0) ∧ M' = M)) := by
  refine z_enter [some (.ref (K.1 i))] (by decide +kernel) (Nat.le_of_ble_eq_true rfl) rfl (fun Bω okω hzω => ?_)
  refine z_aload_n okω dJ0_length_8abf5_0 rfl ?_
  refine z_strV okω dJ0_length_8abf5_1 hi zw_1057 ?_
  refine z_strL okω dJ0_length_8abf5_4 hi ?_
  refine z_aload_n okω dJ0_length_8abf5_5 rfl ?_
  refine z_callVS okω dJ0_length_8abf5_6 zm_J0_coder_7d493 zw_688 zi_J0_coder_7d493 hi rfl (ct_J0_coder_7d493 hi) rfl rfl (by decide) (by decide) (by decide) (Nat.le_of_ble_eq_true rfl) (fun _ Mzω q9ω => ?_)
  obtain ⟨rfl, hMeω⟩ := q9ω
  obtain rfl := hMeω.symm
  refine z_ishr okω dJ0_length_8abf5_9 ?_
  rw [zLen_s i hi]
  exact z_iret okω dJ0_length_8abf5_10 rfl rfl rfl (Nat.zero_le _) ⟨rfl, rfl⟩

set_option maxRecDepth 20000 in
set_option maxHeartbeats 4000000 in
theorem ct_chkN {K : zK} {M : mM} {nx : Nat} {x y : Int32} {t : Nat} (h0 : ¬ x < 0) (h1 : x < y) : zCt K yJ3_checkIndex_8e157 cJ3_checkIndex_8e157 3 zr_J3_checkIndex_8e157 0 [.int x, .int y, .null] M nx 0 0 (zI (fun z M' => z = x ∧ M' = M)) := by
  refine z_enter [some (.int x), some (.int y), some (.null)] (by decide +kernel) (Nat.le_of_ble_eq_true rfl) rfl (fun Bω okω hzω => ?_)
  refine z_iload_n okω dJ3_checkIndex_8e157_0 rfl ?_
  refine z_if_lt (tgt := 9) okω dJ3_checkIndex_8e157_1 (by decide) (fun q9ω => absurd q9ω h0) (fun _ => ?_)
  refine z_iload_n okω dJ3_checkIndex_8e157_4 rfl ?_
  refine z_iload_n okω dJ3_checkIndex_8e157_5 rfl ?_
  refine z_icmp_lt (tgt := 16) okω dJ3_checkIndex_8e157_6 (by decide) (fun _ => ?_) (fun q9ω => absurd h1 q9ω)
  refine z_iload_n okω dJ3_checkIndex_8e157_16 rfl ?_
  exact z_iret okω dJ3_checkIndex_8e157_17 rfl rfl rfl (Nat.zero_le _) ⟨rfl, rfl⟩

set_option maxRecDepth 20000 in
set_option maxHeartbeats 4000000 in
theorem ct_chkR {K : zK} {M : mM} {nx : Nat} {x y : Int32} {t : Nat} (h0 : ¬ x < 0) (h1 : x < y) : zCt K yJ3_checkIndex_8e157 cJ3_checkIndex_8e157 3 zr_J3_checkIndex_8e157 0 [.int x, .int y, .ref t] M nx 0 0 (zI (fun z M' => z = x ∧ M' = M)) := by
  refine z_enter [some (.int x), some (.int y), some (.ref t)] (by decide +kernel) (Nat.le_of_ble_eq_true rfl) rfl (fun Bω okω hzω => ?_)
  refine z_iload_n okω dJ3_checkIndex_8e157_0 rfl ?_
  refine z_if_lt (tgt := 9) okω dJ3_checkIndex_8e157_1 (by decide) (fun q9ω => absurd q9ω h0) (fun _ => ?_)
  refine z_iload_n okω dJ3_checkIndex_8e157_4 rfl ?_
  refine z_iload_n okω dJ3_checkIndex_8e157_5 rfl ?_
  refine z_icmp_lt (tgt := 16) okω dJ3_checkIndex_8e157_6 (by decide) (fun _ => ?_) (fun q9ω => absurd h1 q9ω)
  refine z_iload_n okω dJ3_checkIndex_8e157_16 rfl ?_
  exact z_iret okω dJ3_checkIndex_8e157_17 rfl rfl rfl (Nat.zero_le _) ⟨rfl, rfl⟩

set_option maxRecDepth 20000 in
set_option maxHeartbeats 4000000 in
theorem ct_J0_checkIndex_df160 {K : zK} {M : mM} {nx : Nat} {x y : Int32} (h0 : ¬ x < 0) (h1 : x < y) : zCt K yJ0_checkIndex_df160 cJ0_checkIndex_df160 2 zr_J0_checkIndex_df160 1 [.int x, .int y] M nx 0 0 (zU (fun M' => M' = M)) := by
  refine z_enter [some (.int x), some (.int y)] (by decide +kernel) (Nat.le_of_ble_eq_true rfl) rfl (fun Bω okω hzω => ?_)
  refine z_iload_n okω dJ0_checkIndex_df160_0 rfl ?_
  refine z_iload_n okω dJ0_checkIndex_df160_1 rfl ?_
  refine z_getFM okω dJ0_checkIndex_df160_2 zw_708 ?_ (fun t9ω => ?_)
  · refine z_callSi okω dJ0_checkIndex_df160_5 zm_J3_checkIndex_8e157 zw_710 zw_711 (ct_chkN (t := 0) h0 h1) rfl rfl (by decide) (by decide) (by decide) (Nat.le_of_ble_eq_true rfl) (fun _ Mzω q9ω => ?_)
    obtain ⟨rfl, hMeω⟩ := q9ω
    obtain rfl := hMeω.symm
    refine z_pop okω dJ0_checkIndex_df160_8 rfl ?_
    exact z_vret okω dJ0_checkIndex_df160_9 rfl rfl (Nat.zero_le _) rfl
  · refine z_callSi okω dJ0_checkIndex_df160_5 zm_J3_checkIndex_8e157 zw_710 zw_711 (ct_chkR (t := t9ω) h0 h1) rfl rfl (by decide) (by decide) (by decide) (Nat.le_of_ble_eq_true rfl) (fun _ Mzω q9ω => ?_)
    obtain ⟨rfl, hMeω⟩ := q9ω
    obtain rfl := hMeω.symm
    refine z_pop okω dJ0_checkIndex_df160_8 rfl ?_
    exact z_vret okω dJ0_checkIndex_df160_9 rfl rfl (Nat.zero_le _) rfl

set_option maxRecDepth 20000 in
set_option maxHeartbeats 4000000 in
theorem ct_J1_charAt_3b067 {K : zK} {M : mM} {nx : Nat} {i j : Nat} (hi : i < 8) (hj : j < zLen.getD i 0) : zCt K yJ1_charAt_3b067 cJ1_charAt_3b067 2 zr_J1_charAt_3b067 2 [.ref (K.2 i), .int (nI j)] M nx 0 0 (zI (fun x M' => x = zLtr i j ∧ M' = M)) := by
  refine z_enter [some (.ref (K.2 i)), some (.int (nI j))] (by decide +kernel) (Nat.le_of_ble_eq_true rfl) rfl (fun Bω okω hzω => ?_)
  have h5ω := zLen_5 i hi
  refine z_iload_n okω dJ1_charAt_3b067_0 rfl ?_
  refine z_aload_n okω dJ1_charAt_3b067_1 rfl ?_
  refine z_strL okω dJ1_charAt_3b067_2 hi ?_
  refine z_callSv okω dJ1_charAt_3b067_3 zm_J0_checkIndex_df160 zw_705 zw_706 (ct_J0_checkIndex_df160 (nI_pos (by omega)) (by rw [Int32.lt_iff_toInt_lt, nI_toInt (by omega), nI_toInt (by omega)]; omega)) rfl rfl (by decide) (by decide) (by decide) (Nat.le_of_ble_eq_true rfl) (fun Mzω q9ω => ?_)
  obtain rfl := q9ω.symm
  refine z_aload_n okω dJ1_charAt_3b067_6 rfl ?_
  refine z_iload_n okω dJ1_charAt_3b067_7 rfl ?_
  refine z_strB okω dJ1_charAt_3b067_8 hi hj (by omega) rfl ?_
  refine z_sipush (v := 255) okω dJ1_charAt_3b067_9 (by decide) ?_
  refine z_iand okω dJ1_charAt_3b067_12 ?_
  refine z_i2c okω dJ1_charAt_3b067_13 ?_
  rw [zLtr_n i hi j (by omega)]
  exact z_iret okω dJ1_charAt_3b067_14 rfl (zLtr_nar hi (by omega)) rfl (Nat.zero_le _) ⟨rfl, rfl⟩

set_option maxRecDepth 20000 in
set_option maxHeartbeats 4000000 in
theorem ct_J0_charAt_5068e {K : zK} {M : mM} {nx : Nat} {i j : Nat} (hi : i < 8) (hj : j < zLen.getD i 0) : zCt K yJ0_charAt_5068e cJ0_charAt_5068e 2 zr_J0_charAt_5068e 3 [.ref (K.1 i), .int (nI j)] M nx 0 0 (zI (fun x M' => x = zLtr i j ∧ M' = M)) := by
  refine z_enter [some (.ref (K.1 i)), some (.int (nI j))] (by decide +kernel) (Nat.le_of_ble_eq_true rfl) rfl (fun Bω okω hzω => ?_)
  have h5ω := zLen_5 i hi
  refine z_aload_n okω dJ0_charAt_5068e_0 rfl ?_
  refine z_callVS okω dJ0_charAt_5068e_1 zm_J0_isLatin1_aae02 zw_698 zi_J0_isLatin1_aae02 hi rfl (ct_J0_isLatin1_aae02 hi) rfl rfl (by decide) (by decide) (by decide) (Nat.le_of_ble_eq_true rfl) (fun _ Mzω q9ω => ?_)
  obtain ⟨rfl, hMeω⟩ := q9ω
  obtain rfl := hMeω.symm
  refine z_if_eq (tgt := 16) okω dJ0_charAt_5068e_4 (by decide) (fun q9ω => absurd q9ω (by decide)) (fun _ => ?_)
  refine z_aload_n okω dJ0_charAt_5068e_7 rfl ?_
  refine z_strV okω dJ0_charAt_5068e_8 hi zw_1057 ?_
  refine z_iload_n okω dJ0_charAt_5068e_11 rfl ?_
  refine z_callSi okω dJ0_charAt_5068e_12 zm_J1_charAt_3b067 zw_702 zw_703 (ct_J1_charAt_3b067 hi hj) rfl rfl (by decide) (by decide) (by decide) (Nat.le_of_ble_eq_true rfl) (fun _ Mzω q9ω => ?_)
  obtain ⟨rfl, hMeω⟩ := q9ω
  obtain rfl := hMeω.symm
  exact z_iret okω dJ0_charAt_5068e_15 rfl (zLtr_nar hi (by omega)) rfl (Nat.zero_le _) ⟨rfl, rfl⟩

