set_option maxRecDepth 20000 in
set_option maxHeartbeats 4000000 in
theorem lw_body {B : zB} {Q : State → Prop} {K : zK} {nm : String} {b lx c j : Nat} {xs : Nat → Int32} (ok : zOk K (⟨"FreightSplitsLaw", nm, "([I)Z"⟩ : MethodName) cL_law 4 ret 11 600000 7302250 B) (hX : lX B b lx xs) (hL : lx ≤ 3584) (hj : j + 7 ≤ lx) {M : mM} (hI : lI c M) (next : ∀ M2, lI c M2 → zV 4 B Q 851 [some (.ref b), some (.ref c), some (.ref (c + 251)), some (.int (nI j))] [] M2 260 4599) : zV 4 B Q 27 [some (.ref b), some (.ref c), some (.ref (c + 251)), some (.int (nI j))] [] M 260 4599 := by
  refine z_aload_n ok dL_law_27 rfl ?_
  refine z_iload_n ok dL_law_28 rfl ?_
  refine z_sld (j + 0) ok dL_law_29 hX rfl (by omega) hL ?_
  refine z_bipush (v := 31) ok dL_law_30 (by decide) ?_
  refine z_iand ok dL_law_32 ?_
  rcases zsw (xs (j + 0) &&& 31) 22 (by omega) with hs | ⟨ks, hks, hs⟩
  · exact z_tableOut (tgt := 851) ok dL_law_33 hs (by decide) (next _ hI)
  · rcases (by omega : ks = 0 ∨ ks = 1 ∨ ks = 2 ∨ ks = 3 ∨ ks = 4 ∨ ks = 5 ∨ ks = 6 ∨ ks = 7 ∨ ks = 8 ∨ ks = 9 ∨ ks = 10 ∨ ks = 11 ∨ ks = 12 ∨ ks = 13 ∨ ks = 14 ∨ ks = 15 ∨ ks = 16 ∨ ks = 17 ∨ ks = 18 ∨ ks = 19 ∨ ks = 20 ∨ ks = 21 ∨ ks = 22) with h9 | h9 | h9 | h9 | h9 | h9 | h9 | h9 | h9 | h9 | h9 | h9 | h9 | h9 | h9 | h9 | h9 | h9 | h9 | h9 | h9 | h9 | h9
    · rw [hs, h9]
      exact z_tableIn (off := 107) (tgt := 140) ok dL_law_33 (by decide) (by decide) rfl (by decide) (lw_c0 ok hX hL hj hI next)
    · rw [hs, h9]
      exact z_tableIn (off := 182) (tgt := 215) ok dL_law_33 (by decide) (by decide) rfl (by decide) (lw_c1 ok hX hL hj hI next)
    · rw [hs, h9]
      exact z_tableIn (off := 225) (tgt := 258) ok dL_law_33 (by decide) (by decide) rfl (by decide) (lw_c2 ok hX hL hj hI next)
    · rw [hs, h9]
      exact z_tableIn (off := 258) (tgt := 291) ok dL_law_33 (by decide) (by decide) rfl (by decide) (lw_c3 ok hX hL hj hI next)
    · rw [hs, h9]
      exact z_tableIn (off := 291) (tgt := 324) ok dL_law_33 (by decide) (by decide) rfl (by decide) (lw_c4 ok hX hL hj hI next)
    · rw [hs, h9]
      exact z_tableIn (off := 324) (tgt := 357) ok dL_law_33 (by decide) (by decide) rfl (by decide) (lw_c5 ok hX hL hj hI next)
    · rw [hs, h9]
      exact z_tableIn (off := 347) (tgt := 380) ok dL_law_33 (by decide) (by decide) rfl (by decide) (lw_c6 ok hX hL hj hI next)
    · rw [hs, h9]
      exact z_tableIn (off := 390) (tgt := 423) ok dL_law_33 (by decide) (by decide) rfl (by decide) (lw_c7 ok hX hL hj hI next)
    · rw [hs, h9]
      exact z_tableIn (off := 413) (tgt := 446) ok dL_law_33 (by decide) (by decide) rfl (by decide) (lw_c8 ok hX hL hj hI next)
    · rw [hs, h9]
      exact z_tableIn (off := 476) (tgt := 509) ok dL_law_33 (by decide) (by decide) rfl (by decide) (lw_c9 ok hX hL hj hI next)
    · rw [hs, h9]
      exact z_tableIn (off := 499) (tgt := 532) ok dL_law_33 (by decide) (by decide) rfl (by decide) (lw_c10 ok hX hL hj hI next)
    · rw [hs, h9]
      exact z_tableIn (off := 532) (tgt := 565) ok dL_law_33 (by decide) (by decide) rfl (by decide) (lw_c11 ok hX hL hj hI next)
    · rw [hs, h9]
      exact z_tableIn (off := 565) (tgt := 598) ok dL_law_33 (by decide) (by decide) rfl (by decide) (lw_c12 ok hX hL hj hI next)
    · rw [hs, h9]
      exact z_tableIn (off := 598) (tgt := 631) ok dL_law_33 (by decide) (by decide) rfl (by decide) (lw_c13 ok hX hL hj hI next)
    · rw [hs, h9]
      exact z_tableIn (off := 631) (tgt := 664) ok dL_law_33 (by decide) (by decide) rfl (by decide) (lw_c14 ok hX hL hj hI next)
    · rw [hs, h9]
      exact z_tableIn (off := 654) (tgt := 687) ok dL_law_33 (by decide) (by decide) rfl (by decide) (lw_c15 ok hX hL hj hI next)
    · rw [hs, h9]
      exact z_tableIn (off := 697) (tgt := 730) ok dL_law_33 (by decide) (by decide) rfl (by decide) (lw_c16 ok hX hL hj hI next)
    · rw [hs, h9]
      exact z_tableIn (off := 720) (tgt := 753) ok dL_law_33 (by decide) (by decide) rfl (by decide) (lw_c17 ok hX hL hj hI next)
    · rw [hs, h9]
      exact z_tableIn (off := 733) (tgt := 766) ok dL_law_33 (by decide) (by decide) rfl (by decide) (lw_c18 ok hX hL hj hI next)
    · rw [hs, h9]
      exact z_tableIn (off := 746) (tgt := 779) ok dL_law_33 (by decide) (by decide) rfl (by decide) (lw_c19 ok hX hL hj hI next)
    · rw [hs, h9]
      exact z_tableIn (off := 769) (tgt := 802) ok dL_law_33 (by decide) (by decide) rfl (by decide) (lw_c20 ok hX hL hj hI next)
    · rw [hs, h9]
      exact z_tableIn (off := 782) (tgt := 815) ok dL_law_33 (by decide) (by decide) rfl (by decide) (lw_c21 ok hX hL hj hI next)
    · rw [hs, h9]
      exact z_tableIn (off := 805) (tgt := 838) ok dL_law_33 (by decide) (by decide) rfl (by decide) (lw_c22 ok hX hL hj hI next)
theorem lw_cmp {j lx : Nat} (hL : lx ≤ 3584) (hj : j ≤ lx) (h : ¬ nI j > Int32.ofNat lx - 7) : j + 7 ≤ lx := by
  by_cases h7 : lx < 7
  · exfalso
    apply h
    show Int32.ofNat lx - 7 < nI j
    rw [Int32.lt_iff_toInt_lt, nI_toInt (by omega)]
    have h8ω : ∀ kω, kω < 7 → (Int32.ofNat kω - 7).toInt < 0 := by decide +kernel
    have h9ω := h8ω lx h7
    omega
  · have eω : Int32.ofNat lx - 7 = nI (lx - 7) := by
      rw [Int32.sub_eq_add_neg]
      rw [show Int32.ofNat lx = nI (lx - 7) + 7 from by rw [show (7 : Int32) = nI 7 from rfl, nI_add, show lx - 7 + 7 = lx from by omega]; rfl, Int32.add_assoc, show (7 : Int32) + -7 = 0 from by decide, Int32.add_zero]
    rw [eω] at h
    have h9ω := mt (show nI (lx - 7) < nI j → nI j > nI (lx - 7) from id) h
    rw [Int32.lt_iff_toInt_lt, nI_toInt (by omega), nI_toInt (by omega)] at h9ω
    omega
set_option maxRecDepth 20000 in
set_option maxHeartbeats 4000000 in
theorem lw_loop {B : zB} {Q : State → Prop} {K : zK} {nm : String} {b lx c : Nat} {xs : Nat → Int32} (ok : zOk K (⟨"FreightSplitsLaw", nm, "([I)Z"⟩ : MethodName) cL_law 4 ret 11 600000 7302250 B) (hX : lX B b lx xs) (hL : lx ≤ 3584) (fin : ∀ (j : Nat) (M2 : mM), zV 4 B Q 857 [some (.ref b), some (.ref c), some (.ref (c + 251)), some (.int (nI j))] [] M2 260 4599) : ∀ (t j : Nat) (M : mM), lx < j + t → j ≤ lx → lI c M → zV 4 B Q 18 [some (.ref b), some (.ref c), some (.ref (c + 251)), some (.int (nI j))] [] M 260 4599 := by
  intro t
  induction t with
  | zero => intro j M h1 h2 hI; exact absurd h1 (by omega)
  | succ t ih =>
    intro j M h1 h2 hI
    refine z_iload_n ok dL_law_18 rfl ?_
    refine z_aload_n ok dL_law_19 rfl ?_
    refine z_slen ok dL_law_20 hX ?_
    refine z_bipush (v := 7) ok dL_law_21 (by decide) ?_
    refine z_isub ok dL_law_23 ?_
    refine z_icmp_gt (tgt := 857) ok dL_law_24 (by decide) (fun _ => fin j M) (fun cz => ?_)
    have hj := lw_cmp hL h2 cz
    refine lw_body ok hX hL hj hI (fun M2 hI2 => ?_)
    refine z_iinc (v := nI (j + 7)) ok dL_law_851 rfl (by rw [show Int32.ofInt 7 = nI 7 from rfl, nI_add]) (by decide) rfl ?_
    refine z_goto (tgt := 18) ok dL_law_854 (by decide) ?_
    exact ih (j + 7) M2 (by omega) (by omega) hI2
set_option maxRecDepth 20000 in
set_option maxHeartbeats 4000000 in
theorem lw_main {B : zB} {Q : State → Prop} {K : zK} {nm : String} {b lx c : Nat} {xs : Nat → Int32} (ok : zOk K (⟨"FreightSplitsLaw", nm, "([I)Z"⟩ : MethodName) cL_law 4 ret 11 600000 7302250 B) (hX : lX B b lx xs) (hL : lx ≤ 3584) (hz : zSz B = c) (fin : ∀ (j : Nat) (M2 : mM), zV 4 B Q 857 [some (.ref b), some (.ref c), some (.ref (c + 251)), some (.int (nI j))] [] M2 260 4599) : zV 4 B Q 0 [some (.ref b), none, none, none] [] (fun _ => none) 0 0 := by
  refine z_new (T := TX6) (N := 6) (ci := 6) (fs := [.null, .null, .null, .null, .int 0, .int 0]) (a := c) ok dL_law_0 zin_X6 tyX6 tyX6_ok rfl zw_53 zw_54 zw_38 (fun j hj => match j, hj with | 0, _ => rfl | 1, _ => rfl | 2, _ => rfl | 3, _ => rfl | 4, _ => rfl | 5, _ => rfl) (by decide) (by decide) (by omega) ?_
  refine zV_up (fun M1 he1 hu1 => ?_)
  refine z_dup ok dL_law_3 rfl ?_
  refine z_callIv ok dL_law_4 zm_X6_init zw_55 zw_56 rfl rfl (by rw [show zSz B + (0 + 1) = c + 1 from by omega]; exact ct_X6_init he1) rfl rfl (by decide) (by decide) (by decide) (Nat.le_of_ble_eq_true rfl) (fun M2 q2 => ?_)
  refine z_astore_n ok dL_law_7 (by decide) rfl ?_
  refine z_new (T := TX7) (N := 14) (ci := 7) (fs := [.null, .null, .null, .null, .int 0, .int 0, .null, .int 0, .null, .null, .int 0, .int 0, .int 0, .null]) (a := c + 251) ok dL_law_8 zin_X7 tyX7 tyX7_ok rfl zw_758 zw_759 zw_45 (fun j hj => match j, hj with | 0, _ => rfl | 1, _ => rfl | 2, _ => rfl | 3, _ => rfl | 4, _ => rfl | 5, _ => rfl | 6, _ => rfl | 7, _ => rfl | 8, _ => rfl | 9, _ => rfl | 10, _ => rfl | 11, _ => rfl | 12, _ => rfl | 13, _ => rfl) (by decide) (by decide) (by omega) ?_
  refine zV_up (fun M3 he3 hu3 => ?_)
  refine z_dup ok dL_law_11 rfl ?_
  refine z_callIv ok dL_law_12 zm_X7_init zw_760 zw_761 rfl rfl (by rw [show zSz B + (0 + 1 + 250 + 1) = c + 251 + 1 from by omega]; exact ct_X7_init he3) rfl rfl (by decide) (by decide) (by decide) (Nat.le_of_ble_eq_true rfl) (fun M4 q4 => ?_)
  refine z_astore_n ok dL_law_15 (by decide) rfl ?_
  refine z_iconst (v := 0) ok dL_law_16 (by decide) ?_
  refine z_istore_n ok dL_law_17 (by decide) rfl ?_
  have hI : lI c M4 := ⟨zM0, 0, 0, q4.1, ⟨rfl, rfl, rfl⟩, lS_c (q2.1.kept (fun q h1 h2 => hu3 q (by omega))) q4.2⟩
  exact lw_loop ok hX hL fin (lx + 1) 0 M4 (by omega) (Nat.zero_le _) hI
theorem lw_end {K : zK} {nm : String} {p : Program} {l : Launch} {e : Env} {s : State} {m : MethodId} {below : List Frame} {meth : Method} {c : Code} {D : va_G} {E : Nat → ClassId} {b : Nat} {L : List (Option Value)} {M : mM} (ok : zOk K (⟨"FreightSplitsLaw", nm, "([I)Z"⟩ : MethodName) cL_law 4 ret 11 600000 7302250 (p, l, e, room_1, s, m, #[Value.ref b], below, meth, c, D, E, fun q => s.heap.size ≤ q)) : zV 4 (p, l, e, room_1, s, m, #[Value.ref b], below, meth, c, D, E, fun q => s.heap.size ≤ q) (lw_Z below #[Value.ref b] s) 857 L [] M 260 4599 := by
  refine z_iconst (v := 1) ok dL_law_857 (by decide) ?_
  intro H ls locs hl hM hz hS
  exact va_forget (fun q hq => hS.2.2 q hq) (W.widen (by decide) (by decide) (lw_ret ok.1.1 ok.1.2.1 ok.1.2.2.2.1 ok.2.2.1 dL_law_858))
set_option maxHeartbeats 4000000 in
theorem lw_begin {p : Program} {e : Env} {s : State} {m : MethodId} {below : List Frame} {meth : Method} {c : Code} (l : Launch) {b L : Nat} {xs : Nat → Int32} (hL : L ≤ 3584) (C0 : lw_At p s m meth c b L xs) : W p l e room_1 s m #[Value.ref b] below meth c s.heap [] 0 0 (lw_Z below #[Value.ref b] s) (entryFrame m ([Value.ref b] : List Value).toArray 4) := by
  obtain ⟨hxω, hbω, hrω, hmlω, hownω, htsω, hXω, hblω, hlocksω, hgvω⟩ := C0
  obtain ⟨Kω, Dω, Eω, hK, hFω, hTω⟩ := lL_env htsω hgvω
  have okω : zOk Kω (⟨"FreightSplitsLaw", meth.name, "([I)Z"⟩ : MethodName) cL_law 4 ret 11 600000 7302250 (p, l, e, room_1, s, m, #[Value.ref b], below, meth, c, Dω, Eω, fun qω => s.heap.size ≤ qω) := ⟨⟨hxω, hbω, hmlω, hrω, hownω⟩, fun wω hwω => htsω wω (List.mem_filter.mp hwω).1, hlocksω, hK, fun _ h9ω => h9ω, rfl, ⟨by decide +kernel, by decide +kernel, by decide +kernel, by decide +kernel⟩, hFω, hTω⟩
  have mainω := lw_main (c := s.heap.size) (b := b) (lx := L) (xs := xs) okω ⟨hXω, hblω, Nat.not_le.mpr hblω⟩ hL rfl (fun _ _ => lw_end okω)
  have hlω := lv_entry ([Value.ref b] : List Value) (n := 4) (Nat.le_of_ble_eq_true rfl)
  rw [lg_entry_eq]
  exact mainω s.heap _ [] hlω (fun qω uω h9ω => by cases h9ω) rfl va_S.rf
