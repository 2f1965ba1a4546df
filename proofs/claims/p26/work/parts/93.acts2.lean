set_option maxRecDepth 20000 in
set_option maxHeartbeats 4000000 in
theorem la_233 {K : zK} {M : mM} {B : zB} {c : Nat} {s : Nat → Int32} {n nv no : Nat} (hS : lS M c s n nv no) {τ : Nat} (hτ : s 5 = nI τ) (hτ2 : τ ≤ 5000) {z : Int32} (ok : zOk K yL_acts cL_acts 16 zr_L_acts 7 0 0 B) {Y w : Nat} (hY : Y < 10000000) {u : Nat} (hu : u < nv) : zV 16 B (zE B (zI (fun x M' => x = 1 ∧ ∃ (s' : Nat → Int32) (n' nv' no' τ' : Nat), lS M' c s' n' nv' no' ∧ s' 5 = nI τ' ∧ τ' ≤ τ + 30 ∧ zFr M M' c 257)) 0 0) 233 [some (.ref c), some (.ref (c + 251)), some (.ref (c + 251 + 1)), some (.ref (c + 251 + 2)), some (.ref (c + 251 + 3)), some (.ref (c + 251 + 4)), some (.ref (c + 251 + 5)), some (.int z), some (.int (nI Y)), some (.int (nI w)), some (.int (nI u)), none, none, none, none, none] [] M 0 0 := by
  have hmω := hS.2.1
  have hoω := hS.1
  have hwω := hS.2.2.1
  have hxω := hS.2.2.2
  have hNω := hwω.N
  have hn16ω := hNω.2.1
  have hnv4ω := hNω.2.2.2.1
  have hno10ω := hNω.2.2.2.2.2
  have hu4ω : u < 4 := by omega
  refine z_aload_n ok dL_acts_233 rfl ?_
  refine z_aload_n ok dL_acts_234 rfl ?_
  refine z_iload ok dL_acts_235 rfl ?_
  refine z_iconst (v := 4) ok dL_acts_237 (by decide) ?_
  refine z_idiv ok dL_acts_238 (by decide) ?_
  refine zV_eqi (ydiv (d := 4) rfl (by omega) (by omega) (by omega)) ?_
  refine z_iconst (v := 0) ok dL_acts_239 (by decide) ?_
  refine z_callSi ok dL_acts_240 zm_L_some zw_387 zw_388 (ct_L_some hmω hwω (y := Y / 4) (by omega)) rfl rfl (by decide) (by decide) (by decide) (Nat.le_of_ble_eq_true rfl) (fun xz1ω Mz2ω qz3ω => ?_)
  obtain ⟨⟨kω, rfl, hk1ω, hk2ω⟩, hMeω⟩ := qz3ω
  obtain rfl := hMeω.symm
  have hk31ω : kω < 2 ^ 31 := (Nat.eq_zero_or_pos n).elim (fun z9ω => by have := hk2ω z9ω; omega) (fun z9ω => by have := hk1ω z9ω; omega)
  refine z_istore ok dL_acts_243 (by decide) rfl ?_
  refine z_aload_n ok dL_acts_245 rfl ?_
  refine z_aload_n ok dL_acts_246 rfl ?_
  refine z_iload ok dL_acts_247 rfl ?_
  refine z_callSi ok dL_acts_249 zm_L_is zw_390 zw_391 (ct_L_is hmω hwω) rfl rfl (by decide) (by decide) (by decide) (Nat.le_of_ble_eq_true rfl) (fun xz4ω Mz5ω qz6ω => ?_)
  obtain ⟨rfl, hMeω⟩ := qz6ω
  obtain rfl := hMeω.symm
  refine z_if_ne (tgt := 274) ok dL_acts_252 (by decide) (fun cz252ω => ?_) (fun cz252ω => ?_)
  · have hgkω := Decidable.not_not.mp (mt b2_0.mpr cz252ω)
    have hknω : kω < n := (zGoods_n hNω hgkω hk31ω).1
    refine z_aload_n ok dL_acts_274 rfl ?_
    refine z_aload_n ok dL_acts_275 rfl ?_
    refine z_aload_n ok dL_acts_276 rfl ?_
    refine z_aload ok dL_acts_277 rfl ?_
    refine z_iload ok dL_acts_279 rfl ?_
    refine z_iload ok dL_acts_281 rfl ?_
    refine z_callSi ok dL_acts_283 zm_L_fits zw_465 zw_466 (ct_L_fits hmω hwω hknω hu) rfl rfl (by decide) (by decide) (by decide) (Nat.le_of_ble_eq_true rfl) (fun xz7ω Mz8ω qz9ω => ?_)
    obtain ⟨rfl, hMeω⟩ := qz9ω
    obtain rfl := hMeω.symm
    refine z_if_ne (tgt := 308) ok dL_acts_286 (by decide) (fun cz286ω => ?_) (fun cz286ω => ?_)
    · have hcaω := Decidable.not_not.mp (mt b2_0.mpr cz286ω)
      refine z_aload_n ok dL_acts_308 rfl ?_
      refine z_iload ok dL_acts_309 rfl ?_
      refine z_iload ok dL_acts_311 rfl ?_
      refine z_callSv ok dL_acts_313 zm_L_put zw_474 zw_475 (ct_L_put hmω hknω hu4ω) rfl rfl (by decide) (by decide) (by decide) (Nat.le_of_ble_eq_true rfl) (fun Mz11ω qz12ω => ?_)
      obtain ⟨hm13ω, hf9ω⟩ := qz12ω
      refine z_aload_n ok dL_acts_316 rfl ?_
      refine z_iload ok dL_acts_317 rfl ?_
      refine z_iload ok dL_acts_319 rfl ?_
      have ho321ω := hoω.fr (show zFr M _ (c + 251) 6 from hf9ω)
      obtain ⟨fs321ω, hs321ω⟩ := ho321ω.self
      refine z_callVi ok dL_acts_321 zm_X6_load zw_433 zi_X6_load hs321ω rfl (ho321ω.to_load hNω) rfl rfl (by decide) (by decide) (by decide) (Nat.le_of_ble_eq_true rfl) (fun xz14ω Mz15ω qz16ω => ?_)
      obtain ⟨hfqω, hxeω, hoqω⟩ := (qz16ω).inr (spL_ok hk31ω (by omega) hgkω (zVeh_u hNω hu) hcaω)
      have hfzω := ((show zFr M _ (c + 251) 6 from hf9ω).w (c := c) (by omega) (by omega)).tr (hfqω.w (c := c) (by omega) (by omega))
      have hm17ω := ((hm13ω).eqs (rfl)).fr hfqω
      have hwlω := hwω.load hknω hu hcaω
      refine z_aload ok dL_acts_324 rfl ?_
      refine z_bipush (v := 8) ok dL_acts_326 (by decide) ?_
      refine z_iload ok dL_acts_328 rfl ?_
      refine z_imul ok dL_acts_330 ?_
      refine l_ldV (u := u) (t := 0) ok dL_acts_331 hm17ω (lx8_0 u) hu (by decide) ?_
      refine z_aload_n ok dL_acts_332 rfl ?_
      refine z_aload_n ok dL_acts_333 rfl ?_
      refine z_aload_n ok dL_acts_334 rfl ?_
      refine z_iload ok dL_acts_335 rfl ?_
      refine z_iconst (v := 1) ok dL_acts_337 (by decide) ?_
      refine z_callSi ok dL_acts_338 zm_L_load zw_471 zw_472 (ct_L_load1 hm17ω hwlω (v := u) hu4ω) rfl rfl (by decide) (by decide) (by decide) (Nat.le_of_ble_eq_true rfl) (fun xz18ω Mz19ω qz20ω => ?_)
      obtain ⟨rfl, hMeω⟩ := qz20ω
      obtain rfl := hMeω.symm
      refine z_isub ok dL_acts_341 ?_
      refine z_icmp_ne (tgt := 349) ok dL_acts_342 (by decide) (fun q9ω => absurd hxeω q9ω) (fun _ => ?_)
      refine z_iconst (v := 1) ok dL_acts_345 (by decide) ?_
      refine z_goto (tgt := 350) ok dL_acts_346 (by decide) ?_
      exact z_iret ok dL_acts_350 rfl rfl rfl (Nat.zero_le _) ⟨rfl, _, n, nv, no, τ, ⟨hoqω, hm17ω, hwlω, hxω.load hwω hknω hu hcaω⟩, (show zLoads s kω u 5 = s 5 from (pg_lo (by decide)).trans (pg_lo (by decide))).trans hτ, by omega, hfzω⟩
    · have hcaω := b2_0.mp cz286ω
      refine z_aload_n ok dL_acts_289 rfl ?_
      refine z_iload ok dL_acts_290 rfl ?_
      refine z_iload ok dL_acts_292 rfl ?_
      have ho294ω := hoω.fr (show zFr M _ (c + 251) 6 from zFr.rf)
      obtain ⟨fs294ω, hs294ω⟩ := ho294ω.self
      refine z_callVi ok dL_acts_294 zm_X6_load zw_433 zi_X6_load hs294ω rfl (ho294ω.to_load hNω) rfl rfl (by decide) (by decide) (by decide) (Nat.le_of_ble_eq_true rfl) (fun xz21ω Mz22ω qz23ω => ?_)
      obtain ⟨hfqω, hxeω, hoqω⟩ := (qz23ω).inl (spL_nc hk31ω (by omega) hgkω (zVeh_u hNω hu) hcaω)
      have hfzω := ((show zFr M _ (c + 251) 6 from zFr.rf).w (c := c) (by omega) (by omega)).tr (hfqω.w (c := c) (by omega) (by omega))
      have hm24ω := ((hmω).eqs (rfl)).fr hfqω
      refine z_ldc ok dL_acts_297 zw_410 ?_
      refine z_icmp_ne (tgt := 306) ok dL_acts_299 (by decide) (fun q9ω => absurd hxeω q9ω) (fun _ => ?_)
      refine z_iconst (v := 1) ok dL_acts_302 (by decide) ?_
      refine z_goto (tgt := 307) ok dL_acts_303 (by decide) ?_
      exact z_iret ok dL_acts_307 rfl rfl rfl (Nat.zero_le _) ⟨rfl, s, n, nv, no, τ, ⟨hoqω, hm24ω, hwω, hxω⟩, hτ, by omega, hfzω⟩
  · have hgkω := b2_0.mp cz252ω
    refine z_aload_n ok dL_acts_255 rfl ?_
    refine z_iload ok dL_acts_256 rfl ?_
    refine z_iload ok dL_acts_258 rfl ?_
    have ho260ω := hoω.fr (show zFr M _ (c + 251) 6 from zFr.rf)
    obtain ⟨fs260ω, hs260ω⟩ := ho260ω.self
    refine z_callVi ok dL_acts_260 zm_X6_load zw_433 zi_X6_load hs260ω rfl (ho260ω.to_load hNω) rfl rfl (by decide) (by decide) (by decide) (Nat.le_of_ble_eq_true rfl) (fun xz25ω Mz26ω qz27ω => ?_)
    obtain ⟨hfqω, hxeω, hoqω⟩ := (qz27ω).inl (spL_ng hgkω)
    have hfzω := ((show zFr M _ (c + 251) 6 from zFr.rf).w (c := c) (by omega) (by omega)).tr (hfqω.w (c := c) (by omega) (by omega))
    have hm28ω := ((hmω).eqs (rfl)).fr hfqω
    refine z_ldc ok dL_acts_263 zw_409 ?_
    refine z_icmp_ne (tgt := 272) ok dL_acts_265 (by decide) (fun q9ω => absurd hxeω q9ω) (fun _ => ?_)
    refine z_iconst (v := 1) ok dL_acts_268 (by decide) ?_
    refine z_goto (tgt := 273) ok dL_acts_269 (by decide) ?_
    exact z_iret ok dL_acts_273 rfl rfl rfl (Nat.zero_le _) ⟨rfl, s, n, nv, no, τ, ⟨hoqω, hm28ω, hwω, hxω⟩, hτ, by omega, hfzω⟩
set_option maxRecDepth 20000 in
set_option maxHeartbeats 4000000 in
theorem la_358 {K : zK} {M : mM} {B : zB} {c : Nat} {s : Nat → Int32} {n nv no : Nat} (hS : lS M c s n nv no) {τ : Nat} (hτ : s 5 = nI τ) (hτ2 : τ ≤ 5000) {z : Int32} (ok : zOk K yL_acts cL_acts 16 zr_L_acts 7 0 0 B) {Y w : Nat} (hY : Y < 10000000) {u : Nat} (hu : u < nv) : zV 16 B (zE B (zI (fun x M' => x = 1 ∧ ∃ (s' : Nat → Int32) (n' nv' no' τ' : Nat), lS M' c s' n' nv' no' ∧ s' 5 = nI τ' ∧ τ' ≤ τ + 30 ∧ zFr M M' c 257)) 0 0) 358 [some (.ref c), some (.ref (c + 251)), some (.ref (c + 251 + 1)), some (.ref (c + 251 + 2)), some (.ref (c + 251 + 3)), some (.ref (c + 251 + 4)), some (.ref (c + 251 + 5)), some (.int z), some (.int (nI Y)), some (.int (nI w)), some (.int (nI u)), none, none, none, none, none] [] M 0 0 := by
  have hmω := hS.2.1
  have hoω := hS.1
  have hwω := hS.2.2.1
  have hxω := hS.2.2.2
  have hNω := hwω.N
  have hn16ω := hNω.2.1
  have hnv4ω := hNω.2.2.2.1
  have hno10ω := hNω.2.2.2.2.2
  have hu4ω : u < 4 := by omega
  refine z_aload_n ok dL_acts_358 rfl ?_
  refine z_aload_n ok dL_acts_359 rfl ?_
  refine z_iload ok dL_acts_360 rfl ?_
  refine z_iconst (v := 4) ok dL_acts_362 (by decide) ?_
  refine z_idiv ok dL_acts_363 (by decide) ?_
  refine zV_eqi (ydiv (d := 4) rfl (by omega) (by omega) (by omega)) ?_
  refine z_iconst (v := 1) ok dL_acts_364 (by decide) ?_
  refine z_callSi ok dL_acts_365 zm_L_some zw_387 zw_388 (ct_L_some hmω hwω (y := Y / 4) (by omega)) rfl rfl (by decide) (by decide) (by decide) (Nat.le_of_ble_eq_true rfl) (fun xz1ω Mz2ω qz3ω => ?_)
  obtain ⟨⟨kω, rfl, hk1ω, hk2ω⟩, hMeω⟩ := qz3ω
  obtain rfl := hMeω.symm
  have hk31ω : kω < 2 ^ 31 := (Nat.eq_zero_or_pos n).elim (fun z9ω => by have := hk2ω z9ω; omega) (fun z9ω => by have := hk1ω z9ω; omega)
  refine z_istore ok dL_acts_368 (by decide) rfl ?_
  refine z_aload_n ok dL_acts_370 rfl ?_
  refine z_aload_n ok dL_acts_371 rfl ?_
  refine z_iload ok dL_acts_372 rfl ?_
  refine z_callSi ok dL_acts_374 zm_L_is zw_390 zw_391 (ct_L_is hmω hwω) rfl rfl (by decide) (by decide) (by decide) (Nat.le_of_ble_eq_true rfl) (fun xz4ω Mz5ω qz6ω => ?_)
  obtain ⟨rfl, hMeω⟩ := qz6ω
  obtain rfl := hMeω.symm
  refine z_if_eq (tgt := 392) ok dL_acts_377 (by decide) (fun cz377ω => ?_) (fun cz377ω => ?_)
  · have hgkω := b2_0.mp cz377ω
    refine z_aload_n ok dL_acts_392 rfl ?_
    refine z_iload ok dL_acts_393 rfl ?_
    have ho395ω := hoω.fr (show zFr M _ (c + 251) 6 from zFr.rf)
    obtain ⟨fs395ω, hs395ω⟩ := ho395ω.self
    refine z_callVi ok dL_acts_395 zm_X6_unload zw_477 zi_X6_unload hs395ω rfl (ho395ω.to_unload hNω) rfl rfl (by decide) (by decide) (by decide) (Nat.le_of_ble_eq_true rfl) (fun xz7ω Mz8ω qz9ω => ?_)
    obtain ⟨hfqω, hxeω, hoqω⟩ := (qz9ω).inl (spU_ng hgkω)
    have hfzω := ((show zFr M _ (c + 251) 6 from zFr.rf).w (c := c) (by omega) (by omega)).tr (hfqω.w (c := c) (by omega) (by omega))
    have hm10ω := ((hmω).eqs (rfl)).fr hfqω
    refine z_aload_n ok dL_acts_398 rfl ?_
    refine z_aload_n ok dL_acts_399 rfl ?_
    refine z_iload ok dL_acts_400 rfl ?_
    refine z_callSi ok dL_acts_402 zm_L_is zw_390 zw_391 (ct_L_is hm10ω hwω) rfl rfl (by decide) (by decide) (by decide) (Nat.le_of_ble_eq_true rfl) (fun xz11ω Mz12ω qz13ω => ?_)
    obtain ⟨rfl, hMeω⟩ := qz13ω
    obtain rfl := hMeω.symm
    refine z_if_eq (tgt := 413) ok dL_acts_405 (by decide) (fun _ => ?_) (fun q9ω => absurd (b2_0.mpr hgkω) q9ω)
    refine z_ldc ok dL_acts_413 zw_409 ?_
    refine z_icmp_ne (tgt := 422) ok dL_acts_415 (by decide) (fun q9ω => absurd hxeω q9ω) (fun _ => ?_)
    refine z_iconst (v := 1) ok dL_acts_418 (by decide) ?_
    refine z_goto (tgt := 423) ok dL_acts_419 (by decide) ?_
    exact z_iret ok dL_acts_423 rfl rfl rfl (Nat.zero_le _) ⟨rfl, s, n, nv, no, τ, ⟨hoqω, hm10ω, hwω, hxω⟩, hτ, by omega, hfzω⟩
  · have hgkω := Decidable.not_not.mp (mt b2_0.mpr cz377ω)
    have hknω : kω < n := (zGoods_n hNω hgkω hk31ω).1
    refine z_aload_n ok dL_acts_380 rfl ?_
    refine z_iconst (v := 4) ok dL_acts_381 (by decide) ?_
    refine z_iload ok dL_acts_382 rfl ?_
    refine z_imul ok dL_acts_384 ?_
    refine z_iconst (v := 2) ok dL_acts_385 (by decide) ?_
    refine z_iadd ok dL_acts_386 ?_
    refine l_ld6 kω ok dL_acts_387 hmω (lx4_2 kω) (by first | assumption | omega) ?_
    refine z_iconst (v := 1) ok dL_acts_388 (by decide) ?_
    refine z_icmp_eq (tgt := 424) ok dL_acts_389 (by decide) (fun cz389ω => ?_) (fun cz389ω => ?_)
    · refine z_aload_n ok dL_acts_424 rfl ?_
      refine z_iconst (v := 4) ok dL_acts_425 (by decide) ?_
      refine z_iload ok dL_acts_426 rfl ?_
      refine z_imul ok dL_acts_428 ?_
      refine z_iconst (v := 2) ok dL_acts_429 (by decide) ?_
      refine z_iadd ok dL_acts_430 ?_
      refine z_iconst (v := 0) ok dL_acts_431 (by decide) ?_
      refine l_st6 kω ok dL_acts_432 hmω (lx4_2 kω) (by first | assumption | omega) (fun Mz15ω hm14ω frz16ω => ?_)
      refine z_aload_n ok dL_acts_433 rfl ?_
      refine z_iload ok dL_acts_434 rfl ?_
      have ho436ω := hoω.fr (show zFr M _ (c + 251) 6 from frz16ω)
      obtain ⟨fs436ω, hs436ω⟩ := ho436ω.self
      refine z_callVi ok dL_acts_436 zm_X6_unload zw_477 zi_X6_unload hs436ω rfl (ho436ω.to_unload hNω) rfl rfl (by decide) (by decide) (by decide) (Nat.le_of_ble_eq_true rfl) (fun xz17ω Mz18ω qz19ω => ?_)
      obtain ⟨hfqω, hxeω, hoqω⟩ := (qz19ω).inr (spU_ok hk31ω hgkω cz389ω)
      have hfzω := ((show zFr M _ (c + 251) 6 from frz16ω).w (c := c) (by omega) (by omega)).tr (hfqω.w (c := c) (by omega) (by omega))
      have hm20ω := ((hm14ω).eqs (rfl)).fr hfqω
      refine z_aload_n ok dL_acts_439 rfl ?_
      refine z_iconst (v := 4) ok dL_acts_440 (by decide) ?_
      refine z_iload ok dL_acts_441 rfl ?_
      refine z_imul ok dL_acts_443 ?_
      refine z_iconst (v := 3) ok dL_acts_444 (by decide) ?_
      refine z_iadd ok dL_acts_445 ?_
      refine l_ld7 kω ok dL_acts_446 hm20ω (lx4_3 kω) (by first | assumption | omega) ?_
      refine zV_eqi (unl_e hwω hknω cz389ω) ?_
      refine z_icmp_ne (tgt := 454) ok dL_acts_447 (by decide) (fun q9ω => absurd hxeω q9ω) (fun _ => ?_)
      refine z_iconst (v := 1) ok dL_acts_450 (by decide) ?_
      refine z_goto (tgt := 455) ok dL_acts_451 (by decide) ?_
      exact z_iret ok dL_acts_455 rfl rfl rfl (Nat.zero_le _) ⟨rfl, _, n, nv, no, τ, ⟨hoqω, hm20ω, hoqω.wf (zN_pg hNω), hxω.unload hwω hknω cz389ω⟩, (pg_lo (s := s) (c := kω) (k := 6) (x := 0) (j := 5) (by decide)).trans hτ, by omega, hfzω⟩
    · refine z_aload_n ok dL_acts_392 rfl ?_
      refine z_iload ok dL_acts_393 rfl ?_
      have ho395ω := hoω.fr (show zFr M _ (c + 251) 6 from zFr.rf)
      obtain ⟨fs395ω, hs395ω⟩ := ho395ω.self
      refine z_callVi ok dL_acts_395 zm_X6_unload zw_477 zi_X6_unload hs395ω rfl (ho395ω.to_unload hNω) rfl rfl (by decide) (by decide) (by decide) (Nat.le_of_ble_eq_true rfl) (fun xz21ω Mz22ω qz23ω => ?_)
      obtain ⟨hfqω, hxeω, hoqω⟩ := (qz23ω).inl (spU_n1 hk31ω hgkω cz389ω)
      have hfzω := ((show zFr M _ (c + 251) 6 from zFr.rf).w (c := c) (by omega) (by omega)).tr (hfqω.w (c := c) (by omega) (by omega))
      have hm24ω := ((hmω).eqs (rfl)).fr hfqω
      refine z_aload_n ok dL_acts_398 rfl ?_
      refine z_aload_n ok dL_acts_399 rfl ?_
      refine z_iload ok dL_acts_400 rfl ?_
      refine z_callSi ok dL_acts_402 zm_L_is zw_390 zw_391 (ct_L_is hm24ω hwω) rfl rfl (by decide) (by decide) (by decide) (Nat.le_of_ble_eq_true rfl) (fun xz25ω Mz26ω qz27ω => ?_)
      obtain ⟨rfl, hMeω⟩ := qz27ω
      obtain rfl := hMeω.symm
      refine z_if_eq (tgt := 413) ok dL_acts_405 (by decide) (fun q9ω => absurd hgkω (b2_0.mp q9ω)) (fun _ => ?_)
      refine z_ldc ok dL_acts_408 zw_410 ?_
      refine z_goto (tgt := 415) ok dL_acts_410 (by decide) ?_
      refine z_icmp_ne (tgt := 422) ok dL_acts_415 (by decide) (fun q9ω => absurd hxeω q9ω) (fun _ => ?_)
      refine z_iconst (v := 1) ok dL_acts_418 (by decide) ?_
      refine z_goto (tgt := 423) ok dL_acts_419 (by decide) ?_
      exact z_iret ok dL_acts_423 rfl rfl rfl (Nat.zero_le _) ⟨rfl, s, n, nv, no, τ, ⟨hoqω, hm24ω, hwω, hxω⟩, hτ, by omega, hfzω⟩
