set_option maxRecDepth 20000 in
set_option maxHeartbeats 4000000 in
theorem lw_c0 {B : zB} {Q : State → Prop} {K : zK} {nm : String} {b lx c j : Nat} {xs : Nat → Int32} (ok : zOk K (⟨"FreightSplitsLaw", nm, "([I)Z"⟩ : MethodName) cL_law 4 ret 11 600000 7302250 B) (hX : lX B b lx xs) (hL : lx ≤ 3584) (hj : j + 7 ≤ lx) {M : mM} (hI : lI c M) (next : ∀ M2, lI c M2 → zV 4 B Q 851 [some (.ref b), some (.ref c), some (.ref (c + 251)), some (.int (nI j))] [] M2 260 4599) : zV 4 B Q 140 [some (.ref b), some (.ref c), some (.ref (c + 251)), some (.int (nI j))] [] M 260 4599 := by
  obtain ⟨μ, p, ty, hm, hE, hc⟩ := id hI
  obtain ⟨n, nv, no, o, fp, fr, vb, nxz, nums, hr⟩ := hc
  have hN := lS_N hr
  refine z_aload_n ok dL_law_140 rfl ?_
  refine z_aload_n ok dL_law_141 rfl ?_
  refine z_iload_n ok dL_law_142 rfl ?_
  refine z_iconst (v := 1) ok dL_law_143 (by decide) ?_
  refine z_iadd ok dL_law_144 ?_
  refine z_sld (j + 1) ok dL_law_145 hX (lw_a1 j) (by omega) hL ?_
  refine z_aload_n ok dL_law_146 rfl ?_
  refine z_iload_n ok dL_law_147 rfl ?_
  refine z_iconst (v := 2) ok dL_law_148 (by decide) ?_
  refine z_iadd ok dL_law_149 ?_
  refine z_sld (j + 2) ok dL_law_150 hX (lw_a2 j) (by omega) hL ?_
  refine z_aload_n ok dL_law_151 rfl ?_
  refine z_iload_n ok dL_law_152 rfl ?_
  refine z_iconst (v := 3) ok dL_law_153 (by decide) ?_
  refine z_iadd ok dL_law_154 ?_
  refine z_sld (j + 3) ok dL_law_155 hX (lw_a3 j) (by omega) hL ?_
  refine z_aload_n ok dL_law_156 rfl ?_
  refine z_iload_n ok dL_law_157 rfl ?_
  refine z_iconst (v := 4) ok dL_law_158 (by decide) ?_
  refine z_iadd ok dL_law_159 ?_
  refine z_sld (j + 4) ok dL_law_160 hX (lw_a4 j) (by omega) hL ?_
  refine z_aload_n ok dL_law_161 rfl ?_
  refine z_iload_n ok dL_law_162 rfl ?_
  refine z_iconst (v := 5) ok dL_law_163 (by decide) ?_
  refine z_iadd ok dL_law_164 ?_
  refine z_sld (j + 5) ok dL_law_165 hX (lw_a5 j) (by omega) hL ?_
  refine z_aload_n ok dL_law_166 rfl ?_
  refine z_iload_n ok dL_law_167 rfl ?_
  refine z_bipush (v := 6) ok dL_law_168 (by decide) ?_
  refine z_iadd ok dL_law_170 ?_
  refine z_sld (j + 6) ok dL_law_171 hX (lw_a6 j) (by omega) hL ?_
  refine z_callVi ok dL_law_172 zm_X6_consign zw_338 zi_X6_consign hr.F rfl (ct_X6_consign hr) rfl rfl (by decide) (by decide) (by decide) (Nat.le_of_ble_eq_true rfl) (fun x1 M1 q1 => ?_)
  have hm1 := lS_m hm q1.1
  refine z_aload_n ok dL_law_175 rfl ?_
  refine z_aload_n ok dL_law_176 rfl ?_
  refine z_iload_n ok dL_law_177 rfl ?_
  refine z_iconst (v := 1) ok dL_law_178 (by decide) ?_
  refine z_iadd ok dL_law_179 ?_
  refine z_sld (j + 1) ok dL_law_180 hX (lw_a1 j) (by omega) hL ?_
  refine z_aload_n ok dL_law_181 rfl ?_
  refine z_iload_n ok dL_law_182 rfl ?_
  refine z_iconst (v := 2) ok dL_law_183 (by decide) ?_
  refine z_iadd ok dL_law_184 ?_
  refine z_sld (j + 2) ok dL_law_185 hX (lw_a2 j) (by omega) hL ?_
  refine z_aload_n ok dL_law_186 rfl ?_
  refine z_iload_n ok dL_law_187 rfl ?_
  refine z_iconst (v := 3) ok dL_law_188 (by decide) ?_
  refine z_iadd ok dL_law_189 ?_
  refine z_sld (j + 3) ok dL_law_190 hX (lw_a3 j) (by omega) hL ?_
  refine z_aload_n ok dL_law_191 rfl ?_
  refine z_iload_n ok dL_law_192 rfl ?_
  refine z_iconst (v := 4) ok dL_law_193 (by decide) ?_
  refine z_iadd ok dL_law_194 ?_
  refine z_sld (j + 4) ok dL_law_195 hX (lw_a4 j) (by omega) hL ?_
  refine z_aload_n ok dL_law_196 rfl ?_
  refine z_iload_n ok dL_law_197 rfl ?_
  refine z_iconst (v := 5) ok dL_law_198 (by decide) ?_
  refine z_iadd ok dL_law_199 ?_
  refine z_sld (j + 5) ok dL_law_200 hX (lw_a5 j) (by omega) hL ?_
  refine z_aload_n ok dL_law_201 rfl ?_
  refine z_iload_n ok dL_law_202 rfl ?_
  refine z_bipush (v := 6) ok dL_law_203 (by decide) ?_
  refine z_iadd ok dL_law_205 ?_
  refine z_sld (j + 6) ok dL_law_206 hX (lw_a6 j) (by omega) hL ?_
  refine z_callVi ok dL_law_207 zm_X7_consign zw_815 zi_X7_consign hm1.1 rfl (ct_X7_consign hm1 hN (Or.inl ⟨hE.1, hE.2.1, hr.B.1⟩)) rfl rfl (by decide) (by decide) (by decide) (Nat.le_of_ble_eq_true rfl) (fun x2 M2 q2 => ?_)
  obtain ⟨heq, hI2⟩ := lS_post hm1 hE q1 q2
  refine z_icmp_eq (tgt := 851) ok dL_law_210 (by decide) (fun _ => ?_) (fun q9 => absurd heq q9)
  exact next _ hI2

set_option maxRecDepth 20000 in
set_option maxHeartbeats 4000000 in
theorem lw_c1 {B : zB} {Q : State → Prop} {K : zK} {nm : String} {b lx c j : Nat} {xs : Nat → Int32} (ok : zOk K (⟨"FreightSplitsLaw", nm, "([I)Z"⟩ : MethodName) cL_law 4 ret 11 600000 7302250 B) (hX : lX B b lx xs) (hL : lx ≤ 3584) (hj : j + 7 ≤ lx) {M : mM} (hI : lI c M) (next : ∀ M2, lI c M2 → zV 4 B Q 851 [some (.ref b), some (.ref c), some (.ref (c + 251)), some (.int (nI j))] [] M2 260 4599) : zV 4 B Q 215 [some (.ref b), some (.ref c), some (.ref (c + 251)), some (.int (nI j))] [] M 260 4599 := by
  obtain ⟨μ, p, ty, hm, hE, hc⟩ := id hI
  obtain ⟨n, nv, no, o, fp, fr, vb, nxz, nums, hr⟩ := hc
  have hN := lS_N hr
  refine z_aload_n ok dL_law_215 rfl ?_
  refine z_aload_n ok dL_law_216 rfl ?_
  refine z_iload_n ok dL_law_217 rfl ?_
  refine z_iconst (v := 1) ok dL_law_218 (by decide) ?_
  refine z_iadd ok dL_law_219 ?_
  refine z_sld (j + 1) ok dL_law_220 hX (lw_a1 j) (by omega) hL ?_
  refine z_aload_n ok dL_law_221 rfl ?_
  refine z_iload_n ok dL_law_222 rfl ?_
  refine z_iconst (v := 2) ok dL_law_223 (by decide) ?_
  refine z_iadd ok dL_law_224 ?_
  refine z_sld (j + 2) ok dL_law_225 hX (lw_a2 j) (by omega) hL ?_
  refine z_aload_n ok dL_law_226 rfl ?_
  refine z_iload_n ok dL_law_227 rfl ?_
  refine z_iconst (v := 3) ok dL_law_228 (by decide) ?_
  refine z_iadd ok dL_law_229 ?_
  refine z_sld (j + 3) ok dL_law_230 hX (lw_a3 j) (by omega) hL ?_
  refine z_callVi ok dL_law_231 zm_X6_split zw_390 zi_X6_split hr.F rfl (ct_X6_split hr) rfl rfl (by decide) (by decide) (by decide) (Nat.le_of_ble_eq_true rfl) (fun x1 M1 q1 => ?_)
  have hm1 := lS_m hm q1.1
  refine z_aload_n ok dL_law_234 rfl ?_
  refine z_aload_n ok dL_law_235 rfl ?_
  refine z_iload_n ok dL_law_236 rfl ?_
  refine z_iconst (v := 1) ok dL_law_237 (by decide) ?_
  refine z_iadd ok dL_law_238 ?_
  refine z_sld (j + 1) ok dL_law_239 hX (lw_a1 j) (by omega) hL ?_
  refine z_aload_n ok dL_law_240 rfl ?_
  refine z_iload_n ok dL_law_241 rfl ?_
  refine z_iconst (v := 2) ok dL_law_242 (by decide) ?_
  refine z_iadd ok dL_law_243 ?_
  refine z_sld (j + 2) ok dL_law_244 hX (lw_a2 j) (by omega) hL ?_
  refine z_aload_n ok dL_law_245 rfl ?_
  refine z_iload_n ok dL_law_246 rfl ?_
  refine z_iconst (v := 3) ok dL_law_247 (by decide) ?_
  refine z_iadd ok dL_law_248 ?_
  refine z_sld (j + 3) ok dL_law_249 hX (lw_a3 j) (by omega) hL ?_
  refine z_callVi ok dL_law_250 zm_X7_split zw_837 zi_X7_split hm1.1 rfl (ct_X7_split hm1 hN (Or.inl ⟨hE.1, hE.2.1, hr.B.1⟩)) rfl rfl (by decide) (by decide) (by decide) (Nat.le_of_ble_eq_true rfl) (fun x2 M2 q2 => ?_)
  obtain ⟨heq, hI2⟩ := lS_post hm1 hE q1 q2
  refine z_icmp_eq (tgt := 851) ok dL_law_253 (by decide) (fun _ => ?_) (fun q9 => absurd heq q9)
  exact next _ hI2

set_option maxRecDepth 20000 in
set_option maxHeartbeats 4000000 in
theorem lw_c2 {B : zB} {Q : State → Prop} {K : zK} {nm : String} {b lx c j : Nat} {xs : Nat → Int32} (ok : zOk K (⟨"FreightSplitsLaw", nm, "([I)Z"⟩ : MethodName) cL_law 4 ret 11 600000 7302250 B) (hX : lX B b lx xs) (hL : lx ≤ 3584) (hj : j + 7 ≤ lx) {M : mM} (hI : lI c M) (next : ∀ M2, lI c M2 → zV 4 B Q 851 [some (.ref b), some (.ref c), some (.ref (c + 251)), some (.int (nI j))] [] M2 260 4599) : zV 4 B Q 258 [some (.ref b), some (.ref c), some (.ref (c + 251)), some (.int (nI j))] [] M 260 4599 := by
  obtain ⟨μ, p, ty, hm, hE, hc⟩ := id hI
  obtain ⟨n, nv, no, o, fp, fr, vb, nxz, nums, hr⟩ := hc
  have hN := lS_N hr
  refine z_aload_n ok dL_law_258 rfl ?_
  refine z_aload_n ok dL_law_259 rfl ?_
  refine z_iload_n ok dL_law_260 rfl ?_
  refine z_iconst (v := 1) ok dL_law_261 (by decide) ?_
  refine z_iadd ok dL_law_262 ?_
  refine z_sld (j + 1) ok dL_law_263 hX (lw_a1 j) (by omega) hL ?_
  refine z_aload_n ok dL_law_264 rfl ?_
  refine z_iload_n ok dL_law_265 rfl ?_
  refine z_iconst (v := 2) ok dL_law_266 (by decide) ?_
  refine z_iadd ok dL_law_267 ?_
  refine z_sld (j + 2) ok dL_law_268 hX (lw_a2 j) (by omega) hL ?_
  refine z_callVi ok dL_law_269 zm_X6_join zw_406 zi_X6_join hr.F rfl (ct_X6_join hr) rfl rfl (by decide) (by decide) (by decide) (Nat.le_of_ble_eq_true rfl) (fun x1 M1 q1 => ?_)
  have hm1 := lS_m hm q1.1
  refine z_aload_n ok dL_law_272 rfl ?_
  refine z_aload_n ok dL_law_273 rfl ?_
  refine z_iload_n ok dL_law_274 rfl ?_
  refine z_iconst (v := 1) ok dL_law_275 (by decide) ?_
  refine z_iadd ok dL_law_276 ?_
  refine z_sld (j + 1) ok dL_law_277 hX (lw_a1 j) (by omega) hL ?_
  refine z_aload_n ok dL_law_278 rfl ?_
  refine z_iload_n ok dL_law_279 rfl ?_
  refine z_iconst (v := 2) ok dL_law_280 (by decide) ?_
  refine z_iadd ok dL_law_281 ?_
  refine z_sld (j + 2) ok dL_law_282 hX (lw_a2 j) (by omega) hL ?_
  refine z_callVi ok dL_law_283 zm_X7_join zw_850 zi_X7_join hm1.1 rfl (ct_X7_join hm1 hN (Or.inl ⟨hE.1, hE.2.1, hr.B.1⟩)) rfl rfl (by decide) (by decide) (by decide) (Nat.le_of_ble_eq_true rfl) (fun x2 M2 q2 => ?_)
  obtain ⟨heq, hI2⟩ := lS_post hm1 hE q1 q2
  refine z_icmp_eq (tgt := 851) ok dL_law_286 (by decide) (fun _ => ?_) (fun q9 => absurd heq q9)
  exact next _ hI2

set_option maxRecDepth 20000 in
set_option maxHeartbeats 4000000 in
theorem lw_c3 {B : zB} {Q : State → Prop} {K : zK} {nm : String} {b lx c j : Nat} {xs : Nat → Int32} (ok : zOk K (⟨"FreightSplitsLaw", nm, "([I)Z"⟩ : MethodName) cL_law 4 ret 11 600000 7302250 B) (hX : lX B b lx xs) (hL : lx ≤ 3584) (hj : j + 7 ≤ lx) {M : mM} (hI : lI c M) (next : ∀ M2, lI c M2 → zV 4 B Q 851 [some (.ref b), some (.ref c), some (.ref (c + 251)), some (.int (nI j))] [] M2 260 4599) : zV 4 B Q 291 [some (.ref b), some (.ref c), some (.ref (c + 251)), some (.int (nI j))] [] M 260 4599 := by
  obtain ⟨μ, p, ty, hm, hE, hc⟩ := id hI
  obtain ⟨n, nv, no, o, fp, fr, vb, nxz, nums, hr⟩ := hc
  have hN := lS_N hr
  refine z_aload_n ok dL_law_291 rfl ?_
  refine z_aload_n ok dL_law_292 rfl ?_
  refine z_iload_n ok dL_law_293 rfl ?_
  refine z_iconst (v := 1) ok dL_law_294 (by decide) ?_
  refine z_iadd ok dL_law_295 ?_
  refine z_sld (j + 1) ok dL_law_296 hX (lw_a1 j) (by omega) hL ?_
  refine z_aload_n ok dL_law_297 rfl ?_
  refine z_iload_n ok dL_law_298 rfl ?_
  refine z_iconst (v := 2) ok dL_law_299 (by decide) ?_
  refine z_iadd ok dL_law_300 ?_
  refine z_sld (j + 2) ok dL_law_301 hX (lw_a2 j) (by omega) hL ?_
  refine z_callVi ok dL_law_302 zm_X6_vehicle zw_420 zi_X6_vehicle hr.F rfl (ct_X6_vehicle hr) rfl rfl (by decide) (by decide) (by decide) (Nat.le_of_ble_eq_true rfl) (fun x1 M1 q1 => ?_)
  have hm1 := lS_m hm q1.1
  refine z_aload_n ok dL_law_305 rfl ?_
  refine z_aload_n ok dL_law_306 rfl ?_
  refine z_iload_n ok dL_law_307 rfl ?_
  refine z_iconst (v := 1) ok dL_law_308 (by decide) ?_
  refine z_iadd ok dL_law_309 ?_
  refine z_sld (j + 1) ok dL_law_310 hX (lw_a1 j) (by omega) hL ?_
  refine z_aload_n ok dL_law_311 rfl ?_
  refine z_iload_n ok dL_law_312 rfl ?_
  refine z_iconst (v := 2) ok dL_law_313 (by decide) ?_
  refine z_iadd ok dL_law_314 ?_
  refine z_sld (j + 2) ok dL_law_315 hX (lw_a2 j) (by omega) hL ?_
  refine z_callVi ok dL_law_316 zm_X7_vehicle zw_854 zi_X7_vehicle hm1.1 rfl (ct_X7_vehicle hm1 hN (Or.inl ⟨hE.1, hE.2.1, hr.B.1⟩)) rfl rfl (by decide) (by decide) (by decide) (Nat.le_of_ble_eq_true rfl) (fun x2 M2 q2 => ?_)
  obtain ⟨heq, hI2⟩ := lS_post hm1 hE q1 q2
  refine z_icmp_eq (tgt := 851) ok dL_law_319 (by decide) (fun _ => ?_) (fun q9 => absurd heq q9)
  exact next _ hI2

set_option maxRecDepth 20000 in
set_option maxHeartbeats 4000000 in
theorem lw_c4 {B : zB} {Q : State → Prop} {K : zK} {nm : String} {b lx c j : Nat} {xs : Nat → Int32} (ok : zOk K (⟨"FreightSplitsLaw", nm, "([I)Z"⟩ : MethodName) cL_law 4 ret 11 600000 7302250 B) (hX : lX B b lx xs) (hL : lx ≤ 3584) (hj : j + 7 ≤ lx) {M : mM} (hI : lI c M) (next : ∀ M2, lI c M2 → zV 4 B Q 851 [some (.ref b), some (.ref c), some (.ref (c + 251)), some (.int (nI j))] [] M2 260 4599) : zV 4 B Q 324 [some (.ref b), some (.ref c), some (.ref (c + 251)), some (.int (nI j))] [] M 260 4599 := by
  obtain ⟨μ, p, ty, hm, hE, hc⟩ := id hI
  obtain ⟨n, nv, no, o, fp, fr, vb, nxz, nums, hr⟩ := hc
  have hN := lS_N hr
  refine z_aload_n ok dL_law_324 rfl ?_
  refine z_aload_n ok dL_law_325 rfl ?_
  refine z_iload_n ok dL_law_326 rfl ?_
  refine z_iconst (v := 1) ok dL_law_327 (by decide) ?_
  refine z_iadd ok dL_law_328 ?_
  refine z_sld (j + 1) ok dL_law_329 hX (lw_a1 j) (by omega) hL ?_
  refine z_aload_n ok dL_law_330 rfl ?_
  refine z_iload_n ok dL_law_331 rfl ?_
  refine z_iconst (v := 2) ok dL_law_332 (by decide) ?_
  refine z_iadd ok dL_law_333 ?_
  refine z_sld (j + 2) ok dL_law_334 hX (lw_a2 j) (by omega) hL ?_
  refine z_callVi ok dL_law_335 zm_X6_load zw_428 zi_X6_load hr.F rfl (ct_X6_load hr) rfl rfl (by decide) (by decide) (by decide) (Nat.le_of_ble_eq_true rfl) (fun x1 M1 q1 => ?_)
  have hm1 := lS_m hm q1.1
  refine z_aload_n ok dL_law_338 rfl ?_
  refine z_aload_n ok dL_law_339 rfl ?_
  refine z_iload_n ok dL_law_340 rfl ?_
  refine z_iconst (v := 1) ok dL_law_341 (by decide) ?_
  refine z_iadd ok dL_law_342 ?_
  refine z_sld (j + 1) ok dL_law_343 hX (lw_a1 j) (by omega) hL ?_
  refine z_aload_n ok dL_law_344 rfl ?_
  refine z_iload_n ok dL_law_345 rfl ?_
  refine z_iconst (v := 2) ok dL_law_346 (by decide) ?_
  refine z_iadd ok dL_law_347 ?_
  refine z_sld (j + 2) ok dL_law_348 hX (lw_a2 j) (by omega) hL ?_
  refine z_callVi ok dL_law_349 zm_X7_load zw_862 zi_X7_load hm1.1 rfl (ct_X7_load hm1 hN (Or.inl ⟨hE.1, hE.2.1, hr.B.1⟩)) rfl rfl (by decide) (by decide) (by decide) (Nat.le_of_ble_eq_true rfl) (fun x2 M2 q2 => ?_)
  obtain ⟨heq, hI2⟩ := lS_post hm1 hE q1 q2
  refine z_icmp_eq (tgt := 851) ok dL_law_352 (by decide) (fun _ => ?_) (fun q9 => absurd heq q9)
  exact next _ hI2

set_option maxRecDepth 20000 in
set_option maxHeartbeats 4000000 in
theorem lw_c5 {B : zB} {Q : State → Prop} {K : zK} {nm : String} {b lx c j : Nat} {xs : Nat → Int32} (ok : zOk K (⟨"FreightSplitsLaw", nm, "([I)Z"⟩ : MethodName) cL_law 4 ret 11 600000 7302250 B) (hX : lX B b lx xs) (hL : lx ≤ 3584) (hj : j + 7 ≤ lx) {M : mM} (hI : lI c M) (next : ∀ M2, lI c M2 → zV 4 B Q 851 [some (.ref b), some (.ref c), some (.ref (c + 251)), some (.int (nI j))] [] M2 260 4599) : zV 4 B Q 357 [some (.ref b), some (.ref c), some (.ref (c + 251)), some (.int (nI j))] [] M 260 4599 := by
  obtain ⟨μ, p, ty, hm, hE, hc⟩ := id hI
  obtain ⟨n, nv, no, o, fp, fr, vb, nxz, nums, hr⟩ := hc
  have hN := lS_N hr
  refine z_aload_n ok dL_law_357 rfl ?_
  refine z_aload_n ok dL_law_358 rfl ?_
  refine z_iload_n ok dL_law_359 rfl ?_
  refine z_iconst (v := 1) ok dL_law_360 (by decide) ?_
  refine z_iadd ok dL_law_361 ?_
  refine z_sld (j + 1) ok dL_law_362 hX (lw_a1 j) (by omega) hL ?_
  refine z_callVi ok dL_law_363 zm_X6_unload zw_460 zi_X6_unload hr.F rfl (ct_X6_unload hr) rfl rfl (by decide) (by decide) (by decide) (Nat.le_of_ble_eq_true rfl) (fun x1 M1 q1 => ?_)
  have hm1 := lS_m hm q1.1
  refine z_aload_n ok dL_law_366 rfl ?_
  refine z_aload_n ok dL_law_367 rfl ?_
  refine z_iload_n ok dL_law_368 rfl ?_
  refine z_iconst (v := 1) ok dL_law_369 (by decide) ?_
  refine z_iadd ok dL_law_370 ?_
  refine z_sld (j + 1) ok dL_law_371 hX (lw_a1 j) (by omega) hL ?_
  refine z_callVi ok dL_law_372 zm_X7_unload zw_894 zi_X7_unload hm1.1 rfl (ct_X7_unload hm1 hN (Or.inl ⟨hE.1, hE.2.1, hr.B.1⟩)) rfl rfl (by decide) (by decide) (by decide) (Nat.le_of_ble_eq_true rfl) (fun x2 M2 q2 => ?_)
  obtain ⟨heq, hI2⟩ := lS_post hm1 hE q1 q2
  refine z_icmp_eq (tgt := 851) ok dL_law_375 (by decide) (fun _ => ?_) (fun q9 => absurd heq q9)
  exact next _ hI2

set_option maxRecDepth 20000 in
set_option maxHeartbeats 4000000 in
theorem lw_c6 {B : zB} {Q : State → Prop} {K : zK} {nm : String} {b lx c j : Nat} {xs : Nat → Int32} (ok : zOk K (⟨"FreightSplitsLaw", nm, "([I)Z"⟩ : MethodName) cL_law 4 ret 11 600000 7302250 B) (hX : lX B b lx xs) (hL : lx ≤ 3584) (hj : j + 7 ≤ lx) {M : mM} (hI : lI c M) (next : ∀ M2, lI c M2 → zV 4 B Q 851 [some (.ref b), some (.ref c), some (.ref (c + 251)), some (.int (nI j))] [] M2 260 4599) : zV 4 B Q 380 [some (.ref b), some (.ref c), some (.ref (c + 251)), some (.int (nI j))] [] M 260 4599 := by
  obtain ⟨μ, p, ty, hm, hE, hc⟩ := id hI
  obtain ⟨n, nv, no, o, fp, fr, vb, nxz, nums, hr⟩ := hc
  have hN := lS_N hr
  refine z_aload_n ok dL_law_380 rfl ?_
  refine z_aload_n ok dL_law_381 rfl ?_
  refine z_iload_n ok dL_law_382 rfl ?_
  refine z_iconst (v := 1) ok dL_law_383 (by decide) ?_
  refine z_iadd ok dL_law_384 ?_
  refine z_sld (j + 1) ok dL_law_385 hX (lw_a1 j) (by omega) hL ?_
  refine z_aload_n ok dL_law_386 rfl ?_
  refine z_iload_n ok dL_law_387 rfl ?_
  refine z_iconst (v := 2) ok dL_law_388 (by decide) ?_
  refine z_iadd ok dL_law_389 ?_
  refine z_sld (j + 2) ok dL_law_390 hX (lw_a2 j) (by omega) hL ?_
  refine z_aload_n ok dL_law_391 rfl ?_
  refine z_iload_n ok dL_law_392 rfl ?_
  refine z_iconst (v := 3) ok dL_law_393 (by decide) ?_
  refine z_iadd ok dL_law_394 ?_
  refine z_sld (j + 3) ok dL_law_395 hX (lw_a3 j) (by omega) hL ?_
  refine z_callVi ok dL_law_396 zm_X6_fill zw_468 zi_X6_fill hr.F rfl (ct_X6_fill hr) rfl rfl (by decide) (by decide) (by decide) (Nat.le_of_ble_eq_true rfl) (fun x1 M1 q1 => ?_)
  have hm1 := lS_m hm q1.1
  refine z_aload_n ok dL_law_399 rfl ?_
  refine z_aload_n ok dL_law_400 rfl ?_
  refine z_iload_n ok dL_law_401 rfl ?_
  refine z_iconst (v := 1) ok dL_law_402 (by decide) ?_
  refine z_iadd ok dL_law_403 ?_
  refine z_sld (j + 1) ok dL_law_404 hX (lw_a1 j) (by omega) hL ?_
  refine z_aload_n ok dL_law_405 rfl ?_
  refine z_iload_n ok dL_law_406 rfl ?_
  refine z_iconst (v := 2) ok dL_law_407 (by decide) ?_
  refine z_iadd ok dL_law_408 ?_
  refine z_sld (j + 2) ok dL_law_409 hX (lw_a2 j) (by omega) hL ?_
  refine z_aload_n ok dL_law_410 rfl ?_
  refine z_iload_n ok dL_law_411 rfl ?_
  refine z_iconst (v := 3) ok dL_law_412 (by decide) ?_
  refine z_iadd ok dL_law_413 ?_
  refine z_sld (j + 3) ok dL_law_414 hX (lw_a3 j) (by omega) hL ?_
  refine z_callVi ok dL_law_415 zm_X7_fill zw_898 zi_X7_fill hm1.1 rfl (ct_X7_fill hm1 hN (Or.inl ⟨hE.1, hE.2.1, hr.B.1⟩)) rfl rfl (by decide) (by decide) (by decide) (Nat.le_of_ble_eq_true rfl) (fun x2 M2 q2 => ?_)
  obtain ⟨heq, hI2⟩ := lS_post hm1 hE q1 q2
  refine z_icmp_eq (tgt := 851) ok dL_law_418 (by decide) (fun _ => ?_) (fun q9 => absurd heq q9)
  exact next _ hI2

set_option maxRecDepth 20000 in
set_option maxHeartbeats 4000000 in
theorem lw_c7 {B : zB} {Q : State → Prop} {K : zK} {nm : String} {b lx c j : Nat} {xs : Nat → Int32} (ok : zOk K (⟨"FreightSplitsLaw", nm, "([I)Z"⟩ : MethodName) cL_law 4 ret 11 600000 7302250 B) (hX : lX B b lx xs) (hL : lx ≤ 3584) (hj : j + 7 ≤ lx) {M : mM} (hI : lI c M) (next : ∀ M2, lI c M2 → zV 4 B Q 851 [some (.ref b), some (.ref c), some (.ref (c + 251)), some (.int (nI j))] [] M2 260 4599) : zV 4 B Q 423 [some (.ref b), some (.ref c), some (.ref (c + 251)), some (.int (nI j))] [] M 260 4599 := by
  obtain ⟨μ, p, ty, hm, hE, hc⟩ := id hI
  obtain ⟨n, nv, no, o, fp, fr, vb, nxz, nums, hr⟩ := hc
  have hN := lS_N hr
  refine z_aload_n ok dL_law_423 rfl ?_
  refine z_aload_n ok dL_law_424 rfl ?_
  refine z_iload_n ok dL_law_425 rfl ?_
  refine z_iconst (v := 1) ok dL_law_426 (by decide) ?_
  refine z_iadd ok dL_law_427 ?_
  refine z_sld (j + 1) ok dL_law_428 hX (lw_a1 j) (by omega) hL ?_
  refine z_callVi ok dL_law_429 zm_X6_depart zw_490 zi_X6_depart hr.F rfl (ct_X6_depart hr) rfl rfl (by decide) (by decide) (by decide) (Nat.le_of_ble_eq_true rfl) (fun x1 M1 q1 => ?_)
  have hm1 := lS_m hm q1.1
  refine z_aload_n ok dL_law_432 rfl ?_
  refine z_aload_n ok dL_law_433 rfl ?_
  refine z_iload_n ok dL_law_434 rfl ?_
  refine z_iconst (v := 1) ok dL_law_435 (by decide) ?_
  refine z_iadd ok dL_law_436 ?_
  refine z_sld (j + 1) ok dL_law_437 hX (lw_a1 j) (by omega) hL ?_
  refine z_callVi ok dL_law_438 zm_X7_depart zw_913 zi_X7_depart hm1.1 rfl (ct_X7_depart hm1 hN (Or.inl ⟨hE.1, hE.2.1, hr.B.1⟩)) rfl rfl (by decide) (by decide) (by decide) (Nat.le_of_ble_eq_true rfl) (fun x2 M2 q2 => ?_)
  obtain ⟨heq, hI2⟩ := lS_post hm1 hE q1 q2
  refine z_icmp_eq (tgt := 851) ok dL_law_441 (by decide) (fun _ => ?_) (fun q9 => absurd heq q9)
  exact next _ hI2

set_option maxRecDepth 20000 in
set_option maxHeartbeats 4000000 in
theorem lw_c8 {B : zB} {Q : State → Prop} {K : zK} {nm : String} {b lx c j : Nat} {xs : Nat → Int32} (ok : zOk K (⟨"FreightSplitsLaw", nm, "([I)Z"⟩ : MethodName) cL_law 4 ret 11 600000 7302250 B) (hX : lX B b lx xs) (hL : lx ≤ 3584) (hj : j + 7 ≤ lx) {M : mM} (hI : lI c M) (next : ∀ M2, lI c M2 → zV 4 B Q 851 [some (.ref b), some (.ref c), some (.ref (c + 251)), some (.int (nI j))] [] M2 260 4599) : zV 4 B Q 446 [some (.ref b), some (.ref c), some (.ref (c + 251)), some (.int (nI j))] [] M 260 4599 := by
  obtain ⟨μ, p, ty, hm, hE, hc⟩ := id hI
  obtain ⟨n, nv, no, o, fp, fr, vb, nxz, nums, hr⟩ := hc
  have hN := lS_N hr
  refine z_aload_n ok dL_law_446 rfl ?_
  refine z_aload_n ok dL_law_447 rfl ?_
  refine z_iload_n ok dL_law_448 rfl ?_
  refine z_iconst (v := 1) ok dL_law_449 (by decide) ?_
  refine z_iadd ok dL_law_450 ?_
  refine z_sld (j + 1) ok dL_law_451 hX (lw_a1 j) (by omega) hL ?_
  refine z_aload_n ok dL_law_452 rfl ?_
  refine z_iload_n ok dL_law_453 rfl ?_
  refine z_iconst (v := 2) ok dL_law_454 (by decide) ?_
  refine z_iadd ok dL_law_455 ?_
  refine z_sld (j + 2) ok dL_law_456 hX (lw_a2 j) (by omega) hL ?_
  refine z_aload_n ok dL_law_457 rfl ?_
  refine z_iload_n ok dL_law_458 rfl ?_
  refine z_iconst (v := 3) ok dL_law_459 (by decide) ?_
  refine z_iadd ok dL_law_460 ?_
  refine z_sld (j + 3) ok dL_law_461 hX (lw_a3 j) (by omega) hL ?_
  refine z_aload_n ok dL_law_462 rfl ?_
  refine z_iload_n ok dL_law_463 rfl ?_
  refine z_iconst (v := 4) ok dL_law_464 (by decide) ?_
  refine z_iadd ok dL_law_465 ?_
  refine z_sld (j + 4) ok dL_law_466 hX (lw_a4 j) (by omega) hL ?_
  refine z_aload_n ok dL_law_467 rfl ?_
  refine z_iload_n ok dL_law_468 rfl ?_
  refine z_iconst (v := 5) ok dL_law_469 (by decide) ?_
  refine z_iadd ok dL_law_470 ?_
  refine z_sld (j + 5) ok dL_law_471 hX (lw_a5 j) (by omega) hL ?_
  refine z_callVi ok dL_law_472 zm_X6_offer zw_498 zi_X6_offer hr.F rfl (ct_X6_offer hr) rfl rfl (by decide) (by decide) (by decide) (Nat.le_of_ble_eq_true rfl) (fun x1 M1 q1 => ?_)
  have hm1 := lS_m hm q1.1
  refine z_aload_n ok dL_law_475 rfl ?_
  refine z_aload_n ok dL_law_476 rfl ?_
  refine z_iload_n ok dL_law_477 rfl ?_
  refine z_iconst (v := 1) ok dL_law_478 (by decide) ?_
  refine z_iadd ok dL_law_479 ?_
  refine z_sld (j + 1) ok dL_law_480 hX (lw_a1 j) (by omega) hL ?_
  refine z_aload_n ok dL_law_481 rfl ?_
  refine z_iload_n ok dL_law_482 rfl ?_
  refine z_iconst (v := 2) ok dL_law_483 (by decide) ?_
  refine z_iadd ok dL_law_484 ?_
  refine z_sld (j + 2) ok dL_law_485 hX (lw_a2 j) (by omega) hL ?_
  refine z_aload_n ok dL_law_486 rfl ?_
  refine z_iload_n ok dL_law_487 rfl ?_
  refine z_iconst (v := 3) ok dL_law_488 (by decide) ?_
  refine z_iadd ok dL_law_489 ?_
  refine z_sld (j + 3) ok dL_law_490 hX (lw_a3 j) (by omega) hL ?_
  refine z_aload_n ok dL_law_491 rfl ?_
  refine z_iload_n ok dL_law_492 rfl ?_
  refine z_iconst (v := 4) ok dL_law_493 (by decide) ?_
  refine z_iadd ok dL_law_494 ?_
  refine z_sld (j + 4) ok dL_law_495 hX (lw_a4 j) (by omega) hL ?_
  refine z_aload_n ok dL_law_496 rfl ?_
  refine z_iload_n ok dL_law_497 rfl ?_
  refine z_iconst (v := 5) ok dL_law_498 (by decide) ?_
  refine z_iadd ok dL_law_499 ?_
  refine z_sld (j + 5) ok dL_law_500 hX (lw_a5 j) (by omega) hL ?_
  refine z_callVi ok dL_law_501 zm_X7_offer zw_921 zi_X7_offer hm1.1 rfl (ct_X7_offer hm1 hN (Or.inl ⟨hE.1, hE.2.1, hr.B.1⟩)) rfl rfl (by decide) (by decide) (by decide) (Nat.le_of_ble_eq_true rfl) (fun x2 M2 q2 => ?_)
  obtain ⟨heq, hI2⟩ := lS_post hm1 hE q1 q2
  refine z_icmp_eq (tgt := 851) ok dL_law_504 (by decide) (fun _ => ?_) (fun q9 => absurd heq q9)
  exact next _ hI2

set_option maxRecDepth 20000 in
set_option maxHeartbeats 4000000 in
theorem lw_c9 {B : zB} {Q : State → Prop} {K : zK} {nm : String} {b lx c j : Nat} {xs : Nat → Int32} (ok : zOk K (⟨"FreightSplitsLaw", nm, "([I)Z"⟩ : MethodName) cL_law 4 ret 11 600000 7302250 B) (hX : lX B b lx xs) (hL : lx ≤ 3584) (hj : j + 7 ≤ lx) {M : mM} (hI : lI c M) (next : ∀ M2, lI c M2 → zV 4 B Q 851 [some (.ref b), some (.ref c), some (.ref (c + 251)), some (.int (nI j))] [] M2 260 4599) : zV 4 B Q 509 [some (.ref b), some (.ref c), some (.ref (c + 251)), some (.int (nI j))] [] M 260 4599 := by
  obtain ⟨μ, p, ty, hm, hE, hc⟩ := id hI
  obtain ⟨n, nv, no, o, fp, fr, vb, nxz, nums, hr⟩ := hc
  have hN := lS_N hr
  refine z_aload_n ok dL_law_509 rfl ?_
  refine z_aload_n ok dL_law_510 rfl ?_
  refine z_iload_n ok dL_law_511 rfl ?_
  refine z_iconst (v := 1) ok dL_law_512 (by decide) ?_
  refine z_iadd ok dL_law_513 ?_
  refine z_sld (j + 1) ok dL_law_514 hX (lw_a1 j) (by omega) hL ?_
  refine z_callVi ok dL_law_515 zm_X6_pass zw_506 zi_X6_pass hr.F rfl (ct_X6_pass hr) rfl rfl (by decide) (by decide) (by decide) (Nat.le_of_ble_eq_true rfl) (fun x1 M1 q1 => ?_)
  have hm1 := lS_m hm q1.1
  refine z_aload_n ok dL_law_518 rfl ?_
  refine z_aload_n ok dL_law_519 rfl ?_
  refine z_iload_n ok dL_law_520 rfl ?_
  refine z_iconst (v := 1) ok dL_law_521 (by decide) ?_
  refine z_iadd ok dL_law_522 ?_
  refine z_sld (j + 1) ok dL_law_523 hX (lw_a1 j) (by omega) hL ?_
  refine z_callVi ok dL_law_524 zm_X7_pass zw_925 zi_X7_pass hm1.1 rfl (ct_X7_pass hm1 hN (Or.inl ⟨hE.1, hE.2.1, hr.B.1⟩)) rfl rfl (by decide) (by decide) (by decide) (Nat.le_of_ble_eq_true rfl) (fun x2 M2 q2 => ?_)
  obtain ⟨heq, hI2⟩ := lS_post hm1 hE q1 q2
  refine z_icmp_eq (tgt := 851) ok dL_law_527 (by decide) (fun _ => ?_) (fun q9 => absurd heq q9)
  exact next _ hI2

set_option maxRecDepth 20000 in
set_option maxHeartbeats 4000000 in
theorem lw_c10 {B : zB} {Q : State → Prop} {K : zK} {nm : String} {b lx c j : Nat} {xs : Nat → Int32} (ok : zOk K (⟨"FreightSplitsLaw", nm, "([I)Z"⟩ : MethodName) cL_law 4 ret 11 600000 7302250 B) (hX : lX B b lx xs) (hL : lx ≤ 3584) (hj : j + 7 ≤ lx) {M : mM} (hI : lI c M) (next : ∀ M2, lI c M2 → zV 4 B Q 851 [some (.ref b), some (.ref c), some (.ref (c + 251)), some (.int (nI j))] [] M2 260 4599) : zV 4 B Q 532 [some (.ref b), some (.ref c), some (.ref (c + 251)), some (.int (nI j))] [] M 260 4599 := by
  obtain ⟨μ, p, ty, hm, hE, hc⟩ := id hI
  obtain ⟨n, nv, no, o, fp, fr, vb, nxz, nums, hr⟩ := hc
  have hN := lS_N hr
  refine z_aload_n ok dL_law_532 rfl ?_
  refine z_aload_n ok dL_law_533 rfl ?_
  refine z_iload_n ok dL_law_534 rfl ?_
  refine z_iconst (v := 1) ok dL_law_535 (by decide) ?_
  refine z_iadd ok dL_law_536 ?_
  refine z_sld (j + 1) ok dL_law_537 hX (lw_a1 j) (by omega) hL ?_
  refine z_aload_n ok dL_law_538 rfl ?_
  refine z_iload_n ok dL_law_539 rfl ?_
  refine z_iconst (v := 2) ok dL_law_540 (by decide) ?_
  refine z_iadd ok dL_law_541 ?_
  refine z_sld (j + 2) ok dL_law_542 hX (lw_a2 j) (by omega) hL ?_
  refine z_callVi ok dL_law_543 zm_X6_set zw_550 zi_X6_set hr.F rfl (ct_X6_set hr) rfl rfl (by decide) (by decide) (by decide) (Nat.le_of_ble_eq_true rfl) (fun x1 M1 q1 => ?_)
  have hm1 := lS_m hm q1.1
  refine z_aload_n ok dL_law_546 rfl ?_
  refine z_aload_n ok dL_law_547 rfl ?_
  refine z_iload_n ok dL_law_548 rfl ?_
  refine z_iconst (v := 1) ok dL_law_549 (by decide) ?_
  refine z_iadd ok dL_law_550 ?_
  refine z_sld (j + 1) ok dL_law_551 hX (lw_a1 j) (by omega) hL ?_
  refine z_aload_n ok dL_law_552 rfl ?_
  refine z_iload_n ok dL_law_553 rfl ?_
  refine z_iconst (v := 2) ok dL_law_554 (by decide) ?_
  refine z_iadd ok dL_law_555 ?_
  refine z_sld (j + 2) ok dL_law_556 hX (lw_a2 j) (by omega) hL ?_
  refine z_callVi ok dL_law_557 zm_X7_set zw_957 zi_X7_set hm1.1 rfl (ct_X7_set hm1 hN (Or.inl ⟨hE.1, hE.2.1, hr.B.1⟩)) rfl rfl (by decide) (by decide) (by decide) (Nat.le_of_ble_eq_true rfl) (fun x2 M2 q2 => ?_)
  obtain ⟨heq, hI2⟩ := lS_post hm1 hE q1 q2
  refine z_icmp_eq (tgt := 851) ok dL_law_560 (by decide) (fun _ => ?_) (fun q9 => absurd heq q9)
  exact next _ hI2

set_option maxRecDepth 20000 in
set_option maxHeartbeats 4000000 in
theorem lw_c11 {B : zB} {Q : State → Prop} {K : zK} {nm : String} {b lx c j : Nat} {xs : Nat → Int32} (ok : zOk K (⟨"FreightSplitsLaw", nm, "([I)Z"⟩ : MethodName) cL_law 4 ret 11 600000 7302250 B) (hX : lX B b lx xs) (hL : lx ≤ 3584) (hj : j + 7 ≤ lx) {M : mM} (hI : lI c M) (next : ∀ M2, lI c M2 → zV 4 B Q 851 [some (.ref b), some (.ref c), some (.ref (c + 251)), some (.int (nI j))] [] M2 260 4599) : zV 4 B Q 565 [some (.ref b), some (.ref c), some (.ref (c + 251)), some (.int (nI j))] [] M 260 4599 := by
  obtain ⟨μ, p, ty, hm, hE, hc⟩ := id hI
  obtain ⟨n, nv, no, o, fp, fr, vb, nxz, nums, hr⟩ := hc
  have hN := lS_N hr
  refine z_aload_n ok dL_law_565 rfl ?_
  refine z_aload_n ok dL_law_566 rfl ?_
  refine z_iload_n ok dL_law_567 rfl ?_
  refine z_iconst (v := 1) ok dL_law_568 (by decide) ?_
  refine z_iadd ok dL_law_569 ?_
  refine z_sld (j + 1) ok dL_law_570 hX (lw_a1 j) (by omega) hL ?_
  refine z_aload_n ok dL_law_571 rfl ?_
  refine z_iload_n ok dL_law_572 rfl ?_
  refine z_iconst (v := 2) ok dL_law_573 (by decide) ?_
  refine z_iadd ok dL_law_574 ?_
  refine z_sld (j + 2) ok dL_law_575 hX (lw_a2 j) (by omega) hL ?_
  refine z_callVi ok dL_law_576 zm_X6_consignmentOf zw_564 zi_X6_consignmentOf hr.F rfl (ct_X6_consignmentOf hr) rfl rfl (by decide) (by decide) (by decide) (Nat.le_of_ble_eq_true rfl) (fun x1 M1 q1 => ?_)
  have hm1 := lS_me hm q1.2
  refine z_aload_n ok dL_law_579 rfl ?_
  refine z_aload_n ok dL_law_580 rfl ?_
  refine z_iload_n ok dL_law_581 rfl ?_
  refine z_iconst (v := 1) ok dL_law_582 (by decide) ?_
  refine z_iadd ok dL_law_583 ?_
  refine z_sld (j + 1) ok dL_law_584 hX (lw_a1 j) (by omega) hL ?_
  refine z_aload_n ok dL_law_585 rfl ?_
  refine z_iload_n ok dL_law_586 rfl ?_
  refine z_iconst (v := 2) ok dL_law_587 (by decide) ?_
  refine z_iadd ok dL_law_588 ?_
  refine z_sld (j + 2) ok dL_law_589 hX (lw_a2 j) (by omega) hL ?_
  refine z_callVi ok dL_law_590 zm_X7_consignmentOf zw_961 zi_X7_consignmentOf hm1.1 rfl (ct_X7_consignmentOf hm1 hN) rfl rfl (by decide) (by decide) (by decide) (Nat.le_of_ble_eq_true rfl) (fun x2 M2 q2 => ?_)
  obtain ⟨heq, hI2⟩ := lS_q hI q1 q2 rfl
  refine z_icmp_eq (tgt := 851) ok dL_law_593 (by decide) (fun _ => ?_) (fun q9 => absurd heq q9)
  exact next _ hI2

