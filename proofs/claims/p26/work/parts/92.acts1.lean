theorem zN_ve {s : Nat → Int32} {n nv no : Nat} {r b : Int32} (h : zN s n nv no) (hv : nv < 4) : zN (zVe s nv r b) n (nv + 1) no := ⟨(zVe_o (q := 3) (by omega) (by omega)).trans h.1, h.2.1, by rw [zVe_4, h.2.2.1, nI_1], by omega, (zVe_o (q := 6) (by omega) (by omega)).trans h.2.2.2.2.1, h.2.2.2.2.2⟩
theorem zN_of {s : Nat → Int32} {n nv no : Nat} {p b w pr x : Int32} (h : zN s n nv no) (ho : no < 10) : zN (zOf s no p b w pr x) n nv (no + 1) := ⟨(zOf_o (q := 3) (by omega) (by omega)).trans h.1, h.2.1, (zOf_o (q := 4) (by omega) (by omega)).trans h.2.2.1, h.2.2.2.1, by rw [zOf_6, h.2.2.2.2.1, nI_1], by omega⟩
theorem zFill_5 {n v : Nat} {p r : Int32} : ∀ (f : Nat) (s : Nat → Int32) (L t : Int32), (zFill n v p r f s L t).1 5 = s 5
  | 0, s, L, t => rfl
  | f + 1, s, L, t => by
    rw [zFill]
    cases zPick s L p r n with
    | none => rfl
    | some cω =>
      simp only
      by_cases h : zCan s n cω v
      · rw [if_pos h, zFill_5 f]
        exact (pg_lo (by decide)).trans (pg_lo (by decide))
      · rw [if_neg h, zFill_5 f]
set_option maxRecDepth 20000 in
set_option maxHeartbeats 4000000 in
theorem la_66 {K : zK} {M : mM} {B : zB} {c : Nat} {s : Nat → Int32} {n nv no : Nat} (hS : lS M c s n nv no) {τ : Nat} (hτ : s 5 = nI τ) (hτ2 : τ ≤ 5000) {z : Int32} (ok : zOk K yL_acts cL_acts 16 zr_L_acts 7 0 0 B) {Y w : Nat} (hY : Y < 10000000) : zV 16 B (zE B (zI (fun x M' => x = 1 ∧ ∃ (s' : Nat → Int32) (n' nv' no' τ' : Nat), lS M' c s' n' nv' no' ∧ s' 5 = nI τ' ∧ τ' ≤ τ + 30 ∧ zFr M M' c 257)) 0 0) 66 [some (.ref c), some (.ref (c + 251)), some (.ref (c + 251 + 1)), some (.ref (c + 251 + 2)), some (.ref (c + 251 + 3)), some (.ref (c + 251 + 4)), some (.ref (c + 251 + 5)), some (.int z), some (.int (nI Y)), some (.int (nI w)), none, none, none, none, none, none] [] M 0 0 := by
  have hmω := hS.2.1
  have hoω := hS.1
  have hwω := hS.2.2.1
  have hxω := hS.2.2.2
  have hNω := hwω.N
  have hn16ω := hNω.2.1
  have hnv4ω := hNω.2.2.2.1
  have hno10ω := hNω.2.2.2.2.2
  refine z_iconst (v := 1) ok dL_acts_66 (by decide) ?_
  refine z_iload ok dL_acts_67 rfl ?_
  refine z_iload ok dL_acts_69 rfl ?_
  refine z_iconst (v := 3) ok dL_acts_71 (by decide) ?_
  refine z_irem ok dL_acts_72 (by decide) ?_
  refine zV_eqi (yrem (d := 3) rfl (by omega) (by omega) (by omega)) ?_
  refine z_if_ne (tgt := 82) ok dL_acts_73 (by decide) (fun cz73ω => ?_) (fun cz73ω => ?_)
  · refine z_bipush (v := 60) ok dL_acts_82 (by decide) ?_
    refine z_irem ok dL_acts_84 (by decide) ?_
    refine zV_eqi (yrem (d := 60) rfl (by omega) (by omega) (by omega)) ?_
    refine z_iadd ok dL_acts_85 ?_
    refine zV_eqi (yadd (a := 1) rfl) ?_
    refine z_istore ok dL_acts_86 (by decide) rfl ?_
    refine z_iconst (v := 1) ok dL_acts_88 (by decide) ?_
    refine z_iload ok dL_acts_89 rfl ?_
    refine z_bipush (v := 7) ok dL_acts_91 (by decide) ?_
    refine z_idiv ok dL_acts_93 (by decide) ?_
    refine zV_eqi (ydiv (d := 7) rfl (by omega) (by omega) (by omega)) ?_
    refine z_iload ok dL_acts_94 rfl ?_
    refine z_iconst (v := 5) ok dL_acts_96 (by decide) ?_
    refine z_irem ok dL_acts_97 (by decide) ?_
    refine zV_eqi (yrem (d := 5) rfl (by omega) (by omega) (by omega)) ?_
    refine z_if_ne (tgt := 107) ok dL_acts_98 (by decide) (fun cz98ω => ?_) (fun cz98ω => ?_)
    · refine z_bipush (v := 80) ok dL_acts_107 (by decide) ?_
      refine z_irem ok dL_acts_109 (by decide) ?_
      refine zV_eqi (yrem (d := 80) rfl (by omega) (by omega) (by omega)) ?_
      refine z_iadd ok dL_acts_110 ?_
      refine zV_eqi (yadd (a := 1) rfl) ?_
      refine z_istore ok dL_acts_111 (by decide) rfl ?_
      refine z_aload_n ok dL_acts_113 rfl ?_
      refine z_iconst (v := 4) ok dL_acts_114 (by decide) ?_
      refine l_ldG (t := 4) ok dL_acts_115 hmω rfl (by decide) ?_
      refine z_iconst (v := 4) ok dL_acts_116 (by decide) ?_
      refine z_icmp_ne (tgt := 139) ok dL_acts_117 (by decide) (fun cz117ω => ?_) (fun cz117ω => ?_)
      · have hv4ω : nv < 4 := Nat.lt_of_le_of_ne hnv4ω (fun z9ω => cz117ω (by rw [hNω.2.2.1, z9ω]; rfl))
        obtain ⟨f0ω, f1ω, f2ω, f3ω, f4ω, f5ω, hr0ω, hrω⟩ := (hmω).raw
        refine z_iconst (v := 0) ok dL_acts_139 (by decide) ?_
        refine z_istore ok dL_acts_140 (by decide) rfl ?_
        refine z_iload ok dL_acts_142 rfl ?_
        refine z_bipush (v := 8) ok dL_acts_144 (by decide) ?_
        refine z_icmp_ge (tgt := 189) ok dL_acts_146 (by decide) (fun q9ω => absurd q9ω (by decide)) (fun _ => ?_)
        refine z_aload ok dL_acts_149 rfl ?_
        refine z_bipush (v := 8) ok dL_acts_151 (by decide) ?_
        refine z_aload_n ok dL_acts_153 rfl ?_
        refine z_iconst (v := 4) ok dL_acts_154 (by decide) ?_
        refine r_ald0 4 ok dL_acts_155 hr0ω rfl (by omega) ?_
        refine zV_eqi ((hrω.1 4 (by omega)).trans hNω.2.2.1) ?_
        refine z_imul ok dL_acts_156 ?_
        refine z_iload ok dL_acts_157 rfl ?_
        refine z_iadd ok dL_acts_159 ?_
        refine z_iload ok dL_acts_160 rfl ?_
        refine z_if_ne (tgt := 170) ok dL_acts_162 (by decide) (fun q9ω => absurd rfl q9ω) (fun _ => ?_)
        refine z_iload ok dL_acts_165 rfl ?_
        refine z_goto (tgt := 182) ok dL_acts_167 (by decide) ?_
        refine r_ast4 (8 * nv + 0) ok dL_acts_182 hr0ω (lxz rfl) (by omega) (fun Mz2ω hm1ω frz3ω => ?_)
        refine z_iinc ok dL_acts_183 rfl (show (0 : Int32) + Int32.ofInt (1) = 1 from by decide) (by decide) rfl ?_
        refine z_goto (tgt := 142) ok dL_acts_186 (by decide) ?_
        refine z_iload ok dL_acts_142 rfl ?_
        refine z_bipush (v := 8) ok dL_acts_144 (by decide) ?_
        refine z_icmp_ge (tgt := 189) ok dL_acts_146 (by decide) (fun q9ω => absurd q9ω (by decide)) (fun _ => ?_)
        refine z_aload ok dL_acts_149 rfl ?_
        refine z_bipush (v := 8) ok dL_acts_151 (by decide) ?_
        refine z_aload_n ok dL_acts_153 rfl ?_
        refine z_iconst (v := 4) ok dL_acts_154 (by decide) ?_
        refine r_ald0 4 ok dL_acts_155 hm1ω rfl (by omega) ?_
        refine zV_eqi ((hrω.1 4 (by omega)).trans hNω.2.2.1) ?_
        refine z_imul ok dL_acts_156 ?_
        refine z_iload ok dL_acts_157 rfl ?_
        refine z_iadd ok dL_acts_159 ?_
        refine z_iload ok dL_acts_160 rfl ?_
        refine z_if_ne (tgt := 170) ok dL_acts_162 (by decide) (fun _ => ?_) (fun q9ω => absurd q9ω (by decide))
        refine z_iload ok dL_acts_170 rfl ?_
        refine z_iconst (v := 1) ok dL_acts_172 (by decide) ?_
        refine z_icmp_ne (tgt := 181) ok dL_acts_173 (by decide) (fun q9ω => absurd rfl q9ω) (fun _ => ?_)
        refine z_iload ok dL_acts_176 rfl ?_
        refine z_goto (tgt := 182) ok dL_acts_178 (by decide) ?_
        refine r_ast4 (8 * nv + 1) ok dL_acts_182 hm1ω (lx8_1 nv) (by omega) (fun Mz5ω hm4ω frz6ω => ?_)
        refine z_iinc ok dL_acts_183 rfl (show (1 : Int32) + Int32.ofInt (1) = 2 from by decide) (by decide) rfl ?_
        refine z_goto (tgt := 142) ok dL_acts_186 (by decide) ?_
        refine z_iload ok dL_acts_142 rfl ?_
        refine z_bipush (v := 8) ok dL_acts_144 (by decide) ?_
        refine z_icmp_ge (tgt := 189) ok dL_acts_146 (by decide) (fun q9ω => absurd q9ω (by decide)) (fun _ => ?_)
        refine z_aload ok dL_acts_149 rfl ?_
        refine z_bipush (v := 8) ok dL_acts_151 (by decide) ?_
        refine z_aload_n ok dL_acts_153 rfl ?_
        refine z_iconst (v := 4) ok dL_acts_154 (by decide) ?_
        refine r_ald0 4 ok dL_acts_155 hm4ω rfl (by omega) ?_
        refine zV_eqi ((hrω.1 4 (by omega)).trans hNω.2.2.1) ?_
        refine z_imul ok dL_acts_156 ?_
        refine z_iload ok dL_acts_157 rfl ?_
        refine z_iadd ok dL_acts_159 ?_
        refine z_iload ok dL_acts_160 rfl ?_
        refine z_if_ne (tgt := 170) ok dL_acts_162 (by decide) (fun _ => ?_) (fun q9ω => absurd q9ω (by decide))
        refine z_iload ok dL_acts_170 rfl ?_
        refine z_iconst (v := 1) ok dL_acts_172 (by decide) ?_
        refine z_icmp_ne (tgt := 181) ok dL_acts_173 (by decide) (fun _ => ?_) (fun q9ω => absurd q9ω (by decide))
        refine z_iconst (v := 0) ok dL_acts_181 (by decide) ?_
        refine r_ast4 (8 * nv + 2) ok dL_acts_182 hm4ω (lx8_2 nv) (by omega) (fun Mz8ω hm7ω frz9ω => ?_)
        refine z_iinc ok dL_acts_183 rfl (show (2 : Int32) + Int32.ofInt (1) = 3 from by decide) (by decide) rfl ?_
        refine z_goto (tgt := 142) ok dL_acts_186 (by decide) ?_
        refine z_iload ok dL_acts_142 rfl ?_
        refine z_bipush (v := 8) ok dL_acts_144 (by decide) ?_
        refine z_icmp_ge (tgt := 189) ok dL_acts_146 (by decide) (fun q9ω => absurd q9ω (by decide)) (fun _ => ?_)
        refine z_aload ok dL_acts_149 rfl ?_
        refine z_bipush (v := 8) ok dL_acts_151 (by decide) ?_
        refine z_aload_n ok dL_acts_153 rfl ?_
        refine z_iconst (v := 4) ok dL_acts_154 (by decide) ?_
        refine r_ald0 4 ok dL_acts_155 hm7ω rfl (by omega) ?_
        refine zV_eqi ((hrω.1 4 (by omega)).trans hNω.2.2.1) ?_
        refine z_imul ok dL_acts_156 ?_
        refine z_iload ok dL_acts_157 rfl ?_
        refine z_iadd ok dL_acts_159 ?_
        refine z_iload ok dL_acts_160 rfl ?_
        refine z_if_ne (tgt := 170) ok dL_acts_162 (by decide) (fun _ => ?_) (fun q9ω => absurd q9ω (by decide))
        refine z_iload ok dL_acts_170 rfl ?_
        refine z_iconst (v := 1) ok dL_acts_172 (by decide) ?_
        refine z_icmp_ne (tgt := 181) ok dL_acts_173 (by decide) (fun _ => ?_) (fun q9ω => absurd q9ω (by decide))
        refine z_iconst (v := 0) ok dL_acts_181 (by decide) ?_
        refine r_ast4 (8 * nv + 3) ok dL_acts_182 hm7ω (lx8_3 nv) (by omega) (fun Mz11ω hm10ω frz12ω => ?_)
        refine z_iinc ok dL_acts_183 rfl (show (3 : Int32) + Int32.ofInt (1) = 4 from by decide) (by decide) rfl ?_
        refine z_goto (tgt := 142) ok dL_acts_186 (by decide) ?_
        refine z_iload ok dL_acts_142 rfl ?_
        refine z_bipush (v := 8) ok dL_acts_144 (by decide) ?_
        refine z_icmp_ge (tgt := 189) ok dL_acts_146 (by decide) (fun q9ω => absurd q9ω (by decide)) (fun _ => ?_)
        refine z_aload ok dL_acts_149 rfl ?_
        refine z_bipush (v := 8) ok dL_acts_151 (by decide) ?_
        refine z_aload_n ok dL_acts_153 rfl ?_
        refine z_iconst (v := 4) ok dL_acts_154 (by decide) ?_
        refine r_ald0 4 ok dL_acts_155 hm10ω rfl (by omega) ?_
        refine zV_eqi ((hrω.1 4 (by omega)).trans hNω.2.2.1) ?_
        refine z_imul ok dL_acts_156 ?_
        refine z_iload ok dL_acts_157 rfl ?_
        refine z_iadd ok dL_acts_159 ?_
        refine z_iload ok dL_acts_160 rfl ?_
        refine z_if_ne (tgt := 170) ok dL_acts_162 (by decide) (fun _ => ?_) (fun q9ω => absurd q9ω (by decide))
        refine z_iload ok dL_acts_170 rfl ?_
        refine z_iconst (v := 1) ok dL_acts_172 (by decide) ?_
        refine z_icmp_ne (tgt := 181) ok dL_acts_173 (by decide) (fun _ => ?_) (fun q9ω => absurd q9ω (by decide))
        refine z_iconst (v := 0) ok dL_acts_181 (by decide) ?_
        refine r_ast4 (8 * nv + 4) ok dL_acts_182 hm10ω (lx8_4 nv) (by omega) (fun Mz14ω hm13ω frz15ω => ?_)
        refine z_iinc ok dL_acts_183 rfl (show (4 : Int32) + Int32.ofInt (1) = 5 from by decide) (by decide) rfl ?_
        refine z_goto (tgt := 142) ok dL_acts_186 (by decide) ?_
        refine z_iload ok dL_acts_142 rfl ?_
        refine z_bipush (v := 8) ok dL_acts_144 (by decide) ?_
        refine z_icmp_ge (tgt := 189) ok dL_acts_146 (by decide) (fun q9ω => absurd q9ω (by decide)) (fun _ => ?_)
        refine z_aload ok dL_acts_149 rfl ?_
        refine z_bipush (v := 8) ok dL_acts_151 (by decide) ?_
        refine z_aload_n ok dL_acts_153 rfl ?_
        refine z_iconst (v := 4) ok dL_acts_154 (by decide) ?_
        refine r_ald0 4 ok dL_acts_155 hm13ω rfl (by omega) ?_
        refine zV_eqi ((hrω.1 4 (by omega)).trans hNω.2.2.1) ?_
        refine z_imul ok dL_acts_156 ?_
        refine z_iload ok dL_acts_157 rfl ?_
        refine z_iadd ok dL_acts_159 ?_
        refine z_iload ok dL_acts_160 rfl ?_
        refine z_if_ne (tgt := 170) ok dL_acts_162 (by decide) (fun _ => ?_) (fun q9ω => absurd q9ω (by decide))
        refine z_iload ok dL_acts_170 rfl ?_
        refine z_iconst (v := 1) ok dL_acts_172 (by decide) ?_
        refine z_icmp_ne (tgt := 181) ok dL_acts_173 (by decide) (fun _ => ?_) (fun q9ω => absurd q9ω (by decide))
        refine z_iconst (v := 0) ok dL_acts_181 (by decide) ?_
        refine r_ast4 (8 * nv + 5) ok dL_acts_182 hm13ω (lx8_5 nv) (by omega) (fun Mz17ω hm16ω frz18ω => ?_)
        refine z_iinc ok dL_acts_183 rfl (show (5 : Int32) + Int32.ofInt (1) = 6 from by decide) (by decide) rfl ?_
        refine z_goto (tgt := 142) ok dL_acts_186 (by decide) ?_
        refine z_iload ok dL_acts_142 rfl ?_
        refine z_bipush (v := 8) ok dL_acts_144 (by decide) ?_
        refine z_icmp_ge (tgt := 189) ok dL_acts_146 (by decide) (fun q9ω => absurd q9ω (by decide)) (fun _ => ?_)
        refine z_aload ok dL_acts_149 rfl ?_
        refine z_bipush (v := 8) ok dL_acts_151 (by decide) ?_
        refine z_aload_n ok dL_acts_153 rfl ?_
        refine z_iconst (v := 4) ok dL_acts_154 (by decide) ?_
        refine r_ald0 4 ok dL_acts_155 hm16ω rfl (by omega) ?_
        refine zV_eqi ((hrω.1 4 (by omega)).trans hNω.2.2.1) ?_
        refine z_imul ok dL_acts_156 ?_
        refine z_iload ok dL_acts_157 rfl ?_
        refine z_iadd ok dL_acts_159 ?_
        refine z_iload ok dL_acts_160 rfl ?_
        refine z_if_ne (tgt := 170) ok dL_acts_162 (by decide) (fun _ => ?_) (fun q9ω => absurd q9ω (by decide))
        refine z_iload ok dL_acts_170 rfl ?_
        refine z_iconst (v := 1) ok dL_acts_172 (by decide) ?_
        refine z_icmp_ne (tgt := 181) ok dL_acts_173 (by decide) (fun _ => ?_) (fun q9ω => absurd q9ω (by decide))
        refine z_iconst (v := 0) ok dL_acts_181 (by decide) ?_
        refine r_ast4 (8 * nv + 6) ok dL_acts_182 hm16ω (lx8_6 nv) (by omega) (fun Mz20ω hm19ω frz21ω => ?_)
        refine z_iinc ok dL_acts_183 rfl (show (6 : Int32) + Int32.ofInt (1) = 7 from by decide) (by decide) rfl ?_
        refine z_goto (tgt := 142) ok dL_acts_186 (by decide) ?_
        refine z_iload ok dL_acts_142 rfl ?_
        refine z_bipush (v := 8) ok dL_acts_144 (by decide) ?_
        refine z_icmp_ge (tgt := 189) ok dL_acts_146 (by decide) (fun q9ω => absurd q9ω (by decide)) (fun _ => ?_)
        refine z_aload ok dL_acts_149 rfl ?_
        refine z_bipush (v := 8) ok dL_acts_151 (by decide) ?_
        refine z_aload_n ok dL_acts_153 rfl ?_
        refine z_iconst (v := 4) ok dL_acts_154 (by decide) ?_
        refine r_ald0 4 ok dL_acts_155 hm19ω rfl (by omega) ?_
        refine zV_eqi ((hrω.1 4 (by omega)).trans hNω.2.2.1) ?_
        refine z_imul ok dL_acts_156 ?_
        refine z_iload ok dL_acts_157 rfl ?_
        refine z_iadd ok dL_acts_159 ?_
        refine z_iload ok dL_acts_160 rfl ?_
        refine z_if_ne (tgt := 170) ok dL_acts_162 (by decide) (fun _ => ?_) (fun q9ω => absurd q9ω (by decide))
        refine z_iload ok dL_acts_170 rfl ?_
        refine z_iconst (v := 1) ok dL_acts_172 (by decide) ?_
        refine z_icmp_ne (tgt := 181) ok dL_acts_173 (by decide) (fun _ => ?_) (fun q9ω => absurd q9ω (by decide))
        refine z_iconst (v := 0) ok dL_acts_181 (by decide) ?_
        refine r_ast4 (8 * nv + 7) ok dL_acts_182 hm19ω (lx8_7 nv) (by omega) (fun Mz23ω hm22ω frz24ω => ?_)
        refine z_iinc ok dL_acts_183 rfl (show (7 : Int32) + Int32.ofInt (1) = 8 from by decide) (by decide) rfl ?_
        refine z_goto (tgt := 142) ok dL_acts_186 (by decide) ?_
        refine z_iload ok dL_acts_142 rfl ?_
        refine z_bipush (v := 8) ok dL_acts_144 (by decide) ?_
        refine z_icmp_ge (tgt := 189) ok dL_acts_146 (by decide) (fun _ => ?_) (fun q9ω => absurd (by decide) q9ω)
        refine z_aload_n ok dL_acts_189 rfl ?_
        refine z_iconst (v := 4) ok dL_acts_190 (by decide) ?_
        refine z_dup2 ok dL_acts_191 rfl rfl ?_
        refine r_ald0 4 ok dL_acts_192 hm22ω rfl (by omega) ?_
        refine z_iconst (v := 1) ok dL_acts_193 (by decide) ?_
        refine z_iadd ok dL_acts_194 ?_
        refine r_ast0 4 ok dL_acts_195 hm22ω rfl (by omega) (fun Mz26ω hm25ω frz27ω => ?_)
        refine z_aload_n ok dL_acts_196 rfl ?_
        refine z_iload ok dL_acts_197 rfl ?_
        refine z_iload ok dL_acts_199 rfl ?_
        have ho201ω := hoω.fr (show zFr M _ (c + 251) 6 from (zFr.tr zFr.rf (zFr.tr frz3ω (zFr.tr frz6ω (zFr.tr frz9ω (zFr.tr frz12ω (zFr.tr frz15ω (zFr.tr frz18ω (zFr.tr frz21ω (zFr.tr frz24ω frz27ω))))))))))
        obtain ⟨fs201ω, hs201ω⟩ := ho201ω.self
        refine z_callVi ok dL_acts_201 zm_X6_vehicle zw_425 zi_X6_vehicle hs201ω rfl (ho201ω.to_vehicle hNω) rfl rfl (by decide) (by decide) (by decide) (Nat.le_of_ble_eq_true rfl) (fun xz28ω Mz29ω qz30ω => ?_)
        have hvbω := spV (s := s) (nv := nv) (r := (1 + (Y % 60))) (b := (1 + ((Y / 7) % 80))) (by omega) (by omega)
        obtain ⟨hfqω, hxeω, hoqω⟩ := (qz30ω).inr ((if_pos hvbω).trans (if_neg (by omega)))
        have hfzω := ((show zFr M _ (c + 251) 6 from (zFr.tr zFr.rf (zFr.tr frz3ω (zFr.tr frz6ω (zFr.tr frz9ω (zFr.tr frz12ω (zFr.tr frz15ω (zFr.tr frz18ω (zFr.tr frz21ω (zFr.tr frz24ω frz27ω)))))))))).w (c := c) (by omega) (by omega)).tr (hfqω.w (c := c) (by omega) (by omega))
        have hm31ω := (ve_fin hrω hNω hv4ω hm25ω).fr hfqω
        refine z_aload_n ok dL_acts_204 rfl ?_
        refine z_iconst (v := 4) ok dL_acts_205 (by decide) ?_
        refine l_ldG (t := 4) ok dL_acts_206 hm31ω rfl (by decide) ?_
        refine z_iconst (v := 1) ok dL_acts_207 (by decide) ?_
        refine z_isub ok dL_acts_208 ?_
        refine zV_eqi (show _ = nI nv from by rw [zVe_4, hNω.2.2.1, nI_1, nI_pr]) ?_
        refine z_icmp_ne (tgt := 216) ok dL_acts_209 (by decide) (fun q9ω => absurd hxeω q9ω) (fun _ => ?_)
        refine z_iconst (v := 1) ok dL_acts_212 (by decide) ?_
        refine z_goto (tgt := 217) ok dL_acts_213 (by decide) ?_
        exact z_iret ok dL_acts_217 rfl rfl rfl (Nat.zero_le _) ⟨rfl, _, n, nv + 1, no, τ, ⟨hoqω, hm31ω, hoqω.wf (zN_ve hNω hv4ω), hxω.veh hwω hv4ω hvbω.1 hvbω.2⟩, (zVe_o (q := 5) (by omega) (by omega)).trans hτ, by omega, hfzω⟩
      · have hv4ω : nv = 4 := (nI_eq (by omega) (by omega)).mp (hNω.2.2.1.symm.trans cz117ω)
        refine z_aload_n ok dL_acts_120 rfl ?_
        refine z_iload ok dL_acts_121 rfl ?_
        refine z_iload ok dL_acts_123 rfl ?_
        have ho125ω := hoω.fr (show zFr M _ (c + 251) 6 from zFr.rf)
        obtain ⟨fs125ω, hs125ω⟩ := ho125ω.self
        refine z_callVi ok dL_acts_125 zm_X6_vehicle zw_425 zi_X6_vehicle hs125ω rfl (ho125ω.to_vehicle hNω) rfl rfl (by decide) (by decide) (by decide) (Nat.le_of_ble_eq_true rfl) (fun xz32ω Mz33ω qz34ω => ?_)
        have hvbω := spV (s := s) (nv := nv) (r := (1 + (Y % 60))) (b := (1 + ((Y / 7) % 80))) (by omega) (by omega)
        obtain ⟨hfqω, hxeω, hoqω⟩ := (qz34ω).inl ((if_pos hvbω).trans (if_pos hv4ω))
        have hfzω := ((show zFr M _ (c + 251) 6 from zFr.rf).w (c := c) (by omega) (by omega)).tr (hfqω.w (c := c) (by omega) (by omega))
        have hm35ω := ((hmω).eqs (rfl)).fr hfqω
        refine z_ldc ok dL_acts_128 zw_383 ?_
        refine z_icmp_ne (tgt := 137) ok dL_acts_130 (by decide) (fun q9ω => absurd hxeω q9ω) (fun _ => ?_)
        refine z_iconst (v := 1) ok dL_acts_133 (by decide) ?_
        refine z_goto (tgt := 138) ok dL_acts_134 (by decide) ?_
        exact z_iret ok dL_acts_138 rfl rfl rfl (Nat.zero_le _) ⟨rfl, s, n, nv, no, τ, ⟨hoqω, hm35ω, hwω, hxω⟩, hτ, by omega, hfzω⟩
    · refine z_sipush (v := 200) ok dL_acts_101 (by decide) ?_
      refine z_goto (tgt := 109) ok dL_acts_104 (by decide) ?_
      refine z_irem ok dL_acts_109 (by decide) ?_
      refine zV_eqi (yrem (d := 200) rfl (by omega) (by omega) (by omega)) ?_
      refine z_iadd ok dL_acts_110 ?_
      refine zV_eqi (yadd (a := 1) rfl) ?_
      refine z_istore ok dL_acts_111 (by decide) rfl ?_
      refine z_aload_n ok dL_acts_113 rfl ?_
      refine z_iconst (v := 4) ok dL_acts_114 (by decide) ?_
      refine l_ldG (t := 4) ok dL_acts_115 hmω rfl (by decide) ?_
      refine z_iconst (v := 4) ok dL_acts_116 (by decide) ?_
      refine z_icmp_ne (tgt := 139) ok dL_acts_117 (by decide) (fun cz117ω => ?_) (fun cz117ω => ?_)
      · have hv4ω : nv < 4 := Nat.lt_of_le_of_ne hnv4ω (fun z9ω => cz117ω (by rw [hNω.2.2.1, z9ω]; rfl))
        obtain ⟨f0ω, f1ω, f2ω, f3ω, f4ω, f5ω, hr0ω, hrω⟩ := (hmω).raw
        refine z_iconst (v := 0) ok dL_acts_139 (by decide) ?_
        refine z_istore ok dL_acts_140 (by decide) rfl ?_
        refine z_iload ok dL_acts_142 rfl ?_
        refine z_bipush (v := 8) ok dL_acts_144 (by decide) ?_
        refine z_icmp_ge (tgt := 189) ok dL_acts_146 (by decide) (fun q9ω => absurd q9ω (by decide)) (fun _ => ?_)
        refine z_aload ok dL_acts_149 rfl ?_
        refine z_bipush (v := 8) ok dL_acts_151 (by decide) ?_
        refine z_aload_n ok dL_acts_153 rfl ?_
        refine z_iconst (v := 4) ok dL_acts_154 (by decide) ?_
        refine r_ald0 4 ok dL_acts_155 hr0ω rfl (by omega) ?_
        refine zV_eqi ((hrω.1 4 (by omega)).trans hNω.2.2.1) ?_
        refine z_imul ok dL_acts_156 ?_
        refine z_iload ok dL_acts_157 rfl ?_
        refine z_iadd ok dL_acts_159 ?_
        refine z_iload ok dL_acts_160 rfl ?_
        refine z_if_ne (tgt := 170) ok dL_acts_162 (by decide) (fun q9ω => absurd rfl q9ω) (fun _ => ?_)
        refine z_iload ok dL_acts_165 rfl ?_
        refine z_goto (tgt := 182) ok dL_acts_167 (by decide) ?_
        refine r_ast4 (8 * nv + 0) ok dL_acts_182 hr0ω (lxz rfl) (by omega) (fun Mz37ω hm36ω frz38ω => ?_)
        refine z_iinc ok dL_acts_183 rfl (show (0 : Int32) + Int32.ofInt (1) = 1 from by decide) (by decide) rfl ?_
        refine z_goto (tgt := 142) ok dL_acts_186 (by decide) ?_
        refine z_iload ok dL_acts_142 rfl ?_
        refine z_bipush (v := 8) ok dL_acts_144 (by decide) ?_
        refine z_icmp_ge (tgt := 189) ok dL_acts_146 (by decide) (fun q9ω => absurd q9ω (by decide)) (fun _ => ?_)
        refine z_aload ok dL_acts_149 rfl ?_
        refine z_bipush (v := 8) ok dL_acts_151 (by decide) ?_
        refine z_aload_n ok dL_acts_153 rfl ?_
        refine z_iconst (v := 4) ok dL_acts_154 (by decide) ?_
        refine r_ald0 4 ok dL_acts_155 hm36ω rfl (by omega) ?_
        refine zV_eqi ((hrω.1 4 (by omega)).trans hNω.2.2.1) ?_
        refine z_imul ok dL_acts_156 ?_
        refine z_iload ok dL_acts_157 rfl ?_
        refine z_iadd ok dL_acts_159 ?_
        refine z_iload ok dL_acts_160 rfl ?_
        refine z_if_ne (tgt := 170) ok dL_acts_162 (by decide) (fun _ => ?_) (fun q9ω => absurd q9ω (by decide))
        refine z_iload ok dL_acts_170 rfl ?_
        refine z_iconst (v := 1) ok dL_acts_172 (by decide) ?_
        refine z_icmp_ne (tgt := 181) ok dL_acts_173 (by decide) (fun q9ω => absurd rfl q9ω) (fun _ => ?_)
        refine z_iload ok dL_acts_176 rfl ?_
        refine z_goto (tgt := 182) ok dL_acts_178 (by decide) ?_
        refine r_ast4 (8 * nv + 1) ok dL_acts_182 hm36ω (lx8_1 nv) (by omega) (fun Mz40ω hm39ω frz41ω => ?_)
        refine z_iinc ok dL_acts_183 rfl (show (1 : Int32) + Int32.ofInt (1) = 2 from by decide) (by decide) rfl ?_
        refine z_goto (tgt := 142) ok dL_acts_186 (by decide) ?_
        refine z_iload ok dL_acts_142 rfl ?_
        refine z_bipush (v := 8) ok dL_acts_144 (by decide) ?_
        refine z_icmp_ge (tgt := 189) ok dL_acts_146 (by decide) (fun q9ω => absurd q9ω (by decide)) (fun _ => ?_)
        refine z_aload ok dL_acts_149 rfl ?_
        refine z_bipush (v := 8) ok dL_acts_151 (by decide) ?_
        refine z_aload_n ok dL_acts_153 rfl ?_
        refine z_iconst (v := 4) ok dL_acts_154 (by decide) ?_
        refine r_ald0 4 ok dL_acts_155 hm39ω rfl (by omega) ?_
        refine zV_eqi ((hrω.1 4 (by omega)).trans hNω.2.2.1) ?_
        refine z_imul ok dL_acts_156 ?_
        refine z_iload ok dL_acts_157 rfl ?_
        refine z_iadd ok dL_acts_159 ?_
        refine z_iload ok dL_acts_160 rfl ?_
        refine z_if_ne (tgt := 170) ok dL_acts_162 (by decide) (fun _ => ?_) (fun q9ω => absurd q9ω (by decide))
        refine z_iload ok dL_acts_170 rfl ?_
        refine z_iconst (v := 1) ok dL_acts_172 (by decide) ?_
        refine z_icmp_ne (tgt := 181) ok dL_acts_173 (by decide) (fun _ => ?_) (fun q9ω => absurd q9ω (by decide))
        refine z_iconst (v := 0) ok dL_acts_181 (by decide) ?_
        refine r_ast4 (8 * nv + 2) ok dL_acts_182 hm39ω (lx8_2 nv) (by omega) (fun Mz43ω hm42ω frz44ω => ?_)
        refine z_iinc ok dL_acts_183 rfl (show (2 : Int32) + Int32.ofInt (1) = 3 from by decide) (by decide) rfl ?_
        refine z_goto (tgt := 142) ok dL_acts_186 (by decide) ?_
        refine z_iload ok dL_acts_142 rfl ?_
        refine z_bipush (v := 8) ok dL_acts_144 (by decide) ?_
        refine z_icmp_ge (tgt := 189) ok dL_acts_146 (by decide) (fun q9ω => absurd q9ω (by decide)) (fun _ => ?_)
        refine z_aload ok dL_acts_149 rfl ?_
        refine z_bipush (v := 8) ok dL_acts_151 (by decide) ?_
        refine z_aload_n ok dL_acts_153 rfl ?_
        refine z_iconst (v := 4) ok dL_acts_154 (by decide) ?_
        refine r_ald0 4 ok dL_acts_155 hm42ω rfl (by omega) ?_
        refine zV_eqi ((hrω.1 4 (by omega)).trans hNω.2.2.1) ?_
        refine z_imul ok dL_acts_156 ?_
        refine z_iload ok dL_acts_157 rfl ?_
        refine z_iadd ok dL_acts_159 ?_
        refine z_iload ok dL_acts_160 rfl ?_
        refine z_if_ne (tgt := 170) ok dL_acts_162 (by decide) (fun _ => ?_) (fun q9ω => absurd q9ω (by decide))
        refine z_iload ok dL_acts_170 rfl ?_
        refine z_iconst (v := 1) ok dL_acts_172 (by decide) ?_
        refine z_icmp_ne (tgt := 181) ok dL_acts_173 (by decide) (fun _ => ?_) (fun q9ω => absurd q9ω (by decide))
        refine z_iconst (v := 0) ok dL_acts_181 (by decide) ?_
        refine r_ast4 (8 * nv + 3) ok dL_acts_182 hm42ω (lx8_3 nv) (by omega) (fun Mz46ω hm45ω frz47ω => ?_)
        refine z_iinc ok dL_acts_183 rfl (show (3 : Int32) + Int32.ofInt (1) = 4 from by decide) (by decide) rfl ?_
        refine z_goto (tgt := 142) ok dL_acts_186 (by decide) ?_
        refine z_iload ok dL_acts_142 rfl ?_
        refine z_bipush (v := 8) ok dL_acts_144 (by decide) ?_
        refine z_icmp_ge (tgt := 189) ok dL_acts_146 (by decide) (fun q9ω => absurd q9ω (by decide)) (fun _ => ?_)
        refine z_aload ok dL_acts_149 rfl ?_
        refine z_bipush (v := 8) ok dL_acts_151 (by decide) ?_
        refine z_aload_n ok dL_acts_153 rfl ?_
        refine z_iconst (v := 4) ok dL_acts_154 (by decide) ?_
        refine r_ald0 4 ok dL_acts_155 hm45ω rfl (by omega) ?_
        refine zV_eqi ((hrω.1 4 (by omega)).trans hNω.2.2.1) ?_
        refine z_imul ok dL_acts_156 ?_
        refine z_iload ok dL_acts_157 rfl ?_
        refine z_iadd ok dL_acts_159 ?_
        refine z_iload ok dL_acts_160 rfl ?_
        refine z_if_ne (tgt := 170) ok dL_acts_162 (by decide) (fun _ => ?_) (fun q9ω => absurd q9ω (by decide))
        refine z_iload ok dL_acts_170 rfl ?_
        refine z_iconst (v := 1) ok dL_acts_172 (by decide) ?_
        refine z_icmp_ne (tgt := 181) ok dL_acts_173 (by decide) (fun _ => ?_) (fun q9ω => absurd q9ω (by decide))
        refine z_iconst (v := 0) ok dL_acts_181 (by decide) ?_
        refine r_ast4 (8 * nv + 4) ok dL_acts_182 hm45ω (lx8_4 nv) (by omega) (fun Mz49ω hm48ω frz50ω => ?_)
        refine z_iinc ok dL_acts_183 rfl (show (4 : Int32) + Int32.ofInt (1) = 5 from by decide) (by decide) rfl ?_
        refine z_goto (tgt := 142) ok dL_acts_186 (by decide) ?_
        refine z_iload ok dL_acts_142 rfl ?_
        refine z_bipush (v := 8) ok dL_acts_144 (by decide) ?_
        refine z_icmp_ge (tgt := 189) ok dL_acts_146 (by decide) (fun q9ω => absurd q9ω (by decide)) (fun _ => ?_)
        refine z_aload ok dL_acts_149 rfl ?_
        refine z_bipush (v := 8) ok dL_acts_151 (by decide) ?_
        refine z_aload_n ok dL_acts_153 rfl ?_
        refine z_iconst (v := 4) ok dL_acts_154 (by decide) ?_
        refine r_ald0 4 ok dL_acts_155 hm48ω rfl (by omega) ?_
        refine zV_eqi ((hrω.1 4 (by omega)).trans hNω.2.2.1) ?_
        refine z_imul ok dL_acts_156 ?_
        refine z_iload ok dL_acts_157 rfl ?_
        refine z_iadd ok dL_acts_159 ?_
        refine z_iload ok dL_acts_160 rfl ?_
        refine z_if_ne (tgt := 170) ok dL_acts_162 (by decide) (fun _ => ?_) (fun q9ω => absurd q9ω (by decide))
        refine z_iload ok dL_acts_170 rfl ?_
        refine z_iconst (v := 1) ok dL_acts_172 (by decide) ?_
        refine z_icmp_ne (tgt := 181) ok dL_acts_173 (by decide) (fun _ => ?_) (fun q9ω => absurd q9ω (by decide))
        refine z_iconst (v := 0) ok dL_acts_181 (by decide) ?_
        refine r_ast4 (8 * nv + 5) ok dL_acts_182 hm48ω (lx8_5 nv) (by omega) (fun Mz52ω hm51ω frz53ω => ?_)
        refine z_iinc ok dL_acts_183 rfl (show (5 : Int32) + Int32.ofInt (1) = 6 from by decide) (by decide) rfl ?_
        refine z_goto (tgt := 142) ok dL_acts_186 (by decide) ?_
        refine z_iload ok dL_acts_142 rfl ?_
        refine z_bipush (v := 8) ok dL_acts_144 (by decide) ?_
        refine z_icmp_ge (tgt := 189) ok dL_acts_146 (by decide) (fun q9ω => absurd q9ω (by decide)) (fun _ => ?_)
        refine z_aload ok dL_acts_149 rfl ?_
        refine z_bipush (v := 8) ok dL_acts_151 (by decide) ?_
        refine z_aload_n ok dL_acts_153 rfl ?_
        refine z_iconst (v := 4) ok dL_acts_154 (by decide) ?_
        refine r_ald0 4 ok dL_acts_155 hm51ω rfl (by omega) ?_
        refine zV_eqi ((hrω.1 4 (by omega)).trans hNω.2.2.1) ?_
        refine z_imul ok dL_acts_156 ?_
        refine z_iload ok dL_acts_157 rfl ?_
        refine z_iadd ok dL_acts_159 ?_
        refine z_iload ok dL_acts_160 rfl ?_
        refine z_if_ne (tgt := 170) ok dL_acts_162 (by decide) (fun _ => ?_) (fun q9ω => absurd q9ω (by decide))
        refine z_iload ok dL_acts_170 rfl ?_
        refine z_iconst (v := 1) ok dL_acts_172 (by decide) ?_
        refine z_icmp_ne (tgt := 181) ok dL_acts_173 (by decide) (fun _ => ?_) (fun q9ω => absurd q9ω (by decide))
        refine z_iconst (v := 0) ok dL_acts_181 (by decide) ?_
        refine r_ast4 (8 * nv + 6) ok dL_acts_182 hm51ω (lx8_6 nv) (by omega) (fun Mz55ω hm54ω frz56ω => ?_)
        refine z_iinc ok dL_acts_183 rfl (show (6 : Int32) + Int32.ofInt (1) = 7 from by decide) (by decide) rfl ?_
        refine z_goto (tgt := 142) ok dL_acts_186 (by decide) ?_
        refine z_iload ok dL_acts_142 rfl ?_
        refine z_bipush (v := 8) ok dL_acts_144 (by decide) ?_
        refine z_icmp_ge (tgt := 189) ok dL_acts_146 (by decide) (fun q9ω => absurd q9ω (by decide)) (fun _ => ?_)
        refine z_aload ok dL_acts_149 rfl ?_
        refine z_bipush (v := 8) ok dL_acts_151 (by decide) ?_
        refine z_aload_n ok dL_acts_153 rfl ?_
        refine z_iconst (v := 4) ok dL_acts_154 (by decide) ?_
        refine r_ald0 4 ok dL_acts_155 hm54ω rfl (by omega) ?_
        refine zV_eqi ((hrω.1 4 (by omega)).trans hNω.2.2.1) ?_
        refine z_imul ok dL_acts_156 ?_
        refine z_iload ok dL_acts_157 rfl ?_
        refine z_iadd ok dL_acts_159 ?_
        refine z_iload ok dL_acts_160 rfl ?_
        refine z_if_ne (tgt := 170) ok dL_acts_162 (by decide) (fun _ => ?_) (fun q9ω => absurd q9ω (by decide))
        refine z_iload ok dL_acts_170 rfl ?_
        refine z_iconst (v := 1) ok dL_acts_172 (by decide) ?_
        refine z_icmp_ne (tgt := 181) ok dL_acts_173 (by decide) (fun _ => ?_) (fun q9ω => absurd q9ω (by decide))
        refine z_iconst (v := 0) ok dL_acts_181 (by decide) ?_
        refine r_ast4 (8 * nv + 7) ok dL_acts_182 hm54ω (lx8_7 nv) (by omega) (fun Mz58ω hm57ω frz59ω => ?_)
        refine z_iinc ok dL_acts_183 rfl (show (7 : Int32) + Int32.ofInt (1) = 8 from by decide) (by decide) rfl ?_
        refine z_goto (tgt := 142) ok dL_acts_186 (by decide) ?_
        refine z_iload ok dL_acts_142 rfl ?_
        refine z_bipush (v := 8) ok dL_acts_144 (by decide) ?_
        refine z_icmp_ge (tgt := 189) ok dL_acts_146 (by decide) (fun _ => ?_) (fun q9ω => absurd (by decide) q9ω)
        refine z_aload_n ok dL_acts_189 rfl ?_
        refine z_iconst (v := 4) ok dL_acts_190 (by decide) ?_
        refine z_dup2 ok dL_acts_191 rfl rfl ?_
        refine r_ald0 4 ok dL_acts_192 hm57ω rfl (by omega) ?_
        refine z_iconst (v := 1) ok dL_acts_193 (by decide) ?_
        refine z_iadd ok dL_acts_194 ?_
        refine r_ast0 4 ok dL_acts_195 hm57ω rfl (by omega) (fun Mz61ω hm60ω frz62ω => ?_)
        refine z_aload_n ok dL_acts_196 rfl ?_
        refine z_iload ok dL_acts_197 rfl ?_
        refine z_iload ok dL_acts_199 rfl ?_
        have ho201ω := hoω.fr (show zFr M _ (c + 251) 6 from (zFr.tr zFr.rf (zFr.tr frz38ω (zFr.tr frz41ω (zFr.tr frz44ω (zFr.tr frz47ω (zFr.tr frz50ω (zFr.tr frz53ω (zFr.tr frz56ω (zFr.tr frz59ω frz62ω))))))))))
        obtain ⟨fs201ω, hs201ω⟩ := ho201ω.self
        refine z_callVi ok dL_acts_201 zm_X6_vehicle zw_425 zi_X6_vehicle hs201ω rfl (ho201ω.to_vehicle hNω) rfl rfl (by decide) (by decide) (by decide) (Nat.le_of_ble_eq_true rfl) (fun xz63ω Mz64ω qz65ω => ?_)
        have hvbω := spV (s := s) (nv := nv) (r := (1 + (Y % 60))) (b := (1 + ((Y / 7) % 200))) (by omega) (by omega)
        obtain ⟨hfqω, hxeω, hoqω⟩ := (qz65ω).inr ((if_pos hvbω).trans (if_neg (by omega)))
        have hfzω := ((show zFr M _ (c + 251) 6 from (zFr.tr zFr.rf (zFr.tr frz38ω (zFr.tr frz41ω (zFr.tr frz44ω (zFr.tr frz47ω (zFr.tr frz50ω (zFr.tr frz53ω (zFr.tr frz56ω (zFr.tr frz59ω frz62ω)))))))))).w (c := c) (by omega) (by omega)).tr (hfqω.w (c := c) (by omega) (by omega))
        have hm66ω := (ve_fin hrω hNω hv4ω hm60ω).fr hfqω
        refine z_aload_n ok dL_acts_204 rfl ?_
        refine z_iconst (v := 4) ok dL_acts_205 (by decide) ?_
        refine l_ldG (t := 4) ok dL_acts_206 hm66ω rfl (by decide) ?_
        refine z_iconst (v := 1) ok dL_acts_207 (by decide) ?_
        refine z_isub ok dL_acts_208 ?_
        refine zV_eqi (show _ = nI nv from by rw [zVe_4, hNω.2.2.1, nI_1, nI_pr]) ?_
        refine z_icmp_ne (tgt := 216) ok dL_acts_209 (by decide) (fun q9ω => absurd hxeω q9ω) (fun _ => ?_)
        refine z_iconst (v := 1) ok dL_acts_212 (by decide) ?_
        refine z_goto (tgt := 217) ok dL_acts_213 (by decide) ?_
        exact z_iret ok dL_acts_217 rfl rfl rfl (Nat.zero_le _) ⟨rfl, _, n, nv + 1, no, τ, ⟨hoqω, hm66ω, hoqω.wf (zN_ve hNω hv4ω), hxω.veh hwω hv4ω hvbω.1 hvbω.2⟩, (zVe_o (q := 5) (by omega) (by omega)).trans hτ, by omega, hfzω⟩
      · have hv4ω : nv = 4 := (nI_eq (by omega) (by omega)).mp (hNω.2.2.1.symm.trans cz117ω)
        refine z_aload_n ok dL_acts_120 rfl ?_
        refine z_iload ok dL_acts_121 rfl ?_
        refine z_iload ok dL_acts_123 rfl ?_
        have ho125ω := hoω.fr (show zFr M _ (c + 251) 6 from zFr.rf)
        obtain ⟨fs125ω, hs125ω⟩ := ho125ω.self
        refine z_callVi ok dL_acts_125 zm_X6_vehicle zw_425 zi_X6_vehicle hs125ω rfl (ho125ω.to_vehicle hNω) rfl rfl (by decide) (by decide) (by decide) (Nat.le_of_ble_eq_true rfl) (fun xz67ω Mz68ω qz69ω => ?_)
        have hvbω := spV (s := s) (nv := nv) (r := (1 + (Y % 60))) (b := (1 + ((Y / 7) % 200))) (by omega) (by omega)
        obtain ⟨hfqω, hxeω, hoqω⟩ := (qz69ω).inl ((if_pos hvbω).trans (if_pos hv4ω))
        have hfzω := ((show zFr M _ (c + 251) 6 from zFr.rf).w (c := c) (by omega) (by omega)).tr (hfqω.w (c := c) (by omega) (by omega))
        have hm70ω := ((hmω).eqs (rfl)).fr hfqω
        refine z_ldc ok dL_acts_128 zw_383 ?_
        refine z_icmp_ne (tgt := 137) ok dL_acts_130 (by decide) (fun q9ω => absurd hxeω q9ω) (fun _ => ?_)
        refine z_iconst (v := 1) ok dL_acts_133 (by decide) ?_
        refine z_goto (tgt := 138) ok dL_acts_134 (by decide) ?_
        exact z_iret ok dL_acts_138 rfl rfl rfl (Nat.zero_le _) ⟨rfl, s, n, nv, no, τ, ⟨hoqω, hm70ω, hwω, hxω⟩, hτ, by omega, hfzω⟩
  · refine z_sipush (v := 200) ok dL_acts_76 (by decide) ?_
    refine z_goto (tgt := 84) ok dL_acts_79 (by decide) ?_
    refine z_irem ok dL_acts_84 (by decide) ?_
    refine zV_eqi (yrem (d := 200) rfl (by omega) (by omega) (by omega)) ?_
    refine z_iadd ok dL_acts_85 ?_
    refine zV_eqi (yadd (a := 1) rfl) ?_
    refine z_istore ok dL_acts_86 (by decide) rfl ?_
    refine z_iconst (v := 1) ok dL_acts_88 (by decide) ?_
    refine z_iload ok dL_acts_89 rfl ?_
    refine z_bipush (v := 7) ok dL_acts_91 (by decide) ?_
    refine z_idiv ok dL_acts_93 (by decide) ?_
    refine zV_eqi (ydiv (d := 7) rfl (by omega) (by omega) (by omega)) ?_
    refine z_iload ok dL_acts_94 rfl ?_
    refine z_iconst (v := 5) ok dL_acts_96 (by decide) ?_
    refine z_irem ok dL_acts_97 (by decide) ?_
    refine zV_eqi (yrem (d := 5) rfl (by omega) (by omega) (by omega)) ?_
    refine z_if_ne (tgt := 107) ok dL_acts_98 (by decide) (fun cz98ω => ?_) (fun cz98ω => ?_)
    · refine z_bipush (v := 80) ok dL_acts_107 (by decide) ?_
      refine z_irem ok dL_acts_109 (by decide) ?_
      refine zV_eqi (yrem (d := 80) rfl (by omega) (by omega) (by omega)) ?_
      refine z_iadd ok dL_acts_110 ?_
      refine zV_eqi (yadd (a := 1) rfl) ?_
      refine z_istore ok dL_acts_111 (by decide) rfl ?_
      refine z_aload_n ok dL_acts_113 rfl ?_
      refine z_iconst (v := 4) ok dL_acts_114 (by decide) ?_
      refine l_ldG (t := 4) ok dL_acts_115 hmω rfl (by decide) ?_
      refine z_iconst (v := 4) ok dL_acts_116 (by decide) ?_
      refine z_icmp_ne (tgt := 139) ok dL_acts_117 (by decide) (fun cz117ω => ?_) (fun cz117ω => ?_)
      · have hv4ω : nv < 4 := Nat.lt_of_le_of_ne hnv4ω (fun z9ω => cz117ω (by rw [hNω.2.2.1, z9ω]; rfl))
        obtain ⟨f0ω, f1ω, f2ω, f3ω, f4ω, f5ω, hr0ω, hrω⟩ := (hmω).raw
        refine z_iconst (v := 0) ok dL_acts_139 (by decide) ?_
        refine z_istore ok dL_acts_140 (by decide) rfl ?_
        refine z_iload ok dL_acts_142 rfl ?_
        refine z_bipush (v := 8) ok dL_acts_144 (by decide) ?_
        refine z_icmp_ge (tgt := 189) ok dL_acts_146 (by decide) (fun q9ω => absurd q9ω (by decide)) (fun _ => ?_)
        refine z_aload ok dL_acts_149 rfl ?_
        refine z_bipush (v := 8) ok dL_acts_151 (by decide) ?_
        refine z_aload_n ok dL_acts_153 rfl ?_
        refine z_iconst (v := 4) ok dL_acts_154 (by decide) ?_
        refine r_ald0 4 ok dL_acts_155 hr0ω rfl (by omega) ?_
        refine zV_eqi ((hrω.1 4 (by omega)).trans hNω.2.2.1) ?_
        refine z_imul ok dL_acts_156 ?_
        refine z_iload ok dL_acts_157 rfl ?_
        refine z_iadd ok dL_acts_159 ?_
        refine z_iload ok dL_acts_160 rfl ?_
        refine z_if_ne (tgt := 170) ok dL_acts_162 (by decide) (fun q9ω => absurd rfl q9ω) (fun _ => ?_)
        refine z_iload ok dL_acts_165 rfl ?_
        refine z_goto (tgt := 182) ok dL_acts_167 (by decide) ?_
        refine r_ast4 (8 * nv + 0) ok dL_acts_182 hr0ω (lxz rfl) (by omega) (fun Mz72ω hm71ω frz73ω => ?_)
        refine z_iinc ok dL_acts_183 rfl (show (0 : Int32) + Int32.ofInt (1) = 1 from by decide) (by decide) rfl ?_
        refine z_goto (tgt := 142) ok dL_acts_186 (by decide) ?_
        refine z_iload ok dL_acts_142 rfl ?_
        refine z_bipush (v := 8) ok dL_acts_144 (by decide) ?_
        refine z_icmp_ge (tgt := 189) ok dL_acts_146 (by decide) (fun q9ω => absurd q9ω (by decide)) (fun _ => ?_)
        refine z_aload ok dL_acts_149 rfl ?_
        refine z_bipush (v := 8) ok dL_acts_151 (by decide) ?_
        refine z_aload_n ok dL_acts_153 rfl ?_
        refine z_iconst (v := 4) ok dL_acts_154 (by decide) ?_
        refine r_ald0 4 ok dL_acts_155 hm71ω rfl (by omega) ?_
        refine zV_eqi ((hrω.1 4 (by omega)).trans hNω.2.2.1) ?_
        refine z_imul ok dL_acts_156 ?_
        refine z_iload ok dL_acts_157 rfl ?_
        refine z_iadd ok dL_acts_159 ?_
        refine z_iload ok dL_acts_160 rfl ?_
        refine z_if_ne (tgt := 170) ok dL_acts_162 (by decide) (fun _ => ?_) (fun q9ω => absurd q9ω (by decide))
        refine z_iload ok dL_acts_170 rfl ?_
        refine z_iconst (v := 1) ok dL_acts_172 (by decide) ?_
        refine z_icmp_ne (tgt := 181) ok dL_acts_173 (by decide) (fun q9ω => absurd rfl q9ω) (fun _ => ?_)
        refine z_iload ok dL_acts_176 rfl ?_
        refine z_goto (tgt := 182) ok dL_acts_178 (by decide) ?_
        refine r_ast4 (8 * nv + 1) ok dL_acts_182 hm71ω (lx8_1 nv) (by omega) (fun Mz75ω hm74ω frz76ω => ?_)
        refine z_iinc ok dL_acts_183 rfl (show (1 : Int32) + Int32.ofInt (1) = 2 from by decide) (by decide) rfl ?_
        refine z_goto (tgt := 142) ok dL_acts_186 (by decide) ?_
        refine z_iload ok dL_acts_142 rfl ?_
        refine z_bipush (v := 8) ok dL_acts_144 (by decide) ?_
        refine z_icmp_ge (tgt := 189) ok dL_acts_146 (by decide) (fun q9ω => absurd q9ω (by decide)) (fun _ => ?_)
        refine z_aload ok dL_acts_149 rfl ?_
        refine z_bipush (v := 8) ok dL_acts_151 (by decide) ?_
        refine z_aload_n ok dL_acts_153 rfl ?_
        refine z_iconst (v := 4) ok dL_acts_154 (by decide) ?_
        refine r_ald0 4 ok dL_acts_155 hm74ω rfl (by omega) ?_
        refine zV_eqi ((hrω.1 4 (by omega)).trans hNω.2.2.1) ?_
        refine z_imul ok dL_acts_156 ?_
        refine z_iload ok dL_acts_157 rfl ?_
        refine z_iadd ok dL_acts_159 ?_
        refine z_iload ok dL_acts_160 rfl ?_
        refine z_if_ne (tgt := 170) ok dL_acts_162 (by decide) (fun _ => ?_) (fun q9ω => absurd q9ω (by decide))
        refine z_iload ok dL_acts_170 rfl ?_
        refine z_iconst (v := 1) ok dL_acts_172 (by decide) ?_
        refine z_icmp_ne (tgt := 181) ok dL_acts_173 (by decide) (fun _ => ?_) (fun q9ω => absurd q9ω (by decide))
        refine z_iconst (v := 0) ok dL_acts_181 (by decide) ?_
        refine r_ast4 (8 * nv + 2) ok dL_acts_182 hm74ω (lx8_2 nv) (by omega) (fun Mz78ω hm77ω frz79ω => ?_)
        refine z_iinc ok dL_acts_183 rfl (show (2 : Int32) + Int32.ofInt (1) = 3 from by decide) (by decide) rfl ?_
        refine z_goto (tgt := 142) ok dL_acts_186 (by decide) ?_
        refine z_iload ok dL_acts_142 rfl ?_
        refine z_bipush (v := 8) ok dL_acts_144 (by decide) ?_
        refine z_icmp_ge (tgt := 189) ok dL_acts_146 (by decide) (fun q9ω => absurd q9ω (by decide)) (fun _ => ?_)
        refine z_aload ok dL_acts_149 rfl ?_
        refine z_bipush (v := 8) ok dL_acts_151 (by decide) ?_
        refine z_aload_n ok dL_acts_153 rfl ?_
        refine z_iconst (v := 4) ok dL_acts_154 (by decide) ?_
        refine r_ald0 4 ok dL_acts_155 hm77ω rfl (by omega) ?_
        refine zV_eqi ((hrω.1 4 (by omega)).trans hNω.2.2.1) ?_
        refine z_imul ok dL_acts_156 ?_
        refine z_iload ok dL_acts_157 rfl ?_
        refine z_iadd ok dL_acts_159 ?_
        refine z_iload ok dL_acts_160 rfl ?_
        refine z_if_ne (tgt := 170) ok dL_acts_162 (by decide) (fun _ => ?_) (fun q9ω => absurd q9ω (by decide))
        refine z_iload ok dL_acts_170 rfl ?_
        refine z_iconst (v := 1) ok dL_acts_172 (by decide) ?_
        refine z_icmp_ne (tgt := 181) ok dL_acts_173 (by decide) (fun _ => ?_) (fun q9ω => absurd q9ω (by decide))
        refine z_iconst (v := 0) ok dL_acts_181 (by decide) ?_
        refine r_ast4 (8 * nv + 3) ok dL_acts_182 hm77ω (lx8_3 nv) (by omega) (fun Mz81ω hm80ω frz82ω => ?_)
        refine z_iinc ok dL_acts_183 rfl (show (3 : Int32) + Int32.ofInt (1) = 4 from by decide) (by decide) rfl ?_
        refine z_goto (tgt := 142) ok dL_acts_186 (by decide) ?_
        refine z_iload ok dL_acts_142 rfl ?_
        refine z_bipush (v := 8) ok dL_acts_144 (by decide) ?_
        refine z_icmp_ge (tgt := 189) ok dL_acts_146 (by decide) (fun q9ω => absurd q9ω (by decide)) (fun _ => ?_)
        refine z_aload ok dL_acts_149 rfl ?_
        refine z_bipush (v := 8) ok dL_acts_151 (by decide) ?_
        refine z_aload_n ok dL_acts_153 rfl ?_
        refine z_iconst (v := 4) ok dL_acts_154 (by decide) ?_
        refine r_ald0 4 ok dL_acts_155 hm80ω rfl (by omega) ?_
        refine zV_eqi ((hrω.1 4 (by omega)).trans hNω.2.2.1) ?_
        refine z_imul ok dL_acts_156 ?_
        refine z_iload ok dL_acts_157 rfl ?_
        refine z_iadd ok dL_acts_159 ?_
        refine z_iload ok dL_acts_160 rfl ?_
        refine z_if_ne (tgt := 170) ok dL_acts_162 (by decide) (fun _ => ?_) (fun q9ω => absurd q9ω (by decide))
        refine z_iload ok dL_acts_170 rfl ?_
        refine z_iconst (v := 1) ok dL_acts_172 (by decide) ?_
        refine z_icmp_ne (tgt := 181) ok dL_acts_173 (by decide) (fun _ => ?_) (fun q9ω => absurd q9ω (by decide))
        refine z_iconst (v := 0) ok dL_acts_181 (by decide) ?_
        refine r_ast4 (8 * nv + 4) ok dL_acts_182 hm80ω (lx8_4 nv) (by omega) (fun Mz84ω hm83ω frz85ω => ?_)
        refine z_iinc ok dL_acts_183 rfl (show (4 : Int32) + Int32.ofInt (1) = 5 from by decide) (by decide) rfl ?_
        refine z_goto (tgt := 142) ok dL_acts_186 (by decide) ?_
        refine z_iload ok dL_acts_142 rfl ?_
        refine z_bipush (v := 8) ok dL_acts_144 (by decide) ?_
        refine z_icmp_ge (tgt := 189) ok dL_acts_146 (by decide) (fun q9ω => absurd q9ω (by decide)) (fun _ => ?_)
        refine z_aload ok dL_acts_149 rfl ?_
        refine z_bipush (v := 8) ok dL_acts_151 (by decide) ?_
        refine z_aload_n ok dL_acts_153 rfl ?_
        refine z_iconst (v := 4) ok dL_acts_154 (by decide) ?_
        refine r_ald0 4 ok dL_acts_155 hm83ω rfl (by omega) ?_
        refine zV_eqi ((hrω.1 4 (by omega)).trans hNω.2.2.1) ?_
        refine z_imul ok dL_acts_156 ?_
        refine z_iload ok dL_acts_157 rfl ?_
        refine z_iadd ok dL_acts_159 ?_
        refine z_iload ok dL_acts_160 rfl ?_
        refine z_if_ne (tgt := 170) ok dL_acts_162 (by decide) (fun _ => ?_) (fun q9ω => absurd q9ω (by decide))
        refine z_iload ok dL_acts_170 rfl ?_
        refine z_iconst (v := 1) ok dL_acts_172 (by decide) ?_
        refine z_icmp_ne (tgt := 181) ok dL_acts_173 (by decide) (fun _ => ?_) (fun q9ω => absurd q9ω (by decide))
        refine z_iconst (v := 0) ok dL_acts_181 (by decide) ?_
        refine r_ast4 (8 * nv + 5) ok dL_acts_182 hm83ω (lx8_5 nv) (by omega) (fun Mz87ω hm86ω frz88ω => ?_)
        refine z_iinc ok dL_acts_183 rfl (show (5 : Int32) + Int32.ofInt (1) = 6 from by decide) (by decide) rfl ?_
        refine z_goto (tgt := 142) ok dL_acts_186 (by decide) ?_
        refine z_iload ok dL_acts_142 rfl ?_
        refine z_bipush (v := 8) ok dL_acts_144 (by decide) ?_
        refine z_icmp_ge (tgt := 189) ok dL_acts_146 (by decide) (fun q9ω => absurd q9ω (by decide)) (fun _ => ?_)
        refine z_aload ok dL_acts_149 rfl ?_
        refine z_bipush (v := 8) ok dL_acts_151 (by decide) ?_
        refine z_aload_n ok dL_acts_153 rfl ?_
        refine z_iconst (v := 4) ok dL_acts_154 (by decide) ?_
        refine r_ald0 4 ok dL_acts_155 hm86ω rfl (by omega) ?_
        refine zV_eqi ((hrω.1 4 (by omega)).trans hNω.2.2.1) ?_
        refine z_imul ok dL_acts_156 ?_
        refine z_iload ok dL_acts_157 rfl ?_
        refine z_iadd ok dL_acts_159 ?_
        refine z_iload ok dL_acts_160 rfl ?_
        refine z_if_ne (tgt := 170) ok dL_acts_162 (by decide) (fun _ => ?_) (fun q9ω => absurd q9ω (by decide))
        refine z_iload ok dL_acts_170 rfl ?_
        refine z_iconst (v := 1) ok dL_acts_172 (by decide) ?_
        refine z_icmp_ne (tgt := 181) ok dL_acts_173 (by decide) (fun _ => ?_) (fun q9ω => absurd q9ω (by decide))
        refine z_iconst (v := 0) ok dL_acts_181 (by decide) ?_
        refine r_ast4 (8 * nv + 6) ok dL_acts_182 hm86ω (lx8_6 nv) (by omega) (fun Mz90ω hm89ω frz91ω => ?_)
        refine z_iinc ok dL_acts_183 rfl (show (6 : Int32) + Int32.ofInt (1) = 7 from by decide) (by decide) rfl ?_
        refine z_goto (tgt := 142) ok dL_acts_186 (by decide) ?_
        refine z_iload ok dL_acts_142 rfl ?_
        refine z_bipush (v := 8) ok dL_acts_144 (by decide) ?_
        refine z_icmp_ge (tgt := 189) ok dL_acts_146 (by decide) (fun q9ω => absurd q9ω (by decide)) (fun _ => ?_)
        refine z_aload ok dL_acts_149 rfl ?_
        refine z_bipush (v := 8) ok dL_acts_151 (by decide) ?_
        refine z_aload_n ok dL_acts_153 rfl ?_
        refine z_iconst (v := 4) ok dL_acts_154 (by decide) ?_
        refine r_ald0 4 ok dL_acts_155 hm89ω rfl (by omega) ?_
        refine zV_eqi ((hrω.1 4 (by omega)).trans hNω.2.2.1) ?_
        refine z_imul ok dL_acts_156 ?_
        refine z_iload ok dL_acts_157 rfl ?_
        refine z_iadd ok dL_acts_159 ?_
        refine z_iload ok dL_acts_160 rfl ?_
        refine z_if_ne (tgt := 170) ok dL_acts_162 (by decide) (fun _ => ?_) (fun q9ω => absurd q9ω (by decide))
        refine z_iload ok dL_acts_170 rfl ?_
        refine z_iconst (v := 1) ok dL_acts_172 (by decide) ?_
        refine z_icmp_ne (tgt := 181) ok dL_acts_173 (by decide) (fun _ => ?_) (fun q9ω => absurd q9ω (by decide))
        refine z_iconst (v := 0) ok dL_acts_181 (by decide) ?_
        refine r_ast4 (8 * nv + 7) ok dL_acts_182 hm89ω (lx8_7 nv) (by omega) (fun Mz93ω hm92ω frz94ω => ?_)
        refine z_iinc ok dL_acts_183 rfl (show (7 : Int32) + Int32.ofInt (1) = 8 from by decide) (by decide) rfl ?_
        refine z_goto (tgt := 142) ok dL_acts_186 (by decide) ?_
        refine z_iload ok dL_acts_142 rfl ?_
        refine z_bipush (v := 8) ok dL_acts_144 (by decide) ?_
        refine z_icmp_ge (tgt := 189) ok dL_acts_146 (by decide) (fun _ => ?_) (fun q9ω => absurd (by decide) q9ω)
        refine z_aload_n ok dL_acts_189 rfl ?_
        refine z_iconst (v := 4) ok dL_acts_190 (by decide) ?_
        refine z_dup2 ok dL_acts_191 rfl rfl ?_
        refine r_ald0 4 ok dL_acts_192 hm92ω rfl (by omega) ?_
        refine z_iconst (v := 1) ok dL_acts_193 (by decide) ?_
        refine z_iadd ok dL_acts_194 ?_
        refine r_ast0 4 ok dL_acts_195 hm92ω rfl (by omega) (fun Mz96ω hm95ω frz97ω => ?_)
        refine z_aload_n ok dL_acts_196 rfl ?_
        refine z_iload ok dL_acts_197 rfl ?_
        refine z_iload ok dL_acts_199 rfl ?_
        have ho201ω := hoω.fr (show zFr M _ (c + 251) 6 from (zFr.tr zFr.rf (zFr.tr frz73ω (zFr.tr frz76ω (zFr.tr frz79ω (zFr.tr frz82ω (zFr.tr frz85ω (zFr.tr frz88ω (zFr.tr frz91ω (zFr.tr frz94ω frz97ω))))))))))
        obtain ⟨fs201ω, hs201ω⟩ := ho201ω.self
        refine z_callVi ok dL_acts_201 zm_X6_vehicle zw_425 zi_X6_vehicle hs201ω rfl (ho201ω.to_vehicle hNω) rfl rfl (by decide) (by decide) (by decide) (Nat.le_of_ble_eq_true rfl) (fun xz98ω Mz99ω qz100ω => ?_)
        have hvbω := spV (s := s) (nv := nv) (r := (1 + (Y % 200))) (b := (1 + ((Y / 7) % 80))) (by omega) (by omega)
        obtain ⟨hfqω, hxeω, hoqω⟩ := (qz100ω).inr ((if_pos hvbω).trans (if_neg (by omega)))
        have hfzω := ((show zFr M _ (c + 251) 6 from (zFr.tr zFr.rf (zFr.tr frz73ω (zFr.tr frz76ω (zFr.tr frz79ω (zFr.tr frz82ω (zFr.tr frz85ω (zFr.tr frz88ω (zFr.tr frz91ω (zFr.tr frz94ω frz97ω)))))))))).w (c := c) (by omega) (by omega)).tr (hfqω.w (c := c) (by omega) (by omega))
        have hm101ω := (ve_fin hrω hNω hv4ω hm95ω).fr hfqω
        refine z_aload_n ok dL_acts_204 rfl ?_
        refine z_iconst (v := 4) ok dL_acts_205 (by decide) ?_
        refine l_ldG (t := 4) ok dL_acts_206 hm101ω rfl (by decide) ?_
        refine z_iconst (v := 1) ok dL_acts_207 (by decide) ?_
        refine z_isub ok dL_acts_208 ?_
        refine zV_eqi (show _ = nI nv from by rw [zVe_4, hNω.2.2.1, nI_1, nI_pr]) ?_
        refine z_icmp_ne (tgt := 216) ok dL_acts_209 (by decide) (fun q9ω => absurd hxeω q9ω) (fun _ => ?_)
        refine z_iconst (v := 1) ok dL_acts_212 (by decide) ?_
        refine z_goto (tgt := 217) ok dL_acts_213 (by decide) ?_
        exact z_iret ok dL_acts_217 rfl rfl rfl (Nat.zero_le _) ⟨rfl, _, n, nv + 1, no, τ, ⟨hoqω, hm101ω, hoqω.wf (zN_ve hNω hv4ω), hxω.veh hwω hv4ω hvbω.1 hvbω.2⟩, (zVe_o (q := 5) (by omega) (by omega)).trans hτ, by omega, hfzω⟩
      · have hv4ω : nv = 4 := (nI_eq (by omega) (by omega)).mp (hNω.2.2.1.symm.trans cz117ω)
        refine z_aload_n ok dL_acts_120 rfl ?_
        refine z_iload ok dL_acts_121 rfl ?_
        refine z_iload ok dL_acts_123 rfl ?_
        have ho125ω := hoω.fr (show zFr M _ (c + 251) 6 from zFr.rf)
        obtain ⟨fs125ω, hs125ω⟩ := ho125ω.self
        refine z_callVi ok dL_acts_125 zm_X6_vehicle zw_425 zi_X6_vehicle hs125ω rfl (ho125ω.to_vehicle hNω) rfl rfl (by decide) (by decide) (by decide) (Nat.le_of_ble_eq_true rfl) (fun xz102ω Mz103ω qz104ω => ?_)
        have hvbω := spV (s := s) (nv := nv) (r := (1 + (Y % 200))) (b := (1 + ((Y / 7) % 80))) (by omega) (by omega)
        obtain ⟨hfqω, hxeω, hoqω⟩ := (qz104ω).inl ((if_pos hvbω).trans (if_pos hv4ω))
        have hfzω := ((show zFr M _ (c + 251) 6 from zFr.rf).w (c := c) (by omega) (by omega)).tr (hfqω.w (c := c) (by omega) (by omega))
        have hm105ω := ((hmω).eqs (rfl)).fr hfqω
        refine z_ldc ok dL_acts_128 zw_383 ?_
        refine z_icmp_ne (tgt := 137) ok dL_acts_130 (by decide) (fun q9ω => absurd hxeω q9ω) (fun _ => ?_)
        refine z_iconst (v := 1) ok dL_acts_133 (by decide) ?_
        refine z_goto (tgt := 138) ok dL_acts_134 (by decide) ?_
        exact z_iret ok dL_acts_138 rfl rfl rfl (Nat.zero_le _) ⟨rfl, s, n, nv, no, τ, ⟨hoqω, hm105ω, hwω, hxω⟩, hτ, by omega, hfzω⟩
    · refine z_sipush (v := 200) ok dL_acts_101 (by decide) ?_
      refine z_goto (tgt := 109) ok dL_acts_104 (by decide) ?_
      refine z_irem ok dL_acts_109 (by decide) ?_
      refine zV_eqi (yrem (d := 200) rfl (by omega) (by omega) (by omega)) ?_
      refine z_iadd ok dL_acts_110 ?_
      refine zV_eqi (yadd (a := 1) rfl) ?_
      refine z_istore ok dL_acts_111 (by decide) rfl ?_
      refine z_aload_n ok dL_acts_113 rfl ?_
      refine z_iconst (v := 4) ok dL_acts_114 (by decide) ?_
      refine l_ldG (t := 4) ok dL_acts_115 hmω rfl (by decide) ?_
      refine z_iconst (v := 4) ok dL_acts_116 (by decide) ?_
      refine z_icmp_ne (tgt := 139) ok dL_acts_117 (by decide) (fun cz117ω => ?_) (fun cz117ω => ?_)
      · have hv4ω : nv < 4 := Nat.lt_of_le_of_ne hnv4ω (fun z9ω => cz117ω (by rw [hNω.2.2.1, z9ω]; rfl))
        obtain ⟨f0ω, f1ω, f2ω, f3ω, f4ω, f5ω, hr0ω, hrω⟩ := (hmω).raw
        refine z_iconst (v := 0) ok dL_acts_139 (by decide) ?_
        refine z_istore ok dL_acts_140 (by decide) rfl ?_
        refine z_iload ok dL_acts_142 rfl ?_
        refine z_bipush (v := 8) ok dL_acts_144 (by decide) ?_
        refine z_icmp_ge (tgt := 189) ok dL_acts_146 (by decide) (fun q9ω => absurd q9ω (by decide)) (fun _ => ?_)
        refine z_aload ok dL_acts_149 rfl ?_
        refine z_bipush (v := 8) ok dL_acts_151 (by decide) ?_
        refine z_aload_n ok dL_acts_153 rfl ?_
        refine z_iconst (v := 4) ok dL_acts_154 (by decide) ?_
        refine r_ald0 4 ok dL_acts_155 hr0ω rfl (by omega) ?_
        refine zV_eqi ((hrω.1 4 (by omega)).trans hNω.2.2.1) ?_
        refine z_imul ok dL_acts_156 ?_
        refine z_iload ok dL_acts_157 rfl ?_
        refine z_iadd ok dL_acts_159 ?_
        refine z_iload ok dL_acts_160 rfl ?_
        refine z_if_ne (tgt := 170) ok dL_acts_162 (by decide) (fun q9ω => absurd rfl q9ω) (fun _ => ?_)
        refine z_iload ok dL_acts_165 rfl ?_
        refine z_goto (tgt := 182) ok dL_acts_167 (by decide) ?_
        refine r_ast4 (8 * nv + 0) ok dL_acts_182 hr0ω (lxz rfl) (by omega) (fun Mz107ω hm106ω frz108ω => ?_)
        refine z_iinc ok dL_acts_183 rfl (show (0 : Int32) + Int32.ofInt (1) = 1 from by decide) (by decide) rfl ?_
        refine z_goto (tgt := 142) ok dL_acts_186 (by decide) ?_
        refine z_iload ok dL_acts_142 rfl ?_
        refine z_bipush (v := 8) ok dL_acts_144 (by decide) ?_
        refine z_icmp_ge (tgt := 189) ok dL_acts_146 (by decide) (fun q9ω => absurd q9ω (by decide)) (fun _ => ?_)
        refine z_aload ok dL_acts_149 rfl ?_
        refine z_bipush (v := 8) ok dL_acts_151 (by decide) ?_
        refine z_aload_n ok dL_acts_153 rfl ?_
        refine z_iconst (v := 4) ok dL_acts_154 (by decide) ?_
        refine r_ald0 4 ok dL_acts_155 hm106ω rfl (by omega) ?_
        refine zV_eqi ((hrω.1 4 (by omega)).trans hNω.2.2.1) ?_
        refine z_imul ok dL_acts_156 ?_
        refine z_iload ok dL_acts_157 rfl ?_
        refine z_iadd ok dL_acts_159 ?_
        refine z_iload ok dL_acts_160 rfl ?_
        refine z_if_ne (tgt := 170) ok dL_acts_162 (by decide) (fun _ => ?_) (fun q9ω => absurd q9ω (by decide))
        refine z_iload ok dL_acts_170 rfl ?_
        refine z_iconst (v := 1) ok dL_acts_172 (by decide) ?_
        refine z_icmp_ne (tgt := 181) ok dL_acts_173 (by decide) (fun q9ω => absurd rfl q9ω) (fun _ => ?_)
        refine z_iload ok dL_acts_176 rfl ?_
        refine z_goto (tgt := 182) ok dL_acts_178 (by decide) ?_
        refine r_ast4 (8 * nv + 1) ok dL_acts_182 hm106ω (lx8_1 nv) (by omega) (fun Mz110ω hm109ω frz111ω => ?_)
        refine z_iinc ok dL_acts_183 rfl (show (1 : Int32) + Int32.ofInt (1) = 2 from by decide) (by decide) rfl ?_
        refine z_goto (tgt := 142) ok dL_acts_186 (by decide) ?_
        refine z_iload ok dL_acts_142 rfl ?_
        refine z_bipush (v := 8) ok dL_acts_144 (by decide) ?_
        refine z_icmp_ge (tgt := 189) ok dL_acts_146 (by decide) (fun q9ω => absurd q9ω (by decide)) (fun _ => ?_)
        refine z_aload ok dL_acts_149 rfl ?_
        refine z_bipush (v := 8) ok dL_acts_151 (by decide) ?_
        refine z_aload_n ok dL_acts_153 rfl ?_
        refine z_iconst (v := 4) ok dL_acts_154 (by decide) ?_
        refine r_ald0 4 ok dL_acts_155 hm109ω rfl (by omega) ?_
        refine zV_eqi ((hrω.1 4 (by omega)).trans hNω.2.2.1) ?_
        refine z_imul ok dL_acts_156 ?_
        refine z_iload ok dL_acts_157 rfl ?_
        refine z_iadd ok dL_acts_159 ?_
        refine z_iload ok dL_acts_160 rfl ?_
        refine z_if_ne (tgt := 170) ok dL_acts_162 (by decide) (fun _ => ?_) (fun q9ω => absurd q9ω (by decide))
        refine z_iload ok dL_acts_170 rfl ?_
        refine z_iconst (v := 1) ok dL_acts_172 (by decide) ?_
        refine z_icmp_ne (tgt := 181) ok dL_acts_173 (by decide) (fun _ => ?_) (fun q9ω => absurd q9ω (by decide))
        refine z_iconst (v := 0) ok dL_acts_181 (by decide) ?_
        refine r_ast4 (8 * nv + 2) ok dL_acts_182 hm109ω (lx8_2 nv) (by omega) (fun Mz113ω hm112ω frz114ω => ?_)
        refine z_iinc ok dL_acts_183 rfl (show (2 : Int32) + Int32.ofInt (1) = 3 from by decide) (by decide) rfl ?_
        refine z_goto (tgt := 142) ok dL_acts_186 (by decide) ?_
        refine z_iload ok dL_acts_142 rfl ?_
        refine z_bipush (v := 8) ok dL_acts_144 (by decide) ?_
        refine z_icmp_ge (tgt := 189) ok dL_acts_146 (by decide) (fun q9ω => absurd q9ω (by decide)) (fun _ => ?_)
        refine z_aload ok dL_acts_149 rfl ?_
        refine z_bipush (v := 8) ok dL_acts_151 (by decide) ?_
        refine z_aload_n ok dL_acts_153 rfl ?_
        refine z_iconst (v := 4) ok dL_acts_154 (by decide) ?_
        refine r_ald0 4 ok dL_acts_155 hm112ω rfl (by omega) ?_
        refine zV_eqi ((hrω.1 4 (by omega)).trans hNω.2.2.1) ?_
        refine z_imul ok dL_acts_156 ?_
        refine z_iload ok dL_acts_157 rfl ?_
        refine z_iadd ok dL_acts_159 ?_
        refine z_iload ok dL_acts_160 rfl ?_
        refine z_if_ne (tgt := 170) ok dL_acts_162 (by decide) (fun _ => ?_) (fun q9ω => absurd q9ω (by decide))
        refine z_iload ok dL_acts_170 rfl ?_
        refine z_iconst (v := 1) ok dL_acts_172 (by decide) ?_
        refine z_icmp_ne (tgt := 181) ok dL_acts_173 (by decide) (fun _ => ?_) (fun q9ω => absurd q9ω (by decide))
        refine z_iconst (v := 0) ok dL_acts_181 (by decide) ?_
        refine r_ast4 (8 * nv + 3) ok dL_acts_182 hm112ω (lx8_3 nv) (by omega) (fun Mz116ω hm115ω frz117ω => ?_)
        refine z_iinc ok dL_acts_183 rfl (show (3 : Int32) + Int32.ofInt (1) = 4 from by decide) (by decide) rfl ?_
        refine z_goto (tgt := 142) ok dL_acts_186 (by decide) ?_
        refine z_iload ok dL_acts_142 rfl ?_
        refine z_bipush (v := 8) ok dL_acts_144 (by decide) ?_
        refine z_icmp_ge (tgt := 189) ok dL_acts_146 (by decide) (fun q9ω => absurd q9ω (by decide)) (fun _ => ?_)
        refine z_aload ok dL_acts_149 rfl ?_
        refine z_bipush (v := 8) ok dL_acts_151 (by decide) ?_
        refine z_aload_n ok dL_acts_153 rfl ?_
        refine z_iconst (v := 4) ok dL_acts_154 (by decide) ?_
        refine r_ald0 4 ok dL_acts_155 hm115ω rfl (by omega) ?_
        refine zV_eqi ((hrω.1 4 (by omega)).trans hNω.2.2.1) ?_
        refine z_imul ok dL_acts_156 ?_
        refine z_iload ok dL_acts_157 rfl ?_
        refine z_iadd ok dL_acts_159 ?_
        refine z_iload ok dL_acts_160 rfl ?_
        refine z_if_ne (tgt := 170) ok dL_acts_162 (by decide) (fun _ => ?_) (fun q9ω => absurd q9ω (by decide))
        refine z_iload ok dL_acts_170 rfl ?_
        refine z_iconst (v := 1) ok dL_acts_172 (by decide) ?_
        refine z_icmp_ne (tgt := 181) ok dL_acts_173 (by decide) (fun _ => ?_) (fun q9ω => absurd q9ω (by decide))
        refine z_iconst (v := 0) ok dL_acts_181 (by decide) ?_
        refine r_ast4 (8 * nv + 4) ok dL_acts_182 hm115ω (lx8_4 nv) (by omega) (fun Mz119ω hm118ω frz120ω => ?_)
        refine z_iinc ok dL_acts_183 rfl (show (4 : Int32) + Int32.ofInt (1) = 5 from by decide) (by decide) rfl ?_
        refine z_goto (tgt := 142) ok dL_acts_186 (by decide) ?_
        refine z_iload ok dL_acts_142 rfl ?_
        refine z_bipush (v := 8) ok dL_acts_144 (by decide) ?_
        refine z_icmp_ge (tgt := 189) ok dL_acts_146 (by decide) (fun q9ω => absurd q9ω (by decide)) (fun _ => ?_)
        refine z_aload ok dL_acts_149 rfl ?_
        refine z_bipush (v := 8) ok dL_acts_151 (by decide) ?_
        refine z_aload_n ok dL_acts_153 rfl ?_
        refine z_iconst (v := 4) ok dL_acts_154 (by decide) ?_
        refine r_ald0 4 ok dL_acts_155 hm118ω rfl (by omega) ?_
        refine zV_eqi ((hrω.1 4 (by omega)).trans hNω.2.2.1) ?_
        refine z_imul ok dL_acts_156 ?_
        refine z_iload ok dL_acts_157 rfl ?_
        refine z_iadd ok dL_acts_159 ?_
        refine z_iload ok dL_acts_160 rfl ?_
        refine z_if_ne (tgt := 170) ok dL_acts_162 (by decide) (fun _ => ?_) (fun q9ω => absurd q9ω (by decide))
        refine z_iload ok dL_acts_170 rfl ?_
        refine z_iconst (v := 1) ok dL_acts_172 (by decide) ?_
        refine z_icmp_ne (tgt := 181) ok dL_acts_173 (by decide) (fun _ => ?_) (fun q9ω => absurd q9ω (by decide))
        refine z_iconst (v := 0) ok dL_acts_181 (by decide) ?_
        refine r_ast4 (8 * nv + 5) ok dL_acts_182 hm118ω (lx8_5 nv) (by omega) (fun Mz122ω hm121ω frz123ω => ?_)
        refine z_iinc ok dL_acts_183 rfl (show (5 : Int32) + Int32.ofInt (1) = 6 from by decide) (by decide) rfl ?_
        refine z_goto (tgt := 142) ok dL_acts_186 (by decide) ?_
        refine z_iload ok dL_acts_142 rfl ?_
        refine z_bipush (v := 8) ok dL_acts_144 (by decide) ?_
        refine z_icmp_ge (tgt := 189) ok dL_acts_146 (by decide) (fun q9ω => absurd q9ω (by decide)) (fun _ => ?_)
        refine z_aload ok dL_acts_149 rfl ?_
        refine z_bipush (v := 8) ok dL_acts_151 (by decide) ?_
        refine z_aload_n ok dL_acts_153 rfl ?_
        refine z_iconst (v := 4) ok dL_acts_154 (by decide) ?_
        refine r_ald0 4 ok dL_acts_155 hm121ω rfl (by omega) ?_
        refine zV_eqi ((hrω.1 4 (by omega)).trans hNω.2.2.1) ?_
        refine z_imul ok dL_acts_156 ?_
        refine z_iload ok dL_acts_157 rfl ?_
        refine z_iadd ok dL_acts_159 ?_
        refine z_iload ok dL_acts_160 rfl ?_
        refine z_if_ne (tgt := 170) ok dL_acts_162 (by decide) (fun _ => ?_) (fun q9ω => absurd q9ω (by decide))
        refine z_iload ok dL_acts_170 rfl ?_
        refine z_iconst (v := 1) ok dL_acts_172 (by decide) ?_
        refine z_icmp_ne (tgt := 181) ok dL_acts_173 (by decide) (fun _ => ?_) (fun q9ω => absurd q9ω (by decide))
        refine z_iconst (v := 0) ok dL_acts_181 (by decide) ?_
        refine r_ast4 (8 * nv + 6) ok dL_acts_182 hm121ω (lx8_6 nv) (by omega) (fun Mz125ω hm124ω frz126ω => ?_)
        refine z_iinc ok dL_acts_183 rfl (show (6 : Int32) + Int32.ofInt (1) = 7 from by decide) (by decide) rfl ?_
        refine z_goto (tgt := 142) ok dL_acts_186 (by decide) ?_
        refine z_iload ok dL_acts_142 rfl ?_
        refine z_bipush (v := 8) ok dL_acts_144 (by decide) ?_
        refine z_icmp_ge (tgt := 189) ok dL_acts_146 (by decide) (fun q9ω => absurd q9ω (by decide)) (fun _ => ?_)
        refine z_aload ok dL_acts_149 rfl ?_
        refine z_bipush (v := 8) ok dL_acts_151 (by decide) ?_
        refine z_aload_n ok dL_acts_153 rfl ?_
        refine z_iconst (v := 4) ok dL_acts_154 (by decide) ?_
        refine r_ald0 4 ok dL_acts_155 hm124ω rfl (by omega) ?_
        refine zV_eqi ((hrω.1 4 (by omega)).trans hNω.2.2.1) ?_
        refine z_imul ok dL_acts_156 ?_
        refine z_iload ok dL_acts_157 rfl ?_
        refine z_iadd ok dL_acts_159 ?_
        refine z_iload ok dL_acts_160 rfl ?_
        refine z_if_ne (tgt := 170) ok dL_acts_162 (by decide) (fun _ => ?_) (fun q9ω => absurd q9ω (by decide))
        refine z_iload ok dL_acts_170 rfl ?_
        refine z_iconst (v := 1) ok dL_acts_172 (by decide) ?_
        refine z_icmp_ne (tgt := 181) ok dL_acts_173 (by decide) (fun _ => ?_) (fun q9ω => absurd q9ω (by decide))
        refine z_iconst (v := 0) ok dL_acts_181 (by decide) ?_
        refine r_ast4 (8 * nv + 7) ok dL_acts_182 hm124ω (lx8_7 nv) (by omega) (fun Mz128ω hm127ω frz129ω => ?_)
        refine z_iinc ok dL_acts_183 rfl (show (7 : Int32) + Int32.ofInt (1) = 8 from by decide) (by decide) rfl ?_
        refine z_goto (tgt := 142) ok dL_acts_186 (by decide) ?_
        refine z_iload ok dL_acts_142 rfl ?_
        refine z_bipush (v := 8) ok dL_acts_144 (by decide) ?_
        refine z_icmp_ge (tgt := 189) ok dL_acts_146 (by decide) (fun _ => ?_) (fun q9ω => absurd (by decide) q9ω)
        refine z_aload_n ok dL_acts_189 rfl ?_
        refine z_iconst (v := 4) ok dL_acts_190 (by decide) ?_
        refine z_dup2 ok dL_acts_191 rfl rfl ?_
        refine r_ald0 4 ok dL_acts_192 hm127ω rfl (by omega) ?_
        refine z_iconst (v := 1) ok dL_acts_193 (by decide) ?_
        refine z_iadd ok dL_acts_194 ?_
        refine r_ast0 4 ok dL_acts_195 hm127ω rfl (by omega) (fun Mz131ω hm130ω frz132ω => ?_)
        refine z_aload_n ok dL_acts_196 rfl ?_
        refine z_iload ok dL_acts_197 rfl ?_
        refine z_iload ok dL_acts_199 rfl ?_
        have ho201ω := hoω.fr (show zFr M _ (c + 251) 6 from (zFr.tr zFr.rf (zFr.tr frz108ω (zFr.tr frz111ω (zFr.tr frz114ω (zFr.tr frz117ω (zFr.tr frz120ω (zFr.tr frz123ω (zFr.tr frz126ω (zFr.tr frz129ω frz132ω))))))))))
        obtain ⟨fs201ω, hs201ω⟩ := ho201ω.self
        refine z_callVi ok dL_acts_201 zm_X6_vehicle zw_425 zi_X6_vehicle hs201ω rfl (ho201ω.to_vehicle hNω) rfl rfl (by decide) (by decide) (by decide) (Nat.le_of_ble_eq_true rfl) (fun xz133ω Mz134ω qz135ω => ?_)
        have hvbω := spV (s := s) (nv := nv) (r := (1 + (Y % 200))) (b := (1 + ((Y / 7) % 200))) (by omega) (by omega)
        obtain ⟨hfqω, hxeω, hoqω⟩ := (qz135ω).inr ((if_pos hvbω).trans (if_neg (by omega)))
        have hfzω := ((show zFr M _ (c + 251) 6 from (zFr.tr zFr.rf (zFr.tr frz108ω (zFr.tr frz111ω (zFr.tr frz114ω (zFr.tr frz117ω (zFr.tr frz120ω (zFr.tr frz123ω (zFr.tr frz126ω (zFr.tr frz129ω frz132ω)))))))))).w (c := c) (by omega) (by omega)).tr (hfqω.w (c := c) (by omega) (by omega))
        have hm136ω := (ve_fin hrω hNω hv4ω hm130ω).fr hfqω
        refine z_aload_n ok dL_acts_204 rfl ?_
        refine z_iconst (v := 4) ok dL_acts_205 (by decide) ?_
        refine l_ldG (t := 4) ok dL_acts_206 hm136ω rfl (by decide) ?_
        refine z_iconst (v := 1) ok dL_acts_207 (by decide) ?_
        refine z_isub ok dL_acts_208 ?_
        refine zV_eqi (show _ = nI nv from by rw [zVe_4, hNω.2.2.1, nI_1, nI_pr]) ?_
        refine z_icmp_ne (tgt := 216) ok dL_acts_209 (by decide) (fun q9ω => absurd hxeω q9ω) (fun _ => ?_)
        refine z_iconst (v := 1) ok dL_acts_212 (by decide) ?_
        refine z_goto (tgt := 217) ok dL_acts_213 (by decide) ?_
        exact z_iret ok dL_acts_217 rfl rfl rfl (Nat.zero_le _) ⟨rfl, _, n, nv + 1, no, τ, ⟨hoqω, hm136ω, hoqω.wf (zN_ve hNω hv4ω), hxω.veh hwω hv4ω hvbω.1 hvbω.2⟩, (zVe_o (q := 5) (by omega) (by omega)).trans hτ, by omega, hfzω⟩
      · have hv4ω : nv = 4 := (nI_eq (by omega) (by omega)).mp (hNω.2.2.1.symm.trans cz117ω)
        refine z_aload_n ok dL_acts_120 rfl ?_
        refine z_iload ok dL_acts_121 rfl ?_
        refine z_iload ok dL_acts_123 rfl ?_
        have ho125ω := hoω.fr (show zFr M _ (c + 251) 6 from zFr.rf)
        obtain ⟨fs125ω, hs125ω⟩ := ho125ω.self
        refine z_callVi ok dL_acts_125 zm_X6_vehicle zw_425 zi_X6_vehicle hs125ω rfl (ho125ω.to_vehicle hNω) rfl rfl (by decide) (by decide) (by decide) (Nat.le_of_ble_eq_true rfl) (fun xz137ω Mz138ω qz139ω => ?_)
        have hvbω := spV (s := s) (nv := nv) (r := (1 + (Y % 200))) (b := (1 + ((Y / 7) % 200))) (by omega) (by omega)
        obtain ⟨hfqω, hxeω, hoqω⟩ := (qz139ω).inl ((if_pos hvbω).trans (if_pos hv4ω))
        have hfzω := ((show zFr M _ (c + 251) 6 from zFr.rf).w (c := c) (by omega) (by omega)).tr (hfqω.w (c := c) (by omega) (by omega))
        have hm140ω := ((hmω).eqs (rfl)).fr hfqω
        refine z_ldc ok dL_acts_128 zw_383 ?_
        refine z_icmp_ne (tgt := 137) ok dL_acts_130 (by decide) (fun q9ω => absurd hxeω q9ω) (fun _ => ?_)
        refine z_iconst (v := 1) ok dL_acts_133 (by decide) ?_
        refine z_goto (tgt := 138) ok dL_acts_134 (by decide) ?_
        exact z_iret ok dL_acts_138 rfl rfl rfl (Nat.zero_le _) ⟨rfl, s, n, nv, no, τ, ⟨hoqω, hm140ω, hwω, hxω⟩, hτ, by omega, hfzω⟩
