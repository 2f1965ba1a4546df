/-- one load is delivered -/
def zDel1 (s : Nat → Int32) (c : Nat) : Nat → Int32 :=
  let s1 := pg s c 6 (if gd s c 4 < s 5 then 4 else 3)
  let s2 := pg s1 c 8 (s1 5)
  let s3 := if gd s c 4 < s 5 then upd s2 8 (s2 8 + 1) else upd s2 7 (s2 7 + 1)
  let s4 := upd s3 9 (s3 9 + if gd s c 4 < s 5 then 0 else gd s3 c 5)
  upd s4 12 (s4 12 + (if s 5 < gd s c 3 then gd s c 3 - s 5 else 0) * s4 2)
def zDel (iv : Nat) (s : Nat → Int32) : Nat → (Nat → Int32) × Int32
  | 0 => (s, 0)
  | c + 1 => if zInV (zDel iv s c).1 c (nI iv) then (zDel1 (zDel iv s c).1 c, (zDel iv s c).2 + 1) else zDel iv s c
theorem zDel_t {iv : Nat} {s : Nat → Int32} {c : Nat} (h : zInV (zDel iv s c).1 c (nI iv)) : zDel iv s (c + 1) = (zDel1 (zDel iv s c).1 c, (zDel iv s c).2 + 1) := if_pos h
theorem zDel_f {iv : Nat} {s : Nat → Int32} {c : Nat} (h : ¬ zInV (zDel iv s c).1 c (nI iv)) : zDel iv s (c + 1) = zDel iv s c := if_neg h
theorem zN_upd {s : Nat → Int32} {n nv no j : Nat} {x : Int32} (h : zN s n nv no) (h3 : j ≠ 3) (h4 : j ≠ 4) (h6 : j ≠ 6) : zN (upd s j x) n nv no := zN_cong h (if_neg (Ne.symm h3)) (if_neg (Ne.symm h4)) (if_neg (Ne.symm h6))
theorem zDel1_N {s : Nat → Int32} {n nv no c : Nat} (h : zN s n nv no) : zN (zDel1 s c) n nv no := by
  unfold zDel1
  refine zN_upd (zN_upd ?_ (by decide) (by decide) (by decide)) (by decide) (by decide) (by decide)
  split
  · exact zN_upd (zN_pg (zN_pg h)) (by decide) (by decide) (by decide)
  · exact zN_upd (zN_pg (zN_pg h)) (by decide) (by decide) (by decide)
theorem zDel_N {s : Nat → Int32} {n nv no iv : Nat} (h : zN s n nv no) : ∀ c, zN (zDel iv s c).1 n nv no
  | 0 => h
  | c + 1 => by
    by_cases hc : zInV (zDel iv s c).1 c (nI iv)
    · rw [zDel_t hc]; exact zDel1_N (zDel_N h c)
    · rw [zDel_f hc]; exact zDel_N h c
/-- how many goods, vehicles, offers: read off -/
def cO (s : Nat → Int32) : Nat := (s 6).toNatClampNeg
theorem cO_N {s : Nat → Int32} {n nv no : Nat} (h : zN s n nv no) : cO s = no := by
  unfold cO
  rw [h.2.2.2.2.1]
  exact nI_clamp (by have := h.2.2.2.2.2; omega)
def zArr1 (s : Nat → Int32) (n iv : Nat) : (Nat → Int32) × Int32 :=
  let a := zDel iv s n
  let b := zTake (vd a.1 iv 3) (a.1 5) (cO a.1) a.1 (vd a.1 iv 0) (vd a.1 iv 1) 0
  let s1 := pv b.1 iv 6 b.2
  let s2 := pv s1 iv 2 2
  (pv s2 iv 4 (s2 5 + vd s2 iv 5), a.2)
theorem zArr1_N {s : Nat → Int32} {n nv no iv : Nat} (h : zN s n nv no) : ∃ no', no' ≤ no ∧ zN (zArr1 s n iv).1 n nv no' := by
  have h1 := zDel_N (iv := iv) h n
  obtain ⟨no', h2, h3⟩ := zTake_N (place := vd (zDel iv s n).1 iv 3) (hour := (zDel iv s n).1 5) (room := vd (zDel iv s n).1 iv 0) (bound := vd (zDel iv s n).1 iv 1) (t := 0) h1
  refine ⟨no', h2, ?_⟩
  simp only [zArr1, cO_N h1]
  exact zN_pv (zN_pv (zN_pv h3))
set_option maxRecDepth 20000 in
set_option maxHeartbeats 4000000 in
theorem ct_X7_arrives {K : zK} {M : mM} {nx : Nat} {m : Nat} {μ : zMS} (hm : mPic M m μ) {n nv no : Nat} (hN : zN (μ.1 1) n nv no) {v : Int32} {iv : Nat} (hv : v = nI iv) (hiv : iv < 4) : zCt K yX7_arrives cX7_arrives 6 zr_X7_arrives 3 [.ref m, .int v] M nx 0 0 (zI (fun x M' => x = (zArr1 (μ.1 1) n iv).2 ∧ mPic M' m (mA μ 1 (zArr1 (μ.1 1) n iv).1) ∧ zFr M M' m 9)) := by
  refine z_enter [some (.ref m), some (.int v), none, none, none, none] (by decide +kernel) (Nat.le_of_ble_eq_true rfl) rfl (fun B ok hz => ?_)
  have hn16 := hN.2.1
  have hnv4 := hN.2.2.2.1
  subst hv
  refine z_iconst (v := 0) ok dX7_arrives_0 (by decide) ?_
  refine z_istore_n ok dX7_arrives_1 (by decide) rfl ?_
  refine z_iconst (v := 0) ok dX7_arrives_2 (by decide) ?_
  refine z_istore_n ok dX7_arrives_3 (by decide) rfl ?_
  have loop4 : ∀ (t i : Nat) (y : Int32) (M1 : mM) (w4 w5 : Option Value), n < i + t → i ≤ n → y = (zDel iv (μ.1 1) i).2 → mPic M1 m (mA μ 1 (zDel iv (μ.1 1) i).1) → zFr M M1 m 9 → zV 6 B (zE B (zI (fun x M' => x = (zArr1 (μ.1 1) n iv).2 ∧ mPic M' m (mA μ 1 (zArr1 (μ.1 1) n iv).1) ∧ zFr M M' m 9)) 0 0) 4 [some (.ref m), some (.int (nI iv)), some (.int y), some (.int (nI i)), w4, w5] [] M1 0 0 := by
    intro t
    induction t with
    | zero => intro i y M1 w4 w5 h1 h2; exact absurd h1 (by omega)
    | succ t ih =>
      intro i y M1 w4 w5 h1 h2 hy hm1 hf1
      have hN0 := zDel_N (iv := iv) hN i
      have hN1 : zN ((mA μ 1 (zDel iv (μ.1 1) i).1).1 1) n nv no := by rw [mA_s]; exact hN0
      refine z_iload_n ok dX7_arrives_4 rfl ?_
      refine z_aload_n ok dX7_arrives_5 rfl ?_
      refine z_getf ok dX7_arrives_6 zin_X7 rfl 0 (by decide) zw_771 hm1.1 rfl ?_
      refine z_iconst (v := 3) ok dX7_arrives_9 (by decide) ?_
      refine m_ald1 ok dX7_arrives_10 hm1 rfl (by decide) ?_
      refine z_icmp_ge (tgt := 183) ok dX7_arrives_11 (by decide) (fun cz11 => ?_) (fun cz11 => ?_)
      · have hin : i = n := by rw [mA_s, hN0.1, nI_leI (by omega) (by omega)] at cz11; omega
        rw [hin] at hy hm1 hN1
        refine z_aload_n ok dX7_arrives_183 rfl ?_
        refine z_iload_n ok dX7_arrives_184 rfl ?_
        refine z_bipush (v := 6) ok dX7_arrives_185 (by decide) ?_
        refine z_aload_n ok dX7_arrives_187 rfl ?_
        refine z_iload_n ok dX7_arrives_188 rfl ?_
        refine z_aload_n ok dX7_arrives_189 rfl ?_
        refine z_iload_n ok dX7_arrives_190 rfl ?_
        refine z_iconst (v := 3) ok dX7_arrives_191 (by decide) ?_
        refine z_callVi ok dX7_arrives_192 zm_X7_ofVehicle zw_874 zi_X7_ofVehicle hm1.1 rfl (ct_X7_ofVehicle hm1 (i := iv) (k := 3) rfl rfl (by omega)) rfl rfl (by decide) (by decide) (by decide) (Nat.le_of_ble_eq_true rfl) (fun xz1 Mz2 qz3 => ?_)
        obtain ⟨rfl, hMe⟩ := qz3
        obtain rfl := hMe.symm
        refine z_aload_n ok dX7_arrives_195 rfl ?_
        refine z_getf ok dX7_arrives_196 zin_X7 rfl 0 (by decide) zw_771 hm1.1 rfl ?_
        refine z_iconst (v := 5) ok dX7_arrives_199 (by decide) ?_
        refine m_ald1 ok dX7_arrives_200 hm1 rfl (by decide) ?_
        refine z_callVi ok dX7_arrives_201 zm_X7_takes zw_937 zi_X7_takes hm1.1 rfl (ct_X7_takes hm1 hN1 rfl (by omega)) rfl rfl (by decide) (by decide) (by decide) (Nat.le_of_ble_eq_true rfl) (fun xz4 Mz5 qz6 => ?_)
        obtain ⟨rfl, hm7, fzqxz4⟩ := qz6
        refine z_callVv ok dX7_arrives_204 zm_X7_putsVehicle zw_858 zi_X7_putsVehicle hm7.1 rfl (ct_X7_putsVehicle hm7 (i := iv) (k := 6) rfl rfl (by omega)) rfl rfl (by decide) (by decide) (by decide) (Nat.le_of_ble_eq_true rfl) (fun Mz9 qz10 => ?_)
        obtain ⟨hm11, fzxz8⟩ := qz10
        try simp only [mA_s, mA_mA] at hm11
        refine z_aload_n ok dX7_arrives_207 rfl ?_
        refine z_iload_n ok dX7_arrives_208 rfl ?_
        refine z_iconst (v := 2) ok dX7_arrives_209 (by decide) ?_
        refine z_iconst (v := 2) ok dX7_arrives_210 (by decide) ?_
        refine z_callVv ok dX7_arrives_211 zm_X7_putsVehicle zw_858 zi_X7_putsVehicle hm11.1 rfl (ct_X7_putsVehicle hm11 (i := iv) (k := 2) rfl rfl (by omega)) rfl rfl (by decide) (by decide) (by decide) (Nat.le_of_ble_eq_true rfl) (fun Mz13 qz14 => ?_)
        obtain ⟨hm15, fzxz12⟩ := qz14
        try simp only [mA_s, mA_mA] at hm15
        refine z_aload_n ok dX7_arrives_214 rfl ?_
        refine z_iload_n ok dX7_arrives_215 rfl ?_
        refine z_iconst (v := 4) ok dX7_arrives_216 (by decide) ?_
        refine z_aload_n ok dX7_arrives_217 rfl ?_
        refine z_getf ok dX7_arrives_218 zin_X7 rfl 0 (by decide) zw_771 hm15.1 rfl ?_
        refine z_iconst (v := 5) ok dX7_arrives_221 (by decide) ?_
        refine m_ald1 ok dX7_arrives_222 hm15 rfl (by decide) ?_
        refine z_aload_n ok dX7_arrives_223 rfl ?_
        refine z_iload_n ok dX7_arrives_224 rfl ?_
        refine z_iconst (v := 5) ok dX7_arrives_225 (by decide) ?_
        refine z_callVi ok dX7_arrives_226 zm_X7_ofVehicle zw_874 zi_X7_ofVehicle hm15.1 rfl (ct_X7_ofVehicle hm15 (i := iv) (k := 5) rfl rfl (by omega)) rfl rfl (by decide) (by decide) (by decide) (Nat.le_of_ble_eq_true rfl) (fun xz16 Mz17 qz18 => ?_)
        obtain ⟨rfl, hMe⟩ := qz18
        obtain rfl := hMe.symm
        refine z_iadd ok dX7_arrives_229 ?_
        refine z_callVv ok dX7_arrives_230 zm_X7_putsVehicle zw_858 zi_X7_putsVehicle hm15.1 rfl (ct_X7_putsVehicle hm15 (i := iv) (k := 4) rfl rfl (by omega)) rfl rfl (by decide) (by decide) (by decide) (Nat.le_of_ble_eq_true rfl) (fun Mz20 qz21 => ?_)
        obtain ⟨hm22, fzxz19⟩ := qz21
        try simp only [mA_s, mA_mA] at hm22
        refine z_iload_n ok dX7_arrives_233 rfl ?_
        exact z_iret ok dX7_arrives_234 rfl rfl rfl (Nat.zero_le _) ⟨hy, by (have h9 := hm22; (try simp only [mA_s, mA_mA] at h9); simp only [zArr1, cO_N (zDel_N (iv := iv) hN n)]; exact h9), (by repeat (first | assumption | exact zFr.rf | refine zFr.tr (by assumption) ?_))⟩
      · have hin : i < n := by rw [mA_s, hN0.1, nI_leI (by omega) (by omega)] at cz11; omega
        refine z_aload_n ok dX7_arrives_14 rfl ?_
        refine z_iload_n ok dX7_arrives_15 rfl ?_
        refine z_iload_n ok dX7_arrives_16 rfl ?_
        refine z_callVi ok dX7_arrives_17 zm_X7_isIn zw_882 zi_X7_isIn hm1.1 rfl (ct_X7_isIn hm1 hN1 hin rfl) rfl rfl (by decide) (by decide) (by decide) (Nat.le_of_ble_eq_true rfl) (fun xz23 Mz24 qz25 => ?_)
        obtain ⟨rfl, hMe⟩ := qz25
        obtain rfl := hMe.symm
        refine z_if_eq (tgt := 177) ok dX7_arrives_20 (by decide) (fun cz20 => ?_) (fun cz20 => ?_)
        · have hb := b2_0.mp cz20
          rw [mA_s] at hb
          refine z_iinc ok dX7_arrives_177 rfl (zinc _) (by decide) rfl ?_
          refine z_goto (tgt := 4) ok dX7_arrives_180 (by decide) ?_
          first | exact ih (i + 1) _ _ _ _ (by omega) (by omega) (by rw [zDel_f hb]; exact hy) (by rw [zDel_f hb]; exact hm1) hf1 | exact ih (i + 1) _ _ _ _ (by omega) (by omega) (by rw [zDel_t hb, hy]; rfl) (by rw [zDel_t hb]; have h9 := hm1; simp only [mA_s, mA_mA] at h9; simp only [zDel1, hl, he, if_true, if_false]; exact h9) (by repeat (first | assumption | exact zFr.rf | refine zFr.tr (by assumption) ?_))
        · have hb := Decidable.not_not.mp (mt b2_0.mpr cz20)
          rw [mA_s] at hb
          refine z_aload_n ok dX7_arrives_23 rfl ?_
          refine z_getf ok dX7_arrives_24 zin_X7 rfl 0 (by decide) zw_771 hm1.1 rfl ?_
          refine z_iconst (v := 5) ok dX7_arrives_27 (by decide) ?_
          refine m_ald1 ok dX7_arrives_28 hm1 rfl (by decide) ?_
          refine z_aload_n ok dX7_arrives_29 rfl ?_
          refine z_iload_n ok dX7_arrives_30 rfl ?_
          refine z_iconst (v := 4) ok dX7_arrives_31 (by decide) ?_
          refine z_callVi ok dX7_arrives_32 zm_X7_of zw_845 zi_X7_of hm1.1 rfl (ct_X7_of hm1 (i := i) (k := 4) rfl rfl (by omega)) rfl rfl (by decide) (by decide) (by decide) (Nat.le_of_ble_eq_true rfl) (fun xz26 Mz27 qz28 => ?_)
          obtain ⟨rfl, hMe⟩ := qz28
          obtain rfl := hMe.symm
          refine z_icmp_le (tgt := 42) ok dX7_arrives_35 (by decide) (fun cz35 => ?_) (fun cz35 => ?_)
          · have hl : ¬ gd (zDel iv (μ.1 1) i).1 i 4 < (zDel iv (μ.1 1) i).1 5 := by simpa only [mA_s] using Int32.not_lt.mpr cz35
            refine z_iconst (v := 0) ok dX7_arrives_42 (by decide) ?_
            refine z_istore ok dX7_arrives_43 (by decide) rfl ?_
            refine z_aload_n ok dX7_arrives_45 rfl ?_
            refine z_iload_n ok dX7_arrives_46 rfl ?_
            refine z_iconst (v := 3) ok dX7_arrives_47 (by decide) ?_
            refine z_callVi ok dX7_arrives_48 zm_X7_of zw_845 zi_X7_of hm1.1 rfl (ct_X7_of hm1 (i := i) (k := 3) rfl rfl (by omega)) rfl rfl (by decide) (by decide) (by decide) (Nat.le_of_ble_eq_true rfl) (fun xz29 Mz30 qz31 => ?_)
            obtain ⟨rfl, hMe⟩ := qz31
            obtain rfl := hMe.symm
            refine z_aload_n ok dX7_arrives_51 rfl ?_
            refine z_getf ok dX7_arrives_52 zin_X7 rfl 0 (by decide) zw_771 hm1.1 rfl ?_
            refine z_iconst (v := 5) ok dX7_arrives_55 (by decide) ?_
            refine m_ald1 ok dX7_arrives_56 hm1 rfl (by decide) ?_
            refine z_icmp_le (tgt := 76) ok dX7_arrives_57 (by decide) (fun cz57 => ?_) (fun cz57 => ?_)
            · have he : ¬ (zDel iv (μ.1 1) i).1 5 < gd (zDel iv (μ.1 1) i).1 i 3 := by simpa only [mA_s] using Int32.not_lt.mpr cz57
              refine z_iconst (v := 0) ok dX7_arrives_76 (by decide) ?_
              refine z_istore ok dX7_arrives_77 (by decide) rfl ?_
              refine z_aload_n ok dX7_arrives_79 rfl ?_
              refine z_iload_n ok dX7_arrives_80 rfl ?_
              refine z_bipush (v := 6) ok dX7_arrives_81 (by decide) ?_
              refine z_iload ok dX7_arrives_83 rfl ?_
              refine z_if_eq (tgt := 92) ok dX7_arrives_85 (by decide) (fun _ => ?_) (fun q9 => absurd (by decide) q9)
              refine z_iconst (v := 3) ok dX7_arrives_92 (by decide) ?_
              refine z_callVv ok dX7_arrives_93 zm_X7_puts zw_832 zi_X7_puts hm1.1 rfl (ct_X7_puts hm1 (i := i) (k := 6) rfl rfl (by omega)) rfl rfl (by decide) (by decide) (by decide) (Nat.le_of_ble_eq_true rfl) (fun Mz33 qz34 => ?_)
              obtain ⟨hm35, fzxz32⟩ := qz34
              try simp only [mA_s, mA_mA] at hm35
              refine z_aload_n ok dX7_arrives_96 rfl ?_
              refine z_iload_n ok dX7_arrives_97 rfl ?_
              refine z_bipush (v := 8) ok dX7_arrives_98 (by decide) ?_
              refine z_aload_n ok dX7_arrives_100 rfl ?_
              refine z_getf ok dX7_arrives_101 zin_X7 rfl 0 (by decide) zw_771 hm35.1 rfl ?_
              refine z_iconst (v := 5) ok dX7_arrives_104 (by decide) ?_
              refine m_ald1 ok dX7_arrives_105 hm35 rfl (by decide) ?_
              refine z_callVv ok dX7_arrives_106 zm_X7_puts zw_832 zi_X7_puts hm35.1 rfl (ct_X7_puts hm35 (i := i) (k := 8) rfl rfl (by omega)) rfl rfl (by decide) (by decide) (by decide) (Nat.le_of_ble_eq_true rfl) (fun Mz37 qz38 => ?_)
              obtain ⟨hm39, fzxz36⟩ := qz38
              try simp only [mA_s, mA_mA] at hm39
              refine z_aload_n ok dX7_arrives_109 rfl ?_
              refine z_getf ok dX7_arrives_110 zin_X7 rfl 0 (by decide) zw_771 hm39.1 rfl ?_
              refine z_iload ok dX7_arrives_113 rfl ?_
              refine z_if_eq (tgt := 123) ok dX7_arrives_115 (by decide) (fun _ => ?_) (fun q9 => absurd (by decide) q9)
              refine z_bipush (v := 7) ok dX7_arrives_123 (by decide) ?_
              refine z_dup2 ok dX7_arrives_125 rfl rfl ?_
              refine m_ald1 ok dX7_arrives_126 hm39 rfl (by decide) ?_
              refine z_iconst (v := 1) ok dX7_arrives_127 (by decide) ?_
              refine z_iadd ok dX7_arrives_128 ?_
              refine m_ast1 ok dX7_arrives_129 hm39 rfl (by decide) (fun Mz41 hm40 frz42 => ?_)
              refine z_aload_n ok dX7_arrives_130 rfl ?_
              refine z_getf ok dX7_arrives_131 zin_X7 rfl 0 (by decide) zw_771 hm40.1 rfl ?_
              refine z_bipush (v := 9) ok dX7_arrives_134 (by decide) ?_
              refine z_dup2 ok dX7_arrives_136 rfl rfl ?_
              refine m_ald1 ok dX7_arrives_137 hm40 rfl (by decide) ?_
              refine z_iload ok dX7_arrives_138 rfl ?_
              refine z_if_eq (tgt := 147) ok dX7_arrives_140 (by decide) (fun _ => ?_) (fun q9 => absurd (by decide) q9)
              refine z_aload_n ok dX7_arrives_147 rfl ?_
              refine z_iload_n ok dX7_arrives_148 rfl ?_
              refine z_iconst (v := 5) ok dX7_arrives_149 (by decide) ?_
              refine z_callVi ok dX7_arrives_150 zm_X7_of zw_845 zi_X7_of hm40.1 rfl (ct_X7_of hm40 (i := i) (k := 5) rfl rfl (by omega)) rfl rfl (by decide) (by decide) (by decide) (Nat.le_of_ble_eq_true rfl) (fun xz43 Mz44 qz45 => ?_)
              obtain ⟨rfl, hMe⟩ := qz45
              obtain rfl := hMe.symm
              refine z_iadd ok dX7_arrives_153 ?_
              refine m_ast1 ok dX7_arrives_154 hm40 rfl (by decide) (fun Mz47 hm46 frz48 => ?_)
              refine z_aload_n ok dX7_arrives_155 rfl ?_
              refine z_getf ok dX7_arrives_156 zin_X7 rfl 0 (by decide) zw_771 hm46.1 rfl ?_
              refine z_bipush (v := 12) ok dX7_arrives_159 (by decide) ?_
              refine z_dup2 ok dX7_arrives_161 rfl rfl ?_
              refine m_ald1 ok dX7_arrives_162 hm46 rfl (by decide) ?_
              refine z_iload ok dX7_arrives_163 rfl ?_
              refine z_aload_n ok dX7_arrives_165 rfl ?_
              refine z_getf ok dX7_arrives_166 zin_X7 rfl 0 (by decide) zw_771 hm46.1 rfl ?_
              refine z_iconst (v := 2) ok dX7_arrives_169 (by decide) ?_
              refine m_ald1 ok dX7_arrives_170 hm46 rfl (by decide) ?_
              refine z_imul ok dX7_arrives_171 ?_
              refine z_iadd ok dX7_arrives_172 ?_
              refine m_ast1 ok dX7_arrives_173 hm46 rfl (by decide) (fun Mz50 hm49 frz51 => ?_)
              refine z_iinc ok dX7_arrives_174 rfl rfl (by decide) rfl ?_
              refine z_iinc ok dX7_arrives_177 rfl (zinc _) (by decide) rfl ?_
              refine z_goto (tgt := 4) ok dX7_arrives_180 (by decide) ?_
              first | exact ih (i + 1) _ _ _ _ (by omega) (by omega) (by rw [zDel_f hb]; exact hy) (by rw [zDel_f hb]; exact hm49) hf1 | exact ih (i + 1) _ _ _ _ (by omega) (by omega) (by rw [zDel_t hb, hy]; rfl) (by rw [zDel_t hb]; have h9 := hm49; simp only [mA_s, mA_mA] at h9; simp only [zDel1, hl, he, if_true, if_false]; exact h9) (by repeat (first | assumption | exact zFr.rf | refine zFr.tr (by assumption) ?_))
            · have he : (zDel iv (μ.1 1) i).1 5 < gd (zDel iv (μ.1 1) i).1 i 3 := by simpa only [mA_s] using i_nle cz57
              refine z_aload_n ok dX7_arrives_60 rfl ?_
              refine z_iload_n ok dX7_arrives_61 rfl ?_
              refine z_iconst (v := 3) ok dX7_arrives_62 (by decide) ?_
              refine z_callVi ok dX7_arrives_63 zm_X7_of zw_845 zi_X7_of hm1.1 rfl (ct_X7_of hm1 (i := i) (k := 3) rfl rfl (by omega)) rfl rfl (by decide) (by decide) (by decide) (Nat.le_of_ble_eq_true rfl) (fun xz52 Mz53 qz54 => ?_)
              obtain ⟨rfl, hMe⟩ := qz54
              obtain rfl := hMe.symm
              refine z_aload_n ok dX7_arrives_66 rfl ?_
              refine z_getf ok dX7_arrives_67 zin_X7 rfl 0 (by decide) zw_771 hm1.1 rfl ?_
              refine z_iconst (v := 5) ok dX7_arrives_70 (by decide) ?_
              refine m_ald1 ok dX7_arrives_71 hm1 rfl (by decide) ?_
              refine z_isub ok dX7_arrives_72 ?_
              refine z_goto (tgt := 77) ok dX7_arrives_73 (by decide) ?_
              refine z_istore ok dX7_arrives_77 (by decide) rfl ?_
              refine z_aload_n ok dX7_arrives_79 rfl ?_
              refine z_iload_n ok dX7_arrives_80 rfl ?_
              refine z_bipush (v := 6) ok dX7_arrives_81 (by decide) ?_
              refine z_iload ok dX7_arrives_83 rfl ?_
              refine z_if_eq (tgt := 92) ok dX7_arrives_85 (by decide) (fun _ => ?_) (fun q9 => absurd (by decide) q9)
              refine z_iconst (v := 3) ok dX7_arrives_92 (by decide) ?_
              refine z_callVv ok dX7_arrives_93 zm_X7_puts zw_832 zi_X7_puts hm1.1 rfl (ct_X7_puts hm1 (i := i) (k := 6) rfl rfl (by omega)) rfl rfl (by decide) (by decide) (by decide) (Nat.le_of_ble_eq_true rfl) (fun Mz56 qz57 => ?_)
              obtain ⟨hm58, fzxz55⟩ := qz57
              try simp only [mA_s, mA_mA] at hm58
              refine z_aload_n ok dX7_arrives_96 rfl ?_
              refine z_iload_n ok dX7_arrives_97 rfl ?_
              refine z_bipush (v := 8) ok dX7_arrives_98 (by decide) ?_
              refine z_aload_n ok dX7_arrives_100 rfl ?_
              refine z_getf ok dX7_arrives_101 zin_X7 rfl 0 (by decide) zw_771 hm58.1 rfl ?_
              refine z_iconst (v := 5) ok dX7_arrives_104 (by decide) ?_
              refine m_ald1 ok dX7_arrives_105 hm58 rfl (by decide) ?_
              refine z_callVv ok dX7_arrives_106 zm_X7_puts zw_832 zi_X7_puts hm58.1 rfl (ct_X7_puts hm58 (i := i) (k := 8) rfl rfl (by omega)) rfl rfl (by decide) (by decide) (by decide) (Nat.le_of_ble_eq_true rfl) (fun Mz60 qz61 => ?_)
              obtain ⟨hm62, fzxz59⟩ := qz61
              try simp only [mA_s, mA_mA] at hm62
              refine z_aload_n ok dX7_arrives_109 rfl ?_
              refine z_getf ok dX7_arrives_110 zin_X7 rfl 0 (by decide) zw_771 hm62.1 rfl ?_
              refine z_iload ok dX7_arrives_113 rfl ?_
              refine z_if_eq (tgt := 123) ok dX7_arrives_115 (by decide) (fun _ => ?_) (fun q9 => absurd (by decide) q9)
              refine z_bipush (v := 7) ok dX7_arrives_123 (by decide) ?_
              refine z_dup2 ok dX7_arrives_125 rfl rfl ?_
              refine m_ald1 ok dX7_arrives_126 hm62 rfl (by decide) ?_
              refine z_iconst (v := 1) ok dX7_arrives_127 (by decide) ?_
              refine z_iadd ok dX7_arrives_128 ?_
              refine m_ast1 ok dX7_arrives_129 hm62 rfl (by decide) (fun Mz64 hm63 frz65 => ?_)
              refine z_aload_n ok dX7_arrives_130 rfl ?_
              refine z_getf ok dX7_arrives_131 zin_X7 rfl 0 (by decide) zw_771 hm63.1 rfl ?_
              refine z_bipush (v := 9) ok dX7_arrives_134 (by decide) ?_
              refine z_dup2 ok dX7_arrives_136 rfl rfl ?_
              refine m_ald1 ok dX7_arrives_137 hm63 rfl (by decide) ?_
              refine z_iload ok dX7_arrives_138 rfl ?_
              refine z_if_eq (tgt := 147) ok dX7_arrives_140 (by decide) (fun _ => ?_) (fun q9 => absurd (by decide) q9)
              refine z_aload_n ok dX7_arrives_147 rfl ?_
              refine z_iload_n ok dX7_arrives_148 rfl ?_
              refine z_iconst (v := 5) ok dX7_arrives_149 (by decide) ?_
              refine z_callVi ok dX7_arrives_150 zm_X7_of zw_845 zi_X7_of hm63.1 rfl (ct_X7_of hm63 (i := i) (k := 5) rfl rfl (by omega)) rfl rfl (by decide) (by decide) (by decide) (Nat.le_of_ble_eq_true rfl) (fun xz66 Mz67 qz68 => ?_)
              obtain ⟨rfl, hMe⟩ := qz68
              obtain rfl := hMe.symm
              refine z_iadd ok dX7_arrives_153 ?_
              refine m_ast1 ok dX7_arrives_154 hm63 rfl (by decide) (fun Mz70 hm69 frz71 => ?_)
              refine z_aload_n ok dX7_arrives_155 rfl ?_
              refine z_getf ok dX7_arrives_156 zin_X7 rfl 0 (by decide) zw_771 hm69.1 rfl ?_
              refine z_bipush (v := 12) ok dX7_arrives_159 (by decide) ?_
              refine z_dup2 ok dX7_arrives_161 rfl rfl ?_
              refine m_ald1 ok dX7_arrives_162 hm69 rfl (by decide) ?_
              refine z_iload ok dX7_arrives_163 rfl ?_
              refine z_aload_n ok dX7_arrives_165 rfl ?_
              refine z_getf ok dX7_arrives_166 zin_X7 rfl 0 (by decide) zw_771 hm69.1 rfl ?_
              refine z_iconst (v := 2) ok dX7_arrives_169 (by decide) ?_
              refine m_ald1 ok dX7_arrives_170 hm69 rfl (by decide) ?_
              refine z_imul ok dX7_arrives_171 ?_
              refine z_iadd ok dX7_arrives_172 ?_
              refine m_ast1 ok dX7_arrives_173 hm69 rfl (by decide) (fun Mz73 hm72 frz74 => ?_)
              refine z_iinc ok dX7_arrives_174 rfl rfl (by decide) rfl ?_
              refine z_iinc ok dX7_arrives_177 rfl (zinc _) (by decide) rfl ?_
              refine z_goto (tgt := 4) ok dX7_arrives_180 (by decide) ?_
              first | exact ih (i + 1) _ _ _ _ (by omega) (by omega) (by rw [zDel_f hb]; exact hy) (by rw [zDel_f hb]; exact hm72) hf1 | exact ih (i + 1) _ _ _ _ (by omega) (by omega) (by rw [zDel_t hb, hy]; rfl) (by rw [zDel_t hb]; have h9 := hm72; simp only [mA_s, mA_mA] at h9; simp only [zDel1, hl, he, if_true, if_false]; exact h9) (by repeat (first | assumption | exact zFr.rf | refine zFr.tr (by assumption) ?_))
          · have hl : gd (zDel iv (μ.1 1) i).1 i 4 < (zDel iv (μ.1 1) i).1 5 := by simpa only [mA_s] using i_nle cz35
            refine z_iconst (v := 1) ok dX7_arrives_38 (by decide) ?_
            refine z_goto (tgt := 43) ok dX7_arrives_39 (by decide) ?_
            refine z_istore ok dX7_arrives_43 (by decide) rfl ?_
            refine z_aload_n ok dX7_arrives_45 rfl ?_
            refine z_iload_n ok dX7_arrives_46 rfl ?_
            refine z_iconst (v := 3) ok dX7_arrives_47 (by decide) ?_
            refine z_callVi ok dX7_arrives_48 zm_X7_of zw_845 zi_X7_of hm1.1 rfl (ct_X7_of hm1 (i := i) (k := 3) rfl rfl (by omega)) rfl rfl (by decide) (by decide) (by decide) (Nat.le_of_ble_eq_true rfl) (fun xz75 Mz76 qz77 => ?_)
            obtain ⟨rfl, hMe⟩ := qz77
            obtain rfl := hMe.symm
            refine z_aload_n ok dX7_arrives_51 rfl ?_
            refine z_getf ok dX7_arrives_52 zin_X7 rfl 0 (by decide) zw_771 hm1.1 rfl ?_
            refine z_iconst (v := 5) ok dX7_arrives_55 (by decide) ?_
            refine m_ald1 ok dX7_arrives_56 hm1 rfl (by decide) ?_
            refine z_icmp_le (tgt := 76) ok dX7_arrives_57 (by decide) (fun cz57 => ?_) (fun cz57 => ?_)
            · have he : ¬ (zDel iv (μ.1 1) i).1 5 < gd (zDel iv (μ.1 1) i).1 i 3 := by simpa only [mA_s] using Int32.not_lt.mpr cz57
              refine z_iconst (v := 0) ok dX7_arrives_76 (by decide) ?_
              refine z_istore ok dX7_arrives_77 (by decide) rfl ?_
              refine z_aload_n ok dX7_arrives_79 rfl ?_
              refine z_iload_n ok dX7_arrives_80 rfl ?_
              refine z_bipush (v := 6) ok dX7_arrives_81 (by decide) ?_
              refine z_iload ok dX7_arrives_83 rfl ?_
              refine z_if_eq (tgt := 92) ok dX7_arrives_85 (by decide) (fun q9 => absurd q9 (by decide)) (fun _ => ?_)
              refine z_iconst (v := 4) ok dX7_arrives_88 (by decide) ?_
              refine z_goto (tgt := 93) ok dX7_arrives_89 (by decide) ?_
              refine z_callVv ok dX7_arrives_93 zm_X7_puts zw_832 zi_X7_puts hm1.1 rfl (ct_X7_puts hm1 (i := i) (k := 6) rfl rfl (by omega)) rfl rfl (by decide) (by decide) (by decide) (Nat.le_of_ble_eq_true rfl) (fun Mz79 qz80 => ?_)
              obtain ⟨hm81, fzxz78⟩ := qz80
              try simp only [mA_s, mA_mA] at hm81
              refine z_aload_n ok dX7_arrives_96 rfl ?_
              refine z_iload_n ok dX7_arrives_97 rfl ?_
              refine z_bipush (v := 8) ok dX7_arrives_98 (by decide) ?_
              refine z_aload_n ok dX7_arrives_100 rfl ?_
              refine z_getf ok dX7_arrives_101 zin_X7 rfl 0 (by decide) zw_771 hm81.1 rfl ?_
              refine z_iconst (v := 5) ok dX7_arrives_104 (by decide) ?_
              refine m_ald1 ok dX7_arrives_105 hm81 rfl (by decide) ?_
              refine z_callVv ok dX7_arrives_106 zm_X7_puts zw_832 zi_X7_puts hm81.1 rfl (ct_X7_puts hm81 (i := i) (k := 8) rfl rfl (by omega)) rfl rfl (by decide) (by decide) (by decide) (Nat.le_of_ble_eq_true rfl) (fun Mz83 qz84 => ?_)
              obtain ⟨hm85, fzxz82⟩ := qz84
              try simp only [mA_s, mA_mA] at hm85
              refine z_aload_n ok dX7_arrives_109 rfl ?_
              refine z_getf ok dX7_arrives_110 zin_X7 rfl 0 (by decide) zw_771 hm85.1 rfl ?_
              refine z_iload ok dX7_arrives_113 rfl ?_
              refine z_if_eq (tgt := 123) ok dX7_arrives_115 (by decide) (fun q9 => absurd q9 (by decide)) (fun _ => ?_)
              refine z_bipush (v := 8) ok dX7_arrives_118 (by decide) ?_
              refine z_goto (tgt := 125) ok dX7_arrives_120 (by decide) ?_
              refine z_dup2 ok dX7_arrives_125 rfl rfl ?_
              refine m_ald1 ok dX7_arrives_126 hm85 rfl (by decide) ?_
              refine z_iconst (v := 1) ok dX7_arrives_127 (by decide) ?_
              refine z_iadd ok dX7_arrives_128 ?_
              refine m_ast1 ok dX7_arrives_129 hm85 rfl (by decide) (fun Mz87 hm86 frz88 => ?_)
              refine z_aload_n ok dX7_arrives_130 rfl ?_
              refine z_getf ok dX7_arrives_131 zin_X7 rfl 0 (by decide) zw_771 hm86.1 rfl ?_
              refine z_bipush (v := 9) ok dX7_arrives_134 (by decide) ?_
              refine z_dup2 ok dX7_arrives_136 rfl rfl ?_
              refine m_ald1 ok dX7_arrives_137 hm86 rfl (by decide) ?_
              refine z_iload ok dX7_arrives_138 rfl ?_
              refine z_if_eq (tgt := 147) ok dX7_arrives_140 (by decide) (fun q9 => absurd q9 (by decide)) (fun _ => ?_)
              refine z_iconst (v := 0) ok dX7_arrives_143 (by decide) ?_
              refine z_goto (tgt := 153) ok dX7_arrives_144 (by decide) ?_
              refine z_iadd ok dX7_arrives_153 ?_
              refine m_ast1 ok dX7_arrives_154 hm86 rfl (by decide) (fun Mz90 hm89 frz91 => ?_)
              refine z_aload_n ok dX7_arrives_155 rfl ?_
              refine z_getf ok dX7_arrives_156 zin_X7 rfl 0 (by decide) zw_771 hm89.1 rfl ?_
              refine z_bipush (v := 12) ok dX7_arrives_159 (by decide) ?_
              refine z_dup2 ok dX7_arrives_161 rfl rfl ?_
              refine m_ald1 ok dX7_arrives_162 hm89 rfl (by decide) ?_
              refine z_iload ok dX7_arrives_163 rfl ?_
              refine z_aload_n ok dX7_arrives_165 rfl ?_
              refine z_getf ok dX7_arrives_166 zin_X7 rfl 0 (by decide) zw_771 hm89.1 rfl ?_
              refine z_iconst (v := 2) ok dX7_arrives_169 (by decide) ?_
              refine m_ald1 ok dX7_arrives_170 hm89 rfl (by decide) ?_
              refine z_imul ok dX7_arrives_171 ?_
              refine z_iadd ok dX7_arrives_172 ?_
              refine m_ast1 ok dX7_arrives_173 hm89 rfl (by decide) (fun Mz93 hm92 frz94 => ?_)
              refine z_iinc ok dX7_arrives_174 rfl rfl (by decide) rfl ?_
              refine z_iinc ok dX7_arrives_177 rfl (zinc _) (by decide) rfl ?_
              refine z_goto (tgt := 4) ok dX7_arrives_180 (by decide) ?_
              first | exact ih (i + 1) _ _ _ _ (by omega) (by omega) (by rw [zDel_f hb]; exact hy) (by rw [zDel_f hb]; exact hm92) hf1 | exact ih (i + 1) _ _ _ _ (by omega) (by omega) (by rw [zDel_t hb, hy]; rfl) (by rw [zDel_t hb]; have h9 := hm92; simp only [mA_s, mA_mA] at h9; simp only [zDel1, hl, he, if_true, if_false]; exact h9) (by repeat (first | assumption | exact zFr.rf | refine zFr.tr (by assumption) ?_))
            · have he : (zDel iv (μ.1 1) i).1 5 < gd (zDel iv (μ.1 1) i).1 i 3 := by simpa only [mA_s] using i_nle cz57
              refine z_aload_n ok dX7_arrives_60 rfl ?_
              refine z_iload_n ok dX7_arrives_61 rfl ?_
              refine z_iconst (v := 3) ok dX7_arrives_62 (by decide) ?_
              refine z_callVi ok dX7_arrives_63 zm_X7_of zw_845 zi_X7_of hm1.1 rfl (ct_X7_of hm1 (i := i) (k := 3) rfl rfl (by omega)) rfl rfl (by decide) (by decide) (by decide) (Nat.le_of_ble_eq_true rfl) (fun xz95 Mz96 qz97 => ?_)
              obtain ⟨rfl, hMe⟩ := qz97
              obtain rfl := hMe.symm
              refine z_aload_n ok dX7_arrives_66 rfl ?_
              refine z_getf ok dX7_arrives_67 zin_X7 rfl 0 (by decide) zw_771 hm1.1 rfl ?_
              refine z_iconst (v := 5) ok dX7_arrives_70 (by decide) ?_
              refine m_ald1 ok dX7_arrives_71 hm1 rfl (by decide) ?_
              refine z_isub ok dX7_arrives_72 ?_
              refine z_goto (tgt := 77) ok dX7_arrives_73 (by decide) ?_
              refine z_istore ok dX7_arrives_77 (by decide) rfl ?_
              refine z_aload_n ok dX7_arrives_79 rfl ?_
              refine z_iload_n ok dX7_arrives_80 rfl ?_
              refine z_bipush (v := 6) ok dX7_arrives_81 (by decide) ?_
              refine z_iload ok dX7_arrives_83 rfl ?_
              refine z_if_eq (tgt := 92) ok dX7_arrives_85 (by decide) (fun q9 => absurd q9 (by decide)) (fun _ => ?_)
              refine z_iconst (v := 4) ok dX7_arrives_88 (by decide) ?_
              refine z_goto (tgt := 93) ok dX7_arrives_89 (by decide) ?_
              refine z_callVv ok dX7_arrives_93 zm_X7_puts zw_832 zi_X7_puts hm1.1 rfl (ct_X7_puts hm1 (i := i) (k := 6) rfl rfl (by omega)) rfl rfl (by decide) (by decide) (by decide) (Nat.le_of_ble_eq_true rfl) (fun Mz99 qz100 => ?_)
              obtain ⟨hm101, fzxz98⟩ := qz100
              try simp only [mA_s, mA_mA] at hm101
              refine z_aload_n ok dX7_arrives_96 rfl ?_
              refine z_iload_n ok dX7_arrives_97 rfl ?_
              refine z_bipush (v := 8) ok dX7_arrives_98 (by decide) ?_
              refine z_aload_n ok dX7_arrives_100 rfl ?_
              refine z_getf ok dX7_arrives_101 zin_X7 rfl 0 (by decide) zw_771 hm101.1 rfl ?_
              refine z_iconst (v := 5) ok dX7_arrives_104 (by decide) ?_
              refine m_ald1 ok dX7_arrives_105 hm101 rfl (by decide) ?_
              refine z_callVv ok dX7_arrives_106 zm_X7_puts zw_832 zi_X7_puts hm101.1 rfl (ct_X7_puts hm101 (i := i) (k := 8) rfl rfl (by omega)) rfl rfl (by decide) (by decide) (by decide) (Nat.le_of_ble_eq_true rfl) (fun Mz103 qz104 => ?_)
              obtain ⟨hm105, fzxz102⟩ := qz104
              try simp only [mA_s, mA_mA] at hm105
              refine z_aload_n ok dX7_arrives_109 rfl ?_
              refine z_getf ok dX7_arrives_110 zin_X7 rfl 0 (by decide) zw_771 hm105.1 rfl ?_
              refine z_iload ok dX7_arrives_113 rfl ?_
              refine z_if_eq (tgt := 123) ok dX7_arrives_115 (by decide) (fun q9 => absurd q9 (by decide)) (fun _ => ?_)
              refine z_bipush (v := 8) ok dX7_arrives_118 (by decide) ?_
              refine z_goto (tgt := 125) ok dX7_arrives_120 (by decide) ?_
              refine z_dup2 ok dX7_arrives_125 rfl rfl ?_
              refine m_ald1 ok dX7_arrives_126 hm105 rfl (by decide) ?_
              refine z_iconst (v := 1) ok dX7_arrives_127 (by decide) ?_
              refine z_iadd ok dX7_arrives_128 ?_
              refine m_ast1 ok dX7_arrives_129 hm105 rfl (by decide) (fun Mz107 hm106 frz108 => ?_)
              refine z_aload_n ok dX7_arrives_130 rfl ?_
              refine z_getf ok dX7_arrives_131 zin_X7 rfl 0 (by decide) zw_771 hm106.1 rfl ?_
              refine z_bipush (v := 9) ok dX7_arrives_134 (by decide) ?_
              refine z_dup2 ok dX7_arrives_136 rfl rfl ?_
              refine m_ald1 ok dX7_arrives_137 hm106 rfl (by decide) ?_
              refine z_iload ok dX7_arrives_138 rfl ?_
              refine z_if_eq (tgt := 147) ok dX7_arrives_140 (by decide) (fun q9 => absurd q9 (by decide)) (fun _ => ?_)
              refine z_iconst (v := 0) ok dX7_arrives_143 (by decide) ?_
              refine z_goto (tgt := 153) ok dX7_arrives_144 (by decide) ?_
              refine z_iadd ok dX7_arrives_153 ?_
              refine m_ast1 ok dX7_arrives_154 hm106 rfl (by decide) (fun Mz110 hm109 frz111 => ?_)
              refine z_aload_n ok dX7_arrives_155 rfl ?_
              refine z_getf ok dX7_arrives_156 zin_X7 rfl 0 (by decide) zw_771 hm109.1 rfl ?_
              refine z_bipush (v := 12) ok dX7_arrives_159 (by decide) ?_
              refine z_dup2 ok dX7_arrives_161 rfl rfl ?_
              refine m_ald1 ok dX7_arrives_162 hm109 rfl (by decide) ?_
              refine z_iload ok dX7_arrives_163 rfl ?_
              refine z_aload_n ok dX7_arrives_165 rfl ?_
              refine z_getf ok dX7_arrives_166 zin_X7 rfl 0 (by decide) zw_771 hm109.1 rfl ?_
              refine z_iconst (v := 2) ok dX7_arrives_169 (by decide) ?_
              refine m_ald1 ok dX7_arrives_170 hm109 rfl (by decide) ?_
              refine z_imul ok dX7_arrives_171 ?_
              refine z_iadd ok dX7_arrives_172 ?_
              refine m_ast1 ok dX7_arrives_173 hm109 rfl (by decide) (fun Mz113 hm112 frz114 => ?_)
              refine z_iinc ok dX7_arrives_174 rfl rfl (by decide) rfl ?_
              refine z_iinc ok dX7_arrives_177 rfl (zinc _) (by decide) rfl ?_
              refine z_goto (tgt := 4) ok dX7_arrives_180 (by decide) ?_
              first | exact ih (i + 1) _ _ _ _ (by omega) (by omega) (by rw [zDel_f hb]; exact hy) (by rw [zDel_f hb]; exact hm112) hf1 | exact ih (i + 1) _ _ _ _ (by omega) (by omega) (by rw [zDel_t hb, hy]; rfl) (by rw [zDel_t hb]; have h9 := hm112; simp only [mA_s, mA_mA] at h9; simp only [zDel1, hl, he, if_true, if_false]; exact h9) (by repeat (first | assumption | exact zFr.rf | refine zFr.tr (by assumption) ?_))
  exact loop4 (n + 1) 0 _ _ _ _ (by omega) (by omega) rfl (mPic.self1 hm) zFr.rf

