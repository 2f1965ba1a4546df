def zSum (f : Nat → Int32) : Nat → Int32
  | 0 => 0
  | n + 1 => zSum f n + f n
def zOr (f : Nat → Int32) : Nat → Int32
  | 0 => 0
  | n + 1 => zOr f n ||| f n
def zLast (p : Nat → Prop) [DecidablePred p] (f : Nat → Int32) (x : Int32) : Nat → Int32
  | 0 => x
  | n + 1 => if p n then f n else zLast p f x n
theorem zinc (i : Nat) : nI i + Int32.ofInt 1 = nI (i + 1) := nI_1 i
theorem zSum_t {p : Nat → Prop} [DecidablePred p] {f g : Nat → Int32} {i : Nat} (h : p i) : zSum (fun c => if p c then f c else g c) i + f i = zSum (fun c => if p c then f c else g c) (i + 1) := by
  show _ = zSum _ i + (if p i then f i else g i)
  rw [if_pos h]
theorem zSum_f {p : Nat → Prop} [DecidablePred p] {f g : Nat → Int32} {i : Nat} (h : ¬ p i) : zSum (fun c => if p c then f c else g c) i + g i = zSum (fun c => if p c then f c else g c) (i + 1) := by
  show _ = zSum _ i + (if p i then f i else g i)
  rw [if_neg h]
theorem zOr_t {p : Nat → Prop} [DecidablePred p] {f g : Nat → Int32} {i : Nat} (h : p i) : zOr (fun c => if p c then f c else g c) i ||| f i = zOr (fun c => if p c then f c else g c) (i + 1) := by
  show _ = zOr _ i ||| (if p i then f i else g i)
  rw [if_pos h]
theorem zOr_f {p : Nat → Prop} [DecidablePred p] {f g : Nat → Int32} {i : Nat} (h : ¬ p i) : zOr (fun c => if p c then f c else g c) i ||| g i = zOr (fun c => if p c then f c else g c) (i + 1) := by
  show _ = zOr _ i ||| (if p i then f i else g i)
  rw [if_neg h]
def zbit (i : Nat) : Int32 := (1 : Int32) <<< (nI i &&& 31)
def zLd (s : Nat → Int32) (n : Nat) (v : Int32) (k : Nat) : Int32 := zSum (fun c => if zInV s c v then gd s c k else 0) n
def zLs (s : Nat → Int32) (n : Nat) (v : Int32) : Int32 := zOr (fun c => if zInV s c v then zbit c else 0) n
def zGoal (s : Nat → Int32) (n iv : Nat) : Int32 := zLast (fun c => zInV s c (nI iv)) (fun c => gd s c 0) (if vd s iv 2 = 0 then -1000004 else vd s iv 3) n
def zHr (s : Nat → Int32) (n : Nat) : Int32 := zOr (fun c => if zHere s c then zbit c else 0) n
def zPt (s : Nat → Int32) (n : Nat) (w : Int32) : Int32 := zOr (fun c => if (¬ gd s c 6 = 5 ∧ gd s c 9 = w) then zbit c else 0) n
def zHl (s : Nat → Int32) (n : Nat) : Int32 := zOr (fun c => if (zHere s c ∧ gd s c 4 < s 5 + gd s c 0 * s 0) then zbit c else 0) n
abbrev zCan (s : Nat → Int32) (n c iv : Nat) : Prop := (gd s c 6 = 0 ∧ vd s iv 2 = 0 ∧ (zGoal s n iv < 0 ∨ zGoal s n iv = gd s c 0)) ∧ zLd s n (nI iv) 1 + gd s c 1 ≤ vd s iv 0 ∧ zLd s n (nI iv) 2 + gd s c 2 ≤ vd s iv 1
set_option maxRecDepth 20000 in
set_option maxHeartbeats 4000000 in
theorem ct_X7_loaded {K : zK} {M : mM} {nx : Nat} {m : Nat} {μ : zMS} (hm : mPic M m μ) {n nv no : Nat} (hN : zN (μ.1 1) n nv no) {v w : Int32} {k : Nat} (hw : w = nI k) (hk : k < 12) : zCt K yX7_loaded cX7_loaded 5 zr_X7_loaded 3 [.ref m, .int v, .int w] M nx 0 0 (zI (fun x M' => x = zLd (μ.1 1) n v k ∧ M' = M)) := by
  refine z_enter [some (.ref m), some (.int v), some (.int w), none, none] (by decide +kernel) (Nat.le_of_ble_eq_true rfl) rfl (fun B ok hz => ?_)
  have hn16 := hN.2.1
  subst hw
  refine z_iconst (v := 0) ok dX7_loaded_0 (by decide) ?_
  refine z_istore_n ok dX7_loaded_1 (by decide) rfl ?_
  refine z_iconst (v := 0) ok dX7_loaded_2 (by decide) ?_
  refine z_istore ok dX7_loaded_3 (by decide) rfl ?_
  have loop5 : ∀ (t i : Nat) (y : Int32), n < i + t → i ≤ n → y = zLd (μ.1 1) i v k → zV 5 B (zE B (zI (fun x M' => x = zLd (μ.1 1) n v k ∧ M' = M)) 0 0) 5 [some (.ref m), some (.int v), some (.int (nI k)), some (.int y), some (.int (nI i))] [] M 0 0 := by
    intro t
    induction t with
    | zero => intro i y h1 h2; exact absurd h1 (by omega)
    | succ t ih =>
      intro i y h1 h2 hy
      refine z_iload ok dX7_loaded_5 rfl ?_
      refine z_aload_n ok dX7_loaded_7 rfl ?_
      refine z_getf ok dX7_loaded_8 zin_X7 rfl 0 (by decide) zw_771 hm.1 rfl ?_
      refine z_iconst (v := 3) ok dX7_loaded_11 (by decide) ?_
      refine m_ald1 ok dX7_loaded_12 hm rfl (by decide) ?_
      refine z_icmp_ge (tgt := 46) ok dX7_loaded_13 (by decide) (fun cz13 => ?_) (fun cz13 => ?_)
      · have hin : i = n := by rw [hN.1, nI_leI (by omega) (by omega)] at cz13; omega
        subst hin
        refine z_iload_n ok dX7_loaded_46 rfl ?_
        exact z_iret ok dX7_loaded_47 rfl rfl rfl (Nat.zero_le _) ⟨hy, rfl⟩
      · have hin : i < n := by rw [hN.1, nI_leI (by omega) (by omega)] at cz13; omega
        refine z_iload_n ok dX7_loaded_16 rfl ?_
        refine z_aload_n ok dX7_loaded_17 rfl ?_
        refine z_iload ok dX7_loaded_18 rfl ?_
        refine z_iload_n ok dX7_loaded_20 rfl ?_
        refine z_callVi ok dX7_loaded_21 zm_X7_isIn zw_882 zi_X7_isIn hm.1 rfl (ct_X7_isIn hm hN hin rfl) rfl rfl (by decide) (by decide) (by decide) (Nat.le_of_ble_eq_true rfl) (fun xz1 Mz2 qz3 => ?_)
        obtain ⟨rfl, hMe⟩ := qz3
        obtain rfl := hMe.symm
        refine z_if_eq (tgt := 37) ok dX7_loaded_24 (by decide) (fun cz24 => ?_) (fun cz24 => ?_)
        · have hb := b2_0.mp cz24
          refine z_iconst (v := 0) ok dX7_loaded_37 (by decide) ?_
          refine z_iadd ok dX7_loaded_38 ?_
          refine z_istore_n ok dX7_loaded_39 (by decide) rfl ?_
          refine z_iinc ok dX7_loaded_40 rfl (zinc _) (by decide) rfl ?_
          refine z_goto (tgt := 5) ok dX7_loaded_43 (by decide) ?_
          exact ih (i + 1) _ (by omega) (by omega) (by rw [hy]; first | exact zSum_t hb | exact zSum_f hb)
        · have hb := Decidable.not_not.mp (mt b2_0.mpr cz24)
          refine z_aload_n ok dX7_loaded_27 rfl ?_
          refine z_iload ok dX7_loaded_28 rfl ?_
          refine z_iload_n ok dX7_loaded_30 rfl ?_
          refine z_callVi ok dX7_loaded_31 zm_X7_of zw_845 zi_X7_of hm.1 rfl (ct_X7_of hm (i := i) (k := k) rfl rfl (by omega)) rfl rfl (by decide) (by decide) (by decide) (Nat.le_of_ble_eq_true rfl) (fun xz4 Mz5 qz6 => ?_)
          obtain ⟨rfl, hMe⟩ := qz6
          obtain rfl := hMe.symm
          refine z_goto (tgt := 38) ok dX7_loaded_34 (by decide) ?_
          refine z_iadd ok dX7_loaded_38 ?_
          refine z_istore_n ok dX7_loaded_39 (by decide) rfl ?_
          refine z_iinc ok dX7_loaded_40 rfl (zinc _) (by decide) rfl ?_
          refine z_goto (tgt := 5) ok dX7_loaded_43 (by decide) ?_
          exact ih (i + 1) _ (by omega) (by omega) (by rw [hy]; first | exact zSum_t hb | exact zSum_f hb)
  exact loop5 (n + 1) 0 _ (by omega) (by omega) rfl

set_option maxRecDepth 20000 in
set_option maxHeartbeats 4000000 in
theorem ct_X7_loadSet {K : zK} {M : mM} {nx : Nat} {m : Nat} {μ : zMS} (hm : mPic M m μ) {n nv no : Nat} (hN : zN (μ.1 1) n nv no) {v : Int32} : zCt K yX7_loadSet cX7_loadSet 4 zr_X7_loadSet 3 [.ref m, .int v] M nx 0 0 (zI (fun x M' => x = zLs (μ.1 1) n v ∧ M' = M)) := by
  refine z_enter [some (.ref m), some (.int v), none, none] (by decide +kernel) (Nat.le_of_ble_eq_true rfl) rfl (fun B ok hz => ?_)
  have hn16 := hN.2.1
  refine z_iconst (v := 0) ok dX7_loadSet_0 (by decide) ?_
  refine z_istore_n ok dX7_loadSet_1 (by decide) rfl ?_
  refine z_iconst (v := 0) ok dX7_loadSet_2 (by decide) ?_
  refine z_istore_n ok dX7_loadSet_3 (by decide) rfl ?_
  have loop4 : ∀ (t i : Nat) (y : Int32), n < i + t → i ≤ n → y = zLs (μ.1 1) i v → zV 4 B (zE B (zI (fun x M' => x = zLs (μ.1 1) n v ∧ M' = M)) 0 0) 4 [some (.ref m), some (.int v), some (.int y), some (.int (nI i))] [] M 0 0 := by
    intro t
    induction t with
    | zero => intro i y h1 h2; exact absurd h1 (by omega)
    | succ t ih =>
      intro i y h1 h2 hy
      refine z_iload_n ok dX7_loadSet_4 rfl ?_
      refine z_aload_n ok dX7_loadSet_5 rfl ?_
      refine z_getf ok dX7_loadSet_6 zin_X7 rfl 0 (by decide) zw_771 hm.1 rfl ?_
      refine z_iconst (v := 3) ok dX7_loadSet_9 (by decide) ?_
      refine m_ald1 ok dX7_loadSet_10 hm rfl (by decide) ?_
      refine z_icmp_ge (tgt := 39) ok dX7_loadSet_11 (by decide) (fun cz11 => ?_) (fun cz11 => ?_)
      · have hin : i = n := by rw [hN.1, nI_leI (by omega) (by omega)] at cz11; omega
        subst hin
        refine z_iload_n ok dX7_loadSet_39 rfl ?_
        exact z_iret ok dX7_loadSet_40 rfl rfl rfl (Nat.zero_le _) ⟨hy, rfl⟩
      · have hin : i < n := by rw [hN.1, nI_leI (by omega) (by omega)] at cz11; omega
        refine z_iload_n ok dX7_loadSet_14 rfl ?_
        refine z_aload_n ok dX7_loadSet_15 rfl ?_
        refine z_iload_n ok dX7_loadSet_16 rfl ?_
        refine z_iload_n ok dX7_loadSet_17 rfl ?_
        refine z_callVi ok dX7_loadSet_18 zm_X7_isIn zw_882 zi_X7_isIn hm.1 rfl (ct_X7_isIn hm hN hin rfl) rfl rfl (by decide) (by decide) (by decide) (Nat.le_of_ble_eq_true rfl) (fun xz1 Mz2 qz3 => ?_)
        obtain ⟨rfl, hMe⟩ := qz3
        obtain rfl := hMe.symm
        refine z_if_eq (tgt := 30) ok dX7_loadSet_21 (by decide) (fun cz21 => ?_) (fun cz21 => ?_)
        · have hb := b2_0.mp cz21
          refine z_iconst (v := 0) ok dX7_loadSet_30 (by decide) ?_
          refine z_ior ok dX7_loadSet_31 ?_
          refine z_istore_n ok dX7_loadSet_32 (by decide) rfl ?_
          refine z_iinc ok dX7_loadSet_33 rfl (zinc _) (by decide) rfl ?_
          refine z_goto (tgt := 4) ok dX7_loadSet_36 (by decide) ?_
          exact ih (i + 1) _ (by omega) (by omega) (by rw [hy]; first | exact zOr_t hb | exact zOr_f hb)
        · have hb := Decidable.not_not.mp (mt b2_0.mpr cz21)
          refine z_iconst (v := 1) ok dX7_loadSet_24 (by decide) ?_
          refine z_iload_n ok dX7_loadSet_25 rfl ?_
          refine z_ishl ok dX7_loadSet_26 ?_
          refine z_goto (tgt := 31) ok dX7_loadSet_27 (by decide) ?_
          refine z_ior ok dX7_loadSet_31 ?_
          refine z_istore_n ok dX7_loadSet_32 (by decide) rfl ?_
          refine z_iinc ok dX7_loadSet_33 rfl (zinc _) (by decide) rfl ?_
          refine z_goto (tgt := 4) ok dX7_loadSet_36 (by decide) ?_
          exact ih (i + 1) _ (by omega) (by omega) (by rw [hy]; first | exact zOr_t hb | exact zOr_f hb)
  exact loop4 (n + 1) 0 _ (by omega) (by omega) rfl

set_option maxRecDepth 20000 in
set_option maxHeartbeats 4000000 in
theorem ct_X7_here {K : zK} {M : mM} {nx : Nat} {m : Nat} {μ : zMS} (hm : mPic M m μ) {n nv no : Nat} (hN : zN (μ.1 1) n nv no) : zCt K yX7_here cX7_here 3 zr_X7_here 3 [.ref m] M nx 0 0 (zI (fun x M' => x = zHr (μ.1 1) n ∧ M' = M)) := by
  refine z_enter [some (.ref m), none, none] (by decide +kernel) (Nat.le_of_ble_eq_true rfl) rfl (fun B ok hz => ?_)
  have hn16 := hN.2.1
  refine z_iconst (v := 0) ok dX7_here_0 (by decide) ?_
  refine z_istore_n ok dX7_here_1 (by decide) rfl ?_
  refine z_iconst (v := 0) ok dX7_here_2 (by decide) ?_
  refine z_istore_n ok dX7_here_3 (by decide) rfl ?_
  have loop4 : ∀ (t i : Nat) (y : Int32), n < i + t → i ≤ n → y = zHr (μ.1 1) i → zV 3 B (zE B (zI (fun x M' => x = zHr (μ.1 1) n ∧ M' = M)) 0 0) 4 [some (.ref m), some (.int y), some (.int (nI i))] [] M 0 0 := by
    intro t
    induction t with
    | zero => intro i y h1 h2; exact absurd h1 (by omega)
    | succ t ih =>
      intro i y h1 h2 hy
      refine z_iload_n ok dX7_here_4 rfl ?_
      refine z_aload_n ok dX7_here_5 rfl ?_
      refine z_getf ok dX7_here_6 zin_X7 rfl 0 (by decide) zw_771 hm.1 rfl ?_
      refine z_iconst (v := 3) ok dX7_here_9 (by decide) ?_
      refine m_ald1 ok dX7_here_10 hm rfl (by decide) ?_
      refine z_icmp_ge (tgt := 38) ok dX7_here_11 (by decide) (fun cz11 => ?_) (fun cz11 => ?_)
      · have hin : i = n := by rw [hN.1, nI_leI (by omega) (by omega)] at cz11; omega
        subst hin
        refine z_iload_n ok dX7_here_38 rfl ?_
        exact z_iret ok dX7_here_39 rfl rfl rfl (Nat.zero_le _) ⟨hy, rfl⟩
      · have hin : i < n := by rw [hN.1, nI_leI (by omega) (by omega)] at cz11; omega
        refine z_iload_n ok dX7_here_14 rfl ?_
        refine z_aload_n ok dX7_here_15 rfl ?_
        refine z_iload_n ok dX7_here_16 rfl ?_
        refine z_callVi ok dX7_here_17 zm_X7_isHere zw_953 zi_X7_isHere hm.1 rfl (ct_X7_isHere hm hN hin rfl) rfl rfl (by decide) (by decide) (by decide) (Nat.le_of_ble_eq_true rfl) (fun xz1 Mz2 qz3 => ?_)
        obtain ⟨rfl, hMe⟩ := qz3
        obtain rfl := hMe.symm
        refine z_if_eq (tgt := 29) ok dX7_here_20 (by decide) (fun cz20 => ?_) (fun cz20 => ?_)
        · have hb := b2_0.mp cz20
          refine z_iconst (v := 0) ok dX7_here_29 (by decide) ?_
          refine z_ior ok dX7_here_30 ?_
          refine z_istore_n ok dX7_here_31 (by decide) rfl ?_
          refine z_iinc ok dX7_here_32 rfl (zinc _) (by decide) rfl ?_
          refine z_goto (tgt := 4) ok dX7_here_35 (by decide) ?_
          exact ih (i + 1) _ (by omega) (by omega) (by rw [hy]; first | exact zOr_t hb | exact zOr_f hb)
        · have hb := Decidable.not_not.mp (mt b2_0.mpr cz20)
          refine z_iconst (v := 1) ok dX7_here_23 (by decide) ?_
          refine z_iload_n ok dX7_here_24 rfl ?_
          refine z_ishl ok dX7_here_25 ?_
          refine z_goto (tgt := 30) ok dX7_here_26 (by decide) ?_
          refine z_ior ok dX7_here_30 ?_
          refine z_istore_n ok dX7_here_31 (by decide) rfl ?_
          refine z_iinc ok dX7_here_32 rfl (zinc _) (by decide) rfl ?_
          refine z_goto (tgt := 4) ok dX7_here_35 (by decide) ?_
          exact ih (i + 1) _ (by omega) (by omega) (by rw [hy]; first | exact zOr_t hb | exact zOr_f hb)
  exact loop4 (n + 1) 0 _ (by omega) (by omega) rfl

set_option maxRecDepth 20000 in
set_option maxHeartbeats 4000000 in
theorem ct_X7_parts {K : zK} {M : mM} {nx : Nat} {m : Nat} {μ : zMS} (hm : mPic M m μ) {n nv no : Nat} (hN : zN (μ.1 1) n nv no) {c : Int32} {ic : Nat} (hc : c = nI ic) (hic : ic < n) : zCt K yX7_parts cX7_parts 4 zr_X7_parts 3 [.ref m, .int c] M nx 0 0 (zI (fun x M' => x = zPt (μ.1 1) n (gd (μ.1 1) ic 9) ∧ M' = M)) := by
  refine z_enter [some (.ref m), some (.int c), none, none] (by decide +kernel) (Nat.le_of_ble_eq_true rfl) rfl (fun B ok hz => ?_)
  have hn16 := hN.2.1
  subst hc
  refine z_iconst (v := 0) ok dX7_parts_0 (by decide) ?_
  refine z_istore_n ok dX7_parts_1 (by decide) rfl ?_
  refine z_iconst (v := 0) ok dX7_parts_2 (by decide) ?_
  refine z_istore_n ok dX7_parts_3 (by decide) rfl ?_
  have loop4 : ∀ (t i : Nat) (y : Int32), n < i + t → i ≤ n → y = zPt (μ.1 1) i (gd (μ.1 1) ic 9) → zV 4 B (zE B (zI (fun x M' => x = zPt (μ.1 1) n (gd (μ.1 1) ic 9) ∧ M' = M)) 0 0) 4 [some (.ref m), some (.int (nI ic)), some (.int y), some (.int (nI i))] [] M 0 0 := by
    intro t
    induction t with
    | zero => intro i y h1 h2; exact absurd h1 (by omega)
    | succ t ih =>
      intro i y h1 h2 hy
      refine z_iload_n ok dX7_parts_4 rfl ?_
      refine z_aload_n ok dX7_parts_5 rfl ?_
      refine z_getf ok dX7_parts_6 zin_X7 rfl 0 (by decide) zw_771 hm.1 rfl ?_
      refine z_iconst (v := 3) ok dX7_parts_9 (by decide) ?_
      refine m_ald1 ok dX7_parts_10 hm rfl (by decide) ?_
      refine z_icmp_ge (tgt := 55) ok dX7_parts_11 (by decide) (fun cz11 => ?_) (fun cz11 => ?_)
      · have hin : i = n := by rw [hN.1, nI_leI (by omega) (by omega)] at cz11; omega
        subst hin
        refine z_iload_n ok dX7_parts_55 rfl ?_
        exact z_iret ok dX7_parts_56 rfl rfl rfl (Nat.zero_le _) ⟨hy, rfl⟩
      · have hin : i < n := by rw [hN.1, nI_leI (by omega) (by omega)] at cz11; omega
        refine z_iload_n ok dX7_parts_14 rfl ?_
        refine z_aload_n ok dX7_parts_15 rfl ?_
        refine z_iload_n ok dX7_parts_16 rfl ?_
        refine z_callVi ok dX7_parts_17 zm_X7_isGoods zw_841 zi_X7_isGoods hm.1 rfl (ct_X7_isGoods hm hN) rfl rfl (by decide) (by decide) (by decide) (Nat.le_of_ble_eq_true rfl) (fun xz1 Mz2 qz3 => ?_)
        obtain ⟨rfl, hMe⟩ := qz3
        obtain rfl := hMe.symm
        refine z_if_eq (tgt := 46) ok dX7_parts_20 (by decide) (fun cz20 => ?_) (fun cz20 => ?_)
        · have hb0 := mt (zGoods_of hN hin).mpr (b2_0.mp cz20)
          have hb := (fun h : (¬ gd (μ.1 1) i 6 = 5 ∧ gd (μ.1 1) i 9 = gd (μ.1 1) ic 9) => hb0 h.1)
          refine z_iconst (v := 0) ok dX7_parts_46 (by decide) ?_
          refine z_ior ok dX7_parts_47 ?_
          refine z_istore_n ok dX7_parts_48 (by decide) rfl ?_
          refine z_iinc ok dX7_parts_49 rfl (zinc _) (by decide) rfl ?_
          refine z_goto (tgt := 4) ok dX7_parts_52 (by decide) ?_
          exact ih (i + 1) _ (by omega) (by omega) (by rw [hy]; first | exact zOr_t hb | exact zOr_f hb)
        · have hb0 := (zGoods_of hN hin).mp (Decidable.not_not.mp (mt b2_0.mpr cz20))
          refine z_aload_n ok dX7_parts_23 rfl ?_
          refine z_iload_n ok dX7_parts_24 rfl ?_
          refine z_bipush (v := 9) ok dX7_parts_25 (by decide) ?_
          refine z_callVi ok dX7_parts_27 zm_X7_of zw_845 zi_X7_of hm.1 rfl (ct_X7_of hm (i := i) (k := 9) rfl rfl (by omega)) rfl rfl (by decide) (by decide) (by decide) (Nat.le_of_ble_eq_true rfl) (fun xz4 Mz5 qz6 => ?_)
          obtain ⟨rfl, hMe⟩ := qz6
          obtain rfl := hMe.symm
          refine z_aload_n ok dX7_parts_30 rfl ?_
          refine z_iload_n ok dX7_parts_31 rfl ?_
          refine z_bipush (v := 9) ok dX7_parts_32 (by decide) ?_
          refine z_callVi ok dX7_parts_34 zm_X7_of zw_845 zi_X7_of hm.1 rfl (ct_X7_of hm (i := ic) (k := 9) rfl rfl (by omega)) rfl rfl (by decide) (by decide) (by decide) (Nat.le_of_ble_eq_true rfl) (fun xz7 Mz8 qz9 => ?_)
          obtain ⟨rfl, hMe⟩ := qz9
          obtain rfl := hMe.symm
          refine z_icmp_ne (tgt := 46) ok dX7_parts_37 (by decide) (fun cz37 => ?_) (fun cz37 => ?_)
          · have hb := (fun h : (¬ gd (μ.1 1) i 6 = 5 ∧ gd (μ.1 1) i 9 = gd (μ.1 1) ic 9) => cz37 h.2)
            refine z_iconst (v := 0) ok dX7_parts_46 (by decide) ?_
            refine z_ior ok dX7_parts_47 ?_
            refine z_istore_n ok dX7_parts_48 (by decide) rfl ?_
            refine z_iinc ok dX7_parts_49 rfl (zinc _) (by decide) rfl ?_
            refine z_goto (tgt := 4) ok dX7_parts_52 (by decide) ?_
            exact ih (i + 1) _ (by omega) (by omega) (by rw [hy]; first | exact zOr_t hb | exact zOr_f hb)
          · have hb : (¬ gd (μ.1 1) i 6 = 5 ∧ gd (μ.1 1) i 9 = gd (μ.1 1) ic 9) := ⟨hb0, cz37⟩
            refine z_iconst (v := 1) ok dX7_parts_40 (by decide) ?_
            refine z_iload_n ok dX7_parts_41 rfl ?_
            refine z_ishl ok dX7_parts_42 ?_
            refine z_goto (tgt := 47) ok dX7_parts_43 (by decide) ?_
            refine z_ior ok dX7_parts_47 ?_
            refine z_istore_n ok dX7_parts_48 (by decide) rfl ?_
            refine z_iinc ok dX7_parts_49 rfl (zinc _) (by decide) rfl ?_
            refine z_goto (tgt := 4) ok dX7_parts_52 (by decide) ?_
            exact ih (i + 1) _ (by omega) (by omega) (by rw [hy]; first | exact zOr_t hb | exact zOr_f hb)
  exact loop4 (n + 1) 0 _ (by omega) (by omega) rfl

set_option maxRecDepth 20000 in
set_option maxHeartbeats 4000000 in
theorem ct_X7_hopeless {K : zK} {M : mM} {nx : Nat} {m : Nat} {μ : zMS} (hm : mPic M m μ) {n nv no : Nat} (hN : zN (μ.1 1) n nv no) : zCt K yX7_hopeless cX7_hopeless 3 zr_X7_hopeless 3 [.ref m] M nx 0 0 (zI (fun x M' => x = zHl (μ.1 1) n ∧ M' = M)) := by
  refine z_enter [some (.ref m), none, none] (by decide +kernel) (Nat.le_of_ble_eq_true rfl) rfl (fun B ok hz => ?_)
  have hn16 := hN.2.1
  refine z_iconst (v := 0) ok dX7_hopeless_0 (by decide) ?_
  refine z_istore_n ok dX7_hopeless_1 (by decide) rfl ?_
  refine z_iconst (v := 0) ok dX7_hopeless_2 (by decide) ?_
  refine z_istore_n ok dX7_hopeless_3 (by decide) rfl ?_
  have loop4 : ∀ (t i : Nat) (y : Int32), n < i + t → i ≤ n → y = zHl (μ.1 1) i → zV 3 B (zE B (zI (fun x M' => x = zHl (μ.1 1) n ∧ M' = M)) 0 0) 4 [some (.ref m), some (.int y), some (.int (nI i))] [] M 0 0 := by
    intro t
    induction t with
    | zero => intro i y h1 h2; exact absurd h1 (by omega)
    | succ t ih =>
      intro i y h1 h2 hy
      refine z_iload_n ok dX7_hopeless_4 rfl ?_
      refine z_aload_n ok dX7_hopeless_5 rfl ?_
      refine z_getf ok dX7_hopeless_6 zin_X7 rfl 0 (by decide) zw_771 hm.1 rfl ?_
      refine z_iconst (v := 3) ok dX7_hopeless_9 (by decide) ?_
      refine m_ald1 ok dX7_hopeless_10 hm rfl (by decide) ?_
      refine z_icmp_ge (tgt := 67) ok dX7_hopeless_11 (by decide) (fun cz11 => ?_) (fun cz11 => ?_)
      · have hin : i = n := by rw [hN.1, nI_leI (by omega) (by omega)] at cz11; omega
        subst hin
        refine z_iload_n ok dX7_hopeless_67 rfl ?_
        exact z_iret ok dX7_hopeless_68 rfl rfl rfl (Nat.zero_le _) ⟨hy, rfl⟩
      · have hin : i < n := by rw [hN.1, nI_leI (by omega) (by omega)] at cz11; omega
        refine z_iload_n ok dX7_hopeless_14 rfl ?_
        refine z_aload_n ok dX7_hopeless_15 rfl ?_
        refine z_iload_n ok dX7_hopeless_16 rfl ?_
        refine z_callVi ok dX7_hopeless_17 zm_X7_isHere zw_953 zi_X7_isHere hm.1 rfl (ct_X7_isHere hm hN hin rfl) rfl rfl (by decide) (by decide) (by decide) (Nat.le_of_ble_eq_true rfl) (fun xz1 Mz2 qz3 => ?_)
        obtain ⟨rfl, hMe⟩ := qz3
        obtain rfl := hMe.symm
        refine z_if_eq (tgt := 58) ok dX7_hopeless_20 (by decide) (fun cz20 => ?_) (fun cz20 => ?_)
        · have hb0 := b2_0.mp cz20
          have hb := (fun h : (zHere (μ.1 1) i ∧ gd (μ.1 1) i 4 < (μ.1 1) 5 + gd (μ.1 1) i 0 * (μ.1 1) 0) => hb0 h.1)
          refine z_iconst (v := 0) ok dX7_hopeless_58 (by decide) ?_
          refine z_ior ok dX7_hopeless_59 ?_
          refine z_istore_n ok dX7_hopeless_60 (by decide) rfl ?_
          refine z_iinc ok dX7_hopeless_61 rfl (zinc _) (by decide) rfl ?_
          refine z_goto (tgt := 4) ok dX7_hopeless_64 (by decide) ?_
          exact ih (i + 1) _ (by omega) (by omega) (by rw [hy]; first | exact zOr_t hb | exact zOr_f hb)
        · have hb0 := Decidable.not_not.mp (mt b2_0.mpr cz20)
          refine z_aload_n ok dX7_hopeless_23 rfl ?_
          refine z_getf ok dX7_hopeless_24 zin_X7 rfl 0 (by decide) zw_771 hm.1 rfl ?_
          refine z_iconst (v := 5) ok dX7_hopeless_27 (by decide) ?_
          refine m_ald1 ok dX7_hopeless_28 hm rfl (by decide) ?_
          refine z_aload_n ok dX7_hopeless_29 rfl ?_
          refine z_iload_n ok dX7_hopeless_30 rfl ?_
          refine z_iconst (v := 0) ok dX7_hopeless_31 (by decide) ?_
          refine z_callVi ok dX7_hopeless_32 zm_X7_of zw_845 zi_X7_of hm.1 rfl (ct_X7_of hm (i := i) (k := 0) rfl rfl (by omega)) rfl rfl (by decide) (by decide) (by decide) (Nat.le_of_ble_eq_true rfl) (fun xz4 Mz5 qz6 => ?_)
          obtain ⟨rfl, hMe⟩ := qz6
          obtain rfl := hMe.symm
          refine z_aload_n ok dX7_hopeless_35 rfl ?_
          refine z_getf ok dX7_hopeless_36 zin_X7 rfl 0 (by decide) zw_771 hm.1 rfl ?_
          refine z_iconst (v := 0) ok dX7_hopeless_39 (by decide) ?_
          refine m_ald1 ok dX7_hopeless_40 hm rfl (by decide) ?_
          refine z_imul ok dX7_hopeless_41 ?_
          refine z_iadd ok dX7_hopeless_42 ?_
          refine z_aload_n ok dX7_hopeless_43 rfl ?_
          refine z_iload_n ok dX7_hopeless_44 rfl ?_
          refine z_iconst (v := 4) ok dX7_hopeless_45 (by decide) ?_
          refine z_callVi ok dX7_hopeless_46 zm_X7_of zw_845 zi_X7_of hm.1 rfl (ct_X7_of hm (i := i) (k := 4) rfl rfl (by omega)) rfl rfl (by decide) (by decide) (by decide) (Nat.le_of_ble_eq_true rfl) (fun xz7 Mz8 qz9 => ?_)
          obtain ⟨rfl, hMe⟩ := qz9
          obtain rfl := hMe.symm
          refine z_icmp_le (tgt := 58) ok dX7_hopeless_49 (by decide) (fun cz49 => ?_) (fun cz49 => ?_)
          · have hb := (fun h : (zHere (μ.1 1) i ∧ gd (μ.1 1) i 4 < (μ.1 1) 5 + gd (μ.1 1) i 0 * (μ.1 1) 0) => i_lt_n h.2 cz49)
            refine z_iconst (v := 0) ok dX7_hopeless_58 (by decide) ?_
            refine z_ior ok dX7_hopeless_59 ?_
            refine z_istore_n ok dX7_hopeless_60 (by decide) rfl ?_
            refine z_iinc ok dX7_hopeless_61 rfl (zinc _) (by decide) rfl ?_
            refine z_goto (tgt := 4) ok dX7_hopeless_64 (by decide) ?_
            exact ih (i + 1) _ (by omega) (by omega) (by rw [hy]; first | exact zOr_t hb | exact zOr_f hb)
          · have hb : (zHere (μ.1 1) i ∧ gd (μ.1 1) i 4 < (μ.1 1) 5 + gd (μ.1 1) i 0 * (μ.1 1) 0) := ⟨hb0, i_nle cz49⟩
            refine z_iconst (v := 1) ok dX7_hopeless_52 (by decide) ?_
            refine z_iload_n ok dX7_hopeless_53 rfl ?_
            refine z_ishl ok dX7_hopeless_54 ?_
            refine z_goto (tgt := 59) ok dX7_hopeless_55 (by decide) ?_
            refine z_ior ok dX7_hopeless_59 ?_
            refine z_istore_n ok dX7_hopeless_60 (by decide) rfl ?_
            refine z_iinc ok dX7_hopeless_61 rfl (zinc _) (by decide) rfl ?_
            refine z_goto (tgt := 4) ok dX7_hopeless_64 (by decide) ?_
            exact ih (i + 1) _ (by omega) (by omega) (by rw [hy]; first | exact zOr_t hb | exact zOr_f hb)
  exact loop4 (n + 1) 0 _ (by omega) (by omega) rfl

theorem zLast_t {p : Nat → Prop} [DecidablePred p] {f : Nat → Int32} {x : Int32} {i : Nat} (h : p i) : f i = zLast p f x (i + 1) := (if_pos h).symm
theorem zLast_f {p : Nat → Prop} [DecidablePred p] {f : Nat → Int32} {x : Int32} {i : Nat} (h : ¬ p i) : zLast p f x i = zLast p f x (i + 1) := (if_neg h).symm
set_option maxRecDepth 20000 in
set_option maxHeartbeats 4000000 in
theorem ct_X7_goal {K : zK} {M : mM} {nx : Nat} {m : Nat} {μ : zMS} (hm : mPic M m μ) {n nv no : Nat} (hN : zN (μ.1 1) n nv no) {v : Int32} {iv : Nat} (hv : v = nI iv) (hiv : iv < 4) : zCt K yX7_goal cX7_goal 4 zr_X7_goal 3 [.ref m, .int v] M nx 0 0 (zI (fun x M' => x = zGoal (μ.1 1) n iv ∧ M' = M)) := by
  refine z_enter [some (.ref m), some (.int v), none, none] (by decide +kernel) (Nat.le_of_ble_eq_true rfl) rfl (fun B ok hz => ?_)
  have hn16 := hN.2.1
  subst hv
  have J : ∀ x0 : Int32, x0 = (if vd (μ.1 1) iv 2 = 0 then -1000004 else vd (μ.1 1) iv 3) → zV 4 B (zE B (zI (fun x M' => x = zGoal (μ.1 1) n iv ∧ M' = M)) 0 0) 20 [some (.ref m), some (.int (nI iv)), none, none] [.int x0] M 0 0 := by
    intro x0 hx0
    refine z_istore_n ok dX7_goal_20 (by decide) rfl ?_
    refine z_iconst (v := 0) ok dX7_goal_21 (by decide) ?_
    refine z_istore_n ok dX7_goal_22 (by decide) rfl ?_
    have loop23 : ∀ (t i : Nat) (y : Int32), n < i + t → i ≤ n → y = zLast (fun c => zInV (μ.1 1) c (nI iv)) (fun c => gd (μ.1 1) c 0) (if vd (μ.1 1) iv 2 = 0 then -1000004 else vd (μ.1 1) iv 3) i → zV 4 B (zE B (zI (fun x M' => x = zGoal (μ.1 1) n iv ∧ M' = M)) 0 0) 23 [some (.ref m), some (.int (nI iv)), some (.int y), some (.int (nI i))] [] M 0 0 := by
      intro t
      induction t with
      | zero => intro i y h1 h2; exact absurd h1 (by omega)
      | succ t ih =>
        intro i y h1 h2 hy
        refine z_iload_n ok dX7_goal_23 rfl ?_
        refine z_aload_n ok dX7_goal_24 rfl ?_
        refine z_getf ok dX7_goal_25 zin_X7 rfl 0 (by decide) zw_771 hm.1 rfl ?_
        refine z_iconst (v := 3) ok dX7_goal_28 (by decide) ?_
        refine m_ald1 ok dX7_goal_29 hm rfl (by decide) ?_
        refine z_icmp_ge (tgt := 59) ok dX7_goal_30 (by decide) (fun cz30 => ?_) (fun cz30 => ?_)
        · have hin : i = n := by rw [hN.1, nI_leI (by omega) (by omega)] at cz30; omega
          subst hin
          refine z_iload_n ok dX7_goal_59 rfl ?_
          exact z_iret ok dX7_goal_60 rfl rfl rfl (Nat.zero_le _) ⟨hy, rfl⟩
        · have hin : i < n := by rw [hN.1, nI_leI (by omega) (by omega)] at cz30; omega
          refine z_aload_n ok dX7_goal_33 rfl ?_
          refine z_iload_n ok dX7_goal_34 rfl ?_
          refine z_iload_n ok dX7_goal_35 rfl ?_
          refine z_callVi ok dX7_goal_36 zm_X7_isIn zw_882 zi_X7_isIn hm.1 rfl (ct_X7_isIn hm hN hin rfl) rfl rfl (by decide) (by decide) (by decide) (Nat.le_of_ble_eq_true rfl) (fun xz1 Mz2 qz3 => ?_)
          obtain ⟨rfl, hMe⟩ := qz3
          obtain rfl := hMe.symm
          refine z_if_eq (tgt := 51) ok dX7_goal_39 (by decide) (fun cz39 => ?_) (fun cz39 => ?_)
          · have hb := b2_0.mp cz39
            refine z_iload_n ok dX7_goal_51 rfl ?_
            refine z_istore_n ok dX7_goal_52 (by decide) rfl ?_
            refine z_iinc ok dX7_goal_53 rfl (zinc _) (by decide) rfl ?_
            refine z_goto (tgt := 23) ok dX7_goal_56 (by decide) ?_
            exact ih (i + 1) _ (by omega) (by omega) (by first | exact hy.trans (zLast_f (p := fun c => zInV (μ.1 1) c (nI iv)) hb) | exact zLast_t (p := fun c => zInV (μ.1 1) c (nI iv)) (f := fun c => gd (μ.1 1) c 0) hb)
          · have hb := Decidable.not_not.mp (mt b2_0.mpr cz39)
            refine z_aload_n ok dX7_goal_42 rfl ?_
            refine z_iload_n ok dX7_goal_43 rfl ?_
            refine z_iconst (v := 0) ok dX7_goal_44 (by decide) ?_
            refine z_callVi ok dX7_goal_45 zm_X7_of zw_845 zi_X7_of hm.1 rfl (ct_X7_of hm (i := i) (k := 0) rfl rfl (by omega)) rfl rfl (by decide) (by decide) (by decide) (Nat.le_of_ble_eq_true rfl) (fun xz4 Mz5 qz6 => ?_)
            obtain ⟨rfl, hMe⟩ := qz6
            obtain rfl := hMe.symm
            refine z_goto (tgt := 52) ok dX7_goal_48 (by decide) ?_
            refine z_istore_n ok dX7_goal_52 (by decide) rfl ?_
            refine z_iinc ok dX7_goal_53 rfl (zinc _) (by decide) rfl ?_
            refine z_goto (tgt := 23) ok dX7_goal_56 (by decide) ?_
            exact ih (i + 1) _ (by omega) (by omega) (by first | exact hy.trans (zLast_f (p := fun c => zInV (μ.1 1) c (nI iv)) hb) | exact zLast_t (p := fun c => zInV (μ.1 1) c (nI iv)) (f := fun c => gd (μ.1 1) c 0) hb)
    exact loop23 (n + 1) 0 _ (by omega) (by omega) hx0
  refine z_aload_n ok dX7_goal_0 rfl ?_
  refine z_iload_n ok dX7_goal_1 rfl ?_
  refine z_iconst (v := 2) ok dX7_goal_2 (by decide) ?_
  refine z_callVi ok dX7_goal_3 zm_X7_ofVehicle zw_874 zi_X7_ofVehicle hm.1 rfl (ct_X7_ofVehicle hm (i := iv) (k := 2) rfl rfl (by omega)) rfl rfl (by decide) (by decide) (by decide) (Nat.le_of_ble_eq_true rfl) (fun xz7 Mz8 qz9 => ?_)
  obtain ⟨rfl, hMe⟩ := qz9
  obtain rfl := hMe.symm
  refine z_if_ne (tgt := 14) ok dX7_goal_6 (by decide) (fun cz6 => ?_) (fun cz6 => ?_)
  · refine z_aload_n ok dX7_goal_14 rfl ?_
    refine z_iload_n ok dX7_goal_15 rfl ?_
    refine z_iconst (v := 3) ok dX7_goal_16 (by decide) ?_
    refine z_callVi ok dX7_goal_17 zm_X7_ofVehicle zw_874 zi_X7_ofVehicle hm.1 rfl (ct_X7_ofVehicle hm (i := iv) (k := 3) rfl rfl (by omega)) rfl rfl (by decide) (by decide) (by decide) (Nat.le_of_ble_eq_true rfl) (fun xz10 Mz11 qz12 => ?_)
    obtain ⟨rfl, hMe⟩ := qz12
    obtain rfl := hMe.symm
    first | exact J _ (if_neg cz6).symm | exact J _ (if_pos cz6).symm
  · refine z_ldc ok dX7_goal_9 zw_836 ?_
    refine z_goto (tgt := 20) ok dX7_goal_11 (by decide) ?_
    first | exact J _ (if_neg cz6).symm | exact J _ (if_pos cz6).symm

