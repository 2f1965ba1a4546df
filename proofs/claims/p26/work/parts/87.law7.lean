/-! the class beside the law: its object at c, what it is asked, what it answers -/
def lO (M : mM) (c : Nat) (s : Nat → Int32) : Prop := ∃ (past : Nat → Int32) (p : Nat) (tx : Nat → Int32), cPic M c s past p 0 tx
def lQ (M : mM) (c : Nat) (s : Nat → Int32) (r : zRes) (x : Int32) (M' : mM) : Prop := zFr M M' c 251 ∧ match r with
  | .inl e => x = e ∧ lO M' c s
  | .inr q => x = q.2 ∧ lO M' c q.1
theorem lQ.inr {M M' : mM} {c : Nat} {s : Nat → Int32} {r : zRes} {x : Int32} {q : (Nat → Int32) × Int32} (h : lQ M c s r x M') (e : r = .inr q) : zFr M M' c 251 ∧ x = q.2 ∧ lO M' c q.1 := by
  subst e
  exact h
theorem lQ.inl {M M' : mM} {c : Nat} {s : Nat → Int32} {r : zRes} {x e : Int32} (h : lQ M c s r x M') (e1 : r = .inl e) : zFr M M' c 251 ∧ x = e ∧ lO M' c s := by
  subst e1
  exact h
theorem lO.fr {M M' : mM} {c : Nat} {s : Nat → Int32} (h : lO M c s) (hf : zFr M M' (c + 251) 6) : lO M' c s := by
  obtain ⟨pastω, pω, txω, nω, nvω, noω, oω, fpω, frω, vbω, nxzω, numsω, h⟩ := h
  have hqω : ∀ qω, c ≤ qω → qω < c + 251 → M' qω = M qω := fun qω h1ω h2ω => hf qω (Or.inl h2ω)
  exact ⟨pastω, pω, txω, nω, nvω, noω, oω, fpω, frω, vbω, nxzω, numsω, cR.mk ((hqω _ (by omega) (by omega)).trans h.F) ((hqω _ (by omega) (by omega)).trans h.Y) (h.A.kept (hqω _ (by omega) (by omega))) ((hqω _ (by omega) (by omega)).trans h.S) (h.C.kept (hqω _ (by omega) (by omega))) (h.U.kept (hqω _ (by omega) (by omega))) h.B (h.H.kept (fun qω h1ω h2ω => hqω _ (by omega) (by omega))) (h.T.kept (fun qω h1ω h2ω => hqω _ (by omega) (by omega))) (fun iω hiω => (h.R iω hiω).kept (fun qω h1ω h2ω => hqω _ (by omega) (by omega))) (fun jω hjω => (h.W jω hjω).kept (fun qω h1ω h2ω => by have h5ω := Nat.mod_lt (oω + jω) (show 5 > 0 by decide); exact hqω _ (by omega) (by omega)))⟩
theorem lO.self {M : mM} {c : Nat} {s : Nat → Int32} (h : lO M c s) : ∃ fs : List Value, M c = some (.inr (6, fs)) := by
  obtain ⟨pastω, pω, txω, nω, nvω, noω, oω, fpω, frω, vbω, nxzω, numsω, h⟩ := h
  exact ⟨_, h.F⟩
theorem cR.N {M : mM} {c : Nat} {s : Nat → Int32} {n nv no : Nat} {rows : Nat → Nat → Int32} {kk p o : Nat} {fp fr : Int32} {ty : Nat} {tx : Nat → Int32} {vb nxz : Int32} {nums : Nat → Int32} (h : cR M c s n nv no rows kk p o fp fr ty tx vb nxz nums) : zN s n nv no := by
  obtain ⟨κω, πω, h1ω, h2ω, h3ω⟩ := h.H
  exact h3ω.N
theorem zN_one {s : Nat → Int32} {n nv no n' nv' no' : Nat} (h : zN s n nv no) (h' : zN s n' nv' no') : n = n' ∧ nv = nv' ∧ no = no' := by
  obtain ⟨a1ω, a2ω, a3ω, a4ω, a5ω, a6ω⟩ := h
  obtain ⟨b1ω, b2ω, b3ω, b4ω, b5ω, b6ω⟩ := h'
  exact ⟨(nI_eq (by omega) (by omega)).mp (a1ω.symm.trans b1ω), (nI_eq (by omega) (by omega)).mp (a3ω.symm.trans b3ω), (nI_eq (by omega) (by omega)).mp (a5ω.symm.trans b5ω)⟩
theorem lO.at {M : mM} {c : Nat} {s : Nat → Int32} {n nv no : Nat} (h : lO M c s) (hN : zN s n nv no) : ∃ (past : Nat → Int32) (p : Nat) (tx : Nat → Int32) (o : Nat) (fp fr vb nxz : Int32) (nums : Nat → Int32), cR M c s n nv no (fun j q => past (287 * j + q)) p p o fp fr 0 tx vb nxz nums := by
  obtain ⟨past, p, tx, n'ω, nv'ω, no'ω, o, fp, fr, vb, nxz, nums, h⟩ := h
  obtain ⟨e1ω, e2ω, e3ω⟩ := zN_one hN h.N
  subst e1ω e2ω e3ω
  exact ⟨past, p, tx, o, fp, fr, vb, nxz, nums, h⟩
theorem lO.wf {M : mM} {c : Nat} {s : Nat → Int32} {n nv no : Nat} (h : lO M c s) (hN : zN s n nv no) : zWF s n nv no := by
  obtain ⟨pastω, pω, txω, oω, fpω, frω, vbω, nxzω, numsω, h⟩ := h.at hN
  obtain ⟨κω, πω, h1ω, h2ω, h3ω⟩ := h.H
  exact h3ω
theorem lQ_of {M M' : mM} {c : Nat} {s past : Nat → Int32} {p : Nat} {tx : Nat → Int32} {r : zRes} {x : Int32} (h : cPost M c s past p 0 tx r x M') : lQ M c s r x M' := by
  cases r with
  | inl eω => exact ⟨h.1, h.2.1, _, _, _, h.2.2⟩
  | inr qω => exact ⟨h.1, h.2.1, _, _, _, h.2.2⟩
theorem lO.to_consign {K : zK} {M : mM} {nx c : Nat} {s : Nat → Int32} {n nv no : Nat} (ho : lO M c s) (hN : zN s n nv no) {p1 b1 w1 f1 t1 o1 : Int32} : zCt K yX6_consign cX6_consign 7 zr_X6_consign 4 [.ref c, .int p1, .int b1, .int w1, .int f1, .int t1, .int o1] M nx 0 0 (zI (lQ M c s (spConsign s n p1 b1 w1 f1 t1 o1))) := by
  obtain ⟨pastω, pω, txω, oω, fpω, frω, vbω, nxzω, numsω, hω⟩ := ho.at hN
  refine (ct_X6_consign hω).mono (fun rω M'ω hqω => ?_)
  obtain ⟨xω, eω, hqω⟩ := hqω
  exact ⟨xω, eω, lQ_of hqω⟩
theorem lO.to_split {K : zK} {M : mM} {nx c : Nat} {s : Nat → Int32} {n nv no : Nat} (ho : lO M c s) (hN : zN s n nv no) {c1 b1 w1 : Int32} : zCt K yX6_split cX6_split 4 zr_X6_split 4 [.ref c, .int c1, .int b1, .int w1] M nx 0 0 (zI (lQ M c s (spSplit s n c1 b1 w1))) := by
  obtain ⟨pastω, pω, txω, oω, fpω, frω, vbω, nxzω, numsω, hω⟩ := ho.at hN
  refine (ct_X6_split hω).mono (fun rω M'ω hqω => ?_)
  obtain ⟨xω, eω, hqω⟩ := hqω
  exact ⟨xω, eω, lQ_of hqω⟩
theorem lO.to_join {K : zK} {M : mM} {nx c : Nat} {s : Nat → Int32} {n nv no : Nat} (ho : lO M c s) (hN : zN s n nv no) {c1 c2 : Int32} : zCt K yX6_join cX6_join 3 zr_X6_join 4 [.ref c, .int c1, .int c2] M nx 0 0 (zI (lQ M c s (spJoin s c1 c2))) := by
  obtain ⟨pastω, pω, txω, oω, fpω, frω, vbω, nxzω, numsω, hω⟩ := ho.at hN
  refine (ct_X6_join hω).mono (fun rω M'ω hqω => ?_)
  obtain ⟨xω, eω, hqω⟩ := hqω
  exact ⟨xω, eω, lQ_of hqω⟩
theorem lO.to_vehicle {K : zK} {M : mM} {nx c : Nat} {s : Nat → Int32} {n nv no : Nat} (ho : lO M c s) (hN : zN s n nv no) {r1 w1 : Int32} : zCt K yX6_vehicle cX6_vehicle 3 zr_X6_vehicle 4 [.ref c, .int r1, .int w1] M nx 0 0 (zI (lQ M c s (spVehicle s nv r1 w1))) := by
  obtain ⟨pastω, pω, txω, oω, fpω, frω, vbω, nxzω, numsω, hω⟩ := ho.at hN
  refine (ct_X6_vehicle hω).mono (fun rω M'ω hqω => ?_)
  obtain ⟨xω, eω, hqω⟩ := hqω
  exact ⟨xω, eω, lQ_of hqω⟩
theorem lO.to_load {K : zK} {M : mM} {nx c : Nat} {s : Nat → Int32} {n nv no : Nat} (ho : lO M c s) (hN : zN s n nv no) {c1 v1 : Int32} : zCt K yX6_load cX6_load 3 zr_X6_load 4 [.ref c, .int c1, .int v1] M nx 0 0 (zI (lQ M c s (spLoad s n c1 v1))) := by
  obtain ⟨pastω, pω, txω, oω, fpω, frω, vbω, nxzω, numsω, hω⟩ := ho.at hN
  refine (ct_X6_load hω).mono (fun rω M'ω hqω => ?_)
  obtain ⟨xω, eω, hqω⟩ := hqω
  exact ⟨xω, eω, lQ_of hqω⟩
theorem lO.to_unload {K : zK} {M : mM} {nx c : Nat} {s : Nat → Int32} {n nv no : Nat} (ho : lO M c s) (hN : zN s n nv no) {c1 : Int32} : zCt K yX6_unload cX6_unload 2 zr_X6_unload 4 [.ref c, .int c1] M nx 0 0 (zI (lQ M c s (spUnload s c1))) := by
  obtain ⟨pastω, pω, txω, oω, fpω, frω, vbω, nxzω, numsω, hω⟩ := ho.at hN
  refine (ct_X6_unload hω).mono (fun rω M'ω hqω => ?_)
  obtain ⟨xω, eω, hqω⟩ := hqω
  exact ⟨xω, eω, lQ_of hqω⟩
theorem lO.to_fill {K : zK} {M : mM} {nx c : Nat} {s : Nat → Int32} {n nv no : Nat} (ho : lO M c s) (hN : zN s n nv no) {v1 p1 r1 : Int32} : zCt K yX6_fill cX6_fill 5 zr_X6_fill 4 [.ref c, .int v1, .int p1, .int r1] M nx 0 0 (zI (lQ M c s (spFill s n v1 p1 r1))) := by
  obtain ⟨pastω, pω, txω, oω, fpω, frω, vbω, nxzω, numsω, hω⟩ := ho.at hN
  refine (ct_X6_fill hω).mono (fun rω M'ω hqω => ?_)
  obtain ⟨xω, eω, hqω⟩ := hqω
  exact ⟨xω, eω, lQ_of hqω⟩
theorem lO.to_depart {K : zK} {M : mM} {nx c : Nat} {s : Nat → Int32} {n nv no : Nat} (ho : lO M c s) (hN : zN s n nv no) {v1 : Int32} : zCt K yX6_depart cX6_depart 2 zr_X6_depart 4 [.ref c, .int v1] M nx 0 0 (zI (lQ M c s (spDepart s n v1))) := by
  obtain ⟨pastω, pω, txω, oω, fpω, frω, vbω, nxzω, numsω, hω⟩ := ho.at hN
  refine (ct_X6_depart hω).mono (fun rω M'ω hqω => ?_)
  obtain ⟨xω, eω, hqω⟩ := hqω
  exact ⟨xω, eω, lQ_of hqω⟩
theorem lO.to_offer {K : zK} {M : mM} {nx c : Nat} {s : Nat → Int32} {n nv no : Nat} (ho : lO M c s) (hN : zN s n nv no) {p1 b1 w1 r1 h1 : Int32} : zCt K yX6_offer cX6_offer 6 zr_X6_offer 4 [.ref c, .int p1, .int b1, .int w1, .int r1, .int h1] M nx 0 0 (zI (lQ M c s (spOffer s no p1 b1 w1 r1 h1))) := by
  obtain ⟨pastω, pω, txω, oω, fpω, frω, vbω, nxzω, numsω, hω⟩ := ho.at hN
  refine (ct_X6_offer hω).mono (fun rω M'ω hqω => ?_)
  obtain ⟨xω, eω, hqω⟩ := hqω
  exact ⟨xω, eω, lQ_of hqω⟩
theorem lO.to_pass {K : zK} {M : mM} {nx c : Nat} {s : Nat → Int32} {n nv no : Nat} (ho : lO M c s) (hN : zN s n nv no) {h1 : Int32} : zCt K yX6_pass cX6_pass 2 zr_X6_pass 4 [.ref c, .int h1] M nx 0 0 (zI (lQ M c s (spPass s n nv h1))) := by
  obtain ⟨pastω, pω, txω, oω, fpω, frω, vbω, nxzω, numsω, hω⟩ := ho.at hN
  refine (ct_X6_pass hω).mono (fun rω M'ω hqω => ?_)
  obtain ⟨xω, eω, hqω⟩ := hqω
  exact ⟨xω, eω, lQ_of hqω⟩
theorem lO.to_set {K : zK} {M : mM} {nx c : Nat} {s : Nat → Int32} {n nv no : Nat} (ho : lO M c s) (hN : zN s n nv no) {w1 x1 : Int32} : zCt K yX6_set cX6_set 3 zr_X6_set 4 [.ref c, .int w1, .int x1] M nx 0 0 (zI (lQ M c s (spSet s w1 x1))) := by
  obtain ⟨pastω, pω, txω, oω, fpω, frω, vbω, nxzω, numsω, hω⟩ := ho.at hN
  refine (ct_X6_set hω).mono (fun rω M'ω hqω => ?_)
  obtain ⟨xω, eω, hqω⟩ := hqω
  exact ⟨xω, eω, lQ_of hqω⟩
theorem lO.to_consignmentOf {K : zK} {M : mM} {nx c : Nat} {s : Nat → Int32} {n nv no : Nat} (ho : lO M c s) (hN : zN s n nv no) {cq w : Int32} : zCt K yX6_consignmentOf cX6_consignmentOf 4 zr_X6_consignmentOf 2 [.ref c, .int cq, .int w] M nx 0 0 (zI (fun x M' => x = spCof s n cq w ∧ M' = M)) := by
  obtain ⟨pastω, pω, txω, oω, fpω, frω, vbω, nxzω, numsω, hω⟩ := ho.at hN
  refine (ct_X6_consignmentOf hω).mono (fun rω M'ω hqω => ?_)
  obtain ⟨xω, eω, hqω⟩ := hqω
  exact ⟨xω, eω, hqω⟩
theorem lO.to_vehicleOf {K : zK} {M : mM} {nx c : Nat} {s : Nat → Int32} {n nv no : Nat} (ho : lO M c s) (hN : zN s n nv no) {vq w : Int32} : zCt K yX6_vehicleOf cX6_vehicleOf 4 zr_X6_vehicleOf 3 [.ref c, .int vq, .int w] M nx 0 0 (zI (fun x M' => x = spVof s n vq w ∧ M' = M)) := by
  obtain ⟨pastω, pω, txω, oω, fpω, frω, vbω, nxzω, numsω, hω⟩ := ho.at hN
  refine (ct_X6_vehicleOf hω).mono (fun rω M'ω hqω => ?_)
  obtain ⟨xω, eω, hqω⟩ := hqω
  exact ⟨xω, eω, hqω⟩
theorem lO.to_offerOf {K : zK} {M : mM} {nx c : Nat} {s : Nat → Int32} {n nv no : Nat} (ho : lO M c s) (hN : zN s n nv no) {iq w : Int32} : zCt K yX6_offerOf cX6_offerOf 4 zr_X6_offerOf 1 [.ref c, .int iq, .int w] M nx 0 0 (zI (fun x M' => x = spOof s iq w ∧ M' = M)) := by
  obtain ⟨pastω, pω, txω, oω, fpω, frω, vbω, nxzω, numsω, hω⟩ := ho.at hN
  refine (ct_X6_offerOf hω).mono (fun rω M'ω hqω => ?_)
  obtain ⟨xω, eω, hqω⟩ := hqω
  exact ⟨xω, eω, hqω⟩
theorem lO.to_count {K : zK} {M : mM} {nx c : Nat} {s : Nat → Int32} {n nv no : Nat} (ho : lO M c s) (hN : zN s n nv no) {w : Int32} : zCt K yX6_count cX6_count 2 zr_X6_count 2 [.ref c, .int w] M nx 0 0 (zI (fun x M' => (∃ p : Nat, x = spCount s n (nI p) (nI 0) w) ∧ M' = M)) := by
  obtain ⟨pastω, p, txω, oω, fpω, frω, vbω, nxzω, numsω, hω⟩ := ho.at hN
  refine (ct_X6_count hω).mono (fun rω M' hqω => ?_)
  obtain ⟨x, eω, hqω⟩ := hqω
  exact ⟨x, eω, ⟨p, hqω.1⟩, hqω.2⟩
/-! what else holds of a row: weights, and no load above room or bound -/
def zSI (s : Nat → Int32) (u k : Nat) : Nat → Int
  | 0 => 0
  | n + 1 => zSI s u k n + (if zInV s n (nI u) then (gd s n k).toInt else 0)
def zX (s : Nat → Int32) (n nv : Nat) : Prop := (∀ i, i < n → 1 ≤ (gd s i 2).toInt) ∧ zTot s 2 n ≤ 99 * (n : Int) ∧ (∀ u, u < nv → zSI s u 1 n ≤ (vd s u 0).toInt ∧ zSI s u 2 n ≤ (vd s u 1).toInt) ∧ ∀ i, i < n → gd s i 6 = 2 → ∀ u, u < nv → gd s i 7 = nI u → vd s u 2 = 1
/-- class and law stand alike -/
def lS (M : mM) (c : Nat) (s : Nat → Int32) (n nv no : Nat) : Prop := lO M c s ∧ lP M (c + 251) s n nv no ∧ zWF s n nv no ∧ zX s n nv
theorem lP.fr {M M' : mM} {c : Nat} {s : Nat → Int32} {n nv no : Nat} (h : lP M (c + 251) s n nv no) (hf : zFr M M' c 251) : lP M' (c + 251) s n nv no := h.kept (fun qω h1ω _ => hf qω (Or.inr h1ω))
theorem lS.mk2 {M M' : mM} {c : Nat} {s : Nat → Int32} {n nv no : Nat} (h : lP M (c + 251) s n nv no) (hf : zFr M M' c 251) (ho : lO M' c s) (hN : zN s n nv no) (hx : zX s n nv) : lS M' c s n nv no := ⟨ho, h.fr hf, ho.wf hN, hx⟩
theorem zFr.w {M M' : mM} {c a w : Nat} (h : zFr M M' a w) (h1 : c ≤ a) (h2 : a + w ≤ c + 257) : zFr M M' c 257 := fun qω hqω => h qω (by omega)
theorem zWq {a b : Int32} {x A Z : Nat} (ha : a = nI A) (hb : b = nI Z) (h : A ≤ x ∧ x ≤ Z) (hZ : Z < 2 ^ 31) : zW a b (nI x) := by
  subst ha hb
  exact ⟨(nI_leI (by omega) (by omega)).mpr h.1, (nI_leI (by omega) (by omega)).mpr h.2⟩
theorem yrem {Y d : Nat} {x : Int32} (hx : x = nI d) (hY : Y < 2 ^ 31) (h0 : 0 < d) (hd : d < 2 ^ 31) : nI Y - nI Y / x * x = nI (Y % d) := by
  subst hx
  exact pk_rem hY h0 hd
theorem ydiv {Y d : Nat} {x : Int32} (hx : x = nI d) (hY : Y < 2 ^ 31) (h0 : 0 < d) (hd : d < 2 ^ 31) : nI Y / x = nI (Y / d) := by
  subst hx
  exact pk_div hY h0 hd
theorem yadd {a b : Nat} {x : Int32} (hx : x = nI a) : x + nI b = nI (a + b) := by
  subst hx
  exact nI_add a b
theorem zGoods_n {s : Nat → Int32} {n nv no k : Nat} (hN : zN s n nv no) (h : zGoods s (nI k)) (hk : k < 2 ^ 31) : k < n ∧ ¬ gd s k 6 = 5 := by
  have h1ω := h.2.1
  have h3ω := h.2.2
  have h16ω := hN.2.1
  rw [hN.1, nI_leI (by omega) hk] at h1ω
  rw [nI_clamp hk] at h3ω
  exact ⟨by omega, h3ω⟩
