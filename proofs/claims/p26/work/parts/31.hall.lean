/-! a hall: its numbers by kind (0 consignments, 1 vehicles, 2 offers, 3 settings, 4 the hall itself), row and slot -/
abbrev hK : Type := Nat → Nat → Nat → Int32
def kU (κ : hK) (a i k : Nat) (x : Int32) : hK := fun a' i' k' => if a' = a ∧ i' = i ∧ k' = k then x else κ a' i' k'
theorem kU_s (κ : hK) (a i k : Nat) (x : Int32) : kU κ a i k x a i k = x := if_pos ⟨rfl, rfl, rfl⟩
theorem kU_n {κ : hK} {a i k a' i' k' : Nat} {x : Int32} (h : ¬ (a' = a ∧ i' = i ∧ k' = k)) : kU κ a i k x a' i' k' = κ a' i' k' := if_neg h
theorem kU_a {κ : hK} {a i k a' : Nat} {x : Int32} (h : a' ≠ a) : kU κ a i k x a' = κ a' := by
  funext i' k'
  exact kU_n (fun z => h z.1)
theorem kU_i {κ : hK} {a i k a' i' : Nat} {x : Int32} (h : i' ≠ i) : kU κ a i k x a' i' = κ a' i' := by
  funext k'
  exact kU_n (fun z => h z.2.1)
theorem kU_u {κ : hK} {a i k : Nat} {x : Int32} : kU κ a i k x a i = upd (κ a i) k x := by
  funext k'
  unfold kU upd
  by_cases h : k' = k <;> simp [h]
def cFs (g : Nat → Int32) : List Value := [.int (g 0), .int (g 1), .int (g 2), .int (g 3), .int (g 4), .int (g 5), .int (g 6), .int (g 7), .int (g 8), .int (g 9), .int (g 10), .int (g 11), .int (g 12)]
def vFs (g : Nat → Int32) : List Value := [.int (g 0), .int (g 1), .int (g 2), .int (g 3), .int (g 4), .int (g 5), .int (g 6), .int (g 7), .int (g 8)]
def oFs (g : Nat → Int32) : List Value := [.int (g 0), .int (g 1), .int (g 2), .int (g 3), .int (g 4)]
def hFs (b : Nat) (g : Nat → Int32) : List Value := [.ref (b + 1), .ref (b + 2), .ref (b + 3), .ref (b + 4), .int (g 4), .int (g 5), .int (g 6), .int (g 7), .int (g 8), .int (g 9), .int (g 10), .int (g 11)]
def zRef (M : mM) (a j N : Nat) (g : Nat → Nat) : Prop := ∃ f : Nat → Option Nat, M a = some (.inl (j, N, .inr (.inr (.inr (.inr f))))) ∧ ∀ i, i < N → f i = some (g i)
theorem zRef.kept {M M' : mM} {a j N : Nat} {g : Nat → Nat} (h : zRef M a j N g) (hq : M' a = M a) : zRef M' a j N g := by
  obtain ⟨f, h1, h2⟩ := h
  exact ⟨f, hq.trans h1, h2⟩
def zPm (π : Nat → Nat) : Prop := (∀ i, i < 10 → π i < 10) ∧ ∀ i, i < 10 → ∀ j, j < 10 → π i = π j → i = j
def hPicP (M : mM) (b : Nat) (κ : hK) (π : Nat → Nat) : Prop := M b = some (.inr (1, hFs b (κ 4 0))) ∧ zRef M (b + 1) 3 16 (fun i => b + 5 + i) ∧ zRef M (b + 2) 4 4 (fun i => b + 21 + i) ∧ zArr M (b + 4) 3 (κ 3 0) ∧ (∀ i, i < 16 → M (b + 5 + i) = some (.inr (0, cFs (κ 0 i))) ∧ κ 0 i 0 = nI i) ∧ (∀ i, i < 4 → M (b + 21 + i) = some (.inr (5, vFs (κ 1 i))) ∧ κ 1 i 0 = nI i) ∧ zPm π ∧ zRef M (b + 3) 5 10 (fun i => b + 25 + π i) ∧ ∀ i, i < 10 → M (b + 25 + π i) = some (.inr (3, oFs (κ 2 i)))
def hPic (M : mM) (b : Nat) (κ : hK) : Prop := ∃ π, hPicP M b κ π
theorem hPicP.kept {M M' : mM} {b : Nat} {κ : hK} {π : Nat → Nat} (h : hPicP M b κ π) (hq : ∀ q, b ≤ q → q < b + 35 → M' q = M q) : hPicP M' b κ π := by
  obtain ⟨h1, h2, h3, h4, h5, h6, h7, h8, h9⟩ := h
  refine ⟨(hq _ (by omega) (by omega)).trans h1, h2.kept (hq _ (by omega) (by omega)), h3.kept (hq _ (by omega) (by omega)), h4.kept (hq _ (by omega) (by omega)), fun i hi => ⟨(hq _ (by omega) (by omega)).trans (h5 i hi).1, (h5 i hi).2⟩, fun i hi => ⟨(hq _ (by omega) (by omega)).trans (h6 i hi).1, (h6 i hi).2⟩, h7, h8.kept (hq _ (by omega) (by omega)), fun i hi => (hq _ (by omega) (by have := h7.1 i hi; omega)).trans (h9 i hi)⟩
theorem hPic.kept {M M' : mM} {b : Nat} {κ : hK} (h : hPic M b κ) (hq : ∀ q, b ≤ q → q < b + 35 → M' q = M q) : hPic M' b κ := by
  obtain ⟨π, hp⟩ := h
  exact ⟨π, hp.kept hq⟩
theorem cFs_set (g : Nat → Int32) (x : Int32) {k : Nat} (hk : k < 13) : (cFs g).set k (.int x) = cFs (upd g k x) := by
  match k, hk with
  | 0, _ => rfl
  | 1, _ => rfl
  | 2, _ => rfl
  | 3, _ => rfl
  | 4, _ => rfl
  | 5, _ => rfl
  | 6, _ => rfl
  | 7, _ => rfl
  | 8, _ => rfl
  | 9, _ => rfl
  | 10, _ => rfl
  | 11, _ => rfl
  | 12, _ => rfl
theorem cFs_get (g : Nat → Int32) {k : Nat} (hk : k < 13) : (cFs g)[k]? = some (.int (g k)) := by
  match k, hk with
  | 0, _ => rfl
  | 1, _ => rfl
  | 2, _ => rfl
  | 3, _ => rfl
  | 4, _ => rfl
  | 5, _ => rfl
  | 6, _ => rfl
  | 7, _ => rfl
  | 8, _ => rfl
  | 9, _ => rfl
  | 10, _ => rfl
  | 11, _ => rfl
  | 12, _ => rfl
theorem vFs_set (g : Nat → Int32) (x : Int32) {k : Nat} (hk : k < 9) : (vFs g).set k (.int x) = vFs (upd g k x) := by
  match k, hk with
  | 0, _ => rfl
  | 1, _ => rfl
  | 2, _ => rfl
  | 3, _ => rfl
  | 4, _ => rfl
  | 5, _ => rfl
  | 6, _ => rfl
  | 7, _ => rfl
  | 8, _ => rfl
theorem vFs_get (g : Nat → Int32) {k : Nat} (hk : k < 9) : (vFs g)[k]? = some (.int (g k)) := by
  match k, hk with
  | 0, _ => rfl
  | 1, _ => rfl
  | 2, _ => rfl
  | 3, _ => rfl
  | 4, _ => rfl
  | 5, _ => rfl
  | 6, _ => rfl
  | 7, _ => rfl
  | 8, _ => rfl
theorem oFs_set (g : Nat → Int32) (x : Int32) {k : Nat} (hk : k < 5) : (oFs g).set k (.int x) = oFs (upd g k x) := by
  match k, hk with
  | 0, _ => rfl
  | 1, _ => rfl
  | 2, _ => rfl
  | 3, _ => rfl
  | 4, _ => rfl
theorem oFs_get (g : Nat → Int32) {k : Nat} (hk : k < 5) : (oFs g)[k]? = some (.int (g k)) := by
  match k, hk with
  | 0, _ => rfl
  | 1, _ => rfl
  | 2, _ => rfl
  | 3, _ => rfl
  | 4, _ => rfl
theorem hFs_set (b : Nat) (g : Nat → Int32) (x : Int32) {k : Nat} (hk4 : 4 ≤ k) (hk : k < 12) : (hFs b g).set k (.int x) = hFs b (upd g k x) := by
  match k, hk with
  | 0, _ => exact absurd hk4 (by decide)
  | 1, _ => exact absurd hk4 (by decide)
  | 2, _ => exact absurd hk4 (by decide)
  | 3, _ => exact absurd hk4 (by decide)
  | 4, _ => rfl
  | 5, _ => rfl
  | 6, _ => rfl
  | 7, _ => rfl
  | 8, _ => rfl
  | 9, _ => rfl
  | 10, _ => rfl
  | 11, _ => rfl
theorem hPicP.setC {M M' : mM} {b : Nat} {κ : hK} {π : Nat → Nat} (h : hPicP M b κ π) {i k : Nat} {x : Int32} (hi : i < 16) (hk1 : 1 ≤ k) (hk : k < 13) (hs : M' (b + 5 + i) = some (.inr (0, (cFs (κ 0 i)).set k (.int x)))) (hq : ∀ q, q ≠ b + 5 + i → M' q = M q) : hPicP M' b (kU κ 0 i k x) π := by
  obtain ⟨h1, h2, h3, h4, h5, h6, h7, h8, h9⟩ := h
  refine ⟨(hq _ (by omega)).trans (by rw [kU_a (by decide)]; exact h1), h2.kept (hq _ (by omega)), h3.kept (hq _ (by omega)), by rw [kU_a (by decide)]; exact h4.kept (hq _ (by omega)), fun j hj => ?_, fun j hj => ⟨(hq _ (by omega)).trans (by rw [kU_a (by decide)]; exact (h6 j hj).1), by rw [kU_a (by decide)]; exact (h6 j hj).2⟩, h7, h8.kept (hq _ (by omega)), fun j hj => (hq _ (by omega)).trans (by rw [kU_a (by decide)]; exact h9 j hj)⟩
  by_cases hji : j = i
  · rw [hji]
    exact ⟨by rw [hs, kU_u, cFs_set _ _ hk], by rw [kU_n (by omega)]; exact (h5 i hi).2⟩
  · rw [kU_i hji]
    exact ⟨(hq _ (by omega)).trans (h5 j hj).1, (h5 j hj).2⟩
theorem hPicP.setV {M M' : mM} {b : Nat} {κ : hK} {π : Nat → Nat} (h : hPicP M b κ π) {i k : Nat} {x : Int32} (hi : i < 4) (hk1 : 1 ≤ k) (hk : k < 9) (hs : M' (b + 21 + i) = some (.inr (5, (vFs (κ 1 i)).set k (.int x)))) (hq : ∀ q, q ≠ b + 21 + i → M' q = M q) : hPicP M' b (kU κ 1 i k x) π := by
  obtain ⟨h1, h2, h3, h4, h5, h6, h7, h8, h9⟩ := h
  refine ⟨(hq _ (by omega)).trans (by rw [kU_a (by decide)]; exact h1), h2.kept (hq _ (by omega)), h3.kept (hq _ (by omega)), by rw [kU_a (by decide)]; exact h4.kept (hq _ (by omega)), fun j hj => ⟨(hq _ (by omega)).trans (by rw [kU_a (by decide)]; exact (h5 j hj).1), by rw [kU_a (by decide)]; exact (h5 j hj).2⟩, fun j hj => ?_, h7, h8.kept (hq _ (by omega)), fun j hj => (hq _ (by omega)).trans (by rw [kU_a (by decide)]; exact h9 j hj)⟩
  by_cases hji : j = i
  · rw [hji]
    exact ⟨by rw [hs, kU_u, vFs_set _ _ hk], by rw [kU_n (by omega)]; exact (h6 i hi).2⟩
  · rw [kU_i hji]
    exact ⟨(hq _ (by omega)).trans (h6 j hj).1, (h6 j hj).2⟩
theorem hPicP.setO {M M' : mM} {b : Nat} {κ : hK} {π : Nat → Nat} (h : hPicP M b κ π) {i k : Nat} {x : Int32} (hi : i < 10) (hk : k < 5) (hs : M' (b + 25 + π i) = some (.inr (3, (oFs (κ 2 i)).set k (.int x)))) (hq : ∀ q, q ≠ b + 25 + π i → M' q = M q) : hPicP M' b (kU κ 2 i k x) π := by
  obtain ⟨h1, h2, h3, h4, h5, h6, h7, h8, h9⟩ := h
  have hp := h7.1 i hi
  refine ⟨(hq _ (by omega)).trans (by rw [kU_a (by decide)]; exact h1), h2.kept (hq _ (by omega)), h3.kept (hq _ (by omega)), by rw [kU_a (by decide)]; exact h4.kept (hq _ (by omega)), fun j hj => ⟨(hq _ (by omega)).trans (by rw [kU_a (by decide)]; exact (h5 j hj).1), by rw [kU_a (by decide)]; exact (h5 j hj).2⟩, fun j hj => ⟨(hq _ (by omega)).trans (by rw [kU_a (by decide)]; exact (h6 j hj).1), by rw [kU_a (by decide)]; exact (h6 j hj).2⟩, h7, h8.kept (hq _ (by omega)), fun j hj => ?_⟩
  by_cases hji : j = i
  · rw [hji, hs, kU_u, oFs_set _ _ hk]
  · rw [kU_i hji]
    exact (hq _ (fun z => hji (h7.2 j hj i hi (by omega)))).trans (h9 j hj)
theorem hPicP.setS {M M' : mM} {b : Nat} {κ : hK} {π : Nat → Nat} (h : hPicP M b κ π) {k : Nat} {x : Int32} (hk4 : 4 ≤ k) (hk : k < 12) (hs : M' b = some (.inr (1, (hFs b (κ 4 0)).set k (.int x)))) (hq : ∀ q, q ≠ b → M' q = M q) : hPicP M' b (kU κ 4 0 k x) π := by
  obtain ⟨h1, h2, h3, h4, h5, h6, h7, h8, h9⟩ := h
  exact ⟨by rw [hs, kU_u, hFs_set _ _ _ hk4 hk], h2.kept (hq _ (by omega)), h3.kept (hq _ (by omega)), by rw [kU_a (by decide)]; exact h4.kept (hq _ (by omega)), fun j hj => ⟨(hq _ (by omega)).trans (by rw [kU_a (by decide)]; exact (h5 j hj).1), by rw [kU_a (by decide)]; exact (h5 j hj).2⟩, fun j hj => ⟨(hq _ (by omega)).trans (by rw [kU_a (by decide)]; exact (h6 j hj).1), by rw [kU_a (by decide)]; exact (h6 j hj).2⟩, h7, h8.kept (hq _ (by omega)), fun j hj => (hq _ (by omega)).trans (by rw [kU_a (by decide)]; exact h9 j hj)⟩
theorem hPicP.setT {M M' : mM} {b : Nat} {κ : hK} {π : Nat → Nat} (h : hPicP M b κ π) {k : Nat} {x : Int32} (hs : zArr M' (b + 4) 3 (upd (κ 3 0) k x)) (hq : ∀ q, q ≠ b + 4 → M' q = M q) : hPicP M' b (kU κ 3 0 k x) π := by
  obtain ⟨h1, h2, h3, h4, h5, h6, h7, h8, h9⟩ := h
  exact ⟨(hq _ (by omega)).trans (by rw [kU_a (by decide)]; exact h1), h2.kept (hq _ (by omega)), h3.kept (hq _ (by omega)), by rw [kU_u]; exact hs, fun j hj => ⟨(hq _ (by omega)).trans (by rw [kU_a (by decide)]; exact (h5 j hj).1), by rw [kU_a (by decide)]; exact (h5 j hj).2⟩, fun j hj => ⟨(hq _ (by omega)).trans (by rw [kU_a (by decide)]; exact (h6 j hj).1), by rw [kU_a (by decide)]; exact (h6 j hj).2⟩, h7, h8.kept (hq _ (by omega)), fun j hj => (hq _ (by omega)).trans (by rw [kU_a (by decide)]; exact h9 j hj)⟩

