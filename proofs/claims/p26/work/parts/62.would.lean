theorem hRel.same {κ : hK} {s : Nat → Int32} {n nv no n' nv' no' : Nat} (h : hRel κ s n' nv' no') (hN : zN s n nv no) : hRel κ s n nv no := by
  have hN2ω := h.1
  have e1ω : n' = n := (nI_eq (a := n') (b := n) (by have := hN2ω.2.1; omega) (by have := hN.2.1; omega)).mp (hN2ω.1.symm.trans hN.1)
  have e2ω : nv' = nv := (nI_eq (a := nv') (b := nv) (by have := hN2ω.2.2.2.1; omega) (by have := hN.2.2.2.1; omega)).mp (hN2ω.2.2.1.symm.trans hN.2.2.1)
  have e3ω : no' = no := (nI_eq (a := no') (b := no) (by have := hN2ω.2.2.2.2.2; omega) (by have := hN.2.2.2.2.2; omega)).mp (hN2ω.2.2.2.2.1.symm.trans hN.2.2.2.2.1)
  subst e1ω e2ω e3ω
  exact h
