theorem zX.st2 {s : Nat → Int32} {n nv i u : Nat} (h : zX s n nv) (hi : i < n) (hu : u < nv) (h2 : gd s i 6 = 2) (h7 : gd s i 7 = nI u) : vd s u 2 = 1 := h.2.2.2 i hi h2 u hu h7
theorem zX.make {s : Nat → Int32} {n nv no : Nat} {p b w f t o : Int32} (h : zX s n nv) (hw : zWF s n nv no) (hn : n < 16) (h2 : zW 1 99 w) : zX (zMk s n p b w f t o) (n + 1) nv := sorry
theorem zX.split {s : Nat → Int32} {n nv no c : Nat} {b w : Int32} (h : zX s n nv) (hw : zWF s n nv no) (hc : c < n) (hn : n < 16) (h0 : gd s c 6 = 0) (hb : zW 1 (gd s c 1 - 1) b) (h2 : zW 1 (gd s c 2 - 1) w) : zX (zSp s n c b w) (n + 1) nv := sorry
theorem zX.join {s : Nat → Int32} {n nv no l g : Nat} (h : zX s n nv) (hw : zWF s n nv no) (hl : l < n) (hg : g < n) (hne : l ≠ g) (l0 : gd s l 6 = 0) (g0 : gd s g 6 = 0) : zX (zJn s l g) n nv := sorry
theorem zX.veh {s : Nat → Int32} {n nv no : Nat} {r b : Int32} (h : zX s n nv) (hw : zWF s n nv no) (hnv : nv < 4) (hr : zW 1 200 r) (hb : zW 1 200 b) : zX (zVe s nv r b) n (nv + 1) := sorry
theorem zX.load {s : Nat → Int32} {n nv no c u : Nat} (h : zX s n nv) (hw : zWF s n nv no) (hc : c < n) (hu : u < nv) (hcan : zCan s n c u) : zX (zLoads s c u) n nv := sorry
theorem zX.unload {s : Nat → Int32} {n nv no c : Nat} (h : zX s n nv) (hw : zWF s n nv no) (hc : c < n) (h1 : gd s c 6 = 1) : zX (pg s c 6 0) n nv := sorry
theorem zX.dep {s : Nat → Int32} {n nv no v : Nat} (h : zX s n nv) (hw : zWF s n nv no) (hv : v < nv) (h0 : vd s v 2 = 0) : zX (zDe s n v n) n nv := sorry
theorem zX.hour {s : Nat → Int32} {n nv no : Nat} (h : zX s n nv) (hw : zWF s n nv no) (ht : s 5 < 9000) : zX (zHour s n nv).1 n nv := sorry
theorem zX.off {s : Nat → Int32} {n nv no : Nat} {p b w pr x : Int32} (h : zX s n nv) (hw : zWF s n nv no) (ho : no < 10) : zX (zOf s no p b w pr x) n nv := sorry
theorem zX.set {s : Nat → Int32} {n nv no k : Nat} {x : Int32} (h : zX s n nv) (hw : zWF s n nv no) (hk : k < 3) : zX (upd s k x) n nv := sorry
theorem zX.fill {s : Nat → Int32} {n nv no v : Nat} {p r : Int32} (h : zX s n nv) (hw : zWF s n nv no) (hv : v < nv) : ∀ (f : Nat) (L t : Int32), zX (zFill n v p r f s L t).1 n nv := sorry
theorem zX.room {s : Nat → Int32} {n nv no u : Nat} (h : zX s n nv) (hw : zWF s n nv no) (hu : u < nv) : zLd s n (nI u) 1 ≤ vd s u 0 ∧ zLd s n (nI u) 2 ≤ vd s u 1 := sorry
