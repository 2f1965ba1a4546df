theorem h_ldC {K : zK} {yn : MethodName} {cc : ByteArray} {nL : Nat} {ret : Option FieldType} {d mc ms : Nat} {B : zB} {Q : State → Prop} {pc : Nat} {L : List (Option Value)} {rest : List Value} {M : mM} {k n : Nat} {b : Nat} {κ : hK} {π : Nat → Nat} {j : Nat} {i : Int32} (ok : zOk K yn cc nL ret d mc ms B) (hd : decode cc pc = .ok (.aaload, 1)) (hm : hPicP M b κ π) (hi : i = nI j) (hj : j < 16) (kk : zV nL B Q (pc + 1) L (.ref (b + 5 + j) :: rest) M k n) : zV nL B Q pc L (.int i :: .ref (b + 1) :: rest) M k n := by
  subst hi
  obtain ⟨f, h1, h2⟩ := hm.2.1
  refine z_aaload ok hd h1 rfl (vp_in_nI hj (by omega)) ?_
  rw [nI_clamp (by omega), h2 j hj]
  exact kk
theorem h_ldV {K : zK} {yn : MethodName} {cc : ByteArray} {nL : Nat} {ret : Option FieldType} {d mc ms : Nat} {B : zB} {Q : State → Prop} {pc : Nat} {L : List (Option Value)} {rest : List Value} {M : mM} {k n : Nat} {b : Nat} {κ : hK} {π : Nat → Nat} {j : Nat} {i : Int32} (ok : zOk K yn cc nL ret d mc ms B) (hd : decode cc pc = .ok (.aaload, 1)) (hm : hPicP M b κ π) (hi : i = nI j) (hj : j < 4) (kk : zV nL B Q (pc + 1) L (.ref (b + 21 + j) :: rest) M k n) : zV nL B Q pc L (.int i :: .ref (b + 2) :: rest) M k n := by
  subst hi
  obtain ⟨f, h1, h2⟩ := hm.2.2.1
  refine z_aaload ok hd h1 rfl (vp_in_nI hj (by omega)) ?_
  rw [nI_clamp (by omega), h2 j hj]
  exact kk
theorem h_ldO {K : zK} {yn : MethodName} {cc : ByteArray} {nL : Nat} {ret : Option FieldType} {d mc ms : Nat} {B : zB} {Q : State → Prop} {pc : Nat} {L : List (Option Value)} {rest : List Value} {M : mM} {k n : Nat} {b : Nat} {κ : hK} {π : Nat → Nat} {j : Nat} {i : Int32} (ok : zOk K yn cc nL ret d mc ms B) (hd : decode cc pc = .ok (.aaload, 1)) (hm : hPicP M b κ π) (hi : i = nI j) (hj : j < 10) (kk : zV nL B Q (pc + 1) L (.ref (b + 25 + π j) :: rest) M k n) : zV nL B Q pc L (.int i :: .ref (b + 3) :: rest) M k n := by
  subst hi
  obtain ⟨f, h1, h2⟩ := hm.2.2.2.2.2.2.2.1
  refine z_aaload ok hd h1 rfl (vp_in_nI hj (by omega)) ?_
  rw [nI_clamp (by omega), h2 j hj]
  exact kk
theorem h_ldT {K : zK} {yn : MethodName} {cc : ByteArray} {nL : Nat} {ret : Option FieldType} {d mc ms : Nat} {B : zB} {Q : State → Prop} {pc : Nat} {L : List (Option Value)} {rest : List Value} {M : mM} {k n : Nat} {b : Nat} {κ : hK} {π : Nat → Nat} {j : Nat} {i : Int32} (ok : zOk K yn cc nL ret d mc ms B) (hd : decode cc pc = .ok (.iaload, 1)) (hm : hPicP M b κ π) (hi : i = nI j) (hj : j < 3) (kk : zV nL B Q (pc + 1) L (.int (κ 3 0 j) :: rest) M k n) : zV nL B Q pc L (.int i :: .ref (b + 4) :: rest) M k n := z_ald ok hd hm.2.2.2.1 hi hj (by omega) kk
theorem h_stT {K : zK} {yn : MethodName} {cc : ByteArray} {nL : Nat} {ret : Option FieldType} {d mc ms : Nat} {B : zB} {Q : State → Prop} {pc : Nat} {L : List (Option Value)} {rest : List Value} {M : mM} {k n : Nat} {b : Nat} {κ : hK} {π : Nat → Nat} {j : Nat} {i x : Int32} (ok : zOk K yn cc nL ret d mc ms B) (hd : decode cc pc = .ok (.iastore, 1)) (hm : hPicP M b κ π) (hi : i = nI j) (hj : j < 3) (kk : ∀ M1 : mM, hPicP M1 b (kU κ 3 0 j x) π → zFr M M1 b 35 → zV nL B Q (pc + 1) L rest M1 k n) : zV nL B Q pc L (.int x :: .int i :: .ref (b + 4) :: rest) M k n := z_ast ok hd hm.2.2.2.1 hi hj (by omega) (fun M1 h1 h2 => kk M1 (hm.setT h1 h2) (fun q hq => h2 q (by omega)))
theorem h_putC1 {K : zK} {yn : MethodName} {cc : ByteArray} {nL : Nat} {ret : Option FieldType} {d mc ms : Nat} {B : zB} {Q : State → Prop} {pc : Nat} {L : List (Option Value)} {rest : List Value} {M : mM} {k n : Nat} {b : Nat} {κ : hK} {π : Nat → Nat} {j ix : Nat} {x : Int32} (ok : zOk K yn cc nL ret d mc ms B) (hd : decode cc pc = .ok (.putfield ix, 3)) (hw : Cond.fieldLink yn.cls ix "FreightSplits$Consignment" "place" "I" ∈ zgw) (hm : hPicP M b κ π) (hj : j < 16) (kk : ∀ M1 : mM, hPicP M1 b (kU κ 0 j 1 x) π → zFr M M1 b 35 → zV nL B Q (pc + 3) L rest M1 k n) : zV nL B Q pc L (.int x :: .ref (b + 5 + j) :: rest) M k n := by
  refine z_putf (T := TX0) (N := 13) (ty := .int) ok hd zin_X0 tyX0 tyX0_ok nmX0 rfl 1 (by decide) hw rfl (hm.2.2.2.2.1 j hj).1 (by decide +kernel) rfl rfl (Nat.le_of_ble_eq_true rfl) ?_
  exact kk _ (hm.setC hj (by decide) (by decide) mU_s (fun _ hq => mU_n hq)) (zFr.up (by omega) (by omega))
theorem h_putC2 {K : zK} {yn : MethodName} {cc : ByteArray} {nL : Nat} {ret : Option FieldType} {d mc ms : Nat} {B : zB} {Q : State → Prop} {pc : Nat} {L : List (Option Value)} {rest : List Value} {M : mM} {k n : Nat} {b : Nat} {κ : hK} {π : Nat → Nat} {j ix : Nat} {x : Int32} (ok : zOk K yn cc nL ret d mc ms B) (hd : decode cc pc = .ok (.putfield ix, 3)) (hw : Cond.fieldLink yn.cls ix "FreightSplits$Consignment" "size" "I" ∈ zgw) (hm : hPicP M b κ π) (hj : j < 16) (kk : ∀ M1 : mM, hPicP M1 b (kU κ 0 j 2 x) π → zFr M M1 b 35 → zV nL B Q (pc + 3) L rest M1 k n) : zV nL B Q pc L (.int x :: .ref (b + 5 + j) :: rest) M k n := by
  refine z_putf (T := TX0) (N := 13) (ty := .int) ok hd zin_X0 tyX0 tyX0_ok nmX0 rfl 2 (by decide) hw rfl (hm.2.2.2.2.1 j hj).1 (by decide +kernel) rfl rfl (Nat.le_of_ble_eq_true rfl) ?_
  exact kk _ (hm.setC hj (by decide) (by decide) mU_s (fun _ hq => mU_n hq)) (zFr.up (by omega) (by omega))
theorem h_putC3 {K : zK} {yn : MethodName} {cc : ByteArray} {nL : Nat} {ret : Option FieldType} {d mc ms : Nat} {B : zB} {Q : State → Prop} {pc : Nat} {L : List (Option Value)} {rest : List Value} {M : mM} {k n : Nat} {b : Nat} {κ : hK} {π : Nat → Nat} {j ix : Nat} {x : Int32} (ok : zOk K yn cc nL ret d mc ms B) (hd : decode cc pc = .ok (.putfield ix, 3)) (hw : Cond.fieldLink yn.cls ix "FreightSplits$Consignment" "weight" "I" ∈ zgw) (hm : hPicP M b κ π) (hj : j < 16) (kk : ∀ M1 : mM, hPicP M1 b (kU κ 0 j 3 x) π → zFr M M1 b 35 → zV nL B Q (pc + 3) L rest M1 k n) : zV nL B Q pc L (.int x :: .ref (b + 5 + j) :: rest) M k n := by
  refine z_putf (T := TX0) (N := 13) (ty := .int) ok hd zin_X0 tyX0 tyX0_ok nmX0 rfl 3 (by decide) hw rfl (hm.2.2.2.2.1 j hj).1 (by decide +kernel) rfl rfl (Nat.le_of_ble_eq_true rfl) ?_
  exact kk _ (hm.setC hj (by decide) (by decide) mU_s (fun _ hq => mU_n hq)) (zFr.up (by omega) (by omega))
theorem h_putC4 {K : zK} {yn : MethodName} {cc : ByteArray} {nL : Nat} {ret : Option FieldType} {d mc ms : Nat} {B : zB} {Q : State → Prop} {pc : Nat} {L : List (Option Value)} {rest : List Value} {M : mM} {k n : Nat} {b : Nat} {κ : hK} {π : Nat → Nat} {j ix : Nat} {x : Int32} (ok : zOk K yn cc nL ret d mc ms B) (hd : decode cc pc = .ok (.putfield ix, 3)) (hw : Cond.fieldLink yn.cls ix "FreightSplits$Consignment" "from" "I" ∈ zgw) (hm : hPicP M b κ π) (hj : j < 16) (kk : ∀ M1 : mM, hPicP M1 b (kU κ 0 j 4 x) π → zFr M M1 b 35 → zV nL B Q (pc + 3) L rest M1 k n) : zV nL B Q pc L (.int x :: .ref (b + 5 + j) :: rest) M k n := by
  refine z_putf (T := TX0) (N := 13) (ty := .int) ok hd zin_X0 tyX0 tyX0_ok nmX0 rfl 4 (by decide) hw rfl (hm.2.2.2.2.1 j hj).1 (by decide +kernel) rfl rfl (Nat.le_of_ble_eq_true rfl) ?_
  exact kk _ (hm.setC hj (by decide) (by decide) mU_s (fun _ hq => mU_n hq)) (zFr.up (by omega) (by omega))
theorem h_putC5 {K : zK} {yn : MethodName} {cc : ByteArray} {nL : Nat} {ret : Option FieldType} {d mc ms : Nat} {B : zB} {Q : State → Prop} {pc : Nat} {L : List (Option Value)} {rest : List Value} {M : mM} {k n : Nat} {b : Nat} {κ : hK} {π : Nat → Nat} {j ix : Nat} {x : Int32} (ok : zOk K yn cc nL ret d mc ms B) (hd : decode cc pc = .ok (.putfield ix, 3)) (hw : Cond.fieldLink yn.cls ix "FreightSplits$Consignment" "to" "I" ∈ zgw) (hm : hPicP M b κ π) (hj : j < 16) (kk : ∀ M1 : mM, hPicP M1 b (kU κ 0 j 5 x) π → zFr M M1 b 35 → zV nL B Q (pc + 3) L rest M1 k n) : zV nL B Q pc L (.int x :: .ref (b + 5 + j) :: rest) M k n := by
  refine z_putf (T := TX0) (N := 13) (ty := .int) ok hd zin_X0 tyX0 tyX0_ok nmX0 rfl 5 (by decide) hw rfl (hm.2.2.2.2.1 j hj).1 (by decide +kernel) rfl rfl (Nat.le_of_ble_eq_true rfl) ?_
  exact kk _ (hm.setC hj (by decide) (by decide) mU_s (fun _ hq => mU_n hq)) (zFr.up (by omega) (by omega))
theorem h_putC6 {K : zK} {yn : MethodName} {cc : ByteArray} {nL : Nat} {ret : Option FieldType} {d mc ms : Nat} {B : zB} {Q : State → Prop} {pc : Nat} {L : List (Option Value)} {rest : List Value} {M : mM} {k n : Nat} {b : Nat} {κ : hK} {π : Nat → Nat} {j ix : Nat} {x : Int32} (ok : zOk K yn cc nL ret d mc ms B) (hd : decode cc pc = .ok (.putfield ix, 3)) (hw : Cond.fieldLink yn.cls ix "FreightSplits$Consignment" "worth" "I" ∈ zgw) (hm : hPicP M b κ π) (hj : j < 16) (kk : ∀ M1 : mM, hPicP M1 b (kU κ 0 j 6 x) π → zFr M M1 b 35 → zV nL B Q (pc + 3) L rest M1 k n) : zV nL B Q pc L (.int x :: .ref (b + 5 + j) :: rest) M k n := by
  refine z_putf (T := TX0) (N := 13) (ty := .int) ok hd zin_X0 tyX0 tyX0_ok nmX0 rfl 6 (by decide) hw rfl (hm.2.2.2.2.1 j hj).1 (by decide +kernel) rfl rfl (Nat.le_of_ble_eq_true rfl) ?_
  exact kk _ (hm.setC hj (by decide) (by decide) mU_s (fun _ hq => mU_n hq)) (zFr.up (by omega) (by omega))
theorem h_putC7 {K : zK} {yn : MethodName} {cc : ByteArray} {nL : Nat} {ret : Option FieldType} {d mc ms : Nat} {B : zB} {Q : State → Prop} {pc : Nat} {L : List (Option Value)} {rest : List Value} {M : mM} {k n : Nat} {b : Nat} {κ : hK} {π : Nat → Nat} {j ix : Nat} {x : Int32} (ok : zOk K yn cc nL ret d mc ms B) (hd : decode cc pc = .ok (.putfield ix, 3)) (hw : Cond.fieldLink yn.cls ix "FreightSplits$Consignment" "state" "I" ∈ zgw) (hm : hPicP M b κ π) (hj : j < 16) (kk : ∀ M1 : mM, hPicP M1 b (kU κ 0 j 7 x) π → zFr M M1 b 35 → zV nL B Q (pc + 3) L rest M1 k n) : zV nL B Q pc L (.int x :: .ref (b + 5 + j) :: rest) M k n := by
  refine z_putf (T := TX0) (N := 13) (ty := .int) ok hd zin_X0 tyX0 tyX0_ok nmX0 rfl 7 (by decide) hw rfl (hm.2.2.2.2.1 j hj).1 (by decide +kernel) rfl rfl (Nat.le_of_ble_eq_true rfl) ?_
  exact kk _ (hm.setC hj (by decide) (by decide) mU_s (fun _ hq => mU_n hq)) (zFr.up (by omega) (by omega))
theorem h_putC8 {K : zK} {yn : MethodName} {cc : ByteArray} {nL : Nat} {ret : Option FieldType} {d mc ms : Nat} {B : zB} {Q : State → Prop} {pc : Nat} {L : List (Option Value)} {rest : List Value} {M : mM} {k n : Nat} {b : Nat} {κ : hK} {π : Nat → Nat} {j ix : Nat} {x : Int32} (ok : zOk K yn cc nL ret d mc ms B) (hd : decode cc pc = .ok (.putfield ix, 3)) (hw : Cond.fieldLink yn.cls ix "FreightSplits$Consignment" "since" "I" ∈ zgw) (hm : hPicP M b κ π) (hj : j < 16) (kk : ∀ M1 : mM, hPicP M1 b (kU κ 0 j 8 x) π → zFr M M1 b 35 → zV nL B Q (pc + 3) L rest M1 k n) : zV nL B Q pc L (.int x :: .ref (b + 5 + j) :: rest) M k n := by
  refine z_putf (T := TX0) (N := 13) (ty := .int) ok hd zin_X0 tyX0 tyX0_ok nmX0 rfl 8 (by decide) hw rfl (hm.2.2.2.2.1 j hj).1 (by decide +kernel) rfl rfl (Nat.le_of_ble_eq_true rfl) ?_
  exact kk _ (hm.setC hj (by decide) (by decide) mU_s (fun _ hq => mU_n hq)) (zFr.up (by omega) (by omega))
theorem h_putC9 {K : zK} {yn : MethodName} {cc : ByteArray} {nL : Nat} {ret : Option FieldType} {d mc ms : Nat} {B : zB} {Q : State → Prop} {pc : Nat} {L : List (Option Value)} {rest : List Value} {M : mM} {k n : Nat} {b : Nat} {κ : hK} {π : Nat → Nat} {j ix : Nat} {x : Int32} (ok : zOk K yn cc nL ret d mc ms B) (hd : decode cc pc = .ok (.putfield ix, 3)) (hw : Cond.fieldLink yn.cls ix "FreightSplits$Consignment" "whole" "I" ∈ zgw) (hm : hPicP M b κ π) (hj : j < 16) (kk : ∀ M1 : mM, hPicP M1 b (kU κ 0 j 9 x) π → zFr M M1 b 35 → zV nL B Q (pc + 3) L rest M1 k n) : zV nL B Q pc L (.int x :: .ref (b + 5 + j) :: rest) M k n := by
  refine z_putf (T := TX0) (N := 13) (ty := .int) ok hd zin_X0 tyX0 tyX0_ok nmX0 rfl 9 (by decide) hw rfl (hm.2.2.2.2.1 j hj).1 (by decide +kernel) rfl rfl (Nat.le_of_ble_eq_true rfl) ?_
  exact kk _ (hm.setC hj (by decide) (by decide) mU_s (fun _ hq => mU_n hq)) (zFr.up (by omega) (by omega))
theorem h_putC10 {K : zK} {yn : MethodName} {cc : ByteArray} {nL : Nat} {ret : Option FieldType} {d mc ms : Nat} {B : zB} {Q : State → Prop} {pc : Nat} {L : List (Option Value)} {rest : List Value} {M : mM} {k n : Nat} {b : Nat} {κ : hK} {π : Nat → Nat} {j ix : Nat} {x : Int32} (ok : zOk K yn cc nL ret d mc ms B) (hd : decode cc pc = .ok (.putfield ix, 3)) (hw : Cond.fieldLink yn.cls ix "FreightSplits$Consignment" "vehicle" "I" ∈ zgw) (hm : hPicP M b κ π) (hj : j < 16) (kk : ∀ M1 : mM, hPicP M1 b (kU κ 0 j 10 x) π → zFr M M1 b 35 → zV nL B Q (pc + 3) L rest M1 k n) : zV nL B Q pc L (.int x :: .ref (b + 5 + j) :: rest) M k n := by
  refine z_putf (T := TX0) (N := 13) (ty := .int) ok hd zin_X0 tyX0 tyX0_ok nmX0 rfl 10 (by decide) hw rfl (hm.2.2.2.2.1 j hj).1 (by decide +kernel) rfl rfl (Nat.le_of_ble_eq_true rfl) ?_
  exact kk _ (hm.setC hj (by decide) (by decide) mU_s (fun _ hq => mU_n hq)) (zFr.up (by omega) (by omega))
theorem h_putC11 {K : zK} {yn : MethodName} {cc : ByteArray} {nL : Nat} {ret : Option FieldType} {d mc ms : Nat} {B : zB} {Q : State → Prop} {pc : Nat} {L : List (Option Value)} {rest : List Value} {M : mM} {k n : Nat} {b : Nat} {κ : hK} {π : Nat → Nat} {j ix : Nat} {x : Int32} (ok : zOk K yn cc nL ret d mc ms B) (hd : decode cc pc = .ok (.putfield ix, 3)) (hw : Cond.fieldLink yn.cls ix "FreightSplits$Consignment" "departed" "I" ∈ zgw) (hm : hPicP M b κ π) (hj : j < 16) (kk : ∀ M1 : mM, hPicP M1 b (kU κ 0 j 11 x) π → zFr M M1 b 35 → zV nL B Q (pc + 3) L rest M1 k n) : zV nL B Q pc L (.int x :: .ref (b + 5 + j) :: rest) M k n := by
  refine z_putf (T := TX0) (N := 13) (ty := .int) ok hd zin_X0 tyX0 tyX0_ok nmX0 rfl 11 (by decide) hw rfl (hm.2.2.2.2.1 j hj).1 (by decide +kernel) rfl rfl (Nat.le_of_ble_eq_true rfl) ?_
  exact kk _ (hm.setC hj (by decide) (by decide) mU_s (fun _ hq => mU_n hq)) (zFr.up (by omega) (by omega))
theorem h_putC12 {K : zK} {yn : MethodName} {cc : ByteArray} {nL : Nat} {ret : Option FieldType} {d mc ms : Nat} {B : zB} {Q : State → Prop} {pc : Nat} {L : List (Option Value)} {rest : List Value} {M : mM} {k n : Nat} {b : Nat} {κ : hK} {π : Nat → Nat} {j ix : Nat} {x : Int32} (ok : zOk K yn cc nL ret d mc ms B) (hd : decode cc pc = .ok (.putfield ix, 3)) (hw : Cond.fieldLink yn.cls ix "FreightSplits$Consignment" "delivered" "I" ∈ zgw) (hm : hPicP M b κ π) (hj : j < 16) (kk : ∀ M1 : mM, hPicP M1 b (kU κ 0 j 12 x) π → zFr M M1 b 35 → zV nL B Q (pc + 3) L rest M1 k n) : zV nL B Q pc L (.int x :: .ref (b + 5 + j) :: rest) M k n := by
  refine z_putf (T := TX0) (N := 13) (ty := .int) ok hd zin_X0 tyX0 tyX0_ok nmX0 rfl 12 (by decide) hw rfl (hm.2.2.2.2.1 j hj).1 (by decide +kernel) rfl rfl (Nat.le_of_ble_eq_true rfl) ?_
  exact kk _ (hm.setC hj (by decide) (by decide) mU_s (fun _ hq => mU_n hq)) (zFr.up (by omega) (by omega))
theorem h_putV1 {K : zK} {yn : MethodName} {cc : ByteArray} {nL : Nat} {ret : Option FieldType} {d mc ms : Nat} {B : zB} {Q : State → Prop} {pc : Nat} {L : List (Option Value)} {rest : List Value} {M : mM} {k n : Nat} {b : Nat} {κ : hK} {π : Nat → Nat} {j ix : Nat} {x : Int32} (ok : zOk K yn cc nL ret d mc ms B) (hd : decode cc pc = .ok (.putfield ix, 3)) (hw : Cond.fieldLink yn.cls ix "FreightSplits$Vehicle" "room" "I" ∈ zgw) (hm : hPicP M b κ π) (hj : j < 4) (kk : ∀ M1 : mM, hPicP M1 b (kU κ 1 j 1 x) π → zFr M M1 b 35 → zV nL B Q (pc + 3) L rest M1 k n) : zV nL B Q pc L (.int x :: .ref (b + 21 + j) :: rest) M k n := by
  refine z_putf (T := TX5) (N := 9) (ty := .int) ok hd zin_X5 tyX5 tyX5_ok nmX5 rfl 1 (by decide) hw rfl (hm.2.2.2.2.2.1 j hj).1 (by decide +kernel) rfl rfl (Nat.le_of_ble_eq_true rfl) ?_
  exact kk _ (hm.setV hj (by decide) (by decide) mU_s (fun _ hq => mU_n hq)) (zFr.up (by omega) (by omega))
theorem h_putV2 {K : zK} {yn : MethodName} {cc : ByteArray} {nL : Nat} {ret : Option FieldType} {d mc ms : Nat} {B : zB} {Q : State → Prop} {pc : Nat} {L : List (Option Value)} {rest : List Value} {M : mM} {k n : Nat} {b : Nat} {κ : hK} {π : Nat → Nat} {j ix : Nat} {x : Int32} (ok : zOk K yn cc nL ret d mc ms B) (hd : decode cc pc = .ok (.putfield ix, 3)) (hw : Cond.fieldLink yn.cls ix "FreightSplits$Vehicle" "bound" "I" ∈ zgw) (hm : hPicP M b κ π) (hj : j < 4) (kk : ∀ M1 : mM, hPicP M1 b (kU κ 1 j 2 x) π → zFr M M1 b 35 → zV nL B Q (pc + 3) L rest M1 k n) : zV nL B Q pc L (.int x :: .ref (b + 21 + j) :: rest) M k n := by
  refine z_putf (T := TX5) (N := 9) (ty := .int) ok hd zin_X5 tyX5 tyX5_ok nmX5 rfl 2 (by decide) hw rfl (hm.2.2.2.2.2.1 j hj).1 (by decide +kernel) rfl rfl (Nat.le_of_ble_eq_true rfl) ?_
  exact kk _ (hm.setV hj (by decide) (by decide) mU_s (fun _ hq => mU_n hq)) (zFr.up (by omega) (by omega))
theorem h_putV3 {K : zK} {yn : MethodName} {cc : ByteArray} {nL : Nat} {ret : Option FieldType} {d mc ms : Nat} {B : zB} {Q : State → Prop} {pc : Nat} {L : List (Option Value)} {rest : List Value} {M : mM} {k n : Nat} {b : Nat} {κ : hK} {π : Nat → Nat} {j ix : Nat} {x : Int32} (ok : zOk K yn cc nL ret d mc ms B) (hd : decode cc pc = .ok (.putfield ix, 3)) (hw : Cond.fieldLink yn.cls ix "FreightSplits$Vehicle" "state" "I" ∈ zgw) (hm : hPicP M b κ π) (hj : j < 4) (kk : ∀ M1 : mM, hPicP M1 b (kU κ 1 j 3 x) π → zFr M M1 b 35 → zV nL B Q (pc + 3) L rest M1 k n) : zV nL B Q pc L (.int x :: .ref (b + 21 + j) :: rest) M k n := by
  refine z_putf (T := TX5) (N := 9) (ty := .int) ok hd zin_X5 tyX5 tyX5_ok nmX5 rfl 3 (by decide) hw rfl (hm.2.2.2.2.2.1 j hj).1 (by decide +kernel) rfl rfl (Nat.le_of_ble_eq_true rfl) ?_
  exact kk _ (hm.setV hj (by decide) (by decide) mU_s (fun _ hq => mU_n hq)) (zFr.up (by omega) (by omega))
theorem h_putV4 {K : zK} {yn : MethodName} {cc : ByteArray} {nL : Nat} {ret : Option FieldType} {d mc ms : Nat} {B : zB} {Q : State → Prop} {pc : Nat} {L : List (Option Value)} {rest : List Value} {M : mM} {k n : Nat} {b : Nat} {κ : hK} {π : Nat → Nat} {j ix : Nat} {x : Int32} (ok : zOk K yn cc nL ret d mc ms B) (hd : decode cc pc = .ok (.putfield ix, 3)) (hw : Cond.fieldLink yn.cls ix "FreightSplits$Vehicle" "place" "I" ∈ zgw) (hm : hPicP M b κ π) (hj : j < 4) (kk : ∀ M1 : mM, hPicP M1 b (kU κ 1 j 4 x) π → zFr M M1 b 35 → zV nL B Q (pc + 3) L rest M1 k n) : zV nL B Q pc L (.int x :: .ref (b + 21 + j) :: rest) M k n := by
  refine z_putf (T := TX5) (N := 9) (ty := .int) ok hd zin_X5 tyX5 tyX5_ok nmX5 rfl 4 (by decide) hw rfl (hm.2.2.2.2.2.1 j hj).1 (by decide +kernel) rfl rfl (Nat.le_of_ble_eq_true rfl) ?_
  exact kk _ (hm.setV hj (by decide) (by decide) mU_s (fun _ hq => mU_n hq)) (zFr.up (by omega) (by omega))
theorem h_putV5 {K : zK} {yn : MethodName} {cc : ByteArray} {nL : Nat} {ret : Option FieldType} {d mc ms : Nat} {B : zB} {Q : State → Prop} {pc : Nat} {L : List (Option Value)} {rest : List Value} {M : mM} {k n : Nat} {b : Nat} {κ : hK} {π : Nat → Nat} {j ix : Nat} {x : Int32} (ok : zOk K yn cc nL ret d mc ms B) (hd : decode cc pc = .ok (.putfield ix, 3)) (hw : Cond.fieldLink yn.cls ix "FreightSplits$Vehicle" "way" "I" ∈ zgw) (hm : hPicP M b κ π) (hj : j < 4) (kk : ∀ M1 : mM, hPicP M1 b (kU κ 1 j 5 x) π → zFr M M1 b 35 → zV nL B Q (pc + 3) L rest M1 k n) : zV nL B Q pc L (.int x :: .ref (b + 21 + j) :: rest) M k n := by
  refine z_putf (T := TX5) (N := 9) (ty := .int) ok hd zin_X5 tyX5 tyX5_ok nmX5 rfl 5 (by decide) hw rfl (hm.2.2.2.2.2.1 j hj).1 (by decide +kernel) rfl rfl (Nat.le_of_ble_eq_true rfl) ?_
  exact kk _ (hm.setV hj (by decide) (by decide) mU_s (fun _ hq => mU_n hq)) (zFr.up (by omega) (by omega))
theorem h_putV6 {K : zK} {yn : MethodName} {cc : ByteArray} {nL : Nat} {ret : Option FieldType} {d mc ms : Nat} {B : zB} {Q : State → Prop} {pc : Nat} {L : List (Option Value)} {rest : List Value} {M : mM} {k n : Nat} {b : Nat} {κ : hK} {π : Nat → Nat} {j ix : Nat} {x : Int32} (ok : zOk K yn cc nL ret d mc ms B) (hd : decode cc pc = .ok (.putfield ix, 3)) (hw : Cond.fieldLink yn.cls ix "FreightSplits$Vehicle" "hour" "I" ∈ zgw) (hm : hPicP M b κ π) (hj : j < 4) (kk : ∀ M1 : mM, hPicP M1 b (kU κ 1 j 6 x) π → zFr M M1 b 35 → zV nL B Q (pc + 3) L rest M1 k n) : zV nL B Q pc L (.int x :: .ref (b + 21 + j) :: rest) M k n := by
  refine z_putf (T := TX5) (N := 9) (ty := .int) ok hd zin_X5 tyX5 tyX5_ok nmX5 rfl 6 (by decide) hw rfl (hm.2.2.2.2.2.1 j hj).1 (by decide +kernel) rfl rfl (Nat.le_of_ble_eq_true rfl) ?_
  exact kk _ (hm.setV hj (by decide) (by decide) mU_s (fun _ hq => mU_n hq)) (zFr.up (by omega) (by omega))
theorem h_putV7 {K : zK} {yn : MethodName} {cc : ByteArray} {nL : Nat} {ret : Option FieldType} {d mc ms : Nat} {B : zB} {Q : State → Prop} {pc : Nat} {L : List (Option Value)} {rest : List Value} {M : mM} {k n : Nat} {b : Nat} {κ : hK} {π : Nat → Nat} {j ix : Nat} {x : Int32} (ok : zOk K yn cc nL ret d mc ms B) (hd : decode cc pc = .ok (.putfield ix, 3)) (hw : Cond.fieldLink yn.cls ix "FreightSplits$Vehicle" "brings" "I" ∈ zgw) (hm : hPicP M b κ π) (hj : j < 4) (kk : ∀ M1 : mM, hPicP M1 b (kU κ 1 j 7 x) π → zFr M M1 b 35 → zV nL B Q (pc + 3) L rest M1 k n) : zV nL B Q pc L (.int x :: .ref (b + 21 + j) :: rest) M k n := by
  refine z_putf (T := TX5) (N := 9) (ty := .int) ok hd zin_X5 tyX5 tyX5_ok nmX5 rfl 7 (by decide) hw rfl (hm.2.2.2.2.2.1 j hj).1 (by decide +kernel) rfl rfl (Nat.le_of_ble_eq_true rfl) ?_
  exact kk _ (hm.setV hj (by decide) (by decide) mU_s (fun _ hq => mU_n hq)) (zFr.up (by omega) (by omega))
theorem h_putV8 {K : zK} {yn : MethodName} {cc : ByteArray} {nL : Nat} {ret : Option FieldType} {d mc ms : Nat} {B : zB} {Q : State → Prop} {pc : Nat} {L : List (Option Value)} {rest : List Value} {M : mM} {k n : Nat} {b : Nat} {κ : hK} {π : Nat → Nat} {j ix : Nat} {x : Int32} (ok : zOk K yn cc nL ret d mc ms B) (hd : decode cc pc = .ok (.putfield ix, 3)) (hw : Cond.fieldLink yn.cls ix "FreightSplits$Vehicle" "trips" "I" ∈ zgw) (hm : hPicP M b κ π) (hj : j < 4) (kk : ∀ M1 : mM, hPicP M1 b (kU κ 1 j 8 x) π → zFr M M1 b 35 → zV nL B Q (pc + 3) L rest M1 k n) : zV nL B Q pc L (.int x :: .ref (b + 21 + j) :: rest) M k n := by
  refine z_putf (T := TX5) (N := 9) (ty := .int) ok hd zin_X5 tyX5 tyX5_ok nmX5 rfl 8 (by decide) hw rfl (hm.2.2.2.2.2.1 j hj).1 (by decide +kernel) rfl rfl (Nat.le_of_ble_eq_true rfl) ?_
  exact kk _ (hm.setV hj (by decide) (by decide) mU_s (fun _ hq => mU_n hq)) (zFr.up (by omega) (by omega))
theorem h_putO0 {K : zK} {yn : MethodName} {cc : ByteArray} {nL : Nat} {ret : Option FieldType} {d mc ms : Nat} {B : zB} {Q : State → Prop} {pc : Nat} {L : List (Option Value)} {rest : List Value} {M : mM} {k n : Nat} {b : Nat} {κ : hK} {π : Nat → Nat} {j ix : Nat} {x : Int32} (ok : zOk K yn cc nL ret d mc ms B) (hd : decode cc pc = .ok (.putfield ix, 3)) (hw : Cond.fieldLink yn.cls ix "FreightSplits$Offer" "place" "I" ∈ zgw) (hm : hPicP M b κ π) (hj : j < 10) (kk : ∀ M1 : mM, hPicP M1 b (kU κ 2 j 0 x) π → zFr M M1 b 35 → zV nL B Q (pc + 3) L rest M1 k n) : zV nL B Q pc L (.int x :: .ref (b + 25 + π j) :: rest) M k n := by
  refine z_putf (T := TX3) (N := 5) (ty := .int) ok hd zin_X3 tyX3 tyX3_ok nmX3 rfl 0 (by decide) hw rfl (hm.2.2.2.2.2.2.2.2 j hj) (by decide +kernel) rfl rfl (Nat.le_of_ble_eq_true rfl) ?_
  exact kk _ (hm.setO hj (by decide) mU_s (fun _ hq => mU_n hq)) (zFr.up (by have := hm.2.2.2.2.2.2.1.1 j hj; omega) (by have := hm.2.2.2.2.2.2.1.1 j hj; omega))
theorem h_putO1 {K : zK} {yn : MethodName} {cc : ByteArray} {nL : Nat} {ret : Option FieldType} {d mc ms : Nat} {B : zB} {Q : State → Prop} {pc : Nat} {L : List (Option Value)} {rest : List Value} {M : mM} {k n : Nat} {b : Nat} {κ : hK} {π : Nat → Nat} {j ix : Nat} {x : Int32} (ok : zOk K yn cc nL ret d mc ms B) (hd : decode cc pc = .ok (.putfield ix, 3)) (hw : Cond.fieldLink yn.cls ix "FreightSplits$Offer" "size" "I" ∈ zgw) (hm : hPicP M b κ π) (hj : j < 10) (kk : ∀ M1 : mM, hPicP M1 b (kU κ 2 j 1 x) π → zFr M M1 b 35 → zV nL B Q (pc + 3) L rest M1 k n) : zV nL B Q pc L (.int x :: .ref (b + 25 + π j) :: rest) M k n := by
  refine z_putf (T := TX3) (N := 5) (ty := .int) ok hd zin_X3 tyX3 tyX3_ok nmX3 rfl 1 (by decide) hw rfl (hm.2.2.2.2.2.2.2.2 j hj) (by decide +kernel) rfl rfl (Nat.le_of_ble_eq_true rfl) ?_
  exact kk _ (hm.setO hj (by decide) mU_s (fun _ hq => mU_n hq)) (zFr.up (by have := hm.2.2.2.2.2.2.1.1 j hj; omega) (by have := hm.2.2.2.2.2.2.1.1 j hj; omega))
theorem h_putO2 {K : zK} {yn : MethodName} {cc : ByteArray} {nL : Nat} {ret : Option FieldType} {d mc ms : Nat} {B : zB} {Q : State → Prop} {pc : Nat} {L : List (Option Value)} {rest : List Value} {M : mM} {k n : Nat} {b : Nat} {κ : hK} {π : Nat → Nat} {j ix : Nat} {x : Int32} (ok : zOk K yn cc nL ret d mc ms B) (hd : decode cc pc = .ok (.putfield ix, 3)) (hw : Cond.fieldLink yn.cls ix "FreightSplits$Offer" "weight" "I" ∈ zgw) (hm : hPicP M b κ π) (hj : j < 10) (kk : ∀ M1 : mM, hPicP M1 b (kU κ 2 j 2 x) π → zFr M M1 b 35 → zV nL B Q (pc + 3) L rest M1 k n) : zV nL B Q pc L (.int x :: .ref (b + 25 + π j) :: rest) M k n := by
  refine z_putf (T := TX3) (N := 5) (ty := .int) ok hd zin_X3 tyX3 tyX3_ok nmX3 rfl 2 (by decide) hw rfl (hm.2.2.2.2.2.2.2.2 j hj) (by decide +kernel) rfl rfl (Nat.le_of_ble_eq_true rfl) ?_
  exact kk _ (hm.setO hj (by decide) mU_s (fun _ hq => mU_n hq)) (zFr.up (by have := hm.2.2.2.2.2.2.1.1 j hj; omega) (by have := hm.2.2.2.2.2.2.1.1 j hj; omega))
theorem h_putO3 {K : zK} {yn : MethodName} {cc : ByteArray} {nL : Nat} {ret : Option FieldType} {d mc ms : Nat} {B : zB} {Q : State → Prop} {pc : Nat} {L : List (Option Value)} {rest : List Value} {M : mM} {k n : Nat} {b : Nat} {κ : hK} {π : Nat → Nat} {j ix : Nat} {x : Int32} (ok : zOk K yn cc nL ret d mc ms B) (hd : decode cc pc = .ok (.putfield ix, 3)) (hw : Cond.fieldLink yn.cls ix "FreightSplits$Offer" "price" "I" ∈ zgw) (hm : hPicP M b κ π) (hj : j < 10) (kk : ∀ M1 : mM, hPicP M1 b (kU κ 2 j 3 x) π → zFr M M1 b 35 → zV nL B Q (pc + 3) L rest M1 k n) : zV nL B Q pc L (.int x :: .ref (b + 25 + π j) :: rest) M k n := by
  refine z_putf (T := TX3) (N := 5) (ty := .int) ok hd zin_X3 tyX3 tyX3_ok nmX3 rfl 3 (by decide) hw rfl (hm.2.2.2.2.2.2.2.2 j hj) (by decide +kernel) rfl rfl (Nat.le_of_ble_eq_true rfl) ?_
  exact kk _ (hm.setO hj (by decide) mU_s (fun _ hq => mU_n hq)) (zFr.up (by have := hm.2.2.2.2.2.2.1.1 j hj; omega) (by have := hm.2.2.2.2.2.2.1.1 j hj; omega))
theorem h_putO4 {K : zK} {yn : MethodName} {cc : ByteArray} {nL : Nat} {ret : Option FieldType} {d mc ms : Nat} {B : zB} {Q : State → Prop} {pc : Nat} {L : List (Option Value)} {rest : List Value} {M : mM} {k n : Nat} {b : Nat} {κ : hK} {π : Nat → Nat} {j ix : Nat} {x : Int32} (ok : zOk K yn cc nL ret d mc ms B) (hd : decode cc pc = .ok (.putfield ix, 3)) (hw : Cond.fieldLink yn.cls ix "FreightSplits$Offer" "until" "I" ∈ zgw) (hm : hPicP M b κ π) (hj : j < 10) (kk : ∀ M1 : mM, hPicP M1 b (kU κ 2 j 4 x) π → zFr M M1 b 35 → zV nL B Q (pc + 3) L rest M1 k n) : zV nL B Q pc L (.int x :: .ref (b + 25 + π j) :: rest) M k n := by
  refine z_putf (T := TX3) (N := 5) (ty := .int) ok hd zin_X3 tyX3 tyX3_ok nmX3 rfl 4 (by decide) hw rfl (hm.2.2.2.2.2.2.2.2 j hj) (by decide +kernel) rfl rfl (Nat.le_of_ble_eq_true rfl) ?_
  exact kk _ (hm.setO hj (by decide) mU_s (fun _ hq => mU_n hq)) (zFr.up (by have := hm.2.2.2.2.2.2.1.1 j hj; omega) (by have := hm.2.2.2.2.2.2.1.1 j hj; omega))
theorem h_putH4 {K : zK} {yn : MethodName} {cc : ByteArray} {nL : Nat} {ret : Option FieldType} {d mc ms : Nat} {B : zB} {Q : State → Prop} {pc : Nat} {L : List (Option Value)} {rest : List Value} {M : mM} {k n : Nat} {b : Nat} {κ : hK} {π : Nat → Nat} {ix : Nat} {x : Int32} (ok : zOk K yn cc nL ret d mc ms B) (hd : decode cc pc = .ok (.putfield ix, 3)) (hw : Cond.fieldLink yn.cls ix "FreightSplits$Hall" "made" "I" ∈ zgw) (hm : hPicP M b κ π) (kk : ∀ M1 : mM, hPicP M1 b (kU κ 4 0 4 x) π → zFr M M1 b 35 → zV nL B Q (pc + 3) L rest M1 k n) : zV nL B Q pc L (.int x :: .ref b :: rest) M k n := by
  refine z_putf (T := TX1) (N := 12) (ty := .int) ok hd zin_X1 tyX1 tyX1_ok nmX1 rfl 4 (by decide) hw rfl hm.1 (by decide +kernel) rfl rfl (Nat.le_of_ble_eq_true rfl) ?_
  exact kk _ (hm.setS (by decide) (by decide) mU_s (fun _ hq => mU_n hq)) (zFr.up (by omega) (by omega))
theorem h_putH5 {K : zK} {yn : MethodName} {cc : ByteArray} {nL : Nat} {ret : Option FieldType} {d mc ms : Nat} {B : zB} {Q : State → Prop} {pc : Nat} {L : List (Option Value)} {rest : List Value} {M : mM} {k n : Nat} {b : Nat} {κ : hK} {π : Nat → Nat} {ix : Nat} {x : Int32} (ok : zOk K yn cc nL ret d mc ms B) (hd : decode cc pc = .ok (.putfield ix, 3)) (hw : Cond.fieldLink yn.cls ix "FreightSplits$Hall" "vehicleCount" "I" ∈ zgw) (hm : hPicP M b κ π) (kk : ∀ M1 : mM, hPicP M1 b (kU κ 4 0 5 x) π → zFr M M1 b 35 → zV nL B Q (pc + 3) L rest M1 k n) : zV nL B Q pc L (.int x :: .ref b :: rest) M k n := by
  refine z_putf (T := TX1) (N := 12) (ty := .int) ok hd zin_X1 tyX1 tyX1_ok nmX1 rfl 5 (by decide) hw rfl hm.1 (by decide +kernel) rfl rfl (Nat.le_of_ble_eq_true rfl) ?_
  exact kk _ (hm.setS (by decide) (by decide) mU_s (fun _ hq => mU_n hq)) (zFr.up (by omega) (by omega))
theorem h_putH6 {K : zK} {yn : MethodName} {cc : ByteArray} {nL : Nat} {ret : Option FieldType} {d mc ms : Nat} {B : zB} {Q : State → Prop} {pc : Nat} {L : List (Option Value)} {rest : List Value} {M : mM} {k n : Nat} {b : Nat} {κ : hK} {π : Nat → Nat} {ix : Nat} {x : Int32} (ok : zOk K yn cc nL ret d mc ms B) (hd : decode cc pc = .ok (.putfield ix, 3)) (hw : Cond.fieldLink yn.cls ix "FreightSplits$Hall" "offerCount" "I" ∈ zgw) (hm : hPicP M b κ π) (kk : ∀ M1 : mM, hPicP M1 b (kU κ 4 0 6 x) π → zFr M M1 b 35 → zV nL B Q (pc + 3) L rest M1 k n) : zV nL B Q pc L (.int x :: .ref b :: rest) M k n := by
  refine z_putf (T := TX1) (N := 12) (ty := .int) ok hd zin_X1 tyX1 tyX1_ok nmX1 rfl 6 (by decide) hw rfl hm.1 (by decide +kernel) rfl rfl (Nat.le_of_ble_eq_true rfl) ?_
  exact kk _ (hm.setS (by decide) (by decide) mU_s (fun _ hq => mU_n hq)) (zFr.up (by omega) (by omega))
theorem h_putH7 {K : zK} {yn : MethodName} {cc : ByteArray} {nL : Nat} {ret : Option FieldType} {d mc ms : Nat} {B : zB} {Q : State → Prop} {pc : Nat} {L : List (Option Value)} {rest : List Value} {M : mM} {k n : Nat} {b : Nat} {κ : hK} {π : Nat → Nat} {ix : Nat} {x : Int32} (ok : zOk K yn cc nL ret d mc ms B) (hd : decode cc pc = .ok (.putfield ix, 3)) (hw : Cond.fieldLink yn.cls ix "FreightSplits$Hall" "time" "I" ∈ zgw) (hm : hPicP M b κ π) (kk : ∀ M1 : mM, hPicP M1 b (kU κ 4 0 7 x) π → zFr M M1 b 35 → zV nL B Q (pc + 3) L rest M1 k n) : zV nL B Q pc L (.int x :: .ref b :: rest) M k n := by
  refine z_putf (T := TX1) (N := 12) (ty := .int) ok hd zin_X1 tyX1 tyX1_ok nmX1 rfl 7 (by decide) hw rfl hm.1 (by decide +kernel) rfl rfl (Nat.le_of_ble_eq_true rfl) ?_
  exact kk _ (hm.setS (by decide) (by decide) mU_s (fun _ hq => mU_n hq)) (zFr.up (by omega) (by omega))
theorem h_putH8 {K : zK} {yn : MethodName} {cc : ByteArray} {nL : Nat} {ret : Option FieldType} {d mc ms : Nat} {B : zB} {Q : State → Prop} {pc : Nat} {L : List (Option Value)} {rest : List Value} {M : mM} {k n : Nat} {b : Nat} {κ : hK} {π : Nat → Nat} {ix : Nat} {x : Int32} (ok : zOk K yn cc nL ret d mc ms B) (hd : decode cc pc = .ok (.putfield ix, 3)) (hw : Cond.fieldLink yn.cls ix "FreightSplits$Hall" "earned" "I" ∈ zgw) (hm : hPicP M b κ π) (kk : ∀ M1 : mM, hPicP M1 b (kU κ 4 0 8 x) π → zFr M M1 b 35 → zV nL B Q (pc + 3) L rest M1 k n) : zV nL B Q pc L (.int x :: .ref b :: rest) M k n := by
  refine z_putf (T := TX1) (N := 12) (ty := .int) ok hd zin_X1 tyX1 tyX1_ok nmX1 rfl 8 (by decide) hw rfl hm.1 (by decide +kernel) rfl rfl (Nat.le_of_ble_eq_true rfl) ?_
  exact kk _ (hm.setS (by decide) (by decide) mU_s (fun _ hq => mU_n hq)) (zFr.up (by omega) (by omega))
theorem h_putH9 {K : zK} {yn : MethodName} {cc : ByteArray} {nL : Nat} {ret : Option FieldType} {d mc ms : Nat} {B : zB} {Q : State → Prop} {pc : Nat} {L : List (Option Value)} {rest : List Value} {M : mM} {k n : Nat} {b : Nat} {κ : hK} {π : Nat → Nat} {ix : Nat} {x : Int32} (ok : zOk K yn cc nL ret d mc ms B) (hd : decode cc pc = .ok (.putfield ix, 3)) (hw : Cond.fieldLink yn.cls ix "FreightSplits$Hall" "offersEarned" "I" ∈ zgw) (hm : hPicP M b κ π) (kk : ∀ M1 : mM, hPicP M1 b (kU κ 4 0 9 x) π → zFr M M1 b 35 → zV nL B Q (pc + 3) L rest M1 k n) : zV nL B Q pc L (.int x :: .ref b :: rest) M k n := by
  refine z_putf (T := TX1) (N := 12) (ty := .int) ok hd zin_X1 tyX1 tyX1_ok nmX1 rfl 9 (by decide) hw rfl hm.1 (by decide +kernel) rfl rfl (Nat.le_of_ble_eq_true rfl) ?_
  exact kk _ (hm.setS (by decide) (by decide) mU_s (fun _ hq => mU_n hq)) (zFr.up (by omega) (by omega))
theorem h_putH10 {K : zK} {yn : MethodName} {cc : ByteArray} {nL : Nat} {ret : Option FieldType} {d mc ms : Nat} {B : zB} {Q : State → Prop} {pc : Nat} {L : List (Option Value)} {rest : List Value} {M : mM} {k n : Nat} {b : Nat} {κ : hK} {π : Nat → Nat} {ix : Nat} {x : Int32} (ok : zOk K yn cc nL ret d mc ms B) (hd : decode cc pc = .ok (.putfield ix, 3)) (hw : Cond.fieldLink yn.cls ix "FreightSplits$Hall" "feesPaid" "I" ∈ zgw) (hm : hPicP M b κ π) (kk : ∀ M1 : mM, hPicP M1 b (kU κ 4 0 10 x) π → zFr M M1 b 35 → zV nL B Q (pc + 3) L rest M1 k n) : zV nL B Q pc L (.int x :: .ref b :: rest) M k n := by
  refine z_putf (T := TX1) (N := 12) (ty := .int) ok hd zin_X1 tyX1 tyX1_ok nmX1 rfl 10 (by decide) hw rfl hm.1 (by decide +kernel) rfl rfl (Nat.le_of_ble_eq_true rfl) ?_
  exact kk _ (hm.setS (by decide) (by decide) mU_s (fun _ hq => mU_n hq)) (zFr.up (by omega) (by omega))
theorem h_putH11 {K : zK} {yn : MethodName} {cc : ByteArray} {nL : Nat} {ret : Option FieldType} {d mc ms : Nat} {B : zB} {Q : State → Prop} {pc : Nat} {L : List (Option Value)} {rest : List Value} {M : mM} {k n : Nat} {b : Nat} {κ : hK} {π : Nat → Nat} {ix : Nat} {x : Int32} (ok : zOk K yn cc nL ret d mc ms B) (hd : decode cc pc = .ok (.putfield ix, 3)) (hw : Cond.fieldLink yn.cls ix "FreightSplits$Hall" "earlyPaid" "I" ∈ zgw) (hm : hPicP M b κ π) (kk : ∀ M1 : mM, hPicP M1 b (kU κ 4 0 11 x) π → zFr M M1 b 35 → zV nL B Q (pc + 3) L rest M1 k n) : zV nL B Q pc L (.int x :: .ref b :: rest) M k n := by
  refine z_putf (T := TX1) (N := 12) (ty := .int) ok hd zin_X1 tyX1 tyX1_ok nmX1 rfl 11 (by decide) hw rfl hm.1 (by decide +kernel) rfl rfl (Nat.le_of_ble_eq_true rfl) ?_
  exact kk _ (hm.setS (by decide) (by decide) mU_s (fun _ hq => mU_n hq)) (zFr.up (by omega) (by omega))
def zEn (x : Int32) : Int32 := if x = -1000004 then -1 else x
def kC (f g : Nat → Int32) : Prop := f 1 = g 0 ∧ f 2 = g 1 ∧ f 3 = g 2 ∧ f 4 = g 3 ∧ f 5 = g 4 ∧ f 6 = g 5 ∧ f 7 = g 6 ∧ f 8 = g 10 ∧ f 9 = g 9 ∧ f 10 = zEn (g 7) ∧ f 12 = zEn (g 8) ∧ (2 ≤ g 6 → g 6 ≤ 4 → f 11 = g 11)
def kV (f g : Nat → Int32) : Prop := f 1 = g 0 ∧ f 2 = g 1 ∧ f 3 = g 2 ∧ f 7 = g 6 ∧ f 8 = g 7 ∧ (¬ g 2 = 0 → f 4 = g 3 ∧ f 5 = g 5 ∧ f 6 = g 4)
def hRel (κ : hK) (s : Nat → Int32) (n nv no : Nat) : Prop := zN s n nv no ∧ (κ 4 0 4 = s 3 ∧ κ 4 0 5 = s 4 ∧ κ 4 0 6 = s 6 ∧ κ 4 0 7 = s 5 ∧ κ 4 0 8 = s 9 ∧ κ 4 0 9 = s 10 ∧ κ 4 0 10 = s 11 ∧ κ 4 0 11 = s 12) ∧ (∀ j, j < 3 → κ 3 0 j = s j) ∧ (∀ i, i < n → kC (κ 0 i) (gd s i)) ∧ (∀ i, i < nv → kV (κ 1 i) (vd s i)) ∧ ∀ i, i < no → ∀ k, k < 5 → κ 2 i k = od s i k
theorem hRel.made {κ : hK} {s : Nat → Int32} {n nv no : Nat} (h : hRel κ s n nv no) : κ 4 0 4 = nI n := h.2.1.1.trans h.1.1
theorem hRel.vehs {κ : hK} {s : Nat → Int32} {n nv no : Nat} (h : hRel κ s n nv no) : κ 4 0 5 = nI nv := h.2.1.2.1.trans h.1.2.2.1
theorem hRel.offs {κ : hK} {s : Nat → Int32} {n nv no : Nat} (h : hRel κ s n nv no) : κ 4 0 6 = nI no := h.2.1.2.2.1.trans h.1.2.2.2.2.1
theorem hRel.tm {κ : hK} {s : Nat → Int32} {n nv no : Nat} (h : hRel κ s n nv no) : κ 4 0 7 = s 5 := h.2.1.2.2.2.1
theorem b2_c {p q : Prop} [Decidable p] [Decidable q] (h : p ↔ q) : b2 p = b2 q := by
  by_cases hp : p
  · exact (b2_t hp).symm.trans (b2_t (h.mp hp))
  · exact (b2_f hp).symm.trans (b2_f (fun hq => hp (h.mpr hq)))
theorem zEn_nI {x : Int32} {v : Nat} (hv : v < 4) : zEn x = nI v ↔ x = nI v := by
  unfold zEn
  split
  · next h =>
    rw [h]
    constructor
    · intro h2
      exact absurd (congrArg Int32.toInt h2) (by rw [nI_toInt (by omega)]; show ¬ (-1 : Int) = _; omega)
    · intro h2
      exact absurd (congrArg Int32.toInt h2) (by rw [nI_toInt (by omega)]; show ¬ (-1000004 : Int) = _; omega)
  · exact Iff.rfl
theorem hRel.isIn {κ : hK} {s : Nat → Int32} {n nv no i v : Nat} (h : hRel κ s n nv no) (hi : i < n) (hv : v < 4) (h0 : κ 1 v 0 = nI v) : (κ 0 i 10 = κ 1 v 0 ∧ (κ 0 i 7 = 1 ∨ κ 0 i 7 = 2)) ↔ zInV s i (nI v) := by
  have hc := h.2.2.2.1 i hi
  rw [h0, hc.2.2.2.2.2.2.2.2.2.1, hc.2.2.2.2.2.2.1, zEn_nI hv]
  constructor
  · rintro ⟨h1, h2 | h2⟩ <;> rw [zInV, h2] <;> exact ⟨by decide, by decide, h1⟩
  · rintro ⟨h1, h2, h3⟩
    exact ⟨h3, by
      have h4 := Int32.le_iff_toInt_le.mp h2.1
      have h5 := Int32.le_iff_toInt_le.mp h2.2
      have e1 : (1 : Int32).toInt = 1 := rfl
      have e2 : (2 : Int32).toInt = 2 := rfl
      rw [e1] at h4
      rw [e2] at h5
      rcases (by omega : (gd s i 6).toInt = 1 ∨ (gd s i 6).toInt = 2) with h6 | h6
      · exact Or.inl (Int32.toInt_inj.mp (h6.trans e1.symm))
      · exact Or.inr (Int32.toInt_inj.mp (h6.trans e2.symm))⟩
set_option maxRecDepth 20000 in
set_option maxHeartbeats 4000000 in
theorem ct_X0_isIn {K : zK} {M : mM} {nx : Nat} {a v : Nat} {f g : Nat → Int32} (ha : M a = some (.inr (0, cFs f))) (hv : M v = some (.inr (5, vFs g))) : zCt K yX0_isIn cX0_isIn 2 zr_X0_isIn 0 [.ref a, .ref v] M nx 0 0 (zI (fun x M' => x = b2 (f 10 = g 0 ∧ (f 7 = 1 ∨ f 7 = 2)) ∧ M' = M)) := by
  refine z_enter [some (.ref a), some (.ref v)] (by decide +kernel) (Nat.le_of_ble_eq_true rfl) rfl (fun B ok hz => ?_)
  refine z_aload_n ok dX0_isIn_0 rfl ?_
  refine z_getf ok dX0_isIn_1 zin_X0 rfl 10 (by decide) zw_68 ha rfl ?_
  refine z_aload_n ok dX0_isIn_4 rfl ?_
  refine z_getf ok dX0_isIn_5 zin_X5 rfl 0 (by decide) zw_111 hv rfl ?_
  refine z_icmp_ne (tgt := 31) ok dX0_isIn_8 (by decide) (fun cz8 => ?_) (fun cz8 => ?_)
  · refine z_iconst (v := 0) ok dX0_isIn_31 (by decide) ?_
    exact z_iret ok dX0_isIn_32 rfl rfl rfl (Nat.zero_le _) ⟨by first | (exact b2_t (by grind)) | (exact b2_f (by grind)), rfl⟩
  · refine z_aload_n ok dX0_isIn_11 rfl ?_
    refine z_getf ok dX0_isIn_12 zin_X0 rfl 7 (by decide) zw_59 ha rfl ?_
    refine z_iconst (v := 1) ok dX0_isIn_15 (by decide) ?_
    refine z_icmp_eq (tgt := 27) ok dX0_isIn_16 (by decide) (fun cz16 => ?_) (fun cz16 => ?_)
    · refine z_iconst (v := 1) ok dX0_isIn_27 (by decide) ?_
      refine z_goto (tgt := 32) ok dX0_isIn_28 (by decide) ?_
      exact z_iret ok dX0_isIn_32 rfl rfl rfl (Nat.zero_le _) ⟨by first | (exact b2_t (by grind)) | (exact b2_f (by grind)), rfl⟩
    · refine z_aload_n ok dX0_isIn_19 rfl ?_
      refine z_getf ok dX0_isIn_20 zin_X0 rfl 7 (by decide) zw_59 ha rfl ?_
      refine z_iconst (v := 2) ok dX0_isIn_23 (by decide) ?_
      refine z_icmp_ne (tgt := 31) ok dX0_isIn_24 (by decide) (fun cz24 => ?_) (fun cz24 => ?_)
      · refine z_iconst (v := 0) ok dX0_isIn_31 (by decide) ?_
        exact z_iret ok dX0_isIn_32 rfl rfl rfl (Nat.zero_le _) ⟨by first | (exact b2_t (by grind)) | (exact b2_f (by grind)), rfl⟩
      · refine z_iconst (v := 1) ok dX0_isIn_27 (by decide) ?_
        refine z_goto (tgt := 32) ok dX0_isIn_28 (by decide) ?_
        exact z_iret ok dX0_isIn_32 rfl rfl rfl (Nat.zero_le _) ⟨by first | (exact b2_t (by grind)) | (exact b2_f (by grind)), rfl⟩

set_option maxRecDepth 20000 in
set_option maxHeartbeats 4000000 in
theorem ct_X0_isInHall {K : zK} {M : mM} {nx : Nat} {a : Nat} {f : Nat → Int32} (ha : M a = some (.inr (0, cFs f))) : zCt K yX0_isInHall cX0_isInHall 1 zr_X0_isInHall 0 [.ref a] M nx 0 0 (zI (fun x M' => x = b2 (f 7 = 0 ∨ f 7 = 1) ∧ M' = M)) := by
  refine z_enter [some (.ref a)] (by decide +kernel) (Nat.le_of_ble_eq_true rfl) rfl (fun B ok hz => ?_)
  refine z_aload_n ok dX0_isInHall_0 rfl ?_
  refine z_getf ok dX0_isInHall_1 zin_X0 rfl 7 (by decide) zw_59 ha rfl ?_
  refine z_if_eq (tgt := 15) ok dX0_isInHall_4 (by decide) (fun cz4 => ?_) (fun cz4 => ?_)
  · refine z_iconst (v := 1) ok dX0_isInHall_15 (by decide) ?_
    refine z_goto (tgt := 20) ok dX0_isInHall_16 (by decide) ?_
    exact z_iret ok dX0_isInHall_20 rfl rfl rfl (Nat.zero_le _) ⟨by first | (exact b2_t (by grind)) | (exact b2_f (by grind)), rfl⟩
  · refine z_aload_n ok dX0_isInHall_7 rfl ?_
    refine z_getf ok dX0_isInHall_8 zin_X0 rfl 7 (by decide) zw_59 ha rfl ?_
    refine z_iconst (v := 1) ok dX0_isInHall_11 (by decide) ?_
    refine z_icmp_ne (tgt := 19) ok dX0_isInHall_12 (by decide) (fun cz12 => ?_) (fun cz12 => ?_)
    · refine z_iconst (v := 0) ok dX0_isInHall_19 (by decide) ?_
      exact z_iret ok dX0_isInHall_20 rfl rfl rfl (Nat.zero_le _) ⟨by first | (exact b2_t (by grind)) | (exact b2_f (by grind)), rfl⟩
    · refine z_iconst (v := 1) ok dX0_isInHall_15 (by decide) ?_
      refine z_goto (tgt := 20) ok dX0_isInHall_16 (by decide) ?_
      exact z_iret ok dX0_isInHall_20 rfl rfl rfl (Nat.zero_le _) ⟨by first | (exact b2_t (by grind)) | (exact b2_f (by grind)), rfl⟩


