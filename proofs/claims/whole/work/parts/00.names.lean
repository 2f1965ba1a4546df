-- ===== PART A: goes FIRST, ahead of the names: the tables' words, and 'selects' of the private methods out of them =====
/-- a private method of a class that the tables say can be made, by its rows of tables_1 -/
def lw_okq (q : MethodName × Nat) : Prop := (q.1.cls ≠ "java/lang/invoke/MethodHandle" ∧ q.1.cls ≠ "java/lang/invoke/VarHandle") ∧ Cond.instantiable q.1.cls q.2 ∈ tables_1 ∧ Cond.privateMethod q.1 ∈ tables_1 ∧ Cond.instanceMethod q.1 ∈ tables_1
theorem lw_p0 : lw_okq (⟨"FreightSplits", "changed", "(I)I"⟩, 6) := ⟨⟨by decide +kernel, by decide +kernel⟩, List.mem_of_getElem? (i := 17) (by decide +kernel), List.mem_of_getElem? (i := 346) (by decide +kernel), List.mem_of_getElem? (i := 347) (by decide +kernel)⟩
theorem lw_p1 : lw_okq (⟨"FreightSplits", "placeOf", "(LFreightSplits$Vehicle;)I"⟩, 6) := ⟨⟨by decide +kernel, by decide +kernel⟩, List.mem_of_getElem? (i := 17) (by decide +kernel), List.mem_of_getElem? (i := 550) (by decide +kernel), List.mem_of_getElem? (i := 551) (by decide +kernel)⟩
theorem lw_p2 : lw_okq (⟨"FreightSplits", "settingCount", "(I)I"⟩, 6) := ⟨⟨by decide +kernel, by decide +kernel⟩, List.mem_of_getElem? (i := 17) (by decide +kernel), List.mem_of_getElem? (i := 571) (by decide +kernel), List.mem_of_getElem? (i := 572) (by decide +kernel)⟩
theorem lw_p3 : lw_okq (⟨"FreightSplits", "tryText", "()I"⟩, 6) := ⟨⟨by decide +kernel, by decide +kernel⟩, List.mem_of_getElem? (i := 17) (by decide +kernel), List.mem_of_getElem? (i := 621) (by decide +kernel), List.mem_of_getElem? (i := 622) (by decide +kernel)⟩
theorem lw_p4 : lw_okq (⟨"FreightSplits", "perform", "()I"⟩, 6) := ⟨⟨by decide +kernel, by decide +kernel⟩, List.mem_of_getElem? (i := 17) (by decide +kernel), List.mem_of_getElem? (i := 709) (by decide +kernel), List.mem_of_getElem? (i := 710) (by decide +kernel)⟩
theorem lw_p5 : lw_okq (⟨"FreightSplitsModel", "changes", "()V"⟩, 14) := ⟨⟨by decide +kernel, by decide +kernel⟩, List.mem_of_getElem? (i := 722) (by decide +kernel), List.mem_of_getElem? (i := 788) (by decide +kernel), List.mem_of_getElem? (i := 789) (by decide +kernel)⟩
theorem lw_p6 : lw_okq (⟨"FreightSplitsModel", "makes", "(IIIIII)I"⟩, 14) := ⟨⟨by decide +kernel, by decide +kernel⟩, List.mem_of_getElem? (i := 722) (by decide +kernel), List.mem_of_getElem? (i := 792) (by decide +kernel), List.mem_of_getElem? (i := 793) (by decide +kernel)⟩
theorem lw_p7 : lw_okq (⟨"FreightSplitsModel", "puts", "(III)V"⟩, 14) := ⟨⟨by decide +kernel, by decide +kernel⟩, List.mem_of_getElem? (i := 722) (by decide +kernel), List.mem_of_getElem? (i := 796) (by decide +kernel), List.mem_of_getElem? (i := 797) (by decide +kernel)⟩
theorem lw_p8 : lw_okq (⟨"FreightSplitsModel", "isGoods", "(I)Z"⟩, 14) := ⟨⟨by decide +kernel, by decide +kernel⟩, List.mem_of_getElem? (i := 722) (by decide +kernel), List.mem_of_getElem? (i := 805) (by decide +kernel), List.mem_of_getElem? (i := 806) (by decide +kernel)⟩
theorem lw_p9 : lw_okq (⟨"FreightSplitsModel", "of", "(II)I"⟩, 14) := ⟨⟨by decide +kernel, by decide +kernel⟩, List.mem_of_getElem? (i := 722) (by decide +kernel), List.mem_of_getElem? (i := 809) (by decide +kernel), List.mem_of_getElem? (i := 810) (by decide +kernel)⟩
theorem lw_p10 : lw_okq (⟨"FreightSplitsModel", "putsVehicle", "(III)V"⟩, 14) := ⟨⟨by decide +kernel, by decide +kernel⟩, List.mem_of_getElem? (i := 722) (by decide +kernel), List.mem_of_getElem? (i := 822) (by decide +kernel), List.mem_of_getElem? (i := 823) (by decide +kernel)⟩
theorem lw_p11 : lw_okq (⟨"FreightSplitsModel", "isVehicle", "(I)Z"⟩, 14) := ⟨⟨by decide +kernel, by decide +kernel⟩, List.mem_of_getElem? (i := 722) (by decide +kernel), List.mem_of_getElem? (i := 830) (by decide +kernel), List.mem_of_getElem? (i := 831) (by decide +kernel)⟩
theorem lw_p12 : lw_okq (⟨"FreightSplitsModel", "canLoad", "(II)Z"⟩, 14) := ⟨⟨by decide +kernel, by decide +kernel⟩, List.mem_of_getElem? (i := 722) (by decide +kernel), List.mem_of_getElem? (i := 834) (by decide +kernel), List.mem_of_getElem? (i := 835) (by decide +kernel)⟩
theorem lw_p13 : lw_okq (⟨"FreightSplitsModel", "ofVehicle", "(II)I"⟩, 14) := ⟨⟨by decide +kernel, by decide +kernel⟩, List.mem_of_getElem? (i := 722) (by decide +kernel), List.mem_of_getElem? (i := 838) (by decide +kernel), List.mem_of_getElem? (i := 839) (by decide +kernel)⟩
theorem lw_p14 : lw_okq (⟨"FreightSplitsModel", "goal", "(I)I"⟩, 14) := ⟨⟨by decide +kernel, by decide +kernel⟩, List.mem_of_getElem? (i := 722) (by decide +kernel), List.mem_of_getElem? (i := 842) (by decide +kernel), List.mem_of_getElem? (i := 843) (by decide +kernel)⟩
theorem lw_p15 : lw_okq (⟨"FreightSplitsModel", "isIn", "(II)Z"⟩, 14) := ⟨⟨by decide +kernel, by decide +kernel⟩, List.mem_of_getElem? (i := 722) (by decide +kernel), List.mem_of_getElem? (i := 846) (by decide +kernel), List.mem_of_getElem? (i := 847) (by decide +kernel)⟩
def lw_privs_1 : List (MethodName × Nat) := [(⟨"FreightSplits", "changed", "(I)I"⟩, 6), (⟨"FreightSplits", "placeOf", "(LFreightSplits$Vehicle;)I"⟩, 6), (⟨"FreightSplits", "settingCount", "(I)I"⟩, 6), (⟨"FreightSplits", "tryText", "()I"⟩, 6), (⟨"FreightSplits", "perform", "()I"⟩, 6), (⟨"FreightSplitsModel", "changes", "()V"⟩, 14), (⟨"FreightSplitsModel", "makes", "(IIIIII)I"⟩, 14), (⟨"FreightSplitsModel", "puts", "(III)V"⟩, 14), (⟨"FreightSplitsModel", "isGoods", "(I)Z"⟩, 14), (⟨"FreightSplitsModel", "of", "(II)I"⟩, 14), (⟨"FreightSplitsModel", "putsVehicle", "(III)V"⟩, 14), (⟨"FreightSplitsModel", "isVehicle", "(I)Z"⟩, 14), (⟨"FreightSplitsModel", "canLoad", "(II)Z"⟩, 14), (⟨"FreightSplitsModel", "ofVehicle", "(II)I"⟩, 14), (⟨"FreightSplitsModel", "goal", "(I)I"⟩, 14), (⟨"FreightSplitsModel", "isIn", "(II)Z"⟩, 14)]
theorem lw_r1 : ∀ q ∈ lw_privs_1, lw_okq q := List.forall_mem_cons.mpr ⟨lw_p0, List.forall_mem_cons.mpr ⟨lw_p1, List.forall_mem_cons.mpr ⟨lw_p2, List.forall_mem_cons.mpr ⟨lw_p3, List.forall_mem_cons.mpr ⟨lw_p4, List.forall_mem_cons.mpr ⟨lw_p5, List.forall_mem_cons.mpr ⟨lw_p6, List.forall_mem_cons.mpr ⟨lw_p7, List.forall_mem_cons.mpr ⟨lw_p8, List.forall_mem_cons.mpr ⟨lw_p9, List.forall_mem_cons.mpr ⟨lw_p10, List.forall_mem_cons.mpr ⟨lw_p11, List.forall_mem_cons.mpr ⟨lw_p12, List.forall_mem_cons.mpr ⟨lw_p13, List.forall_mem_cons.mpr ⟨lw_p14, List.forall_mem_cons.mpr ⟨lw_p15, fun _ h => absurd h List.not_mem_nil⟩⟩⟩⟩⟩⟩⟩⟩⟩⟩⟩⟩⟩⟩⟩⟩
theorem lw_p16 : lw_okq (⟨"FreightSplitsModel", "loaded", "(II)I"⟩, 14) := ⟨⟨by decide +kernel, by decide +kernel⟩, List.mem_of_getElem? (i := 722) (by decide +kernel), List.mem_of_getElem? (i := 850) (by decide +kernel), List.mem_of_getElem? (i := 851) (by decide +kernel)⟩
theorem lw_p17 : lw_okq (⟨"FreightSplitsModel", "loads", "(II)V"⟩, 14) := ⟨⟨by decide +kernel, by decide +kernel⟩, List.mem_of_getElem? (i := 722) (by decide +kernel), List.mem_of_getElem? (i := 854) (by decide +kernel), List.mem_of_getElem? (i := 855) (by decide +kernel)⟩
theorem lw_p18 : lw_okq (⟨"FreightSplitsModel", "fills", "(III)I"⟩, 14) := ⟨⟨by decide +kernel, by decide +kernel⟩, List.mem_of_getElem? (i := 722) (by decide +kernel), List.mem_of_getElem? (i := 866) (by decide +kernel), List.mem_of_getElem? (i := 867) (by decide +kernel)⟩
theorem lw_p19 : lw_okq (⟨"FreightSplitsModel", "isAhead", "(III)Z"⟩, 14) := ⟨⟨by decide +kernel, by decide +kernel⟩, List.mem_of_getElem? (i := 722) (by decide +kernel), List.mem_of_getElem? (i := 870) (by decide +kernel), List.mem_of_getElem? (i := 871) (by decide +kernel)⟩
theorem lw_p20 : lw_okq (⟨"FreightSplitsModel", "loadSet", "(I)I"⟩, 14) := ⟨⟨by decide +kernel, by decide +kernel⟩, List.mem_of_getElem? (i := 722) (by decide +kernel), List.mem_of_getElem? (i := 881) (by decide +kernel), List.mem_of_getElem? (i := 882) (by decide +kernel)⟩
theorem lw_p21 : lw_okq (⟨"FreightSplitsModel", "hour", "()I"⟩, 14) := ⟨⟨by decide +kernel, by decide +kernel⟩, List.mem_of_getElem? (i := 722) (by decide +kernel), List.mem_of_getElem? (i := 893) (by decide +kernel), List.mem_of_getElem? (i := 894) (by decide +kernel)⟩
theorem lw_p22 : lw_okq (⟨"FreightSplitsModel", "arrives", "(I)I"⟩, 14) := ⟨⟨by decide +kernel, by decide +kernel⟩, List.mem_of_getElem? (i := 722) (by decide +kernel), List.mem_of_getElem? (i := 897) (by decide +kernel), List.mem_of_getElem? (i := 898) (by decide +kernel)⟩
theorem lw_p23 : lw_okq (⟨"FreightSplitsModel", "takes", "(III)I"⟩, 14) := ⟨⟨by decide +kernel, by decide +kernel⟩, List.mem_of_getElem? (i := 722) (by decide +kernel), List.mem_of_getElem? (i := 901) (by decide +kernel), List.mem_of_getElem? (i := 902) (by decide +kernel)⟩
theorem lw_p24 : lw_okq (⟨"FreightSplitsModel", "ofOffer", "(II)I"⟩, 14) := ⟨⟨by decide +kernel, by decide +kernel⟩, List.mem_of_getElem? (i := 722) (by decide +kernel), List.mem_of_getElem? (i := 905) (by decide +kernel), List.mem_of_getElem? (i := 906) (by decide +kernel)⟩
theorem lw_p25 : lw_okq (⟨"FreightSplitsModel", "dropsOffer", "(I)V"⟩, 14) := ⟨⟨by decide +kernel, by decide +kernel⟩, List.mem_of_getElem? (i := 722) (by decide +kernel), List.mem_of_getElem? (i := 909) (by decide +kernel), List.mem_of_getElem? (i := 910) (by decide +kernel)⟩
theorem lw_p26 : lw_okq (⟨"FreightSplitsModel", "returns", "(I)V"⟩, 14) := ⟨⟨by decide +kernel, by decide +kernel⟩, List.mem_of_getElem? (i := 722) (by decide +kernel), List.mem_of_getElem? (i := 913) (by decide +kernel), List.mem_of_getElem? (i := 914) (by decide +kernel)⟩
theorem lw_p27 : lw_okq (⟨"FreightSplitsModel", "isHere", "(I)Z"⟩, 14) := ⟨⟨by decide +kernel, by decide +kernel⟩, List.mem_of_getElem? (i := 722) (by decide +kernel), List.mem_of_getElem? (i := 917) (by decide +kernel), List.mem_of_getElem? (i := 918) (by decide +kernel)⟩
theorem lw_p28 : lw_okq (⟨"FreightSplitsModel", "parts", "(I)I"⟩, 14) := ⟨⟨by decide +kernel, by decide +kernel⟩, List.mem_of_getElem? (i := 722) (by decide +kernel), List.mem_of_getElem? (i := 929) (by decide +kernel), List.mem_of_getElem? (i := 930) (by decide +kernel)⟩
theorem lw_p29 : lw_okq (⟨"FreightSplitsModel", "here", "()I"⟩, 14) := ⟨⟨by decide +kernel, by decide +kernel⟩, List.mem_of_getElem? (i := 722) (by decide +kernel), List.mem_of_getElem? (i := 945) (by decide +kernel), List.mem_of_getElem? (i := 946) (by decide +kernel)⟩
theorem lw_p30 : lw_okq (⟨"FreightSplitsModel", "plays", "()I"⟩, 14) := ⟨⟨by decide +kernel, by decide +kernel⟩, List.mem_of_getElem? (i := 722) (by decide +kernel), List.mem_of_getElem? (i := 981) (by decide +kernel), List.mem_of_getElem? (i := 982) (by decide +kernel)⟩
theorem lw_p31 : lw_okq (⟨"FreightSplitsModel", "reads", "()I"⟩, 14) := ⟨⟨by decide +kernel, by decide +kernel⟩, List.mem_of_getElem? (i := 722) (by decide +kernel), List.mem_of_getElem? (i := 985) (by decide +kernel), List.mem_of_getElem? (i := 986) (by decide +kernel)⟩
def lw_privs_2 : List (MethodName × Nat) := [(⟨"FreightSplitsModel", "loaded", "(II)I"⟩, 14), (⟨"FreightSplitsModel", "loads", "(II)V"⟩, 14), (⟨"FreightSplitsModel", "fills", "(III)I"⟩, 14), (⟨"FreightSplitsModel", "isAhead", "(III)Z"⟩, 14), (⟨"FreightSplitsModel", "loadSet", "(I)I"⟩, 14), (⟨"FreightSplitsModel", "hour", "()I"⟩, 14), (⟨"FreightSplitsModel", "arrives", "(I)I"⟩, 14), (⟨"FreightSplitsModel", "takes", "(III)I"⟩, 14), (⟨"FreightSplitsModel", "ofOffer", "(II)I"⟩, 14), (⟨"FreightSplitsModel", "dropsOffer", "(I)V"⟩, 14), (⟨"FreightSplitsModel", "returns", "(I)V"⟩, 14), (⟨"FreightSplitsModel", "isHere", "(I)Z"⟩, 14), (⟨"FreightSplitsModel", "parts", "(I)I"⟩, 14), (⟨"FreightSplitsModel", "here", "()I"⟩, 14), (⟨"FreightSplitsModel", "plays", "()I"⟩, 14), (⟨"FreightSplitsModel", "reads", "()I"⟩, 14)]
theorem lw_r2 : ∀ q ∈ lw_privs_2, lw_okq q := List.forall_mem_cons.mpr ⟨lw_p16, List.forall_mem_cons.mpr ⟨lw_p17, List.forall_mem_cons.mpr ⟨lw_p18, List.forall_mem_cons.mpr ⟨lw_p19, List.forall_mem_cons.mpr ⟨lw_p20, List.forall_mem_cons.mpr ⟨lw_p21, List.forall_mem_cons.mpr ⟨lw_p22, List.forall_mem_cons.mpr ⟨lw_p23, List.forall_mem_cons.mpr ⟨lw_p24, List.forall_mem_cons.mpr ⟨lw_p25, List.forall_mem_cons.mpr ⟨lw_p26, List.forall_mem_cons.mpr ⟨lw_p27, List.forall_mem_cons.mpr ⟨lw_p28, List.forall_mem_cons.mpr ⟨lw_p29, List.forall_mem_cons.mpr ⟨lw_p30, List.forall_mem_cons.mpr ⟨lw_p31, fun _ h => absurd h List.not_mem_nil⟩⟩⟩⟩⟩⟩⟩⟩⟩⟩⟩⟩⟩⟩⟩⟩
theorem lw_p32 : lw_okq (⟨"FreightSplitsModel", "word", "()I"⟩, 14) := ⟨⟨by decide +kernel, by decide +kernel⟩, List.mem_of_getElem? (i := 722) (by decide +kernel), List.mem_of_getElem? (i := 989) (by decide +kernel), List.mem_of_getElem? (i := 990) (by decide +kernel)⟩
theorem lw_p33 : lw_okq (⟨"FreightSplitsModel", "isAt", "(II)Z"⟩, 14) := ⟨⟨by decide +kernel, by decide +kernel⟩, List.mem_of_getElem? (i := 722) (by decide +kernel), List.mem_of_getElem? (i := 993) (by decide +kernel), List.mem_of_getElem? (i := 994) (by decide +kernel)⟩
theorem lw_p34 : lw_okq (⟨"FreightSplitsModel", "passes", "(I)Z"⟩, 14) := ⟨⟨by decide +kernel, by decide +kernel⟩, List.mem_of_getElem? (i := 722) (by decide +kernel), List.mem_of_getElem? (i := 998) (by decide +kernel), List.mem_of_getElem? (i := 999) (by decide +kernel)⟩
theorem lw_p35 : lw_okq (⟨"FreightSplitsModel", "number", "(I)Z"⟩, 14) := ⟨⟨by decide +kernel, by decide +kernel⟩, List.mem_of_getElem? (i := 722) (by decide +kernel), List.mem_of_getElem? (i := 1002) (by decide +kernel), List.mem_of_getElem? (i := 1003) (by decide +kernel)⟩
theorem lw_p36 : lw_okq (⟨"FreightSplitsModel", "calls", "(I)I"⟩, 14) := ⟨⟨by decide +kernel, by decide +kernel⟩, List.mem_of_getElem? (i := 722) (by decide +kernel), List.mem_of_getElem? (i := 1006) (by decide +kernel), List.mem_of_getElem? (i := 1007) (by decide +kernel)⟩
def lw_privs_3 : List (MethodName × Nat) := [(⟨"FreightSplitsModel", "word", "()I"⟩, 14), (⟨"FreightSplitsModel", "isAt", "(II)Z"⟩, 14), (⟨"FreightSplitsModel", "passes", "(I)Z"⟩, 14), (⟨"FreightSplitsModel", "number", "(I)Z"⟩, 14), (⟨"FreightSplitsModel", "calls", "(I)I"⟩, 14)]
theorem lw_r3 : ∀ q ∈ lw_privs_3, lw_okq q := List.forall_mem_cons.mpr ⟨lw_p32, List.forall_mem_cons.mpr ⟨lw_p33, List.forall_mem_cons.mpr ⟨lw_p34, List.forall_mem_cons.mpr ⟨lw_p35, List.forall_mem_cons.mpr ⟨lw_p36, fun _ h => absurd h List.not_mem_nil⟩⟩⟩⟩⟩
def lw_privs : List (MethodName × Nat) := lw_privs_1 ++ (lw_privs_2 ++ (lw_privs_3))
def lw_tbl : List Cond := k2_sels lw_privs ++ tables_1
theorem lw_privs_ok : ∀ q ∈ lw_privs, lw_okq q := by
  show ∀ q ∈ lw_privs_1 ++ (lw_privs_2 ++ (lw_privs_3)), lw_okq q
  exact List.forall_mem_append.mpr ⟨lw_r1, List.forall_mem_append.mpr ⟨lw_r2, lw_r3⟩⟩
/-! ===== BEGIN words of one list among another's, by their places ===== -/
theorem goodIn_r {big : List Cond} (ws : List Cond) (ps : List Nat) (hp : ws = ps.filterMap (fun i => big[i]?)) (h : ws.all goodWord = true) : GoodIn big ws := by
  intro w hw
  have h1 := List.all_eq_true.mp h w hw
  rw [hp] at hw
  obtain ⟨i, -, hi⟩ := List.mem_filterMap.mp hw
  have hm : w ∈ big := by first | exact List.mem_of_getElem? hi | exact List.getElem?_mem hi
  exact ⟨hm, good_of_word h1⟩
theorem goodIn_app {big a b : List Cond} (ha : GoodIn big a) (hb : GoodIn big b) : GoodIn big (a ++ b) := fun w h => (List.mem_append.mp h).elim (ha w) (hb w)
theorem goodIn_ca {big a b : List Cond} {c : Cond} (ha : GoodIn big (c :: a)) (hb : GoodIn big b) : GoodIn big (c :: (a ++ b)) := fun w h => (List.mem_cons.mp h).elim (fun e => ha w (List.mem_cons.mpr (Or.inl e))) (fun h => (List.mem_append.mp h).elim (fun h => ha w (List.mem_cons.mpr (Or.inr h))) (hb w))
theorem goodIn_sub {big ws : List Cond} (hm : ∀ w ∈ ws, w ∈ big) (h : ws.all goodWord = true) : GoodIn big ws := fun w hw => ⟨hm w hw, good_of_word (List.all_eq_true.mp h w hw)⟩
/-! ===== END ===== -/

/-! ===== BEGIN printed: names, fields, word lists, decode rows ===== -/
def RX0 : String := "FreightSplits$Consignment"
def TX0 : u_T := fun k => match k with
  | 0 => ("FreightSplits$Consignment", "number", "I", true)
  | 1 => ("FreightSplits$Consignment", "place", "I", false)
  | 2 => ("FreightSplits$Consignment", "size", "I", false)
  | 3 => ("FreightSplits$Consignment", "weight", "I", false)
  | 4 => ("FreightSplits$Consignment", "from", "I", false)
  | 5 => ("FreightSplits$Consignment", "to", "I", false)
  | 6 => ("FreightSplits$Consignment", "worth", "I", false)
  | 7 => ("FreightSplits$Consignment", "state", "I", false)
  | 8 => ("FreightSplits$Consignment", "since", "I", false)
  | 9 => ("FreightSplits$Consignment", "whole", "I", false)
  | 10 => ("FreightSplits$Consignment", "vehicle", "I", false)
  | 11 => ("FreightSplits$Consignment", "departed", "I", false)
  | _ => ("FreightSplits$Consignment", "delivered", "I", false)
def tyX0 : Nat → FieldType := fun k => match k with
  | 0 => .int
  | 1 => .int
  | 2 => .int
  | 3 => .int
  | 4 => .int
  | 5 => .int
  | 6 => .int
  | 7 => .int
  | 8 => .int
  | 9 => .int
  | 10 => .int
  | 11 => .int
  | _ => .int
abbrev wsX00 : List Cond := u_ws RX0 TX0 13
theorem nmX0 : ∀ a, a < 13 → ∀ b, b < 13 → a ≠ b → (TX0 a).2.1 ≠ (TX0 b).2.1 := by decide +kernel
theorem tyX0_ok : ∀ k, k < 13 → parseFieldDescriptor (TX0 k).2.2.1 = some (tyX0 k) := by decide +kernel
abbrev cX0_init : ByteArray := prog_2_method_1_code
def yX0_init : MethodName := ⟨RX0, "<init>", "(I)V"⟩
abbrev cX0_copyFrom : ByteArray := prog_2_method_2_code
def yX0_copyFrom : MethodName := ⟨RX0, "copyFrom", "(LFreightSplits$Consignment;)V"⟩
abbrev cX0_copyFreight : ByteArray := prog_2_method_3_code
def yX0_copyFreight : MethodName := ⟨RX0, "copyFreight", "(LFreightSplits$Consignment;)V"⟩
abbrev cX0_startInHall : ByteArray := prog_2_method_4_code
def yX0_startInHall : MethodName := ⟨RX0, "startInHall", "()V"⟩
abbrev cX0_isInHall : ByteArray := prog_2_method_5_code
def yX0_isInHall : MethodName := ⟨RX0, "isInHall", "()Z"⟩
abbrev cX0_isIn : ByteArray := prog_2_method_6_code
def yX0_isIn : MethodName := ⟨RX0, "isIn", "(LFreightSplits$Vehicle;)Z"⟩
abbrev cX0_comesAheadOf : ByteArray := prog_2_method_7_code
def yX0_comesAheadOf : MethodName := ⟨RX0, "comesAheadOf", "(LFreightSplits$Consignment;I)Z"⟩
def RX1 : String := "FreightSplits$Hall"
def TX1 : u_T := fun k => match k with
  | 0 => ("FreightSplits$Hall", "consignments", "[LFreightSplits$Consignment;", true)
  | 1 => ("FreightSplits$Hall", "vehicles", "[LFreightSplits$Vehicle;", true)
  | 2 => ("FreightSplits$Hall", "offers", "[LFreightSplits$Offer;", true)
  | 3 => ("FreightSplits$Hall", "settings", "[I", true)
  | 4 => ("FreightSplits$Hall", "made", "I", false)
  | 5 => ("FreightSplits$Hall", "vehicleCount", "I", false)
  | 6 => ("FreightSplits$Hall", "offerCount", "I", false)
  | 7 => ("FreightSplits$Hall", "time", "I", false)
  | 8 => ("FreightSplits$Hall", "earned", "I", false)
  | 9 => ("FreightSplits$Hall", "offersEarned", "I", false)
  | 10 => ("FreightSplits$Hall", "feesPaid", "I", false)
  | _ => ("FreightSplits$Hall", "earlyPaid", "I", false)
def tyX1 : Nat → FieldType := fun k => match k with
  | 0 => .array (.object "FreightSplits$Consignment")
  | 1 => .array (.object "FreightSplits$Vehicle")
  | 2 => .array (.object "FreightSplits$Offer")
  | 3 => .array .int
  | 4 => .int
  | 5 => .int
  | 6 => .int
  | 7 => .int
  | 8 => .int
  | 9 => .int
  | 10 => .int
  | _ => .int
abbrev wsX10 : List Cond := u_ws RX1 TX1 12
theorem nmX1 : ∀ a, a < 12 → ∀ b, b < 12 → a ≠ b → (TX1 a).2.1 ≠ (TX1 b).2.1 := by decide +kernel
theorem tyX1_ok : ∀ k, k < 12 → parseFieldDescriptor (TX1 k).2.2.1 = some (tyX1 k) := by decide +kernel
abbrev cX1_init : ByteArray := prog_3_method_1_code
def yX1_init : MethodName := ⟨RX1, "<init>", "()V"⟩
abbrev cX1_copyFrom : ByteArray := prog_3_method_2_code
def yX1_copyFrom : MethodName := ⟨RX1, "copyFrom", "(LFreightSplits$Hall;)V"⟩
abbrev cX1_consignmentAt : ByteArray := prog_3_method_3_code
def yX1_consignmentAt : MethodName := ⟨RX1, "consignmentAt", "(I)LFreightSplits$Consignment;"⟩
abbrev cX1_vehicleAt : ByteArray := prog_3_method_4_code
def yX1_vehicleAt : MethodName := ⟨RX1, "vehicleAt", "(I)LFreightSplits$Vehicle;"⟩
abbrev cX1_makeConsignment : ByteArray := prog_3_method_5_code
def yX1_makeConsignment : MethodName := ⟨RX1, "makeConsignment", "(IIIIII)I"⟩
abbrev cX1_splitOff : ByteArray := prog_3_method_6_code
def yX1_splitOff : MethodName := ⟨RX1, "splitOff", "(III)I"⟩
abbrev cX1_joinParts : ByteArray := prog_3_method_7_code
def yX1_joinParts : MethodName := ⟨RX1, "joinParts", "(II)I"⟩
abbrev cX1_addVehicle : ByteArray := prog_3_method_8_code
def yX1_addVehicle : MethodName := ⟨RX1, "addVehicle", "(II)I"⟩
abbrev cX1_putInto : ByteArray := prog_3_method_9_code
def yX1_putInto : MethodName := ⟨RX1, "putInto", "(II)I"⟩
abbrev cX1_takeOut : ByteArray := prog_3_method_10_code
def yX1_takeOut : MethodName := ⟨RX1, "takeOut", "(I)I"⟩
abbrev cX1_loadByRule : ByteArray := prog_3_method_11_code
def yX1_loadByRule : MethodName := ⟨RX1, "loadByRule", "(III)I"⟩
abbrev cX1_nextByRule : ByteArray := prog_3_method_12_code
def yX1_nextByRule : MethodName := ⟨RX1, "nextByRule", "(III)LFreightSplits$Consignment;"⟩
abbrev cX1_sendOff : ByteArray := prog_3_method_13_code
def yX1_sendOff : MethodName := ⟨RX1, "sendOff", "(I)I"⟩
abbrev cX1_makeOffer : ByteArray := prog_3_method_14_code
def yX1_makeOffer : MethodName := ⟨RX1, "makeOffer", "(IIIII)I"⟩
abbrev cX1_letPass : ByteArray := prog_3_method_15_code
def yX1_letPass : MethodName := ⟨RX1, "letPass", "(I)I"⟩
abbrev cX1_changeSetting : ByteArray := prog_3_method_16_code
def yX1_changeSetting : MethodName := ⟨RX1, "changeSetting", "(II)I"⟩
abbrev cX1_leastOfSetting : ByteArray := prog_3_method_17_code
def yX1_leastOfSetting : MethodName := ⟨RX1, "leastOfSetting", "(I)I"⟩
abbrev cX1_mostOfSetting : ByteArray := prog_3_method_18_code
def yX1_mostOfSetting : MethodName := ⟨RX1, "mostOfSetting", "(I)I"⟩
abbrev cX1_moveVehicles : ByteArray := prog_3_method_19_code
def yX1_moveVehicles : MethodName := ⟨RX1, "moveVehicles", "()I"⟩
abbrev cX1_deliverLoad : ByteArray := prog_3_method_20_code
def yX1_deliverLoad : MethodName := ⟨RX1, "deliverLoad", "(LFreightSplits$Vehicle;)I"⟩
abbrev cX1_takeOffers : ByteArray := prog_3_method_21_code
def yX1_takeOffers : MethodName := ⟨RX1, "takeOffers", "(LFreightSplits$Vehicle;)V"⟩
abbrev cX1_bestOffer : ByteArray := prog_3_method_22_code
def yX1_bestOffer : MethodName := ⟨RX1, "bestOffer", "(III)I"⟩
abbrev cX1_comeBack : ByteArray := prog_3_method_23_code
def yX1_comeBack : MethodName := ⟨RX1, "comeBack", "(LFreightSplits$Vehicle;)V"⟩
abbrev cX1_dropOldOffers : ByteArray := prog_3_method_24_code
def yX1_dropOldOffers : MethodName := ⟨RX1, "dropOldOffers", "()V"⟩
abbrev cX1_removeOffer : ByteArray := prog_3_method_25_code
def yX1_removeOffer : MethodName := ⟨RX1, "removeOffer", "(I)V"⟩
abbrev cX1_payFees : ByteArray := prog_3_method_26_code
def yX1_payFees : MethodName := ⟨RX1, "payFees", "()V"⟩
abbrev cX1_canTake : ByteArray := prog_3_method_27_code
def yX1_canTake : MethodName := ⟨RX1, "canTake", "(LFreightSplits$Vehicle;LFreightSplits$Consignment;)Z"⟩
abbrev cX1_loadSize : ByteArray := prog_3_method_28_code
def yX1_loadSize : MethodName := ⟨RX1, "loadSize", "(LFreightSplits$Vehicle;)I"⟩
abbrev cX1_loadWeight : ByteArray := prog_3_method_29_code
def yX1_loadWeight : MethodName := ⟨RX1, "loadWeight", "(LFreightSplits$Vehicle;)I"⟩
abbrev cX1_loadSet : ByteArray := prog_3_method_30_code
def yX1_loadSet : MethodName := ⟨RX1, "loadSet", "(LFreightSplits$Vehicle;)I"⟩
abbrev cX1_loadPlace : ByteArray := prog_3_method_31_code
def yX1_loadPlace : MethodName := ⟨RX1, "loadPlace", "(LFreightSplits$Vehicle;)I"⟩
abbrev cX1_partsOf : ByteArray := prog_3_method_32_code
def yX1_partsOf : MethodName := ⟨RX1, "partsOf", "(I)I"⟩
abbrev cX1_hallSet : ByteArray := prog_3_method_33_code
def yX1_hallSet : MethodName := ⟨RX1, "hallSet", "()I"⟩
abbrev cX1_hopelessSet : ByteArray := prog_3_method_34_code
def yX1_hopelessSet : MethodName := ⟨RX1, "hopelessSet", "()I"⟩
abbrev cX1_howManyAre : ByteArray := prog_3_method_35_code
def yX1_howManyAre : MethodName := ⟨RX1, "howManyAre", "(I)I"⟩
def RX2 : String := "FreightSplits$History"
def TX2 : u_T := fun k => match k with
  | 0 => ("FreightSplits$History", "states", "[LFreightSplits$Hall;", true)
  | 1 => ("FreightSplits$History", "oldest", "I", false)
  | _ => ("FreightSplits$History", "kept", "I", false)
def tyX2 : Nat → FieldType := fun k => match k with
  | 0 => .array (.object "FreightSplits$Hall")
  | 1 => .int
  | _ => .int
abbrev wsX20 : List Cond := u_ws RX2 TX2 3
theorem nmX2 : ∀ a, a < 3 → ∀ b, b < 3 → a ≠ b → (TX2 a).2.1 ≠ (TX2 b).2.1 := by decide +kernel
theorem tyX2_ok : ∀ k, k < 3 → parseFieldDescriptor (TX2 k).2.2.1 = some (tyX2 k) := by decide +kernel
abbrev cX2_init : ByteArray := prog_4_method_1_code
def yX2_init : MethodName := ⟨RX2, "<init>", "()V"⟩
abbrev cX2_prepare : ByteArray := prog_4_method_2_code
def yX2_prepare : MethodName := ⟨RX2, "prepare", "(LFreightSplits$Hall;)V"⟩
abbrev cX2_keep : ByteArray := prog_4_method_3_code
def yX2_keep : MethodName := ⟨RX2, "keep", "()V"⟩
abbrev cX2_restore : ByteArray := prog_4_method_4_code
def yX2_restore : MethodName := ⟨RX2, "restore", "(LFreightSplits$Hall;)I"⟩
def RX3 : String := "FreightSplits$Offer"
def TX3 : u_T := fun k => match k with
  | 0 => ("FreightSplits$Offer", "place", "I", false)
  | 1 => ("FreightSplits$Offer", "size", "I", false)
  | 2 => ("FreightSplits$Offer", "weight", "I", false)
  | 3 => ("FreightSplits$Offer", "price", "I", false)
  | _ => ("FreightSplits$Offer", "until", "I", false)
def tyX3 : Nat → FieldType := fun k => match k with
  | 0 => .int
  | 1 => .int
  | 2 => .int
  | 3 => .int
  | _ => .int
abbrev wsX30 : List Cond := u_ws RX3 TX3 5
theorem nmX3 : ∀ a, a < 5 → ∀ b, b < 5 → a ≠ b → (TX3 a).2.1 ≠ (TX3 b).2.1 := by decide +kernel
theorem tyX3_ok : ∀ k, k < 5 → parseFieldDescriptor (TX3 k).2.2.1 = some (tyX3 k) := by decide +kernel
abbrev cX3_init : ByteArray := prog_5_method_1_code
def yX3_init : MethodName := ⟨RX3, "<init>", "()V"⟩
abbrev cX3_copyFrom : ByteArray := prog_5_method_2_code
def yX3_copyFrom : MethodName := ⟨RX3, "copyFrom", "(LFreightSplits$Offer;)V"⟩
def RX4 : String := "FreightSplits$Script"
def TX4 : u_T := fun k => match k with
  | 0 => ("FreightSplits$Script", "characters", "[C", true)
  | 1 => ("FreightSplits$Script", "numbers", "[I", true)
  | 2 => ("FreightSplits$Script", "length", "I", false)
  | 3 => ("FreightSplits$Script", "verb", "I", false)
  | _ => ("FreightSplits$Script", "next", "I", false)
def tyX4 : Nat → FieldType := fun k => match k with
  | 0 => .array .char
  | 1 => .array .int
  | 2 => .int
  | 3 => .int
  | _ => .int
abbrev wsX40 : List Cond := u_ws RX4 TX4 5
theorem nmX4 : ∀ a, a < 5 → ∀ b, b < 5 → a ≠ b → (TX4 a).2.1 ≠ (TX4 b).2.1 := by decide +kernel
theorem tyX4_ok : ∀ k, k < 5 → parseFieldDescriptor (TX4 k).2.2.1 = some (tyX4 k) := by decide +kernel
abbrev cX4_init : ByteArray := prog_6_method_1_code
def yX4_init : MethodName := ⟨RX4, "<init>", "()V"⟩
abbrev cX4_append : ByteArray := prog_6_method_2_code
def yX4_append : MethodName := ⟨RX4, "append", "(C)I"⟩
abbrev cX4_readCommand : ByteArray := prog_6_method_3_code
def yX4_readCommand : MethodName := ⟨RX4, "readCommand", "(I)Z"⟩
abbrev cX4_verbAt : ByteArray := prog_6_method_4_code
def yX4_verbAt : MethodName := ⟨RX4, "verbAt", "(I)I"⟩
abbrev cX4_standsAt : ByteArray := prog_6_method_5_code
def yX4_standsAt : MethodName := ⟨RX4, "standsAt", "(Ljava/lang/String;I)Z"⟩
abbrev cX4_readSign : ByteArray := prog_6_method_6_code
def yX4_readSign : MethodName := ⟨RX4, "readSign", "(C)Z"⟩
abbrev cX4_readNumber : ByteArray := prog_6_method_7_code
def yX4_readNumber : MethodName := ⟨RX4, "readNumber", "()I"⟩
abbrev cX4_wordOf : ByteArray := prog_6_method_8_code
def yX4_wordOf : MethodName := ⟨RX4, "wordOf", "(I)Ljava/lang/String;"⟩
abbrev cX4_numbersOf : ByteArray := prog_6_method_9_code
def yX4_numbersOf : MethodName := ⟨RX4, "numbersOf", "(I)I"⟩
def RX5 : String := "FreightSplits$Vehicle"
def TX5 : u_T := fun k => match k with
  | 0 => ("FreightSplits$Vehicle", "number", "I", true)
  | 1 => ("FreightSplits$Vehicle", "room", "I", false)
  | 2 => ("FreightSplits$Vehicle", "bound", "I", false)
  | 3 => ("FreightSplits$Vehicle", "state", "I", false)
  | 4 => ("FreightSplits$Vehicle", "place", "I", false)
  | 5 => ("FreightSplits$Vehicle", "way", "I", false)
  | 6 => ("FreightSplits$Vehicle", "hour", "I", false)
  | 7 => ("FreightSplits$Vehicle", "brings", "I", false)
  | _ => ("FreightSplits$Vehicle", "trips", "I", false)
def tyX5 : Nat → FieldType := fun k => match k with
  | 0 => .int
  | 1 => .int
  | 2 => .int
  | 3 => .int
  | 4 => .int
  | 5 => .int
  | 6 => .int
  | 7 => .int
  | _ => .int
abbrev wsX50 : List Cond := u_ws RX5 TX5 9
theorem nmX5 : ∀ a, a < 9 → ∀ b, b < 9 → a ≠ b → (TX5 a).2.1 ≠ (TX5 b).2.1 := by decide +kernel
theorem tyX5_ok : ∀ k, k < 9 → parseFieldDescriptor (TX5 k).2.2.1 = some (tyX5 k) := by decide +kernel
abbrev cX5_init : ByteArray := prog_7_method_1_code
def yX5_init : MethodName := ⟨RX5, "<init>", "(I)V"⟩
abbrev cX5_copyFrom : ByteArray := prog_7_method_2_code
def yX5_copyFrom : MethodName := ⟨RX5, "copyFrom", "(LFreightSplits$Vehicle;)V"⟩
def RX6 : String := "FreightSplits"
def TX6 : u_T := fun k => match k with
  | 0 => ("FreightSplits", "hall", "LFreightSplits$Hall;", true)
  | 1 => ("FreightSplits", "trial", "LFreightSplits$Hall;", true)
  | 2 => ("FreightSplits", "history", "LFreightSplits$History;", true)
  | 3 => ("FreightSplits", "script", "LFreightSplits$Script;", true)
  | 4 => ("FreightSplits", "faultPosition", "I", false)
  | _ => ("FreightSplits", "faultReason", "I", false)
def tyX6 : Nat → FieldType := fun k => match k with
  | 0 => .object "FreightSplits$Hall"
  | 1 => .object "FreightSplits$Hall"
  | 2 => .object "FreightSplits$History"
  | 3 => .object "FreightSplits$Script"
  | 4 => .int
  | _ => .int
abbrev wsX60 : List Cond := u_ws RX6 TX6 6
theorem nmX6 : ∀ a, a < 6 → ∀ b, b < 6 → a ≠ b → (TX6 a).2.1 ≠ (TX6 b).2.1 := by decide +kernel
theorem tyX6_ok : ∀ k, k < 6 → parseFieldDescriptor (TX6 k).2.2.1 = some (tyX6 k) := by decide +kernel
abbrev cX6_init : ByteArray := prog_1_method_1_code
def yX6_init : MethodName := ⟨RX6, "<init>", "()V"⟩
abbrev cX6_consign : ByteArray := prog_1_method_2_code
def yX6_consign : MethodName := ⟨RX6, "consign", "(IIIIII)I"⟩
abbrev cX6_split : ByteArray := prog_1_method_3_code
def yX6_split : MethodName := ⟨RX6, "split", "(III)I"⟩
abbrev cX6_join : ByteArray := prog_1_method_4_code
def yX6_join : MethodName := ⟨RX6, "join", "(II)I"⟩
abbrev cX6_vehicle : ByteArray := prog_1_method_5_code
def yX6_vehicle : MethodName := ⟨RX6, "vehicle", "(II)I"⟩
abbrev cX6_load : ByteArray := prog_1_method_6_code
def yX6_load : MethodName := ⟨RX6, "load", "(II)I"⟩
abbrev cX6_unload : ByteArray := prog_1_method_7_code
def yX6_unload : MethodName := ⟨RX6, "unload", "(I)I"⟩
abbrev cX6_fill : ByteArray := prog_1_method_8_code
def yX6_fill : MethodName := ⟨RX6, "fill", "(III)I"⟩
abbrev cX6_depart : ByteArray := prog_1_method_9_code
def yX6_depart : MethodName := ⟨RX6, "depart", "(I)I"⟩
abbrev cX6_offer : ByteArray := prog_1_method_10_code
def yX6_offer : MethodName := ⟨RX6, "offer", "(IIIII)I"⟩
abbrev cX6_pass : ByteArray := prog_1_method_11_code
def yX6_pass : MethodName := ⟨RX6, "pass", "(I)I"⟩
abbrev cX6_set : ByteArray := prog_1_method_12_code
def yX6_set : MethodName := ⟨RX6, "set", "(II)I"⟩
abbrev cX6_consignmentOf : ByteArray := prog_1_method_13_code
def yX6_consignmentOf : MethodName := ⟨RX6, "consignmentOf", "(II)I"⟩
abbrev cX6_vehicleOf : ByteArray := prog_1_method_14_code
def yX6_vehicleOf : MethodName := ⟨RX6, "vehicleOf", "(II)I"⟩
abbrev cX6_offerOf : ByteArray := prog_1_method_15_code
def yX6_offerOf : MethodName := ⟨RX6, "offerOf", "(II)I"⟩
abbrev cX6_count : ByteArray := prog_1_method_16_code
def yX6_count : MethodName := ⟨RX6, "count", "(I)I"⟩
abbrev cX6_wouldFill : ByteArray := prog_1_method_17_code
def yX6_wouldFill : MethodName := ⟨RX6, "wouldFill", "(III)I"⟩
abbrev cX6_wouldEarn : ByteArray := prog_1_method_18_code
def yX6_wouldEarn : MethodName := ⟨RX6, "wouldEarn", "(I)I"⟩
abbrev cX6_hopeless : ByteArray := prog_1_method_19_code
def yX6_hopeless : MethodName := ⟨RX6, "hopeless", "()I"⟩
abbrev cX6_undo : ByteArray := prog_1_method_20_code
def yX6_undo : MethodName := ⟨RX6, "undo", "()I"⟩
abbrev cX6_type : ByteArray := prog_1_method_21_code
def yX6_type : MethodName := ⟨RX6, "type", "(I)I"⟩
abbrev cX6_clearText : ByteArray := prog_1_method_22_code
def yX6_clearText : MethodName := ⟨RX6, "clearText", "()I"⟩
abbrev cX6_fault : ByteArray := prog_1_method_23_code
def yX6_fault : MethodName := ⟨RX6, "fault", "(I)I"⟩
abbrev cX6_play : ByteArray := prog_1_method_24_code
def yX6_play : MethodName := ⟨RX6, "play", "()I"⟩
abbrev cX6_isWithin : ByteArray := prog_1_method_25_code
def yX6_isWithin : MethodName := ⟨RX6, "isWithin", "(III)Z"⟩
abbrev cX6_changed : ByteArray := prog_1_method_26_code
def yX6_changed : MethodName := ⟨RX6, "changed", "(I)I"⟩
abbrev cX6_placeOf : ByteArray := prog_1_method_27_code
def yX6_placeOf : MethodName := ⟨RX6, "placeOf", "(LFreightSplits$Vehicle;)I"⟩
abbrev cX6_settingCount : ByteArray := prog_1_method_28_code
def yX6_settingCount : MethodName := ⟨RX6, "settingCount", "(I)I"⟩
abbrev cX6_tryText : ByteArray := prog_1_method_29_code
def yX6_tryText : MethodName := ⟨RX6, "tryText", "()I"⟩
abbrev cX6_reasonOf : ByteArray := prog_1_method_30_code
def yX6_reasonOf : MethodName := ⟨RX6, "reasonOf", "(I)I"⟩
abbrev cX6_perform : ByteArray := prog_1_method_31_code
def yX6_perform : MethodName := ⟨RX6, "perform", "()I"⟩
def RX7 : String := "FreightSplitsModel"
def TX7 : u_T := fun k => match k with
  | 0 => ("FreightSplitsModel", "s", "[I", true)
  | 1 => ("FreightSplitsModel", "past", "[I", true)
  | 2 => ("FreightSplitsModel", "held", "[I", true)
  | 3 => ("FreightSplitsModel", "tried", "[I", true)
  | 4 => ("FreightSplitsModel", "pasts", "I", false)
  | 5 => ("FreightSplitsModel", "runs", "Z", false)
  | 6 => ("FreightSplitsModel", "text", "[I", true)
  | 7 => ("FreightSplitsModel", "typed", "I", false)
  | 8 => ("FreightSplitsModel", "words", "[J", true)
  | 9 => ("FreightSplitsModel", "numbers", "[I", true)
  | 10 => ("FreightSplitsModel", "spot", "I", false)
  | 11 => ("FreightSplitsModel", "cause", "I", false)
  | 12 => ("FreightSplitsModel", "commands", "I", false)
  | _ => ("FreightSplitsModel", "told", "[I", true)
def tyX7 : Nat → FieldType := fun k => match k with
  | 0 => .array .int
  | 1 => .array .int
  | 2 => .array .int
  | 3 => .array .int
  | 4 => .int
  | 5 => .boolean
  | 6 => .array .int
  | 7 => .int
  | 8 => .array .long
  | 9 => .array .int
  | 10 => .int
  | 11 => .int
  | 12 => .int
  | _ => .array .int
abbrev wsX70 : List Cond := u_ws RX7 TX7 14
theorem nmX7 : ∀ a, a < 14 → ∀ b, b < 14 → a ≠ b → (TX7 a).2.1 ≠ (TX7 b).2.1 := by decide +kernel
theorem tyX7_ok : ∀ k, k < 14 → parseFieldDescriptor (TX7 k).2.2.1 = some (tyX7 k) := by decide +kernel
abbrev cX7_init : ByteArray := prog_9_method_1_code
def yX7_init : MethodName := ⟨RX7, "<init>", "()V"⟩
abbrev cX7_in : ByteArray := prog_9_method_3_code
def yX7_in : MethodName := ⟨RX7, "in", "(III)Z"⟩
abbrev cX7_copies : ByteArray := prog_9_method_4_code
def yX7_copies : MethodName := ⟨RX7, "copies", "([I[I)V"⟩
abbrev cX7_changes : ByteArray := prog_9_method_5_code
def yX7_changes : MethodName := ⟨RX7, "changes", "()V"⟩
abbrev cX7_of : ByteArray := prog_9_method_6_code
def yX7_of : MethodName := ⟨RX7, "of", "(II)I"⟩
abbrev cX7_puts : ByteArray := prog_9_method_7_code
def yX7_puts : MethodName := ⟨RX7, "puts", "(III)V"⟩
abbrev cX7_ofVehicle : ByteArray := prog_9_method_8_code
def yX7_ofVehicle : MethodName := ⟨RX7, "ofVehicle", "(II)I"⟩
abbrev cX7_putsVehicle : ByteArray := prog_9_method_9_code
def yX7_putsVehicle : MethodName := ⟨RX7, "putsVehicle", "(III)V"⟩
abbrev cX7_ofOffer : ByteArray := prog_9_method_10_code
def yX7_ofOffer : MethodName := ⟨RX7, "ofOffer", "(II)I"⟩
abbrev cX7_isGoods : ByteArray := prog_9_method_11_code
def yX7_isGoods : MethodName := ⟨RX7, "isGoods", "(I)Z"⟩
abbrev cX7_isVehicle : ByteArray := prog_9_method_12_code
def yX7_isVehicle : MethodName := ⟨RX7, "isVehicle", "(I)Z"⟩
abbrev cX7_isHere : ByteArray := prog_9_method_13_code
def yX7_isHere : MethodName := ⟨RX7, "isHere", "(I)Z"⟩
abbrev cX7_makes : ByteArray := prog_9_method_14_code
def yX7_makes : MethodName := ⟨RX7, "makes", "(IIIIII)I"⟩
abbrev cX7_consign : ByteArray := prog_9_method_15_code
def yX7_consign : MethodName := ⟨RX7, "consign", "(IIIIII)I"⟩
abbrev cX7_split : ByteArray := prog_9_method_16_code
def yX7_split : MethodName := ⟨RX7, "split", "(III)I"⟩
abbrev cX7_join : ByteArray := prog_9_method_17_code
def yX7_join : MethodName := ⟨RX7, "join", "(II)I"⟩
abbrev cX7_vehicle : ByteArray := prog_9_method_18_code
def yX7_vehicle : MethodName := ⟨RX7, "vehicle", "(II)I"⟩
abbrev cX7_isIn : ByteArray := prog_9_method_19_code
def yX7_isIn : MethodName := ⟨RX7, "isIn", "(II)Z"⟩
abbrev cX7_loaded : ByteArray := prog_9_method_20_code
def yX7_loaded : MethodName := ⟨RX7, "loaded", "(II)I"⟩
abbrev cX7_loadSet : ByteArray := prog_9_method_21_code
def yX7_loadSet : MethodName := ⟨RX7, "loadSet", "(I)I"⟩
abbrev cX7_goal : ByteArray := prog_9_method_22_code
def yX7_goal : MethodName := ⟨RX7, "goal", "(I)I"⟩
abbrev cX7_canLoad : ByteArray := prog_9_method_23_code
def yX7_canLoad : MethodName := ⟨RX7, "canLoad", "(II)Z"⟩
abbrev cX7_loads : ByteArray := prog_9_method_24_code
def yX7_loads : MethodName := ⟨RX7, "loads", "(II)V"⟩
abbrev cX7_load : ByteArray := prog_9_method_25_code
def yX7_load : MethodName := ⟨RX7, "load", "(II)I"⟩
abbrev cX7_unload : ByteArray := prog_9_method_26_code
def yX7_unload : MethodName := ⟨RX7, "unload", "(I)I"⟩
abbrev cX7_isAhead : ByteArray := prog_9_method_27_code
def yX7_isAhead : MethodName := ⟨RX7, "isAhead", "(III)Z"⟩
abbrev cX7_fills : ByteArray := prog_9_method_28_code
def yX7_fills : MethodName := ⟨RX7, "fills", "(III)I"⟩
abbrev cX7_bits : ByteArray := prog_9_method_29_code
def yX7_bits : MethodName := ⟨RX7, "bits", "(I)I"⟩
abbrev cX7_fill : ByteArray := prog_9_method_30_code
def yX7_fill : MethodName := ⟨RX7, "fill", "(III)I"⟩
abbrev cX7_depart : ByteArray := prog_9_method_31_code
def yX7_depart : MethodName := ⟨RX7, "depart", "(I)I"⟩
abbrev cX7_offer : ByteArray := prog_9_method_32_code
def yX7_offer : MethodName := ⟨RX7, "offer", "(IIIII)I"⟩
abbrev cX7_dropsOffer : ByteArray := prog_9_method_33_code
def yX7_dropsOffer : MethodName := ⟨RX7, "dropsOffer", "(I)V"⟩
abbrev cX7_takes : ByteArray := prog_9_method_34_code
def yX7_takes : MethodName := ⟨RX7, "takes", "(III)I"⟩
abbrev cX7_arrives : ByteArray := prog_9_method_35_code
def yX7_arrives : MethodName := ⟨RX7, "arrives", "(I)I"⟩
abbrev cX7_returns : ByteArray := prog_9_method_36_code
def yX7_returns : MethodName := ⟨RX7, "returns", "(I)V"⟩
abbrev cX7_hour : ByteArray := prog_9_method_37_code
def yX7_hour : MethodName := ⟨RX7, "hour", "()I"⟩
abbrev cX7_pass : ByteArray := prog_9_method_38_code
def yX7_pass : MethodName := ⟨RX7, "pass", "(I)I"⟩
abbrev cX7_set : ByteArray := prog_9_method_39_code
def yX7_set : MethodName := ⟨RX7, "set", "(II)I"⟩
abbrev cX7_parts : ByteArray := prog_9_method_40_code
def yX7_parts : MethodName := ⟨RX7, "parts", "(I)I"⟩
abbrev cX7_consignmentOf : ByteArray := prog_9_method_41_code
def yX7_consignmentOf : MethodName := ⟨RX7, "consignmentOf", "(II)I"⟩
abbrev cX7_vehicleOf : ByteArray := prog_9_method_42_code
def yX7_vehicleOf : MethodName := ⟨RX7, "vehicleOf", "(II)I"⟩
abbrev cX7_offerOf : ByteArray := prog_9_method_43_code
def yX7_offerOf : MethodName := ⟨RX7, "offerOf", "(II)I"⟩
abbrev cX7_here : ByteArray := prog_9_method_44_code
def yX7_here : MethodName := ⟨RX7, "here", "()I"⟩
abbrev cX7_count : ByteArray := prog_9_method_45_code
def yX7_count : MethodName := ⟨RX7, "count", "(I)I"⟩
abbrev cX7_wouldFill : ByteArray := prog_9_method_46_code
def yX7_wouldFill : MethodName := ⟨RX7, "wouldFill", "(III)I"⟩
abbrev cX7_wouldEarn : ByteArray := prog_9_method_47_code
def yX7_wouldEarn : MethodName := ⟨RX7, "wouldEarn", "(I)I"⟩
abbrev cX7_hopeless : ByteArray := prog_9_method_48_code
def yX7_hopeless : MethodName := ⟨RX7, "hopeless", "()I"⟩
abbrev cX7_undo : ByteArray := prog_9_method_49_code
def yX7_undo : MethodName := ⟨RX7, "undo", "()I"⟩
abbrev cX7_type : ByteArray := prog_9_method_50_code
def yX7_type : MethodName := ⟨RX7, "type", "(I)I"⟩
abbrev cX7_clearText : ByteArray := prog_9_method_51_code
def yX7_clearText : MethodName := ⟨RX7, "clearText", "()I"⟩
abbrev cX7_isAt : ByteArray := prog_9_method_52_code
def yX7_isAt : MethodName := ⟨RX7, "isAt", "(II)Z"⟩
abbrev cX7_passes : ByteArray := prog_9_method_53_code
def yX7_passes : MethodName := ⟨RX7, "passes", "(I)Z"⟩
abbrev cX7_word : ByteArray := prog_9_method_54_code
def yX7_word : MethodName := ⟨RX7, "word", "()I"⟩
abbrev cX7_number : ByteArray := prog_9_method_55_code
def yX7_number : MethodName := ⟨RX7, "number", "(I)Z"⟩
abbrev cX7_reads : ByteArray := prog_9_method_56_code
def yX7_reads : MethodName := ⟨RX7, "reads", "()I"⟩
abbrev cX7_calls : ByteArray := prog_9_method_57_code
def yX7_calls : MethodName := ⟨RX7, "calls", "(I)I"⟩
abbrev cX7_plays : ByteArray := prog_9_method_58_code
def yX7_plays : MethodName := ⟨RX7, "plays", "()I"⟩
abbrev cX7_fault : ByteArray := prog_9_method_59_code
def yX7_fault : MethodName := ⟨RX7, "fault", "(I)I"⟩
abbrev cX7_play : ByteArray := prog_9_method_60_code
def yX7_play : MethodName := ⟨RX7, "play", "()I"⟩
def RJ6 : String := "java/lang/Integer"
def TJ6 : u_T := fun k => match k with
  | _ => ("", "", "", false)
def tyJ6 : Nat → FieldType := fun k => match k with
  | _ => .int
abbrev wsJ60 : List Cond := u_ws RJ6 TJ6 0
theorem nmJ6 : ∀ a, a < 0 → ∀ b, b < 0 → a ≠ b → (TJ6 a).2.1 ≠ (TJ6 b).2.1 := by decide +kernel
theorem tyJ6_ok : ∀ k, k < 0 → parseFieldDescriptor (TJ6 k).2.2.1 = some (tyJ6 k) := by decide +kernel
abbrev cJ6_bitCount_0f7a4 : ByteArray := prog_10_method_49_code
def yJ6_bitCount_0f7a4 : MethodName := ⟨RJ6, "bitCount", "(I)I"⟩
def RJ9 : String := "java/lang/Math"
def TJ9 : u_T := fun k => match k with
  | _ => ("", "", "", false)
def tyJ9 : Nat → FieldType := fun k => match k with
  | _ => .int
abbrev wsJ90 : List Cond := u_ws RJ9 TJ9 0
theorem nmJ9 : ∀ a, a < 0 → ∀ b, b < 0 → a ≠ b → (TJ9 a).2.1 ≠ (TJ9 b).2.1 := by decide +kernel
theorem tyJ9_ok : ∀ k, k < 0 → parseFieldDescriptor (TJ9 k).2.2.1 = some (tyJ9 k) := by decide +kernel
abbrev cJ9_max_7cf53 : ByteArray := prog_11_method_65_code
def yJ9_max_7cf53 : MethodName := ⟨RJ9, "max", "(II)I"⟩
abbrev cJ9_min_7cf53 : ByteArray := prog_11_method_69_code
def yJ9_min_7cf53 : MethodName := ⟨RJ9, "min", "(II)I"⟩
def RJ0 : String := "java/lang/String"
def TJ0 : u_T := fun k => match k with
  | _ => ("", "", "", false)
def tyJ0 : Nat → FieldType := fun k => match k with
  | _ => .int
abbrev wsJ00 : List Cond := u_ws RJ0 TJ0 0
theorem nmJ0 : ∀ a, a < 0 → ∀ b, b < 0 → a ≠ b → (TJ0 a).2.1 ≠ (TJ0 b).2.1 := by decide +kernel
theorem tyJ0_ok : ∀ k, k < 0 → parseFieldDescriptor (TJ0 k).2.2.1 = some (tyJ0 k) := by decide +kernel
abbrev cJ0_length_8abf5 : ByteArray := prog_12_method_54_code
def yJ0_length_8abf5 : MethodName := ⟨RJ0, "length", "()I"⟩
abbrev cJ0_charAt_5068e : ByteArray := prog_12_method_56_code
def yJ0_charAt_5068e : MethodName := ⟨RJ0, "charAt", "(I)C"⟩
abbrev cJ0_coder_7d493 : ByteArray := prog_12_method_152_code
def yJ0_coder_7d493 : MethodName := ⟨RJ0, "coder", "()B"⟩
abbrev cJ0_isLatin1_aae02 : ByteArray := prog_12_method_154_code
def yJ0_isLatin1_aae02 : MethodName := ⟨RJ0, "isLatin1", "()Z"⟩
abbrev cJ0_checkIndex_df160 : ByteArray := prog_12_method_155_code
def yJ0_checkIndex_df160 : MethodName := ⟨RJ0, "checkIndex", "(II)V"⟩
def RJ1 : String := "java/lang/StringLatin1"
def TJ1 : u_T := fun k => match k with
  | _ => ("", "", "", false)
def tyJ1 : Nat → FieldType := fun k => match k with
  | _ => .int
abbrev wsJ10 : List Cond := u_ws RJ1 TJ1 0
theorem nmJ1 : ∀ a, a < 0 → ∀ b, b < 0 → a ≠ b → (TJ1 a).2.1 ≠ (TJ1 b).2.1 := by decide +kernel
theorem tyJ1_ok : ∀ k, k < 0 → parseFieldDescriptor (TJ1 k).2.2.1 = some (tyJ1 k) := by decide +kernel
abbrev cJ1_charAt_3b067 : ByteArray := prog_13_method_2_code
def yJ1_charAt_3b067 : MethodName := ⟨RJ1, "charAt", "([BI)C"⟩
def RJ2 : String := "java/lang/StringUTF16"
def TJ2 : u_T := fun k => match k with
  | _ => ("", "", "", false)
def tyJ2 : Nat → FieldType := fun k => match k with
  | _ => .int
abbrev wsJ20 : List Cond := u_ws RJ2 TJ2 0
theorem nmJ2 : ∀ a, a < 0 → ∀ b, b < 0 → a ≠ b → (TJ2 a).2.1 ≠ (TJ2 b).2.1 := by decide +kernel
theorem tyJ2_ok : ∀ k, k < 0 → parseFieldDescriptor (TJ2 k).2.2.1 = some (tyJ2 k) := by decide +kernel
abbrev cJ2_getChar_3b067 : ByteArray := prog_14_method_5_code
def yJ2_getChar_3b067 : MethodName := ⟨RJ2, "getChar", "([BI)C"⟩
abbrev cJ2_length_9d52b : ByteArray := prog_14_method_6_code
def yJ2_length_9d52b : MethodName := ⟨RJ2, "length", "([B)I"⟩
abbrev cJ2_charAt_3b067 : ByteArray := prog_14_method_83_code
def yJ2_charAt_3b067 : MethodName := ⟨RJ2, "charAt", "([BI)C"⟩
abbrev cJ2_checkIndex_2214a : ByteArray := prog_14_method_91_code
def yJ2_checkIndex_2214a : MethodName := ⟨RJ2, "checkIndex", "(I[B)V"⟩
def RJ10 : String := "java/lang/System"
def TJ10 : u_T := fun k => match k with
  | _ => ("", "", "", false)
def tyJ10 : Nat → FieldType := fun k => match k with
  | _ => .int
abbrev wsJ100 : List Cond := u_ws RJ10 TJ10 0
theorem nmJ10 : ∀ a, a < 0 → ∀ b, b < 0 → a ≠ b → (TJ10 a).2.1 ≠ (TJ10 b).2.1 := by decide +kernel
theorem tyJ10_ok : ∀ k, k < 0 → parseFieldDescriptor (TJ10 k).2.2.1 = some (tyJ10 k) := by decide +kernel
def RJ3 : String := "jdk/internal/util/Preconditions"
def TJ3 : u_T := fun k => match k with
  | _ => ("", "", "", false)
def tyJ3 : Nat → FieldType := fun k => match k with
  | _ => .int
abbrev wsJ30 : List Cond := u_ws RJ3 TJ3 0
theorem nmJ3 : ∀ a, a < 0 → ∀ b, b < 0 → a ≠ b → (TJ3 a).2.1 ≠ (TJ3 b).2.1 := by decide +kernel
theorem tyJ3_ok : ∀ k, k < 0 → parseFieldDescriptor (TJ3 k).2.2.1 = some (tyJ3 k) := by decide +kernel
abbrev cJ3_checkIndex_8e157 : ByteArray := prog_16_method_11_code
def yJ3_checkIndex_8e157 : MethodName := ⟨RJ3, "checkIndex", "(IILjava/util/function/BiFunction;)I"⟩
def RL : String := "FreightSplitsLaw"
abbrev cL_law : ByteArray := code
def yL_law : MethodName := ⟨RL, "law", "([I)Z"⟩
abbrev vwCl : List vw_C := [(RX0, TX0, 13), (RX1, TX1, 12), (RX2, TX2, 3), (RX3, TX3, 5), (RX4, TX4, 5), (RX5, TX5, 9), (RX6, TX6, 6), (RX7, TX7, 14)]
