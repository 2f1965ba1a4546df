section
-- ===== PART A: goes FIRST, ahead of the names: the tables' words, and 'selects' of the private methods out of them =====
/-- a private method of a class that the tables say can be made, by its rows of tables_1 -/
def lw_okq (q : MethodName × Nat) : Prop := (q.1.cls ≠ "java/lang/invoke/MethodHandle" ∧ q.1.cls ≠ "java/lang/invoke/VarHandle") ∧ Cond.instantiable q.1.cls q.2 ∈ tables_1 ∧ Cond.privateMethod q.1 ∈ tables_1 ∧ Cond.instanceMethod q.1 ∈ tables_1
theorem lw_p0 : lw_okq (⟨"FreightSplits", "changed", "(I)I"⟩, 6) := ⟨⟨by decide +kernel, by decide +kernel⟩, List.mem_of_getElem? (i := 17) (by decide +kernel), List.mem_of_getElem? (i := 346) (by decide +kernel), List.mem_of_getElem? (i := 347) (by decide +kernel)⟩
theorem lw_p1 : lw_okq (⟨"FreightSplits", "placeOf", "(LFreightSplits$Vehicle;)I"⟩, 6) := ⟨⟨by decide +kernel, by decide +kernel⟩, List.mem_of_getElem? (i := 17) (by decide +kernel), List.mem_of_getElem? (i := 550) (by decide +kernel), List.mem_of_getElem? (i := 551) (by decide +kernel)⟩
theorem lw_p2 : lw_okq (⟨"FreightSplits", "settingCount", "(I)I"⟩, 6) := ⟨⟨by decide +kernel, by decide +kernel⟩, List.mem_of_getElem? (i := 17) (by decide +kernel), List.mem_of_getElem? (i := 571) (by decide +kernel), List.mem_of_getElem? (i := 572) (by decide +kernel)⟩
theorem lw_p3 : lw_okq (⟨"FreightSplits", "tryText", "()I"⟩, 6) := ⟨⟨by decide +kernel, by decide +kernel⟩, List.mem_of_getElem? (i := 17) (by decide +kernel), List.mem_of_getElem? (i := 621) (by decide +kernel), List.mem_of_getElem? (i := 622) (by decide +kernel)⟩
theorem lw_p4 : lw_okq (⟨"FreightSplits", "perform", "()I"⟩, 6) := ⟨⟨by decide +kernel, by decide +kernel⟩, List.mem_of_getElem? (i := 17) (by decide +kernel), List.mem_of_getElem? (i := 709) (by decide +kernel), List.mem_of_getElem? (i := 710) (by decide +kernel)⟩
theorem lw_p5 : lw_okq (⟨"FreightSplitsModel", "changes", "()V"⟩, 14) := ⟨⟨by decide +kernel, by decide +kernel⟩, List.mem_of_getElem? (i := 722) (by decide +kernel), List.mem_of_getElem? (i := 788) (by decide +kernel), List.mem_of_getElem? (i := 789) (by decide +kernel)⟩
theorem lw_p6 : lw_okq (⟨"FreightSplitsModel", "makes", "(IIIIII)I"⟩, 14) := ⟨⟨by decide +kernel, by decide +kernel⟩, List.mem_of_getElem? (i := 722) (by decide +kernel), List.mem_of_getElem? (i := 792) (by decide +kernel), List.mem_of_getElem? (i := 793) (by decide +kernel)⟩
theorem lw_p7 : lw_okq (⟨"FreightSplitsModel", "puts", "(III)V"⟩, 14) := ⟨⟨by decide +kernel, by decide +kernel⟩, List.mem_of_getElem? (i := 722) (by decide +kernel), List.mem_of_getElem? (i := 796) (by decide +kernel), List.mem_of_getElem? (i := 797) (by decide +kernel)⟩
theorem lw_p8 : lw_okq (⟨"FreightSplitsModel", "isGoods", "(I)Z"⟩, 14) := ⟨⟨by decide +kernel, by decide +kernel⟩, List.mem_of_getElem? (i := 722) (by decide +kernel), List.mem_of_getElem? (i := 805) (by decide +kernel), List.mem_of_getElem? (i := 806) (by decide +kernel)⟩
theorem lw_p9 : lw_okq (⟨"FreightSplitsModel", "of", "(II)I"⟩, 14) := ⟨⟨by decide +kernel, by decide +kernel⟩, List.mem_of_getElem? (i := 722) (by decide +kernel), List.mem_of_getElem? (i := 809) (by decide +kernel), List.mem_of_getElem? (i := 810) (by decide +kernel)⟩
theorem lw_p10 : lw_okq (⟨"FreightSplitsModel", "putsVehicle", "(III)V"⟩, 14) := ⟨⟨by decide +kernel, by decide +kernel⟩, List.mem_of_getElem? (i := 722) (by decide +kernel), List.mem_of_getElem? (i := 822) (by decide +kernel), List.mem_of_getElem? (i := 823) (by decide +kernel)⟩
theorem lw_p11 : lw_okq (⟨"FreightSplitsModel", "isVehicle", "(I)Z"⟩, 14) := ⟨⟨by decide +kernel, by decide +kernel⟩, List.mem_of_getElem? (i := 722) (by decide +kernel), List.mem_of_getElem? (i := 830) (by decide +kernel), List.mem_of_getElem? (i := 831) (by decide +kernel)⟩
theorem lw_p12 : lw_okq (⟨"FreightSplitsModel", "canLoad", "(II)Z"⟩, 14) := ⟨⟨by decide +kernel, by decide +kernel⟩, List.mem_of_getElem? (i := 722) (by decide +kernel), List.mem_of_getElem? (i := 834) (by decide +kernel), List.mem_of_getElem? (i := 835) (by decide +kernel)⟩
theorem lw_p13 : lw_okq (⟨"FreightSplitsModel", "ofVehicle", "(II)I"⟩, 14) := ⟨⟨by decide +kernel, by decide +kernel⟩, List.mem_of_getElem? (i := 722) (by decide +kernel), List.mem_of_getElem? (i := 838) (by decide +kernel), List.mem_of_getElem? (i := 839) (by decide +kernel)⟩
theorem lw_p14 : lw_okq (⟨"FreightSplitsModel", "goal", "(I)I"⟩, 14) := ⟨⟨by decide +kernel, by decide +kernel⟩, List.mem_of_getElem? (i := 722) (by decide +kernel), List.mem_of_getElem? (i := 842) (by decide +kernel), List.mem_of_getElem? (i := 843) (by decide +kernel)⟩
theorem lw_p15 : lw_okq (⟨"FreightSplitsModel", "isIn", "(II)Z"⟩, 14) := ⟨⟨by decide +kernel, by decide +kernel⟩, List.mem_of_getElem? (i := 722) (by decide +kernel), List.mem_of_getElem? (i := 846) (by decide +kernel), List.mem_of_getElem? (i := 847) (by decide +kernel)⟩
def lw_privs_1 : List (MethodName × Nat) := [(⟨"FreightSplits", "changed", "(I)I"⟩, 6), (⟨"FreightSplits", "placeOf", "(LFreightSplits$Vehicle;)I"⟩, 6), (⟨"FreightSplits", "settingCount", "(I)I"⟩, 6), (⟨"FreightSplits", "tryText", "()I"⟩, 6), (⟨"FreightSplits", "perform", "()I"⟩, 6), (⟨"FreightSplitsModel", "changes", "()V"⟩, 14), (⟨"FreightSplitsModel", "makes", "(IIIIII)I"⟩, 14), (⟨"FreightSplitsModel", "puts", "(III)V"⟩, 14), (⟨"FreightSplitsModel", "isGoods", "(I)Z"⟩, 14), (⟨"FreightSplitsModel", "of", "(II)I"⟩, 14), (⟨"FreightSplitsModel", "putsVehicle", "(III)V"⟩, 14), (⟨"FreightSplitsModel", "isVehicle", "(I)Z"⟩, 14), (⟨"FreightSplitsModel", "canLoad", "(II)Z"⟩, 14), (⟨"FreightSplitsModel", "ofVehicle", "(II)I"⟩, 14), (⟨"FreightSplitsModel", "goal", "(I)I"⟩, 14), (⟨"FreightSplitsModel", "isIn", "(II)Z"⟩, 14)]
theorem lw_r1 : ∀ q ∈ lw_privs_1, lw_okq q := List.forall_mem_cons.mpr ⟨lw_p0, List.forall_mem_cons.mpr ⟨lw_p1, List.forall_mem_cons.mpr ⟨lw_p2, List.forall_mem_cons.mpr ⟨lw_p3, List.forall_mem_cons.mpr ⟨lw_p4, List.forall_mem_cons.mpr ⟨lw_p5, List.forall_mem_cons.mpr ⟨lw_p6, List.forall_mem_cons.mpr ⟨lw_p7, List.forall_mem_cons.mpr ⟨lw_p8, List.forall_mem_cons.mpr ⟨lw_p9, List.forall_mem_cons.mpr ⟨lw_p10, List.forall_mem_cons.mpr ⟨lw_p11, List.forall_mem_cons.mpr ⟨lw_p12, List.forall_mem_cons.mpr ⟨lw_p13, List.forall_mem_cons.mpr ⟨lw_p14, List.forall_mem_cons.mpr ⟨lw_p15, fun _ h => absurd h List.not_mem_nil⟩⟩⟩⟩⟩⟩⟩⟩⟩⟩⟩⟩⟩⟩⟩⟩
theorem lw_p16 : lw_okq (⟨"FreightSplitsModel", "loaded", "(II)I"⟩, 14) := ⟨⟨by decide +kernel, by decide +kernel⟩, List.mem_of_getElem? (i := 722) (by decide +kernel), List.mem_of_getElem? (i := 850) (by decide +kernel), List.mem_of_getElem? (i := 851) (by decide +kernel)⟩
theorem lw_p17 : lw_okq (⟨"FreightSplitsModel", "loads", "(II)V"⟩, 14) := ⟨⟨by decide +kernel, by decide +kernel⟩, List.mem_of_getElem? (i := 722) (by decide +kernel), List.mem_of_getElem? (i := 854) (by decide +kernel), List.mem_of_getElem? (i := 855) (by decide +kernel)⟩
theorem lw_p18 : lw_okq (⟨"FreightSplitsModel", "fills", "(III)I"⟩, 14) := ⟨⟨by decide +kernel, by decide +kernel⟩, List.mem_of_getElem? (i := 722) (by decide +kernel), List.mem_of_getElem? (i := 866) (by decide +kernel), List.mem_of_getElem? (i := 867) (by decide +kernel)⟩
theorem lw_p19 : lw_okq (⟨"FreightSplitsModel", "isAhead", "(III)Z"⟩, 14) := ⟨⟨by decide +kernel, by decide +kernel⟩, List.mem_of_getElem? (i := 722) (by decide +kernel), List.mem_of_getElem? (i := 870) (by decide +kernel), List.mem_of_getElem? (i := 871) (by decide +kernel)⟩
theorem lw_p20 : lw_okq (⟨"FreightSplitsModel", "loadSet", "(I)I"⟩, 14) := ⟨⟨by decide +kernel, by decide +kernel⟩, List.mem_of_getElem? (i := 722) (by decide +kernel), List.mem_of_getElem? (i := 881) (by decide +kernel), List.mem_of_getElem? (i := 882) (by decide +kernel)⟩
theorem lw_p21 : lw_okq (⟨"FreightSplitsModel", "hour", "()I"⟩, 14) := ⟨⟨by decide +kernel, by decide +kernel⟩, List.mem_of_getElem? (i := 722) (by decide +kernel), List.mem_of_getElem? (i := 893) (by decide +kernel), List.mem_of_getElem? (i := 894) (by decide +kernel)⟩
theorem lw_p22 : lw_okq (⟨"FreightSplitsModel", "arrives", "(I)I"⟩, 14) := ⟨⟨by decide +kernel, by decide +kernel⟩, List.mem_of_getElem? (i := 722) (by decide +kernel), List.mem_of_getElem? (i := 897) (by decide +kernel), List.mem_of_getElem? (i := 898) (by decide +kernel)⟩
theorem lw_p23 : lw_okq (⟨"FreightSplitsModel", "takes", "(III)I"⟩, 14) := ⟨⟨by decide +kernel, by decide +kernel⟩, List.mem_of_getElem? (i := 722) (by decide +kernel), List.mem_of_getElem? (i := 901) (by decide +kernel), List.mem_of_getElem? (i := 902) (by decide +kernel)⟩
theorem lw_p24 : lw_okq (⟨"FreightSplitsModel", "ofOffer", "(II)I"⟩, 14) := ⟨⟨by decide +kernel, by decide +kernel⟩, List.mem_of_getElem? (i := 722) (by decide +kernel), List.mem_of_getElem? (i := 905) (by decide +kernel), List.mem_of_getElem? (i := 906) (by decide +kernel)⟩
theorem lw_p25 : lw_okq (⟨"FreightSplitsModel", "dropsOffer", "(I)V"⟩, 14) := ⟨⟨by decide +kernel, by decide +kernel⟩, List.mem_of_getElem? (i := 722) (by decide +kernel), List.mem_of_getElem? (i := 909) (by decide +kernel), List.mem_of_getElem? (i := 910) (by decide +kernel)⟩
theorem lw_p26 : lw_okq (⟨"FreightSplitsModel", "returns", "(I)V"⟩, 14) := ⟨⟨by decide +kernel, by decide +kernel⟩, List.mem_of_getElem? (i := 722) (by decide +kernel), List.mem_of_getElem? (i := 913) (by decide +kernel), List.mem_of_getElem? (i := 914) (by decide +kernel)⟩
theorem lw_p27 : lw_okq (⟨"FreightSplitsModel", "isHere", "(I)Z"⟩, 14) := ⟨⟨by decide +kernel, by decide +kernel⟩, List.mem_of_getElem? (i := 722) (by decide +kernel), List.mem_of_getElem? (i := 917) (by decide +kernel), List.mem_of_getElem? (i := 918) (by decide +kernel)⟩
theorem lw_p28 : lw_okq (⟨"FreightSplitsModel", "parts", "(I)I"⟩, 14) := ⟨⟨by decide +kernel, by decide +kernel⟩, List.mem_of_getElem? (i := 722) (by decide +kernel), List.mem_of_getElem? (i := 929) (by decide +kernel), List.mem_of_getElem? (i := 930) (by decide +kernel)⟩
theorem lw_p29 : lw_okq (⟨"FreightSplitsModel", "here", "()I"⟩, 14) := ⟨⟨by decide +kernel, by decide +kernel⟩, List.mem_of_getElem? (i := 722) (by decide +kernel), List.mem_of_getElem? (i := 945) (by decide +kernel), List.mem_of_getElem? (i := 946) (by decide +kernel)⟩
theorem lw_p30 : lw_okq (⟨"FreightSplitsModel", "plays", "()I"⟩, 14) := ⟨⟨by decide +kernel, by decide +kernel⟩, List.mem_of_getElem? (i := 722) (by decide +kernel), List.mem_of_getElem? (i := 981) (by decide +kernel), List.mem_of_getElem? (i := 982) (by decide +kernel)⟩
theorem lw_p31 : lw_okq (⟨"FreightSplitsModel", "reads", "()I"⟩, 14) := ⟨⟨by decide +kernel, by decide +kernel⟩, List.mem_of_getElem? (i := 722) (by decide +kernel), List.mem_of_getElem? (i := 985) (by decide +kernel), List.mem_of_getElem? (i := 986) (by decide +kernel)⟩
def lw_privs_2 : List (MethodName × Nat) := [(⟨"FreightSplitsModel", "loaded", "(II)I"⟩, 14), (⟨"FreightSplitsModel", "loads", "(II)V"⟩, 14), (⟨"FreightSplitsModel", "fills", "(III)I"⟩, 14), (⟨"FreightSplitsModel", "isAhead", "(III)Z"⟩, 14), (⟨"FreightSplitsModel", "loadSet", "(I)I"⟩, 14), (⟨"FreightSplitsModel", "hour", "()I"⟩, 14), (⟨"FreightSplitsModel", "arrives", "(I)I"⟩, 14), (⟨"FreightSplitsModel", "takes", "(III)I"⟩, 14), (⟨"FreightSplitsModel", "ofOffer", "(II)I"⟩, 14), (⟨"FreightSplitsModel", "dropsOffer", "(I)V"⟩, 14), (⟨"FreightSplitsModel", "returns", "(I)V"⟩, 14), (⟨"FreightSplitsModel", "isHere", "(I)Z"⟩, 14), (⟨"FreightSplitsModel", "parts", "(I)I"⟩, 14), (⟨"FreightSplitsModel", "here", "()I"⟩, 14), (⟨"FreightSplitsModel", "plays", "()I"⟩, 14), (⟨"FreightSplitsModel", "reads", "()I"⟩, 14)]
theorem lw_r2 : ∀ q ∈ lw_privs_2, lw_okq q := List.forall_mem_cons.mpr ⟨lw_p16, List.forall_mem_cons.mpr ⟨lw_p17, List.forall_mem_cons.mpr ⟨lw_p18, List.forall_mem_cons.mpr ⟨lw_p19, List.forall_mem_cons.mpr ⟨lw_p20, List.forall_mem_cons.mpr ⟨lw_p21, List.forall_mem_cons.mpr ⟨lw_p22, List.forall_mem_cons.mpr ⟨lw_p23, List.forall_mem_cons.mpr ⟨lw_p24, List.forall_mem_cons.mpr ⟨lw_p25, List.forall_mem_cons.mpr ⟨lw_p26, List.forall_mem_cons.mpr ⟨lw_p27, List.forall_mem_cons.mpr ⟨lw_p28, List.forall_mem_cons.mpr ⟨lw_p29, List.forall_mem_cons.mpr ⟨lw_p30, List.forall_mem_cons.mpr ⟨lw_p31, fun _ h => absurd h List.not_mem_nil⟩⟩⟩⟩⟩⟩⟩⟩⟩⟩⟩⟩⟩⟩⟩⟩
theorem lw_p32 : lw_okq (⟨"FreightSplitsModel", "word", "()I"⟩, 14) := ⟨⟨by decide +kernel, by decide +kernel⟩, List.mem_of_getElem? (i := 722) (by decide +kernel), List.mem_of_getElem? (i := 989) (by decide +kernel), List.mem_of_getElem? (i := 990) (by decide +kernel)⟩
theorem lw_p33 : lw_okq (⟨"FreightSplitsModel", "isAt", "(II)Z"⟩, 14) := ⟨⟨by decide +kernel, by decide +kernel⟩, List.mem_of_getElem? (i := 722) (by decide +kernel), List.mem_of_getElem? (i := 993) (by decide +kernel), List.mem_of_getElem? (i := 994) (by decide +kernel)⟩
theorem lw_p34 : lw_okq (⟨"FreightSplitsModel", "passes", "(I)Z"⟩, 14) := ⟨⟨by decide +kernel, by decide +kernel⟩, List.mem_of_getElem? (i := 722) (by decide +kernel), List.mem_of_getElem? (i := 998) (by decide +kernel), List.mem_of_getElem? (i := 999) (by decide +kernel)⟩
theorem lw_p35 : lw_okq (⟨"FreightSplitsModel", "number", "(I)Z"⟩, 14) := ⟨⟨by decide +kernel, by decide +kernel⟩, List.mem_of_getElem? (i := 722) (by decide +kernel), List.mem_of_getElem? (i := 1002) (by decide +kernel), List.mem_of_getElem? (i := 1003) (by decide +kernel)⟩
theorem lw_p36 : lw_okq (⟨"FreightSplitsModel", "calls", "(I)I"⟩, 14) := ⟨⟨by decide +kernel, by decide +kernel⟩, List.mem_of_getElem? (i := 722) (by decide +kernel), List.mem_of_getElem? (i := 1006) (by decide +kernel), List.mem_of_getElem? (i := 1007) (by decide +kernel)⟩
def lw_privs_3 : List (MethodName × Nat) := [(⟨"FreightSplitsModel", "word", "()I"⟩, 14), (⟨"FreightSplitsModel", "isAt", "(II)Z"⟩, 14), (⟨"FreightSplitsModel", "passes", "(I)Z"⟩, 14), (⟨"FreightSplitsModel", "number", "(I)Z"⟩, 14), (⟨"FreightSplitsModel", "calls", "(I)I"⟩, 14)]
theorem lw_r3 : ∀ q ∈ lw_privs_3, lw_okq q := List.forall_mem_cons.mpr ⟨lw_p32, List.forall_mem_cons.mpr ⟨lw_p33, List.forall_mem_cons.mpr ⟨lw_p34, List.forall_mem_cons.mpr ⟨lw_p35, List.forall_mem_cons.mpr ⟨lw_p36, fun _ h => absurd h List.not_mem_nil⟩⟩⟩⟩⟩
def lw_privs : List (MethodName × Nat) := lw_privs_1 ++ (lw_privs_2 ++ (lw_privs_3))
def lw_tbl : List Cond := k2_sels lw_privs ++ tables_1
theorem lw_privs_ok : ∀ q ∈ lw_privs, lw_okq q := by
  show ∀ q ∈ lw_privs_1 ++ (lw_privs_2 ++ (lw_privs_3)), lw_okq q
  exact List.forall_mem_append.mpr ⟨lw_r1, List.forall_mem_append.mpr ⟨lw_r2, lw_r3⟩⟩
/-! ===== BEGIN words of one list among another's, by their places ===== -/
theorem goodIn_r {big : List Cond} (ws : List Cond) (ps : List Nat) (hp : ws = ps.filterMap (fun i => big[i]?)) (h : ws.all goodWord = true) : GoodIn big ws := by
  intro w hw
  have h1 := List.all_eq_true.mp h w hw
  rw [hp] at hw
  obtain ⟨i, -, hi⟩ := List.mem_filterMap.mp hw
  have hm : w ∈ big := by first | exact List.mem_of_getElem? hi | exact List.getElem?_mem hi
  exact ⟨hm, good_of_word h1⟩
theorem goodIn_app {big a b : List Cond} (ha : GoodIn big a) (hb : GoodIn big b) : GoodIn big (a ++ b) := fun w h => (List.mem_append.mp h).elim (ha w) (hb w)
theorem goodIn_ca {big a b : List Cond} {c : Cond} (ha : GoodIn big (c :: a)) (hb : GoodIn big b) : GoodIn big (c :: (a ++ b)) := fun w h => (List.mem_cons.mp h).elim (fun e => ha w (List.mem_cons.mpr (Or.inl e))) (fun h => (List.mem_append.mp h).elim (fun h => ha w (List.mem_cons.mpr (Or.inr h))) (hb w))
theorem goodIn_sub {big ws : List Cond} (hm : ∀ w ∈ ws, w ∈ big) (h : ws.all goodWord = true) : GoodIn big ws := fun w hw => ⟨hm w hw, good_of_word (List.all_eq_true.mp h w hw)⟩
/-! ===== END ===== -/

/-! ===== BEGIN printed: names, fields, word lists, decode rows ===== -/
def RX0 : String := "FreightSplits$Consignment"
def TX0 : u_T := fun k => match k with
  | 0 => ("FreightSplits$Consignment", "number", "I", true)
  | 1 => ("FreightSplits$Consignment", "place", "I", false)
  | 2 => ("FreightSplits$Consignment", "size", "I", false)
  | 3 => ("FreightSplits$Consignment", "weight", "I", false)
  | 4 => ("FreightSplits$Consignment", "from", "I", false)
  | 5 => ("FreightSplits$Consignment", "to", "I", false)
  | 6 => ("FreightSplits$Consignment", "worth", "I", false)
  | 7 => ("FreightSplits$Consignment", "state", "I", false)
  | 8 => ("FreightSplits$Consignment", "since", "I", false)
  | 9 => ("FreightSplits$Consignment", "whole", "I", false)
  | 10 => ("FreightSplits$Consignment", "vehicle", "I", false)
  | 11 => ("FreightSplits$Consignment", "departed", "I", false)
  | _ => ("FreightSplits$Consignment", "delivered", "I", false)
def tyX0 : Nat → FieldType := fun k => match k with
  | 0 => .int
  | 1 => .int
  | 2 => .int
  | 3 => .int
  | 4 => .int
  | 5 => .int
  | 6 => .int
  | 7 => .int
  | 8 => .int
  | 9 => .int
  | 10 => .int
  | 11 => .int
  | _ => .int
abbrev wsX00 : List Cond := u_ws RX0 TX0 13
theorem nmX0 : ∀ a, a < 13 → ∀ b, b < 13 → a ≠ b → (TX0 a).2.1 ≠ (TX0 b).2.1 := by decide +kernel
theorem tyX0_ok : ∀ k, k < 13 → parseFieldDescriptor (TX0 k).2.2.1 = some (tyX0 k) := by decide +kernel
abbrev cX0_init : ByteArray := prog_2_method_1_code
def yX0_init : MethodName := ⟨RX0, "<init>", "(I)V"⟩
abbrev cX0_copyFrom : ByteArray := prog_2_method_2_code
def yX0_copyFrom : MethodName := ⟨RX0, "copyFrom", "(LFreightSplits$Consignment;)V"⟩
abbrev cX0_copyFreight : ByteArray := prog_2_method_3_code
def yX0_copyFreight : MethodName := ⟨RX0, "copyFreight", "(LFreightSplits$Consignment;)V"⟩
abbrev cX0_startInHall : ByteArray := prog_2_method_4_code
def yX0_startInHall : MethodName := ⟨RX0, "startInHall", "()V"⟩
abbrev cX0_isInHall : ByteArray := prog_2_method_5_code
def yX0_isInHall : MethodName := ⟨RX0, "isInHall", "()Z"⟩
abbrev cX0_isIn : ByteArray := prog_2_method_6_code
def yX0_isIn : MethodName := ⟨RX0, "isIn", "(LFreightSplits$Vehicle;)Z"⟩
abbrev cX0_comesAheadOf : ByteArray := prog_2_method_7_code
def yX0_comesAheadOf : MethodName := ⟨RX0, "comesAheadOf", "(LFreightSplits$Consignment;I)Z"⟩
def RX1 : String := "FreightSplits$Hall"
def TX1 : u_T := fun k => match k with
  | 0 => ("FreightSplits$Hall", "consignments", "[LFreightSplits$Consignment;", true)
  | 1 => ("FreightSplits$Hall", "vehicles", "[LFreightSplits$Vehicle;", true)
  | 2 => ("FreightSplits$Hall", "offers", "[LFreightSplits$Offer;", true)
  | 3 => ("FreightSplits$Hall", "settings", "[I", true)
  | 4 => ("FreightSplits$Hall", "made", "I", false)
  | 5 => ("FreightSplits$Hall", "vehicleCount", "I", false)
  | 6 => ("FreightSplits$Hall", "offerCount", "I", false)
  | 7 => ("FreightSplits$Hall", "time", "I", false)
  | 8 => ("FreightSplits$Hall", "earned", "I", false)
  | 9 => ("FreightSplits$Hall", "offersEarned", "I", false)
  | 10 => ("FreightSplits$Hall", "feesPaid", "I", false)
  | _ => ("FreightSplits$Hall", "earlyPaid", "I", false)
def tyX1 : Nat → FieldType := fun k => match k with
  | 0 => .array (.object "FreightSplits$Consignment")
  | 1 => .array (.object "FreightSplits$Vehicle")
  | 2 => .array (.object "FreightSplits$Offer")
  | 3 => .array .int
  | 4 => .int
  | 5 => .int
  | 6 => .int
  | 7 => .int
  | 8 => .int
  | 9 => .int
  | 10 => .int
  | _ => .int
abbrev wsX10 : List Cond := u_ws RX1 TX1 12
theorem nmX1 : ∀ a, a < 12 → ∀ b, b < 12 → a ≠ b → (TX1 a).2.1 ≠ (TX1 b).2.1 := by decide +kernel
theorem tyX1_ok : ∀ k, k < 12 → parseFieldDescriptor (TX1 k).2.2.1 = some (tyX1 k) := by decide +kernel
abbrev cX1_init : ByteArray := prog_3_method_1_code
def yX1_init : MethodName := ⟨RX1, "<init>", "()V"⟩
abbrev cX1_copyFrom : ByteArray := prog_3_method_2_code
def yX1_copyFrom : MethodName := ⟨RX1, "copyFrom", "(LFreightSplits$Hall;)V"⟩
abbrev cX1_consignmentAt : ByteArray := prog_3_method_3_code
def yX1_consignmentAt : MethodName := ⟨RX1, "consignmentAt", "(I)LFreightSplits$Consignment;"⟩
abbrev cX1_vehicleAt : ByteArray := prog_3_method_4_code
def yX1_vehicleAt : MethodName := ⟨RX1, "vehicleAt", "(I)LFreightSplits$Vehicle;"⟩
abbrev cX1_makeConsignment : ByteArray := prog_3_method_5_code
def yX1_makeConsignment : MethodName := ⟨RX1, "makeConsignment", "(IIIIII)I"⟩
abbrev cX1_splitOff : ByteArray := prog_3_method_6_code
def yX1_splitOff : MethodName := ⟨RX1, "splitOff", "(III)I"⟩
abbrev cX1_joinParts : ByteArray := prog_3_method_7_code
def yX1_joinParts : MethodName := ⟨RX1, "joinParts", "(II)I"⟩
abbrev cX1_addVehicle : ByteArray := prog_3_method_8_code
def yX1_addVehicle : MethodName := ⟨RX1, "addVehicle", "(II)I"⟩
abbrev cX1_putInto : ByteArray := prog_3_method_9_code
def yX1_putInto : MethodName := ⟨RX1, "putInto", "(II)I"⟩
abbrev cX1_takeOut : ByteArray := prog_3_method_10_code
def yX1_takeOut : MethodName := ⟨RX1, "takeOut", "(I)I"⟩
abbrev cX1_loadByRule : ByteArray := prog_3_method_11_code
def yX1_loadByRule : MethodName := ⟨RX1, "loadByRule", "(III)I"⟩
abbrev cX1_nextByRule : ByteArray := prog_3_method_12_code
def yX1_nextByRule : MethodName := ⟨RX1, "nextByRule", "(III)LFreightSplits$Consignment;"⟩
abbrev cX1_sendOff : ByteArray := prog_3_method_13_code
def yX1_sendOff : MethodName := ⟨RX1, "sendOff", "(I)I"⟩
abbrev cX1_makeOffer : ByteArray := prog_3_method_14_code
def yX1_makeOffer : MethodName := ⟨RX1, "makeOffer", "(IIIII)I"⟩
abbrev cX1_letPass : ByteArray := prog_3_method_15_code
def yX1_letPass : MethodName := ⟨RX1, "letPass", "(I)I"⟩
abbrev cX1_changeSetting : ByteArray := prog_3_method_16_code
def yX1_changeSetting : MethodName := ⟨RX1, "changeSetting", "(II)I"⟩
abbrev cX1_leastOfSetting : ByteArray := prog_3_method_17_code
def yX1_leastOfSetting : MethodName := ⟨RX1, "leastOfSetting", "(I)I"⟩
abbrev cX1_mostOfSetting : ByteArray := prog_3_method_18_code
def yX1_mostOfSetting : MethodName := ⟨RX1, "mostOfSetting", "(I)I"⟩
abbrev cX1_moveVehicles : ByteArray := prog_3_method_19_code
def yX1_moveVehicles : MethodName := ⟨RX1, "moveVehicles", "()I"⟩
abbrev cX1_deliverLoad : ByteArray := prog_3_method_20_code
def yX1_deliverLoad : MethodName := ⟨RX1, "deliverLoad", "(LFreightSplits$Vehicle;)I"⟩
abbrev cX1_takeOffers : ByteArray := prog_3_method_21_code
def yX1_takeOffers : MethodName := ⟨RX1, "takeOffers", "(LFreightSplits$Vehicle;)V"⟩
abbrev cX1_bestOffer : ByteArray := prog_3_method_22_code
def yX1_bestOffer : MethodName := ⟨RX1, "bestOffer", "(III)I"⟩
abbrev cX1_comeBack : ByteArray := prog_3_method_23_code
def yX1_comeBack : MethodName := ⟨RX1, "comeBack", "(LFreightSplits$Vehicle;)V"⟩
abbrev cX1_dropOldOffers : ByteArray := prog_3_method_24_code
def yX1_dropOldOffers : MethodName := ⟨RX1, "dropOldOffers", "()V"⟩
abbrev cX1_removeOffer : ByteArray := prog_3_method_25_code
def yX1_removeOffer : MethodName := ⟨RX1, "removeOffer", "(I)V"⟩
abbrev cX1_payFees : ByteArray := prog_3_method_26_code
def yX1_payFees : MethodName := ⟨RX1, "payFees", "()V"⟩
abbrev cX1_canTake : ByteArray := prog_3_method_27_code
def yX1_canTake : MethodName := ⟨RX1, "canTake", "(LFreightSplits$Vehicle;LFreightSplits$Consignment;)Z"⟩
abbrev cX1_loadSize : ByteArray := prog_3_method_28_code
def yX1_loadSize : MethodName := ⟨RX1, "loadSize", "(LFreightSplits$Vehicle;)I"⟩
abbrev cX1_loadWeight : ByteArray := prog_3_method_29_code
def yX1_loadWeight : MethodName := ⟨RX1, "loadWeight", "(LFreightSplits$Vehicle;)I"⟩
abbrev cX1_loadSet : ByteArray := prog_3_method_30_code
def yX1_loadSet : MethodName := ⟨RX1, "loadSet", "(LFreightSplits$Vehicle;)I"⟩
abbrev cX1_loadPlace : ByteArray := prog_3_method_31_code
def yX1_loadPlace : MethodName := ⟨RX1, "loadPlace", "(LFreightSplits$Vehicle;)I"⟩
abbrev cX1_partsOf : ByteArray := prog_3_method_32_code
def yX1_partsOf : MethodName := ⟨RX1, "partsOf", "(I)I"⟩
abbrev cX1_hallSet : ByteArray := prog_3_method_33_code
def yX1_hallSet : MethodName := ⟨RX1, "hallSet", "()I"⟩
abbrev cX1_hopelessSet : ByteArray := prog_3_method_34_code
def yX1_hopelessSet : MethodName := ⟨RX1, "hopelessSet", "()I"⟩
abbrev cX1_howManyAre : ByteArray := prog_3_method_35_code
def yX1_howManyAre : MethodName := ⟨RX1, "howManyAre", "(I)I"⟩
def RX2 : String := "FreightSplits$History"
def TX2 : u_T := fun k => match k with
  | 0 => ("FreightSplits$History", "states", "[LFreightSplits$Hall;", true)
  | 1 => ("FreightSplits$History", "oldest", "I", false)
  | _ => ("FreightSplits$History", "kept", "I", false)
def tyX2 : Nat → FieldType := fun k => match k with
  | 0 => .array (.object "FreightSplits$Hall")
  | 1 => .int
  | _ => .int
abbrev wsX20 : List Cond := u_ws RX2 TX2 3
theorem nmX2 : ∀ a, a < 3 → ∀ b, b < 3 → a ≠ b → (TX2 a).2.1 ≠ (TX2 b).2.1 := by decide +kernel
theorem tyX2_ok : ∀ k, k < 3 → parseFieldDescriptor (TX2 k).2.2.1 = some (tyX2 k) := by decide +kernel
abbrev cX2_init : ByteArray := prog_4_method_1_code
def yX2_init : MethodName := ⟨RX2, "<init>", "()V"⟩
abbrev cX2_prepare : ByteArray := prog_4_method_2_code
def yX2_prepare : MethodName := ⟨RX2, "prepare", "(LFreightSplits$Hall;)V"⟩
abbrev cX2_keep : ByteArray := prog_4_method_3_code
def yX2_keep : MethodName := ⟨RX2, "keep", "()V"⟩
abbrev cX2_restore : ByteArray := prog_4_method_4_code
def yX2_restore : MethodName := ⟨RX2, "restore", "(LFreightSplits$Hall;)I"⟩
def RX3 : String := "FreightSplits$Offer"
def TX3 : u_T := fun k => match k with
  | 0 => ("FreightSplits$Offer", "place", "I", false)
  | 1 => ("FreightSplits$Offer", "size", "I", false)
  | 2 => ("FreightSplits$Offer", "weight", "I", false)
  | 3 => ("FreightSplits$Offer", "price", "I", false)
  | _ => ("FreightSplits$Offer", "until", "I", false)
def tyX3 : Nat → FieldType := fun k => match k with
  | 0 => .int
  | 1 => .int
  | 2 => .int
  | 3 => .int
  | _ => .int
abbrev wsX30 : List Cond := u_ws RX3 TX3 5
theorem nmX3 : ∀ a, a < 5 → ∀ b, b < 5 → a ≠ b → (TX3 a).2.1 ≠ (TX3 b).2.1 := by decide +kernel
theorem tyX3_ok : ∀ k, k < 5 → parseFieldDescriptor (TX3 k).2.2.1 = some (tyX3 k) := by decide +kernel
abbrev cX3_init : ByteArray := prog_5_method_1_code
def yX3_init : MethodName := ⟨RX3, "<init>", "()V"⟩
abbrev cX3_copyFrom : ByteArray := prog_5_method_2_code
def yX3_copyFrom : MethodName := ⟨RX3, "copyFrom", "(LFreightSplits$Offer;)V"⟩
def RX4 : String := "FreightSplits$Script"
def TX4 : u_T := fun k => match k with
  | 0 => ("FreightSplits$Script", "characters", "[C", true)
  | 1 => ("FreightSplits$Script", "numbers", "[I", true)
  | 2 => ("FreightSplits$Script", "length", "I", false)
  | 3 => ("FreightSplits$Script", "verb", "I", false)
  | _ => ("FreightSplits$Script", "next", "I", false)
def tyX4 : Nat → FieldType := fun k => match k with
  | 0 => .array .char
  | 1 => .array .int
  | 2 => .int
  | 3 => .int
  | _ => .int
abbrev wsX40 : List Cond := u_ws RX4 TX4 5
theorem nmX4 : ∀ a, a < 5 → ∀ b, b < 5 → a ≠ b → (TX4 a).2.1 ≠ (TX4 b).2.1 := by decide +kernel
theorem tyX4_ok : ∀ k, k < 5 → parseFieldDescriptor (TX4 k).2.2.1 = some (tyX4 k) := by decide +kernel
abbrev cX4_init : ByteArray := prog_6_method_1_code
def yX4_init : MethodName := ⟨RX4, "<init>", "()V"⟩
abbrev cX4_append : ByteArray := prog_6_method_2_code
def yX4_append : MethodName := ⟨RX4, "append", "(C)I"⟩
abbrev cX4_readCommand : ByteArray := prog_6_method_3_code
def yX4_readCommand : MethodName := ⟨RX4, "readCommand", "(I)Z"⟩
abbrev cX4_verbAt : ByteArray := prog_6_method_4_code
def yX4_verbAt : MethodName := ⟨RX4, "verbAt", "(I)I"⟩
abbrev cX4_standsAt : ByteArray := prog_6_method_5_code
def yX4_standsAt : MethodName := ⟨RX4, "standsAt", "(Ljava/lang/String;I)Z"⟩
abbrev cX4_readSign : ByteArray := prog_6_method_6_code
def yX4_readSign : MethodName := ⟨RX4, "readSign", "(C)Z"⟩
abbrev cX4_readNumber : ByteArray := prog_6_method_7_code
def yX4_readNumber : MethodName := ⟨RX4, "readNumber", "()I"⟩
abbrev cX4_wordOf : ByteArray := prog_6_method_8_code
def yX4_wordOf : MethodName := ⟨RX4, "wordOf", "(I)Ljava/lang/String;"⟩
abbrev cX4_numbersOf : ByteArray := prog_6_method_9_code
def yX4_numbersOf : MethodName := ⟨RX4, "numbersOf", "(I)I"⟩
def RX5 : String := "FreightSplits$Vehicle"
def TX5 : u_T := fun k => match k with
  | 0 => ("FreightSplits$Vehicle", "number", "I", true)
  | 1 => ("FreightSplits$Vehicle", "room", "I", false)
  | 2 => ("FreightSplits$Vehicle", "bound", "I", false)
  | 3 => ("FreightSplits$Vehicle", "state", "I", false)
  | 4 => ("FreightSplits$Vehicle", "place", "I", false)
  | 5 => ("FreightSplits$Vehicle", "way", "I", false)
  | 6 => ("FreightSplits$Vehicle", "hour", "I", false)
  | 7 => ("FreightSplits$Vehicle", "brings", "I", false)
  | _ => ("FreightSplits$Vehicle", "trips", "I", false)
def tyX5 : Nat → FieldType := fun k => match k with
  | 0 => .int
  | 1 => .int
  | 2 => .int
  | 3 => .int
  | 4 => .int
  | 5 => .int
  | 6 => .int
  | 7 => .int
  | _ => .int
abbrev wsX50 : List Cond := u_ws RX5 TX5 9
theorem nmX5 : ∀ a, a < 9 → ∀ b, b < 9 → a ≠ b → (TX5 a).2.1 ≠ (TX5 b).2.1 := by decide +kernel
theorem tyX5_ok : ∀ k, k < 9 → parseFieldDescriptor (TX5 k).2.2.1 = some (tyX5 k) := by decide +kernel
abbrev cX5_init : ByteArray := prog_7_method_1_code
def yX5_init : MethodName := ⟨RX5, "<init>", "(I)V"⟩
abbrev cX5_copyFrom : ByteArray := prog_7_method_2_code
def yX5_copyFrom : MethodName := ⟨RX5, "copyFrom", "(LFreightSplits$Vehicle;)V"⟩
def RX6 : String := "FreightSplits"
def TX6 : u_T := fun k => match k with
  | 0 => ("FreightSplits", "hall", "LFreightSplits$Hall;", true)
  | 1 => ("FreightSplits", "trial", "LFreightSplits$Hall;", true)
  | 2 => ("FreightSplits", "history", "LFreightSplits$History;", true)
  | 3 => ("FreightSplits", "script", "LFreightSplits$Script;", true)
  | 4 => ("FreightSplits", "faultPosition", "I", false)
  | _ => ("FreightSplits", "faultReason", "I", false)
def tyX6 : Nat → FieldType := fun k => match k with
  | 0 => .object "FreightSplits$Hall"
  | 1 => .object "FreightSplits$Hall"
  | 2 => .object "FreightSplits$History"
  | 3 => .object "FreightSplits$Script"
  | 4 => .int
  | _ => .int
abbrev wsX60 : List Cond := u_ws RX6 TX6 6
theorem nmX6 : ∀ a, a < 6 → ∀ b, b < 6 → a ≠ b → (TX6 a).2.1 ≠ (TX6 b).2.1 := by decide +kernel
theorem tyX6_ok : ∀ k, k < 6 → parseFieldDescriptor (TX6 k).2.2.1 = some (tyX6 k) := by decide +kernel
abbrev cX6_init : ByteArray := prog_1_method_1_code
def yX6_init : MethodName := ⟨RX6, "<init>", "()V"⟩
abbrev cX6_consign : ByteArray := prog_1_method_2_code
def yX6_consign : MethodName := ⟨RX6, "consign", "(IIIIII)I"⟩
abbrev cX6_split : ByteArray := prog_1_method_3_code
def yX6_split : MethodName := ⟨RX6, "split", "(III)I"⟩
abbrev cX6_join : ByteArray := prog_1_method_4_code
def yX6_join : MethodName := ⟨RX6, "join", "(II)I"⟩
abbrev cX6_vehicle : ByteArray := prog_1_method_5_code
def yX6_vehicle : MethodName := ⟨RX6, "vehicle", "(II)I"⟩
abbrev cX6_load : ByteArray := prog_1_method_6_code
def yX6_load : MethodName := ⟨RX6, "load", "(II)I"⟩
abbrev cX6_unload : ByteArray := prog_1_method_7_code
def yX6_unload : MethodName := ⟨RX6, "unload", "(I)I"⟩
abbrev cX6_fill : ByteArray := prog_1_method_8_code
def yX6_fill : MethodName := ⟨RX6, "fill", "(III)I"⟩
abbrev cX6_depart : ByteArray := prog_1_method_9_code
def yX6_depart : MethodName := ⟨RX6, "depart", "(I)I"⟩
abbrev cX6_offer : ByteArray := prog_1_method_10_code
def yX6_offer : MethodName := ⟨RX6, "offer", "(IIIII)I"⟩
abbrev cX6_pass : ByteArray := prog_1_method_11_code
def yX6_pass : MethodName := ⟨RX6, "pass", "(I)I"⟩
abbrev cX6_set : ByteArray := prog_1_method_12_code
def yX6_set : MethodName := ⟨RX6, "set", "(II)I"⟩
abbrev cX6_consignmentOf : ByteArray := prog_1_method_13_code
def yX6_consignmentOf : MethodName := ⟨RX6, "consignmentOf", "(II)I"⟩
abbrev cX6_vehicleOf : ByteArray := prog_1_method_14_code
def yX6_vehicleOf : MethodName := ⟨RX6, "vehicleOf", "(II)I"⟩
abbrev cX6_offerOf : ByteArray := prog_1_method_15_code
def yX6_offerOf : MethodName := ⟨RX6, "offerOf", "(II)I"⟩
abbrev cX6_count : ByteArray := prog_1_method_16_code
def yX6_count : MethodName := ⟨RX6, "count", "(I)I"⟩
abbrev cX6_wouldFill : ByteArray := prog_1_method_17_code
def yX6_wouldFill : MethodName := ⟨RX6, "wouldFill", "(III)I"⟩
abbrev cX6_wouldEarn : ByteArray := prog_1_method_18_code
def yX6_wouldEarn : MethodName := ⟨RX6, "wouldEarn", "(I)I"⟩
abbrev cX6_hopeless : ByteArray := prog_1_method_19_code
def yX6_hopeless : MethodName := ⟨RX6, "hopeless", "()I"⟩
abbrev cX6_undo : ByteArray := prog_1_method_20_code
def yX6_undo : MethodName := ⟨RX6, "undo", "()I"⟩
abbrev cX6_type : ByteArray := prog_1_method_21_code
def yX6_type : MethodName := ⟨RX6, "type", "(I)I"⟩
abbrev cX6_clearText : ByteArray := prog_1_method_22_code
def yX6_clearText : MethodName := ⟨RX6, "clearText", "()I"⟩
abbrev cX6_fault : ByteArray := prog_1_method_23_code
def yX6_fault : MethodName := ⟨RX6, "fault", "(I)I"⟩
abbrev cX6_play : ByteArray := prog_1_method_24_code
def yX6_play : MethodName := ⟨RX6, "play", "()I"⟩
abbrev cX6_isWithin : ByteArray := prog_1_method_25_code
def yX6_isWithin : MethodName := ⟨RX6, "isWithin", "(III)Z"⟩
abbrev cX6_changed : ByteArray := prog_1_method_26_code
def yX6_changed : MethodName := ⟨RX6, "changed", "(I)I"⟩
abbrev cX6_placeOf : ByteArray := prog_1_method_27_code
def yX6_placeOf : MethodName := ⟨RX6, "placeOf", "(LFreightSplits$Vehicle;)I"⟩
abbrev cX6_settingCount : ByteArray := prog_1_method_28_code
def yX6_settingCount : MethodName := ⟨RX6, "settingCount", "(I)I"⟩
abbrev cX6_tryText : ByteArray := prog_1_method_29_code
def yX6_tryText : MethodName := ⟨RX6, "tryText", "()I"⟩
abbrev cX6_reasonOf : ByteArray := prog_1_method_30_code
def yX6_reasonOf : MethodName := ⟨RX6, "reasonOf", "(I)I"⟩
abbrev cX6_perform : ByteArray := prog_1_method_31_code
def yX6_perform : MethodName := ⟨RX6, "perform", "()I"⟩
def RX7 : String := "FreightSplitsModel"
def TX7 : u_T := fun k => match k with
  | 0 => ("FreightSplitsModel", "s", "[I", true)
  | 1 => ("FreightSplitsModel", "past", "[I", true)
  | 2 => ("FreightSplitsModel", "held", "[I", true)
  | 3 => ("FreightSplitsModel", "tried", "[I", true)
  | 4 => ("FreightSplitsModel", "pasts", "I", false)
  | 5 => ("FreightSplitsModel", "runs", "Z", false)
  | 6 => ("FreightSplitsModel", "text", "[I", true)
  | 7 => ("FreightSplitsModel", "typed", "I", false)
  | 8 => ("FreightSplitsModel", "words", "[J", true)
  | 9 => ("FreightSplitsModel", "numbers", "[I", true)
  | 10 => ("FreightSplitsModel", "spot", "I", false)
  | 11 => ("FreightSplitsModel", "cause", "I", false)
  | 12 => ("FreightSplitsModel", "commands", "I", false)
  | _ => ("FreightSplitsModel", "told", "[I", true)
def tyX7 : Nat → FieldType := fun k => match k with
  | 0 => .array .int
  | 1 => .array .int
  | 2 => .array .int
  | 3 => .array .int
  | 4 => .int
  | 5 => .boolean
  | 6 => .array .int
  | 7 => .int
  | 8 => .array .long
  | 9 => .array .int
  | 10 => .int
  | 11 => .int
  | 12 => .int
  | _ => .array .int
abbrev wsX70 : List Cond := u_ws RX7 TX7 14
theorem nmX7 : ∀ a, a < 14 → ∀ b, b < 14 → a ≠ b → (TX7 a).2.1 ≠ (TX7 b).2.1 := by decide +kernel
theorem tyX7_ok : ∀ k, k < 14 → parseFieldDescriptor (TX7 k).2.2.1 = some (tyX7 k) := by decide +kernel
abbrev cX7_init : ByteArray := prog_9_method_1_code
def yX7_init : MethodName := ⟨RX7, "<init>", "()V"⟩
abbrev cX7_in : ByteArray := prog_9_method_3_code
def yX7_in : MethodName := ⟨RX7, "in", "(III)Z"⟩
abbrev cX7_copies : ByteArray := prog_9_method_4_code
def yX7_copies : MethodName := ⟨RX7, "copies", "([I[I)V"⟩
abbrev cX7_changes : ByteArray := prog_9_method_5_code
def yX7_changes : MethodName := ⟨RX7, "changes", "()V"⟩
abbrev cX7_of : ByteArray := prog_9_method_6_code
def yX7_of : MethodName := ⟨RX7, "of", "(II)I"⟩
abbrev cX7_puts : ByteArray := prog_9_method_7_code
def yX7_puts : MethodName := ⟨RX7, "puts", "(III)V"⟩
abbrev cX7_ofVehicle : ByteArray := prog_9_method_8_code
def yX7_ofVehicle : MethodName := ⟨RX7, "ofVehicle", "(II)I"⟩
abbrev cX7_putsVehicle : ByteArray := prog_9_method_9_code
def yX7_putsVehicle : MethodName := ⟨RX7, "putsVehicle", "(III)V"⟩
abbrev cX7_ofOffer : ByteArray := prog_9_method_10_code
def yX7_ofOffer : MethodName := ⟨RX7, "ofOffer", "(II)I"⟩
abbrev cX7_isGoods : ByteArray := prog_9_method_11_code
def yX7_isGoods : MethodName := ⟨RX7, "isGoods", "(I)Z"⟩
abbrev cX7_isVehicle : ByteArray := prog_9_method_12_code
def yX7_isVehicle : MethodName := ⟨RX7, "isVehicle", "(I)Z"⟩
abbrev cX7_isHere : ByteArray := prog_9_method_13_code
def yX7_isHere : MethodName := ⟨RX7, "isHere", "(I)Z"⟩
abbrev cX7_makes : ByteArray := prog_9_method_14_code
def yX7_makes : MethodName := ⟨RX7, "makes", "(IIIIII)I"⟩
abbrev cX7_consign : ByteArray := prog_9_method_15_code
def yX7_consign : MethodName := ⟨RX7, "consign", "(IIIIII)I"⟩
abbrev cX7_split : ByteArray := prog_9_method_16_code
def yX7_split : MethodName := ⟨RX7, "split", "(III)I"⟩
abbrev cX7_join : ByteArray := prog_9_method_17_code
def yX7_join : MethodName := ⟨RX7, "join", "(II)I"⟩
abbrev cX7_vehicle : ByteArray := prog_9_method_18_code
def yX7_vehicle : MethodName := ⟨RX7, "vehicle", "(II)I"⟩
abbrev cX7_isIn : ByteArray := prog_9_method_19_code
def yX7_isIn : MethodName := ⟨RX7, "isIn", "(II)Z"⟩
abbrev cX7_loaded : ByteArray := prog_9_method_20_code
def yX7_loaded : MethodName := ⟨RX7, "loaded", "(II)I"⟩
abbrev cX7_loadSet : ByteArray := prog_9_method_21_code
def yX7_loadSet : MethodName := ⟨RX7, "loadSet", "(I)I"⟩
abbrev cX7_goal : ByteArray := prog_9_method_22_code
def yX7_goal : MethodName := ⟨RX7, "goal", "(I)I"⟩
abbrev cX7_canLoad : ByteArray := prog_9_method_23_code
def yX7_canLoad : MethodName := ⟨RX7, "canLoad", "(II)Z"⟩
abbrev cX7_loads : ByteArray := prog_9_method_24_code
def yX7_loads : MethodName := ⟨RX7, "loads", "(II)V"⟩
abbrev cX7_load : ByteArray := prog_9_method_25_code
def yX7_load : MethodName := ⟨RX7, "load", "(II)I"⟩
abbrev cX7_unload : ByteArray := prog_9_method_26_code
def yX7_unload : MethodName := ⟨RX7, "unload", "(I)I"⟩
abbrev cX7_isAhead : ByteArray := prog_9_method_27_code
def yX7_isAhead : MethodName := ⟨RX7, "isAhead", "(III)Z"⟩
abbrev cX7_fills : ByteArray := prog_9_method_28_code
def yX7_fills : MethodName := ⟨RX7, "fills", "(III)I"⟩
abbrev cX7_bits : ByteArray := prog_9_method_29_code
def yX7_bits : MethodName := ⟨RX7, "bits", "(I)I"⟩
abbrev cX7_fill : ByteArray := prog_9_method_30_code
def yX7_fill : MethodName := ⟨RX7, "fill", "(III)I"⟩
abbrev cX7_depart : ByteArray := prog_9_method_31_code
def yX7_depart : MethodName := ⟨RX7, "depart", "(I)I"⟩
abbrev cX7_offer : ByteArray := prog_9_method_32_code
def yX7_offer : MethodName := ⟨RX7, "offer", "(IIIII)I"⟩
abbrev cX7_dropsOffer : ByteArray := prog_9_method_33_code
def yX7_dropsOffer : MethodName := ⟨RX7, "dropsOffer", "(I)V"⟩
abbrev cX7_takes : ByteArray := prog_9_method_34_code
def yX7_takes : MethodName := ⟨RX7, "takes", "(III)I"⟩
abbrev cX7_arrives : ByteArray := prog_9_method_35_code
def yX7_arrives : MethodName := ⟨RX7, "arrives", "(I)I"⟩
abbrev cX7_returns : ByteArray := prog_9_method_36_code
def yX7_returns : MethodName := ⟨RX7, "returns", "(I)V"⟩
abbrev cX7_hour : ByteArray := prog_9_method_37_code
def yX7_hour : MethodName := ⟨RX7, "hour", "()I"⟩
abbrev cX7_pass : ByteArray := prog_9_method_38_code
def yX7_pass : MethodName := ⟨RX7, "pass", "(I)I"⟩
abbrev cX7_set : ByteArray := prog_9_method_39_code
def yX7_set : MethodName := ⟨RX7, "set", "(II)I"⟩
abbrev cX7_parts : ByteArray := prog_9_method_40_code
def yX7_parts : MethodName := ⟨RX7, "parts", "(I)I"⟩
abbrev cX7_consignmentOf : ByteArray := prog_9_method_41_code
def yX7_consignmentOf : MethodName := ⟨RX7, "consignmentOf", "(II)I"⟩
abbrev cX7_vehicleOf : ByteArray := prog_9_method_42_code
def yX7_vehicleOf : MethodName := ⟨RX7, "vehicleOf", "(II)I"⟩
abbrev cX7_offerOf : ByteArray := prog_9_method_43_code
def yX7_offerOf : MethodName := ⟨RX7, "offerOf", "(II)I"⟩
abbrev cX7_here : ByteArray := prog_9_method_44_code
def yX7_here : MethodName := ⟨RX7, "here", "()I"⟩
abbrev cX7_count : ByteArray := prog_9_method_45_code
def yX7_count : MethodName := ⟨RX7, "count", "(I)I"⟩
abbrev cX7_wouldFill : ByteArray := prog_9_method_46_code
def yX7_wouldFill : MethodName := ⟨RX7, "wouldFill", "(III)I"⟩
abbrev cX7_wouldEarn : ByteArray := prog_9_method_47_code
def yX7_wouldEarn : MethodName := ⟨RX7, "wouldEarn", "(I)I"⟩
abbrev cX7_hopeless : ByteArray := prog_9_method_48_code
def yX7_hopeless : MethodName := ⟨RX7, "hopeless", "()I"⟩
abbrev cX7_undo : ByteArray := prog_9_method_49_code
def yX7_undo : MethodName := ⟨RX7, "undo", "()I"⟩
abbrev cX7_type : ByteArray := prog_9_method_50_code
def yX7_type : MethodName := ⟨RX7, "type", "(I)I"⟩
abbrev cX7_clearText : ByteArray := prog_9_method_51_code
def yX7_clearText : MethodName := ⟨RX7, "clearText", "()I"⟩
abbrev cX7_isAt : ByteArray := prog_9_method_52_code
def yX7_isAt : MethodName := ⟨RX7, "isAt", "(II)Z"⟩
abbrev cX7_passes : ByteArray := prog_9_method_53_code
def yX7_passes : MethodName := ⟨RX7, "passes", "(I)Z"⟩
abbrev cX7_word : ByteArray := prog_9_method_54_code
def yX7_word : MethodName := ⟨RX7, "word", "()I"⟩
abbrev cX7_number : ByteArray := prog_9_method_55_code
def yX7_number : MethodName := ⟨RX7, "number", "(I)Z"⟩
abbrev cX7_reads : ByteArray := prog_9_method_56_code
def yX7_reads : MethodName := ⟨RX7, "reads", "()I"⟩
abbrev cX7_calls : ByteArray := prog_9_method_57_code
def yX7_calls : MethodName := ⟨RX7, "calls", "(I)I"⟩
abbrev cX7_plays : ByteArray := prog_9_method_58_code
def yX7_plays : MethodName := ⟨RX7, "plays", "()I"⟩
abbrev cX7_fault : ByteArray := prog_9_method_59_code
def yX7_fault : MethodName := ⟨RX7, "fault", "(I)I"⟩
abbrev cX7_play : ByteArray := prog_9_method_60_code
def yX7_play : MethodName := ⟨RX7, "play", "()I"⟩
def RJ6 : String := "java/lang/Integer"
def TJ6 : u_T := fun k => match k with
  | _ => ("", "", "", false)
def tyJ6 : Nat → FieldType := fun k => match k with
  | _ => .int
abbrev wsJ60 : List Cond := u_ws RJ6 TJ6 0
theorem nmJ6 : ∀ a, a < 0 → ∀ b, b < 0 → a ≠ b → (TJ6 a).2.1 ≠ (TJ6 b).2.1 := by decide +kernel
theorem tyJ6_ok : ∀ k, k < 0 → parseFieldDescriptor (TJ6 k).2.2.1 = some (tyJ6 k) := by decide +kernel
abbrev cJ6_bitCount_0f7a4 : ByteArray := prog_10_method_49_code
def yJ6_bitCount_0f7a4 : MethodName := ⟨RJ6, "bitCount", "(I)I"⟩
def RJ9 : String := "java/lang/Math"
def TJ9 : u_T := fun k => match k with
  | _ => ("", "", "", false)
def tyJ9 : Nat → FieldType := fun k => match k with
  | _ => .int
abbrev wsJ90 : List Cond := u_ws RJ9 TJ9 0
theorem nmJ9 : ∀ a, a < 0 → ∀ b, b < 0 → a ≠ b → (TJ9 a).2.1 ≠ (TJ9 b).2.1 := by decide +kernel
theorem tyJ9_ok : ∀ k, k < 0 → parseFieldDescriptor (TJ9 k).2.2.1 = some (tyJ9 k) := by decide +kernel
abbrev cJ9_max_7cf53 : ByteArray := prog_11_method_65_code
def yJ9_max_7cf53 : MethodName := ⟨RJ9, "max", "(II)I"⟩
abbrev cJ9_min_7cf53 : ByteArray := prog_11_method_69_code
def yJ9_min_7cf53 : MethodName := ⟨RJ9, "min", "(II)I"⟩
def RJ0 : String := "java/lang/String"
def TJ0 : u_T := fun k => match k with
  | _ => ("", "", "", false)
def tyJ0 : Nat → FieldType := fun k => match k with
  | _ => .int
abbrev wsJ00 : List Cond := u_ws RJ0 TJ0 0
theorem nmJ0 : ∀ a, a < 0 → ∀ b, b < 0 → a ≠ b → (TJ0 a).2.1 ≠ (TJ0 b).2.1 := by decide +kernel
theorem tyJ0_ok : ∀ k, k < 0 → parseFieldDescriptor (TJ0 k).2.2.1 = some (tyJ0 k) := by decide +kernel
abbrev cJ0_length_8abf5 : ByteArray := prog_12_method_54_code
def yJ0_length_8abf5 : MethodName := ⟨RJ0, "length", "()I"⟩
abbrev cJ0_charAt_5068e : ByteArray := prog_12_method_56_code
def yJ0_charAt_5068e : MethodName := ⟨RJ0, "charAt", "(I)C"⟩
abbrev cJ0_coder_7d493 : ByteArray := prog_12_method_152_code
def yJ0_coder_7d493 : MethodName := ⟨RJ0, "coder", "()B"⟩
abbrev cJ0_isLatin1_aae02 : ByteArray := prog_12_method_154_code
def yJ0_isLatin1_aae02 : MethodName := ⟨RJ0, "isLatin1", "()Z"⟩
abbrev cJ0_checkIndex_df160 : ByteArray := prog_12_method_155_code
def yJ0_checkIndex_df160 : MethodName := ⟨RJ0, "checkIndex", "(II)V"⟩
def RJ1 : String := "java/lang/StringLatin1"
def TJ1 : u_T := fun k => match k with
  | _ => ("", "", "", false)
def tyJ1 : Nat → FieldType := fun k => match k with
  | _ => .int
abbrev wsJ10 : List Cond := u_ws RJ1 TJ1 0
theorem nmJ1 : ∀ a, a < 0 → ∀ b, b < 0 → a ≠ b → (TJ1 a).2.1 ≠ (TJ1 b).2.1 := by decide +kernel
theorem tyJ1_ok : ∀ k, k < 0 → parseFieldDescriptor (TJ1 k).2.2.1 = some (tyJ1 k) := by decide +kernel
abbrev cJ1_charAt_3b067 : ByteArray := prog_13_method_2_code
def yJ1_charAt_3b067 : MethodName := ⟨RJ1, "charAt", "([BI)C"⟩
def RJ2 : String := "java/lang/StringUTF16"
def TJ2 : u_T := fun k => match k with
  | _ => ("", "", "", false)
def tyJ2 : Nat → FieldType := fun k => match k with
  | _ => .int
abbrev wsJ20 : List Cond := u_ws RJ2 TJ2 0
theorem nmJ2 : ∀ a, a < 0 → ∀ b, b < 0 → a ≠ b → (TJ2 a).2.1 ≠ (TJ2 b).2.1 := by decide +kernel
theorem tyJ2_ok : ∀ k, k < 0 → parseFieldDescriptor (TJ2 k).2.2.1 = some (tyJ2 k) := by decide +kernel
abbrev cJ2_getChar_3b067 : ByteArray := prog_14_method_5_code
def yJ2_getChar_3b067 : MethodName := ⟨RJ2, "getChar", "([BI)C"⟩
abbrev cJ2_length_9d52b : ByteArray := prog_14_method_6_code
def yJ2_length_9d52b : MethodName := ⟨RJ2, "length", "([B)I"⟩
abbrev cJ2_charAt_3b067 : ByteArray := prog_14_method_83_code
def yJ2_charAt_3b067 : MethodName := ⟨RJ2, "charAt", "([BI)C"⟩
abbrev cJ2_checkIndex_2214a : ByteArray := prog_14_method_91_code
def yJ2_checkIndex_2214a : MethodName := ⟨RJ2, "checkIndex", "(I[B)V"⟩
def RJ10 : String := "java/lang/System"
def TJ10 : u_T := fun k => match k with
  | _ => ("", "", "", false)
def tyJ10 : Nat → FieldType := fun k => match k with
  | _ => .int
abbrev wsJ100 : List Cond := u_ws RJ10 TJ10 0
theorem nmJ10 : ∀ a, a < 0 → ∀ b, b < 0 → a ≠ b → (TJ10 a).2.1 ≠ (TJ10 b).2.1 := by decide +kernel
theorem tyJ10_ok : ∀ k, k < 0 → parseFieldDescriptor (TJ10 k).2.2.1 = some (tyJ10 k) := by decide +kernel
def RJ3 : String := "jdk/internal/util/Preconditions"
def TJ3 : u_T := fun k => match k with
  | _ => ("", "", "", false)
def tyJ3 : Nat → FieldType := fun k => match k with
  | _ => .int
abbrev wsJ30 : List Cond := u_ws RJ3 TJ3 0
theorem nmJ3 : ∀ a, a < 0 → ∀ b, b < 0 → a ≠ b → (TJ3 a).2.1 ≠ (TJ3 b).2.1 := by decide +kernel
theorem tyJ3_ok : ∀ k, k < 0 → parseFieldDescriptor (TJ3 k).2.2.1 = some (tyJ3 k) := by decide +kernel
abbrev cJ3_checkIndex_8e157 : ByteArray := prog_16_method_11_code
def yJ3_checkIndex_8e157 : MethodName := ⟨RJ3, "checkIndex", "(IILjava/util/function/BiFunction;)I"⟩
def RL : String := "FreightSplitsLaw"
abbrev cL_law : ByteArray := code
def yL_law : MethodName := ⟨RL, "law", "([I)Z"⟩
abbrev vwCl : List vw_C := [(RX0, TX0, 13), (RX1, TX1, 12), (RX2, TX2, 3), (RX3, TX3, 5), (RX4, TX4, 5), (RX5, TX5, 9), (RX6, TX6, 6), (RX7, TX7, 14)]
end
section
theorem dX7_init_0 : decode cX7_init 0 = .ok (.aload_n 0, 1) := by decide +kernel
theorem dX7_init_1 : decode cX7_init 1 = .ok (.invokespecial 1, 3) := by decide +kernel
theorem dX7_init_4 : decode cX7_init 4 = .ok (.aload_n 0, 1) := by decide +kernel
theorem dX7_init_5 : decode cX7_init 5 = .ok (.sipush 287, 3) := by decide +kernel
theorem dX7_init_8 : decode cX7_init 8 = .ok (.newarray .int, 2) := by decide +kernel
theorem dX7_init_10 : decode cX7_init 10 = .ok (.putfield 7, 3) := by decide +kernel
theorem dX7_init_13 : decode cX7_init 13 = .ok (.aload_n 0, 1) := by decide +kernel
theorem dX7_init_14 : decode cX7_init 14 = .ok (.sipush 1148, 3) := by decide +kernel
theorem dX7_init_17 : decode cX7_init 17 = .ok (.newarray .int, 2) := by decide +kernel
theorem dX7_init_19 : decode cX7_init 19 = .ok (.putfield 13, 3) := by decide +kernel
theorem dX7_init_22 : decode cX7_init 22 = .ok (.aload_n 0, 1) := by decide +kernel
theorem dX7_init_23 : decode cX7_init 23 = .ok (.sipush 287, 3) := by decide +kernel
theorem dX7_init_26 : decode cX7_init 26 = .ok (.newarray .int, 2) := by decide +kernel
theorem dX7_init_28 : decode cX7_init 28 = .ok (.putfield 16, 3) := by decide +kernel
theorem dX7_init_31 : decode cX7_init 31 = .ok (.aload_n 0, 1) := by decide +kernel
theorem dX7_init_32 : decode cX7_init 32 = .ok (.sipush 287, 3) := by decide +kernel
theorem dX7_init_35 : decode cX7_init 35 = .ok (.newarray .int, 2) := by decide +kernel
theorem dX7_init_37 : decode cX7_init 37 = .ok (.putfield 19, 3) := by decide +kernel
theorem dX7_init_40 : decode cX7_init 40 = .ok (.aload_n 0, 1) := by decide +kernel
theorem dX7_init_41 : decode cX7_init 41 = .ok (.bipush 80, 2) := by decide +kernel
theorem dX7_init_43 : decode cX7_init 43 = .ok (.newarray .int, 2) := by decide +kernel
theorem dX7_init_45 : decode cX7_init 45 = .ok (.putfield 22, 3) := by decide +kernel
theorem dX7_init_48 : decode cX7_init 48 = .ok (.aload_n 0, 1) := by decide +kernel
theorem dX7_init_49 : decode cX7_init 49 = .ok (.bipush 7, 2) := by decide +kernel
theorem dX7_init_51 : decode cX7_init 51 = .ok (.newarray .long, 2) := by decide +kernel
theorem dX7_init_53 : decode cX7_init 53 = .ok (.putfield 25, 3) := by decide +kernel
theorem dX7_init_56 : decode cX7_init 56 = .ok (.aload_n 0, 1) := by decide +kernel
theorem dX7_init_57 : decode cX7_init 57 = .ok (.bipush 7, 2) := by decide +kernel
theorem dX7_init_59 : decode cX7_init 59 = .ok (.newarray .int, 2) := by decide +kernel
theorem dX7_init_61 : decode cX7_init 61 = .ok (.putfield 29, 3) := by decide +kernel
theorem dX7_init_64 : decode cX7_init 64 = .ok (.aload_n 0, 1) := by decide +kernel
theorem dX7_init_65 : decode cX7_init 65 = .ok (.iconst 5, 1) := by decide +kernel
theorem dX7_init_66 : decode cX7_init 66 = .ok (.newarray .int, 2) := by decide +kernel
theorem dX7_init_68 : decode cX7_init 68 = .ok (.putfield 32, 3) := by decide +kernel
theorem dX7_init_71 : decode cX7_init 71 = .ok (.aload_n 0, 1) := by decide +kernel
theorem dX7_init_72 : decode cX7_init 72 = .ok (.getfield 7, 3) := by decide +kernel
theorem dX7_init_75 : decode cX7_init 75 = .ok (.iconst 0, 1) := by decide +kernel
theorem dX7_init_76 : decode cX7_init 76 = .ok (.iconst 3, 1) := by decide +kernel
theorem dX7_init_77 : decode cX7_init 77 = .ok (.iastore, 1) := by decide +kernel
theorem dX7_init_78 : decode cX7_init 78 = .ok (.aload_n 0, 1) := by decide +kernel
theorem dX7_init_79 : decode cX7_init 79 = .ok (.getfield 7, 3) := by decide +kernel
theorem dX7_init_82 : decode cX7_init 82 = .ok (.iconst 1, 1) := by decide +kernel
theorem dX7_init_83 : decode cX7_init 83 = .ok (.bipush 8, 2) := by decide +kernel
theorem dX7_init_85 : decode cX7_init 85 = .ok (.iastore, 1) := by decide +kernel
theorem dX7_init_86 : decode cX7_init 86 = .ok (.aload_n 0, 1) := by decide +kernel
theorem dX7_init_87 : decode cX7_init 87 = .ok (.getfield 7, 3) := by decide +kernel
theorem dX7_init_90 : decode cX7_init 90 = .ok (.iconst 2, 1) := by decide +kernel
theorem dX7_init_91 : decode cX7_init 91 = .ok (.iconst 1, 1) := by decide +kernel
theorem dX7_init_92 : decode cX7_init 92 = .ok (.iastore, 1) := by decide +kernel
theorem dX7_init_93 : decode cX7_init 93 = .ok (.aload_n 0, 1) := by decide +kernel
theorem dX7_init_94 : decode cX7_init 94 = .ok (.getfield 25, 3) := by decide +kernel
theorem dX7_init_97 : decode cX7_init 97 = .ok (.iconst 0, 1) := by decide +kernel
theorem dX7_init_98 : decode cX7_init 98 = .ok (.ldc2_w 35, 3) := by decide +kernel
theorem dX7_init_101 : decode cX7_init 101 = .ok (.lastore, 1) := by decide +kernel
theorem dX7_init_102 : decode cX7_init 102 = .ok (.aload_n 0, 1) := by decide +kernel
theorem dX7_init_103 : decode cX7_init 103 = .ok (.getfield 25, 3) := by decide +kernel
theorem dX7_init_106 : decode cX7_init 106 = .ok (.iconst 1, 1) := by decide +kernel
theorem dX7_init_107 : decode cX7_init 107 = .ok (.ldc2_w 37, 3) := by decide +kernel
theorem dX7_init_110 : decode cX7_init 110 = .ok (.lastore, 1) := by decide +kernel
theorem dX7_init_111 : decode cX7_init 111 = .ok (.aload_n 0, 1) := by decide +kernel
theorem dX7_init_112 : decode cX7_init 112 = .ok (.getfield 25, 3) := by decide +kernel
theorem dX7_init_115 : decode cX7_init 115 = .ok (.iconst 2, 1) := by decide +kernel
theorem dX7_init_116 : decode cX7_init 116 = .ok (.ldc2_w 39, 3) := by decide +kernel
theorem dX7_init_119 : decode cX7_init 119 = .ok (.lastore, 1) := by decide +kernel
theorem dX7_init_120 : decode cX7_init 120 = .ok (.aload_n 0, 1) := by decide +kernel
theorem dX7_init_121 : decode cX7_init 121 = .ok (.getfield 25, 3) := by decide +kernel
theorem dX7_init_124 : decode cX7_init 124 = .ok (.iconst 3, 1) := by decide +kernel
theorem dX7_init_125 : decode cX7_init 125 = .ok (.ldc2_w 41, 3) := by decide +kernel
theorem dX7_init_128 : decode cX7_init 128 = .ok (.lastore, 1) := by decide +kernel
theorem dX7_init_129 : decode cX7_init 129 = .ok (.aload_n 0, 1) := by decide +kernel
theorem dX7_init_130 : decode cX7_init 130 = .ok (.getfield 25, 3) := by decide +kernel
theorem dX7_init_133 : decode cX7_init 133 = .ok (.iconst 4, 1) := by decide +kernel
theorem dX7_init_134 : decode cX7_init 134 = .ok (.ldc2_w 43, 3) := by decide +kernel
theorem dX7_init_137 : decode cX7_init 137 = .ok (.lastore, 1) := by decide +kernel
theorem dX7_init_138 : decode cX7_init 138 = .ok (.aload_n 0, 1) := by decide +kernel
theorem dX7_init_139 : decode cX7_init 139 = .ok (.getfield 25, 3) := by decide +kernel
theorem dX7_init_142 : decode cX7_init 142 = .ok (.iconst 5, 1) := by decide +kernel
theorem dX7_init_143 : decode cX7_init 143 = .ok (.ldc2_w 45, 3) := by decide +kernel
theorem dX7_init_146 : decode cX7_init 146 = .ok (.lastore, 1) := by decide +kernel
theorem dX7_init_147 : decode cX7_init 147 = .ok (.aload_n 0, 1) := by decide +kernel
theorem dX7_init_148 : decode cX7_init 148 = .ok (.getfield 25, 3) := by decide +kernel
theorem dX7_init_151 : decode cX7_init 151 = .ok (.bipush 6, 2) := by decide +kernel
theorem dX7_init_153 : decode cX7_init 153 = .ok (.ldc2_w 47, 3) := by decide +kernel
theorem dX7_init_156 : decode cX7_init 156 = .ok (.lastore, 1) := by decide +kernel
theorem dX7_init_157 : decode cX7_init 157 = .ok (.aload_n 0, 1) := by decide +kernel
theorem dX7_init_158 : decode cX7_init 158 = .ok (.getfield 29, 3) := by decide +kernel
theorem dX7_init_161 : decode cX7_init 161 = .ok (.iconst 0, 1) := by decide +kernel
theorem dX7_init_162 : decode cX7_init 162 = .ok (.iconst 2, 1) := by decide +kernel
theorem dX7_init_163 : decode cX7_init 163 = .ok (.iastore, 1) := by decide +kernel
theorem dX7_init_164 : decode cX7_init 164 = .ok (.aload_n 0, 1) := by decide +kernel
theorem dX7_init_165 : decode cX7_init 165 = .ok (.getfield 29, 3) := by decide +kernel
theorem dX7_init_168 : decode cX7_init 168 = .ok (.iconst 1, 1) := by decide +kernel
theorem dX7_init_169 : decode cX7_init 169 = .ok (.iconst 3, 1) := by decide +kernel
theorem dX7_init_170 : decode cX7_init 170 = .ok (.iastore, 1) := by decide +kernel
theorem dX7_init_171 : decode cX7_init 171 = .ok (.aload_n 0, 1) := by decide +kernel
theorem dX7_init_172 : decode cX7_init 172 = .ok (.getfield 29, 3) := by decide +kernel
theorem dX7_init_175 : decode cX7_init 175 = .ok (.iconst 2, 1) := by decide +kernel
theorem dX7_init_176 : decode cX7_init 176 = .ok (.iconst 1, 1) := by decide +kernel
theorem dX7_init_177 : decode cX7_init 177 = .ok (.iastore, 1) := by decide +kernel
theorem dX7_init_178 : decode cX7_init 178 = .ok (.aload_n 0, 1) := by decide +kernel
theorem dX7_init_179 : decode cX7_init 179 = .ok (.getfield 29, 3) := by decide +kernel
theorem dX7_init_182 : decode cX7_init 182 = .ok (.iconst 3, 1) := by decide +kernel
theorem dX7_init_183 : decode cX7_init 183 = .ok (.iconst 3, 1) := by decide +kernel
theorem dX7_init_184 : decode cX7_init 184 = .ok (.iastore, 1) := by decide +kernel
theorem dX7_init_185 : decode cX7_init 185 = .ok (.aload_n 0, 1) := by decide +kernel
theorem dX7_init_186 : decode cX7_init 186 = .ok (.getfield 29, 3) := by decide +kernel
theorem dX7_init_189 : decode cX7_init 189 = .ok (.iconst 4, 1) := by decide +kernel
theorem dX7_init_190 : decode cX7_init 190 = .ok (.iconst 2, 1) := by decide +kernel
theorem dX7_init_191 : decode cX7_init 191 = .ok (.iastore, 1) := by decide +kernel
theorem dX7_init_192 : decode cX7_init 192 = .ok (.aload_n 0, 1) := by decide +kernel
theorem dX7_init_193 : decode cX7_init 193 = .ok (.getfield 29, 3) := by decide +kernel
theorem dX7_init_196 : decode cX7_init 196 = .ok (.iconst 5, 1) := by decide +kernel
theorem dX7_init_197 : decode cX7_init 197 = .ok (.iconst 5, 1) := by decide +kernel
theorem dX7_init_198 : decode cX7_init 198 = .ok (.iastore, 1) := by decide +kernel
theorem dX7_init_199 : decode cX7_init 199 = .ok (.aload_n 0, 1) := by decide +kernel
theorem dX7_init_200 : decode cX7_init 200 = .ok (.getfield 29, 3) := by decide +kernel
theorem dX7_init_203 : decode cX7_init 203 = .ok (.bipush 6, 2) := by decide +kernel
theorem dX7_init_205 : decode cX7_init 205 = .ok (.iconst 1, 1) := by decide +kernel
theorem dX7_init_206 : decode cX7_init 206 = .ok (.iastore, 1) := by decide +kernel
theorem dX7_init_207 : decode cX7_init 207 = .ok (.return_, 1) := by decide +kernel
theorem dX7_in_0 : decode cX7_in 0 = .ok (.iload_n 0, 1) := by decide +kernel
theorem dX7_in_1 : decode cX7_in 1 = .ok (.iload_n 1, 1) := by decide +kernel
theorem dX7_in_2 : decode cX7_in 2 = .ok (.if_icmp .lt 12, 3) := by decide +kernel
theorem dX7_in_5 : decode cX7_in 5 = .ok (.iload_n 0, 1) := by decide +kernel
theorem dX7_in_6 : decode cX7_in 6 = .ok (.iload_n 2, 1) := by decide +kernel
theorem dX7_in_7 : decode cX7_in 7 = .ok (.if_icmp .gt 7, 3) := by decide +kernel
theorem dX7_in_10 : decode cX7_in 10 = .ok (.iconst 1, 1) := by decide +kernel
theorem dX7_in_11 : decode cX7_in 11 = .ok (.goto 4, 3) := by decide +kernel
theorem dX7_in_14 : decode cX7_in 14 = .ok (.iconst 0, 1) := by decide +kernel
theorem dX7_in_15 : decode cX7_in 15 = .ok (.ireturn, 1) := by decide +kernel
theorem dX7_copies_0 : decode cX7_copies 0 = .ok (.iconst 0, 1) := by decide +kernel
theorem dX7_copies_1 : decode cX7_copies 1 = .ok (.istore_n 2, 1) := by decide +kernel
theorem dX7_copies_2 : decode cX7_copies 2 = .ok (.iload_n 2, 1) := by decide +kernel
theorem dX7_copies_3 : decode cX7_copies 3 = .ok (.sipush 287, 3) := by decide +kernel
theorem dX7_copies_6 : decode cX7_copies 6 = .ok (.if_icmp .ge 15, 3) := by decide +kernel
theorem dX7_copies_9 : decode cX7_copies 9 = .ok (.aload_n 1, 1) := by decide +kernel
theorem dX7_copies_10 : decode cX7_copies 10 = .ok (.iload_n 2, 1) := by decide +kernel
theorem dX7_copies_11 : decode cX7_copies 11 = .ok (.aload_n 0, 1) := by decide +kernel
theorem dX7_copies_12 : decode cX7_copies 12 = .ok (.iload_n 2, 1) := by decide +kernel
theorem dX7_copies_13 : decode cX7_copies 13 = .ok (.iaload, 1) := by decide +kernel
theorem dX7_copies_14 : decode cX7_copies 14 = .ok (.iastore, 1) := by decide +kernel
theorem dX7_copies_15 : decode cX7_copies 15 = .ok (.iinc 2 1, 3) := by decide +kernel
theorem dX7_copies_18 : decode cX7_copies 18 = .ok (.goto (-16), 3) := by decide +kernel
theorem dX7_copies_21 : decode cX7_copies 21 = .ok (.return_, 1) := by decide +kernel
theorem dX7_changes_0 : decode cX7_changes 0 = .ok (.aload_n 0, 1) := by decide +kernel
theorem dX7_changes_1 : decode cX7_changes 1 = .ok (.getfield 49, 3) := by decide +kernel
theorem dX7_changes_4 : decode cX7_changes 4 = .ok (.ifCond .eq 4, 3) := by decide +kernel
theorem dX7_changes_7 : decode cX7_changes 7 = .ok (.return_, 1) := by decide +kernel
theorem dX7_changes_8 : decode cX7_changes 8 = .ok (.aload_n 0, 1) := by decide +kernel
theorem dX7_changes_9 : decode cX7_changes 9 = .ok (.getfield 53, 3) := by decide +kernel
theorem dX7_changes_12 : decode cX7_changes 12 = .ok (.iconst 4, 1) := by decide +kernel
theorem dX7_changes_13 : decode cX7_changes 13 = .ok (.if_icmp .ne 44, 3) := by decide +kernel
theorem dX7_changes_16 : decode cX7_changes 16 = .ok (.iconst 0, 1) := by decide +kernel
theorem dX7_changes_17 : decode cX7_changes 17 = .ok (.istore_n 1, 1) := by decide +kernel
theorem dX7_changes_18 : decode cX7_changes 18 = .ok (.iload_n 1, 1) := by decide +kernel
theorem dX7_changes_19 : decode cX7_changes 19 = .ok (.sipush 861, 3) := by decide +kernel
theorem dX7_changes_22 : decode cX7_changes 22 = .ok (.if_icmp .ge 25, 3) := by decide +kernel
theorem dX7_changes_25 : decode cX7_changes 25 = .ok (.aload_n 0, 1) := by decide +kernel
theorem dX7_changes_26 : decode cX7_changes 26 = .ok (.getfield 13, 3) := by decide +kernel
theorem dX7_changes_29 : decode cX7_changes 29 = .ok (.iload_n 1, 1) := by decide +kernel
theorem dX7_changes_30 : decode cX7_changes 30 = .ok (.aload_n 0, 1) := by decide +kernel
theorem dX7_changes_31 : decode cX7_changes 31 = .ok (.getfield 13, 3) := by decide +kernel
theorem dX7_changes_34 : decode cX7_changes 34 = .ok (.iload_n 1, 1) := by decide +kernel
theorem dX7_changes_35 : decode cX7_changes 35 = .ok (.sipush 287, 3) := by decide +kernel
theorem dX7_changes_38 : decode cX7_changes 38 = .ok (.iadd, 1) := by decide +kernel
theorem dX7_changes_39 : decode cX7_changes 39 = .ok (.iaload, 1) := by decide +kernel
theorem dX7_changes_40 : decode cX7_changes 40 = .ok (.iastore, 1) := by decide +kernel
theorem dX7_changes_41 : decode cX7_changes 41 = .ok (.iinc 1 1, 3) := by decide +kernel
theorem dX7_changes_44 : decode cX7_changes 44 = .ok (.goto (-26), 3) := by decide +kernel
theorem dX7_changes_47 : decode cX7_changes 47 = .ok (.aload_n 0, 1) := by decide +kernel
theorem dX7_changes_48 : decode cX7_changes 48 = .ok (.dup, 1) := by decide +kernel
theorem dX7_changes_49 : decode cX7_changes 49 = .ok (.getfield 53, 3) := by decide +kernel
theorem dX7_changes_52 : decode cX7_changes 52 = .ok (.iconst 1, 1) := by decide +kernel
theorem dX7_changes_53 : decode cX7_changes 53 = .ok (.isub, 1) := by decide +kernel
theorem dX7_changes_54 : decode cX7_changes 54 = .ok (.putfield 53, 3) := by decide +kernel
theorem dX7_changes_57 : decode cX7_changes 57 = .ok (.iconst 0, 1) := by decide +kernel
theorem dX7_changes_58 : decode cX7_changes 58 = .ok (.istore_n 1, 1) := by decide +kernel
theorem dX7_changes_59 : decode cX7_changes 59 = .ok (.iload_n 1, 1) := by decide +kernel
theorem dX7_changes_60 : decode cX7_changes 60 = .ok (.sipush 287, 3) := by decide +kernel
theorem dX7_changes_63 : decode cX7_changes 63 = .ok (.if_icmp .ge 30, 3) := by decide +kernel
theorem dX7_changes_66 : decode cX7_changes 66 = .ok (.aload_n 0, 1) := by decide +kernel
theorem dX7_changes_67 : decode cX7_changes 67 = .ok (.getfield 13, 3) := by decide +kernel
theorem dX7_changes_70 : decode cX7_changes 70 = .ok (.sipush 287, 3) := by decide +kernel
theorem dX7_changes_73 : decode cX7_changes 73 = .ok (.aload_n 0, 1) := by decide +kernel
theorem dX7_changes_74 : decode cX7_changes 74 = .ok (.getfield 53, 3) := by decide +kernel
theorem dX7_changes_77 : decode cX7_changes 77 = .ok (.imul, 1) := by decide +kernel
theorem dX7_changes_78 : decode cX7_changes 78 = .ok (.iload_n 1, 1) := by decide +kernel
theorem dX7_changes_79 : decode cX7_changes 79 = .ok (.iadd, 1) := by decide +kernel
theorem dX7_changes_80 : decode cX7_changes 80 = .ok (.aload_n 0, 1) := by decide +kernel
theorem dX7_changes_81 : decode cX7_changes 81 = .ok (.getfield 7, 3) := by decide +kernel
theorem dX7_changes_84 : decode cX7_changes 84 = .ok (.iload_n 1, 1) := by decide +kernel
theorem dX7_changes_85 : decode cX7_changes 85 = .ok (.iaload, 1) := by decide +kernel
theorem dX7_changes_86 : decode cX7_changes 86 = .ok (.iastore, 1) := by decide +kernel
theorem dX7_changes_87 : decode cX7_changes 87 = .ok (.iinc 1 1, 3) := by decide +kernel
theorem dX7_changes_90 : decode cX7_changes 90 = .ok (.goto (-31), 3) := by decide +kernel
theorem dX7_changes_93 : decode cX7_changes 93 = .ok (.aload_n 0, 1) := by decide +kernel
theorem dX7_changes_94 : decode cX7_changes 94 = .ok (.dup, 1) := by decide +kernel
theorem dX7_changes_95 : decode cX7_changes 95 = .ok (.getfield 53, 3) := by decide +kernel
theorem dX7_changes_98 : decode cX7_changes 98 = .ok (.iconst 1, 1) := by decide +kernel
theorem dX7_changes_99 : decode cX7_changes 99 = .ok (.iadd, 1) := by decide +kernel
theorem dX7_changes_100 : decode cX7_changes 100 = .ok (.putfield 53, 3) := by decide +kernel
theorem dX7_changes_103 : decode cX7_changes 103 = .ok (.return_, 1) := by decide +kernel
theorem dX7_of_0 : decode cX7_of 0 = .ok (.aload_n 0, 1) := by decide +kernel
theorem dX7_of_1 : decode cX7_of 1 = .ok (.getfield 7, 3) := by decide +kernel
theorem dX7_of_4 : decode cX7_of 4 = .ok (.bipush 13, 2) := by decide +kernel
theorem dX7_of_6 : decode cX7_of 6 = .ok (.bipush 12, 2) := by decide +kernel
theorem dX7_of_8 : decode cX7_of 8 = .ok (.iload_n 1, 1) := by decide +kernel
theorem dX7_of_9 : decode cX7_of 9 = .ok (.imul, 1) := by decide +kernel
theorem dX7_of_10 : decode cX7_of 10 = .ok (.iadd, 1) := by decide +kernel
theorem dX7_of_11 : decode cX7_of 11 = .ok (.iload_n 2, 1) := by decide +kernel
theorem dX7_of_12 : decode cX7_of 12 = .ok (.iadd, 1) := by decide +kernel
theorem dX7_of_13 : decode cX7_of 13 = .ok (.iaload, 1) := by decide +kernel
theorem dX7_of_14 : decode cX7_of 14 = .ok (.ireturn, 1) := by decide +kernel
theorem dX7_puts_0 : decode cX7_puts 0 = .ok (.aload_n 0, 1) := by decide +kernel
theorem dX7_puts_1 : decode cX7_puts 1 = .ok (.getfield 7, 3) := by decide +kernel
theorem dX7_puts_4 : decode cX7_puts 4 = .ok (.bipush 13, 2) := by decide +kernel
theorem dX7_puts_6 : decode cX7_puts 6 = .ok (.bipush 12, 2) := by decide +kernel
theorem dX7_puts_8 : decode cX7_puts 8 = .ok (.iload_n 1, 1) := by decide +kernel
theorem dX7_puts_9 : decode cX7_puts 9 = .ok (.imul, 1) := by decide +kernel
theorem dX7_puts_10 : decode cX7_puts 10 = .ok (.iadd, 1) := by decide +kernel
theorem dX7_puts_11 : decode cX7_puts 11 = .ok (.iload_n 2, 1) := by decide +kernel
theorem dX7_puts_12 : decode cX7_puts 12 = .ok (.iadd, 1) := by decide +kernel
theorem dX7_puts_13 : decode cX7_puts 13 = .ok (.iload_n 3, 1) := by decide +kernel
theorem dX7_puts_14 : decode cX7_puts 14 = .ok (.iastore, 1) := by decide +kernel
theorem dX7_puts_15 : decode cX7_puts 15 = .ok (.return_, 1) := by decide +kernel
theorem dX7_ofVehicle_0 : decode cX7_ofVehicle 0 = .ok (.aload_n 0, 1) := by decide +kernel
theorem dX7_ofVehicle_1 : decode cX7_ofVehicle 1 = .ok (.getfield 7, 3) := by decide +kernel
theorem dX7_ofVehicle_4 : decode cX7_ofVehicle 4 = .ok (.sipush 205, 3) := by decide +kernel
theorem dX7_ofVehicle_7 : decode cX7_ofVehicle 7 = .ok (.bipush 8, 2) := by decide +kernel
theorem dX7_ofVehicle_9 : decode cX7_ofVehicle 9 = .ok (.iload_n 1, 1) := by decide +kernel
theorem dX7_ofVehicle_10 : decode cX7_ofVehicle 10 = .ok (.imul, 1) := by decide +kernel
theorem dX7_ofVehicle_11 : decode cX7_ofVehicle 11 = .ok (.iadd, 1) := by decide +kernel
theorem dX7_ofVehicle_12 : decode cX7_ofVehicle 12 = .ok (.iload_n 2, 1) := by decide +kernel
theorem dX7_ofVehicle_13 : decode cX7_ofVehicle 13 = .ok (.iadd, 1) := by decide +kernel
theorem dX7_ofVehicle_14 : decode cX7_ofVehicle 14 = .ok (.iaload, 1) := by decide +kernel
theorem dX7_ofVehicle_15 : decode cX7_ofVehicle 15 = .ok (.ireturn, 1) := by decide +kernel
theorem dX7_putsVehicle_0 : decode cX7_putsVehicle 0 = .ok (.aload_n 0, 1) := by decide +kernel
theorem dX7_putsVehicle_1 : decode cX7_putsVehicle 1 = .ok (.getfield 7, 3) := by decide +kernel
theorem dX7_putsVehicle_4 : decode cX7_putsVehicle 4 = .ok (.sipush 205, 3) := by decide +kernel
theorem dX7_putsVehicle_7 : decode cX7_putsVehicle 7 = .ok (.bipush 8, 2) := by decide +kernel
theorem dX7_putsVehicle_9 : decode cX7_putsVehicle 9 = .ok (.iload_n 1, 1) := by decide +kernel
theorem dX7_putsVehicle_10 : decode cX7_putsVehicle 10 = .ok (.imul, 1) := by decide +kernel
theorem dX7_putsVehicle_11 : decode cX7_putsVehicle 11 = .ok (.iadd, 1) := by decide +kernel
theorem dX7_putsVehicle_12 : decode cX7_putsVehicle 12 = .ok (.iload_n 2, 1) := by decide +kernel
theorem dX7_putsVehicle_13 : decode cX7_putsVehicle 13 = .ok (.iadd, 1) := by decide +kernel
theorem dX7_putsVehicle_14 : decode cX7_putsVehicle 14 = .ok (.iload_n 3, 1) := by decide +kernel
theorem dX7_putsVehicle_15 : decode cX7_putsVehicle 15 = .ok (.iastore, 1) := by decide +kernel
theorem dX7_putsVehicle_16 : decode cX7_putsVehicle 16 = .ok (.return_, 1) := by decide +kernel
theorem dX7_ofOffer_0 : decode cX7_ofOffer 0 = .ok (.aload_n 0, 1) := by decide +kernel
theorem dX7_ofOffer_1 : decode cX7_ofOffer 1 = .ok (.getfield 7, 3) := by decide +kernel
theorem dX7_ofOffer_4 : decode cX7_ofOffer 4 = .ok (.sipush 237, 3) := by decide +kernel
theorem dX7_ofOffer_7 : decode cX7_ofOffer 7 = .ok (.iconst 5, 1) := by decide +kernel
theorem dX7_ofOffer_8 : decode cX7_ofOffer 8 = .ok (.iload_n 1, 1) := by decide +kernel
theorem dX7_ofOffer_9 : decode cX7_ofOffer 9 = .ok (.imul, 1) := by decide +kernel
theorem dX7_ofOffer_10 : decode cX7_ofOffer 10 = .ok (.iadd, 1) := by decide +kernel
theorem dX7_ofOffer_11 : decode cX7_ofOffer 11 = .ok (.iload_n 2, 1) := by decide +kernel
theorem dX7_ofOffer_12 : decode cX7_ofOffer 12 = .ok (.iadd, 1) := by decide +kernel
theorem dX7_ofOffer_13 : decode cX7_ofOffer 13 = .ok (.iaload, 1) := by decide +kernel
theorem dX7_ofOffer_14 : decode cX7_ofOffer 14 = .ok (.ireturn, 1) := by decide +kernel
theorem dX7_isGoods_0 : decode cX7_isGoods 0 = .ok (.iload_n 1, 1) := by decide +kernel
theorem dX7_isGoods_1 : decode cX7_isGoods 1 = .ok (.ifCond .lt 28, 3) := by decide +kernel
theorem dX7_isGoods_4 : decode cX7_isGoods 4 = .ok (.iload_n 1, 1) := by decide +kernel
theorem dX7_isGoods_5 : decode cX7_isGoods 5 = .ok (.aload_n 0, 1) := by decide +kernel
theorem dX7_isGoods_6 : decode cX7_isGoods 6 = .ok (.getfield 7, 3) := by decide +kernel
theorem dX7_isGoods_9 : decode cX7_isGoods 9 = .ok (.iconst 3, 1) := by decide +kernel
theorem dX7_isGoods_10 : decode cX7_isGoods 10 = .ok (.iaload, 1) := by decide +kernel
theorem dX7_isGoods_11 : decode cX7_isGoods 11 = .ok (.if_icmp .ge 18, 3) := by decide +kernel
theorem dX7_isGoods_14 : decode cX7_isGoods 14 = .ok (.aload_n 0, 1) := by decide +kernel
theorem dX7_isGoods_15 : decode cX7_isGoods 15 = .ok (.iload_n 1, 1) := by decide +kernel
theorem dX7_isGoods_16 : decode cX7_isGoods 16 = .ok (.bipush 6, 2) := by decide +kernel
theorem dX7_isGoods_18 : decode cX7_isGoods 18 = .ok (.invokevirtual 57, 3) := by decide +kernel
theorem dX7_isGoods_21 : decode cX7_isGoods 21 = .ok (.iconst 5, 1) := by decide +kernel
theorem dX7_isGoods_22 : decode cX7_isGoods 22 = .ok (.if_icmp .eq 7, 3) := by decide +kernel
theorem dX7_isGoods_25 : decode cX7_isGoods 25 = .ok (.iconst 1, 1) := by decide +kernel
theorem dX7_isGoods_26 : decode cX7_isGoods 26 = .ok (.goto 4, 3) := by decide +kernel
theorem dX7_isGoods_29 : decode cX7_isGoods 29 = .ok (.iconst 0, 1) := by decide +kernel
theorem dX7_isGoods_30 : decode cX7_isGoods 30 = .ok (.ireturn, 1) := by decide +kernel
theorem dX7_isVehicle_0 : decode cX7_isVehicle 0 = .ok (.iload_n 1, 1) := by decide +kernel
theorem dX7_isVehicle_1 : decode cX7_isVehicle 1 = .ok (.ifCond .lt 17, 3) := by decide +kernel
theorem dX7_isVehicle_4 : decode cX7_isVehicle 4 = .ok (.iload_n 1, 1) := by decide +kernel
theorem dX7_isVehicle_5 : decode cX7_isVehicle 5 = .ok (.aload_n 0, 1) := by decide +kernel
theorem dX7_isVehicle_6 : decode cX7_isVehicle 6 = .ok (.getfield 7, 3) := by decide +kernel
theorem dX7_isVehicle_9 : decode cX7_isVehicle 9 = .ok (.iconst 4, 1) := by decide +kernel
theorem dX7_isVehicle_10 : decode cX7_isVehicle 10 = .ok (.iaload, 1) := by decide +kernel
theorem dX7_isVehicle_11 : decode cX7_isVehicle 11 = .ok (.if_icmp .ge 7, 3) := by decide +kernel
theorem dX7_isVehicle_14 : decode cX7_isVehicle 14 = .ok (.iconst 1, 1) := by decide +kernel
theorem dX7_isVehicle_15 : decode cX7_isVehicle 15 = .ok (.goto 4, 3) := by decide +kernel
theorem dX7_isVehicle_18 : decode cX7_isVehicle 18 = .ok (.iconst 0, 1) := by decide +kernel
theorem dX7_isVehicle_19 : decode cX7_isVehicle 19 = .ok (.ireturn, 1) := by decide +kernel
theorem dX7_isHere_0 : decode cX7_isHere 0 = .ok (.aload_n 0, 1) := by decide +kernel
theorem dX7_isHere_1 : decode cX7_isHere 1 = .ok (.iload_n 1, 1) := by decide +kernel
theorem dX7_isHere_2 : decode cX7_isHere 2 = .ok (.invokevirtual 61, 3) := by decide +kernel
theorem dX7_isHere_5 : decode cX7_isHere 5 = .ok (.ifCond .eq 18, 3) := by decide +kernel
theorem dX7_isHere_8 : decode cX7_isHere 8 = .ok (.aload_n 0, 1) := by decide +kernel
theorem dX7_isHere_9 : decode cX7_isHere 9 = .ok (.iload_n 1, 1) := by decide +kernel
theorem dX7_isHere_10 : decode cX7_isHere 10 = .ok (.bipush 6, 2) := by decide +kernel
theorem dX7_isHere_12 : decode cX7_isHere 12 = .ok (.invokevirtual 57, 3) := by decide +kernel
theorem dX7_isHere_15 : decode cX7_isHere 15 = .ok (.iconst 2, 1) := by decide +kernel
theorem dX7_isHere_16 : decode cX7_isHere 16 = .ok (.if_icmp .ge 7, 3) := by decide +kernel
theorem dX7_isHere_19 : decode cX7_isHere 19 = .ok (.iconst 1, 1) := by decide +kernel
theorem dX7_isHere_20 : decode cX7_isHere 20 = .ok (.goto 4, 3) := by decide +kernel
theorem dX7_isHere_23 : decode cX7_isHere 23 = .ok (.iconst 0, 1) := by decide +kernel
theorem dX7_isHere_24 : decode cX7_isHere 24 = .ok (.ireturn, 1) := by decide +kernel
theorem dX7_makes_0 : decode cX7_makes 0 = .ok (.aload_n 0, 1) := by decide +kernel
theorem dX7_makes_1 : decode cX7_makes 1 = .ok (.getfield 7, 3) := by decide +kernel
theorem dX7_makes_4 : decode cX7_makes 4 = .ok (.iconst 3, 1) := by decide +kernel
theorem dX7_makes_5 : decode cX7_makes 5 = .ok (.iaload, 1) := by decide +kernel
theorem dX7_makes_6 : decode cX7_makes 6 = .ok (.istore 7, 2) := by decide +kernel
theorem dX7_makes_8 : decode cX7_makes 8 = .ok (.aload_n 0, 1) := by decide +kernel
theorem dX7_makes_9 : decode cX7_makes 9 = .ok (.iload 7, 2) := by decide +kernel
theorem dX7_makes_11 : decode cX7_makes 11 = .ok (.iconst 0, 1) := by decide +kernel
theorem dX7_makes_12 : decode cX7_makes 12 = .ok (.iload_n 1, 1) := by decide +kernel
theorem dX7_makes_13 : decode cX7_makes 13 = .ok (.invokevirtual 65, 3) := by decide +kernel
theorem dX7_makes_16 : decode cX7_makes 16 = .ok (.aload_n 0, 1) := by decide +kernel
theorem dX7_makes_17 : decode cX7_makes 17 = .ok (.iload 7, 2) := by decide +kernel
theorem dX7_makes_19 : decode cX7_makes 19 = .ok (.iconst 1, 1) := by decide +kernel
theorem dX7_makes_20 : decode cX7_makes 20 = .ok (.iload_n 2, 1) := by decide +kernel
theorem dX7_makes_21 : decode cX7_makes 21 = .ok (.invokevirtual 65, 3) := by decide +kernel
theorem dX7_makes_24 : decode cX7_makes 24 = .ok (.aload_n 0, 1) := by decide +kernel
theorem dX7_makes_25 : decode cX7_makes 25 = .ok (.iload 7, 2) := by decide +kernel
theorem dX7_makes_27 : decode cX7_makes 27 = .ok (.iconst 2, 1) := by decide +kernel
theorem dX7_makes_28 : decode cX7_makes 28 = .ok (.iload_n 3, 1) := by decide +kernel
theorem dX7_makes_29 : decode cX7_makes 29 = .ok (.invokevirtual 65, 3) := by decide +kernel
theorem dX7_makes_32 : decode cX7_makes 32 = .ok (.aload_n 0, 1) := by decide +kernel
theorem dX7_makes_33 : decode cX7_makes 33 = .ok (.iload 7, 2) := by decide +kernel
theorem dX7_makes_35 : decode cX7_makes 35 = .ok (.iconst 3, 1) := by decide +kernel
theorem dX7_makes_36 : decode cX7_makes 36 = .ok (.iload 4, 2) := by decide +kernel
theorem dX7_makes_38 : decode cX7_makes 38 = .ok (.invokevirtual 65, 3) := by decide +kernel
theorem dX7_makes_41 : decode cX7_makes 41 = .ok (.aload_n 0, 1) := by decide +kernel
theorem dX7_makes_42 : decode cX7_makes 42 = .ok (.iload 7, 2) := by decide +kernel
theorem dX7_makes_44 : decode cX7_makes 44 = .ok (.iconst 4, 1) := by decide +kernel
theorem dX7_makes_45 : decode cX7_makes 45 = .ok (.iload 5, 2) := by decide +kernel
theorem dX7_makes_47 : decode cX7_makes 47 = .ok (.invokevirtual 65, 3) := by decide +kernel
theorem dX7_makes_50 : decode cX7_makes 50 = .ok (.aload_n 0, 1) := by decide +kernel
theorem dX7_makes_51 : decode cX7_makes 51 = .ok (.iload 7, 2) := by decide +kernel
theorem dX7_makes_53 : decode cX7_makes 53 = .ok (.iconst 5, 1) := by decide +kernel
theorem dX7_makes_54 : decode cX7_makes 54 = .ok (.iload 6, 2) := by decide +kernel
theorem dX7_makes_56 : decode cX7_makes 56 = .ok (.invokevirtual 65, 3) := by decide +kernel
theorem dX7_makes_59 : decode cX7_makes 59 = .ok (.aload_n 0, 1) := by decide +kernel
theorem dX7_makes_60 : decode cX7_makes 60 = .ok (.iload 7, 2) := by decide +kernel
theorem dX7_makes_62 : decode cX7_makes 62 = .ok (.bipush 6, 2) := by decide +kernel
theorem dX7_makes_64 : decode cX7_makes 64 = .ok (.iconst 0, 1) := by decide +kernel
theorem dX7_makes_65 : decode cX7_makes 65 = .ok (.invokevirtual 65, 3) := by decide +kernel
theorem dX7_makes_68 : decode cX7_makes 68 = .ok (.aload_n 0, 1) := by decide +kernel
theorem dX7_makes_69 : decode cX7_makes 69 = .ok (.iload 7, 2) := by decide +kernel
theorem dX7_makes_71 : decode cX7_makes 71 = .ok (.bipush 7, 2) := by decide +kernel
theorem dX7_makes_73 : decode cX7_makes 73 = .ok (.ldc 69, 2) := by decide +kernel
theorem dX7_makes_75 : decode cX7_makes 75 = .ok (.invokevirtual 65, 3) := by decide +kernel
theorem dX7_makes_78 : decode cX7_makes 78 = .ok (.aload_n 0, 1) := by decide +kernel
theorem dX7_makes_79 : decode cX7_makes 79 = .ok (.iload 7, 2) := by decide +kernel
theorem dX7_makes_81 : decode cX7_makes 81 = .ok (.bipush 8, 2) := by decide +kernel
theorem dX7_makes_83 : decode cX7_makes 83 = .ok (.ldc 69, 2) := by decide +kernel
theorem dX7_makes_85 : decode cX7_makes 85 = .ok (.invokevirtual 65, 3) := by decide +kernel
theorem dX7_makes_88 : decode cX7_makes 88 = .ok (.aload_n 0, 1) := by decide +kernel
theorem dX7_makes_89 : decode cX7_makes 89 = .ok (.iload 7, 2) := by decide +kernel
theorem dX7_makes_91 : decode cX7_makes 91 = .ok (.bipush 9, 2) := by decide +kernel
theorem dX7_makes_93 : decode cX7_makes 93 = .ok (.iload 7, 2) := by decide +kernel
theorem dX7_makes_95 : decode cX7_makes 95 = .ok (.invokevirtual 65, 3) := by decide +kernel
theorem dX7_makes_98 : decode cX7_makes 98 = .ok (.aload_n 0, 1) := by decide +kernel
theorem dX7_makes_99 : decode cX7_makes 99 = .ok (.iload 7, 2) := by decide +kernel
theorem dX7_makes_101 : decode cX7_makes 101 = .ok (.bipush 10, 2) := by decide +kernel
theorem dX7_makes_103 : decode cX7_makes 103 = .ok (.aload_n 0, 1) := by decide +kernel
theorem dX7_makes_104 : decode cX7_makes 104 = .ok (.getfield 7, 3) := by decide +kernel
theorem dX7_makes_107 : decode cX7_makes 107 = .ok (.iconst 5, 1) := by decide +kernel
theorem dX7_makes_108 : decode cX7_makes 108 = .ok (.iaload, 1) := by decide +kernel
theorem dX7_makes_109 : decode cX7_makes 109 = .ok (.invokevirtual 65, 3) := by decide +kernel
theorem dX7_makes_112 : decode cX7_makes 112 = .ok (.aload_n 0, 1) := by decide +kernel
theorem dX7_makes_113 : decode cX7_makes 113 = .ok (.iload 7, 2) := by decide +kernel
theorem dX7_makes_115 : decode cX7_makes 115 = .ok (.bipush 11, 2) := by decide +kernel
theorem dX7_makes_117 : decode cX7_makes 117 = .ok (.iconst 0, 1) := by decide +kernel
theorem dX7_makes_118 : decode cX7_makes 118 = .ok (.invokevirtual 65, 3) := by decide +kernel
theorem dX7_makes_121 : decode cX7_makes 121 = .ok (.aload_n 0, 1) := by decide +kernel
theorem dX7_makes_122 : decode cX7_makes 122 = .ok (.getfield 7, 3) := by decide +kernel
theorem dX7_makes_125 : decode cX7_makes 125 = .ok (.iconst 3, 1) := by decide +kernel
theorem dX7_makes_126 : decode cX7_makes 126 = .ok (.dup2, 1) := by decide +kernel
theorem dX7_makes_127 : decode cX7_makes 127 = .ok (.iaload, 1) := by decide +kernel
theorem dX7_makes_128 : decode cX7_makes 128 = .ok (.iconst 1, 1) := by decide +kernel
theorem dX7_makes_129 : decode cX7_makes 129 = .ok (.iadd, 1) := by decide +kernel
theorem dX7_makes_130 : decode cX7_makes 130 = .ok (.iastore, 1) := by decide +kernel
theorem dX7_makes_131 : decode cX7_makes 131 = .ok (.iload 7, 2) := by decide +kernel
theorem dX7_makes_133 : decode cX7_makes 133 = .ok (.ireturn, 1) := by decide +kernel
theorem dX7_consign_0 : decode cX7_consign 0 = .ok (.iload_n 1, 1) := by decide +kernel
theorem dX7_consign_1 : decode cX7_consign 1 = .ok (.iconst 1, 1) := by decide +kernel
theorem dX7_consign_2 : decode cX7_consign 2 = .ok (.iconst 4, 1) := by decide +kernel
theorem dX7_consign_3 : decode cX7_consign 3 = .ok (.invokestatic 70, 3) := by decide +kernel
theorem dX7_consign_6 : decode cX7_consign 6 = .ok (.ifCond .eq 60, 3) := by decide +kernel
theorem dX7_consign_9 : decode cX7_consign 9 = .ok (.iload_n 2, 1) := by decide +kernel
theorem dX7_consign_10 : decode cX7_consign 10 = .ok (.iconst 1, 1) := by decide +kernel
theorem dX7_consign_11 : decode cX7_consign 11 = .ok (.bipush 99, 2) := by decide +kernel
theorem dX7_consign_13 : decode cX7_consign 13 = .ok (.invokestatic 70, 3) := by decide +kernel
theorem dX7_consign_16 : decode cX7_consign 16 = .ok (.ifCond .eq 50, 3) := by decide +kernel
theorem dX7_consign_19 : decode cX7_consign 19 = .ok (.iload_n 3, 1) := by decide +kernel
theorem dX7_consign_20 : decode cX7_consign 20 = .ok (.iconst 1, 1) := by decide +kernel
theorem dX7_consign_21 : decode cX7_consign 21 = .ok (.bipush 99, 2) := by decide +kernel
theorem dX7_consign_23 : decode cX7_consign 23 = .ok (.invokestatic 70, 3) := by decide +kernel
theorem dX7_consign_26 : decode cX7_consign 26 = .ok (.ifCond .eq 40, 3) := by decide +kernel
theorem dX7_consign_29 : decode cX7_consign 29 = .ok (.iload 4, 2) := by decide +kernel
theorem dX7_consign_31 : decode cX7_consign 31 = .ok (.iconst 0, 1) := by decide +kernel
theorem dX7_consign_32 : decode cX7_consign 32 = .ok (.sipush 9999, 3) := by decide +kernel
theorem dX7_consign_35 : decode cX7_consign 35 = .ok (.invokestatic 70, 3) := by decide +kernel
theorem dX7_consign_38 : decode cX7_consign 38 = .ok (.ifCond .eq 28, 3) := by decide +kernel
theorem dX7_consign_41 : decode cX7_consign 41 = .ok (.iload 5, 2) := by decide +kernel
theorem dX7_consign_43 : decode cX7_consign 43 = .ok (.iload 4, 2) := by decide +kernel
theorem dX7_consign_45 : decode cX7_consign 45 = .ok (.sipush 9999, 3) := by decide +kernel
theorem dX7_consign_48 : decode cX7_consign 48 = .ok (.invokestatic 70, 3) := by decide +kernel
theorem dX7_consign_51 : decode cX7_consign 51 = .ok (.ifCond .eq 15, 3) := by decide +kernel
theorem dX7_consign_54 : decode cX7_consign 54 = .ok (.iload 6, 2) := by decide +kernel
theorem dX7_consign_56 : decode cX7_consign 56 = .ok (.iconst 0, 1) := by decide +kernel
theorem dX7_consign_57 : decode cX7_consign 57 = .ok (.sipush 999, 3) := by decide +kernel
theorem dX7_consign_60 : decode cX7_consign 60 = .ok (.invokestatic 70, 3) := by decide +kernel
theorem dX7_consign_63 : decode cX7_consign 63 = .ok (.ifCond .ne 6, 3) := by decide +kernel
theorem dX7_consign_66 : decode cX7_consign 66 = .ok (.ldc 74, 2) := by decide +kernel
theorem dX7_consign_68 : decode cX7_consign 68 = .ok (.ireturn, 1) := by decide +kernel
theorem dX7_consign_69 : decode cX7_consign 69 = .ok (.aload_n 0, 1) := by decide +kernel
theorem dX7_consign_70 : decode cX7_consign 70 = .ok (.getfield 7, 3) := by decide +kernel
theorem dX7_consign_73 : decode cX7_consign 73 = .ok (.iconst 3, 1) := by decide +kernel
theorem dX7_consign_74 : decode cX7_consign 74 = .ok (.iaload, 1) := by decide +kernel
theorem dX7_consign_75 : decode cX7_consign 75 = .ok (.bipush 16, 2) := by decide +kernel
theorem dX7_consign_77 : decode cX7_consign 77 = .ok (.if_icmp .ne 6, 3) := by decide +kernel
theorem dX7_consign_80 : decode cX7_consign 80 = .ok (.ldc 75, 2) := by decide +kernel
theorem dX7_consign_82 : decode cX7_consign 82 = .ok (.ireturn, 1) := by decide +kernel
theorem dX7_consign_83 : decode cX7_consign 83 = .ok (.aload_n 0, 1) := by decide +kernel
theorem dX7_consign_84 : decode cX7_consign 84 = .ok (.invokevirtual 76, 3) := by decide +kernel
theorem dX7_consign_87 : decode cX7_consign 87 = .ok (.aload_n 0, 1) := by decide +kernel
theorem dX7_consign_88 : decode cX7_consign 88 = .ok (.iload_n 1, 1) := by decide +kernel
theorem dX7_consign_89 : decode cX7_consign 89 = .ok (.iload_n 2, 1) := by decide +kernel
theorem dX7_consign_90 : decode cX7_consign 90 = .ok (.iload_n 3, 1) := by decide +kernel
theorem dX7_consign_91 : decode cX7_consign 91 = .ok (.iload 4, 2) := by decide +kernel
theorem dX7_consign_93 : decode cX7_consign 93 = .ok (.iload 5, 2) := by decide +kernel
theorem dX7_consign_95 : decode cX7_consign 95 = .ok (.iload 6, 2) := by decide +kernel
theorem dX7_consign_97 : decode cX7_consign 97 = .ok (.invokevirtual 79, 3) := by decide +kernel
theorem dX7_consign_100 : decode cX7_consign 100 = .ok (.ireturn, 1) := by decide +kernel
theorem dX7_split_0 : decode cX7_split 0 = .ok (.aload_n 0, 1) := by decide +kernel
theorem dX7_split_1 : decode cX7_split 1 = .ok (.iload_n 1, 1) := by decide +kernel
theorem dX7_split_2 : decode cX7_split 2 = .ok (.invokevirtual 61, 3) := by decide +kernel
theorem dX7_split_5 : decode cX7_split 5 = .ok (.ifCond .eq 35, 3) := by decide +kernel
theorem dX7_split_8 : decode cX7_split 8 = .ok (.iload_n 2, 1) := by decide +kernel
theorem dX7_split_9 : decode cX7_split 9 = .ok (.iconst 1, 1) := by decide +kernel
theorem dX7_split_10 : decode cX7_split 10 = .ok (.aload_n 0, 1) := by decide +kernel
theorem dX7_split_11 : decode cX7_split 11 = .ok (.iload_n 1, 1) := by decide +kernel
theorem dX7_split_12 : decode cX7_split 12 = .ok (.iconst 1, 1) := by decide +kernel
theorem dX7_split_13 : decode cX7_split 13 = .ok (.invokevirtual 57, 3) := by decide +kernel
theorem dX7_split_16 : decode cX7_split 16 = .ok (.iconst 1, 1) := by decide +kernel
theorem dX7_split_17 : decode cX7_split 17 = .ok (.isub, 1) := by decide +kernel
theorem dX7_split_18 : decode cX7_split 18 = .ok (.invokestatic 70, 3) := by decide +kernel
theorem dX7_split_21 : decode cX7_split 21 = .ok (.ifCond .eq 19, 3) := by decide +kernel
theorem dX7_split_24 : decode cX7_split 24 = .ok (.iload_n 3, 1) := by decide +kernel
theorem dX7_split_25 : decode cX7_split 25 = .ok (.iconst 1, 1) := by decide +kernel
theorem dX7_split_26 : decode cX7_split 26 = .ok (.aload_n 0, 1) := by decide +kernel
theorem dX7_split_27 : decode cX7_split 27 = .ok (.iload_n 1, 1) := by decide +kernel
theorem dX7_split_28 : decode cX7_split 28 = .ok (.iconst 2, 1) := by decide +kernel
theorem dX7_split_29 : decode cX7_split 29 = .ok (.invokevirtual 57, 3) := by decide +kernel
theorem dX7_split_32 : decode cX7_split 32 = .ok (.iconst 1, 1) := by decide +kernel
theorem dX7_split_33 : decode cX7_split 33 = .ok (.isub, 1) := by decide +kernel
theorem dX7_split_34 : decode cX7_split 34 = .ok (.invokestatic 70, 3) := by decide +kernel
theorem dX7_split_37 : decode cX7_split 37 = .ok (.ifCond .ne 6, 3) := by decide +kernel
theorem dX7_split_40 : decode cX7_split 40 = .ok (.ldc 74, 2) := by decide +kernel
theorem dX7_split_42 : decode cX7_split 42 = .ok (.ireturn, 1) := by decide +kernel
theorem dX7_split_43 : decode cX7_split 43 = .ok (.aload_n 0, 1) := by decide +kernel
theorem dX7_split_44 : decode cX7_split 44 = .ok (.iload_n 1, 1) := by decide +kernel
theorem dX7_split_45 : decode cX7_split 45 = .ok (.bipush 6, 2) := by decide +kernel
theorem dX7_split_47 : decode cX7_split 47 = .ok (.invokevirtual 57, 3) := by decide +kernel
theorem dX7_split_50 : decode cX7_split 50 = .ok (.ifCond .eq 6, 3) := by decide +kernel
theorem dX7_split_53 : decode cX7_split 53 = .ok (.ldc 83, 2) := by decide +kernel
theorem dX7_split_55 : decode cX7_split 55 = .ok (.ireturn, 1) := by decide +kernel
theorem dX7_split_56 : decode cX7_split 56 = .ok (.aload_n 0, 1) := by decide +kernel
theorem dX7_split_57 : decode cX7_split 57 = .ok (.getfield 7, 3) := by decide +kernel
theorem dX7_split_60 : decode cX7_split 60 = .ok (.iconst 3, 1) := by decide +kernel
theorem dX7_split_61 : decode cX7_split 61 = .ok (.iaload, 1) := by decide +kernel
theorem dX7_split_62 : decode cX7_split 62 = .ok (.bipush 16, 2) := by decide +kernel
theorem dX7_split_64 : decode cX7_split 64 = .ok (.if_icmp .ne 6, 3) := by decide +kernel
theorem dX7_split_67 : decode cX7_split 67 = .ok (.ldc 75, 2) := by decide +kernel
theorem dX7_split_69 : decode cX7_split 69 = .ok (.ireturn, 1) := by decide +kernel
theorem dX7_split_70 : decode cX7_split 70 = .ok (.aload_n 0, 1) := by decide +kernel
theorem dX7_split_71 : decode cX7_split 71 = .ok (.invokevirtual 76, 3) := by decide +kernel
theorem dX7_split_74 : decode cX7_split 74 = .ok (.aload_n 0, 1) := by decide +kernel
theorem dX7_split_75 : decode cX7_split 75 = .ok (.iload_n 1, 1) := by decide +kernel
theorem dX7_split_76 : decode cX7_split 76 = .ok (.iconst 5, 1) := by decide +kernel
theorem dX7_split_77 : decode cX7_split 77 = .ok (.invokevirtual 57, 3) := by decide +kernel
theorem dX7_split_80 : decode cX7_split 80 = .ok (.iload_n 2, 1) := by decide +kernel
theorem dX7_split_81 : decode cX7_split 81 = .ok (.imul, 1) := by decide +kernel
theorem dX7_split_82 : decode cX7_split 82 = .ok (.aload_n 0, 1) := by decide +kernel
theorem dX7_split_83 : decode cX7_split 83 = .ok (.iload_n 1, 1) := by decide +kernel
theorem dX7_split_84 : decode cX7_split 84 = .ok (.iconst 1, 1) := by decide +kernel
theorem dX7_split_85 : decode cX7_split 85 = .ok (.invokevirtual 57, 3) := by decide +kernel
theorem dX7_split_88 : decode cX7_split 88 = .ok (.idiv, 1) := by decide +kernel
theorem dX7_split_89 : decode cX7_split 89 = .ok (.istore 4, 2) := by decide +kernel
theorem dX7_split_91 : decode cX7_split 91 = .ok (.aload_n 0, 1) := by decide +kernel
theorem dX7_split_92 : decode cX7_split 92 = .ok (.aload_n 0, 1) := by decide +kernel
theorem dX7_split_93 : decode cX7_split 93 = .ok (.iload_n 1, 1) := by decide +kernel
theorem dX7_split_94 : decode cX7_split 94 = .ok (.iconst 0, 1) := by decide +kernel
theorem dX7_split_95 : decode cX7_split 95 = .ok (.invokevirtual 57, 3) := by decide +kernel
theorem dX7_split_98 : decode cX7_split 98 = .ok (.iload_n 2, 1) := by decide +kernel
theorem dX7_split_99 : decode cX7_split 99 = .ok (.iload_n 3, 1) := by decide +kernel
theorem dX7_split_100 : decode cX7_split 100 = .ok (.aload_n 0, 1) := by decide +kernel
theorem dX7_split_101 : decode cX7_split 101 = .ok (.iload_n 1, 1) := by decide +kernel
theorem dX7_split_102 : decode cX7_split 102 = .ok (.iconst 3, 1) := by decide +kernel
theorem dX7_split_103 : decode cX7_split 103 = .ok (.invokevirtual 57, 3) := by decide +kernel
theorem dX7_split_106 : decode cX7_split 106 = .ok (.aload_n 0, 1) := by decide +kernel
theorem dX7_split_107 : decode cX7_split 107 = .ok (.iload_n 1, 1) := by decide +kernel
theorem dX7_split_108 : decode cX7_split 108 = .ok (.iconst 4, 1) := by decide +kernel
theorem dX7_split_109 : decode cX7_split 109 = .ok (.invokevirtual 57, 3) := by decide +kernel
theorem dX7_split_112 : decode cX7_split 112 = .ok (.iload 4, 2) := by decide +kernel
theorem dX7_split_114 : decode cX7_split 114 = .ok (.invokevirtual 79, 3) := by decide +kernel
theorem dX7_split_117 : decode cX7_split 117 = .ok (.istore 5, 2) := by decide +kernel
theorem dX7_split_119 : decode cX7_split 119 = .ok (.aload_n 0, 1) := by decide +kernel
theorem dX7_split_120 : decode cX7_split 120 = .ok (.iload 5, 2) := by decide +kernel
theorem dX7_split_122 : decode cX7_split 122 = .ok (.bipush 9, 2) := by decide +kernel
theorem dX7_split_124 : decode cX7_split 124 = .ok (.aload_n 0, 1) := by decide +kernel
theorem dX7_split_125 : decode cX7_split 125 = .ok (.iload_n 1, 1) := by decide +kernel
theorem dX7_split_126 : decode cX7_split 126 = .ok (.bipush 9, 2) := by decide +kernel
theorem dX7_split_128 : decode cX7_split 128 = .ok (.invokevirtual 57, 3) := by decide +kernel
theorem dX7_split_131 : decode cX7_split 131 = .ok (.invokevirtual 65, 3) := by decide +kernel
theorem dX7_split_134 : decode cX7_split 134 = .ok (.aload_n 0, 1) := by decide +kernel
theorem dX7_split_135 : decode cX7_split 135 = .ok (.iload 5, 2) := by decide +kernel
theorem dX7_split_137 : decode cX7_split 137 = .ok (.bipush 10, 2) := by decide +kernel
theorem dX7_split_139 : decode cX7_split 139 = .ok (.aload_n 0, 1) := by decide +kernel
theorem dX7_split_140 : decode cX7_split 140 = .ok (.iload_n 1, 1) := by decide +kernel
theorem dX7_split_141 : decode cX7_split 141 = .ok (.bipush 10, 2) := by decide +kernel
theorem dX7_split_143 : decode cX7_split 143 = .ok (.invokevirtual 57, 3) := by decide +kernel
theorem dX7_split_146 : decode cX7_split 146 = .ok (.invokevirtual 65, 3) := by decide +kernel
theorem dX7_split_149 : decode cX7_split 149 = .ok (.aload_n 0, 1) := by decide +kernel
theorem dX7_split_150 : decode cX7_split 150 = .ok (.iload_n 1, 1) := by decide +kernel
theorem dX7_split_151 : decode cX7_split 151 = .ok (.iconst 1, 1) := by decide +kernel
theorem dX7_split_152 : decode cX7_split 152 = .ok (.aload_n 0, 1) := by decide +kernel
theorem dX7_split_153 : decode cX7_split 153 = .ok (.iload_n 1, 1) := by decide +kernel
theorem dX7_split_154 : decode cX7_split 154 = .ok (.iconst 1, 1) := by decide +kernel
theorem dX7_split_155 : decode cX7_split 155 = .ok (.invokevirtual 57, 3) := by decide +kernel
theorem dX7_split_158 : decode cX7_split 158 = .ok (.iload_n 2, 1) := by decide +kernel
theorem dX7_split_159 : decode cX7_split 159 = .ok (.isub, 1) := by decide +kernel
theorem dX7_split_160 : decode cX7_split 160 = .ok (.invokevirtual 65, 3) := by decide +kernel
theorem dX7_split_163 : decode cX7_split 163 = .ok (.aload_n 0, 1) := by decide +kernel
theorem dX7_split_164 : decode cX7_split 164 = .ok (.iload_n 1, 1) := by decide +kernel
theorem dX7_split_165 : decode cX7_split 165 = .ok (.iconst 2, 1) := by decide +kernel
theorem dX7_split_166 : decode cX7_split 166 = .ok (.aload_n 0, 1) := by decide +kernel
theorem dX7_split_167 : decode cX7_split 167 = .ok (.iload_n 1, 1) := by decide +kernel
theorem dX7_split_168 : decode cX7_split 168 = .ok (.iconst 2, 1) := by decide +kernel
theorem dX7_split_169 : decode cX7_split 169 = .ok (.invokevirtual 57, 3) := by decide +kernel
theorem dX7_split_172 : decode cX7_split 172 = .ok (.iload_n 3, 1) := by decide +kernel
theorem dX7_split_173 : decode cX7_split 173 = .ok (.isub, 1) := by decide +kernel
theorem dX7_split_174 : decode cX7_split 174 = .ok (.invokevirtual 65, 3) := by decide +kernel
theorem dX7_split_177 : decode cX7_split 177 = .ok (.aload_n 0, 1) := by decide +kernel
theorem dX7_split_178 : decode cX7_split 178 = .ok (.iload_n 1, 1) := by decide +kernel
theorem dX7_split_179 : decode cX7_split 179 = .ok (.iconst 5, 1) := by decide +kernel
theorem dX7_split_180 : decode cX7_split 180 = .ok (.aload_n 0, 1) := by decide +kernel
theorem dX7_split_181 : decode cX7_split 181 = .ok (.iload_n 1, 1) := by decide +kernel
theorem dX7_split_182 : decode cX7_split 182 = .ok (.iconst 5, 1) := by decide +kernel
theorem dX7_split_183 : decode cX7_split 183 = .ok (.invokevirtual 57, 3) := by decide +kernel
theorem dX7_split_186 : decode cX7_split 186 = .ok (.iload 4, 2) := by decide +kernel
theorem dX7_split_188 : decode cX7_split 188 = .ok (.isub, 1) := by decide +kernel
theorem dX7_split_189 : decode cX7_split 189 = .ok (.invokevirtual 65, 3) := by decide +kernel
theorem dX7_split_192 : decode cX7_split 192 = .ok (.iload 5, 2) := by decide +kernel
theorem dX7_split_194 : decode cX7_split 194 = .ok (.ireturn, 1) := by decide +kernel
theorem dX7_join_0 : decode cX7_join 0 = .ok (.aload_n 0, 1) := by decide +kernel
theorem dX7_join_1 : decode cX7_join 1 = .ok (.iload_n 1, 1) := by decide +kernel
theorem dX7_join_2 : decode cX7_join 2 = .ok (.invokevirtual 61, 3) := by decide +kernel
theorem dX7_join_5 : decode cX7_join 5 = .ok (.ifCond .eq 16, 3) := by decide +kernel
theorem dX7_join_8 : decode cX7_join 8 = .ok (.aload_n 0, 1) := by decide +kernel
theorem dX7_join_9 : decode cX7_join 9 = .ok (.iload_n 2, 1) := by decide +kernel
theorem dX7_join_10 : decode cX7_join 10 = .ok (.invokevirtual 61, 3) := by decide +kernel
theorem dX7_join_13 : decode cX7_join 13 = .ok (.ifCond .eq 8, 3) := by decide +kernel
theorem dX7_join_16 : decode cX7_join 16 = .ok (.iload_n 1, 1) := by decide +kernel
theorem dX7_join_17 : decode cX7_join 17 = .ok (.iload_n 2, 1) := by decide +kernel
theorem dX7_join_18 : decode cX7_join 18 = .ok (.if_icmp .ne 6, 3) := by decide +kernel
theorem dX7_join_21 : decode cX7_join 21 = .ok (.ldc 74, 2) := by decide +kernel
theorem dX7_join_23 : decode cX7_join 23 = .ok (.ireturn, 1) := by decide +kernel
theorem dX7_join_24 : decode cX7_join 24 = .ok (.aload_n 0, 1) := by decide +kernel
theorem dX7_join_25 : decode cX7_join 25 = .ok (.iload_n 1, 1) := by decide +kernel
theorem dX7_join_26 : decode cX7_join 26 = .ok (.bipush 9, 2) := by decide +kernel
theorem dX7_join_28 : decode cX7_join 28 = .ok (.invokevirtual 57, 3) := by decide +kernel
theorem dX7_join_31 : decode cX7_join 31 = .ok (.aload_n 0, 1) := by decide +kernel
theorem dX7_join_32 : decode cX7_join 32 = .ok (.iload_n 2, 1) := by decide +kernel
theorem dX7_join_33 : decode cX7_join 33 = .ok (.bipush 9, 2) := by decide +kernel
theorem dX7_join_35 : decode cX7_join 35 = .ok (.invokevirtual 57, 3) := by decide +kernel
theorem dX7_join_38 : decode cX7_join 38 = .ok (.if_icmp .ne 23, 3) := by decide +kernel
theorem dX7_join_41 : decode cX7_join 41 = .ok (.aload_n 0, 1) := by decide +kernel
theorem dX7_join_42 : decode cX7_join 42 = .ok (.iload_n 1, 1) := by decide +kernel
theorem dX7_join_43 : decode cX7_join 43 = .ok (.bipush 6, 2) := by decide +kernel
theorem dX7_join_45 : decode cX7_join 45 = .ok (.invokevirtual 57, 3) := by decide +kernel
theorem dX7_join_48 : decode cX7_join 48 = .ok (.ifCond .ne 13, 3) := by decide +kernel
theorem dX7_join_51 : decode cX7_join 51 = .ok (.aload_n 0, 1) := by decide +kernel
theorem dX7_join_52 : decode cX7_join 52 = .ok (.iload_n 2, 1) := by decide +kernel
theorem dX7_join_53 : decode cX7_join 53 = .ok (.bipush 6, 2) := by decide +kernel
theorem dX7_join_55 : decode cX7_join 55 = .ok (.invokevirtual 57, 3) := by decide +kernel
theorem dX7_join_58 : decode cX7_join 58 = .ok (.ifCond .eq 6, 3) := by decide +kernel
theorem dX7_join_61 : decode cX7_join 61 = .ok (.ldc 83, 2) := by decide +kernel
theorem dX7_join_63 : decode cX7_join 63 = .ok (.ireturn, 1) := by decide +kernel
theorem dX7_join_64 : decode cX7_join 64 = .ok (.aload_n 0, 1) := by decide +kernel
theorem dX7_join_65 : decode cX7_join 65 = .ok (.invokevirtual 76, 3) := by decide +kernel
theorem dX7_join_68 : decode cX7_join 68 = .ok (.iload_n 1, 1) := by decide +kernel
theorem dX7_join_69 : decode cX7_join 69 = .ok (.iload_n 2, 1) := by decide +kernel
theorem dX7_join_70 : decode cX7_join 70 = .ok (.if_icmp .ge 7, 3) := by decide +kernel
theorem dX7_join_73 : decode cX7_join 73 = .ok (.iload_n 1, 1) := by decide +kernel
theorem dX7_join_74 : decode cX7_join 74 = .ok (.goto 4, 3) := by decide +kernel
theorem dX7_join_77 : decode cX7_join 77 = .ok (.iload_n 2, 1) := by decide +kernel
theorem dX7_join_78 : decode cX7_join 78 = .ok (.istore_n 3, 1) := by decide +kernel
theorem dX7_join_79 : decode cX7_join 79 = .ok (.iload_n 1, 1) := by decide +kernel
theorem dX7_join_80 : decode cX7_join 80 = .ok (.iload_n 2, 1) := by decide +kernel
theorem dX7_join_81 : decode cX7_join 81 = .ok (.iadd, 1) := by decide +kernel
theorem dX7_join_82 : decode cX7_join 82 = .ok (.iload_n 3, 1) := by decide +kernel
theorem dX7_join_83 : decode cX7_join 83 = .ok (.isub, 1) := by decide +kernel
theorem dX7_join_84 : decode cX7_join 84 = .ok (.istore 4, 2) := by decide +kernel
theorem dX7_join_86 : decode cX7_join 86 = .ok (.aload_n 0, 1) := by decide +kernel
theorem dX7_join_87 : decode cX7_join 87 = .ok (.iload_n 3, 1) := by decide +kernel
theorem dX7_join_88 : decode cX7_join 88 = .ok (.iconst 1, 1) := by decide +kernel
theorem dX7_join_89 : decode cX7_join 89 = .ok (.aload_n 0, 1) := by decide +kernel
theorem dX7_join_90 : decode cX7_join 90 = .ok (.iload_n 3, 1) := by decide +kernel
theorem dX7_join_91 : decode cX7_join 91 = .ok (.iconst 1, 1) := by decide +kernel
theorem dX7_join_92 : decode cX7_join 92 = .ok (.invokevirtual 57, 3) := by decide +kernel
theorem dX7_join_95 : decode cX7_join 95 = .ok (.aload_n 0, 1) := by decide +kernel
theorem dX7_join_96 : decode cX7_join 96 = .ok (.iload 4, 2) := by decide +kernel
theorem dX7_join_98 : decode cX7_join 98 = .ok (.iconst 1, 1) := by decide +kernel
theorem dX7_join_99 : decode cX7_join 99 = .ok (.invokevirtual 57, 3) := by decide +kernel
theorem dX7_join_102 : decode cX7_join 102 = .ok (.iadd, 1) := by decide +kernel
theorem dX7_join_103 : decode cX7_join 103 = .ok (.invokevirtual 65, 3) := by decide +kernel
theorem dX7_join_106 : decode cX7_join 106 = .ok (.aload_n 0, 1) := by decide +kernel
theorem dX7_join_107 : decode cX7_join 107 = .ok (.iload_n 3, 1) := by decide +kernel
theorem dX7_join_108 : decode cX7_join 108 = .ok (.iconst 2, 1) := by decide +kernel
theorem dX7_join_109 : decode cX7_join 109 = .ok (.aload_n 0, 1) := by decide +kernel
theorem dX7_join_110 : decode cX7_join 110 = .ok (.iload_n 3, 1) := by decide +kernel
theorem dX7_join_111 : decode cX7_join 111 = .ok (.iconst 2, 1) := by decide +kernel
theorem dX7_join_112 : decode cX7_join 112 = .ok (.invokevirtual 57, 3) := by decide +kernel
theorem dX7_join_115 : decode cX7_join 115 = .ok (.aload_n 0, 1) := by decide +kernel
theorem dX7_join_116 : decode cX7_join 116 = .ok (.iload 4, 2) := by decide +kernel
theorem dX7_join_118 : decode cX7_join 118 = .ok (.iconst 2, 1) := by decide +kernel
theorem dX7_join_119 : decode cX7_join 119 = .ok (.invokevirtual 57, 3) := by decide +kernel
theorem dX7_join_122 : decode cX7_join 122 = .ok (.iadd, 1) := by decide +kernel
theorem dX7_join_123 : decode cX7_join 123 = .ok (.invokevirtual 65, 3) := by decide +kernel
theorem dX7_join_126 : decode cX7_join 126 = .ok (.aload_n 0, 1) := by decide +kernel
theorem dX7_join_127 : decode cX7_join 127 = .ok (.iload_n 3, 1) := by decide +kernel
theorem dX7_join_128 : decode cX7_join 128 = .ok (.iconst 5, 1) := by decide +kernel
theorem dX7_join_129 : decode cX7_join 129 = .ok (.aload_n 0, 1) := by decide +kernel
theorem dX7_join_130 : decode cX7_join 130 = .ok (.iload_n 3, 1) := by decide +kernel
theorem dX7_join_131 : decode cX7_join 131 = .ok (.iconst 5, 1) := by decide +kernel
theorem dX7_join_132 : decode cX7_join 132 = .ok (.invokevirtual 57, 3) := by decide +kernel
theorem dX7_join_135 : decode cX7_join 135 = .ok (.aload_n 0, 1) := by decide +kernel
theorem dX7_join_136 : decode cX7_join 136 = .ok (.iload 4, 2) := by decide +kernel
theorem dX7_join_138 : decode cX7_join 138 = .ok (.iconst 5, 1) := by decide +kernel
theorem dX7_join_139 : decode cX7_join 139 = .ok (.invokevirtual 57, 3) := by decide +kernel
theorem dX7_join_142 : decode cX7_join 142 = .ok (.iadd, 1) := by decide +kernel
theorem dX7_join_143 : decode cX7_join 143 = .ok (.invokevirtual 65, 3) := by decide +kernel
theorem dX7_join_146 : decode cX7_join 146 = .ok (.aload_n 0, 1) := by decide +kernel
theorem dX7_join_147 : decode cX7_join 147 = .ok (.iload_n 3, 1) := by decide +kernel
theorem dX7_join_148 : decode cX7_join 148 = .ok (.bipush 10, 2) := by decide +kernel
theorem dX7_join_150 : decode cX7_join 150 = .ok (.aload_n 0, 1) := by decide +kernel
theorem dX7_join_151 : decode cX7_join 151 = .ok (.iload 4, 2) := by decide +kernel
theorem dX7_join_153 : decode cX7_join 153 = .ok (.bipush 10, 2) := by decide +kernel
theorem dX7_join_155 : decode cX7_join 155 = .ok (.invokevirtual 57, 3) := by decide +kernel
theorem dX7_join_158 : decode cX7_join 158 = .ok (.aload_n 0, 1) := by decide +kernel
theorem dX7_join_159 : decode cX7_join 159 = .ok (.iload_n 3, 1) := by decide +kernel
theorem dX7_join_160 : decode cX7_join 160 = .ok (.bipush 10, 2) := by decide +kernel
theorem dX7_join_162 : decode cX7_join 162 = .ok (.invokevirtual 57, 3) := by decide +kernel
theorem dX7_join_165 : decode cX7_join 165 = .ok (.if_icmp .ge 14, 3) := by decide +kernel
theorem dX7_join_168 : decode cX7_join 168 = .ok (.aload_n 0, 1) := by decide +kernel
theorem dX7_join_169 : decode cX7_join 169 = .ok (.iload 4, 2) := by decide +kernel
theorem dX7_join_171 : decode cX7_join 171 = .ok (.bipush 10, 2) := by decide +kernel
theorem dX7_join_173 : decode cX7_join 173 = .ok (.invokevirtual 57, 3) := by decide +kernel
theorem dX7_join_176 : decode cX7_join 176 = .ok (.goto 10, 3) := by decide +kernel
theorem dX7_join_179 : decode cX7_join 179 = .ok (.aload_n 0, 1) := by decide +kernel
theorem dX7_join_180 : decode cX7_join 180 = .ok (.iload_n 3, 1) := by decide +kernel
theorem dX7_join_181 : decode cX7_join 181 = .ok (.bipush 10, 2) := by decide +kernel
theorem dX7_join_183 : decode cX7_join 183 = .ok (.invokevirtual 57, 3) := by decide +kernel
theorem dX7_join_186 : decode cX7_join 186 = .ok (.invokevirtual 65, 3) := by decide +kernel
theorem dX7_join_189 : decode cX7_join 189 = .ok (.aload_n 0, 1) := by decide +kernel
theorem dX7_join_190 : decode cX7_join 190 = .ok (.iload 4, 2) := by decide +kernel
theorem dX7_join_192 : decode cX7_join 192 = .ok (.bipush 6, 2) := by decide +kernel
theorem dX7_join_194 : decode cX7_join 194 = .ok (.iconst 5, 1) := by decide +kernel
theorem dX7_join_195 : decode cX7_join 195 = .ok (.invokevirtual 65, 3) := by decide +kernel
theorem dX7_join_198 : decode cX7_join 198 = .ok (.iload_n 3, 1) := by decide +kernel
theorem dX7_join_199 : decode cX7_join 199 = .ok (.ireturn, 1) := by decide +kernel
theorem dX7_vehicle_0 : decode cX7_vehicle 0 = .ok (.iload_n 1, 1) := by decide +kernel
theorem dX7_vehicle_1 : decode cX7_vehicle 1 = .ok (.iconst 1, 1) := by decide +kernel
theorem dX7_vehicle_2 : decode cX7_vehicle 2 = .ok (.sipush 200, 3) := by decide +kernel
theorem dX7_vehicle_5 : decode cX7_vehicle 5 = .ok (.invokestatic 70, 3) := by decide +kernel
theorem dX7_vehicle_8 : decode cX7_vehicle 8 = .ok (.ifCond .eq 14, 3) := by decide +kernel
theorem dX7_vehicle_11 : decode cX7_vehicle 11 = .ok (.iload_n 2, 1) := by decide +kernel
theorem dX7_vehicle_12 : decode cX7_vehicle 12 = .ok (.iconst 1, 1) := by decide +kernel
theorem dX7_vehicle_13 : decode cX7_vehicle 13 = .ok (.sipush 200, 3) := by decide +kernel
theorem dX7_vehicle_16 : decode cX7_vehicle 16 = .ok (.invokestatic 70, 3) := by decide +kernel
theorem dX7_vehicle_19 : decode cX7_vehicle 19 = .ok (.ifCond .ne 6, 3) := by decide +kernel
theorem dX7_vehicle_22 : decode cX7_vehicle 22 = .ok (.ldc 74, 2) := by decide +kernel
theorem dX7_vehicle_24 : decode cX7_vehicle 24 = .ok (.ireturn, 1) := by decide +kernel
theorem dX7_vehicle_25 : decode cX7_vehicle 25 = .ok (.aload_n 0, 1) := by decide +kernel
theorem dX7_vehicle_26 : decode cX7_vehicle 26 = .ok (.getfield 7, 3) := by decide +kernel
theorem dX7_vehicle_29 : decode cX7_vehicle 29 = .ok (.iconst 4, 1) := by decide +kernel
theorem dX7_vehicle_30 : decode cX7_vehicle 30 = .ok (.iaload, 1) := by decide +kernel
theorem dX7_vehicle_31 : decode cX7_vehicle 31 = .ok (.istore_n 3, 1) := by decide +kernel
theorem dX7_vehicle_32 : decode cX7_vehicle 32 = .ok (.iload_n 3, 1) := by decide +kernel
theorem dX7_vehicle_33 : decode cX7_vehicle 33 = .ok (.iconst 4, 1) := by decide +kernel
theorem dX7_vehicle_34 : decode cX7_vehicle 34 = .ok (.if_icmp .ne 6, 3) := by decide +kernel
theorem dX7_vehicle_37 : decode cX7_vehicle 37 = .ok (.ldc 75, 2) := by decide +kernel
theorem dX7_vehicle_39 : decode cX7_vehicle 39 = .ok (.ireturn, 1) := by decide +kernel
theorem dX7_vehicle_40 : decode cX7_vehicle 40 = .ok (.aload_n 0, 1) := by decide +kernel
theorem dX7_vehicle_41 : decode cX7_vehicle 41 = .ok (.invokevirtual 76, 3) := by decide +kernel
theorem dX7_vehicle_44 : decode cX7_vehicle 44 = .ok (.iconst 0, 1) := by decide +kernel
theorem dX7_vehicle_45 : decode cX7_vehicle 45 = .ok (.istore 4, 2) := by decide +kernel
theorem dX7_vehicle_47 : decode cX7_vehicle 47 = .ok (.iload 4, 2) := by decide +kernel
theorem dX7_vehicle_49 : decode cX7_vehicle 49 = .ok (.bipush 8, 2) := by decide +kernel
theorem dX7_vehicle_51 : decode cX7_vehicle 51 = .ok (.if_icmp .ge 17, 3) := by decide +kernel
theorem dX7_vehicle_54 : decode cX7_vehicle 54 = .ok (.aload_n 0, 1) := by decide +kernel
theorem dX7_vehicle_55 : decode cX7_vehicle 55 = .ok (.iload_n 3, 1) := by decide +kernel
theorem dX7_vehicle_56 : decode cX7_vehicle 56 = .ok (.iload 4, 2) := by decide +kernel
theorem dX7_vehicle_58 : decode cX7_vehicle 58 = .ok (.iconst 0, 1) := by decide +kernel
theorem dX7_vehicle_59 : decode cX7_vehicle 59 = .ok (.invokevirtual 84, 3) := by decide +kernel
theorem dX7_vehicle_62 : decode cX7_vehicle 62 = .ok (.iinc 4 1, 3) := by decide +kernel
theorem dX7_vehicle_65 : decode cX7_vehicle 65 = .ok (.goto (-18), 3) := by decide +kernel
theorem dX7_vehicle_68 : decode cX7_vehicle 68 = .ok (.aload_n 0, 1) := by decide +kernel
theorem dX7_vehicle_69 : decode cX7_vehicle 69 = .ok (.iload_n 3, 1) := by decide +kernel
theorem dX7_vehicle_70 : decode cX7_vehicle 70 = .ok (.iconst 0, 1) := by decide +kernel
theorem dX7_vehicle_71 : decode cX7_vehicle 71 = .ok (.iload_n 1, 1) := by decide +kernel
theorem dX7_vehicle_72 : decode cX7_vehicle 72 = .ok (.invokevirtual 84, 3) := by decide +kernel
theorem dX7_vehicle_75 : decode cX7_vehicle 75 = .ok (.aload_n 0, 1) := by decide +kernel
theorem dX7_vehicle_76 : decode cX7_vehicle 76 = .ok (.iload_n 3, 1) := by decide +kernel
theorem dX7_vehicle_77 : decode cX7_vehicle 77 = .ok (.iconst 1, 1) := by decide +kernel
theorem dX7_vehicle_78 : decode cX7_vehicle 78 = .ok (.iload_n 2, 1) := by decide +kernel
theorem dX7_vehicle_79 : decode cX7_vehicle 79 = .ok (.invokevirtual 84, 3) := by decide +kernel
theorem dX7_vehicle_82 : decode cX7_vehicle 82 = .ok (.aload_n 0, 1) := by decide +kernel
theorem dX7_vehicle_83 : decode cX7_vehicle 83 = .ok (.getfield 7, 3) := by decide +kernel
theorem dX7_vehicle_86 : decode cX7_vehicle 86 = .ok (.iconst 4, 1) := by decide +kernel
theorem dX7_vehicle_87 : decode cX7_vehicle 87 = .ok (.dup2, 1) := by decide +kernel
theorem dX7_vehicle_88 : decode cX7_vehicle 88 = .ok (.iaload, 1) := by decide +kernel
theorem dX7_vehicle_89 : decode cX7_vehicle 89 = .ok (.iconst 1, 1) := by decide +kernel
theorem dX7_vehicle_90 : decode cX7_vehicle 90 = .ok (.iadd, 1) := by decide +kernel
theorem dX7_vehicle_91 : decode cX7_vehicle 91 = .ok (.iastore, 1) := by decide +kernel
theorem dX7_vehicle_92 : decode cX7_vehicle 92 = .ok (.iload_n 3, 1) := by decide +kernel
theorem dX7_vehicle_93 : decode cX7_vehicle 93 = .ok (.ireturn, 1) := by decide +kernel
theorem dX7_isIn_0 : decode cX7_isIn 0 = .ok (.aload_n 0, 1) := by decide +kernel
theorem dX7_isIn_1 : decode cX7_isIn 1 = .ok (.iload_n 1, 1) := by decide +kernel
theorem dX7_isIn_2 : decode cX7_isIn 2 = .ok (.invokevirtual 61, 3) := by decide +kernel
theorem dX7_isIn_5 : decode cX7_isIn 5 = .ok (.ifCond .eq 33, 3) := by decide +kernel
theorem dX7_isIn_8 : decode cX7_isIn 8 = .ok (.aload_n 0, 1) := by decide +kernel
theorem dX7_isIn_9 : decode cX7_isIn 9 = .ok (.iload_n 1, 1) := by decide +kernel
theorem dX7_isIn_10 : decode cX7_isIn 10 = .ok (.bipush 6, 2) := by decide +kernel
theorem dX7_isIn_12 : decode cX7_isIn 12 = .ok (.invokevirtual 57, 3) := by decide +kernel
theorem dX7_isIn_15 : decode cX7_isIn 15 = .ok (.iconst 1, 1) := by decide +kernel
theorem dX7_isIn_16 : decode cX7_isIn 16 = .ok (.iconst 2, 1) := by decide +kernel
theorem dX7_isIn_17 : decode cX7_isIn 17 = .ok (.invokestatic 70, 3) := by decide +kernel
theorem dX7_isIn_20 : decode cX7_isIn 20 = .ok (.ifCond .eq 18, 3) := by decide +kernel
theorem dX7_isIn_23 : decode cX7_isIn 23 = .ok (.aload_n 0, 1) := by decide +kernel
theorem dX7_isIn_24 : decode cX7_isIn 24 = .ok (.iload_n 1, 1) := by decide +kernel
theorem dX7_isIn_25 : decode cX7_isIn 25 = .ok (.bipush 7, 2) := by decide +kernel
theorem dX7_isIn_27 : decode cX7_isIn 27 = .ok (.invokevirtual 57, 3) := by decide +kernel
theorem dX7_isIn_30 : decode cX7_isIn 30 = .ok (.iload_n 2, 1) := by decide +kernel
theorem dX7_isIn_31 : decode cX7_isIn 31 = .ok (.if_icmp .ne 7, 3) := by decide +kernel
theorem dX7_isIn_34 : decode cX7_isIn 34 = .ok (.iconst 1, 1) := by decide +kernel
theorem dX7_isIn_35 : decode cX7_isIn 35 = .ok (.goto 4, 3) := by decide +kernel
theorem dX7_isIn_38 : decode cX7_isIn 38 = .ok (.iconst 0, 1) := by decide +kernel
theorem dX7_isIn_39 : decode cX7_isIn 39 = .ok (.ireturn, 1) := by decide +kernel
theorem dX7_loaded_0 : decode cX7_loaded 0 = .ok (.iconst 0, 1) := by decide +kernel
theorem dX7_loaded_1 : decode cX7_loaded 1 = .ok (.istore_n 3, 1) := by decide +kernel
theorem dX7_loaded_2 : decode cX7_loaded 2 = .ok (.iconst 0, 1) := by decide +kernel
theorem dX7_loaded_3 : decode cX7_loaded 3 = .ok (.istore 4, 2) := by decide +kernel
theorem dX7_loaded_5 : decode cX7_loaded 5 = .ok (.iload 4, 2) := by decide +kernel
theorem dX7_loaded_7 : decode cX7_loaded 7 = .ok (.aload_n 0, 1) := by decide +kernel
theorem dX7_loaded_8 : decode cX7_loaded 8 = .ok (.getfield 7, 3) := by decide +kernel
theorem dX7_loaded_11 : decode cX7_loaded 11 = .ok (.iconst 3, 1) := by decide +kernel
theorem dX7_loaded_12 : decode cX7_loaded 12 = .ok (.iaload, 1) := by decide +kernel
theorem dX7_loaded_13 : decode cX7_loaded 13 = .ok (.if_icmp .ge 33, 3) := by decide +kernel
theorem dX7_loaded_16 : decode cX7_loaded 16 = .ok (.iload_n 3, 1) := by decide +kernel
theorem dX7_loaded_17 : decode cX7_loaded 17 = .ok (.aload_n 0, 1) := by decide +kernel
theorem dX7_loaded_18 : decode cX7_loaded 18 = .ok (.iload 4, 2) := by decide +kernel
theorem dX7_loaded_20 : decode cX7_loaded 20 = .ok (.iload_n 1, 1) := by decide +kernel
theorem dX7_loaded_21 : decode cX7_loaded 21 = .ok (.invokevirtual 87, 3) := by decide +kernel
theorem dX7_loaded_24 : decode cX7_loaded 24 = .ok (.ifCond .eq 13, 3) := by decide +kernel
theorem dX7_loaded_27 : decode cX7_loaded 27 = .ok (.aload_n 0, 1) := by decide +kernel
theorem dX7_loaded_28 : decode cX7_loaded 28 = .ok (.iload 4, 2) := by decide +kernel
theorem dX7_loaded_30 : decode cX7_loaded 30 = .ok (.iload_n 2, 1) := by decide +kernel
theorem dX7_loaded_31 : decode cX7_loaded 31 = .ok (.invokevirtual 57, 3) := by decide +kernel
theorem dX7_loaded_34 : decode cX7_loaded 34 = .ok (.goto 4, 3) := by decide +kernel
theorem dX7_loaded_37 : decode cX7_loaded 37 = .ok (.iconst 0, 1) := by decide +kernel
theorem dX7_loaded_38 : decode cX7_loaded 38 = .ok (.iadd, 1) := by decide +kernel
theorem dX7_loaded_39 : decode cX7_loaded 39 = .ok (.istore_n 3, 1) := by decide +kernel
theorem dX7_loaded_40 : decode cX7_loaded 40 = .ok (.iinc 4 1, 3) := by decide +kernel
theorem dX7_loaded_43 : decode cX7_loaded 43 = .ok (.goto (-38), 3) := by decide +kernel
theorem dX7_loaded_46 : decode cX7_loaded 46 = .ok (.iload_n 3, 1) := by decide +kernel
theorem dX7_loaded_47 : decode cX7_loaded 47 = .ok (.ireturn, 1) := by decide +kernel
theorem dX7_loadSet_0 : decode cX7_loadSet 0 = .ok (.iconst 0, 1) := by decide +kernel
theorem dX7_loadSet_1 : decode cX7_loadSet 1 = .ok (.istore_n 2, 1) := by decide +kernel
theorem dX7_loadSet_2 : decode cX7_loadSet 2 = .ok (.iconst 0, 1) := by decide +kernel
theorem dX7_loadSet_3 : decode cX7_loadSet 3 = .ok (.istore_n 3, 1) := by decide +kernel
theorem dX7_loadSet_4 : decode cX7_loadSet 4 = .ok (.iload_n 3, 1) := by decide +kernel
theorem dX7_loadSet_5 : decode cX7_loadSet 5 = .ok (.aload_n 0, 1) := by decide +kernel
theorem dX7_loadSet_6 : decode cX7_loadSet 6 = .ok (.getfield 7, 3) := by decide +kernel
theorem dX7_loadSet_9 : decode cX7_loadSet 9 = .ok (.iconst 3, 1) := by decide +kernel
theorem dX7_loadSet_10 : decode cX7_loadSet 10 = .ok (.iaload, 1) := by decide +kernel
theorem dX7_loadSet_11 : decode cX7_loadSet 11 = .ok (.if_icmp .ge 28, 3) := by decide +kernel
theorem dX7_loadSet_14 : decode cX7_loadSet 14 = .ok (.iload_n 2, 1) := by decide +kernel
theorem dX7_loadSet_15 : decode cX7_loadSet 15 = .ok (.aload_n 0, 1) := by decide +kernel
theorem dX7_loadSet_16 : decode cX7_loadSet 16 = .ok (.iload_n 3, 1) := by decide +kernel
theorem dX7_loadSet_17 : decode cX7_loadSet 17 = .ok (.iload_n 1, 1) := by decide +kernel
theorem dX7_loadSet_18 : decode cX7_loadSet 18 = .ok (.invokevirtual 87, 3) := by decide +kernel
theorem dX7_loadSet_21 : decode cX7_loadSet 21 = .ok (.ifCond .eq 9, 3) := by decide +kernel
theorem dX7_loadSet_24 : decode cX7_loadSet 24 = .ok (.iconst 1, 1) := by decide +kernel
theorem dX7_loadSet_25 : decode cX7_loadSet 25 = .ok (.iload_n 3, 1) := by decide +kernel
theorem dX7_loadSet_26 : decode cX7_loadSet 26 = .ok (.ishl, 1) := by decide +kernel
theorem dX7_loadSet_27 : decode cX7_loadSet 27 = .ok (.goto 4, 3) := by decide +kernel
theorem dX7_loadSet_30 : decode cX7_loadSet 30 = .ok (.iconst 0, 1) := by decide +kernel
theorem dX7_loadSet_31 : decode cX7_loadSet 31 = .ok (.ior, 1) := by decide +kernel
theorem dX7_loadSet_32 : decode cX7_loadSet 32 = .ok (.istore_n 2, 1) := by decide +kernel
theorem dX7_loadSet_33 : decode cX7_loadSet 33 = .ok (.iinc 3 1, 3) := by decide +kernel
theorem dX7_loadSet_36 : decode cX7_loadSet 36 = .ok (.goto (-32), 3) := by decide +kernel
theorem dX7_loadSet_39 : decode cX7_loadSet 39 = .ok (.iload_n 2, 1) := by decide +kernel
theorem dX7_loadSet_40 : decode cX7_loadSet 40 = .ok (.ireturn, 1) := by decide +kernel
theorem dX7_goal_0 : decode cX7_goal 0 = .ok (.aload_n 0, 1) := by decide +kernel
theorem dX7_goal_1 : decode cX7_goal 1 = .ok (.iload_n 1, 1) := by decide +kernel
theorem dX7_goal_2 : decode cX7_goal 2 = .ok (.iconst 2, 1) := by decide +kernel
theorem dX7_goal_3 : decode cX7_goal 3 = .ok (.invokevirtual 91, 3) := by decide +kernel
theorem dX7_goal_6 : decode cX7_goal 6 = .ok (.ifCond .ne 8, 3) := by decide +kernel
theorem dX7_goal_9 : decode cX7_goal 9 = .ok (.ldc 69, 2) := by decide +kernel
theorem dX7_goal_11 : decode cX7_goal 11 = .ok (.goto 9, 3) := by decide +kernel
theorem dX7_goal_14 : decode cX7_goal 14 = .ok (.aload_n 0, 1) := by decide +kernel
theorem dX7_goal_15 : decode cX7_goal 15 = .ok (.iload_n 1, 1) := by decide +kernel
theorem dX7_goal_16 : decode cX7_goal 16 = .ok (.iconst 3, 1) := by decide +kernel
theorem dX7_goal_17 : decode cX7_goal 17 = .ok (.invokevirtual 91, 3) := by decide +kernel
theorem dX7_goal_20 : decode cX7_goal 20 = .ok (.istore_n 2, 1) := by decide +kernel
theorem dX7_goal_21 : decode cX7_goal 21 = .ok (.iconst 0, 1) := by decide +kernel
theorem dX7_goal_22 : decode cX7_goal 22 = .ok (.istore_n 3, 1) := by decide +kernel
theorem dX7_goal_23 : decode cX7_goal 23 = .ok (.iload_n 3, 1) := by decide +kernel
theorem dX7_goal_24 : decode cX7_goal 24 = .ok (.aload_n 0, 1) := by decide +kernel
theorem dX7_goal_25 : decode cX7_goal 25 = .ok (.getfield 7, 3) := by decide +kernel
theorem dX7_goal_28 : decode cX7_goal 28 = .ok (.iconst 3, 1) := by decide +kernel
theorem dX7_goal_29 : decode cX7_goal 29 = .ok (.iaload, 1) := by decide +kernel
theorem dX7_goal_30 : decode cX7_goal 30 = .ok (.if_icmp .ge 29, 3) := by decide +kernel
theorem dX7_goal_33 : decode cX7_goal 33 = .ok (.aload_n 0, 1) := by decide +kernel
theorem dX7_goal_34 : decode cX7_goal 34 = .ok (.iload_n 3, 1) := by decide +kernel
theorem dX7_goal_35 : decode cX7_goal 35 = .ok (.iload_n 1, 1) := by decide +kernel
theorem dX7_goal_36 : decode cX7_goal 36 = .ok (.invokevirtual 87, 3) := by decide +kernel
theorem dX7_goal_39 : decode cX7_goal 39 = .ok (.ifCond .eq 12, 3) := by decide +kernel
theorem dX7_goal_42 : decode cX7_goal 42 = .ok (.aload_n 0, 1) := by decide +kernel
theorem dX7_goal_43 : decode cX7_goal 43 = .ok (.iload_n 3, 1) := by decide +kernel
theorem dX7_goal_44 : decode cX7_goal 44 = .ok (.iconst 0, 1) := by decide +kernel
theorem dX7_goal_45 : decode cX7_goal 45 = .ok (.invokevirtual 57, 3) := by decide +kernel
theorem dX7_goal_48 : decode cX7_goal 48 = .ok (.goto 4, 3) := by decide +kernel
theorem dX7_goal_51 : decode cX7_goal 51 = .ok (.iload_n 2, 1) := by decide +kernel
theorem dX7_goal_52 : decode cX7_goal 52 = .ok (.istore_n 2, 1) := by decide +kernel
theorem dX7_goal_53 : decode cX7_goal 53 = .ok (.iinc 3 1, 3) := by decide +kernel
theorem dX7_goal_56 : decode cX7_goal 56 = .ok (.goto (-33), 3) := by decide +kernel
theorem dX7_goal_59 : decode cX7_goal 59 = .ok (.iload_n 2, 1) := by decide +kernel
theorem dX7_goal_60 : decode cX7_goal 60 = .ok (.ireturn, 1) := by decide +kernel
theorem dX7_canLoad_0 : decode cX7_canLoad 0 = .ok (.aload_n 0, 1) := by decide +kernel
theorem dX7_canLoad_1 : decode cX7_canLoad 1 = .ok (.iload_n 1, 1) := by decide +kernel
theorem dX7_canLoad_2 : decode cX7_canLoad 2 = .ok (.bipush 6, 2) := by decide +kernel
theorem dX7_canLoad_4 : decode cX7_canLoad 4 = .ok (.invokevirtual 57, 3) := by decide +kernel
theorem dX7_canLoad_7 : decode cX7_canLoad 7 = .ok (.ifCond .ne 38, 3) := by decide +kernel
theorem dX7_canLoad_10 : decode cX7_canLoad 10 = .ok (.aload_n 0, 1) := by decide +kernel
theorem dX7_canLoad_11 : decode cX7_canLoad 11 = .ok (.iload_n 2, 1) := by decide +kernel
theorem dX7_canLoad_12 : decode cX7_canLoad 12 = .ok (.iconst 2, 1) := by decide +kernel
theorem dX7_canLoad_13 : decode cX7_canLoad 13 = .ok (.invokevirtual 91, 3) := by decide +kernel
theorem dX7_canLoad_16 : decode cX7_canLoad 16 = .ok (.ifCond .ne 29, 3) := by decide +kernel
theorem dX7_canLoad_19 : decode cX7_canLoad 19 = .ok (.aload_n 0, 1) := by decide +kernel
theorem dX7_canLoad_20 : decode cX7_canLoad 20 = .ok (.iload_n 2, 1) := by decide +kernel
theorem dX7_canLoad_21 : decode cX7_canLoad 21 = .ok (.invokevirtual 94, 3) := by decide +kernel
theorem dX7_canLoad_24 : decode cX7_canLoad 24 = .ok (.ifCond .lt 17, 3) := by decide +kernel
theorem dX7_canLoad_27 : decode cX7_canLoad 27 = .ok (.aload_n 0, 1) := by decide +kernel
theorem dX7_canLoad_28 : decode cX7_canLoad 28 = .ok (.iload_n 2, 1) := by decide +kernel
theorem dX7_canLoad_29 : decode cX7_canLoad 29 = .ok (.invokevirtual 94, 3) := by decide +kernel
theorem dX7_canLoad_32 : decode cX7_canLoad 32 = .ok (.aload_n 0, 1) := by decide +kernel
theorem dX7_canLoad_33 : decode cX7_canLoad 33 = .ok (.iload_n 1, 1) := by decide +kernel
theorem dX7_canLoad_34 : decode cX7_canLoad 34 = .ok (.iconst 0, 1) := by decide +kernel
theorem dX7_canLoad_35 : decode cX7_canLoad 35 = .ok (.invokevirtual 57, 3) := by decide +kernel
theorem dX7_canLoad_38 : decode cX7_canLoad 38 = .ok (.if_icmp .ne 7, 3) := by decide +kernel
theorem dX7_canLoad_41 : decode cX7_canLoad 41 = .ok (.iconst 1, 1) := by decide +kernel
theorem dX7_canLoad_42 : decode cX7_canLoad 42 = .ok (.goto 4, 3) := by decide +kernel
theorem dX7_canLoad_45 : decode cX7_canLoad 45 = .ok (.iconst 0, 1) := by decide +kernel
theorem dX7_canLoad_46 : decode cX7_canLoad 46 = .ok (.istore_n 3, 1) := by decide +kernel
theorem dX7_canLoad_47 : decode cX7_canLoad 47 = .ok (.iload_n 3, 1) := by decide +kernel
theorem dX7_canLoad_48 : decode cX7_canLoad 48 = .ok (.ifCond .eq 51, 3) := by decide +kernel
theorem dX7_canLoad_51 : decode cX7_canLoad 51 = .ok (.aload_n 0, 1) := by decide +kernel
theorem dX7_canLoad_52 : decode cX7_canLoad 52 = .ok (.iload_n 2, 1) := by decide +kernel
theorem dX7_canLoad_53 : decode cX7_canLoad 53 = .ok (.iconst 1, 1) := by decide +kernel
theorem dX7_canLoad_54 : decode cX7_canLoad 54 = .ok (.invokevirtual 98, 3) := by decide +kernel
theorem dX7_canLoad_57 : decode cX7_canLoad 57 = .ok (.aload_n 0, 1) := by decide +kernel
theorem dX7_canLoad_58 : decode cX7_canLoad 58 = .ok (.iload_n 1, 1) := by decide +kernel
theorem dX7_canLoad_59 : decode cX7_canLoad 59 = .ok (.iconst 1, 1) := by decide +kernel
theorem dX7_canLoad_60 : decode cX7_canLoad 60 = .ok (.invokevirtual 57, 3) := by decide +kernel
theorem dX7_canLoad_63 : decode cX7_canLoad 63 = .ok (.iadd, 1) := by decide +kernel
theorem dX7_canLoad_64 : decode cX7_canLoad 64 = .ok (.aload_n 0, 1) := by decide +kernel
theorem dX7_canLoad_65 : decode cX7_canLoad 65 = .ok (.iload_n 2, 1) := by decide +kernel
theorem dX7_canLoad_66 : decode cX7_canLoad 66 = .ok (.iconst 0, 1) := by decide +kernel
theorem dX7_canLoad_67 : decode cX7_canLoad 67 = .ok (.invokevirtual 91, 3) := by decide +kernel
theorem dX7_canLoad_70 : decode cX7_canLoad 70 = .ok (.if_icmp .gt 29, 3) := by decide +kernel
theorem dX7_canLoad_73 : decode cX7_canLoad 73 = .ok (.aload_n 0, 1) := by decide +kernel
theorem dX7_canLoad_74 : decode cX7_canLoad 74 = .ok (.iload_n 2, 1) := by decide +kernel
theorem dX7_canLoad_75 : decode cX7_canLoad 75 = .ok (.iconst 2, 1) := by decide +kernel
theorem dX7_canLoad_76 : decode cX7_canLoad 76 = .ok (.invokevirtual 98, 3) := by decide +kernel
theorem dX7_canLoad_79 : decode cX7_canLoad 79 = .ok (.aload_n 0, 1) := by decide +kernel
theorem dX7_canLoad_80 : decode cX7_canLoad 80 = .ok (.iload_n 1, 1) := by decide +kernel
theorem dX7_canLoad_81 : decode cX7_canLoad 81 = .ok (.iconst 2, 1) := by decide +kernel
theorem dX7_canLoad_82 : decode cX7_canLoad 82 = .ok (.invokevirtual 57, 3) := by decide +kernel
theorem dX7_canLoad_85 : decode cX7_canLoad 85 = .ok (.iadd, 1) := by decide +kernel
theorem dX7_canLoad_86 : decode cX7_canLoad 86 = .ok (.aload_n 0, 1) := by decide +kernel
theorem dX7_canLoad_87 : decode cX7_canLoad 87 = .ok (.iload_n 2, 1) := by decide +kernel
theorem dX7_canLoad_88 : decode cX7_canLoad 88 = .ok (.iconst 1, 1) := by decide +kernel
theorem dX7_canLoad_89 : decode cX7_canLoad 89 = .ok (.invokevirtual 91, 3) := by decide +kernel
theorem dX7_canLoad_92 : decode cX7_canLoad 92 = .ok (.if_icmp .gt 7, 3) := by decide +kernel
theorem dX7_canLoad_95 : decode cX7_canLoad 95 = .ok (.iconst 1, 1) := by decide +kernel
theorem dX7_canLoad_96 : decode cX7_canLoad 96 = .ok (.goto 4, 3) := by decide +kernel
theorem dX7_canLoad_99 : decode cX7_canLoad 99 = .ok (.iconst 0, 1) := by decide +kernel
theorem dX7_canLoad_100 : decode cX7_canLoad 100 = .ok (.ireturn, 1) := by decide +kernel
theorem dX7_loads_0 : decode cX7_loads 0 = .ok (.aload_n 0, 1) := by decide +kernel
theorem dX7_loads_1 : decode cX7_loads 1 = .ok (.iload_n 1, 1) := by decide +kernel
theorem dX7_loads_2 : decode cX7_loads 2 = .ok (.bipush 6, 2) := by decide +kernel
theorem dX7_loads_4 : decode cX7_loads 4 = .ok (.iconst 1, 1) := by decide +kernel
theorem dX7_loads_5 : decode cX7_loads 5 = .ok (.invokevirtual 65, 3) := by decide +kernel
theorem dX7_loads_8 : decode cX7_loads 8 = .ok (.aload_n 0, 1) := by decide +kernel
theorem dX7_loads_9 : decode cX7_loads 9 = .ok (.iload_n 1, 1) := by decide +kernel
theorem dX7_loads_10 : decode cX7_loads 10 = .ok (.bipush 7, 2) := by decide +kernel
theorem dX7_loads_12 : decode cX7_loads 12 = .ok (.iload_n 2, 1) := by decide +kernel
theorem dX7_loads_13 : decode cX7_loads 13 = .ok (.invokevirtual 65, 3) := by decide +kernel
theorem dX7_loads_16 : decode cX7_loads 16 = .ok (.return_, 1) := by decide +kernel
theorem dX7_load_0 : decode cX7_load 0 = .ok (.aload_n 0, 1) := by decide +kernel
theorem dX7_load_1 : decode cX7_load 1 = .ok (.iload_n 1, 1) := by decide +kernel
theorem dX7_load_2 : decode cX7_load 2 = .ok (.invokevirtual 61, 3) := by decide +kernel
theorem dX7_load_5 : decode cX7_load 5 = .ok (.ifCond .eq 11, 3) := by decide +kernel
theorem dX7_load_8 : decode cX7_load 8 = .ok (.aload_n 0, 1) := by decide +kernel
theorem dX7_load_9 : decode cX7_load 9 = .ok (.iload_n 2, 1) := by decide +kernel
theorem dX7_load_10 : decode cX7_load 10 = .ok (.invokevirtual 101, 3) := by decide +kernel
theorem dX7_load_13 : decode cX7_load 13 = .ok (.ifCond .ne 6, 3) := by decide +kernel
theorem dX7_load_16 : decode cX7_load 16 = .ok (.ldc 74, 2) := by decide +kernel
theorem dX7_load_18 : decode cX7_load 18 = .ok (.ireturn, 1) := by decide +kernel
theorem dX7_load_19 : decode cX7_load 19 = .ok (.aload_n 0, 1) := by decide +kernel
theorem dX7_load_20 : decode cX7_load 20 = .ok (.iload_n 1, 1) := by decide +kernel
theorem dX7_load_21 : decode cX7_load 21 = .ok (.iload_n 2, 1) := by decide +kernel
theorem dX7_load_22 : decode cX7_load 22 = .ok (.invokevirtual 104, 3) := by decide +kernel
theorem dX7_load_25 : decode cX7_load 25 = .ok (.ifCond .ne 6, 3) := by decide +kernel
theorem dX7_load_28 : decode cX7_load 28 = .ok (.ldc 83, 2) := by decide +kernel
theorem dX7_load_30 : decode cX7_load 30 = .ok (.ireturn, 1) := by decide +kernel
theorem dX7_load_31 : decode cX7_load 31 = .ok (.aload_n 0, 1) := by decide +kernel
theorem dX7_load_32 : decode cX7_load 32 = .ok (.invokevirtual 76, 3) := by decide +kernel
theorem dX7_load_35 : decode cX7_load 35 = .ok (.aload_n 0, 1) := by decide +kernel
theorem dX7_load_36 : decode cX7_load 36 = .ok (.iload_n 1, 1) := by decide +kernel
theorem dX7_load_37 : decode cX7_load 37 = .ok (.iload_n 2, 1) := by decide +kernel
theorem dX7_load_38 : decode cX7_load 38 = .ok (.invokevirtual 107, 3) := by decide +kernel
theorem dX7_load_41 : decode cX7_load 41 = .ok (.aload_n 0, 1) := by decide +kernel
theorem dX7_load_42 : decode cX7_load 42 = .ok (.iload_n 2, 1) := by decide +kernel
theorem dX7_load_43 : decode cX7_load 43 = .ok (.iconst 0, 1) := by decide +kernel
theorem dX7_load_44 : decode cX7_load 44 = .ok (.invokevirtual 91, 3) := by decide +kernel
theorem dX7_load_47 : decode cX7_load 47 = .ok (.aload_n 0, 1) := by decide +kernel
theorem dX7_load_48 : decode cX7_load 48 = .ok (.iload_n 2, 1) := by decide +kernel
theorem dX7_load_49 : decode cX7_load 49 = .ok (.iconst 1, 1) := by decide +kernel
theorem dX7_load_50 : decode cX7_load 50 = .ok (.invokevirtual 98, 3) := by decide +kernel
theorem dX7_load_53 : decode cX7_load 53 = .ok (.isub, 1) := by decide +kernel
theorem dX7_load_54 : decode cX7_load 54 = .ok (.ireturn, 1) := by decide +kernel
theorem dX7_unload_0 : decode cX7_unload 0 = .ok (.aload_n 0, 1) := by decide +kernel
theorem dX7_unload_1 : decode cX7_unload 1 = .ok (.iload_n 1, 1) := by decide +kernel
theorem dX7_unload_2 : decode cX7_unload 2 = .ok (.invokevirtual 61, 3) := by decide +kernel
theorem dX7_unload_5 : decode cX7_unload 5 = .ok (.ifCond .ne 6, 3) := by decide +kernel
theorem dX7_unload_8 : decode cX7_unload 8 = .ok (.ldc 74, 2) := by decide +kernel
theorem dX7_unload_10 : decode cX7_unload 10 = .ok (.ireturn, 1) := by decide +kernel
theorem dX7_unload_11 : decode cX7_unload 11 = .ok (.aload_n 0, 1) := by decide +kernel
theorem dX7_unload_12 : decode cX7_unload 12 = .ok (.iload_n 1, 1) := by decide +kernel
theorem dX7_unload_13 : decode cX7_unload 13 = .ok (.bipush 6, 2) := by decide +kernel
theorem dX7_unload_15 : decode cX7_unload 15 = .ok (.invokevirtual 57, 3) := by decide +kernel
theorem dX7_unload_18 : decode cX7_unload 18 = .ok (.iconst 1, 1) := by decide +kernel
theorem dX7_unload_19 : decode cX7_unload 19 = .ok (.if_icmp .eq 6, 3) := by decide +kernel
theorem dX7_unload_22 : decode cX7_unload 22 = .ok (.ldc 83, 2) := by decide +kernel
theorem dX7_unload_24 : decode cX7_unload 24 = .ok (.ireturn, 1) := by decide +kernel
theorem dX7_unload_25 : decode cX7_unload 25 = .ok (.aload_n 0, 1) := by decide +kernel
theorem dX7_unload_26 : decode cX7_unload 26 = .ok (.invokevirtual 76, 3) := by decide +kernel
theorem dX7_unload_29 : decode cX7_unload 29 = .ok (.aload_n 0, 1) := by decide +kernel
theorem dX7_unload_30 : decode cX7_unload 30 = .ok (.iload_n 1, 1) := by decide +kernel
theorem dX7_unload_31 : decode cX7_unload 31 = .ok (.bipush 6, 2) := by decide +kernel
theorem dX7_unload_33 : decode cX7_unload 33 = .ok (.iconst 0, 1) := by decide +kernel
theorem dX7_unload_34 : decode cX7_unload 34 = .ok (.invokevirtual 65, 3) := by decide +kernel
theorem dX7_unload_37 : decode cX7_unload 37 = .ok (.aload_n 0, 1) := by decide +kernel
theorem dX7_unload_38 : decode cX7_unload 38 = .ok (.iload_n 1, 1) := by decide +kernel
theorem dX7_unload_39 : decode cX7_unload 39 = .ok (.bipush 7, 2) := by decide +kernel
theorem dX7_unload_41 : decode cX7_unload 41 = .ok (.invokevirtual 57, 3) := by decide +kernel
theorem dX7_unload_44 : decode cX7_unload 44 = .ok (.ireturn, 1) := by decide +kernel
theorem dX7_isAhead_0 : decode cX7_isAhead 0 = .ok (.iload_n 3, 1) := by decide +kernel
theorem dX7_isAhead_1 : decode cX7_isAhead 1 = .ok (.ifCond .ne 19, 3) := by decide +kernel
theorem dX7_isAhead_4 : decode cX7_isAhead 4 = .ok (.aload_n 0, 1) := by decide +kernel
theorem dX7_isAhead_5 : decode cX7_isAhead 5 = .ok (.iload_n 1, 1) := by decide +kernel
theorem dX7_isAhead_6 : decode cX7_isAhead 6 = .ok (.iconst 4, 1) := by decide +kernel
theorem dX7_isAhead_7 : decode cX7_isAhead 7 = .ok (.invokevirtual 57, 3) := by decide +kernel
theorem dX7_isAhead_10 : decode cX7_isAhead 10 = .ok (.aload_n 0, 1) := by decide +kernel
theorem dX7_isAhead_11 : decode cX7_isAhead 11 = .ok (.iload_n 2, 1) := by decide +kernel
theorem dX7_isAhead_12 : decode cX7_isAhead 12 = .ok (.iconst 4, 1) := by decide +kernel
theorem dX7_isAhead_13 : decode cX7_isAhead 13 = .ok (.invokevirtual 57, 3) := by decide +kernel
theorem dX7_isAhead_16 : decode cX7_isAhead 16 = .ok (.isub, 1) := by decide +kernel
theorem dX7_isAhead_17 : decode cX7_isAhead 17 = .ok (.goto 51, 3) := by decide +kernel
theorem dX7_isAhead_20 : decode cX7_isAhead 20 = .ok (.iload_n 3, 1) := by decide +kernel
theorem dX7_isAhead_21 : decode cX7_isAhead 21 = .ok (.iconst 1, 1) := by decide +kernel
theorem dX7_isAhead_22 : decode cX7_isAhead 22 = .ok (.if_icmp .ne 19, 3) := by decide +kernel
theorem dX7_isAhead_25 : decode cX7_isAhead 25 = .ok (.aload_n 0, 1) := by decide +kernel
theorem dX7_isAhead_26 : decode cX7_isAhead 26 = .ok (.iload_n 2, 1) := by decide +kernel
theorem dX7_isAhead_27 : decode cX7_isAhead 27 = .ok (.iconst 5, 1) := by decide +kernel
theorem dX7_isAhead_28 : decode cX7_isAhead 28 = .ok (.invokevirtual 57, 3) := by decide +kernel
theorem dX7_isAhead_31 : decode cX7_isAhead 31 = .ok (.aload_n 0, 1) := by decide +kernel
theorem dX7_isAhead_32 : decode cX7_isAhead 32 = .ok (.iload_n 1, 1) := by decide +kernel
theorem dX7_isAhead_33 : decode cX7_isAhead 33 = .ok (.iconst 5, 1) := by decide +kernel
theorem dX7_isAhead_34 : decode cX7_isAhead 34 = .ok (.invokevirtual 57, 3) := by decide +kernel
theorem dX7_isAhead_37 : decode cX7_isAhead 37 = .ok (.isub, 1) := by decide +kernel
theorem dX7_isAhead_38 : decode cX7_isAhead 38 = .ok (.goto 30, 3) := by decide +kernel
theorem dX7_isAhead_41 : decode cX7_isAhead 41 = .ok (.aload_n 0, 1) := by decide +kernel
theorem dX7_isAhead_42 : decode cX7_isAhead 42 = .ok (.iload_n 2, 1) := by decide +kernel
theorem dX7_isAhead_43 : decode cX7_isAhead 43 = .ok (.iconst 5, 1) := by decide +kernel
theorem dX7_isAhead_44 : decode cX7_isAhead 44 = .ok (.invokevirtual 57, 3) := by decide +kernel
theorem dX7_isAhead_47 : decode cX7_isAhead 47 = .ok (.aload_n 0, 1) := by decide +kernel
theorem dX7_isAhead_48 : decode cX7_isAhead 48 = .ok (.iload_n 1, 1) := by decide +kernel
theorem dX7_isAhead_49 : decode cX7_isAhead 49 = .ok (.iconst 1, 1) := by decide +kernel
theorem dX7_isAhead_50 : decode cX7_isAhead 50 = .ok (.invokevirtual 57, 3) := by decide +kernel
theorem dX7_isAhead_53 : decode cX7_isAhead 53 = .ok (.imul, 1) := by decide +kernel
theorem dX7_isAhead_54 : decode cX7_isAhead 54 = .ok (.aload_n 0, 1) := by decide +kernel
theorem dX7_isAhead_55 : decode cX7_isAhead 55 = .ok (.iload_n 1, 1) := by decide +kernel
theorem dX7_isAhead_56 : decode cX7_isAhead 56 = .ok (.iconst 5, 1) := by decide +kernel
theorem dX7_isAhead_57 : decode cX7_isAhead 57 = .ok (.invokevirtual 57, 3) := by decide +kernel
theorem dX7_isAhead_60 : decode cX7_isAhead 60 = .ok (.aload_n 0, 1) := by decide +kernel
theorem dX7_isAhead_61 : decode cX7_isAhead 61 = .ok (.iload_n 2, 1) := by decide +kernel
theorem dX7_isAhead_62 : decode cX7_isAhead 62 = .ok (.iconst 1, 1) := by decide +kernel
theorem dX7_isAhead_63 : decode cX7_isAhead 63 = .ok (.invokevirtual 57, 3) := by decide +kernel
theorem dX7_isAhead_66 : decode cX7_isAhead 66 = .ok (.imul, 1) := by decide +kernel
theorem dX7_isAhead_67 : decode cX7_isAhead 67 = .ok (.isub, 1) := by decide +kernel
theorem dX7_isAhead_68 : decode cX7_isAhead 68 = .ok (.istore 4, 2) := by decide +kernel
theorem dX7_isAhead_70 : decode cX7_isAhead 70 = .ok (.iload 4, 2) := by decide +kernel
theorem dX7_isAhead_72 : decode cX7_isAhead 72 = .ok (.ifCond .lt 13, 3) := by decide +kernel
theorem dX7_isAhead_75 : decode cX7_isAhead 75 = .ok (.iload 4, 2) := by decide +kernel
theorem dX7_isAhead_77 : decode cX7_isAhead 77 = .ok (.ifCond .ne 12, 3) := by decide +kernel
theorem dX7_isAhead_80 : decode cX7_isAhead 80 = .ok (.iload_n 1, 1) := by decide +kernel
theorem dX7_isAhead_81 : decode cX7_isAhead 81 = .ok (.iload_n 2, 1) := by decide +kernel
theorem dX7_isAhead_82 : decode cX7_isAhead 82 = .ok (.if_icmp .ge 7, 3) := by decide +kernel
theorem dX7_isAhead_85 : decode cX7_isAhead 85 = .ok (.iconst 1, 1) := by decide +kernel
theorem dX7_isAhead_86 : decode cX7_isAhead 86 = .ok (.goto 4, 3) := by decide +kernel
theorem dX7_isAhead_89 : decode cX7_isAhead 89 = .ok (.iconst 0, 1) := by decide +kernel
theorem dX7_isAhead_90 : decode cX7_isAhead 90 = .ok (.ireturn, 1) := by decide +kernel
theorem dX7_fills_0 : decode cX7_fills 0 = .ok (.iconst 0, 1) := by decide +kernel
theorem dX7_fills_1 : decode cX7_fills 1 = .ok (.istore 4, 2) := by decide +kernel
theorem dX7_fills_3 : decode cX7_fills 3 = .ok (.iconst 0, 1) := by decide +kernel
theorem dX7_fills_4 : decode cX7_fills 4 = .ok (.istore 5, 2) := by decide +kernel
theorem dX7_fills_6 : decode cX7_fills 6 = .ok (.iconst 0, 1) := by decide +kernel
theorem dX7_fills_7 : decode cX7_fills 7 = .ok (.istore 6, 2) := by decide +kernel
theorem dX7_fills_9 : decode cX7_fills 9 = .ok (.iload 6, 2) := by decide +kernel
theorem dX7_fills_11 : decode cX7_fills 11 = .ok (.ifCond .lt 149, 3) := by decide +kernel
theorem dX7_fills_14 : decode cX7_fills 14 = .ok (.ldc 69, 2) := by decide +kernel
theorem dX7_fills_16 : decode cX7_fills 16 = .ok (.istore 6, 2) := by decide +kernel
theorem dX7_fills_18 : decode cX7_fills 18 = .ok (.iconst 0, 1) := by decide +kernel
theorem dX7_fills_19 : decode cX7_fills 19 = .ok (.istore 7, 2) := by decide +kernel
theorem dX7_fills_21 : decode cX7_fills 21 = .ok (.iload 7, 2) := by decide +kernel
theorem dX7_fills_23 : decode cX7_fills 23 = .ok (.aload_n 0, 1) := by decide +kernel
theorem dX7_fills_24 : decode cX7_fills 24 = .ok (.getfield 7, 3) := by decide +kernel
theorem dX7_fills_27 : decode cX7_fills 27 = .ok (.iconst 3, 1) := by decide +kernel
theorem dX7_fills_28 : decode cX7_fills 28 = .ok (.iaload, 1) := by decide +kernel
theorem dX7_fills_29 : decode cX7_fills 29 = .ok (.if_icmp .ge 88, 3) := by decide +kernel
theorem dX7_fills_32 : decode cX7_fills 32 = .ok (.aload_n 0, 1) := by decide +kernel
theorem dX7_fills_33 : decode cX7_fills 33 = .ok (.iload 7, 2) := by decide +kernel
theorem dX7_fills_35 : decode cX7_fills 35 = .ok (.invokevirtual 61, 3) := by decide +kernel
theorem dX7_fills_38 : decode cX7_fills 38 = .ok (.ifCond .eq 39, 3) := by decide +kernel
theorem dX7_fills_41 : decode cX7_fills 41 = .ok (.aload_n 0, 1) := by decide +kernel
theorem dX7_fills_42 : decode cX7_fills 42 = .ok (.iload 7, 2) := by decide +kernel
theorem dX7_fills_44 : decode cX7_fills 44 = .ok (.bipush 6, 2) := by decide +kernel
theorem dX7_fills_46 : decode cX7_fills 46 = .ok (.invokevirtual 57, 3) := by decide +kernel
theorem dX7_fills_49 : decode cX7_fills 49 = .ok (.ifCond .ne 28, 3) := by decide +kernel
theorem dX7_fills_52 : decode cX7_fills 52 = .ok (.aload_n 0, 1) := by decide +kernel
theorem dX7_fills_53 : decode cX7_fills 53 = .ok (.iload 7, 2) := by decide +kernel
theorem dX7_fills_55 : decode cX7_fills 55 = .ok (.iconst 0, 1) := by decide +kernel
theorem dX7_fills_56 : decode cX7_fills 56 = .ok (.invokevirtual 57, 3) := by decide +kernel
theorem dX7_fills_59 : decode cX7_fills 59 = .ok (.iload_n 2, 1) := by decide +kernel
theorem dX7_fills_60 : decode cX7_fills 60 = .ok (.if_icmp .ne 17, 3) := by decide +kernel
theorem dX7_fills_63 : decode cX7_fills 63 = .ok (.iload 4, 2) := by decide +kernel
theorem dX7_fills_65 : decode cX7_fills 65 = .ok (.iload 7, 2) := by decide +kernel
theorem dX7_fills_67 : decode cX7_fills 67 = .ok (.ishr, 1) := by decide +kernel
theorem dX7_fills_68 : decode cX7_fills 68 = .ok (.iconst 1, 1) := by decide +kernel
theorem dX7_fills_69 : decode cX7_fills 69 = .ok (.iand, 1) := by decide +kernel
theorem dX7_fills_70 : decode cX7_fills 70 = .ok (.ifCond .ne 7, 3) := by decide +kernel
theorem dX7_fills_73 : decode cX7_fills 73 = .ok (.iconst 1, 1) := by decide +kernel
theorem dX7_fills_74 : decode cX7_fills 74 = .ok (.goto 4, 3) := by decide +kernel
theorem dX7_fills_77 : decode cX7_fills 77 = .ok (.iconst 0, 1) := by decide +kernel
theorem dX7_fills_78 : decode cX7_fills 78 = .ok (.istore 8, 2) := by decide +kernel
theorem dX7_fills_80 : decode cX7_fills 80 = .ok (.iload 8, 2) := by decide +kernel
theorem dX7_fills_82 : decode cX7_fills 82 = .ok (.ifCond .eq 25, 3) := by decide +kernel
theorem dX7_fills_85 : decode cX7_fills 85 = .ok (.iload 6, 2) := by decide +kernel
theorem dX7_fills_87 : decode cX7_fills 87 = .ok (.ifCond .lt 15, 3) := by decide +kernel
theorem dX7_fills_90 : decode cX7_fills 90 = .ok (.aload_n 0, 1) := by decide +kernel
theorem dX7_fills_91 : decode cX7_fills 91 = .ok (.iload 7, 2) := by decide +kernel
theorem dX7_fills_93 : decode cX7_fills 93 = .ok (.iload 6, 2) := by decide +kernel
theorem dX7_fills_95 : decode cX7_fills 95 = .ok (.iload_n 3, 1) := by decide +kernel
theorem dX7_fills_96 : decode cX7_fills 96 = .ok (.invokevirtual 111, 3) := by decide +kernel
theorem dX7_fills_99 : decode cX7_fills 99 = .ok (.ifCond .eq 8, 3) := by decide +kernel
theorem dX7_fills_102 : decode cX7_fills 102 = .ok (.iload 7, 2) := by decide +kernel
theorem dX7_fills_104 : decode cX7_fills 104 = .ok (.goto 5, 3) := by decide +kernel
theorem dX7_fills_107 : decode cX7_fills 107 = .ok (.iload 6, 2) := by decide +kernel
theorem dX7_fills_109 : decode cX7_fills 109 = .ok (.istore 6, 2) := by decide +kernel
theorem dX7_fills_111 : decode cX7_fills 111 = .ok (.iinc 7 1, 3) := by decide +kernel
theorem dX7_fills_114 : decode cX7_fills 114 = .ok (.goto (-93), 3) := by decide +kernel
theorem dX7_fills_117 : decode cX7_fills 117 = .ok (.iload 6, 2) := by decide +kernel
theorem dX7_fills_119 : decode cX7_fills 119 = .ok (.ifCond .lt (-110), 3) := by decide +kernel
theorem dX7_fills_122 : decode cX7_fills 122 = .ok (.iload 4, 2) := by decide +kernel
theorem dX7_fills_124 : decode cX7_fills 124 = .ok (.iconst 1, 1) := by decide +kernel
theorem dX7_fills_125 : decode cX7_fills 125 = .ok (.iload 6, 2) := by decide +kernel
theorem dX7_fills_127 : decode cX7_fills 127 = .ok (.ishl, 1) := by decide +kernel
theorem dX7_fills_128 : decode cX7_fills 128 = .ok (.ior, 1) := by decide +kernel
theorem dX7_fills_129 : decode cX7_fills 129 = .ok (.istore 4, 2) := by decide +kernel
theorem dX7_fills_131 : decode cX7_fills 131 = .ok (.aload_n 0, 1) := by decide +kernel
theorem dX7_fills_132 : decode cX7_fills 132 = .ok (.iload 6, 2) := by decide +kernel
theorem dX7_fills_134 : decode cX7_fills 134 = .ok (.iload_n 1, 1) := by decide +kernel
theorem dX7_fills_135 : decode cX7_fills 135 = .ok (.invokevirtual 104, 3) := by decide +kernel
theorem dX7_fills_138 : decode cX7_fills 138 = .ok (.ifCond .eq (-129), 3) := by decide +kernel
theorem dX7_fills_141 : decode cX7_fills 141 = .ok (.aload_n 0, 1) := by decide +kernel
theorem dX7_fills_142 : decode cX7_fills 142 = .ok (.iload 6, 2) := by decide +kernel
theorem dX7_fills_144 : decode cX7_fills 144 = .ok (.iload_n 1, 1) := by decide +kernel
theorem dX7_fills_145 : decode cX7_fills 145 = .ok (.invokevirtual 107, 3) := by decide +kernel
theorem dX7_fills_148 : decode cX7_fills 148 = .ok (.iload 5, 2) := by decide +kernel
theorem dX7_fills_150 : decode cX7_fills 150 = .ok (.iconst 1, 1) := by decide +kernel
theorem dX7_fills_151 : decode cX7_fills 151 = .ok (.iload 6, 2) := by decide +kernel
theorem dX7_fills_153 : decode cX7_fills 153 = .ok (.ishl, 1) := by decide +kernel
theorem dX7_fills_154 : decode cX7_fills 154 = .ok (.ior, 1) := by decide +kernel
theorem dX7_fills_155 : decode cX7_fills 155 = .ok (.istore 5, 2) := by decide +kernel
theorem dX7_fills_157 : decode cX7_fills 157 = .ok (.goto (-148), 3) := by decide +kernel
theorem dX7_fills_160 : decode cX7_fills 160 = .ok (.iload 5, 2) := by decide +kernel
theorem dX7_fills_162 : decode cX7_fills 162 = .ok (.ireturn, 1) := by decide +kernel
theorem dX7_bits_0 : decode cX7_bits 0 = .ok (.iconst 0, 1) := by decide +kernel
theorem dX7_bits_1 : decode cX7_bits 1 = .ok (.istore_n 1, 1) := by decide +kernel
theorem dX7_bits_2 : decode cX7_bits 2 = .ok (.iconst 0, 1) := by decide +kernel
theorem dX7_bits_3 : decode cX7_bits 3 = .ok (.istore_n 2, 1) := by decide +kernel
theorem dX7_bits_4 : decode cX7_bits 4 = .ok (.iload_n 2, 1) := by decide +kernel
theorem dX7_bits_5 : decode cX7_bits 5 = .ok (.bipush 16, 2) := by decide +kernel
theorem dX7_bits_7 : decode cX7_bits 7 = .ok (.if_icmp .ge 17, 3) := by decide +kernel
theorem dX7_bits_10 : decode cX7_bits 10 = .ok (.iload_n 1, 1) := by decide +kernel
theorem dX7_bits_11 : decode cX7_bits 11 = .ok (.iload_n 0, 1) := by decide +kernel
theorem dX7_bits_12 : decode cX7_bits 12 = .ok (.iload_n 2, 1) := by decide +kernel
theorem dX7_bits_13 : decode cX7_bits 13 = .ok (.ishr, 1) := by decide +kernel
theorem dX7_bits_14 : decode cX7_bits 14 = .ok (.iconst 1, 1) := by decide +kernel
theorem dX7_bits_15 : decode cX7_bits 15 = .ok (.iand, 1) := by decide +kernel
theorem dX7_bits_16 : decode cX7_bits 16 = .ok (.iadd, 1) := by decide +kernel
theorem dX7_bits_17 : decode cX7_bits 17 = .ok (.istore_n 1, 1) := by decide +kernel
theorem dX7_bits_18 : decode cX7_bits 18 = .ok (.iinc 2 1, 3) := by decide +kernel
theorem dX7_bits_21 : decode cX7_bits 21 = .ok (.goto (-17), 3) := by decide +kernel
theorem dX7_bits_24 : decode cX7_bits 24 = .ok (.iload_n 1, 1) := by decide +kernel
theorem dX7_bits_25 : decode cX7_bits 25 = .ok (.ireturn, 1) := by decide +kernel
theorem dX7_fill_0 : decode cX7_fill 0 = .ok (.aload_n 0, 1) := by decide +kernel
theorem dX7_fill_1 : decode cX7_fill 1 = .ok (.iload_n 1, 1) := by decide +kernel
theorem dX7_fill_2 : decode cX7_fill 2 = .ok (.invokevirtual 101, 3) := by decide +kernel
theorem dX7_fill_5 : decode cX7_fill 5 = .ok (.ifCond .eq 21, 3) := by decide +kernel
theorem dX7_fill_8 : decode cX7_fill 8 = .ok (.iload_n 2, 1) := by decide +kernel
theorem dX7_fill_9 : decode cX7_fill 9 = .ok (.iconst 1, 1) := by decide +kernel
theorem dX7_fill_10 : decode cX7_fill 10 = .ok (.iconst 4, 1) := by decide +kernel
theorem dX7_fill_11 : decode cX7_fill 11 = .ok (.invokestatic 70, 3) := by decide +kernel
theorem dX7_fill_14 : decode cX7_fill 14 = .ok (.ifCond .eq 12, 3) := by decide +kernel
theorem dX7_fill_17 : decode cX7_fill 17 = .ok (.iload_n 3, 1) := by decide +kernel
theorem dX7_fill_18 : decode cX7_fill 18 = .ok (.iconst 0, 1) := by decide +kernel
theorem dX7_fill_19 : decode cX7_fill 19 = .ok (.iconst 2, 1) := by decide +kernel
theorem dX7_fill_20 : decode cX7_fill 20 = .ok (.invokestatic 70, 3) := by decide +kernel
theorem dX7_fill_23 : decode cX7_fill 23 = .ok (.ifCond .ne 6, 3) := by decide +kernel
theorem dX7_fill_26 : decode cX7_fill 26 = .ok (.ldc 74, 2) := by decide +kernel
theorem dX7_fill_28 : decode cX7_fill 28 = .ok (.ireturn, 1) := by decide +kernel
theorem dX7_fill_29 : decode cX7_fill 29 = .ok (.aload_n 0, 1) := by decide +kernel
theorem dX7_fill_30 : decode cX7_fill 30 = .ok (.iload_n 1, 1) := by decide +kernel
theorem dX7_fill_31 : decode cX7_fill 31 = .ok (.iconst 2, 1) := by decide +kernel
theorem dX7_fill_32 : decode cX7_fill 32 = .ok (.invokevirtual 91, 3) := by decide +kernel
theorem dX7_fill_35 : decode cX7_fill 35 = .ok (.ifCond .le 6, 3) := by decide +kernel
theorem dX7_fill_38 : decode cX7_fill 38 = .ok (.ldc 83, 2) := by decide +kernel
theorem dX7_fill_40 : decode cX7_fill 40 = .ok (.ireturn, 1) := by decide +kernel
theorem dX7_fill_41 : decode cX7_fill 41 = .ok (.aload_n 0, 1) := by decide +kernel
theorem dX7_fill_42 : decode cX7_fill 42 = .ok (.invokevirtual 76, 3) := by decide +kernel
theorem dX7_fill_45 : decode cX7_fill 45 = .ok (.aload_n 0, 1) := by decide +kernel
theorem dX7_fill_46 : decode cX7_fill 46 = .ok (.iload_n 1, 1) := by decide +kernel
theorem dX7_fill_47 : decode cX7_fill 47 = .ok (.iload_n 2, 1) := by decide +kernel
theorem dX7_fill_48 : decode cX7_fill 48 = .ok (.iload_n 3, 1) := by decide +kernel
theorem dX7_fill_49 : decode cX7_fill 49 = .ok (.invokevirtual 114, 3) := by decide +kernel
theorem dX7_fill_52 : decode cX7_fill 52 = .ok (.invokestatic 118, 3) := by decide +kernel
theorem dX7_fill_55 : decode cX7_fill 55 = .ok (.ireturn, 1) := by decide +kernel
theorem dX7_depart_0 : decode cX7_depart 0 = .ok (.aload_n 0, 1) := by decide +kernel
theorem dX7_depart_1 : decode cX7_depart 1 = .ok (.iload_n 1, 1) := by decide +kernel
theorem dX7_depart_2 : decode cX7_depart 2 = .ok (.invokevirtual 101, 3) := by decide +kernel
theorem dX7_depart_5 : decode cX7_depart 5 = .ok (.ifCond .ne 6, 3) := by decide +kernel
theorem dX7_depart_8 : decode cX7_depart 8 = .ok (.ldc 74, 2) := by decide +kernel
theorem dX7_depart_10 : decode cX7_depart 10 = .ok (.ireturn, 1) := by decide +kernel
theorem dX7_depart_11 : decode cX7_depart 11 = .ok (.aload_n 0, 1) := by decide +kernel
theorem dX7_depart_12 : decode cX7_depart 12 = .ok (.iload_n 1, 1) := by decide +kernel
theorem dX7_depart_13 : decode cX7_depart 13 = .ok (.iconst 2, 1) := by decide +kernel
theorem dX7_depart_14 : decode cX7_depart 14 = .ok (.invokevirtual 91, 3) := by decide +kernel
theorem dX7_depart_17 : decode cX7_depart 17 = .ok (.ifCond .gt 11, 3) := by decide +kernel
theorem dX7_depart_20 : decode cX7_depart 20 = .ok (.aload_n 0, 1) := by decide +kernel
theorem dX7_depart_21 : decode cX7_depart 21 = .ok (.iload_n 1, 1) := by decide +kernel
theorem dX7_depart_22 : decode cX7_depart 22 = .ok (.invokevirtual 121, 3) := by decide +kernel
theorem dX7_depart_25 : decode cX7_depart 25 = .ok (.ifCond .ne 6, 3) := by decide +kernel
theorem dX7_depart_28 : decode cX7_depart 28 = .ok (.ldc 83, 2) := by decide +kernel
theorem dX7_depart_30 : decode cX7_depart 30 = .ok (.ireturn, 1) := by decide +kernel
theorem dX7_depart_31 : decode cX7_depart 31 = .ok (.aload_n 0, 1) := by decide +kernel
theorem dX7_depart_32 : decode cX7_depart 32 = .ok (.invokevirtual 76, 3) := by decide +kernel
theorem dX7_depart_35 : decode cX7_depart 35 = .ok (.aload_n 0, 1) := by decide +kernel
theorem dX7_depart_36 : decode cX7_depart 36 = .ok (.iload_n 1, 1) := by decide +kernel
theorem dX7_depart_37 : decode cX7_depart 37 = .ok (.invokevirtual 94, 3) := by decide +kernel
theorem dX7_depart_40 : decode cX7_depart 40 = .ok (.istore_n 2, 1) := by decide +kernel
theorem dX7_depart_41 : decode cX7_depart 41 = .ok (.aload_n 0, 1) := by decide +kernel
theorem dX7_depart_42 : decode cX7_depart 42 = .ok (.iload_n 1, 1) := by decide +kernel
theorem dX7_depart_43 : decode cX7_depart 43 = .ok (.iconst 2, 1) := by decide +kernel
theorem dX7_depart_44 : decode cX7_depart 44 = .ok (.iconst 1, 1) := by decide +kernel
theorem dX7_depart_45 : decode cX7_depart 45 = .ok (.invokevirtual 84, 3) := by decide +kernel
theorem dX7_depart_48 : decode cX7_depart 48 = .ok (.aload_n 0, 1) := by decide +kernel
theorem dX7_depart_49 : decode cX7_depart 49 = .ok (.iload_n 1, 1) := by decide +kernel
theorem dX7_depart_50 : decode cX7_depart 50 = .ok (.iconst 3, 1) := by decide +kernel
theorem dX7_depart_51 : decode cX7_depart 51 = .ok (.iload_n 2, 1) := by decide +kernel
theorem dX7_depart_52 : decode cX7_depart 52 = .ok (.invokevirtual 84, 3) := by decide +kernel
theorem dX7_depart_55 : decode cX7_depart 55 = .ok (.aload_n 0, 1) := by decide +kernel
theorem dX7_depart_56 : decode cX7_depart 56 = .ok (.iload_n 1, 1) := by decide +kernel
theorem dX7_depart_57 : decode cX7_depart 57 = .ok (.iconst 5, 1) := by decide +kernel
theorem dX7_depart_58 : decode cX7_depart 58 = .ok (.iload_n 2, 1) := by decide +kernel
theorem dX7_depart_59 : decode cX7_depart 59 = .ok (.aload_n 0, 1) := by decide +kernel
theorem dX7_depart_60 : decode cX7_depart 60 = .ok (.getfield 7, 3) := by decide +kernel
theorem dX7_depart_63 : decode cX7_depart 63 = .ok (.iconst 0, 1) := by decide +kernel
theorem dX7_depart_64 : decode cX7_depart 64 = .ok (.iaload, 1) := by decide +kernel
theorem dX7_depart_65 : decode cX7_depart 65 = .ok (.imul, 1) := by decide +kernel
theorem dX7_depart_66 : decode cX7_depart 66 = .ok (.invokevirtual 84, 3) := by decide +kernel
theorem dX7_depart_69 : decode cX7_depart 69 = .ok (.aload_n 0, 1) := by decide +kernel
theorem dX7_depart_70 : decode cX7_depart 70 = .ok (.iload_n 1, 1) := by decide +kernel
theorem dX7_depart_71 : decode cX7_depart 71 = .ok (.iconst 4, 1) := by decide +kernel
theorem dX7_depart_72 : decode cX7_depart 72 = .ok (.aload_n 0, 1) := by decide +kernel
theorem dX7_depart_73 : decode cX7_depart 73 = .ok (.getfield 7, 3) := by decide +kernel
theorem dX7_depart_76 : decode cX7_depart 76 = .ok (.iconst 5, 1) := by decide +kernel
theorem dX7_depart_77 : decode cX7_depart 77 = .ok (.iaload, 1) := by decide +kernel
theorem dX7_depart_78 : decode cX7_depart 78 = .ok (.iload_n 2, 1) := by decide +kernel
theorem dX7_depart_79 : decode cX7_depart 79 = .ok (.aload_n 0, 1) := by decide +kernel
theorem dX7_depart_80 : decode cX7_depart 80 = .ok (.getfield 7, 3) := by decide +kernel
theorem dX7_depart_83 : decode cX7_depart 83 = .ok (.iconst 0, 1) := by decide +kernel
theorem dX7_depart_84 : decode cX7_depart 84 = .ok (.iaload, 1) := by decide +kernel
theorem dX7_depart_85 : decode cX7_depart 85 = .ok (.imul, 1) := by decide +kernel
theorem dX7_depart_86 : decode cX7_depart 86 = .ok (.iadd, 1) := by decide +kernel
theorem dX7_depart_87 : decode cX7_depart 87 = .ok (.invokevirtual 84, 3) := by decide +kernel
theorem dX7_depart_90 : decode cX7_depart 90 = .ok (.iconst 0, 1) := by decide +kernel
theorem dX7_depart_91 : decode cX7_depart 91 = .ok (.istore_n 3, 1) := by decide +kernel
theorem dX7_depart_92 : decode cX7_depart 92 = .ok (.iload_n 3, 1) := by decide +kernel
theorem dX7_depart_93 : decode cX7_depart 93 = .ok (.aload_n 0, 1) := by decide +kernel
theorem dX7_depart_94 : decode cX7_depart 94 = .ok (.getfield 7, 3) := by decide +kernel
theorem dX7_depart_97 : decode cX7_depart 97 = .ok (.iconst 3, 1) := by decide +kernel
theorem dX7_depart_98 : decode cX7_depart 98 = .ok (.iaload, 1) := by decide +kernel
theorem dX7_depart_99 : decode cX7_depart 99 = .ok (.if_icmp .ge 39, 3) := by decide +kernel
theorem dX7_depart_102 : decode cX7_depart 102 = .ok (.aload_n 0, 1) := by decide +kernel
theorem dX7_depart_103 : decode cX7_depart 103 = .ok (.iload_n 3, 1) := by decide +kernel
theorem dX7_depart_104 : decode cX7_depart 104 = .ok (.iload_n 1, 1) := by decide +kernel
theorem dX7_depart_105 : decode cX7_depart 105 = .ok (.invokevirtual 87, 3) := by decide +kernel
theorem dX7_depart_108 : decode cX7_depart 108 = .ok (.ifCond .eq 24, 3) := by decide +kernel
theorem dX7_depart_111 : decode cX7_depart 111 = .ok (.aload_n 0, 1) := by decide +kernel
theorem dX7_depart_112 : decode cX7_depart 112 = .ok (.iload_n 3, 1) := by decide +kernel
theorem dX7_depart_113 : decode cX7_depart 113 = .ok (.bipush 6, 2) := by decide +kernel
theorem dX7_depart_115 : decode cX7_depart 115 = .ok (.iconst 2, 1) := by decide +kernel
theorem dX7_depart_116 : decode cX7_depart 116 = .ok (.invokevirtual 65, 3) := by decide +kernel
theorem dX7_depart_119 : decode cX7_depart 119 = .ok (.aload_n 0, 1) := by decide +kernel
theorem dX7_depart_120 : decode cX7_depart 120 = .ok (.iload_n 3, 1) := by decide +kernel
theorem dX7_depart_121 : decode cX7_depart 121 = .ok (.bipush 11, 2) := by decide +kernel
theorem dX7_depart_123 : decode cX7_depart 123 = .ok (.aload_n 0, 1) := by decide +kernel
theorem dX7_depart_124 : decode cX7_depart 124 = .ok (.getfield 7, 3) := by decide +kernel
theorem dX7_depart_127 : decode cX7_depart 127 = .ok (.iconst 5, 1) := by decide +kernel
theorem dX7_depart_128 : decode cX7_depart 128 = .ok (.iaload, 1) := by decide +kernel
theorem dX7_depart_129 : decode cX7_depart 129 = .ok (.invokevirtual 65, 3) := by decide +kernel
theorem dX7_depart_132 : decode cX7_depart 132 = .ok (.iinc 3 1, 3) := by decide +kernel
theorem dX7_depart_135 : decode cX7_depart 135 = .ok (.goto (-43), 3) := by decide +kernel
theorem dX7_depart_138 : decode cX7_depart 138 = .ok (.aload_n 0, 1) := by decide +kernel
theorem dX7_depart_139 : decode cX7_depart 139 = .ok (.iload_n 1, 1) := by decide +kernel
theorem dX7_depart_140 : decode cX7_depart 140 = .ok (.iconst 4, 1) := by decide +kernel
theorem dX7_depart_141 : decode cX7_depart 141 = .ok (.invokevirtual 91, 3) := by decide +kernel
theorem dX7_depart_144 : decode cX7_depart 144 = .ok (.ireturn, 1) := by decide +kernel
theorem dX7_offer_0 : decode cX7_offer 0 = .ok (.iload_n 1, 1) := by decide +kernel
theorem dX7_offer_1 : decode cX7_offer 1 = .ok (.iconst 1, 1) := by decide +kernel
theorem dX7_offer_2 : decode cX7_offer 2 = .ok (.iconst 4, 1) := by decide +kernel
theorem dX7_offer_3 : decode cX7_offer 3 = .ok (.invokestatic 70, 3) := by decide +kernel
theorem dX7_offer_6 : decode cX7_offer 6 = .ok (.ifCond .eq 46, 3) := by decide +kernel
theorem dX7_offer_9 : decode cX7_offer 9 = .ok (.iload_n 2, 1) := by decide +kernel
theorem dX7_offer_10 : decode cX7_offer 10 = .ok (.iconst 1, 1) := by decide +kernel
theorem dX7_offer_11 : decode cX7_offer 11 = .ok (.bipush 99, 2) := by decide +kernel
theorem dX7_offer_13 : decode cX7_offer 13 = .ok (.invokestatic 70, 3) := by decide +kernel
theorem dX7_offer_16 : decode cX7_offer 16 = .ok (.ifCond .eq 36, 3) := by decide +kernel
theorem dX7_offer_19 : decode cX7_offer 19 = .ok (.iload_n 3, 1) := by decide +kernel
theorem dX7_offer_20 : decode cX7_offer 20 = .ok (.iconst 1, 1) := by decide +kernel
theorem dX7_offer_21 : decode cX7_offer 21 = .ok (.bipush 99, 2) := by decide +kernel
theorem dX7_offer_23 : decode cX7_offer 23 = .ok (.invokestatic 70, 3) := by decide +kernel
theorem dX7_offer_26 : decode cX7_offer 26 = .ok (.ifCond .eq 26, 3) := by decide +kernel
theorem dX7_offer_29 : decode cX7_offer 29 = .ok (.iload 4, 2) := by decide +kernel
theorem dX7_offer_31 : decode cX7_offer 31 = .ok (.iconst 0, 1) := by decide +kernel
theorem dX7_offer_32 : decode cX7_offer 32 = .ok (.sipush 999, 3) := by decide +kernel
theorem dX7_offer_35 : decode cX7_offer 35 = .ok (.invokestatic 70, 3) := by decide +kernel
theorem dX7_offer_38 : decode cX7_offer 38 = .ok (.ifCond .eq 14, 3) := by decide +kernel
theorem dX7_offer_41 : decode cX7_offer 41 = .ok (.iload 5, 2) := by decide +kernel
theorem dX7_offer_43 : decode cX7_offer 43 = .ok (.iconst 0, 1) := by decide +kernel
theorem dX7_offer_44 : decode cX7_offer 44 = .ok (.bipush 99, 2) := by decide +kernel
theorem dX7_offer_46 : decode cX7_offer 46 = .ok (.invokestatic 70, 3) := by decide +kernel
theorem dX7_offer_49 : decode cX7_offer 49 = .ok (.ifCond .ne 6, 3) := by decide +kernel
theorem dX7_offer_52 : decode cX7_offer 52 = .ok (.ldc 74, 2) := by decide +kernel
theorem dX7_offer_54 : decode cX7_offer 54 = .ok (.ireturn, 1) := by decide +kernel
theorem dX7_offer_55 : decode cX7_offer 55 = .ok (.aload_n 0, 1) := by decide +kernel
theorem dX7_offer_56 : decode cX7_offer 56 = .ok (.getfield 7, 3) := by decide +kernel
theorem dX7_offer_59 : decode cX7_offer 59 = .ok (.bipush 6, 2) := by decide +kernel
theorem dX7_offer_61 : decode cX7_offer 61 = .ok (.iaload, 1) := by decide +kernel
theorem dX7_offer_62 : decode cX7_offer 62 = .ok (.bipush 10, 2) := by decide +kernel
theorem dX7_offer_64 : decode cX7_offer 64 = .ok (.if_icmp .ne 6, 3) := by decide +kernel
theorem dX7_offer_67 : decode cX7_offer 67 = .ok (.ldc 75, 2) := by decide +kernel
theorem dX7_offer_69 : decode cX7_offer 69 = .ok (.ireturn, 1) := by decide +kernel
theorem dX7_offer_70 : decode cX7_offer 70 = .ok (.aload_n 0, 1) := by decide +kernel
theorem dX7_offer_71 : decode cX7_offer 71 = .ok (.invokevirtual 76, 3) := by decide +kernel
theorem dX7_offer_74 : decode cX7_offer 74 = .ok (.sipush 237, 3) := by decide +kernel
theorem dX7_offer_77 : decode cX7_offer 77 = .ok (.iconst 5, 1) := by decide +kernel
theorem dX7_offer_78 : decode cX7_offer 78 = .ok (.aload_n 0, 1) := by decide +kernel
theorem dX7_offer_79 : decode cX7_offer 79 = .ok (.getfield 7, 3) := by decide +kernel
theorem dX7_offer_82 : decode cX7_offer 82 = .ok (.bipush 6, 2) := by decide +kernel
theorem dX7_offer_84 : decode cX7_offer 84 = .ok (.iaload, 1) := by decide +kernel
theorem dX7_offer_85 : decode cX7_offer 85 = .ok (.imul, 1) := by decide +kernel
theorem dX7_offer_86 : decode cX7_offer 86 = .ok (.iadd, 1) := by decide +kernel
theorem dX7_offer_87 : decode cX7_offer 87 = .ok (.istore 6, 2) := by decide +kernel
theorem dX7_offer_89 : decode cX7_offer 89 = .ok (.aload_n 0, 1) := by decide +kernel
theorem dX7_offer_90 : decode cX7_offer 90 = .ok (.getfield 7, 3) := by decide +kernel
theorem dX7_offer_93 : decode cX7_offer 93 = .ok (.iload 6, 2) := by decide +kernel
theorem dX7_offer_95 : decode cX7_offer 95 = .ok (.iload_n 1, 1) := by decide +kernel
theorem dX7_offer_96 : decode cX7_offer 96 = .ok (.iastore, 1) := by decide +kernel
theorem dX7_offer_97 : decode cX7_offer 97 = .ok (.aload_n 0, 1) := by decide +kernel
theorem dX7_offer_98 : decode cX7_offer 98 = .ok (.getfield 7, 3) := by decide +kernel
theorem dX7_offer_101 : decode cX7_offer 101 = .ok (.iload 6, 2) := by decide +kernel
theorem dX7_offer_103 : decode cX7_offer 103 = .ok (.iconst 1, 1) := by decide +kernel
theorem dX7_offer_104 : decode cX7_offer 104 = .ok (.iadd, 1) := by decide +kernel
theorem dX7_offer_105 : decode cX7_offer 105 = .ok (.iload_n 2, 1) := by decide +kernel
theorem dX7_offer_106 : decode cX7_offer 106 = .ok (.iastore, 1) := by decide +kernel
theorem dX7_offer_107 : decode cX7_offer 107 = .ok (.aload_n 0, 1) := by decide +kernel
theorem dX7_offer_108 : decode cX7_offer 108 = .ok (.getfield 7, 3) := by decide +kernel
theorem dX7_offer_111 : decode cX7_offer 111 = .ok (.iload 6, 2) := by decide +kernel
theorem dX7_offer_113 : decode cX7_offer 113 = .ok (.iconst 2, 1) := by decide +kernel
theorem dX7_offer_114 : decode cX7_offer 114 = .ok (.iadd, 1) := by decide +kernel
theorem dX7_offer_115 : decode cX7_offer 115 = .ok (.iload_n 3, 1) := by decide +kernel
theorem dX7_offer_116 : decode cX7_offer 116 = .ok (.iastore, 1) := by decide +kernel
theorem dX7_offer_117 : decode cX7_offer 117 = .ok (.aload_n 0, 1) := by decide +kernel
theorem dX7_offer_118 : decode cX7_offer 118 = .ok (.getfield 7, 3) := by decide +kernel
theorem dX7_offer_121 : decode cX7_offer 121 = .ok (.iload 6, 2) := by decide +kernel
theorem dX7_offer_123 : decode cX7_offer 123 = .ok (.iconst 3, 1) := by decide +kernel
theorem dX7_offer_124 : decode cX7_offer 124 = .ok (.iadd, 1) := by decide +kernel
theorem dX7_offer_125 : decode cX7_offer 125 = .ok (.iload 4, 2) := by decide +kernel
theorem dX7_offer_127 : decode cX7_offer 127 = .ok (.iastore, 1) := by decide +kernel
theorem dX7_offer_128 : decode cX7_offer 128 = .ok (.aload_n 0, 1) := by decide +kernel
theorem dX7_offer_129 : decode cX7_offer 129 = .ok (.getfield 7, 3) := by decide +kernel
theorem dX7_offer_132 : decode cX7_offer 132 = .ok (.iload 6, 2) := by decide +kernel
theorem dX7_offer_134 : decode cX7_offer 134 = .ok (.iconst 4, 1) := by decide +kernel
theorem dX7_offer_135 : decode cX7_offer 135 = .ok (.iadd, 1) := by decide +kernel
theorem dX7_offer_136 : decode cX7_offer 136 = .ok (.aload_n 0, 1) := by decide +kernel
theorem dX7_offer_137 : decode cX7_offer 137 = .ok (.getfield 7, 3) := by decide +kernel
theorem dX7_offer_140 : decode cX7_offer 140 = .ok (.iconst 5, 1) := by decide +kernel
theorem dX7_offer_141 : decode cX7_offer 141 = .ok (.iaload, 1) := by decide +kernel
theorem dX7_offer_142 : decode cX7_offer 142 = .ok (.iload 5, 2) := by decide +kernel
theorem dX7_offer_144 : decode cX7_offer 144 = .ok (.iadd, 1) := by decide +kernel
theorem dX7_offer_145 : decode cX7_offer 145 = .ok (.iastore, 1) := by decide +kernel
theorem dX7_offer_146 : decode cX7_offer 146 = .ok (.aload_n 0, 1) := by decide +kernel
theorem dX7_offer_147 : decode cX7_offer 147 = .ok (.getfield 7, 3) := by decide +kernel
theorem dX7_offer_150 : decode cX7_offer 150 = .ok (.bipush 6, 2) := by decide +kernel
theorem dX7_offer_152 : decode cX7_offer 152 = .ok (.dup2, 1) := by decide +kernel
theorem dX7_offer_153 : decode cX7_offer 153 = .ok (.iaload, 1) := by decide +kernel
theorem dX7_offer_154 : decode cX7_offer 154 = .ok (.iconst 1, 1) := by decide +kernel
theorem dX7_offer_155 : decode cX7_offer 155 = .ok (.iadd, 1) := by decide +kernel
theorem dX7_offer_156 : decode cX7_offer 156 = .ok (.iastore, 1) := by decide +kernel
theorem dX7_offer_157 : decode cX7_offer 157 = .ok (.aload_n 0, 1) := by decide +kernel
theorem dX7_offer_158 : decode cX7_offer 158 = .ok (.getfield 7, 3) := by decide +kernel
theorem dX7_offer_161 : decode cX7_offer 161 = .ok (.bipush 6, 2) := by decide +kernel
theorem dX7_offer_163 : decode cX7_offer 163 = .ok (.iaload, 1) := by decide +kernel
theorem dX7_offer_164 : decode cX7_offer 164 = .ok (.ireturn, 1) := by decide +kernel
theorem dX7_dropsOffer_0 : decode cX7_dropsOffer 0 = .ok (.aload_n 0, 1) := by decide +kernel
theorem dX7_dropsOffer_1 : decode cX7_dropsOffer 1 = .ok (.getfield 7, 3) := by decide +kernel
theorem dX7_dropsOffer_4 : decode cX7_dropsOffer 4 = .ok (.bipush 6, 2) := by decide +kernel
theorem dX7_dropsOffer_6 : decode cX7_dropsOffer 6 = .ok (.dup2, 1) := by decide +kernel
theorem dX7_dropsOffer_7 : decode cX7_dropsOffer 7 = .ok (.iaload, 1) := by decide +kernel
theorem dX7_dropsOffer_8 : decode cX7_dropsOffer 8 = .ok (.iconst 1, 1) := by decide +kernel
theorem dX7_dropsOffer_9 : decode cX7_dropsOffer 9 = .ok (.isub, 1) := by decide +kernel
theorem dX7_dropsOffer_10 : decode cX7_dropsOffer 10 = .ok (.iastore, 1) := by decide +kernel
theorem dX7_dropsOffer_11 : decode cX7_dropsOffer 11 = .ok (.sipush 237, 3) := by decide +kernel
theorem dX7_dropsOffer_14 : decode cX7_dropsOffer 14 = .ok (.iconst 5, 1) := by decide +kernel
theorem dX7_dropsOffer_15 : decode cX7_dropsOffer 15 = .ok (.iload_n 1, 1) := by decide +kernel
theorem dX7_dropsOffer_16 : decode cX7_dropsOffer 16 = .ok (.imul, 1) := by decide +kernel
theorem dX7_dropsOffer_17 : decode cX7_dropsOffer 17 = .ok (.iadd, 1) := by decide +kernel
theorem dX7_dropsOffer_18 : decode cX7_dropsOffer 18 = .ok (.istore_n 2, 1) := by decide +kernel
theorem dX7_dropsOffer_19 : decode cX7_dropsOffer 19 = .ok (.iload_n 2, 1) := by decide +kernel
theorem dX7_dropsOffer_20 : decode cX7_dropsOffer 20 = .ok (.sipush 237, 3) := by decide +kernel
theorem dX7_dropsOffer_23 : decode cX7_dropsOffer 23 = .ok (.iconst 5, 1) := by decide +kernel
theorem dX7_dropsOffer_24 : decode cX7_dropsOffer 24 = .ok (.aload_n 0, 1) := by decide +kernel
theorem dX7_dropsOffer_25 : decode cX7_dropsOffer 25 = .ok (.getfield 7, 3) := by decide +kernel
theorem dX7_dropsOffer_28 : decode cX7_dropsOffer 28 = .ok (.bipush 6, 2) := by decide +kernel
theorem dX7_dropsOffer_30 : decode cX7_dropsOffer 30 = .ok (.iaload, 1) := by decide +kernel
theorem dX7_dropsOffer_31 : decode cX7_dropsOffer 31 = .ok (.imul, 1) := by decide +kernel
theorem dX7_dropsOffer_32 : decode cX7_dropsOffer 32 = .ok (.iadd, 1) := by decide +kernel
theorem dX7_dropsOffer_33 : decode cX7_dropsOffer 33 = .ok (.if_icmp .ge 23, 3) := by decide +kernel
theorem dX7_dropsOffer_36 : decode cX7_dropsOffer 36 = .ok (.aload_n 0, 1) := by decide +kernel
theorem dX7_dropsOffer_37 : decode cX7_dropsOffer 37 = .ok (.getfield 7, 3) := by decide +kernel
theorem dX7_dropsOffer_40 : decode cX7_dropsOffer 40 = .ok (.iload_n 2, 1) := by decide +kernel
theorem dX7_dropsOffer_41 : decode cX7_dropsOffer 41 = .ok (.aload_n 0, 1) := by decide +kernel
theorem dX7_dropsOffer_42 : decode cX7_dropsOffer 42 = .ok (.getfield 7, 3) := by decide +kernel
theorem dX7_dropsOffer_45 : decode cX7_dropsOffer 45 = .ok (.iload_n 2, 1) := by decide +kernel
theorem dX7_dropsOffer_46 : decode cX7_dropsOffer 46 = .ok (.iconst 5, 1) := by decide +kernel
theorem dX7_dropsOffer_47 : decode cX7_dropsOffer 47 = .ok (.iadd, 1) := by decide +kernel
theorem dX7_dropsOffer_48 : decode cX7_dropsOffer 48 = .ok (.iaload, 1) := by decide +kernel
theorem dX7_dropsOffer_49 : decode cX7_dropsOffer 49 = .ok (.iastore, 1) := by decide +kernel
theorem dX7_dropsOffer_50 : decode cX7_dropsOffer 50 = .ok (.iinc 2 1, 3) := by decide +kernel
theorem dX7_dropsOffer_53 : decode cX7_dropsOffer 53 = .ok (.goto (-34), 3) := by decide +kernel
theorem dX7_dropsOffer_56 : decode cX7_dropsOffer 56 = .ok (.return_, 1) := by decide +kernel
theorem dX7_takes_0 : decode cX7_takes 0 = .ok (.aload_n 0, 1) := by decide +kernel
theorem dX7_takes_1 : decode cX7_takes 1 = .ok (.iload_n 1, 1) := by decide +kernel
theorem dX7_takes_2 : decode cX7_takes 2 = .ok (.iconst 0, 1) := by decide +kernel
theorem dX7_takes_3 : decode cX7_takes 3 = .ok (.invokevirtual 91, 3) := by decide +kernel
theorem dX7_takes_6 : decode cX7_takes 6 = .ok (.istore 4, 2) := by decide +kernel
theorem dX7_takes_8 : decode cX7_takes 8 = .ok (.aload_n 0, 1) := by decide +kernel
theorem dX7_takes_9 : decode cX7_takes 9 = .ok (.iload_n 1, 1) := by decide +kernel
theorem dX7_takes_10 : decode cX7_takes 10 = .ok (.iconst 1, 1) := by decide +kernel
theorem dX7_takes_11 : decode cX7_takes 11 = .ok (.invokevirtual 91, 3) := by decide +kernel
theorem dX7_takes_14 : decode cX7_takes 14 = .ok (.istore 5, 2) := by decide +kernel
theorem dX7_takes_16 : decode cX7_takes 16 = .ok (.iconst 0, 1) := by decide +kernel
theorem dX7_takes_17 : decode cX7_takes 17 = .ok (.istore 6, 2) := by decide +kernel
theorem dX7_takes_19 : decode cX7_takes 19 = .ok (.iconst 0, 1) := by decide +kernel
theorem dX7_takes_20 : decode cX7_takes 20 = .ok (.istore 7, 2) := by decide +kernel
theorem dX7_takes_22 : decode cX7_takes 22 = .ok (.iload 7, 2) := by decide +kernel
theorem dX7_takes_24 : decode cX7_takes 24 = .ok (.ifCond .lt 167, 3) := by decide +kernel
theorem dX7_takes_27 : decode cX7_takes 27 = .ok (.ldc 69, 2) := by decide +kernel
theorem dX7_takes_29 : decode cX7_takes 29 = .ok (.istore 7, 2) := by decide +kernel
theorem dX7_takes_31 : decode cX7_takes 31 = .ok (.iconst 0, 1) := by decide +kernel
theorem dX7_takes_32 : decode cX7_takes 32 = .ok (.istore 8, 2) := by decide +kernel
theorem dX7_takes_34 : decode cX7_takes 34 = .ok (.iload 8, 2) := by decide +kernel
theorem dX7_takes_36 : decode cX7_takes 36 = .ok (.aload_n 0, 1) := by decide +kernel
theorem dX7_takes_37 : decode cX7_takes 37 = .ok (.getfield 7, 3) := by decide +kernel
theorem dX7_takes_40 : decode cX7_takes 40 = .ok (.bipush 6, 2) := by decide +kernel
theorem dX7_takes_42 : decode cX7_takes 42 = .ok (.iaload, 1) := by decide +kernel
theorem dX7_takes_43 : decode cX7_takes 43 = .ok (.if_icmp .ge 98, 3) := by decide +kernel
theorem dX7_takes_46 : decode cX7_takes 46 = .ok (.aload_n 0, 1) := by decide +kernel
theorem dX7_takes_47 : decode cX7_takes 47 = .ok (.iload 8, 2) := by decide +kernel
theorem dX7_takes_49 : decode cX7_takes 49 = .ok (.iconst 0, 1) := by decide +kernel
theorem dX7_takes_50 : decode cX7_takes 50 = .ok (.invokevirtual 124, 3) := by decide +kernel
theorem dX7_takes_53 : decode cX7_takes 53 = .ok (.iload_n 2, 1) := by decide +kernel
theorem dX7_takes_54 : decode cX7_takes 54 = .ok (.if_icmp .ne 42, 3) := by decide +kernel
theorem dX7_takes_57 : decode cX7_takes 57 = .ok (.aload_n 0, 1) := by decide +kernel
theorem dX7_takes_58 : decode cX7_takes 58 = .ok (.iload 8, 2) := by decide +kernel
theorem dX7_takes_60 : decode cX7_takes 60 = .ok (.iconst 4, 1) := by decide +kernel
theorem dX7_takes_61 : decode cX7_takes 61 = .ok (.invokevirtual 124, 3) := by decide +kernel
theorem dX7_takes_64 : decode cX7_takes 64 = .ok (.iload_n 3, 1) := by decide +kernel
theorem dX7_takes_65 : decode cX7_takes 65 = .ok (.if_icmp .lt 31, 3) := by decide +kernel
theorem dX7_takes_68 : decode cX7_takes 68 = .ok (.aload_n 0, 1) := by decide +kernel
theorem dX7_takes_69 : decode cX7_takes 69 = .ok (.iload 8, 2) := by decide +kernel
theorem dX7_takes_71 : decode cX7_takes 71 = .ok (.iconst 1, 1) := by decide +kernel
theorem dX7_takes_72 : decode cX7_takes 72 = .ok (.invokevirtual 124, 3) := by decide +kernel
theorem dX7_takes_75 : decode cX7_takes 75 = .ok (.iload 4, 2) := by decide +kernel
theorem dX7_takes_77 : decode cX7_takes 77 = .ok (.if_icmp .gt 19, 3) := by decide +kernel
theorem dX7_takes_80 : decode cX7_takes 80 = .ok (.aload_n 0, 1) := by decide +kernel
theorem dX7_takes_81 : decode cX7_takes 81 = .ok (.iload 8, 2) := by decide +kernel
theorem dX7_takes_83 : decode cX7_takes 83 = .ok (.iconst 2, 1) := by decide +kernel
theorem dX7_takes_84 : decode cX7_takes 84 = .ok (.invokevirtual 124, 3) := by decide +kernel
theorem dX7_takes_87 : decode cX7_takes 87 = .ok (.iload 5, 2) := by decide +kernel
theorem dX7_takes_89 : decode cX7_takes 89 = .ok (.if_icmp .gt 7, 3) := by decide +kernel
theorem dX7_takes_92 : decode cX7_takes 92 = .ok (.iconst 1, 1) := by decide +kernel
theorem dX7_takes_93 : decode cX7_takes 93 = .ok (.goto 4, 3) := by decide +kernel
theorem dX7_takes_96 : decode cX7_takes 96 = .ok (.iconst 0, 1) := by decide +kernel
theorem dX7_takes_97 : decode cX7_takes 97 = .ok (.istore 9, 2) := by decide +kernel
theorem dX7_takes_99 : decode cX7_takes 99 = .ok (.iload 9, 2) := by decide +kernel
theorem dX7_takes_101 : decode cX7_takes 101 = .ok (.ifCond .eq 30, 3) := by decide +kernel
theorem dX7_takes_104 : decode cX7_takes 104 = .ok (.iload 7, 2) := by decide +kernel
theorem dX7_takes_106 : decode cX7_takes 106 = .ok (.ifCond .lt 20, 3) := by decide +kernel
theorem dX7_takes_109 : decode cX7_takes 109 = .ok (.aload_n 0, 1) := by decide +kernel
theorem dX7_takes_110 : decode cX7_takes 110 = .ok (.iload 8, 2) := by decide +kernel
theorem dX7_takes_112 : decode cX7_takes 112 = .ok (.iconst 3, 1) := by decide +kernel
theorem dX7_takes_113 : decode cX7_takes 113 = .ok (.invokevirtual 124, 3) := by decide +kernel
theorem dX7_takes_116 : decode cX7_takes 116 = .ok (.aload_n 0, 1) := by decide +kernel
theorem dX7_takes_117 : decode cX7_takes 117 = .ok (.iload 7, 2) := by decide +kernel
theorem dX7_takes_119 : decode cX7_takes 119 = .ok (.iconst 3, 1) := by decide +kernel
theorem dX7_takes_120 : decode cX7_takes 120 = .ok (.invokevirtual 124, 3) := by decide +kernel
theorem dX7_takes_123 : decode cX7_takes 123 = .ok (.if_icmp .le 8, 3) := by decide +kernel
theorem dX7_takes_126 : decode cX7_takes 126 = .ok (.iload 8, 2) := by decide +kernel
theorem dX7_takes_128 : decode cX7_takes 128 = .ok (.goto 5, 3) := by decide +kernel
theorem dX7_takes_131 : decode cX7_takes 131 = .ok (.iload 7, 2) := by decide +kernel
theorem dX7_takes_133 : decode cX7_takes 133 = .ok (.istore 7, 2) := by decide +kernel
theorem dX7_takes_135 : decode cX7_takes 135 = .ok (.iinc 8 1, 3) := by decide +kernel
theorem dX7_takes_138 : decode cX7_takes 138 = .ok (.goto (-104), 3) := by decide +kernel
theorem dX7_takes_141 : decode cX7_takes 141 = .ok (.iload 7, 2) := by decide +kernel
theorem dX7_takes_143 : decode cX7_takes 143 = .ok (.ifCond .lt (-121), 3) := by decide +kernel
theorem dX7_takes_146 : decode cX7_takes 146 = .ok (.iload 4, 2) := by decide +kernel
theorem dX7_takes_148 : decode cX7_takes 148 = .ok (.aload_n 0, 1) := by decide +kernel
theorem dX7_takes_149 : decode cX7_takes 149 = .ok (.iload 7, 2) := by decide +kernel
theorem dX7_takes_151 : decode cX7_takes 151 = .ok (.iconst 1, 1) := by decide +kernel
theorem dX7_takes_152 : decode cX7_takes 152 = .ok (.invokevirtual 124, 3) := by decide +kernel
theorem dX7_takes_155 : decode cX7_takes 155 = .ok (.isub, 1) := by decide +kernel
theorem dX7_takes_156 : decode cX7_takes 156 = .ok (.istore 4, 2) := by decide +kernel
theorem dX7_takes_158 : decode cX7_takes 158 = .ok (.iload 5, 2) := by decide +kernel
theorem dX7_takes_160 : decode cX7_takes 160 = .ok (.aload_n 0, 1) := by decide +kernel
theorem dX7_takes_161 : decode cX7_takes 161 = .ok (.iload 7, 2) := by decide +kernel
theorem dX7_takes_163 : decode cX7_takes 163 = .ok (.iconst 2, 1) := by decide +kernel
theorem dX7_takes_164 : decode cX7_takes 164 = .ok (.invokevirtual 124, 3) := by decide +kernel
theorem dX7_takes_167 : decode cX7_takes 167 = .ok (.isub, 1) := by decide +kernel
theorem dX7_takes_168 : decode cX7_takes 168 = .ok (.istore 5, 2) := by decide +kernel
theorem dX7_takes_170 : decode cX7_takes 170 = .ok (.iload 6, 2) := by decide +kernel
theorem dX7_takes_172 : decode cX7_takes 172 = .ok (.aload_n 0, 1) := by decide +kernel
theorem dX7_takes_173 : decode cX7_takes 173 = .ok (.iload 7, 2) := by decide +kernel
theorem dX7_takes_175 : decode cX7_takes 175 = .ok (.iconst 3, 1) := by decide +kernel
theorem dX7_takes_176 : decode cX7_takes 176 = .ok (.invokevirtual 124, 3) := by decide +kernel
theorem dX7_takes_179 : decode cX7_takes 179 = .ok (.iadd, 1) := by decide +kernel
theorem dX7_takes_180 : decode cX7_takes 180 = .ok (.istore 6, 2) := by decide +kernel
theorem dX7_takes_182 : decode cX7_takes 182 = .ok (.aload_n 0, 1) := by decide +kernel
theorem dX7_takes_183 : decode cX7_takes 183 = .ok (.iload 7, 2) := by decide +kernel
theorem dX7_takes_185 : decode cX7_takes 185 = .ok (.invokevirtual 127, 3) := by decide +kernel
theorem dX7_takes_188 : decode cX7_takes 188 = .ok (.goto (-166), 3) := by decide +kernel
theorem dX7_takes_191 : decode cX7_takes 191 = .ok (.iload 6, 2) := by decide +kernel
theorem dX7_takes_193 : decode cX7_takes 193 = .ok (.ireturn, 1) := by decide +kernel
theorem dX7_arrives_0 : decode cX7_arrives 0 = .ok (.iconst 0, 1) := by decide +kernel
theorem dX7_arrives_1 : decode cX7_arrives 1 = .ok (.istore_n 2, 1) := by decide +kernel
theorem dX7_arrives_2 : decode cX7_arrives 2 = .ok (.iconst 0, 1) := by decide +kernel
theorem dX7_arrives_3 : decode cX7_arrives 3 = .ok (.istore_n 3, 1) := by decide +kernel
theorem dX7_arrives_4 : decode cX7_arrives 4 = .ok (.iload_n 3, 1) := by decide +kernel
theorem dX7_arrives_5 : decode cX7_arrives 5 = .ok (.aload_n 0, 1) := by decide +kernel
theorem dX7_arrives_6 : decode cX7_arrives 6 = .ok (.getfield 7, 3) := by decide +kernel
theorem dX7_arrives_9 : decode cX7_arrives 9 = .ok (.iconst 3, 1) := by decide +kernel
theorem dX7_arrives_10 : decode cX7_arrives 10 = .ok (.iaload, 1) := by decide +kernel
theorem dX7_arrives_11 : decode cX7_arrives 11 = .ok (.if_icmp .ge 172, 3) := by decide +kernel
theorem dX7_arrives_14 : decode cX7_arrives 14 = .ok (.aload_n 0, 1) := by decide +kernel
theorem dX7_arrives_15 : decode cX7_arrives 15 = .ok (.iload_n 3, 1) := by decide +kernel
theorem dX7_arrives_16 : decode cX7_arrives 16 = .ok (.iload_n 1, 1) := by decide +kernel
theorem dX7_arrives_17 : decode cX7_arrives 17 = .ok (.invokevirtual 87, 3) := by decide +kernel
theorem dX7_arrives_20 : decode cX7_arrives 20 = .ok (.ifCond .eq 157, 3) := by decide +kernel
theorem dX7_arrives_23 : decode cX7_arrives 23 = .ok (.aload_n 0, 1) := by decide +kernel
theorem dX7_arrives_24 : decode cX7_arrives 24 = .ok (.getfield 7, 3) := by decide +kernel
theorem dX7_arrives_27 : decode cX7_arrives 27 = .ok (.iconst 5, 1) := by decide +kernel
theorem dX7_arrives_28 : decode cX7_arrives 28 = .ok (.iaload, 1) := by decide +kernel
theorem dX7_arrives_29 : decode cX7_arrives 29 = .ok (.aload_n 0, 1) := by decide +kernel
theorem dX7_arrives_30 : decode cX7_arrives 30 = .ok (.iload_n 3, 1) := by decide +kernel
theorem dX7_arrives_31 : decode cX7_arrives 31 = .ok (.iconst 4, 1) := by decide +kernel
theorem dX7_arrives_32 : decode cX7_arrives 32 = .ok (.invokevirtual 57, 3) := by decide +kernel
theorem dX7_arrives_35 : decode cX7_arrives 35 = .ok (.if_icmp .le 7, 3) := by decide +kernel
theorem dX7_arrives_38 : decode cX7_arrives 38 = .ok (.iconst 1, 1) := by decide +kernel
theorem dX7_arrives_39 : decode cX7_arrives 39 = .ok (.goto 4, 3) := by decide +kernel
theorem dX7_arrives_42 : decode cX7_arrives 42 = .ok (.iconst 0, 1) := by decide +kernel
theorem dX7_arrives_43 : decode cX7_arrives 43 = .ok (.istore 4, 2) := by decide +kernel
theorem dX7_arrives_45 : decode cX7_arrives 45 = .ok (.aload_n 0, 1) := by decide +kernel
theorem dX7_arrives_46 : decode cX7_arrives 46 = .ok (.iload_n 3, 1) := by decide +kernel
theorem dX7_arrives_47 : decode cX7_arrives 47 = .ok (.iconst 3, 1) := by decide +kernel
theorem dX7_arrives_48 : decode cX7_arrives 48 = .ok (.invokevirtual 57, 3) := by decide +kernel
theorem dX7_arrives_51 : decode cX7_arrives 51 = .ok (.aload_n 0, 1) := by decide +kernel
theorem dX7_arrives_52 : decode cX7_arrives 52 = .ok (.getfield 7, 3) := by decide +kernel
theorem dX7_arrives_55 : decode cX7_arrives 55 = .ok (.iconst 5, 1) := by decide +kernel
theorem dX7_arrives_56 : decode cX7_arrives 56 = .ok (.iaload, 1) := by decide +kernel
theorem dX7_arrives_57 : decode cX7_arrives 57 = .ok (.if_icmp .le 19, 3) := by decide +kernel
theorem dX7_arrives_60 : decode cX7_arrives 60 = .ok (.aload_n 0, 1) := by decide +kernel
theorem dX7_arrives_61 : decode cX7_arrives 61 = .ok (.iload_n 3, 1) := by decide +kernel
theorem dX7_arrives_62 : decode cX7_arrives 62 = .ok (.iconst 3, 1) := by decide +kernel
theorem dX7_arrives_63 : decode cX7_arrives 63 = .ok (.invokevirtual 57, 3) := by decide +kernel
theorem dX7_arrives_66 : decode cX7_arrives 66 = .ok (.aload_n 0, 1) := by decide +kernel
theorem dX7_arrives_67 : decode cX7_arrives 67 = .ok (.getfield 7, 3) := by decide +kernel
theorem dX7_arrives_70 : decode cX7_arrives 70 = .ok (.iconst 5, 1) := by decide +kernel
theorem dX7_arrives_71 : decode cX7_arrives 71 = .ok (.iaload, 1) := by decide +kernel
theorem dX7_arrives_72 : decode cX7_arrives 72 = .ok (.isub, 1) := by decide +kernel
theorem dX7_arrives_73 : decode cX7_arrives 73 = .ok (.goto 4, 3) := by decide +kernel
theorem dX7_arrives_76 : decode cX7_arrives 76 = .ok (.iconst 0, 1) := by decide +kernel
theorem dX7_arrives_77 : decode cX7_arrives 77 = .ok (.istore 5, 2) := by decide +kernel
theorem dX7_arrives_79 : decode cX7_arrives 79 = .ok (.aload_n 0, 1) := by decide +kernel
theorem dX7_arrives_80 : decode cX7_arrives 80 = .ok (.iload_n 3, 1) := by decide +kernel
theorem dX7_arrives_81 : decode cX7_arrives 81 = .ok (.bipush 6, 2) := by decide +kernel
theorem dX7_arrives_83 : decode cX7_arrives 83 = .ok (.iload 4, 2) := by decide +kernel
theorem dX7_arrives_85 : decode cX7_arrives 85 = .ok (.ifCond .eq 7, 3) := by decide +kernel
theorem dX7_arrives_88 : decode cX7_arrives 88 = .ok (.iconst 4, 1) := by decide +kernel
theorem dX7_arrives_89 : decode cX7_arrives 89 = .ok (.goto 4, 3) := by decide +kernel
theorem dX7_arrives_92 : decode cX7_arrives 92 = .ok (.iconst 3, 1) := by decide +kernel
theorem dX7_arrives_93 : decode cX7_arrives 93 = .ok (.invokevirtual 65, 3) := by decide +kernel
theorem dX7_arrives_96 : decode cX7_arrives 96 = .ok (.aload_n 0, 1) := by decide +kernel
theorem dX7_arrives_97 : decode cX7_arrives 97 = .ok (.iload_n 3, 1) := by decide +kernel
theorem dX7_arrives_98 : decode cX7_arrives 98 = .ok (.bipush 8, 2) := by decide +kernel
theorem dX7_arrives_100 : decode cX7_arrives 100 = .ok (.aload_n 0, 1) := by decide +kernel
theorem dX7_arrives_101 : decode cX7_arrives 101 = .ok (.getfield 7, 3) := by decide +kernel
theorem dX7_arrives_104 : decode cX7_arrives 104 = .ok (.iconst 5, 1) := by decide +kernel
theorem dX7_arrives_105 : decode cX7_arrives 105 = .ok (.iaload, 1) := by decide +kernel
theorem dX7_arrives_106 : decode cX7_arrives 106 = .ok (.invokevirtual 65, 3) := by decide +kernel
theorem dX7_arrives_109 : decode cX7_arrives 109 = .ok (.aload_n 0, 1) := by decide +kernel
theorem dX7_arrives_110 : decode cX7_arrives 110 = .ok (.getfield 7, 3) := by decide +kernel
theorem dX7_arrives_113 : decode cX7_arrives 113 = .ok (.iload 4, 2) := by decide +kernel
theorem dX7_arrives_115 : decode cX7_arrives 115 = .ok (.ifCond .eq 8, 3) := by decide +kernel
theorem dX7_arrives_118 : decode cX7_arrives 118 = .ok (.bipush 8, 2) := by decide +kernel
theorem dX7_arrives_120 : decode cX7_arrives 120 = .ok (.goto 5, 3) := by decide +kernel
theorem dX7_arrives_123 : decode cX7_arrives 123 = .ok (.bipush 7, 2) := by decide +kernel
theorem dX7_arrives_125 : decode cX7_arrives 125 = .ok (.dup2, 1) := by decide +kernel
theorem dX7_arrives_126 : decode cX7_arrives 126 = .ok (.iaload, 1) := by decide +kernel
theorem dX7_arrives_127 : decode cX7_arrives 127 = .ok (.iconst 1, 1) := by decide +kernel
theorem dX7_arrives_128 : decode cX7_arrives 128 = .ok (.iadd, 1) := by decide +kernel
theorem dX7_arrives_129 : decode cX7_arrives 129 = .ok (.iastore, 1) := by decide +kernel
theorem dX7_arrives_130 : decode cX7_arrives 130 = .ok (.aload_n 0, 1) := by decide +kernel
theorem dX7_arrives_131 : decode cX7_arrives 131 = .ok (.getfield 7, 3) := by decide +kernel
theorem dX7_arrives_134 : decode cX7_arrives 134 = .ok (.bipush 9, 2) := by decide +kernel
theorem dX7_arrives_136 : decode cX7_arrives 136 = .ok (.dup2, 1) := by decide +kernel
theorem dX7_arrives_137 : decode cX7_arrives 137 = .ok (.iaload, 1) := by decide +kernel
theorem dX7_arrives_138 : decode cX7_arrives 138 = .ok (.iload 4, 2) := by decide +kernel
theorem dX7_arrives_140 : decode cX7_arrives 140 = .ok (.ifCond .eq 7, 3) := by decide +kernel
theorem dX7_arrives_143 : decode cX7_arrives 143 = .ok (.iconst 0, 1) := by decide +kernel
theorem dX7_arrives_144 : decode cX7_arrives 144 = .ok (.goto 9, 3) := by decide +kernel
theorem dX7_arrives_147 : decode cX7_arrives 147 = .ok (.aload_n 0, 1) := by decide +kernel
theorem dX7_arrives_148 : decode cX7_arrives 148 = .ok (.iload_n 3, 1) := by decide +kernel
theorem dX7_arrives_149 : decode cX7_arrives 149 = .ok (.iconst 5, 1) := by decide +kernel
theorem dX7_arrives_150 : decode cX7_arrives 150 = .ok (.invokevirtual 57, 3) := by decide +kernel
theorem dX7_arrives_153 : decode cX7_arrives 153 = .ok (.iadd, 1) := by decide +kernel
theorem dX7_arrives_154 : decode cX7_arrives 154 = .ok (.iastore, 1) := by decide +kernel
theorem dX7_arrives_155 : decode cX7_arrives 155 = .ok (.aload_n 0, 1) := by decide +kernel
theorem dX7_arrives_156 : decode cX7_arrives 156 = .ok (.getfield 7, 3) := by decide +kernel
theorem dX7_arrives_159 : decode cX7_arrives 159 = .ok (.bipush 12, 2) := by decide +kernel
theorem dX7_arrives_161 : decode cX7_arrives 161 = .ok (.dup2, 1) := by decide +kernel
theorem dX7_arrives_162 : decode cX7_arrives 162 = .ok (.iaload, 1) := by decide +kernel
theorem dX7_arrives_163 : decode cX7_arrives 163 = .ok (.iload 5, 2) := by decide +kernel
theorem dX7_arrives_165 : decode cX7_arrives 165 = .ok (.aload_n 0, 1) := by decide +kernel
theorem dX7_arrives_166 : decode cX7_arrives 166 = .ok (.getfield 7, 3) := by decide +kernel
theorem dX7_arrives_169 : decode cX7_arrives 169 = .ok (.iconst 2, 1) := by decide +kernel
theorem dX7_arrives_170 : decode cX7_arrives 170 = .ok (.iaload, 1) := by decide +kernel
theorem dX7_arrives_171 : decode cX7_arrives 171 = .ok (.imul, 1) := by decide +kernel
theorem dX7_arrives_172 : decode cX7_arrives 172 = .ok (.iadd, 1) := by decide +kernel
theorem dX7_arrives_173 : decode cX7_arrives 173 = .ok (.iastore, 1) := by decide +kernel
theorem dX7_arrives_174 : decode cX7_arrives 174 = .ok (.iinc 2 1, 3) := by decide +kernel
theorem dX7_arrives_177 : decode cX7_arrives 177 = .ok (.iinc 3 1, 3) := by decide +kernel
theorem dX7_arrives_180 : decode cX7_arrives 180 = .ok (.goto (-176), 3) := by decide +kernel
theorem dX7_arrives_183 : decode cX7_arrives 183 = .ok (.aload_n 0, 1) := by decide +kernel
theorem dX7_arrives_184 : decode cX7_arrives 184 = .ok (.iload_n 1, 1) := by decide +kernel
theorem dX7_arrives_185 : decode cX7_arrives 185 = .ok (.bipush 6, 2) := by decide +kernel
theorem dX7_arrives_187 : decode cX7_arrives 187 = .ok (.aload_n 0, 1) := by decide +kernel
theorem dX7_arrives_188 : decode cX7_arrives 188 = .ok (.iload_n 1, 1) := by decide +kernel
theorem dX7_arrives_189 : decode cX7_arrives 189 = .ok (.aload_n 0, 1) := by decide +kernel
theorem dX7_arrives_190 : decode cX7_arrives 190 = .ok (.iload_n 1, 1) := by decide +kernel
theorem dX7_arrives_191 : decode cX7_arrives 191 = .ok (.iconst 3, 1) := by decide +kernel
theorem dX7_arrives_192 : decode cX7_arrives 192 = .ok (.invokevirtual 91, 3) := by decide +kernel
theorem dX7_arrives_195 : decode cX7_arrives 195 = .ok (.aload_n 0, 1) := by decide +kernel
theorem dX7_arrives_196 : decode cX7_arrives 196 = .ok (.getfield 7, 3) := by decide +kernel
theorem dX7_arrives_199 : decode cX7_arrives 199 = .ok (.iconst 5, 1) := by decide +kernel
theorem dX7_arrives_200 : decode cX7_arrives 200 = .ok (.iaload, 1) := by decide +kernel
theorem dX7_arrives_201 : decode cX7_arrives 201 = .ok (.invokevirtual 131, 3) := by decide +kernel
theorem dX7_arrives_204 : decode cX7_arrives 204 = .ok (.invokevirtual 84, 3) := by decide +kernel
theorem dX7_arrives_207 : decode cX7_arrives 207 = .ok (.aload_n 0, 1) := by decide +kernel
theorem dX7_arrives_208 : decode cX7_arrives 208 = .ok (.iload_n 1, 1) := by decide +kernel
theorem dX7_arrives_209 : decode cX7_arrives 209 = .ok (.iconst 2, 1) := by decide +kernel
theorem dX7_arrives_210 : decode cX7_arrives 210 = .ok (.iconst 2, 1) := by decide +kernel
theorem dX7_arrives_211 : decode cX7_arrives 211 = .ok (.invokevirtual 84, 3) := by decide +kernel
theorem dX7_arrives_214 : decode cX7_arrives 214 = .ok (.aload_n 0, 1) := by decide +kernel
theorem dX7_arrives_215 : decode cX7_arrives 215 = .ok (.iload_n 1, 1) := by decide +kernel
theorem dX7_arrives_216 : decode cX7_arrives 216 = .ok (.iconst 4, 1) := by decide +kernel
theorem dX7_arrives_217 : decode cX7_arrives 217 = .ok (.aload_n 0, 1) := by decide +kernel
theorem dX7_arrives_218 : decode cX7_arrives 218 = .ok (.getfield 7, 3) := by decide +kernel
theorem dX7_arrives_221 : decode cX7_arrives 221 = .ok (.iconst 5, 1) := by decide +kernel
theorem dX7_arrives_222 : decode cX7_arrives 222 = .ok (.iaload, 1) := by decide +kernel
theorem dX7_arrives_223 : decode cX7_arrives 223 = .ok (.aload_n 0, 1) := by decide +kernel
theorem dX7_arrives_224 : decode cX7_arrives 224 = .ok (.iload_n 1, 1) := by decide +kernel
theorem dX7_arrives_225 : decode cX7_arrives 225 = .ok (.iconst 5, 1) := by decide +kernel
theorem dX7_arrives_226 : decode cX7_arrives 226 = .ok (.invokevirtual 91, 3) := by decide +kernel
theorem dX7_arrives_229 : decode cX7_arrives 229 = .ok (.iadd, 1) := by decide +kernel
theorem dX7_arrives_230 : decode cX7_arrives 230 = .ok (.invokevirtual 84, 3) := by decide +kernel
theorem dX7_arrives_233 : decode cX7_arrives 233 = .ok (.iload_n 2, 1) := by decide +kernel
theorem dX7_arrives_234 : decode cX7_arrives 234 = .ok (.ireturn, 1) := by decide +kernel
theorem dX7_returns_0 : decode cX7_returns 0 = .ok (.aload_n 0, 1) := by decide +kernel
theorem dX7_returns_1 : decode cX7_returns 1 = .ok (.getfield 7, 3) := by decide +kernel
theorem dX7_returns_4 : decode cX7_returns 4 = .ok (.bipush 10, 2) := by decide +kernel
theorem dX7_returns_6 : decode cX7_returns 6 = .ok (.dup2, 1) := by decide +kernel
theorem dX7_returns_7 : decode cX7_returns 7 = .ok (.iaload, 1) := by decide +kernel
theorem dX7_returns_8 : decode cX7_returns 8 = .ok (.aload_n 0, 1) := by decide +kernel
theorem dX7_returns_9 : decode cX7_returns 9 = .ok (.iload_n 1, 1) := by decide +kernel
theorem dX7_returns_10 : decode cX7_returns 10 = .ok (.bipush 6, 2) := by decide +kernel
theorem dX7_returns_12 : decode cX7_returns 12 = .ok (.invokevirtual 91, 3) := by decide +kernel
theorem dX7_returns_15 : decode cX7_returns 15 = .ok (.iadd, 1) := by decide +kernel
theorem dX7_returns_16 : decode cX7_returns 16 = .ok (.iastore, 1) := by decide +kernel
theorem dX7_returns_17 : decode cX7_returns 17 = .ok (.aload_n 0, 1) := by decide +kernel
theorem dX7_returns_18 : decode cX7_returns 18 = .ok (.iload_n 1, 1) := by decide +kernel
theorem dX7_returns_19 : decode cX7_returns 19 = .ok (.bipush 6, 2) := by decide +kernel
theorem dX7_returns_21 : decode cX7_returns 21 = .ok (.iconst 0, 1) := by decide +kernel
theorem dX7_returns_22 : decode cX7_returns 22 = .ok (.invokevirtual 84, 3) := by decide +kernel
theorem dX7_returns_25 : decode cX7_returns 25 = .ok (.aload_n 0, 1) := by decide +kernel
theorem dX7_returns_26 : decode cX7_returns 26 = .ok (.iload_n 1, 1) := by decide +kernel
theorem dX7_returns_27 : decode cX7_returns 27 = .ok (.bipush 7, 2) := by decide +kernel
theorem dX7_returns_29 : decode cX7_returns 29 = .ok (.aload_n 0, 1) := by decide +kernel
theorem dX7_returns_30 : decode cX7_returns 30 = .ok (.iload_n 1, 1) := by decide +kernel
theorem dX7_returns_31 : decode cX7_returns 31 = .ok (.bipush 7, 2) := by decide +kernel
theorem dX7_returns_33 : decode cX7_returns 33 = .ok (.invokevirtual 91, 3) := by decide +kernel
theorem dX7_returns_36 : decode cX7_returns 36 = .ok (.iconst 1, 1) := by decide +kernel
theorem dX7_returns_37 : decode cX7_returns 37 = .ok (.iadd, 1) := by decide +kernel
theorem dX7_returns_38 : decode cX7_returns 38 = .ok (.invokevirtual 84, 3) := by decide +kernel
theorem dX7_returns_41 : decode cX7_returns 41 = .ok (.aload_n 0, 1) := by decide +kernel
theorem dX7_returns_42 : decode cX7_returns 42 = .ok (.iload_n 1, 1) := by decide +kernel
theorem dX7_returns_43 : decode cX7_returns 43 = .ok (.iconst 2, 1) := by decide +kernel
theorem dX7_returns_44 : decode cX7_returns 44 = .ok (.iconst 0, 1) := by decide +kernel
theorem dX7_returns_45 : decode cX7_returns 45 = .ok (.invokevirtual 84, 3) := by decide +kernel
theorem dX7_returns_48 : decode cX7_returns 48 = .ok (.return_, 1) := by decide +kernel
theorem dX7_hour_0 : decode cX7_hour 0 = .ok (.aload_n 0, 1) := by decide +kernel
theorem dX7_hour_1 : decode cX7_hour 1 = .ok (.getfield 7, 3) := by decide +kernel
theorem dX7_hour_4 : decode cX7_hour 4 = .ok (.iconst 5, 1) := by decide +kernel
theorem dX7_hour_5 : decode cX7_hour 5 = .ok (.dup2, 1) := by decide +kernel
theorem dX7_hour_6 : decode cX7_hour 6 = .ok (.iaload, 1) := by decide +kernel
theorem dX7_hour_7 : decode cX7_hour 7 = .ok (.iconst 1, 1) := by decide +kernel
theorem dX7_hour_8 : decode cX7_hour 8 = .ok (.iadd, 1) := by decide +kernel
theorem dX7_hour_9 : decode cX7_hour 9 = .ok (.iastore, 1) := by decide +kernel
theorem dX7_hour_10 : decode cX7_hour 10 = .ok (.iconst 0, 1) := by decide +kernel
theorem dX7_hour_11 : decode cX7_hour 11 = .ok (.istore_n 1, 1) := by decide +kernel
theorem dX7_hour_12 : decode cX7_hour 12 = .ok (.iconst 0, 1) := by decide +kernel
theorem dX7_hour_13 : decode cX7_hour 13 = .ok (.istore_n 2, 1) := by decide +kernel
theorem dX7_hour_14 : decode cX7_hour 14 = .ok (.iload_n 2, 1) := by decide +kernel
theorem dX7_hour_15 : decode cX7_hour 15 = .ok (.aload_n 0, 1) := by decide +kernel
theorem dX7_hour_16 : decode cX7_hour 16 = .ok (.getfield 7, 3) := by decide +kernel
theorem dX7_hour_19 : decode cX7_hour 19 = .ok (.iconst 4, 1) := by decide +kernel
theorem dX7_hour_20 : decode cX7_hour 20 = .ok (.iaload, 1) := by decide +kernel
theorem dX7_hour_21 : decode cX7_hour 21 = .ok (.if_icmp .ge 73, 3) := by decide +kernel
theorem dX7_hour_24 : decode cX7_hour 24 = .ok (.aload_n 0, 1) := by decide +kernel
theorem dX7_hour_25 : decode cX7_hour 25 = .ok (.iload_n 2, 1) := by decide +kernel
theorem dX7_hour_26 : decode cX7_hour 26 = .ok (.iconst 2, 1) := by decide +kernel
theorem dX7_hour_27 : decode cX7_hour 27 = .ok (.invokevirtual 91, 3) := by decide +kernel
theorem dX7_hour_30 : decode cX7_hour 30 = .ok (.ifCond .le 22, 3) := by decide +kernel
theorem dX7_hour_33 : decode cX7_hour 33 = .ok (.aload_n 0, 1) := by decide +kernel
theorem dX7_hour_34 : decode cX7_hour 34 = .ok (.iload_n 2, 1) := by decide +kernel
theorem dX7_hour_35 : decode cX7_hour 35 = .ok (.iconst 4, 1) := by decide +kernel
theorem dX7_hour_36 : decode cX7_hour 36 = .ok (.invokevirtual 91, 3) := by decide +kernel
theorem dX7_hour_39 : decode cX7_hour 39 = .ok (.aload_n 0, 1) := by decide +kernel
theorem dX7_hour_40 : decode cX7_hour 40 = .ok (.getfield 7, 3) := by decide +kernel
theorem dX7_hour_43 : decode cX7_hour 43 = .ok (.iconst 5, 1) := by decide +kernel
theorem dX7_hour_44 : decode cX7_hour 44 = .ok (.iaload, 1) := by decide +kernel
theorem dX7_hour_45 : decode cX7_hour 45 = .ok (.if_icmp .ne 7, 3) := by decide +kernel
theorem dX7_hour_48 : decode cX7_hour 48 = .ok (.iconst 1, 1) := by decide +kernel
theorem dX7_hour_49 : decode cX7_hour 49 = .ok (.goto 4, 3) := by decide +kernel
theorem dX7_hour_52 : decode cX7_hour 52 = .ok (.iconst 0, 1) := by decide +kernel
theorem dX7_hour_53 : decode cX7_hour 53 = .ok (.istore_n 3, 1) := by decide +kernel
theorem dX7_hour_54 : decode cX7_hour 54 = .ok (.iload_n 3, 1) := by decide +kernel
theorem dX7_hour_55 : decode cX7_hour 55 = .ok (.ifCond .eq 24, 3) := by decide +kernel
theorem dX7_hour_58 : decode cX7_hour 58 = .ok (.aload_n 0, 1) := by decide +kernel
theorem dX7_hour_59 : decode cX7_hour 59 = .ok (.iload_n 2, 1) := by decide +kernel
theorem dX7_hour_60 : decode cX7_hour 60 = .ok (.iconst 2, 1) := by decide +kernel
theorem dX7_hour_61 : decode cX7_hour 61 = .ok (.invokevirtual 91, 3) := by decide +kernel
theorem dX7_hour_64 : decode cX7_hour 64 = .ok (.iconst 1, 1) := by decide +kernel
theorem dX7_hour_65 : decode cX7_hour 65 = .ok (.if_icmp .ne 14, 3) := by decide +kernel
theorem dX7_hour_68 : decode cX7_hour 68 = .ok (.iload_n 1, 1) := by decide +kernel
theorem dX7_hour_69 : decode cX7_hour 69 = .ok (.aload_n 0, 1) := by decide +kernel
theorem dX7_hour_70 : decode cX7_hour 70 = .ok (.iload_n 2, 1) := by decide +kernel
theorem dX7_hour_71 : decode cX7_hour 71 = .ok (.invokevirtual 134, 3) := by decide +kernel
theorem dX7_hour_74 : decode cX7_hour 74 = .ok (.iadd, 1) := by decide +kernel
theorem dX7_hour_75 : decode cX7_hour 75 = .ok (.istore_n 1, 1) := by decide +kernel
theorem dX7_hour_76 : decode cX7_hour 76 = .ok (.goto 12, 3) := by decide +kernel
theorem dX7_hour_79 : decode cX7_hour 79 = .ok (.iload_n 3, 1) := by decide +kernel
theorem dX7_hour_80 : decode cX7_hour 80 = .ok (.ifCond .eq 8, 3) := by decide +kernel
theorem dX7_hour_83 : decode cX7_hour 83 = .ok (.aload_n 0, 1) := by decide +kernel
theorem dX7_hour_84 : decode cX7_hour 84 = .ok (.iload_n 2, 1) := by decide +kernel
theorem dX7_hour_85 : decode cX7_hour 85 = .ok (.invokevirtual 137, 3) := by decide +kernel
theorem dX7_hour_88 : decode cX7_hour 88 = .ok (.iinc 2 1, 3) := by decide +kernel
theorem dX7_hour_91 : decode cX7_hour 91 = .ok (.goto (-77), 3) := by decide +kernel
theorem dX7_hour_94 : decode cX7_hour 94 = .ok (.aload_n 0, 1) := by decide +kernel
theorem dX7_hour_95 : decode cX7_hour 95 = .ok (.getfield 7, 3) := by decide +kernel
theorem dX7_hour_98 : decode cX7_hour 98 = .ok (.bipush 6, 2) := by decide +kernel
theorem dX7_hour_100 : decode cX7_hour 100 = .ok (.iaload, 1) := by decide +kernel
theorem dX7_hour_101 : decode cX7_hour 101 = .ok (.iconst 1, 1) := by decide +kernel
theorem dX7_hour_102 : decode cX7_hour 102 = .ok (.isub, 1) := by decide +kernel
theorem dX7_hour_103 : decode cX7_hour 103 = .ok (.istore_n 2, 1) := by decide +kernel
theorem dX7_hour_104 : decode cX7_hour 104 = .ok (.iload_n 2, 1) := by decide +kernel
theorem dX7_hour_105 : decode cX7_hour 105 = .ok (.ifCond .lt 29, 3) := by decide +kernel
theorem dX7_hour_108 : decode cX7_hour 108 = .ok (.aload_n 0, 1) := by decide +kernel
theorem dX7_hour_109 : decode cX7_hour 109 = .ok (.iload_n 2, 1) := by decide +kernel
theorem dX7_hour_110 : decode cX7_hour 110 = .ok (.iconst 4, 1) := by decide +kernel
theorem dX7_hour_111 : decode cX7_hour 111 = .ok (.invokevirtual 124, 3) := by decide +kernel
theorem dX7_hour_114 : decode cX7_hour 114 = .ok (.aload_n 0, 1) := by decide +kernel
theorem dX7_hour_115 : decode cX7_hour 115 = .ok (.getfield 7, 3) := by decide +kernel
theorem dX7_hour_118 : decode cX7_hour 118 = .ok (.iconst 5, 1) := by decide +kernel
theorem dX7_hour_119 : decode cX7_hour 119 = .ok (.iaload, 1) := by decide +kernel
theorem dX7_hour_120 : decode cX7_hour 120 = .ok (.if_icmp .ge 8, 3) := by decide +kernel
theorem dX7_hour_123 : decode cX7_hour 123 = .ok (.aload_n 0, 1) := by decide +kernel
theorem dX7_hour_124 : decode cX7_hour 124 = .ok (.iload_n 2, 1) := by decide +kernel
theorem dX7_hour_125 : decode cX7_hour 125 = .ok (.invokevirtual 127, 3) := by decide +kernel
theorem dX7_hour_128 : decode cX7_hour 128 = .ok (.iinc 2 (-1), 3) := by decide +kernel
theorem dX7_hour_131 : decode cX7_hour 131 = .ok (.goto (-27), 3) := by decide +kernel
theorem dX7_hour_134 : decode cX7_hour 134 = .ok (.iconst 0, 1) := by decide +kernel
theorem dX7_hour_135 : decode cX7_hour 135 = .ok (.istore_n 2, 1) := by decide +kernel
theorem dX7_hour_136 : decode cX7_hour 136 = .ok (.iload_n 2, 1) := by decide +kernel
theorem dX7_hour_137 : decode cX7_hour 137 = .ok (.aload_n 0, 1) := by decide +kernel
theorem dX7_hour_138 : decode cX7_hour 138 = .ok (.getfield 7, 3) := by decide +kernel
theorem dX7_hour_141 : decode cX7_hour 141 = .ok (.iconst 3, 1) := by decide +kernel
theorem dX7_hour_142 : decode cX7_hour 142 = .ok (.iaload, 1) := by decide +kernel
theorem dX7_hour_143 : decode cX7_hour 143 = .ok (.if_icmp .ge 66, 3) := by decide +kernel
theorem dX7_hour_146 : decode cX7_hour 146 = .ok (.aload_n 0, 1) := by decide +kernel
theorem dX7_hour_147 : decode cX7_hour 147 = .ok (.getfield 7, 3) := by decide +kernel
theorem dX7_hour_150 : decode cX7_hour 150 = .ok (.bipush 11, 2) := by decide +kernel
theorem dX7_hour_152 : decode cX7_hour 152 = .ok (.dup2, 1) := by decide +kernel
theorem dX7_hour_153 : decode cX7_hour 153 = .ok (.iaload, 1) := by decide +kernel
theorem dX7_hour_154 : decode cX7_hour 154 = .ok (.aload_n 0, 1) := by decide +kernel
theorem dX7_hour_155 : decode cX7_hour 155 = .ok (.iload_n 2, 1) := by decide +kernel
theorem dX7_hour_156 : decode cX7_hour 156 = .ok (.invokevirtual 140, 3) := by decide +kernel
theorem dX7_hour_159 : decode cX7_hour 159 = .ok (.ifCond .eq 41, 3) := by decide +kernel
theorem dX7_hour_162 : decode cX7_hour 162 = .ok (.aload_n 0, 1) := by decide +kernel
theorem dX7_hour_163 : decode cX7_hour 163 = .ok (.getfield 7, 3) := by decide +kernel
theorem dX7_hour_166 : decode cX7_hour 166 = .ok (.iconst 5, 1) := by decide +kernel
theorem dX7_hour_167 : decode cX7_hour 167 = .ok (.iaload, 1) := by decide +kernel
theorem dX7_hour_168 : decode cX7_hour 168 = .ok (.aload_n 0, 1) := by decide +kernel
theorem dX7_hour_169 : decode cX7_hour 169 = .ok (.iload_n 2, 1) := by decide +kernel
theorem dX7_hour_170 : decode cX7_hour 170 = .ok (.bipush 10, 2) := by decide +kernel
theorem dX7_hour_172 : decode cX7_hour 172 = .ok (.invokevirtual 57, 3) := by decide +kernel
theorem dX7_hour_175 : decode cX7_hour 175 = .ok (.isub, 1) := by decide +kernel
theorem dX7_hour_176 : decode cX7_hour 176 = .ok (.aload_n 0, 1) := by decide +kernel
theorem dX7_hour_177 : decode cX7_hour 177 = .ok (.getfield 7, 3) := by decide +kernel
theorem dX7_hour_180 : decode cX7_hour 180 = .ok (.iconst 1, 1) := by decide +kernel
theorem dX7_hour_181 : decode cX7_hour 181 = .ok (.iaload, 1) := by decide +kernel
theorem dX7_hour_182 : decode cX7_hour 182 = .ok (.if_icmp .le 18, 3) := by decide +kernel
theorem dX7_hour_185 : decode cX7_hour 185 = .ok (.aload_n 0, 1) := by decide +kernel
theorem dX7_hour_186 : decode cX7_hour 186 = .ok (.iload_n 2, 1) := by decide +kernel
theorem dX7_hour_187 : decode cX7_hour 187 = .ok (.iconst 1, 1) := by decide +kernel
theorem dX7_hour_188 : decode cX7_hour 188 = .ok (.invokevirtual 57, 3) := by decide +kernel
theorem dX7_hour_191 : decode cX7_hour 191 = .ok (.bipush 9, 2) := by decide +kernel
theorem dX7_hour_193 : decode cX7_hour 193 = .ok (.iadd, 1) := by decide +kernel
theorem dX7_hour_194 : decode cX7_hour 194 = .ok (.bipush 10, 2) := by decide +kernel
theorem dX7_hour_196 : decode cX7_hour 196 = .ok (.idiv, 1) := by decide +kernel
theorem dX7_hour_197 : decode cX7_hour 197 = .ok (.goto 4, 3) := by decide +kernel
theorem dX7_hour_200 : decode cX7_hour 200 = .ok (.iconst 0, 1) := by decide +kernel
theorem dX7_hour_201 : decode cX7_hour 201 = .ok (.iadd, 1) := by decide +kernel
theorem dX7_hour_202 : decode cX7_hour 202 = .ok (.iastore, 1) := by decide +kernel
theorem dX7_hour_203 : decode cX7_hour 203 = .ok (.iinc 2 1, 3) := by decide +kernel
theorem dX7_hour_206 : decode cX7_hour 206 = .ok (.goto (-70), 3) := by decide +kernel
theorem dX7_hour_209 : decode cX7_hour 209 = .ok (.iload_n 1, 1) := by decide +kernel
theorem dX7_hour_210 : decode cX7_hour 210 = .ok (.ireturn, 1) := by decide +kernel
theorem dX7_pass_0 : decode cX7_pass 0 = .ok (.iload_n 1, 1) := by decide +kernel
theorem dX7_pass_1 : decode cX7_pass 1 = .ok (.iconst 1, 1) := by decide +kernel
theorem dX7_pass_2 : decode cX7_pass 2 = .ok (.bipush 99, 2) := by decide +kernel
theorem dX7_pass_4 : decode cX7_pass 4 = .ok (.invokestatic 70, 3) := by decide +kernel
theorem dX7_pass_7 : decode cX7_pass 7 = .ok (.ifCond .ne 6, 3) := by decide +kernel
theorem dX7_pass_10 : decode cX7_pass 10 = .ok (.ldc 74, 2) := by decide +kernel
theorem dX7_pass_12 : decode cX7_pass 12 = .ok (.ireturn, 1) := by decide +kernel
theorem dX7_pass_13 : decode cX7_pass 13 = .ok (.aload_n 0, 1) := by decide +kernel
theorem dX7_pass_14 : decode cX7_pass 14 = .ok (.getfield 7, 3) := by decide +kernel
theorem dX7_pass_17 : decode cX7_pass 17 = .ok (.iconst 5, 1) := by decide +kernel
theorem dX7_pass_18 : decode cX7_pass 18 = .ok (.iaload, 1) := by decide +kernel
theorem dX7_pass_19 : decode cX7_pass 19 = .ok (.iload_n 1, 1) := by decide +kernel
theorem dX7_pass_20 : decode cX7_pass 20 = .ok (.iadd, 1) := by decide +kernel
theorem dX7_pass_21 : decode cX7_pass 21 = .ok (.sipush 9000, 3) := by decide +kernel
theorem dX7_pass_24 : decode cX7_pass 24 = .ok (.if_icmp .le 6, 3) := by decide +kernel
theorem dX7_pass_27 : decode cX7_pass 27 = .ok (.ldc 75, 2) := by decide +kernel
theorem dX7_pass_29 : decode cX7_pass 29 = .ok (.ireturn, 1) := by decide +kernel
theorem dX7_pass_30 : decode cX7_pass 30 = .ok (.aload_n 0, 1) := by decide +kernel
theorem dX7_pass_31 : decode cX7_pass 31 = .ok (.invokevirtual 76, 3) := by decide +kernel
theorem dX7_pass_34 : decode cX7_pass 34 = .ok (.iconst 0, 1) := by decide +kernel
theorem dX7_pass_35 : decode cX7_pass 35 = .ok (.istore_n 2, 1) := by decide +kernel
theorem dX7_pass_36 : decode cX7_pass 36 = .ok (.iconst 0, 1) := by decide +kernel
theorem dX7_pass_37 : decode cX7_pass 37 = .ok (.istore_n 3, 1) := by decide +kernel
theorem dX7_pass_38 : decode cX7_pass 38 = .ok (.iload_n 3, 1) := by decide +kernel
theorem dX7_pass_39 : decode cX7_pass 39 = .ok (.iload_n 1, 1) := by decide +kernel
theorem dX7_pass_40 : decode cX7_pass 40 = .ok (.if_icmp .ge 16, 3) := by decide +kernel
theorem dX7_pass_43 : decode cX7_pass 43 = .ok (.iload_n 2, 1) := by decide +kernel
theorem dX7_pass_44 : decode cX7_pass 44 = .ok (.aload_n 0, 1) := by decide +kernel
theorem dX7_pass_45 : decode cX7_pass 45 = .ok (.invokevirtual 143, 3) := by decide +kernel
theorem dX7_pass_48 : decode cX7_pass 48 = .ok (.iadd, 1) := by decide +kernel
theorem dX7_pass_49 : decode cX7_pass 49 = .ok (.istore_n 2, 1) := by decide +kernel
theorem dX7_pass_50 : decode cX7_pass 50 = .ok (.iinc 3 1, 3) := by decide +kernel
theorem dX7_pass_53 : decode cX7_pass 53 = .ok (.goto (-15), 3) := by decide +kernel
theorem dX7_pass_56 : decode cX7_pass 56 = .ok (.iload_n 2, 1) := by decide +kernel
theorem dX7_pass_57 : decode cX7_pass 57 = .ok (.ireturn, 1) := by decide +kernel
theorem dX7_set_0 : decode cX7_set 0 = .ok (.iload_n 1, 1) := by decide +kernel
theorem dX7_set_1 : decode cX7_set 1 = .ok (.iconst 0, 1) := by decide +kernel
theorem dX7_set_2 : decode cX7_set 2 = .ok (.iconst 2, 1) := by decide +kernel
theorem dX7_set_3 : decode cX7_set 3 = .ok (.invokestatic 70, 3) := by decide +kernel
theorem dX7_set_6 : decode cX7_set 6 = .ok (.ifCond .eq 40, 3) := by decide +kernel
theorem dX7_set_9 : decode cX7_set 9 = .ok (.iload_n 2, 1) := by decide +kernel
theorem dX7_set_10 : decode cX7_set 10 = .ok (.iload_n 1, 1) := by decide +kernel
theorem dX7_set_11 : decode cX7_set 11 = .ok (.ifCond .ne 7, 3) := by decide +kernel
theorem dX7_set_14 : decode cX7_set 14 = .ok (.iconst 1, 1) := by decide +kernel
theorem dX7_set_15 : decode cX7_set 15 = .ok (.goto 4, 3) := by decide +kernel
theorem dX7_set_18 : decode cX7_set 18 = .ok (.iconst 0, 1) := by decide +kernel
theorem dX7_set_19 : decode cX7_set 19 = .ok (.iload_n 1, 1) := by decide +kernel
theorem dX7_set_20 : decode cX7_set 20 = .ok (.ifCond .ne 8, 3) := by decide +kernel
theorem dX7_set_23 : decode cX7_set 23 = .ok (.bipush 24, 2) := by decide +kernel
theorem dX7_set_25 : decode cX7_set 25 = .ok (.goto 15, 3) := by decide +kernel
theorem dX7_set_28 : decode cX7_set 28 = .ok (.iload_n 1, 1) := by decide +kernel
theorem dX7_set_29 : decode cX7_set 29 = .ok (.iconst 1, 1) := by decide +kernel
theorem dX7_set_30 : decode cX7_set 30 = .ok (.if_icmp .ne 8, 3) := by decide +kernel
theorem dX7_set_33 : decode cX7_set 33 = .ok (.bipush 99, 2) := by decide +kernel
theorem dX7_set_35 : decode cX7_set 35 = .ok (.goto 5, 3) := by decide +kernel
theorem dX7_set_38 : decode cX7_set 38 = .ok (.bipush 20, 2) := by decide +kernel
theorem dX7_set_40 : decode cX7_set 40 = .ok (.invokestatic 70, 3) := by decide +kernel
theorem dX7_set_43 : decode cX7_set 43 = .ok (.ifCond .ne 6, 3) := by decide +kernel
theorem dX7_set_46 : decode cX7_set 46 = .ok (.ldc 74, 2) := by decide +kernel
theorem dX7_set_48 : decode cX7_set 48 = .ok (.ireturn, 1) := by decide +kernel
theorem dX7_set_49 : decode cX7_set 49 = .ok (.aload_n 0, 1) := by decide +kernel
theorem dX7_set_50 : decode cX7_set 50 = .ok (.invokevirtual 76, 3) := by decide +kernel
theorem dX7_set_53 : decode cX7_set 53 = .ok (.aload_n 0, 1) := by decide +kernel
theorem dX7_set_54 : decode cX7_set 54 = .ok (.getfield 7, 3) := by decide +kernel
theorem dX7_set_57 : decode cX7_set 57 = .ok (.iload_n 1, 1) := by decide +kernel
theorem dX7_set_58 : decode cX7_set 58 = .ok (.iaload, 1) := by decide +kernel
theorem dX7_set_59 : decode cX7_set 59 = .ok (.istore_n 3, 1) := by decide +kernel
theorem dX7_set_60 : decode cX7_set 60 = .ok (.aload_n 0, 1) := by decide +kernel
theorem dX7_set_61 : decode cX7_set 61 = .ok (.getfield 7, 3) := by decide +kernel
theorem dX7_set_64 : decode cX7_set 64 = .ok (.iload_n 1, 1) := by decide +kernel
theorem dX7_set_65 : decode cX7_set 65 = .ok (.iload_n 2, 1) := by decide +kernel
theorem dX7_set_66 : decode cX7_set 66 = .ok (.iastore, 1) := by decide +kernel
theorem dX7_set_67 : decode cX7_set 67 = .ok (.iload_n 3, 1) := by decide +kernel
theorem dX7_set_68 : decode cX7_set 68 = .ok (.ireturn, 1) := by decide +kernel
theorem dX7_parts_0 : decode cX7_parts 0 = .ok (.iconst 0, 1) := by decide +kernel
theorem dX7_parts_1 : decode cX7_parts 1 = .ok (.istore_n 2, 1) := by decide +kernel
theorem dX7_parts_2 : decode cX7_parts 2 = .ok (.iconst 0, 1) := by decide +kernel
theorem dX7_parts_3 : decode cX7_parts 3 = .ok (.istore_n 3, 1) := by decide +kernel
theorem dX7_parts_4 : decode cX7_parts 4 = .ok (.iload_n 3, 1) := by decide +kernel
theorem dX7_parts_5 : decode cX7_parts 5 = .ok (.aload_n 0, 1) := by decide +kernel
theorem dX7_parts_6 : decode cX7_parts 6 = .ok (.getfield 7, 3) := by decide +kernel
theorem dX7_parts_9 : decode cX7_parts 9 = .ok (.iconst 3, 1) := by decide +kernel
theorem dX7_parts_10 : decode cX7_parts 10 = .ok (.iaload, 1) := by decide +kernel
theorem dX7_parts_11 : decode cX7_parts 11 = .ok (.if_icmp .ge 44, 3) := by decide +kernel
theorem dX7_parts_14 : decode cX7_parts 14 = .ok (.iload_n 2, 1) := by decide +kernel
theorem dX7_parts_15 : decode cX7_parts 15 = .ok (.aload_n 0, 1) := by decide +kernel
theorem dX7_parts_16 : decode cX7_parts 16 = .ok (.iload_n 3, 1) := by decide +kernel
theorem dX7_parts_17 : decode cX7_parts 17 = .ok (.invokevirtual 61, 3) := by decide +kernel
theorem dX7_parts_20 : decode cX7_parts 20 = .ok (.ifCond .eq 26, 3) := by decide +kernel
theorem dX7_parts_23 : decode cX7_parts 23 = .ok (.aload_n 0, 1) := by decide +kernel
theorem dX7_parts_24 : decode cX7_parts 24 = .ok (.iload_n 3, 1) := by decide +kernel
theorem dX7_parts_25 : decode cX7_parts 25 = .ok (.bipush 9, 2) := by decide +kernel
theorem dX7_parts_27 : decode cX7_parts 27 = .ok (.invokevirtual 57, 3) := by decide +kernel
theorem dX7_parts_30 : decode cX7_parts 30 = .ok (.aload_n 0, 1) := by decide +kernel
theorem dX7_parts_31 : decode cX7_parts 31 = .ok (.iload_n 1, 1) := by decide +kernel
theorem dX7_parts_32 : decode cX7_parts 32 = .ok (.bipush 9, 2) := by decide +kernel
theorem dX7_parts_34 : decode cX7_parts 34 = .ok (.invokevirtual 57, 3) := by decide +kernel
theorem dX7_parts_37 : decode cX7_parts 37 = .ok (.if_icmp .ne 9, 3) := by decide +kernel
theorem dX7_parts_40 : decode cX7_parts 40 = .ok (.iconst 1, 1) := by decide +kernel
theorem dX7_parts_41 : decode cX7_parts 41 = .ok (.iload_n 3, 1) := by decide +kernel
theorem dX7_parts_42 : decode cX7_parts 42 = .ok (.ishl, 1) := by decide +kernel
theorem dX7_parts_43 : decode cX7_parts 43 = .ok (.goto 4, 3) := by decide +kernel
theorem dX7_parts_46 : decode cX7_parts 46 = .ok (.iconst 0, 1) := by decide +kernel
theorem dX7_parts_47 : decode cX7_parts 47 = .ok (.ior, 1) := by decide +kernel
theorem dX7_parts_48 : decode cX7_parts 48 = .ok (.istore_n 2, 1) := by decide +kernel
theorem dX7_parts_49 : decode cX7_parts 49 = .ok (.iinc 3 1, 3) := by decide +kernel
theorem dX7_parts_52 : decode cX7_parts 52 = .ok (.goto (-48), 3) := by decide +kernel
theorem dX7_parts_55 : decode cX7_parts 55 = .ok (.iload_n 2, 1) := by decide +kernel
theorem dX7_parts_56 : decode cX7_parts 56 = .ok (.ireturn, 1) := by decide +kernel
theorem dX7_consignmentOf_0 : decode cX7_consignmentOf 0 = .ok (.aload_n 0, 1) := by decide +kernel
theorem dX7_consignmentOf_1 : decode cX7_consignmentOf 1 = .ok (.iload_n 1, 1) := by decide +kernel
theorem dX7_consignmentOf_2 : decode cX7_consignmentOf 2 = .ok (.invokevirtual 61, 3) := by decide +kernel
theorem dX7_consignmentOf_5 : decode cX7_consignmentOf 5 = .ok (.ifCond .eq 13, 3) := by decide +kernel
theorem dX7_consignmentOf_8 : decode cX7_consignmentOf 8 = .ok (.iload_n 2, 1) := by decide +kernel
theorem dX7_consignmentOf_9 : decode cX7_consignmentOf 9 = .ok (.iconst 0, 1) := by decide +kernel
theorem dX7_consignmentOf_10 : decode cX7_consignmentOf 10 = .ok (.bipush 10, 2) := by decide +kernel
theorem dX7_consignmentOf_12 : decode cX7_consignmentOf 12 = .ok (.invokestatic 70, 3) := by decide +kernel
theorem dX7_consignmentOf_15 : decode cX7_consignmentOf 15 = .ok (.ifCond .ne 6, 3) := by decide +kernel
theorem dX7_consignmentOf_18 : decode cX7_consignmentOf 18 = .ok (.ldc 74, 2) := by decide +kernel
theorem dX7_consignmentOf_20 : decode cX7_consignmentOf 20 = .ok (.ireturn, 1) := by decide +kernel
theorem dX7_consignmentOf_21 : decode cX7_consignmentOf 21 = .ok (.iload_n 2, 1) := by decide +kernel
theorem dX7_consignmentOf_22 : decode cX7_consignmentOf 22 = .ok (.bipush 9, 2) := by decide +kernel
theorem dX7_consignmentOf_24 : decode cX7_consignmentOf 24 = .ok (.if_icmp .ge 12, 3) := by decide +kernel
theorem dX7_consignmentOf_27 : decode cX7_consignmentOf 27 = .ok (.aload_n 0, 1) := by decide +kernel
theorem dX7_consignmentOf_28 : decode cX7_consignmentOf 28 = .ok (.iload_n 1, 1) := by decide +kernel
theorem dX7_consignmentOf_29 : decode cX7_consignmentOf 29 = .ok (.iload_n 2, 1) := by decide +kernel
theorem dX7_consignmentOf_30 : decode cX7_consignmentOf 30 = .ok (.invokevirtual 57, 3) := by decide +kernel
theorem dX7_consignmentOf_33 : decode cX7_consignmentOf 33 = .ok (.goto 49, 3) := by decide +kernel
theorem dX7_consignmentOf_36 : decode cX7_consignmentOf 36 = .ok (.iload_n 2, 1) := by decide +kernel
theorem dX7_consignmentOf_37 : decode cX7_consignmentOf 37 = .ok (.bipush 9, 2) := by decide +kernel
theorem dX7_consignmentOf_39 : decode cX7_consignmentOf 39 = .ok (.if_icmp .ne 11, 3) := by decide +kernel
theorem dX7_consignmentOf_42 : decode cX7_consignmentOf 42 = .ok (.aload_n 0, 1) := by decide +kernel
theorem dX7_consignmentOf_43 : decode cX7_consignmentOf 43 = .ok (.iload_n 1, 1) := by decide +kernel
theorem dX7_consignmentOf_44 : decode cX7_consignmentOf 44 = .ok (.invokevirtual 147, 3) := by decide +kernel
theorem dX7_consignmentOf_47 : decode cX7_consignmentOf 47 = .ok (.goto 35, 3) := by decide +kernel
theorem dX7_consignmentOf_50 : decode cX7_consignmentOf 50 = .ok (.aload_n 0, 1) := by decide +kernel
theorem dX7_consignmentOf_51 : decode cX7_consignmentOf 51 = .ok (.iload_n 1, 1) := by decide +kernel
theorem dX7_consignmentOf_52 : decode cX7_consignmentOf 52 = .ok (.invokevirtual 140, 3) := by decide +kernel
theorem dX7_consignmentOf_55 : decode cX7_consignmentOf 55 = .ok (.ifCond .eq 12, 3) := by decide +kernel
theorem dX7_consignmentOf_58 : decode cX7_consignmentOf 58 = .ok (.aload_n 0, 1) := by decide +kernel
theorem dX7_consignmentOf_59 : decode cX7_consignmentOf 59 = .ok (.getfield 7, 3) := by decide +kernel
theorem dX7_consignmentOf_62 : decode cX7_consignmentOf 62 = .ok (.iconst 5, 1) := by decide +kernel
theorem dX7_consignmentOf_63 : decode cX7_consignmentOf 63 = .ok (.iaload, 1) := by decide +kernel
theorem dX7_consignmentOf_64 : decode cX7_consignmentOf 64 = .ok (.goto 10, 3) := by decide +kernel
theorem dX7_consignmentOf_67 : decode cX7_consignmentOf 67 = .ok (.aload_n 0, 1) := by decide +kernel
theorem dX7_consignmentOf_68 : decode cX7_consignmentOf 68 = .ok (.iload_n 1, 1) := by decide +kernel
theorem dX7_consignmentOf_69 : decode cX7_consignmentOf 69 = .ok (.bipush 11, 2) := by decide +kernel
theorem dX7_consignmentOf_71 : decode cX7_consignmentOf 71 = .ok (.invokevirtual 57, 3) := by decide +kernel
theorem dX7_consignmentOf_74 : decode cX7_consignmentOf 74 = .ok (.aload_n 0, 1) := by decide +kernel
theorem dX7_consignmentOf_75 : decode cX7_consignmentOf 75 = .ok (.iload_n 1, 1) := by decide +kernel
theorem dX7_consignmentOf_76 : decode cX7_consignmentOf 76 = .ok (.bipush 10, 2) := by decide +kernel
theorem dX7_consignmentOf_78 : decode cX7_consignmentOf 78 = .ok (.invokevirtual 57, 3) := by decide +kernel
theorem dX7_consignmentOf_81 : decode cX7_consignmentOf 81 = .ok (.isub, 1) := by decide +kernel
theorem dX7_consignmentOf_82 : decode cX7_consignmentOf 82 = .ok (.ireturn, 1) := by decide +kernel
theorem dX7_vehicleOf_0 : decode cX7_vehicleOf 0 = .ok (.aload_n 0, 1) := by decide +kernel
theorem dX7_vehicleOf_1 : decode cX7_vehicleOf 1 = .ok (.iload_n 1, 1) := by decide +kernel
theorem dX7_vehicleOf_2 : decode cX7_vehicleOf 2 = .ok (.invokevirtual 101, 3) := by decide +kernel
theorem dX7_vehicleOf_5 : decode cX7_vehicleOf 5 = .ok (.ifCond .ne 6, 3) := by decide +kernel
theorem dX7_vehicleOf_8 : decode cX7_vehicleOf 8 = .ok (.ldc 74, 2) := by decide +kernel
theorem dX7_vehicleOf_10 : decode cX7_vehicleOf 10 = .ok (.ireturn, 1) := by decide +kernel
theorem dX7_vehicleOf_11 : decode cX7_vehicleOf 11 = .ok (.iload_n 2, 1) := by decide +kernel
theorem dX7_vehicleOf_12 : decode cX7_vehicleOf 12 = .ok (.tableswitch 126 0 9 #[56, 56, 56, 63, 70, 77, 83, 89, 110, 118], 56) := by decide +kernel
theorem dX7_vehicleOf_68 : decode cX7_vehicleOf 68 = .ok (.aload_n 0, 1) := by decide +kernel
theorem dX7_vehicleOf_69 : decode cX7_vehicleOf 69 = .ok (.iload_n 1, 1) := by decide +kernel
theorem dX7_vehicleOf_70 : decode cX7_vehicleOf 70 = .ok (.iload_n 2, 1) := by decide +kernel
theorem dX7_vehicleOf_71 : decode cX7_vehicleOf 71 = .ok (.invokevirtual 91, 3) := by decide +kernel
theorem dX7_vehicleOf_74 : decode cX7_vehicleOf 74 = .ok (.ireturn, 1) := by decide +kernel
theorem dX7_vehicleOf_75 : decode cX7_vehicleOf 75 = .ok (.aload_n 0, 1) := by decide +kernel
theorem dX7_vehicleOf_76 : decode cX7_vehicleOf 76 = .ok (.iload_n 1, 1) := by decide +kernel
theorem dX7_vehicleOf_77 : decode cX7_vehicleOf 77 = .ok (.iconst 1, 1) := by decide +kernel
theorem dX7_vehicleOf_78 : decode cX7_vehicleOf 78 = .ok (.invokevirtual 98, 3) := by decide +kernel
theorem dX7_vehicleOf_81 : decode cX7_vehicleOf 81 = .ok (.ireturn, 1) := by decide +kernel
theorem dX7_vehicleOf_82 : decode cX7_vehicleOf 82 = .ok (.aload_n 0, 1) := by decide +kernel
theorem dX7_vehicleOf_83 : decode cX7_vehicleOf 83 = .ok (.iload_n 1, 1) := by decide +kernel
theorem dX7_vehicleOf_84 : decode cX7_vehicleOf 84 = .ok (.iconst 2, 1) := by decide +kernel
theorem dX7_vehicleOf_85 : decode cX7_vehicleOf 85 = .ok (.invokevirtual 98, 3) := by decide +kernel
theorem dX7_vehicleOf_88 : decode cX7_vehicleOf 88 = .ok (.ireturn, 1) := by decide +kernel
theorem dX7_vehicleOf_89 : decode cX7_vehicleOf 89 = .ok (.aload_n 0, 1) := by decide +kernel
theorem dX7_vehicleOf_90 : decode cX7_vehicleOf 90 = .ok (.iload_n 1, 1) := by decide +kernel
theorem dX7_vehicleOf_91 : decode cX7_vehicleOf 91 = .ok (.invokevirtual 121, 3) := by decide +kernel
theorem dX7_vehicleOf_94 : decode cX7_vehicleOf 94 = .ok (.ireturn, 1) := by decide +kernel
theorem dX7_vehicleOf_95 : decode cX7_vehicleOf 95 = .ok (.aload_n 0, 1) := by decide +kernel
theorem dX7_vehicleOf_96 : decode cX7_vehicleOf 96 = .ok (.iload_n 1, 1) := by decide +kernel
theorem dX7_vehicleOf_97 : decode cX7_vehicleOf 97 = .ok (.invokevirtual 94, 3) := by decide +kernel
theorem dX7_vehicleOf_100 : decode cX7_vehicleOf 100 = .ok (.ireturn, 1) := by decide +kernel
theorem dX7_vehicleOf_101 : decode cX7_vehicleOf 101 = .ok (.aload_n 0, 1) := by decide +kernel
theorem dX7_vehicleOf_102 : decode cX7_vehicleOf 102 = .ok (.iload_n 1, 1) := by decide +kernel
theorem dX7_vehicleOf_103 : decode cX7_vehicleOf 103 = .ok (.iconst 2, 1) := by decide +kernel
theorem dX7_vehicleOf_104 : decode cX7_vehicleOf 104 = .ok (.invokevirtual 91, 3) := by decide +kernel
theorem dX7_vehicleOf_107 : decode cX7_vehicleOf 107 = .ok (.ifCond .ne 8, 3) := by decide +kernel
theorem dX7_vehicleOf_110 : decode cX7_vehicleOf 110 = .ok (.ldc 69, 2) := by decide +kernel
theorem dX7_vehicleOf_112 : decode cX7_vehicleOf 112 = .ok (.goto 9, 3) := by decide +kernel
theorem dX7_vehicleOf_115 : decode cX7_vehicleOf 115 = .ok (.aload_n 0, 1) := by decide +kernel
theorem dX7_vehicleOf_116 : decode cX7_vehicleOf 116 = .ok (.iload_n 1, 1) := by decide +kernel
theorem dX7_vehicleOf_117 : decode cX7_vehicleOf 117 = .ok (.iconst 4, 1) := by decide +kernel
theorem dX7_vehicleOf_118 : decode cX7_vehicleOf 118 = .ok (.invokevirtual 91, 3) := by decide +kernel
theorem dX7_vehicleOf_121 : decode cX7_vehicleOf 121 = .ok (.ireturn, 1) := by decide +kernel
theorem dX7_vehicleOf_122 : decode cX7_vehicleOf 122 = .ok (.aload_n 0, 1) := by decide +kernel
theorem dX7_vehicleOf_123 : decode cX7_vehicleOf 123 = .ok (.iload_n 1, 1) := by decide +kernel
theorem dX7_vehicleOf_124 : decode cX7_vehicleOf 124 = .ok (.bipush 6, 2) := by decide +kernel
theorem dX7_vehicleOf_126 : decode cX7_vehicleOf 126 = .ok (.invokevirtual 91, 3) := by decide +kernel
theorem dX7_vehicleOf_129 : decode cX7_vehicleOf 129 = .ok (.ireturn, 1) := by decide +kernel
theorem dX7_vehicleOf_130 : decode cX7_vehicleOf 130 = .ok (.aload_n 0, 1) := by decide +kernel
theorem dX7_vehicleOf_131 : decode cX7_vehicleOf 131 = .ok (.iload_n 1, 1) := by decide +kernel
theorem dX7_vehicleOf_132 : decode cX7_vehicleOf 132 = .ok (.bipush 7, 2) := by decide +kernel
theorem dX7_vehicleOf_134 : decode cX7_vehicleOf 134 = .ok (.invokevirtual 91, 3) := by decide +kernel
theorem dX7_vehicleOf_137 : decode cX7_vehicleOf 137 = .ok (.ireturn, 1) := by decide +kernel
theorem dX7_vehicleOf_138 : decode cX7_vehicleOf 138 = .ok (.ldc 74, 2) := by decide +kernel
theorem dX7_vehicleOf_140 : decode cX7_vehicleOf 140 = .ok (.ireturn, 1) := by decide +kernel
theorem dX7_offerOf_0 : decode cX7_offerOf 0 = .ok (.iload_n 1, 1) := by decide +kernel
theorem dX7_offerOf_1 : decode cX7_offerOf 1 = .ok (.ifCond .lt 12, 3) := by decide +kernel
theorem dX7_offerOf_4 : decode cX7_offerOf 4 = .ok (.iload_n 2, 1) := by decide +kernel
theorem dX7_offerOf_5 : decode cX7_offerOf 5 = .ok (.iconst 0, 1) := by decide +kernel
theorem dX7_offerOf_6 : decode cX7_offerOf 6 = .ok (.iconst 4, 1) := by decide +kernel
theorem dX7_offerOf_7 : decode cX7_offerOf 7 = .ok (.invokestatic 70, 3) := by decide +kernel
theorem dX7_offerOf_10 : decode cX7_offerOf 10 = .ok (.ifCond .ne 6, 3) := by decide +kernel
theorem dX7_offerOf_13 : decode cX7_offerOf 13 = .ok (.ldc 74, 2) := by decide +kernel
theorem dX7_offerOf_15 : decode cX7_offerOf 15 = .ok (.ireturn, 1) := by decide +kernel
theorem dX7_offerOf_16 : decode cX7_offerOf 16 = .ok (.iload_n 1, 1) := by decide +kernel
theorem dX7_offerOf_17 : decode cX7_offerOf 17 = .ok (.aload_n 0, 1) := by decide +kernel
theorem dX7_offerOf_18 : decode cX7_offerOf 18 = .ok (.getfield 7, 3) := by decide +kernel
theorem dX7_offerOf_21 : decode cX7_offerOf 21 = .ok (.bipush 6, 2) := by decide +kernel
theorem dX7_offerOf_23 : decode cX7_offerOf 23 = .ok (.iaload, 1) := by decide +kernel
theorem dX7_offerOf_24 : decode cX7_offerOf 24 = .ok (.if_icmp .lt 8, 3) := by decide +kernel
theorem dX7_offerOf_27 : decode cX7_offerOf 27 = .ok (.ldc 69, 2) := by decide +kernel
theorem dX7_offerOf_29 : decode cX7_offerOf 29 = .ok (.goto 9, 3) := by decide +kernel
theorem dX7_offerOf_32 : decode cX7_offerOf 32 = .ok (.aload_n 0, 1) := by decide +kernel
theorem dX7_offerOf_33 : decode cX7_offerOf 33 = .ok (.iload_n 1, 1) := by decide +kernel
theorem dX7_offerOf_34 : decode cX7_offerOf 34 = .ok (.iload_n 2, 1) := by decide +kernel
theorem dX7_offerOf_35 : decode cX7_offerOf 35 = .ok (.invokevirtual 124, 3) := by decide +kernel
theorem dX7_offerOf_38 : decode cX7_offerOf 38 = .ok (.ireturn, 1) := by decide +kernel
theorem dX7_here_0 : decode cX7_here 0 = .ok (.iconst 0, 1) := by decide +kernel
theorem dX7_here_1 : decode cX7_here 1 = .ok (.istore_n 1, 1) := by decide +kernel
theorem dX7_here_2 : decode cX7_here 2 = .ok (.iconst 0, 1) := by decide +kernel
theorem dX7_here_3 : decode cX7_here 3 = .ok (.istore_n 2, 1) := by decide +kernel
theorem dX7_here_4 : decode cX7_here 4 = .ok (.iload_n 2, 1) := by decide +kernel
theorem dX7_here_5 : decode cX7_here 5 = .ok (.aload_n 0, 1) := by decide +kernel
theorem dX7_here_6 : decode cX7_here 6 = .ok (.getfield 7, 3) := by decide +kernel
theorem dX7_here_9 : decode cX7_here 9 = .ok (.iconst 3, 1) := by decide +kernel
theorem dX7_here_10 : decode cX7_here 10 = .ok (.iaload, 1) := by decide +kernel
theorem dX7_here_11 : decode cX7_here 11 = .ok (.if_icmp .ge 27, 3) := by decide +kernel
theorem dX7_here_14 : decode cX7_here 14 = .ok (.iload_n 1, 1) := by decide +kernel
theorem dX7_here_15 : decode cX7_here 15 = .ok (.aload_n 0, 1) := by decide +kernel
theorem dX7_here_16 : decode cX7_here 16 = .ok (.iload_n 2, 1) := by decide +kernel
theorem dX7_here_17 : decode cX7_here 17 = .ok (.invokevirtual 140, 3) := by decide +kernel
theorem dX7_here_20 : decode cX7_here 20 = .ok (.ifCond .eq 9, 3) := by decide +kernel
theorem dX7_here_23 : decode cX7_here 23 = .ok (.iconst 1, 1) := by decide +kernel
theorem dX7_here_24 : decode cX7_here 24 = .ok (.iload_n 2, 1) := by decide +kernel
theorem dX7_here_25 : decode cX7_here 25 = .ok (.ishl, 1) := by decide +kernel
theorem dX7_here_26 : decode cX7_here 26 = .ok (.goto 4, 3) := by decide +kernel
theorem dX7_here_29 : decode cX7_here 29 = .ok (.iconst 0, 1) := by decide +kernel
theorem dX7_here_30 : decode cX7_here 30 = .ok (.ior, 1) := by decide +kernel
theorem dX7_here_31 : decode cX7_here 31 = .ok (.istore_n 1, 1) := by decide +kernel
theorem dX7_here_32 : decode cX7_here 32 = .ok (.iinc 2 1, 3) := by decide +kernel
theorem dX7_here_35 : decode cX7_here 35 = .ok (.goto (-31), 3) := by decide +kernel
theorem dX7_here_38 : decode cX7_here 38 = .ok (.iload_n 1, 1) := by decide +kernel
theorem dX7_here_39 : decode cX7_here 39 = .ok (.ireturn, 1) := by decide +kernel
theorem dX7_count_0 : decode cX7_count 0 = .ok (.iload_n 1, 1) := by decide +kernel
theorem dX7_count_1 : decode cX7_count 1 = .ok (.tableswitch 111 0 12 #[67, 67, 67, 76, 81, 81, 81, 81, 81, 81, 93, 101, 106], 67) := by decide +kernel
theorem dX7_count_68 : decode cX7_count 68 = .ok (.aload_n 0, 1) := by decide +kernel
theorem dX7_count_69 : decode cX7_count 69 = .ok (.getfield 7, 3) := by decide +kernel
theorem dX7_count_72 : decode cX7_count 72 = .ok (.iconst 3, 1) := by decide +kernel
theorem dX7_count_73 : decode cX7_count 73 = .ok (.iload_n 1, 1) := by decide +kernel
theorem dX7_count_74 : decode cX7_count 74 = .ok (.iadd, 1) := by decide +kernel
theorem dX7_count_75 : decode cX7_count 75 = .ok (.iaload, 1) := by decide +kernel
theorem dX7_count_76 : decode cX7_count 76 = .ok (.ireturn, 1) := by decide +kernel
theorem dX7_count_77 : decode cX7_count 77 = .ok (.aload_n 0, 1) := by decide +kernel
theorem dX7_count_78 : decode cX7_count 78 = .ok (.invokevirtual 150, 3) := by decide +kernel
theorem dX7_count_81 : decode cX7_count 81 = .ok (.ireturn, 1) := by decide +kernel
theorem dX7_count_82 : decode cX7_count 82 = .ok (.aload_n 0, 1) := by decide +kernel
theorem dX7_count_83 : decode cX7_count 83 = .ok (.getfield 7, 3) := by decide +kernel
theorem dX7_count_86 : decode cX7_count 86 = .ok (.bipush 7, 2) := by decide +kernel
theorem dX7_count_88 : decode cX7_count 88 = .ok (.iload_n 1, 1) := by decide +kernel
theorem dX7_count_89 : decode cX7_count 89 = .ok (.iadd, 1) := by decide +kernel
theorem dX7_count_90 : decode cX7_count 90 = .ok (.iconst 4, 1) := by decide +kernel
theorem dX7_count_91 : decode cX7_count 91 = .ok (.isub, 1) := by decide +kernel
theorem dX7_count_92 : decode cX7_count 92 = .ok (.iaload, 1) := by decide +kernel
theorem dX7_count_93 : decode cX7_count 93 = .ok (.ireturn, 1) := by decide +kernel
theorem dX7_count_94 : decode cX7_count 94 = .ok (.aload_n 0, 1) := by decide +kernel
theorem dX7_count_95 : decode cX7_count 95 = .ok (.getfield 7, 3) := by decide +kernel
theorem dX7_count_98 : decode cX7_count 98 = .ok (.bipush 6, 2) := by decide +kernel
theorem dX7_count_100 : decode cX7_count 100 = .ok (.iaload, 1) := by decide +kernel
theorem dX7_count_101 : decode cX7_count 101 = .ok (.ireturn, 1) := by decide +kernel
theorem dX7_count_102 : decode cX7_count 102 = .ok (.aload_n 0, 1) := by decide +kernel
theorem dX7_count_103 : decode cX7_count 103 = .ok (.getfield 53, 3) := by decide +kernel
theorem dX7_count_106 : decode cX7_count 106 = .ok (.ireturn, 1) := by decide +kernel
theorem dX7_count_107 : decode cX7_count 107 = .ok (.aload_n 0, 1) := by decide +kernel
theorem dX7_count_108 : decode cX7_count 108 = .ok (.getfield 153, 3) := by decide +kernel
theorem dX7_count_111 : decode cX7_count 111 = .ok (.ireturn, 1) := by decide +kernel
theorem dX7_count_112 : decode cX7_count 112 = .ok (.iload_n 1, 1) := by decide +kernel
theorem dX7_count_113 : decode cX7_count 113 = .ok (.bipush 20, 2) := by decide +kernel
theorem dX7_count_115 : decode cX7_count 115 = .ok (.bipush 22, 2) := by decide +kernel
theorem dX7_count_117 : decode cX7_count 117 = .ok (.invokestatic 70, 3) := by decide +kernel
theorem dX7_count_120 : decode cX7_count 120 = .ok (.ifCond .eq 15, 3) := by decide +kernel
theorem dX7_count_123 : decode cX7_count 123 = .ok (.aload_n 0, 1) := by decide +kernel
theorem dX7_count_124 : decode cX7_count 124 = .ok (.getfield 7, 3) := by decide +kernel
theorem dX7_count_127 : decode cX7_count 127 = .ok (.iload_n 1, 1) := by decide +kernel
theorem dX7_count_128 : decode cX7_count 128 = .ok (.bipush 20, 2) := by decide +kernel
theorem dX7_count_130 : decode cX7_count 130 = .ok (.isub, 1) := by decide +kernel
theorem dX7_count_131 : decode cX7_count 131 = .ok (.iaload, 1) := by decide +kernel
theorem dX7_count_132 : decode cX7_count 132 = .ok (.goto 5, 3) := by decide +kernel
theorem dX7_count_135 : decode cX7_count 135 = .ok (.ldc 74, 2) := by decide +kernel
theorem dX7_count_137 : decode cX7_count 137 = .ok (.ireturn, 1) := by decide +kernel
theorem dX7_wouldFill_0 : decode cX7_wouldFill 0 = .ok (.aload_n 0, 1) := by decide +kernel
theorem dX7_wouldFill_1 : decode cX7_wouldFill 1 = .ok (.iload_n 1, 1) := by decide +kernel
theorem dX7_wouldFill_2 : decode cX7_wouldFill 2 = .ok (.invokevirtual 101, 3) := by decide +kernel
theorem dX7_wouldFill_5 : decode cX7_wouldFill 5 = .ok (.ifCond .eq 21, 3) := by decide +kernel
theorem dX7_wouldFill_8 : decode cX7_wouldFill 8 = .ok (.iload_n 2, 1) := by decide +kernel
theorem dX7_wouldFill_9 : decode cX7_wouldFill 9 = .ok (.iconst 1, 1) := by decide +kernel
theorem dX7_wouldFill_10 : decode cX7_wouldFill 10 = .ok (.iconst 4, 1) := by decide +kernel
theorem dX7_wouldFill_11 : decode cX7_wouldFill 11 = .ok (.invokestatic 70, 3) := by decide +kernel
theorem dX7_wouldFill_14 : decode cX7_wouldFill 14 = .ok (.ifCond .eq 12, 3) := by decide +kernel
theorem dX7_wouldFill_17 : decode cX7_wouldFill 17 = .ok (.iload_n 3, 1) := by decide +kernel
theorem dX7_wouldFill_18 : decode cX7_wouldFill 18 = .ok (.iconst 0, 1) := by decide +kernel
theorem dX7_wouldFill_19 : decode cX7_wouldFill 19 = .ok (.iconst 2, 1) := by decide +kernel
theorem dX7_wouldFill_20 : decode cX7_wouldFill 20 = .ok (.invokestatic 70, 3) := by decide +kernel
theorem dX7_wouldFill_23 : decode cX7_wouldFill 23 = .ok (.ifCond .ne 6, 3) := by decide +kernel
theorem dX7_wouldFill_26 : decode cX7_wouldFill 26 = .ok (.ldc 74, 2) := by decide +kernel
theorem dX7_wouldFill_28 : decode cX7_wouldFill 28 = .ok (.ireturn, 1) := by decide +kernel
theorem dX7_wouldFill_29 : decode cX7_wouldFill 29 = .ok (.aload_n 0, 1) := by decide +kernel
theorem dX7_wouldFill_30 : decode cX7_wouldFill 30 = .ok (.iload_n 1, 1) := by decide +kernel
theorem dX7_wouldFill_31 : decode cX7_wouldFill 31 = .ok (.iconst 2, 1) := by decide +kernel
theorem dX7_wouldFill_32 : decode cX7_wouldFill 32 = .ok (.invokevirtual 91, 3) := by decide +kernel
theorem dX7_wouldFill_35 : decode cX7_wouldFill 35 = .ok (.ifCond .le 6, 3) := by decide +kernel
theorem dX7_wouldFill_38 : decode cX7_wouldFill 38 = .ok (.ldc 83, 2) := by decide +kernel
theorem dX7_wouldFill_40 : decode cX7_wouldFill 40 = .ok (.ireturn, 1) := by decide +kernel
theorem dX7_wouldFill_41 : decode cX7_wouldFill 41 = .ok (.aload_n 0, 1) := by decide +kernel
theorem dX7_wouldFill_42 : decode cX7_wouldFill 42 = .ok (.getfield 7, 3) := by decide +kernel
theorem dX7_wouldFill_45 : decode cX7_wouldFill 45 = .ok (.aload_n 0, 1) := by decide +kernel
theorem dX7_wouldFill_46 : decode cX7_wouldFill 46 = .ok (.getfield 19, 3) := by decide +kernel
theorem dX7_wouldFill_49 : decode cX7_wouldFill 49 = .ok (.invokestatic 156, 3) := by decide +kernel
theorem dX7_wouldFill_52 : decode cX7_wouldFill 52 = .ok (.aload_n 0, 1) := by decide +kernel
theorem dX7_wouldFill_53 : decode cX7_wouldFill 53 = .ok (.iload_n 1, 1) := by decide +kernel
theorem dX7_wouldFill_54 : decode cX7_wouldFill 54 = .ok (.iload_n 2, 1) := by decide +kernel
theorem dX7_wouldFill_55 : decode cX7_wouldFill 55 = .ok (.iload_n 3, 1) := by decide +kernel
theorem dX7_wouldFill_56 : decode cX7_wouldFill 56 = .ok (.invokevirtual 114, 3) := by decide +kernel
theorem dX7_wouldFill_59 : decode cX7_wouldFill 59 = .ok (.istore 4, 2) := by decide +kernel
theorem dX7_wouldFill_61 : decode cX7_wouldFill 61 = .ok (.aload_n 0, 1) := by decide +kernel
theorem dX7_wouldFill_62 : decode cX7_wouldFill 62 = .ok (.getfield 19, 3) := by decide +kernel
theorem dX7_wouldFill_65 : decode cX7_wouldFill 65 = .ok (.aload_n 0, 1) := by decide +kernel
theorem dX7_wouldFill_66 : decode cX7_wouldFill 66 = .ok (.getfield 7, 3) := by decide +kernel
theorem dX7_wouldFill_69 : decode cX7_wouldFill 69 = .ok (.invokestatic 156, 3) := by decide +kernel
theorem dX7_wouldFill_72 : decode cX7_wouldFill 72 = .ok (.iload 4, 2) := by decide +kernel
theorem dX7_wouldFill_74 : decode cX7_wouldFill 74 = .ok (.ireturn, 1) := by decide +kernel
theorem dX7_wouldEarn_0 : decode cX7_wouldEarn 0 = .ok (.aload_n 0, 1) := by decide +kernel
theorem dX7_wouldEarn_1 : decode cX7_wouldEarn 1 = .ok (.iload_n 1, 1) := by decide +kernel
theorem dX7_wouldEarn_2 : decode cX7_wouldEarn 2 = .ok (.invokevirtual 101, 3) := by decide +kernel
theorem dX7_wouldEarn_5 : decode cX7_wouldEarn 5 = .ok (.ifCond .ne 6, 3) := by decide +kernel
theorem dX7_wouldEarn_8 : decode cX7_wouldEarn 8 = .ok (.ldc 74, 2) := by decide +kernel
theorem dX7_wouldEarn_10 : decode cX7_wouldEarn 10 = .ok (.ireturn, 1) := by decide +kernel
theorem dX7_wouldEarn_11 : decode cX7_wouldEarn 11 = .ok (.aload_n 0, 1) := by decide +kernel
theorem dX7_wouldEarn_12 : decode cX7_wouldEarn 12 = .ok (.iload_n 1, 1) := by decide +kernel
theorem dX7_wouldEarn_13 : decode cX7_wouldEarn 13 = .ok (.iconst 2, 1) := by decide +kernel
theorem dX7_wouldEarn_14 : decode cX7_wouldEarn 14 = .ok (.invokevirtual 91, 3) := by decide +kernel
theorem dX7_wouldEarn_17 : decode cX7_wouldEarn 17 = .ok (.ifCond .gt 11, 3) := by decide +kernel
theorem dX7_wouldEarn_20 : decode cX7_wouldEarn 20 = .ok (.aload_n 0, 1) := by decide +kernel
theorem dX7_wouldEarn_21 : decode cX7_wouldEarn 21 = .ok (.iload_n 1, 1) := by decide +kernel
theorem dX7_wouldEarn_22 : decode cX7_wouldEarn 22 = .ok (.invokevirtual 121, 3) := by decide +kernel
theorem dX7_wouldEarn_25 : decode cX7_wouldEarn 25 = .ok (.ifCond .ne 6, 3) := by decide +kernel
theorem dX7_wouldEarn_28 : decode cX7_wouldEarn 28 = .ok (.ldc 83, 2) := by decide +kernel
theorem dX7_wouldEarn_30 : decode cX7_wouldEarn 30 = .ok (.ireturn, 1) := by decide +kernel
theorem dX7_wouldEarn_31 : decode cX7_wouldEarn 31 = .ok (.aload_n 0, 1) := by decide +kernel
theorem dX7_wouldEarn_32 : decode cX7_wouldEarn 32 = .ok (.iload_n 1, 1) := by decide +kernel
theorem dX7_wouldEarn_33 : decode cX7_wouldEarn 33 = .ok (.invokevirtual 94, 3) := by decide +kernel
theorem dX7_wouldEarn_36 : decode cX7_wouldEarn 36 = .ok (.istore_n 2, 1) := by decide +kernel
theorem dX7_wouldEarn_37 : decode cX7_wouldEarn 37 = .ok (.aload_n 0, 1) := by decide +kernel
theorem dX7_wouldEarn_38 : decode cX7_wouldEarn 38 = .ok (.getfield 7, 3) := by decide +kernel
theorem dX7_wouldEarn_41 : decode cX7_wouldEarn 41 = .ok (.iconst 5, 1) := by decide +kernel
theorem dX7_wouldEarn_42 : decode cX7_wouldEarn 42 = .ok (.iaload, 1) := by decide +kernel
theorem dX7_wouldEarn_43 : decode cX7_wouldEarn 43 = .ok (.iload_n 2, 1) := by decide +kernel
theorem dX7_wouldEarn_44 : decode cX7_wouldEarn 44 = .ok (.aload_n 0, 1) := by decide +kernel
theorem dX7_wouldEarn_45 : decode cX7_wouldEarn 45 = .ok (.getfield 7, 3) := by decide +kernel
theorem dX7_wouldEarn_48 : decode cX7_wouldEarn 48 = .ok (.iconst 0, 1) := by decide +kernel
theorem dX7_wouldEarn_49 : decode cX7_wouldEarn 49 = .ok (.iaload, 1) := by decide +kernel
theorem dX7_wouldEarn_50 : decode cX7_wouldEarn 50 = .ok (.imul, 1) := by decide +kernel
theorem dX7_wouldEarn_51 : decode cX7_wouldEarn 51 = .ok (.iadd, 1) := by decide +kernel
theorem dX7_wouldEarn_52 : decode cX7_wouldEarn 52 = .ok (.istore_n 3, 1) := by decide +kernel
theorem dX7_wouldEarn_53 : decode cX7_wouldEarn 53 = .ok (.iconst 0, 1) := by decide +kernel
theorem dX7_wouldEarn_54 : decode cX7_wouldEarn 54 = .ok (.istore 4, 2) := by decide +kernel
theorem dX7_wouldEarn_56 : decode cX7_wouldEarn 56 = .ok (.iconst 0, 1) := by decide +kernel
theorem dX7_wouldEarn_57 : decode cX7_wouldEarn 57 = .ok (.istore 5, 2) := by decide +kernel
theorem dX7_wouldEarn_59 : decode cX7_wouldEarn 59 = .ok (.iload 5, 2) := by decide +kernel
theorem dX7_wouldEarn_61 : decode cX7_wouldEarn 61 = .ok (.aload_n 0, 1) := by decide +kernel
theorem dX7_wouldEarn_62 : decode cX7_wouldEarn 62 = .ok (.getfield 7, 3) := by decide +kernel
theorem dX7_wouldEarn_65 : decode cX7_wouldEarn 65 = .ok (.iconst 3, 1) := by decide +kernel
theorem dX7_wouldEarn_66 : decode cX7_wouldEarn 66 = .ok (.iaload, 1) := by decide +kernel
theorem dX7_wouldEarn_67 : decode cX7_wouldEarn 67 = .ok (.if_icmp .ge 82, 3) := by decide +kernel
theorem dX7_wouldEarn_70 : decode cX7_wouldEarn 70 = .ok (.aload_n 0, 1) := by decide +kernel
theorem dX7_wouldEarn_71 : decode cX7_wouldEarn 71 = .ok (.iload 5, 2) := by decide +kernel
theorem dX7_wouldEarn_73 : decode cX7_wouldEarn 73 = .ok (.iload_n 1, 1) := by decide +kernel
theorem dX7_wouldEarn_74 : decode cX7_wouldEarn 74 = .ok (.invokevirtual 87, 3) := by decide +kernel
theorem dX7_wouldEarn_77 : decode cX7_wouldEarn 77 = .ok (.ifCond .eq 66, 3) := by decide +kernel
theorem dX7_wouldEarn_80 : decode cX7_wouldEarn 80 = .ok (.iload 4, 2) := by decide +kernel
theorem dX7_wouldEarn_82 : decode cX7_wouldEarn 82 = .ok (.iload_n 3, 1) := by decide +kernel
theorem dX7_wouldEarn_83 : decode cX7_wouldEarn 83 = .ok (.aload_n 0, 1) := by decide +kernel
theorem dX7_wouldEarn_84 : decode cX7_wouldEarn 84 = .ok (.iload 5, 2) := by decide +kernel
theorem dX7_wouldEarn_86 : decode cX7_wouldEarn 86 = .ok (.iconst 4, 1) := by decide +kernel
theorem dX7_wouldEarn_87 : decode cX7_wouldEarn 87 = .ok (.invokevirtual 57, 3) := by decide +kernel
theorem dX7_wouldEarn_90 : decode cX7_wouldEarn 90 = .ok (.if_icmp .le 7, 3) := by decide +kernel
theorem dX7_wouldEarn_93 : decode cX7_wouldEarn 93 = .ok (.iconst 0, 1) := by decide +kernel
theorem dX7_wouldEarn_94 : decode cX7_wouldEarn 94 = .ok (.goto 10, 3) := by decide +kernel
theorem dX7_wouldEarn_97 : decode cX7_wouldEarn 97 = .ok (.aload_n 0, 1) := by decide +kernel
theorem dX7_wouldEarn_98 : decode cX7_wouldEarn 98 = .ok (.iload 5, 2) := by decide +kernel
theorem dX7_wouldEarn_100 : decode cX7_wouldEarn 100 = .ok (.iconst 5, 1) := by decide +kernel
theorem dX7_wouldEarn_101 : decode cX7_wouldEarn 101 = .ok (.invokevirtual 57, 3) := by decide +kernel
theorem dX7_wouldEarn_104 : decode cX7_wouldEarn 104 = .ok (.iadd, 1) := by decide +kernel
theorem dX7_wouldEarn_105 : decode cX7_wouldEarn 105 = .ok (.istore 4, 2) := by decide +kernel
theorem dX7_wouldEarn_107 : decode cX7_wouldEarn 107 = .ok (.iload 4, 2) := by decide +kernel
theorem dX7_wouldEarn_109 : decode cX7_wouldEarn 109 = .ok (.aload_n 0, 1) := by decide +kernel
theorem dX7_wouldEarn_110 : decode cX7_wouldEarn 110 = .ok (.iload 5, 2) := by decide +kernel
theorem dX7_wouldEarn_112 : decode cX7_wouldEarn 112 = .ok (.iconst 3, 1) := by decide +kernel
theorem dX7_wouldEarn_113 : decode cX7_wouldEarn 113 = .ok (.invokevirtual 57, 3) := by decide +kernel
theorem dX7_wouldEarn_116 : decode cX7_wouldEarn 116 = .ok (.iload_n 3, 1) := by decide +kernel
theorem dX7_wouldEarn_117 : decode cX7_wouldEarn 117 = .ok (.if_icmp .le 22, 3) := by decide +kernel
theorem dX7_wouldEarn_120 : decode cX7_wouldEarn 120 = .ok (.aload_n 0, 1) := by decide +kernel
theorem dX7_wouldEarn_121 : decode cX7_wouldEarn 121 = .ok (.iload 5, 2) := by decide +kernel
theorem dX7_wouldEarn_123 : decode cX7_wouldEarn 123 = .ok (.iconst 3, 1) := by decide +kernel
theorem dX7_wouldEarn_124 : decode cX7_wouldEarn 124 = .ok (.invokevirtual 57, 3) := by decide +kernel
theorem dX7_wouldEarn_127 : decode cX7_wouldEarn 127 = .ok (.iload_n 3, 1) := by decide +kernel
theorem dX7_wouldEarn_128 : decode cX7_wouldEarn 128 = .ok (.isub, 1) := by decide +kernel
theorem dX7_wouldEarn_129 : decode cX7_wouldEarn 129 = .ok (.aload_n 0, 1) := by decide +kernel
theorem dX7_wouldEarn_130 : decode cX7_wouldEarn 130 = .ok (.getfield 7, 3) := by decide +kernel
theorem dX7_wouldEarn_133 : decode cX7_wouldEarn 133 = .ok (.iconst 2, 1) := by decide +kernel
theorem dX7_wouldEarn_134 : decode cX7_wouldEarn 134 = .ok (.iaload, 1) := by decide +kernel
theorem dX7_wouldEarn_135 : decode cX7_wouldEarn 135 = .ok (.imul, 1) := by decide +kernel
theorem dX7_wouldEarn_136 : decode cX7_wouldEarn 136 = .ok (.goto 4, 3) := by decide +kernel
theorem dX7_wouldEarn_139 : decode cX7_wouldEarn 139 = .ok (.iconst 0, 1) := by decide +kernel
theorem dX7_wouldEarn_140 : decode cX7_wouldEarn 140 = .ok (.isub, 1) := by decide +kernel
theorem dX7_wouldEarn_141 : decode cX7_wouldEarn 141 = .ok (.istore 4, 2) := by decide +kernel
theorem dX7_wouldEarn_143 : decode cX7_wouldEarn 143 = .ok (.iinc 5 1, 3) := by decide +kernel
theorem dX7_wouldEarn_146 : decode cX7_wouldEarn 146 = .ok (.goto (-87), 3) := by decide +kernel
theorem dX7_wouldEarn_149 : decode cX7_wouldEarn 149 = .ok (.aload_n 0, 1) := by decide +kernel
theorem dX7_wouldEarn_150 : decode cX7_wouldEarn 150 = .ok (.getfield 7, 3) := by decide +kernel
theorem dX7_wouldEarn_153 : decode cX7_wouldEarn 153 = .ok (.aload_n 0, 1) := by decide +kernel
theorem dX7_wouldEarn_154 : decode cX7_wouldEarn 154 = .ok (.getfield 19, 3) := by decide +kernel
theorem dX7_wouldEarn_157 : decode cX7_wouldEarn 157 = .ok (.invokestatic 156, 3) := by decide +kernel
theorem dX7_wouldEarn_160 : decode cX7_wouldEarn 160 = .ok (.iload 4, 2) := by decide +kernel
theorem dX7_wouldEarn_162 : decode cX7_wouldEarn 162 = .ok (.aload_n 0, 1) := by decide +kernel
theorem dX7_wouldEarn_163 : decode cX7_wouldEarn 163 = .ok (.iload_n 1, 1) := by decide +kernel
theorem dX7_wouldEarn_164 : decode cX7_wouldEarn 164 = .ok (.iload_n 2, 1) := by decide +kernel
theorem dX7_wouldEarn_165 : decode cX7_wouldEarn 165 = .ok (.iload_n 3, 1) := by decide +kernel
theorem dX7_wouldEarn_166 : decode cX7_wouldEarn 166 = .ok (.invokevirtual 131, 3) := by decide +kernel
theorem dX7_wouldEarn_169 : decode cX7_wouldEarn 169 = .ok (.iadd, 1) := by decide +kernel
theorem dX7_wouldEarn_170 : decode cX7_wouldEarn 170 = .ok (.istore 4, 2) := by decide +kernel
theorem dX7_wouldEarn_172 : decode cX7_wouldEarn 172 = .ok (.aload_n 0, 1) := by decide +kernel
theorem dX7_wouldEarn_173 : decode cX7_wouldEarn 173 = .ok (.getfield 19, 3) := by decide +kernel
theorem dX7_wouldEarn_176 : decode cX7_wouldEarn 176 = .ok (.aload_n 0, 1) := by decide +kernel
theorem dX7_wouldEarn_177 : decode cX7_wouldEarn 177 = .ok (.getfield 7, 3) := by decide +kernel
theorem dX7_wouldEarn_180 : decode cX7_wouldEarn 180 = .ok (.invokestatic 156, 3) := by decide +kernel
theorem dX7_wouldEarn_183 : decode cX7_wouldEarn 183 = .ok (.iload 4, 2) := by decide +kernel
theorem dX7_wouldEarn_185 : decode cX7_wouldEarn 185 = .ok (.ldc 160, 2) := by decide +kernel
theorem dX7_wouldEarn_187 : decode cX7_wouldEarn 187 = .ok (.iadd, 1) := by decide +kernel
theorem dX7_wouldEarn_188 : decode cX7_wouldEarn 188 = .ok (.ireturn, 1) := by decide +kernel
theorem dX7_hopeless_0 : decode cX7_hopeless 0 = .ok (.iconst 0, 1) := by decide +kernel
theorem dX7_hopeless_1 : decode cX7_hopeless 1 = .ok (.istore_n 1, 1) := by decide +kernel
theorem dX7_hopeless_2 : decode cX7_hopeless 2 = .ok (.iconst 0, 1) := by decide +kernel
theorem dX7_hopeless_3 : decode cX7_hopeless 3 = .ok (.istore_n 2, 1) := by decide +kernel
theorem dX7_hopeless_4 : decode cX7_hopeless 4 = .ok (.iload_n 2, 1) := by decide +kernel
theorem dX7_hopeless_5 : decode cX7_hopeless 5 = .ok (.aload_n 0, 1) := by decide +kernel
theorem dX7_hopeless_6 : decode cX7_hopeless 6 = .ok (.getfield 7, 3) := by decide +kernel
theorem dX7_hopeless_9 : decode cX7_hopeless 9 = .ok (.iconst 3, 1) := by decide +kernel
theorem dX7_hopeless_10 : decode cX7_hopeless 10 = .ok (.iaload, 1) := by decide +kernel
theorem dX7_hopeless_11 : decode cX7_hopeless 11 = .ok (.if_icmp .ge 56, 3) := by decide +kernel
theorem dX7_hopeless_14 : decode cX7_hopeless 14 = .ok (.iload_n 1, 1) := by decide +kernel
theorem dX7_hopeless_15 : decode cX7_hopeless 15 = .ok (.aload_n 0, 1) := by decide +kernel
theorem dX7_hopeless_16 : decode cX7_hopeless 16 = .ok (.iload_n 2, 1) := by decide +kernel
theorem dX7_hopeless_17 : decode cX7_hopeless 17 = .ok (.invokevirtual 140, 3) := by decide +kernel
theorem dX7_hopeless_20 : decode cX7_hopeless 20 = .ok (.ifCond .eq 38, 3) := by decide +kernel
theorem dX7_hopeless_23 : decode cX7_hopeless 23 = .ok (.aload_n 0, 1) := by decide +kernel
theorem dX7_hopeless_24 : decode cX7_hopeless 24 = .ok (.getfield 7, 3) := by decide +kernel
theorem dX7_hopeless_27 : decode cX7_hopeless 27 = .ok (.iconst 5, 1) := by decide +kernel
theorem dX7_hopeless_28 : decode cX7_hopeless 28 = .ok (.iaload, 1) := by decide +kernel
theorem dX7_hopeless_29 : decode cX7_hopeless 29 = .ok (.aload_n 0, 1) := by decide +kernel
theorem dX7_hopeless_30 : decode cX7_hopeless 30 = .ok (.iload_n 2, 1) := by decide +kernel
theorem dX7_hopeless_31 : decode cX7_hopeless 31 = .ok (.iconst 0, 1) := by decide +kernel
theorem dX7_hopeless_32 : decode cX7_hopeless 32 = .ok (.invokevirtual 57, 3) := by decide +kernel
theorem dX7_hopeless_35 : decode cX7_hopeless 35 = .ok (.aload_n 0, 1) := by decide +kernel
theorem dX7_hopeless_36 : decode cX7_hopeless 36 = .ok (.getfield 7, 3) := by decide +kernel
theorem dX7_hopeless_39 : decode cX7_hopeless 39 = .ok (.iconst 0, 1) := by decide +kernel
theorem dX7_hopeless_40 : decode cX7_hopeless 40 = .ok (.iaload, 1) := by decide +kernel
theorem dX7_hopeless_41 : decode cX7_hopeless 41 = .ok (.imul, 1) := by decide +kernel
theorem dX7_hopeless_42 : decode cX7_hopeless 42 = .ok (.iadd, 1) := by decide +kernel
theorem dX7_hopeless_43 : decode cX7_hopeless 43 = .ok (.aload_n 0, 1) := by decide +kernel
theorem dX7_hopeless_44 : decode cX7_hopeless 44 = .ok (.iload_n 2, 1) := by decide +kernel
theorem dX7_hopeless_45 : decode cX7_hopeless 45 = .ok (.iconst 4, 1) := by decide +kernel
theorem dX7_hopeless_46 : decode cX7_hopeless 46 = .ok (.invokevirtual 57, 3) := by decide +kernel
theorem dX7_hopeless_49 : decode cX7_hopeless 49 = .ok (.if_icmp .le 9, 3) := by decide +kernel
theorem dX7_hopeless_52 : decode cX7_hopeless 52 = .ok (.iconst 1, 1) := by decide +kernel
theorem dX7_hopeless_53 : decode cX7_hopeless 53 = .ok (.iload_n 2, 1) := by decide +kernel
theorem dX7_hopeless_54 : decode cX7_hopeless 54 = .ok (.ishl, 1) := by decide +kernel
theorem dX7_hopeless_55 : decode cX7_hopeless 55 = .ok (.goto 4, 3) := by decide +kernel
theorem dX7_hopeless_58 : decode cX7_hopeless 58 = .ok (.iconst 0, 1) := by decide +kernel
theorem dX7_hopeless_59 : decode cX7_hopeless 59 = .ok (.ior, 1) := by decide +kernel
theorem dX7_hopeless_60 : decode cX7_hopeless 60 = .ok (.istore_n 1, 1) := by decide +kernel
theorem dX7_hopeless_61 : decode cX7_hopeless 61 = .ok (.iinc 2 1, 3) := by decide +kernel
theorem dX7_hopeless_64 : decode cX7_hopeless 64 = .ok (.goto (-60), 3) := by decide +kernel
theorem dX7_hopeless_67 : decode cX7_hopeless 67 = .ok (.iload_n 1, 1) := by decide +kernel
theorem dX7_hopeless_68 : decode cX7_hopeless 68 = .ok (.ireturn, 1) := by decide +kernel
theorem dX7_undo_0 : decode cX7_undo 0 = .ok (.aload_n 0, 1) := by decide +kernel
theorem dX7_undo_1 : decode cX7_undo 1 = .ok (.getfield 53, 3) := by decide +kernel
theorem dX7_undo_4 : decode cX7_undo 4 = .ok (.ifCond .ne 6, 3) := by decide +kernel
theorem dX7_undo_7 : decode cX7_undo 7 = .ok (.ldc 83, 2) := by decide +kernel
theorem dX7_undo_9 : decode cX7_undo 9 = .ok (.ireturn, 1) := by decide +kernel
theorem dX7_undo_10 : decode cX7_undo 10 = .ok (.aload_n 0, 1) := by decide +kernel
theorem dX7_undo_11 : decode cX7_undo 11 = .ok (.dup, 1) := by decide +kernel
theorem dX7_undo_12 : decode cX7_undo 12 = .ok (.getfield 53, 3) := by decide +kernel
theorem dX7_undo_15 : decode cX7_undo 15 = .ok (.iconst 1, 1) := by decide +kernel
theorem dX7_undo_16 : decode cX7_undo 16 = .ok (.isub, 1) := by decide +kernel
theorem dX7_undo_17 : decode cX7_undo 17 = .ok (.putfield 53, 3) := by decide +kernel
theorem dX7_undo_20 : decode cX7_undo 20 = .ok (.iconst 0, 1) := by decide +kernel
theorem dX7_undo_21 : decode cX7_undo 21 = .ok (.istore_n 1, 1) := by decide +kernel
theorem dX7_undo_22 : decode cX7_undo 22 = .ok (.iload_n 1, 1) := by decide +kernel
theorem dX7_undo_23 : decode cX7_undo 23 = .ok (.sipush 287, 3) := by decide +kernel
theorem dX7_undo_26 : decode cX7_undo 26 = .ok (.if_icmp .ge 30, 3) := by decide +kernel
theorem dX7_undo_29 : decode cX7_undo 29 = .ok (.aload_n 0, 1) := by decide +kernel
theorem dX7_undo_30 : decode cX7_undo 30 = .ok (.getfield 7, 3) := by decide +kernel
theorem dX7_undo_33 : decode cX7_undo 33 = .ok (.iload_n 1, 1) := by decide +kernel
theorem dX7_undo_34 : decode cX7_undo 34 = .ok (.aload_n 0, 1) := by decide +kernel
theorem dX7_undo_35 : decode cX7_undo 35 = .ok (.getfield 13, 3) := by decide +kernel
theorem dX7_undo_38 : decode cX7_undo 38 = .ok (.sipush 287, 3) := by decide +kernel
theorem dX7_undo_41 : decode cX7_undo 41 = .ok (.aload_n 0, 1) := by decide +kernel
theorem dX7_undo_42 : decode cX7_undo 42 = .ok (.getfield 53, 3) := by decide +kernel
theorem dX7_undo_45 : decode cX7_undo 45 = .ok (.imul, 1) := by decide +kernel
theorem dX7_undo_46 : decode cX7_undo 46 = .ok (.iload_n 1, 1) := by decide +kernel
theorem dX7_undo_47 : decode cX7_undo 47 = .ok (.iadd, 1) := by decide +kernel
theorem dX7_undo_48 : decode cX7_undo 48 = .ok (.iaload, 1) := by decide +kernel
theorem dX7_undo_49 : decode cX7_undo 49 = .ok (.iastore, 1) := by decide +kernel
theorem dX7_undo_50 : decode cX7_undo 50 = .ok (.iinc 1 1, 3) := by decide +kernel
theorem dX7_undo_53 : decode cX7_undo 53 = .ok (.goto (-31), 3) := by decide +kernel
theorem dX7_undo_56 : decode cX7_undo 56 = .ok (.aload_n 0, 1) := by decide +kernel
theorem dX7_undo_57 : decode cX7_undo 57 = .ok (.getfield 53, 3) := by decide +kernel
theorem dX7_undo_60 : decode cX7_undo 60 = .ok (.ireturn, 1) := by decide +kernel
theorem dX7_type_0 : decode cX7_type 0 = .ok (.iload_n 1, 1) := by decide +kernel
theorem dX7_type_1 : decode cX7_type 1 = .ok (.bipush 32, 2) := by decide +kernel
theorem dX7_type_3 : decode cX7_type 3 = .ok (.bipush 126, 2) := by decide +kernel
theorem dX7_type_5 : decode cX7_type 5 = .ok (.invokestatic 70, 3) := by decide +kernel
theorem dX7_type_8 : decode cX7_type 8 = .ok (.ifCond .ne 6, 3) := by decide +kernel
theorem dX7_type_11 : decode cX7_type 11 = .ok (.ldc 74, 2) := by decide +kernel
theorem dX7_type_13 : decode cX7_type 13 = .ok (.ireturn, 1) := by decide +kernel
theorem dX7_type_14 : decode cX7_type 14 = .ok (.aload_n 0, 1) := by decide +kernel
theorem dX7_type_15 : decode cX7_type 15 = .ok (.getfield 153, 3) := by decide +kernel
theorem dX7_type_18 : decode cX7_type 18 = .ok (.bipush 80, 2) := by decide +kernel
theorem dX7_type_20 : decode cX7_type 20 = .ok (.if_icmp .ne 6, 3) := by decide +kernel
theorem dX7_type_23 : decode cX7_type 23 = .ok (.ldc 75, 2) := by decide +kernel
theorem dX7_type_25 : decode cX7_type 25 = .ok (.ireturn, 1) := by decide +kernel
theorem dX7_type_26 : decode cX7_type 26 = .ok (.aload_n 0, 1) := by decide +kernel
theorem dX7_type_27 : decode cX7_type 27 = .ok (.getfield 22, 3) := by decide +kernel
theorem dX7_type_30 : decode cX7_type 30 = .ok (.aload_n 0, 1) := by decide +kernel
theorem dX7_type_31 : decode cX7_type 31 = .ok (.getfield 153, 3) := by decide +kernel
theorem dX7_type_34 : decode cX7_type 34 = .ok (.iload_n 1, 1) := by decide +kernel
theorem dX7_type_35 : decode cX7_type 35 = .ok (.iastore, 1) := by decide +kernel
theorem dX7_type_36 : decode cX7_type 36 = .ok (.aload_n 0, 1) := by decide +kernel
theorem dX7_type_37 : decode cX7_type 37 = .ok (.dup, 1) := by decide +kernel
theorem dX7_type_38 : decode cX7_type 38 = .ok (.getfield 153, 3) := by decide +kernel
theorem dX7_type_41 : decode cX7_type 41 = .ok (.iconst 1, 1) := by decide +kernel
theorem dX7_type_42 : decode cX7_type 42 = .ok (.iadd, 1) := by decide +kernel
theorem dX7_type_43 : decode cX7_type 43 = .ok (.putfield 153, 3) := by decide +kernel
theorem dX7_type_46 : decode cX7_type 46 = .ok (.aload_n 0, 1) := by decide +kernel
theorem dX7_type_47 : decode cX7_type 47 = .ok (.getfield 153, 3) := by decide +kernel
theorem dX7_type_50 : decode cX7_type 50 = .ok (.ireturn, 1) := by decide +kernel
theorem dX7_clearText_0 : decode cX7_clearText 0 = .ok (.aload_n 0, 1) := by decide +kernel
theorem dX7_clearText_1 : decode cX7_clearText 1 = .ok (.getfield 153, 3) := by decide +kernel
theorem dX7_clearText_4 : decode cX7_clearText 4 = .ok (.istore_n 1, 1) := by decide +kernel
theorem dX7_clearText_5 : decode cX7_clearText 5 = .ok (.aload_n 0, 1) := by decide +kernel
theorem dX7_clearText_6 : decode cX7_clearText 6 = .ok (.iconst 0, 1) := by decide +kernel
theorem dX7_clearText_7 : decode cX7_clearText 7 = .ok (.putfield 153, 3) := by decide +kernel
theorem dX7_clearText_10 : decode cX7_clearText 10 = .ok (.iload_n 1, 1) := by decide +kernel
theorem dX7_clearText_11 : decode cX7_clearText 11 = .ok (.ireturn, 1) := by decide +kernel
theorem dX7_isAt_0 : decode cX7_isAt 0 = .ok (.aload_n 0, 1) := by decide +kernel
theorem dX7_isAt_1 : decode cX7_isAt 1 = .ok (.getfield 161, 3) := by decide +kernel
theorem dX7_isAt_4 : decode cX7_isAt 4 = .ok (.aload_n 0, 1) := by decide +kernel
theorem dX7_isAt_5 : decode cX7_isAt 5 = .ok (.getfield 153, 3) := by decide +kernel
theorem dX7_isAt_8 : decode cX7_isAt 8 = .ok (.if_icmp .ge 24, 3) := by decide +kernel
theorem dX7_isAt_11 : decode cX7_isAt 11 = .ok (.aload_n 0, 1) := by decide +kernel
theorem dX7_isAt_12 : decode cX7_isAt 12 = .ok (.getfield 22, 3) := by decide +kernel
theorem dX7_isAt_15 : decode cX7_isAt 15 = .ok (.aload_n 0, 1) := by decide +kernel
theorem dX7_isAt_16 : decode cX7_isAt 16 = .ok (.getfield 161, 3) := by decide +kernel
theorem dX7_isAt_19 : decode cX7_isAt 19 = .ok (.iaload, 1) := by decide +kernel
theorem dX7_isAt_20 : decode cX7_isAt 20 = .ok (.iload_n 1, 1) := by decide +kernel
theorem dX7_isAt_21 : decode cX7_isAt 21 = .ok (.iload_n 2, 1) := by decide +kernel
theorem dX7_isAt_22 : decode cX7_isAt 22 = .ok (.invokestatic 70, 3) := by decide +kernel
theorem dX7_isAt_25 : decode cX7_isAt 25 = .ok (.ifCond .eq 7, 3) := by decide +kernel
theorem dX7_isAt_28 : decode cX7_isAt 28 = .ok (.iconst 1, 1) := by decide +kernel
theorem dX7_isAt_29 : decode cX7_isAt 29 = .ok (.goto 4, 3) := by decide +kernel
theorem dX7_isAt_32 : decode cX7_isAt 32 = .ok (.iconst 0, 1) := by decide +kernel
theorem dX7_isAt_33 : decode cX7_isAt 33 = .ok (.ireturn, 1) := by decide +kernel
theorem dX7_passes_0 : decode cX7_passes 0 = .ok (.aload_n 0, 1) := by decide +kernel
theorem dX7_passes_1 : decode cX7_passes 1 = .ok (.iload_n 1, 1) := by decide +kernel
theorem dX7_passes_2 : decode cX7_passes 2 = .ok (.iload_n 1, 1) := by decide +kernel
theorem dX7_passes_3 : decode cX7_passes 3 = .ok (.invokevirtual 164, 3) := by decide +kernel
theorem dX7_passes_6 : decode cX7_passes 6 = .ok (.istore_n 2, 1) := by decide +kernel
theorem dX7_passes_7 : decode cX7_passes 7 = .ok (.aload_n 0, 1) := by decide +kernel
theorem dX7_passes_8 : decode cX7_passes 8 = .ok (.dup, 1) := by decide +kernel
theorem dX7_passes_9 : decode cX7_passes 9 = .ok (.getfield 161, 3) := by decide +kernel
theorem dX7_passes_12 : decode cX7_passes 12 = .ok (.iload_n 2, 1) := by decide +kernel
theorem dX7_passes_13 : decode cX7_passes 13 = .ok (.ifCond .eq 7, 3) := by decide +kernel
theorem dX7_passes_16 : decode cX7_passes 16 = .ok (.iconst 1, 1) := by decide +kernel
theorem dX7_passes_17 : decode cX7_passes 17 = .ok (.goto 4, 3) := by decide +kernel
theorem dX7_passes_20 : decode cX7_passes 20 = .ok (.iconst 0, 1) := by decide +kernel
theorem dX7_passes_21 : decode cX7_passes 21 = .ok (.iadd, 1) := by decide +kernel
theorem dX7_passes_22 : decode cX7_passes 22 = .ok (.putfield 161, 3) := by decide +kernel
theorem dX7_passes_25 : decode cX7_passes 25 = .ok (.iload_n 2, 1) := by decide +kernel
theorem dX7_passes_26 : decode cX7_passes 26 = .ok (.ireturn, 1) := by decide +kernel
theorem dX7_word_0 : decode cX7_word 0 = .ok (.lconst 0, 1) := by decide +kernel
theorem dX7_word_1 : decode cX7_word 1 = .ok (.lstore_n 1, 1) := by decide +kernel
theorem dX7_word_2 : decode cX7_word 2 = .ok (.aload_n 0, 1) := by decide +kernel
theorem dX7_word_3 : decode cX7_word 3 = .ok (.getfield 161, 3) := by decide +kernel
theorem dX7_word_6 : decode cX7_word 6 = .ok (.istore_n 3, 1) := by decide +kernel
theorem dX7_word_7 : decode cX7_word 7 = .ok (.aload_n 0, 1) := by decide +kernel
theorem dX7_word_8 : decode cX7_word 8 = .ok (.bipush 97, 2) := by decide +kernel
theorem dX7_word_10 : decode cX7_word 10 = .ok (.bipush 122, 2) := by decide +kernel
theorem dX7_word_12 : decode cX7_word 12 = .ok (.invokevirtual 164, 3) := by decide +kernel
theorem dX7_word_15 : decode cX7_word 15 = .ok (.ifCond .eq 44, 3) := by decide +kernel
theorem dX7_word_18 : decode cX7_word 18 = .ok (.aload_n 0, 1) := by decide +kernel
theorem dX7_word_19 : decode cX7_word 19 = .ok (.getfield 161, 3) := by decide +kernel
theorem dX7_word_22 : decode cX7_word 22 = .ok (.iload_n 3, 1) := by decide +kernel
theorem dX7_word_23 : decode cX7_word 23 = .ok (.isub, 1) := by decide +kernel
theorem dX7_word_24 : decode cX7_word 24 = .ok (.bipush 6, 2) := by decide +kernel
theorem dX7_word_26 : decode cX7_word 26 = .ok (.if_icmp .ge 33, 3) := by decide +kernel
theorem dX7_word_29 : decode cX7_word 29 = .ok (.lload_n 1, 1) := by decide +kernel
theorem dX7_word_30 : decode cX7_word 30 = .ok (.ldc2_w 167, 3) := by decide +kernel
theorem dX7_word_33 : decode cX7_word 33 = .ok (.lmul, 1) := by decide +kernel
theorem dX7_word_34 : decode cX7_word 34 = .ok (.aload_n 0, 1) := by decide +kernel
theorem dX7_word_35 : decode cX7_word 35 = .ok (.getfield 22, 3) := by decide +kernel
theorem dX7_word_38 : decode cX7_word 38 = .ok (.aload_n 0, 1) := by decide +kernel
theorem dX7_word_39 : decode cX7_word 39 = .ok (.getfield 161, 3) := by decide +kernel
theorem dX7_word_42 : decode cX7_word 42 = .ok (.iaload, 1) := by decide +kernel
theorem dX7_word_43 : decode cX7_word 43 = .ok (.i2l, 1) := by decide +kernel
theorem dX7_word_44 : decode cX7_word 44 = .ok (.ladd, 1) := by decide +kernel
theorem dX7_word_45 : decode cX7_word 45 = .ok (.lstore_n 1, 1) := by decide +kernel
theorem dX7_word_46 : decode cX7_word 46 = .ok (.aload_n 0, 1) := by decide +kernel
theorem dX7_word_47 : decode cX7_word 47 = .ok (.dup, 1) := by decide +kernel
theorem dX7_word_48 : decode cX7_word 48 = .ok (.getfield 161, 3) := by decide +kernel
theorem dX7_word_51 : decode cX7_word 51 = .ok (.iconst 1, 1) := by decide +kernel
theorem dX7_word_52 : decode cX7_word 52 = .ok (.iadd, 1) := by decide +kernel
theorem dX7_word_53 : decode cX7_word 53 = .ok (.putfield 161, 3) := by decide +kernel
theorem dX7_word_56 : decode cX7_word 56 = .ok (.goto (-49), 3) := by decide +kernel
theorem dX7_word_59 : decode cX7_word 59 = .ok (.ldc 69, 2) := by decide +kernel
theorem dX7_word_61 : decode cX7_word 61 = .ok (.istore 4, 2) := by decide +kernel
theorem dX7_word_63 : decode cX7_word 63 = .ok (.iconst 0, 1) := by decide +kernel
theorem dX7_word_64 : decode cX7_word 64 = .ok (.istore 5, 2) := by decide +kernel
theorem dX7_word_66 : decode cX7_word 66 = .ok (.iload 5, 2) := by decide +kernel
theorem dX7_word_68 : decode cX7_word 68 = .ok (.bipush 7, 2) := by decide +kernel
theorem dX7_word_70 : decode cX7_word 70 = .ok (.if_icmp .ge 30, 3) := by decide +kernel
theorem dX7_word_73 : decode cX7_word 73 = .ok (.aload_n 0, 1) := by decide +kernel
theorem dX7_word_74 : decode cX7_word 74 = .ok (.getfield 25, 3) := by decide +kernel
theorem dX7_word_77 : decode cX7_word 77 = .ok (.iload 5, 2) := by decide +kernel
theorem dX7_word_79 : decode cX7_word 79 = .ok (.laload, 1) := by decide +kernel
theorem dX7_word_80 : decode cX7_word 80 = .ok (.lload_n 1, 1) := by decide +kernel
theorem dX7_word_81 : decode cX7_word 81 = .ok (.lcmp, 1) := by decide +kernel
theorem dX7_word_82 : decode cX7_word 82 = .ok (.ifCond .ne 8, 3) := by decide +kernel
theorem dX7_word_85 : decode cX7_word 85 = .ok (.iload 5, 2) := by decide +kernel
theorem dX7_word_87 : decode cX7_word 87 = .ok (.goto 5, 3) := by decide +kernel
theorem dX7_word_90 : decode cX7_word 90 = .ok (.iload 4, 2) := by decide +kernel
theorem dX7_word_92 : decode cX7_word 92 = .ok (.istore 4, 2) := by decide +kernel
theorem dX7_word_94 : decode cX7_word 94 = .ok (.iinc 5 1, 3) := by decide +kernel
theorem dX7_word_97 : decode cX7_word 97 = .ok (.goto (-31), 3) := by decide +kernel
theorem dX7_word_100 : decode cX7_word 100 = .ok (.iload 4, 2) := by decide +kernel
theorem dX7_word_102 : decode cX7_word 102 = .ok (.ireturn, 1) := by decide +kernel
theorem dX7_number_0 : decode cX7_number 0 = .ok (.aload_n 0, 1) := by decide +kernel
theorem dX7_number_1 : decode cX7_number 1 = .ok (.getfield 161, 3) := by decide +kernel
theorem dX7_number_4 : decode cX7_number 4 = .ok (.istore_n 2, 1) := by decide +kernel
theorem dX7_number_5 : decode cX7_number 5 = .ok (.aload_n 0, 1) := by decide +kernel
theorem dX7_number_6 : decode cX7_number 6 = .ok (.getfield 32, 3) := by decide +kernel
theorem dX7_number_9 : decode cX7_number 9 = .ok (.iload_n 1, 1) := by decide +kernel
theorem dX7_number_10 : decode cX7_number 10 = .ok (.iconst 0, 1) := by decide +kernel
theorem dX7_number_11 : decode cX7_number 11 = .ok (.iastore, 1) := by decide +kernel
theorem dX7_number_12 : decode cX7_number 12 = .ok (.aload_n 0, 1) := by decide +kernel
theorem dX7_number_13 : decode cX7_number 13 = .ok (.bipush 48, 2) := by decide +kernel
theorem dX7_number_15 : decode cX7_number 15 = .ok (.bipush 57, 2) := by decide +kernel
theorem dX7_number_17 : decode cX7_number 17 = .ok (.invokevirtual 164, 3) := by decide +kernel
theorem dX7_number_20 : decode cX7_number 20 = .ok (.ifCond .eq 54, 3) := by decide +kernel
theorem dX7_number_23 : decode cX7_number 23 = .ok (.aload_n 0, 1) := by decide +kernel
theorem dX7_number_24 : decode cX7_number 24 = .ok (.getfield 161, 3) := by decide +kernel
theorem dX7_number_27 : decode cX7_number 27 = .ok (.iload_n 2, 1) := by decide +kernel
theorem dX7_number_28 : decode cX7_number 28 = .ok (.isub, 1) := by decide +kernel
theorem dX7_number_29 : decode cX7_number 29 = .ok (.iconst 3, 1) := by decide +kernel
theorem dX7_number_30 : decode cX7_number 30 = .ok (.if_icmp .ge 44, 3) := by decide +kernel
theorem dX7_number_33 : decode cX7_number 33 = .ok (.aload_n 0, 1) := by decide +kernel
theorem dX7_number_34 : decode cX7_number 34 = .ok (.getfield 32, 3) := by decide +kernel
theorem dX7_number_37 : decode cX7_number 37 = .ok (.iload_n 1, 1) := by decide +kernel
theorem dX7_number_38 : decode cX7_number 38 = .ok (.bipush 10, 2) := by decide +kernel
theorem dX7_number_40 : decode cX7_number 40 = .ok (.aload_n 0, 1) := by decide +kernel
theorem dX7_number_41 : decode cX7_number 41 = .ok (.getfield 32, 3) := by decide +kernel
theorem dX7_number_44 : decode cX7_number 44 = .ok (.iload_n 1, 1) := by decide +kernel
theorem dX7_number_45 : decode cX7_number 45 = .ok (.iaload, 1) := by decide +kernel
theorem dX7_number_46 : decode cX7_number 46 = .ok (.imul, 1) := by decide +kernel
theorem dX7_number_47 : decode cX7_number 47 = .ok (.aload_n 0, 1) := by decide +kernel
theorem dX7_number_48 : decode cX7_number 48 = .ok (.getfield 22, 3) := by decide +kernel
theorem dX7_number_51 : decode cX7_number 51 = .ok (.aload_n 0, 1) := by decide +kernel
theorem dX7_number_52 : decode cX7_number 52 = .ok (.getfield 161, 3) := by decide +kernel
theorem dX7_number_55 : decode cX7_number 55 = .ok (.iaload, 1) := by decide +kernel
theorem dX7_number_56 : decode cX7_number 56 = .ok (.iadd, 1) := by decide +kernel
theorem dX7_number_57 : decode cX7_number 57 = .ok (.bipush 48, 2) := by decide +kernel
theorem dX7_number_59 : decode cX7_number 59 = .ok (.isub, 1) := by decide +kernel
theorem dX7_number_60 : decode cX7_number 60 = .ok (.iastore, 1) := by decide +kernel
theorem dX7_number_61 : decode cX7_number 61 = .ok (.aload_n 0, 1) := by decide +kernel
theorem dX7_number_62 : decode cX7_number 62 = .ok (.dup, 1) := by decide +kernel
theorem dX7_number_63 : decode cX7_number 63 = .ok (.getfield 161, 3) := by decide +kernel
theorem dX7_number_66 : decode cX7_number 66 = .ok (.iconst 1, 1) := by decide +kernel
theorem dX7_number_67 : decode cX7_number 67 = .ok (.iadd, 1) := by decide +kernel
theorem dX7_number_68 : decode cX7_number 68 = .ok (.putfield 161, 3) := by decide +kernel
theorem dX7_number_71 : decode cX7_number 71 = .ok (.goto (-59), 3) := by decide +kernel
theorem dX7_number_74 : decode cX7_number 74 = .ok (.aload_n 0, 1) := by decide +kernel
theorem dX7_number_75 : decode cX7_number 75 = .ok (.getfield 161, 3) := by decide +kernel
theorem dX7_number_78 : decode cX7_number 78 = .ok (.iload_n 2, 1) := by decide +kernel
theorem dX7_number_79 : decode cX7_number 79 = .ok (.if_icmp .le 7, 3) := by decide +kernel
theorem dX7_number_82 : decode cX7_number 82 = .ok (.iconst 1, 1) := by decide +kernel
theorem dX7_number_83 : decode cX7_number 83 = .ok (.goto 4, 3) := by decide +kernel
theorem dX7_number_86 : decode cX7_number 86 = .ok (.iconst 0, 1) := by decide +kernel
theorem dX7_number_87 : decode cX7_number 87 = .ok (.ireturn, 1) := by decide +kernel
theorem dX7_reads_0 : decode cX7_reads 0 = .ok (.aload_n 0, 1) := by decide +kernel
theorem dX7_reads_1 : decode cX7_reads 1 = .ok (.invokevirtual 169, 3) := by decide +kernel
theorem dX7_reads_4 : decode cX7_reads 4 = .ok (.istore_n 1, 1) := by decide +kernel
theorem dX7_reads_5 : decode cX7_reads 5 = .ok (.iload_n 1, 1) := by decide +kernel
theorem dX7_reads_6 : decode cX7_reads 6 = .ok (.ifCond .lt 7, 3) := by decide +kernel
theorem dX7_reads_9 : decode cX7_reads 9 = .ok (.iconst 1, 1) := by decide +kernel
theorem dX7_reads_10 : decode cX7_reads 10 = .ok (.goto 4, 3) := by decide +kernel
theorem dX7_reads_13 : decode cX7_reads 13 = .ok (.iconst 0, 1) := by decide +kernel
theorem dX7_reads_14 : decode cX7_reads 14 = .ok (.istore_n 2, 1) := by decide +kernel
theorem dX7_reads_15 : decode cX7_reads 15 = .ok (.iconst 0, 1) := by decide +kernel
theorem dX7_reads_16 : decode cX7_reads 16 = .ok (.istore_n 3, 1) := by decide +kernel
theorem dX7_reads_17 : decode cX7_reads 17 = .ok (.iload_n 2, 1) := by decide +kernel
theorem dX7_reads_18 : decode cX7_reads 18 = .ok (.ifCond .eq 42, 3) := by decide +kernel
theorem dX7_reads_21 : decode cX7_reads 21 = .ok (.iload_n 3, 1) := by decide +kernel
theorem dX7_reads_22 : decode cX7_reads 22 = .ok (.aload_n 0, 1) := by decide +kernel
theorem dX7_reads_23 : decode cX7_reads 23 = .ok (.getfield 29, 3) := by decide +kernel
theorem dX7_reads_26 : decode cX7_reads 26 = .ok (.iload_n 1, 1) := by decide +kernel
theorem dX7_reads_27 : decode cX7_reads 27 = .ok (.iaload, 1) := by decide +kernel
theorem dX7_reads_28 : decode cX7_reads 28 = .ok (.if_icmp .ge 32, 3) := by decide +kernel
theorem dX7_reads_31 : decode cX7_reads 31 = .ok (.aload_n 0, 1) := by decide +kernel
theorem dX7_reads_32 : decode cX7_reads 32 = .ok (.bipush 32, 2) := by decide +kernel
theorem dX7_reads_34 : decode cX7_reads 34 = .ok (.invokevirtual 172, 3) := by decide +kernel
theorem dX7_reads_37 : decode cX7_reads 37 = .ok (.ifCond .eq 15, 3) := by decide +kernel
theorem dX7_reads_40 : decode cX7_reads 40 = .ok (.aload_n 0, 1) := by decide +kernel
theorem dX7_reads_41 : decode cX7_reads 41 = .ok (.iload_n 3, 1) := by decide +kernel
theorem dX7_reads_42 : decode cX7_reads 42 = .ok (.invokevirtual 175, 3) := by decide +kernel
theorem dX7_reads_45 : decode cX7_reads 45 = .ok (.ifCond .eq 7, 3) := by decide +kernel
theorem dX7_reads_48 : decode cX7_reads 48 = .ok (.iconst 1, 1) := by decide +kernel
theorem dX7_reads_49 : decode cX7_reads 49 = .ok (.goto 4, 3) := by decide +kernel
theorem dX7_reads_52 : decode cX7_reads 52 = .ok (.iconst 0, 1) := by decide +kernel
theorem dX7_reads_53 : decode cX7_reads 53 = .ok (.istore_n 2, 1) := by decide +kernel
theorem dX7_reads_54 : decode cX7_reads 54 = .ok (.iinc 3 1, 3) := by decide +kernel
theorem dX7_reads_57 : decode cX7_reads 57 = .ok (.goto (-40), 3) := by decide +kernel
theorem dX7_reads_60 : decode cX7_reads 60 = .ok (.iload_n 2, 1) := by decide +kernel
theorem dX7_reads_61 : decode cX7_reads 61 = .ok (.ifCond .eq 16, 3) := by decide +kernel
theorem dX7_reads_64 : decode cX7_reads 64 = .ok (.aload_n 0, 1) := by decide +kernel
theorem dX7_reads_65 : decode cX7_reads 65 = .ok (.bipush 59, 2) := by decide +kernel
theorem dX7_reads_67 : decode cX7_reads 67 = .ok (.invokevirtual 172, 3) := by decide +kernel
theorem dX7_reads_70 : decode cX7_reads 70 = .ok (.ifCond .eq 7, 3) := by decide +kernel
theorem dX7_reads_73 : decode cX7_reads 73 = .ok (.iload_n 1, 1) := by decide +kernel
theorem dX7_reads_74 : decode cX7_reads 74 = .ok (.goto 5, 3) := by decide +kernel
theorem dX7_reads_77 : decode cX7_reads 77 = .ok (.ldc 69, 2) := by decide +kernel
theorem dX7_reads_79 : decode cX7_reads 79 = .ok (.ireturn, 1) := by decide +kernel
theorem dX7_calls_0 : decode cX7_calls 0 = .ok (.iload_n 1, 1) := by decide +kernel
theorem dX7_calls_1 : decode cX7_calls 1 = .ok (.tableswitch 165 0 5 #[39, 56, 79, 90, 113, 130], 39) := by decide +kernel
theorem dX7_calls_40 : decode cX7_calls 40 = .ok (.aload_n 0, 1) := by decide +kernel
theorem dX7_calls_41 : decode cX7_calls 41 = .ok (.aload_n 0, 1) := by decide +kernel
theorem dX7_calls_42 : decode cX7_calls 42 = .ok (.getfield 32, 3) := by decide +kernel
theorem dX7_calls_45 : decode cX7_calls 45 = .ok (.iconst 0, 1) := by decide +kernel
theorem dX7_calls_46 : decode cX7_calls 46 = .ok (.iaload, 1) := by decide +kernel
theorem dX7_calls_47 : decode cX7_calls 47 = .ok (.aload_n 0, 1) := by decide +kernel
theorem dX7_calls_48 : decode cX7_calls 48 = .ok (.getfield 32, 3) := by decide +kernel
theorem dX7_calls_51 : decode cX7_calls 51 = .ok (.iconst 1, 1) := by decide +kernel
theorem dX7_calls_52 : decode cX7_calls 52 = .ok (.iaload, 1) := by decide +kernel
theorem dX7_calls_53 : decode cX7_calls 53 = .ok (.invokevirtual 178, 3) := by decide +kernel
theorem dX7_calls_56 : decode cX7_calls 56 = .ok (.ireturn, 1) := by decide +kernel
theorem dX7_calls_57 : decode cX7_calls 57 = .ok (.aload_n 0, 1) := by decide +kernel
theorem dX7_calls_58 : decode cX7_calls 58 = .ok (.aload_n 0, 1) := by decide +kernel
theorem dX7_calls_59 : decode cX7_calls 59 = .ok (.getfield 32, 3) := by decide +kernel
theorem dX7_calls_62 : decode cX7_calls 62 = .ok (.iconst 0, 1) := by decide +kernel
theorem dX7_calls_63 : decode cX7_calls 63 = .ok (.iaload, 1) := by decide +kernel
theorem dX7_calls_64 : decode cX7_calls 64 = .ok (.aload_n 0, 1) := by decide +kernel
theorem dX7_calls_65 : decode cX7_calls 65 = .ok (.getfield 32, 3) := by decide +kernel
theorem dX7_calls_68 : decode cX7_calls 68 = .ok (.iconst 1, 1) := by decide +kernel
theorem dX7_calls_69 : decode cX7_calls 69 = .ok (.iaload, 1) := by decide +kernel
theorem dX7_calls_70 : decode cX7_calls 70 = .ok (.aload_n 0, 1) := by decide +kernel
theorem dX7_calls_71 : decode cX7_calls 71 = .ok (.getfield 32, 3) := by decide +kernel
theorem dX7_calls_74 : decode cX7_calls 74 = .ok (.iconst 2, 1) := by decide +kernel
theorem dX7_calls_75 : decode cX7_calls 75 = .ok (.iaload, 1) := by decide +kernel
theorem dX7_calls_76 : decode cX7_calls 76 = .ok (.invokevirtual 181, 3) := by decide +kernel
theorem dX7_calls_79 : decode cX7_calls 79 = .ok (.ireturn, 1) := by decide +kernel
theorem dX7_calls_80 : decode cX7_calls 80 = .ok (.aload_n 0, 1) := by decide +kernel
theorem dX7_calls_81 : decode cX7_calls 81 = .ok (.aload_n 0, 1) := by decide +kernel
theorem dX7_calls_82 : decode cX7_calls 82 = .ok (.getfield 32, 3) := by decide +kernel
theorem dX7_calls_85 : decode cX7_calls 85 = .ok (.iconst 0, 1) := by decide +kernel
theorem dX7_calls_86 : decode cX7_calls 86 = .ok (.iaload, 1) := by decide +kernel
theorem dX7_calls_87 : decode cX7_calls 87 = .ok (.invokevirtual 184, 3) := by decide +kernel
theorem dX7_calls_90 : decode cX7_calls 90 = .ok (.ireturn, 1) := by decide +kernel
theorem dX7_calls_91 : decode cX7_calls 91 = .ok (.aload_n 0, 1) := by decide +kernel
theorem dX7_calls_92 : decode cX7_calls 92 = .ok (.aload_n 0, 1) := by decide +kernel
theorem dX7_calls_93 : decode cX7_calls 93 = .ok (.getfield 32, 3) := by decide +kernel
theorem dX7_calls_96 : decode cX7_calls 96 = .ok (.iconst 0, 1) := by decide +kernel
theorem dX7_calls_97 : decode cX7_calls 97 = .ok (.iaload, 1) := by decide +kernel
theorem dX7_calls_98 : decode cX7_calls 98 = .ok (.aload_n 0, 1) := by decide +kernel
theorem dX7_calls_99 : decode cX7_calls 99 = .ok (.getfield 32, 3) := by decide +kernel
theorem dX7_calls_102 : decode cX7_calls 102 = .ok (.iconst 1, 1) := by decide +kernel
theorem dX7_calls_103 : decode cX7_calls 103 = .ok (.iaload, 1) := by decide +kernel
theorem dX7_calls_104 : decode cX7_calls 104 = .ok (.aload_n 0, 1) := by decide +kernel
theorem dX7_calls_105 : decode cX7_calls 105 = .ok (.getfield 32, 3) := by decide +kernel
theorem dX7_calls_108 : decode cX7_calls 108 = .ok (.iconst 2, 1) := by decide +kernel
theorem dX7_calls_109 : decode cX7_calls 109 = .ok (.iaload, 1) := by decide +kernel
theorem dX7_calls_110 : decode cX7_calls 110 = .ok (.invokevirtual 187, 3) := by decide +kernel
theorem dX7_calls_113 : decode cX7_calls 113 = .ok (.ireturn, 1) := by decide +kernel
theorem dX7_calls_114 : decode cX7_calls 114 = .ok (.aload_n 0, 1) := by decide +kernel
theorem dX7_calls_115 : decode cX7_calls 115 = .ok (.aload_n 0, 1) := by decide +kernel
theorem dX7_calls_116 : decode cX7_calls 116 = .ok (.getfield 32, 3) := by decide +kernel
theorem dX7_calls_119 : decode cX7_calls 119 = .ok (.iconst 0, 1) := by decide +kernel
theorem dX7_calls_120 : decode cX7_calls 120 = .ok (.iaload, 1) := by decide +kernel
theorem dX7_calls_121 : decode cX7_calls 121 = .ok (.aload_n 0, 1) := by decide +kernel
theorem dX7_calls_122 : decode cX7_calls 122 = .ok (.getfield 32, 3) := by decide +kernel
theorem dX7_calls_125 : decode cX7_calls 125 = .ok (.iconst 1, 1) := by decide +kernel
theorem dX7_calls_126 : decode cX7_calls 126 = .ok (.iaload, 1) := by decide +kernel
theorem dX7_calls_127 : decode cX7_calls 127 = .ok (.invokevirtual 190, 3) := by decide +kernel
theorem dX7_calls_130 : decode cX7_calls 130 = .ok (.ireturn, 1) := by decide +kernel
theorem dX7_calls_131 : decode cX7_calls 131 = .ok (.aload_n 0, 1) := by decide +kernel
theorem dX7_calls_132 : decode cX7_calls 132 = .ok (.aload_n 0, 1) := by decide +kernel
theorem dX7_calls_133 : decode cX7_calls 133 = .ok (.getfield 32, 3) := by decide +kernel
theorem dX7_calls_136 : decode cX7_calls 136 = .ok (.iconst 0, 1) := by decide +kernel
theorem dX7_calls_137 : decode cX7_calls 137 = .ok (.iaload, 1) := by decide +kernel
theorem dX7_calls_138 : decode cX7_calls 138 = .ok (.aload_n 0, 1) := by decide +kernel
theorem dX7_calls_139 : decode cX7_calls 139 = .ok (.getfield 32, 3) := by decide +kernel
theorem dX7_calls_142 : decode cX7_calls 142 = .ok (.iconst 1, 1) := by decide +kernel
theorem dX7_calls_143 : decode cX7_calls 143 = .ok (.iaload, 1) := by decide +kernel
theorem dX7_calls_144 : decode cX7_calls 144 = .ok (.aload_n 0, 1) := by decide +kernel
theorem dX7_calls_145 : decode cX7_calls 145 = .ok (.getfield 32, 3) := by decide +kernel
theorem dX7_calls_148 : decode cX7_calls 148 = .ok (.iconst 2, 1) := by decide +kernel
theorem dX7_calls_149 : decode cX7_calls 149 = .ok (.iaload, 1) := by decide +kernel
theorem dX7_calls_150 : decode cX7_calls 150 = .ok (.aload_n 0, 1) := by decide +kernel
theorem dX7_calls_151 : decode cX7_calls 151 = .ok (.getfield 32, 3) := by decide +kernel
theorem dX7_calls_154 : decode cX7_calls 154 = .ok (.iconst 3, 1) := by decide +kernel
theorem dX7_calls_155 : decode cX7_calls 155 = .ok (.iaload, 1) := by decide +kernel
theorem dX7_calls_156 : decode cX7_calls 156 = .ok (.aload_n 0, 1) := by decide +kernel
theorem dX7_calls_157 : decode cX7_calls 157 = .ok (.getfield 32, 3) := by decide +kernel
theorem dX7_calls_160 : decode cX7_calls 160 = .ok (.iconst 4, 1) := by decide +kernel
theorem dX7_calls_161 : decode cX7_calls 161 = .ok (.iaload, 1) := by decide +kernel
theorem dX7_calls_162 : decode cX7_calls 162 = .ok (.invokevirtual 193, 3) := by decide +kernel
theorem dX7_calls_165 : decode cX7_calls 165 = .ok (.ireturn, 1) := by decide +kernel
theorem dX7_calls_166 : decode cX7_calls 166 = .ok (.aload_n 0, 1) := by decide +kernel
theorem dX7_calls_167 : decode cX7_calls 167 = .ok (.aload_n 0, 1) := by decide +kernel
theorem dX7_calls_168 : decode cX7_calls 168 = .ok (.getfield 32, 3) := by decide +kernel
theorem dX7_calls_171 : decode cX7_calls 171 = .ok (.iconst 0, 1) := by decide +kernel
theorem dX7_calls_172 : decode cX7_calls 172 = .ok (.iaload, 1) := by decide +kernel
theorem dX7_calls_173 : decode cX7_calls 173 = .ok (.invokevirtual 197, 3) := by decide +kernel
theorem dX7_calls_176 : decode cX7_calls 176 = .ok (.ireturn, 1) := by decide +kernel
theorem dX7_plays_0 : decode cX7_plays 0 = .ok (.aload_n 0, 1) := by decide +kernel
theorem dX7_plays_1 : decode cX7_plays 1 = .ok (.iconst 1, 1) := by decide +kernel
theorem dX7_plays_2 : decode cX7_plays 2 = .ok (.putfield 49, 3) := by decide +kernel
theorem dX7_plays_5 : decode cX7_plays 5 = .ok (.aload_n 0, 1) := by decide +kernel
theorem dX7_plays_6 : decode cX7_plays 6 = .ok (.iconst 0, 1) := by decide +kernel
theorem dX7_plays_7 : decode cX7_plays 7 = .ok (.putfield 161, 3) := by decide +kernel
theorem dX7_plays_10 : decode cX7_plays 10 = .ok (.aload_n 0, 1) := by decide +kernel
theorem dX7_plays_11 : decode cX7_plays 11 = .ok (.iconst 0, 1) := by decide +kernel
theorem dX7_plays_12 : decode cX7_plays 12 = .ok (.putfield 200, 3) := by decide +kernel
theorem dX7_plays_15 : decode cX7_plays 15 = .ok (.aload_n 0, 1) := by decide +kernel
theorem dX7_plays_16 : decode cX7_plays 16 = .ok (.iconst 0, 1) := by decide +kernel
theorem dX7_plays_17 : decode cX7_plays 17 = .ok (.putfield 203, 3) := by decide +kernel
theorem dX7_plays_20 : decode cX7_plays 20 = .ok (.iconst 0, 1) := by decide +kernel
theorem dX7_plays_21 : decode cX7_plays 21 = .ok (.istore_n 1, 1) := by decide +kernel
theorem dX7_plays_22 : decode cX7_plays 22 = .ok (.aload_n 0, 1) := by decide +kernel
theorem dX7_plays_23 : decode cX7_plays 23 = .ok (.getfield 161, 3) := by decide +kernel
theorem dX7_plays_26 : decode cX7_plays 26 = .ok (.aload_n 0, 1) := by decide +kernel
theorem dX7_plays_27 : decode cX7_plays 27 = .ok (.getfield 153, 3) := by decide +kernel
theorem dX7_plays_30 : decode cX7_plays 30 = .ok (.if_icmp .ge 78, 3) := by decide +kernel
theorem dX7_plays_33 : decode cX7_plays 33 = .ok (.aload_n 0, 1) := by decide +kernel
theorem dX7_plays_34 : decode cX7_plays 34 = .ok (.getfield 203, 3) := by decide +kernel
theorem dX7_plays_37 : decode cX7_plays 37 = .ok (.ifCond .ne 71, 3) := by decide +kernel
theorem dX7_plays_40 : decode cX7_plays 40 = .ok (.aload_n 0, 1) := by decide +kernel
theorem dX7_plays_41 : decode cX7_plays 41 = .ok (.getfield 161, 3) := by decide +kernel
theorem dX7_plays_44 : decode cX7_plays 44 = .ok (.istore_n 1, 1) := by decide +kernel
theorem dX7_plays_45 : decode cX7_plays 45 = .ok (.aload_n 0, 1) := by decide +kernel
theorem dX7_plays_46 : decode cX7_plays 46 = .ok (.invokevirtual 206, 3) := by decide +kernel
theorem dX7_plays_49 : decode cX7_plays 49 = .ok (.istore_n 2, 1) := by decide +kernel
theorem dX7_plays_50 : decode cX7_plays 50 = .ok (.iload_n 2, 1) := by decide +kernel
theorem dX7_plays_51 : decode cX7_plays 51 = .ok (.ifCond .ge 7, 3) := by decide +kernel
theorem dX7_plays_54 : decode cX7_plays 54 = .ok (.iconst 0, 1) := by decide +kernel
theorem dX7_plays_55 : decode cX7_plays 55 = .ok (.goto 8, 3) := by decide +kernel
theorem dX7_plays_58 : decode cX7_plays 58 = .ok (.aload_n 0, 1) := by decide +kernel
theorem dX7_plays_59 : decode cX7_plays 59 = .ok (.iload_n 2, 1) := by decide +kernel
theorem dX7_plays_60 : decode cX7_plays 60 = .ok (.invokevirtual 209, 3) := by decide +kernel
theorem dX7_plays_63 : decode cX7_plays 63 = .ok (.istore_n 3, 1) := by decide +kernel
theorem dX7_plays_64 : decode cX7_plays 64 = .ok (.aload_n 0, 1) := by decide +kernel
theorem dX7_plays_65 : decode cX7_plays 65 = .ok (.iload_n 2, 1) := by decide +kernel
theorem dX7_plays_66 : decode cX7_plays 66 = .ok (.ifCond .ge 7, 3) := by decide +kernel
theorem dX7_plays_69 : decode cX7_plays 69 = .ok (.iconst 1, 1) := by decide +kernel
theorem dX7_plays_70 : decode cX7_plays 70 = .ok (.goto 22, 3) := by decide +kernel
theorem dX7_plays_73 : decode cX7_plays 73 = .ok (.iload_n 3, 1) := by decide +kernel
theorem dX7_plays_74 : decode cX7_plays 74 = .ok (.ifCond .lt 7, 3) := by decide +kernel
theorem dX7_plays_77 : decode cX7_plays 77 = .ok (.iconst 0, 1) := by decide +kernel
theorem dX7_plays_78 : decode cX7_plays 78 = .ok (.goto 14, 3) := by decide +kernel
theorem dX7_plays_81 : decode cX7_plays 81 = .ok (.iload_n 3, 1) := by decide +kernel
theorem dX7_plays_82 : decode cX7_plays 82 = .ok (.ldc 74, 2) := by decide +kernel
theorem dX7_plays_84 : decode cX7_plays 84 = .ok (.if_icmp .ne 7, 3) := by decide +kernel
theorem dX7_plays_87 : decode cX7_plays 87 = .ok (.iconst 2, 1) := by decide +kernel
theorem dX7_plays_88 : decode cX7_plays 88 = .ok (.goto 4, 3) := by decide +kernel
theorem dX7_plays_91 : decode cX7_plays 91 = .ok (.iconst 3, 1) := by decide +kernel
theorem dX7_plays_92 : decode cX7_plays 92 = .ok (.putfield 203, 3) := by decide +kernel
theorem dX7_plays_95 : decode cX7_plays 95 = .ok (.aload_n 0, 1) := by decide +kernel
theorem dX7_plays_96 : decode cX7_plays 96 = .ok (.dup, 1) := by decide +kernel
theorem dX7_plays_97 : decode cX7_plays 97 = .ok (.getfield 200, 3) := by decide +kernel
theorem dX7_plays_100 : decode cX7_plays 100 = .ok (.iconst 1, 1) := by decide +kernel
theorem dX7_plays_101 : decode cX7_plays 101 = .ok (.iadd, 1) := by decide +kernel
theorem dX7_plays_102 : decode cX7_plays 102 = .ok (.putfield 200, 3) := by decide +kernel
theorem dX7_plays_105 : decode cX7_plays 105 = .ok (.goto (-83), 3) := by decide +kernel
theorem dX7_plays_108 : decode cX7_plays 108 = .ok (.aload_n 0, 1) := by decide +kernel
theorem dX7_plays_109 : decode cX7_plays 109 = .ok (.iconst 0, 1) := by decide +kernel
theorem dX7_plays_110 : decode cX7_plays 110 = .ok (.putfield 49, 3) := by decide +kernel
theorem dX7_plays_113 : decode cX7_plays 113 = .ok (.aload_n 0, 1) := by decide +kernel
theorem dX7_plays_114 : decode cX7_plays 114 = .ok (.getfield 203, 3) := by decide +kernel
theorem dX7_plays_117 : decode cX7_plays 117 = .ok (.ifCond .ne 8, 3) := by decide +kernel
theorem dX7_plays_120 : decode cX7_plays 120 = .ok (.ldc 69, 2) := by decide +kernel
theorem dX7_plays_122 : decode cX7_plays 122 = .ok (.goto 4, 3) := by decide +kernel
theorem dX7_plays_125 : decode cX7_plays 125 = .ok (.iload_n 1, 1) := by decide +kernel
theorem dX7_plays_126 : decode cX7_plays 126 = .ok (.ireturn, 1) := by decide +kernel
theorem dX7_fault_0 : decode cX7_fault 0 = .ok (.iload_n 1, 1) := by decide +kernel
theorem dX7_fault_1 : decode cX7_fault 1 = .ok (.iconst 0, 1) := by decide +kernel
theorem dX7_fault_2 : decode cX7_fault 2 = .ok (.iconst 1, 1) := by decide +kernel
theorem dX7_fault_3 : decode cX7_fault 3 = .ok (.invokestatic 70, 3) := by decide +kernel
theorem dX7_fault_6 : decode cX7_fault 6 = .ok (.ifCond .ne 6, 3) := by decide +kernel
theorem dX7_fault_9 : decode cX7_fault 9 = .ok (.ldc 74, 2) := by decide +kernel
theorem dX7_fault_11 : decode cX7_fault 11 = .ok (.ireturn, 1) := by decide +kernel
theorem dX7_fault_12 : decode cX7_fault 12 = .ok (.aload_n 0, 1) := by decide +kernel
theorem dX7_fault_13 : decode cX7_fault 13 = .ok (.getfield 7, 3) := by decide +kernel
theorem dX7_fault_16 : decode cX7_fault 16 = .ok (.aload_n 0, 1) := by decide +kernel
theorem dX7_fault_17 : decode cX7_fault 17 = .ok (.getfield 16, 3) := by decide +kernel
theorem dX7_fault_20 : decode cX7_fault 20 = .ok (.invokestatic 156, 3) := by decide +kernel
theorem dX7_fault_23 : decode cX7_fault 23 = .ok (.aload_n 0, 1) := by decide +kernel
theorem dX7_fault_24 : decode cX7_fault 24 = .ok (.invokevirtual 212, 3) := by decide +kernel
theorem dX7_fault_27 : decode cX7_fault 27 = .ok (.istore_n 2, 1) := by decide +kernel
theorem dX7_fault_28 : decode cX7_fault 28 = .ok (.aload_n 0, 1) := by decide +kernel
theorem dX7_fault_29 : decode cX7_fault 29 = .ok (.getfield 16, 3) := by decide +kernel
theorem dX7_fault_32 : decode cX7_fault 32 = .ok (.aload_n 0, 1) := by decide +kernel
theorem dX7_fault_33 : decode cX7_fault 33 = .ok (.getfield 7, 3) := by decide +kernel
theorem dX7_fault_36 : decode cX7_fault 36 = .ok (.invokestatic 156, 3) := by decide +kernel
theorem dX7_fault_39 : decode cX7_fault 39 = .ok (.iload_n 2, 1) := by decide +kernel
theorem dX7_fault_40 : decode cX7_fault 40 = .ok (.ldc 69, 2) := by decide +kernel
theorem dX7_fault_42 : decode cX7_fault 42 = .ok (.if_icmp .eq 7, 3) := by decide +kernel
theorem dX7_fault_45 : decode cX7_fault 45 = .ok (.iload_n 1, 1) := by decide +kernel
theorem dX7_fault_46 : decode cX7_fault 46 = .ok (.ifCond .ne 7, 3) := by decide +kernel
theorem dX7_fault_49 : decode cX7_fault 49 = .ok (.iload_n 2, 1) := by decide +kernel
theorem dX7_fault_50 : decode cX7_fault 50 = .ok (.goto 7, 3) := by decide +kernel
theorem dX7_fault_53 : decode cX7_fault 53 = .ok (.aload_n 0, 1) := by decide +kernel
theorem dX7_fault_54 : decode cX7_fault 54 = .ok (.getfield 203, 3) := by decide +kernel
theorem dX7_fault_57 : decode cX7_fault 57 = .ok (.ireturn, 1) := by decide +kernel
theorem dX7_play_0 : decode cX7_play 0 = .ok (.aload_n 0, 1) := by decide +kernel
theorem dX7_play_1 : decode cX7_play 1 = .ok (.getfield 7, 3) := by decide +kernel
theorem dX7_play_4 : decode cX7_play 4 = .ok (.aload_n 0, 1) := by decide +kernel
theorem dX7_play_5 : decode cX7_play 5 = .ok (.getfield 16, 3) := by decide +kernel
theorem dX7_play_8 : decode cX7_play 8 = .ok (.invokestatic 156, 3) := by decide +kernel
theorem dX7_play_11 : decode cX7_play 11 = .ok (.aload_n 0, 1) := by decide +kernel
theorem dX7_play_12 : decode cX7_play 12 = .ok (.invokevirtual 212, 3) := by decide +kernel
theorem dX7_play_15 : decode cX7_play 15 = .ok (.istore_n 1, 1) := by decide +kernel
theorem dX7_play_16 : decode cX7_play 16 = .ok (.aload_n 0, 1) := by decide +kernel
theorem dX7_play_17 : decode cX7_play 17 = .ok (.getfield 16, 3) := by decide +kernel
theorem dX7_play_20 : decode cX7_play 20 = .ok (.aload_n 0, 1) := by decide +kernel
theorem dX7_play_21 : decode cX7_play 21 = .ok (.getfield 7, 3) := by decide +kernel
theorem dX7_play_24 : decode cX7_play 24 = .ok (.invokestatic 156, 3) := by decide +kernel
theorem dX7_play_27 : decode cX7_play 27 = .ok (.iload_n 1, 1) := by decide +kernel
theorem dX7_play_28 : decode cX7_play 28 = .ok (.ldc 69, 2) := by decide +kernel
theorem dX7_play_30 : decode cX7_play 30 = .ok (.if_icmp .eq 6, 3) := by decide +kernel
theorem dX7_play_33 : decode cX7_play 33 = .ok (.ldc 83, 2) := by decide +kernel
theorem dX7_play_35 : decode cX7_play 35 = .ok (.ireturn, 1) := by decide +kernel
theorem dX7_play_36 : decode cX7_play 36 = .ok (.aload_n 0, 1) := by decide +kernel
theorem dX7_play_37 : decode cX7_play 37 = .ok (.invokevirtual 76, 3) := by decide +kernel
theorem dX7_play_40 : decode cX7_play 40 = .ok (.aload_n 0, 1) := by decide +kernel
theorem dX7_play_41 : decode cX7_play 41 = .ok (.invokevirtual 212, 3) := by decide +kernel
theorem dX7_play_44 : decode cX7_play 44 = .ok (.ldc 69, 2) := by decide +kernel
theorem dX7_play_46 : decode cX7_play 46 = .ok (.if_icmp .ne 10, 3) := by decide +kernel
theorem dX7_play_49 : decode cX7_play 49 = .ok (.aload_n 0, 1) := by decide +kernel
theorem dX7_play_50 : decode cX7_play 50 = .ok (.getfield 200, 3) := by decide +kernel
theorem dX7_play_53 : decode cX7_play 53 = .ok (.goto 5, 3) := by decide +kernel
theorem dX7_play_56 : decode cX7_play 56 = .ok (.ldc 69, 2) := by decide +kernel
theorem dX7_play_58 : decode cX7_play 58 = .ok (.ireturn, 1) := by decide +kernel
end
section
theorem dX0_init_0 : decode cX0_init 0 = .ok (.aload_n 0, 1) := by decide +kernel
theorem dX0_init_1 : decode cX0_init 1 = .ok (.invokespecial 3, 3) := by decide +kernel
theorem dX0_init_4 : decode cX0_init 4 = .ok (.aload_n 0, 1) := by decide +kernel
theorem dX0_init_5 : decode cX0_init 5 = .ok (.iload_n 1, 1) := by decide +kernel
theorem dX0_init_6 : decode cX0_init 6 = .ok (.putfield 9, 3) := by decide +kernel
theorem dX0_init_9 : decode cX0_init 9 = .ok (.return_, 1) := by decide +kernel
theorem dX0_copyFrom_0 : decode cX0_copyFrom 0 = .ok (.aload_n 0, 1) := by decide +kernel
theorem dX0_copyFrom_1 : decode cX0_copyFrom 1 = .ok (.aload_n 1, 1) := by decide +kernel
theorem dX0_copyFrom_2 : decode cX0_copyFrom 2 = .ok (.invokevirtual 15, 3) := by decide +kernel
theorem dX0_copyFrom_5 : decode cX0_copyFrom 5 = .ok (.aload_n 0, 1) := by decide +kernel
theorem dX0_copyFrom_6 : decode cX0_copyFrom 6 = .ok (.aload_n 1, 1) := by decide +kernel
theorem dX0_copyFrom_7 : decode cX0_copyFrom 7 = .ok (.getfield 19, 3) := by decide +kernel
theorem dX0_copyFrom_10 : decode cX0_copyFrom 10 = .ok (.putfield 19, 3) := by decide +kernel
theorem dX0_copyFrom_13 : decode cX0_copyFrom 13 = .ok (.aload_n 0, 1) := by decide +kernel
theorem dX0_copyFrom_14 : decode cX0_copyFrom 14 = .ok (.aload_n 1, 1) := by decide +kernel
theorem dX0_copyFrom_15 : decode cX0_copyFrom 15 = .ok (.getfield 22, 3) := by decide +kernel
theorem dX0_copyFrom_18 : decode cX0_copyFrom 18 = .ok (.putfield 22, 3) := by decide +kernel
theorem dX0_copyFrom_21 : decode cX0_copyFrom 21 = .ok (.aload_n 0, 1) := by decide +kernel
theorem dX0_copyFrom_22 : decode cX0_copyFrom 22 = .ok (.aload_n 1, 1) := by decide +kernel
theorem dX0_copyFrom_23 : decode cX0_copyFrom 23 = .ok (.getfield 25, 3) := by decide +kernel
theorem dX0_copyFrom_26 : decode cX0_copyFrom 26 = .ok (.putfield 25, 3) := by decide +kernel
theorem dX0_copyFrom_29 : decode cX0_copyFrom 29 = .ok (.aload_n 0, 1) := by decide +kernel
theorem dX0_copyFrom_30 : decode cX0_copyFrom 30 = .ok (.aload_n 1, 1) := by decide +kernel
theorem dX0_copyFrom_31 : decode cX0_copyFrom 31 = .ok (.getfield 28, 3) := by decide +kernel
theorem dX0_copyFrom_34 : decode cX0_copyFrom 34 = .ok (.putfield 28, 3) := by decide +kernel
theorem dX0_copyFrom_37 : decode cX0_copyFrom 37 = .ok (.return_, 1) := by decide +kernel
theorem dX0_copyFreight_0 : decode cX0_copyFreight 0 = .ok (.aload_n 0, 1) := by decide +kernel
theorem dX0_copyFreight_1 : decode cX0_copyFreight 1 = .ok (.aload_n 1, 1) := by decide +kernel
theorem dX0_copyFreight_2 : decode cX0_copyFreight 2 = .ok (.getfield 31, 3) := by decide +kernel
theorem dX0_copyFreight_5 : decode cX0_copyFreight 5 = .ok (.putfield 31, 3) := by decide +kernel
theorem dX0_copyFreight_8 : decode cX0_copyFreight 8 = .ok (.aload_n 0, 1) := by decide +kernel
theorem dX0_copyFreight_9 : decode cX0_copyFreight 9 = .ok (.aload_n 1, 1) := by decide +kernel
theorem dX0_copyFreight_10 : decode cX0_copyFreight 10 = .ok (.getfield 34, 3) := by decide +kernel
theorem dX0_copyFreight_13 : decode cX0_copyFreight 13 = .ok (.putfield 34, 3) := by decide +kernel
theorem dX0_copyFreight_16 : decode cX0_copyFreight 16 = .ok (.aload_n 0, 1) := by decide +kernel
theorem dX0_copyFreight_17 : decode cX0_copyFreight 17 = .ok (.aload_n 1, 1) := by decide +kernel
theorem dX0_copyFreight_18 : decode cX0_copyFreight 18 = .ok (.getfield 37, 3) := by decide +kernel
theorem dX0_copyFreight_21 : decode cX0_copyFreight 21 = .ok (.putfield 37, 3) := by decide +kernel
theorem dX0_copyFreight_24 : decode cX0_copyFreight 24 = .ok (.aload_n 0, 1) := by decide +kernel
theorem dX0_copyFreight_25 : decode cX0_copyFreight 25 = .ok (.aload_n 1, 1) := by decide +kernel
theorem dX0_copyFreight_26 : decode cX0_copyFreight 26 = .ok (.getfield 40, 3) := by decide +kernel
theorem dX0_copyFreight_29 : decode cX0_copyFreight 29 = .ok (.putfield 40, 3) := by decide +kernel
theorem dX0_copyFreight_32 : decode cX0_copyFreight 32 = .ok (.aload_n 0, 1) := by decide +kernel
theorem dX0_copyFreight_33 : decode cX0_copyFreight 33 = .ok (.aload_n 1, 1) := by decide +kernel
theorem dX0_copyFreight_34 : decode cX0_copyFreight 34 = .ok (.getfield 43, 3) := by decide +kernel
theorem dX0_copyFreight_37 : decode cX0_copyFreight 37 = .ok (.putfield 43, 3) := by decide +kernel
theorem dX0_copyFreight_40 : decode cX0_copyFreight 40 = .ok (.aload_n 0, 1) := by decide +kernel
theorem dX0_copyFreight_41 : decode cX0_copyFreight 41 = .ok (.aload_n 1, 1) := by decide +kernel
theorem dX0_copyFreight_42 : decode cX0_copyFreight 42 = .ok (.getfield 46, 3) := by decide +kernel
theorem dX0_copyFreight_45 : decode cX0_copyFreight 45 = .ok (.putfield 46, 3) := by decide +kernel
theorem dX0_copyFreight_48 : decode cX0_copyFreight 48 = .ok (.aload_n 0, 1) := by decide +kernel
theorem dX0_copyFreight_49 : decode cX0_copyFreight 49 = .ok (.aload_n 1, 1) := by decide +kernel
theorem dX0_copyFreight_50 : decode cX0_copyFreight 50 = .ok (.getfield 49, 3) := by decide +kernel
theorem dX0_copyFreight_53 : decode cX0_copyFreight 53 = .ok (.putfield 49, 3) := by decide +kernel
theorem dX0_copyFreight_56 : decode cX0_copyFreight 56 = .ok (.aload_n 0, 1) := by decide +kernel
theorem dX0_copyFreight_57 : decode cX0_copyFreight 57 = .ok (.aload_n 1, 1) := by decide +kernel
theorem dX0_copyFreight_58 : decode cX0_copyFreight 58 = .ok (.getfield 52, 3) := by decide +kernel
theorem dX0_copyFreight_61 : decode cX0_copyFreight 61 = .ok (.putfield 52, 3) := by decide +kernel
theorem dX0_copyFreight_64 : decode cX0_copyFreight 64 = .ok (.return_, 1) := by decide +kernel
theorem dX0_startInHall_0 : decode cX0_startInHall 0 = .ok (.aload_n 0, 1) := by decide +kernel
theorem dX0_startInHall_1 : decode cX0_startInHall 1 = .ok (.iconst 0, 1) := by decide +kernel
theorem dX0_startInHall_2 : decode cX0_startInHall 2 = .ok (.putfield 19, 3) := by decide +kernel
theorem dX0_startInHall_5 : decode cX0_startInHall 5 = .ok (.aload_n 0, 1) := by decide +kernel
theorem dX0_startInHall_6 : decode cX0_startInHall 6 = .ok (.iconst (-1), 1) := by decide +kernel
theorem dX0_startInHall_7 : decode cX0_startInHall 7 = .ok (.putfield 22, 3) := by decide +kernel
theorem dX0_startInHall_10 : decode cX0_startInHall 10 = .ok (.aload_n 0, 1) := by decide +kernel
theorem dX0_startInHall_11 : decode cX0_startInHall 11 = .ok (.iconst (-1), 1) := by decide +kernel
theorem dX0_startInHall_12 : decode cX0_startInHall 12 = .ok (.putfield 25, 3) := by decide +kernel
theorem dX0_startInHall_15 : decode cX0_startInHall 15 = .ok (.aload_n 0, 1) := by decide +kernel
theorem dX0_startInHall_16 : decode cX0_startInHall 16 = .ok (.iconst (-1), 1) := by decide +kernel
theorem dX0_startInHall_17 : decode cX0_startInHall 17 = .ok (.putfield 28, 3) := by decide +kernel
theorem dX0_startInHall_20 : decode cX0_startInHall 20 = .ok (.return_, 1) := by decide +kernel
theorem dX0_isInHall_0 : decode cX0_isInHall 0 = .ok (.aload_n 0, 1) := by decide +kernel
theorem dX0_isInHall_1 : decode cX0_isInHall 1 = .ok (.getfield 19, 3) := by decide +kernel
theorem dX0_isInHall_4 : decode cX0_isInHall 4 = .ok (.ifCond .eq 11, 3) := by decide +kernel
theorem dX0_isInHall_7 : decode cX0_isInHall 7 = .ok (.aload_n 0, 1) := by decide +kernel
theorem dX0_isInHall_8 : decode cX0_isInHall 8 = .ok (.getfield 19, 3) := by decide +kernel
theorem dX0_isInHall_11 : decode cX0_isInHall 11 = .ok (.iconst 1, 1) := by decide +kernel
theorem dX0_isInHall_12 : decode cX0_isInHall 12 = .ok (.if_icmp .ne 7, 3) := by decide +kernel
theorem dX0_isInHall_15 : decode cX0_isInHall 15 = .ok (.iconst 1, 1) := by decide +kernel
theorem dX0_isInHall_16 : decode cX0_isInHall 16 = .ok (.goto 4, 3) := by decide +kernel
theorem dX0_isInHall_19 : decode cX0_isInHall 19 = .ok (.iconst 0, 1) := by decide +kernel
theorem dX0_isInHall_20 : decode cX0_isInHall 20 = .ok (.ireturn, 1) := by decide +kernel
theorem dX0_isIn_0 : decode cX0_isIn 0 = .ok (.aload_n 0, 1) := by decide +kernel
theorem dX0_isIn_1 : decode cX0_isIn 1 = .ok (.getfield 22, 3) := by decide +kernel
theorem dX0_isIn_4 : decode cX0_isIn 4 = .ok (.aload_n 1, 1) := by decide +kernel
theorem dX0_isIn_5 : decode cX0_isIn 5 = .ok (.getfield 55, 3) := by decide +kernel
theorem dX0_isIn_8 : decode cX0_isIn 8 = .ok (.if_icmp .ne 23, 3) := by decide +kernel
theorem dX0_isIn_11 : decode cX0_isIn 11 = .ok (.aload_n 0, 1) := by decide +kernel
theorem dX0_isIn_12 : decode cX0_isIn 12 = .ok (.getfield 19, 3) := by decide +kernel
theorem dX0_isIn_15 : decode cX0_isIn 15 = .ok (.iconst 1, 1) := by decide +kernel
theorem dX0_isIn_16 : decode cX0_isIn 16 = .ok (.if_icmp .eq 11, 3) := by decide +kernel
theorem dX0_isIn_19 : decode cX0_isIn 19 = .ok (.aload_n 0, 1) := by decide +kernel
theorem dX0_isIn_20 : decode cX0_isIn 20 = .ok (.getfield 19, 3) := by decide +kernel
theorem dX0_isIn_23 : decode cX0_isIn 23 = .ok (.iconst 2, 1) := by decide +kernel
theorem dX0_isIn_24 : decode cX0_isIn 24 = .ok (.if_icmp .ne 7, 3) := by decide +kernel
theorem dX0_isIn_27 : decode cX0_isIn 27 = .ok (.iconst 1, 1) := by decide +kernel
theorem dX0_isIn_28 : decode cX0_isIn 28 = .ok (.goto 4, 3) := by decide +kernel
theorem dX0_isIn_31 : decode cX0_isIn 31 = .ok (.iconst 0, 1) := by decide +kernel
theorem dX0_isIn_32 : decode cX0_isIn 32 = .ok (.ireturn, 1) := by decide +kernel
theorem dX0_comesAheadOf_0 : decode cX0_comesAheadOf 0 = .ok (.iload_n 2, 1) := by decide +kernel
theorem dX0_comesAheadOf_1 : decode cX0_comesAheadOf 1 = .ok (.lookupswitch 61 #[(0, 27), (1, 44)], 27) := by decide +kernel
theorem dX0_comesAheadOf_28 : decode cX0_comesAheadOf 28 = .ok (.aload_n 0, 1) := by decide +kernel
theorem dX0_comesAheadOf_29 : decode cX0_comesAheadOf 29 = .ok (.getfield 43, 3) := by decide +kernel
theorem dX0_comesAheadOf_32 : decode cX0_comesAheadOf 32 = .ok (.aload_n 1, 1) := by decide +kernel
theorem dX0_comesAheadOf_33 : decode cX0_comesAheadOf 33 = .ok (.getfield 43, 3) := by decide +kernel
theorem dX0_comesAheadOf_36 : decode cX0_comesAheadOf 36 = .ok (.if_icmp .ge 7, 3) := by decide +kernel
theorem dX0_comesAheadOf_39 : decode cX0_comesAheadOf 39 = .ok (.iconst 1, 1) := by decide +kernel
theorem dX0_comesAheadOf_40 : decode cX0_comesAheadOf 40 = .ok (.goto 4, 3) := by decide +kernel
theorem dX0_comesAheadOf_43 : decode cX0_comesAheadOf 43 = .ok (.iconst 0, 1) := by decide +kernel
theorem dX0_comesAheadOf_44 : decode cX0_comesAheadOf 44 = .ok (.ireturn, 1) := by decide +kernel
theorem dX0_comesAheadOf_45 : decode cX0_comesAheadOf 45 = .ok (.aload_n 0, 1) := by decide +kernel
theorem dX0_comesAheadOf_46 : decode cX0_comesAheadOf 46 = .ok (.getfield 46, 3) := by decide +kernel
theorem dX0_comesAheadOf_49 : decode cX0_comesAheadOf 49 = .ok (.aload_n 1, 1) := by decide +kernel
theorem dX0_comesAheadOf_50 : decode cX0_comesAheadOf 50 = .ok (.getfield 46, 3) := by decide +kernel
theorem dX0_comesAheadOf_53 : decode cX0_comesAheadOf 53 = .ok (.if_icmp .le 7, 3) := by decide +kernel
theorem dX0_comesAheadOf_56 : decode cX0_comesAheadOf 56 = .ok (.iconst 1, 1) := by decide +kernel
theorem dX0_comesAheadOf_57 : decode cX0_comesAheadOf 57 = .ok (.goto 4, 3) := by decide +kernel
theorem dX0_comesAheadOf_60 : decode cX0_comesAheadOf 60 = .ok (.iconst 0, 1) := by decide +kernel
theorem dX0_comesAheadOf_61 : decode cX0_comesAheadOf 61 = .ok (.ireturn, 1) := by decide +kernel
theorem dX0_comesAheadOf_62 : decode cX0_comesAheadOf 62 = .ok (.aload_n 0, 1) := by decide +kernel
theorem dX0_comesAheadOf_63 : decode cX0_comesAheadOf 63 = .ok (.getfield 46, 3) := by decide +kernel
theorem dX0_comesAheadOf_66 : decode cX0_comesAheadOf 66 = .ok (.aload_n 1, 1) := by decide +kernel
theorem dX0_comesAheadOf_67 : decode cX0_comesAheadOf 67 = .ok (.getfield 34, 3) := by decide +kernel
theorem dX0_comesAheadOf_70 : decode cX0_comesAheadOf 70 = .ok (.imul, 1) := by decide +kernel
theorem dX0_comesAheadOf_71 : decode cX0_comesAheadOf 71 = .ok (.aload_n 1, 1) := by decide +kernel
theorem dX0_comesAheadOf_72 : decode cX0_comesAheadOf 72 = .ok (.getfield 46, 3) := by decide +kernel
theorem dX0_comesAheadOf_75 : decode cX0_comesAheadOf 75 = .ok (.aload_n 0, 1) := by decide +kernel
theorem dX0_comesAheadOf_76 : decode cX0_comesAheadOf 76 = .ok (.getfield 34, 3) := by decide +kernel
theorem dX0_comesAheadOf_79 : decode cX0_comesAheadOf 79 = .ok (.imul, 1) := by decide +kernel
theorem dX0_comesAheadOf_80 : decode cX0_comesAheadOf 80 = .ok (.if_icmp .le 7, 3) := by decide +kernel
theorem dX0_comesAheadOf_83 : decode cX0_comesAheadOf 83 = .ok (.iconst 1, 1) := by decide +kernel
theorem dX0_comesAheadOf_84 : decode cX0_comesAheadOf 84 = .ok (.goto 4, 3) := by decide +kernel
theorem dX0_comesAheadOf_87 : decode cX0_comesAheadOf 87 = .ok (.iconst 0, 1) := by decide +kernel
theorem dX0_comesAheadOf_88 : decode cX0_comesAheadOf 88 = .ok (.ireturn, 1) := by decide +kernel
theorem dX1_init_0 : decode cX1_init 0 = .ok (.aload_n 0, 1) := by decide +kernel
theorem dX1_init_1 : decode cX1_init 1 = .ok (.invokespecial 3, 3) := by decide +kernel
theorem dX1_init_4 : decode cX1_init 4 = .ok (.aload_n 0, 1) := by decide +kernel
theorem dX1_init_5 : decode cX1_init 5 = .ok (.bipush 16, 2) := by decide +kernel
theorem dX1_init_7 : decode cX1_init 7 = .ok (.anewarray 9, 3) := by decide +kernel
theorem dX1_init_10 : decode cX1_init 10 = .ok (.putfield 11, 3) := by decide +kernel
theorem dX1_init_13 : decode cX1_init 13 = .ok (.aload_n 0, 1) := by decide +kernel
theorem dX1_init_14 : decode cX1_init 14 = .ok (.iconst 4, 1) := by decide +kernel
theorem dX1_init_15 : decode cX1_init 15 = .ok (.anewarray 17, 3) := by decide +kernel
theorem dX1_init_18 : decode cX1_init 18 = .ok (.putfield 19, 3) := by decide +kernel
theorem dX1_init_21 : decode cX1_init 21 = .ok (.aload_n 0, 1) := by decide +kernel
theorem dX1_init_22 : decode cX1_init 22 = .ok (.bipush 10, 2) := by decide +kernel
theorem dX1_init_24 : decode cX1_init 24 = .ok (.anewarray 23, 3) := by decide +kernel
theorem dX1_init_27 : decode cX1_init 27 = .ok (.putfield 25, 3) := by decide +kernel
theorem dX1_init_30 : decode cX1_init 30 = .ok (.aload_n 0, 1) := by decide +kernel
theorem dX1_init_31 : decode cX1_init 31 = .ok (.iconst 3, 1) := by decide +kernel
theorem dX1_init_32 : decode cX1_init 32 = .ok (.newarray .int, 2) := by decide +kernel
theorem dX1_init_34 : decode cX1_init 34 = .ok (.dup, 1) := by decide +kernel
theorem dX1_init_35 : decode cX1_init 35 = .ok (.iconst 0, 1) := by decide +kernel
theorem dX1_init_36 : decode cX1_init 36 = .ok (.iconst 3, 1) := by decide +kernel
theorem dX1_init_37 : decode cX1_init 37 = .ok (.iastore, 1) := by decide +kernel
theorem dX1_init_38 : decode cX1_init 38 = .ok (.dup, 1) := by decide +kernel
theorem dX1_init_39 : decode cX1_init 39 = .ok (.iconst 1, 1) := by decide +kernel
theorem dX1_init_40 : decode cX1_init 40 = .ok (.bipush 8, 2) := by decide +kernel
theorem dX1_init_42 : decode cX1_init 42 = .ok (.iastore, 1) := by decide +kernel
theorem dX1_init_43 : decode cX1_init 43 = .ok (.dup, 1) := by decide +kernel
theorem dX1_init_44 : decode cX1_init 44 = .ok (.iconst 2, 1) := by decide +kernel
theorem dX1_init_45 : decode cX1_init 45 = .ok (.iconst 1, 1) := by decide +kernel
theorem dX1_init_46 : decode cX1_init 46 = .ok (.iastore, 1) := by decide +kernel
theorem dX1_init_47 : decode cX1_init 47 = .ok (.putfield 29, 3) := by decide +kernel
theorem dX1_init_50 : decode cX1_init 50 = .ok (.iconst 0, 1) := by decide +kernel
theorem dX1_init_51 : decode cX1_init 51 = .ok (.istore_n 1, 1) := by decide +kernel
theorem dX1_init_52 : decode cX1_init 52 = .ok (.iload_n 1, 1) := by decide +kernel
theorem dX1_init_53 : decode cX1_init 53 = .ok (.bipush 16, 2) := by decide +kernel
theorem dX1_init_55 : decode cX1_init 55 = .ok (.if_icmp .ge 23, 3) := by decide +kernel
theorem dX1_init_58 : decode cX1_init 58 = .ok (.aload_n 0, 1) := by decide +kernel
theorem dX1_init_59 : decode cX1_init 59 = .ok (.getfield 11, 3) := by decide +kernel
theorem dX1_init_62 : decode cX1_init 62 = .ok (.iload_n 1, 1) := by decide +kernel
theorem dX1_init_63 : decode cX1_init 63 = .ok (.new 9, 3) := by decide +kernel
theorem dX1_init_66 : decode cX1_init 66 = .ok (.dup, 1) := by decide +kernel
theorem dX1_init_67 : decode cX1_init 67 = .ok (.iload_n 1, 1) := by decide +kernel
theorem dX1_init_68 : decode cX1_init 68 = .ok (.invokespecial 33, 3) := by decide +kernel
theorem dX1_init_71 : decode cX1_init 71 = .ok (.aastore, 1) := by decide +kernel
theorem dX1_init_72 : decode cX1_init 72 = .ok (.iinc 1 1, 3) := by decide +kernel
theorem dX1_init_75 : decode cX1_init 75 = .ok (.goto (-23), 3) := by decide +kernel
theorem dX1_init_78 : decode cX1_init 78 = .ok (.iconst 0, 1) := by decide +kernel
theorem dX1_init_79 : decode cX1_init 79 = .ok (.istore_n 1, 1) := by decide +kernel
theorem dX1_init_80 : decode cX1_init 80 = .ok (.iload_n 1, 1) := by decide +kernel
theorem dX1_init_81 : decode cX1_init 81 = .ok (.iconst 4, 1) := by decide +kernel
theorem dX1_init_82 : decode cX1_init 82 = .ok (.if_icmp .ge 23, 3) := by decide +kernel
theorem dX1_init_85 : decode cX1_init 85 = .ok (.aload_n 0, 1) := by decide +kernel
theorem dX1_init_86 : decode cX1_init 86 = .ok (.getfield 19, 3) := by decide +kernel
theorem dX1_init_89 : decode cX1_init 89 = .ok (.iload_n 1, 1) := by decide +kernel
theorem dX1_init_90 : decode cX1_init 90 = .ok (.new 17, 3) := by decide +kernel
theorem dX1_init_93 : decode cX1_init 93 = .ok (.dup, 1) := by decide +kernel
theorem dX1_init_94 : decode cX1_init 94 = .ok (.iload_n 1, 1) := by decide +kernel
theorem dX1_init_95 : decode cX1_init 95 = .ok (.invokespecial 36, 3) := by decide +kernel
theorem dX1_init_98 : decode cX1_init 98 = .ok (.aastore, 1) := by decide +kernel
theorem dX1_init_99 : decode cX1_init 99 = .ok (.iinc 1 1, 3) := by decide +kernel
theorem dX1_init_102 : decode cX1_init 102 = .ok (.goto (-22), 3) := by decide +kernel
theorem dX1_init_105 : decode cX1_init 105 = .ok (.iconst 0, 1) := by decide +kernel
theorem dX1_init_106 : decode cX1_init 106 = .ok (.istore_n 1, 1) := by decide +kernel
theorem dX1_init_107 : decode cX1_init 107 = .ok (.iload_n 1, 1) := by decide +kernel
theorem dX1_init_108 : decode cX1_init 108 = .ok (.bipush 10, 2) := by decide +kernel
theorem dX1_init_110 : decode cX1_init 110 = .ok (.if_icmp .ge 22, 3) := by decide +kernel
theorem dX1_init_113 : decode cX1_init 113 = .ok (.aload_n 0, 1) := by decide +kernel
theorem dX1_init_114 : decode cX1_init 114 = .ok (.getfield 25, 3) := by decide +kernel
theorem dX1_init_117 : decode cX1_init 117 = .ok (.iload_n 1, 1) := by decide +kernel
theorem dX1_init_118 : decode cX1_init 118 = .ok (.new 23, 3) := by decide +kernel
theorem dX1_init_121 : decode cX1_init 121 = .ok (.dup, 1) := by decide +kernel
theorem dX1_init_122 : decode cX1_init 122 = .ok (.invokespecial 37, 3) := by decide +kernel
theorem dX1_init_125 : decode cX1_init 125 = .ok (.aastore, 1) := by decide +kernel
theorem dX1_init_126 : decode cX1_init 126 = .ok (.iinc 1 1, 3) := by decide +kernel
theorem dX1_init_129 : decode cX1_init 129 = .ok (.goto (-22), 3) := by decide +kernel
theorem dX1_init_132 : decode cX1_init 132 = .ok (.return_, 1) := by decide +kernel
theorem dX1_copyFrom_0 : decode cX1_copyFrom 0 = .ok (.aload_n 0, 1) := by decide +kernel
theorem dX1_copyFrom_1 : decode cX1_copyFrom 1 = .ok (.aload_n 1, 1) := by decide +kernel
theorem dX1_copyFrom_2 : decode cX1_copyFrom 2 = .ok (.getfield 38, 3) := by decide +kernel
theorem dX1_copyFrom_5 : decode cX1_copyFrom 5 = .ok (.putfield 38, 3) := by decide +kernel
theorem dX1_copyFrom_8 : decode cX1_copyFrom 8 = .ok (.aload_n 0, 1) := by decide +kernel
theorem dX1_copyFrom_9 : decode cX1_copyFrom 9 = .ok (.aload_n 1, 1) := by decide +kernel
theorem dX1_copyFrom_10 : decode cX1_copyFrom 10 = .ok (.getfield 42, 3) := by decide +kernel
theorem dX1_copyFrom_13 : decode cX1_copyFrom 13 = .ok (.putfield 42, 3) := by decide +kernel
theorem dX1_copyFrom_16 : decode cX1_copyFrom 16 = .ok (.aload_n 0, 1) := by decide +kernel
theorem dX1_copyFrom_17 : decode cX1_copyFrom 17 = .ok (.aload_n 1, 1) := by decide +kernel
theorem dX1_copyFrom_18 : decode cX1_copyFrom 18 = .ok (.getfield 45, 3) := by decide +kernel
theorem dX1_copyFrom_21 : decode cX1_copyFrom 21 = .ok (.putfield 45, 3) := by decide +kernel
theorem dX1_copyFrom_24 : decode cX1_copyFrom 24 = .ok (.aload_n 0, 1) := by decide +kernel
theorem dX1_copyFrom_25 : decode cX1_copyFrom 25 = .ok (.aload_n 1, 1) := by decide +kernel
theorem dX1_copyFrom_26 : decode cX1_copyFrom 26 = .ok (.getfield 48, 3) := by decide +kernel
theorem dX1_copyFrom_29 : decode cX1_copyFrom 29 = .ok (.putfield 48, 3) := by decide +kernel
theorem dX1_copyFrom_32 : decode cX1_copyFrom 32 = .ok (.aload_n 0, 1) := by decide +kernel
theorem dX1_copyFrom_33 : decode cX1_copyFrom 33 = .ok (.aload_n 1, 1) := by decide +kernel
theorem dX1_copyFrom_34 : decode cX1_copyFrom 34 = .ok (.getfield 51, 3) := by decide +kernel
theorem dX1_copyFrom_37 : decode cX1_copyFrom 37 = .ok (.putfield 51, 3) := by decide +kernel
theorem dX1_copyFrom_40 : decode cX1_copyFrom 40 = .ok (.aload_n 0, 1) := by decide +kernel
theorem dX1_copyFrom_41 : decode cX1_copyFrom 41 = .ok (.aload_n 1, 1) := by decide +kernel
theorem dX1_copyFrom_42 : decode cX1_copyFrom 42 = .ok (.getfield 54, 3) := by decide +kernel
theorem dX1_copyFrom_45 : decode cX1_copyFrom 45 = .ok (.putfield 54, 3) := by decide +kernel
theorem dX1_copyFrom_48 : decode cX1_copyFrom 48 = .ok (.aload_n 0, 1) := by decide +kernel
theorem dX1_copyFrom_49 : decode cX1_copyFrom 49 = .ok (.aload_n 1, 1) := by decide +kernel
theorem dX1_copyFrom_50 : decode cX1_copyFrom 50 = .ok (.getfield 57, 3) := by decide +kernel
theorem dX1_copyFrom_53 : decode cX1_copyFrom 53 = .ok (.putfield 57, 3) := by decide +kernel
theorem dX1_copyFrom_56 : decode cX1_copyFrom 56 = .ok (.aload_n 0, 1) := by decide +kernel
theorem dX1_copyFrom_57 : decode cX1_copyFrom 57 = .ok (.aload_n 1, 1) := by decide +kernel
theorem dX1_copyFrom_58 : decode cX1_copyFrom 58 = .ok (.getfield 60, 3) := by decide +kernel
theorem dX1_copyFrom_61 : decode cX1_copyFrom 61 = .ok (.putfield 60, 3) := by decide +kernel
theorem dX1_copyFrom_64 : decode cX1_copyFrom 64 = .ok (.aload_n 1, 1) := by decide +kernel
theorem dX1_copyFrom_65 : decode cX1_copyFrom 65 = .ok (.getfield 29, 3) := by decide +kernel
theorem dX1_copyFrom_68 : decode cX1_copyFrom 68 = .ok (.iconst 0, 1) := by decide +kernel
theorem dX1_copyFrom_69 : decode cX1_copyFrom 69 = .ok (.aload_n 0, 1) := by decide +kernel
theorem dX1_copyFrom_70 : decode cX1_copyFrom 70 = .ok (.getfield 29, 3) := by decide +kernel
theorem dX1_copyFrom_73 : decode cX1_copyFrom 73 = .ok (.iconst 0, 1) := by decide +kernel
theorem dX1_copyFrom_74 : decode cX1_copyFrom 74 = .ok (.iconst 3, 1) := by decide +kernel
theorem dX1_copyFrom_75 : decode cX1_copyFrom 75 = .ok (.invokestatic 63, 3) := by decide +kernel
theorem dX1_copyFrom_78 : decode cX1_copyFrom 78 = .ok (.iconst 0, 1) := by decide +kernel
theorem dX1_copyFrom_79 : decode cX1_copyFrom 79 = .ok (.istore_n 2, 1) := by decide +kernel
theorem dX1_copyFrom_80 : decode cX1_copyFrom 80 = .ok (.iload_n 2, 1) := by decide +kernel
theorem dX1_copyFrom_81 : decode cX1_copyFrom 81 = .ok (.aload_n 0, 1) := by decide +kernel
theorem dX1_copyFrom_82 : decode cX1_copyFrom 82 = .ok (.getfield 38, 3) := by decide +kernel
theorem dX1_copyFrom_85 : decode cX1_copyFrom 85 = .ok (.if_icmp .ge 24, 3) := by decide +kernel
theorem dX1_copyFrom_88 : decode cX1_copyFrom 88 = .ok (.aload_n 0, 1) := by decide +kernel
theorem dX1_copyFrom_89 : decode cX1_copyFrom 89 = .ok (.getfield 11, 3) := by decide +kernel
theorem dX1_copyFrom_92 : decode cX1_copyFrom 92 = .ok (.iload_n 2, 1) := by decide +kernel
theorem dX1_copyFrom_93 : decode cX1_copyFrom 93 = .ok (.aaload, 1) := by decide +kernel
theorem dX1_copyFrom_94 : decode cX1_copyFrom 94 = .ok (.aload_n 1, 1) := by decide +kernel
theorem dX1_copyFrom_95 : decode cX1_copyFrom 95 = .ok (.getfield 11, 3) := by decide +kernel
theorem dX1_copyFrom_98 : decode cX1_copyFrom 98 = .ok (.iload_n 2, 1) := by decide +kernel
theorem dX1_copyFrom_99 : decode cX1_copyFrom 99 = .ok (.aaload, 1) := by decide +kernel
theorem dX1_copyFrom_100 : decode cX1_copyFrom 100 = .ok (.invokevirtual 69, 3) := by decide +kernel
theorem dX1_copyFrom_103 : decode cX1_copyFrom 103 = .ok (.iinc 2 1, 3) := by decide +kernel
theorem dX1_copyFrom_106 : decode cX1_copyFrom 106 = .ok (.goto (-26), 3) := by decide +kernel
theorem dX1_copyFrom_109 : decode cX1_copyFrom 109 = .ok (.iconst 0, 1) := by decide +kernel
theorem dX1_copyFrom_110 : decode cX1_copyFrom 110 = .ok (.istore_n 2, 1) := by decide +kernel
theorem dX1_copyFrom_111 : decode cX1_copyFrom 111 = .ok (.iload_n 2, 1) := by decide +kernel
theorem dX1_copyFrom_112 : decode cX1_copyFrom 112 = .ok (.aload_n 0, 1) := by decide +kernel
theorem dX1_copyFrom_113 : decode cX1_copyFrom 113 = .ok (.getfield 42, 3) := by decide +kernel
theorem dX1_copyFrom_116 : decode cX1_copyFrom 116 = .ok (.if_icmp .ge 24, 3) := by decide +kernel
theorem dX1_copyFrom_119 : decode cX1_copyFrom 119 = .ok (.aload_n 0, 1) := by decide +kernel
theorem dX1_copyFrom_120 : decode cX1_copyFrom 120 = .ok (.getfield 19, 3) := by decide +kernel
theorem dX1_copyFrom_123 : decode cX1_copyFrom 123 = .ok (.iload_n 2, 1) := by decide +kernel
theorem dX1_copyFrom_124 : decode cX1_copyFrom 124 = .ok (.aaload, 1) := by decide +kernel
theorem dX1_copyFrom_125 : decode cX1_copyFrom 125 = .ok (.aload_n 1, 1) := by decide +kernel
theorem dX1_copyFrom_126 : decode cX1_copyFrom 126 = .ok (.getfield 19, 3) := by decide +kernel
theorem dX1_copyFrom_129 : decode cX1_copyFrom 129 = .ok (.iload_n 2, 1) := by decide +kernel
theorem dX1_copyFrom_130 : decode cX1_copyFrom 130 = .ok (.aaload, 1) := by decide +kernel
theorem dX1_copyFrom_131 : decode cX1_copyFrom 131 = .ok (.invokevirtual 73, 3) := by decide +kernel
theorem dX1_copyFrom_134 : decode cX1_copyFrom 134 = .ok (.iinc 2 1, 3) := by decide +kernel
theorem dX1_copyFrom_137 : decode cX1_copyFrom 137 = .ok (.goto (-26), 3) := by decide +kernel
theorem dX1_copyFrom_140 : decode cX1_copyFrom 140 = .ok (.iconst 0, 1) := by decide +kernel
theorem dX1_copyFrom_141 : decode cX1_copyFrom 141 = .ok (.istore_n 2, 1) := by decide +kernel
theorem dX1_copyFrom_142 : decode cX1_copyFrom 142 = .ok (.iload_n 2, 1) := by decide +kernel
theorem dX1_copyFrom_143 : decode cX1_copyFrom 143 = .ok (.aload_n 0, 1) := by decide +kernel
theorem dX1_copyFrom_144 : decode cX1_copyFrom 144 = .ok (.getfield 45, 3) := by decide +kernel
theorem dX1_copyFrom_147 : decode cX1_copyFrom 147 = .ok (.if_icmp .ge 24, 3) := by decide +kernel
theorem dX1_copyFrom_150 : decode cX1_copyFrom 150 = .ok (.aload_n 0, 1) := by decide +kernel
theorem dX1_copyFrom_151 : decode cX1_copyFrom 151 = .ok (.getfield 25, 3) := by decide +kernel
theorem dX1_copyFrom_154 : decode cX1_copyFrom 154 = .ok (.iload_n 2, 1) := by decide +kernel
theorem dX1_copyFrom_155 : decode cX1_copyFrom 155 = .ok (.aaload, 1) := by decide +kernel
theorem dX1_copyFrom_156 : decode cX1_copyFrom 156 = .ok (.aload_n 1, 1) := by decide +kernel
theorem dX1_copyFrom_157 : decode cX1_copyFrom 157 = .ok (.getfield 25, 3) := by decide +kernel
theorem dX1_copyFrom_160 : decode cX1_copyFrom 160 = .ok (.iload_n 2, 1) := by decide +kernel
theorem dX1_copyFrom_161 : decode cX1_copyFrom 161 = .ok (.aaload, 1) := by decide +kernel
theorem dX1_copyFrom_162 : decode cX1_copyFrom 162 = .ok (.invokevirtual 76, 3) := by decide +kernel
theorem dX1_copyFrom_165 : decode cX1_copyFrom 165 = .ok (.iinc 2 1, 3) := by decide +kernel
theorem dX1_copyFrom_168 : decode cX1_copyFrom 168 = .ok (.goto (-26), 3) := by decide +kernel
theorem dX1_copyFrom_171 : decode cX1_copyFrom 171 = .ok (.return_, 1) := by decide +kernel
theorem dX1_consignmentAt_0 : decode cX1_consignmentAt 0 = .ok (.iload_n 1, 1) := by decide +kernel
theorem dX1_consignmentAt_1 : decode cX1_consignmentAt 1 = .ok (.ifCond .lt 17, 3) := by decide +kernel
theorem dX1_consignmentAt_4 : decode cX1_consignmentAt 4 = .ok (.iload_n 1, 1) := by decide +kernel
theorem dX1_consignmentAt_5 : decode cX1_consignmentAt 5 = .ok (.aload_n 0, 1) := by decide +kernel
theorem dX1_consignmentAt_6 : decode cX1_consignmentAt 6 = .ok (.getfield 38, 3) := by decide +kernel
theorem dX1_consignmentAt_9 : decode cX1_consignmentAt 9 = .ok (.if_icmp .ge 9, 3) := by decide +kernel
theorem dX1_consignmentAt_12 : decode cX1_consignmentAt 12 = .ok (.iload_n 1, 1) := by decide +kernel
theorem dX1_consignmentAt_13 : decode cX1_consignmentAt 13 = .ok (.bipush 16, 2) := by decide +kernel
theorem dX1_consignmentAt_15 : decode cX1_consignmentAt 15 = .ok (.if_icmp .lt 5, 3) := by decide +kernel
theorem dX1_consignmentAt_18 : decode cX1_consignmentAt 18 = .ok (.aconst_null, 1) := by decide +kernel
theorem dX1_consignmentAt_19 : decode cX1_consignmentAt 19 = .ok (.areturn, 1) := by decide +kernel
theorem dX1_consignmentAt_20 : decode cX1_consignmentAt 20 = .ok (.aload_n 0, 1) := by decide +kernel
theorem dX1_consignmentAt_21 : decode cX1_consignmentAt 21 = .ok (.getfield 11, 3) := by decide +kernel
theorem dX1_consignmentAt_24 : decode cX1_consignmentAt 24 = .ok (.iload_n 1, 1) := by decide +kernel
theorem dX1_consignmentAt_25 : decode cX1_consignmentAt 25 = .ok (.aaload, 1) := by decide +kernel
theorem dX1_consignmentAt_26 : decode cX1_consignmentAt 26 = .ok (.getfield 79, 3) := by decide +kernel
theorem dX1_consignmentAt_29 : decode cX1_consignmentAt 29 = .ok (.iconst 5, 1) := by decide +kernel
theorem dX1_consignmentAt_30 : decode cX1_consignmentAt 30 = .ok (.if_icmp .ne 7, 3) := by decide +kernel
theorem dX1_consignmentAt_33 : decode cX1_consignmentAt 33 = .ok (.aconst_null, 1) := by decide +kernel
theorem dX1_consignmentAt_34 : decode cX1_consignmentAt 34 = .ok (.goto 9, 3) := by decide +kernel
theorem dX1_consignmentAt_37 : decode cX1_consignmentAt 37 = .ok (.aload_n 0, 1) := by decide +kernel
theorem dX1_consignmentAt_38 : decode cX1_consignmentAt 38 = .ok (.getfield 11, 3) := by decide +kernel
theorem dX1_consignmentAt_41 : decode cX1_consignmentAt 41 = .ok (.iload_n 1, 1) := by decide +kernel
theorem dX1_consignmentAt_42 : decode cX1_consignmentAt 42 = .ok (.aaload, 1) := by decide +kernel
theorem dX1_consignmentAt_43 : decode cX1_consignmentAt 43 = .ok (.areturn, 1) := by decide +kernel
theorem dX1_vehicleAt_0 : decode cX1_vehicleAt 0 = .ok (.iload_n 1, 1) := by decide +kernel
theorem dX1_vehicleAt_1 : decode cX1_vehicleAt 1 = .ok (.ifCond .lt 16, 3) := by decide +kernel
theorem dX1_vehicleAt_4 : decode cX1_vehicleAt 4 = .ok (.iload_n 1, 1) := by decide +kernel
theorem dX1_vehicleAt_5 : decode cX1_vehicleAt 5 = .ok (.aload_n 0, 1) := by decide +kernel
theorem dX1_vehicleAt_6 : decode cX1_vehicleAt 6 = .ok (.getfield 42, 3) := by decide +kernel
theorem dX1_vehicleAt_9 : decode cX1_vehicleAt 9 = .ok (.if_icmp .ge 8, 3) := by decide +kernel
theorem dX1_vehicleAt_12 : decode cX1_vehicleAt 12 = .ok (.iload_n 1, 1) := by decide +kernel
theorem dX1_vehicleAt_13 : decode cX1_vehicleAt 13 = .ok (.iconst 4, 1) := by decide +kernel
theorem dX1_vehicleAt_14 : decode cX1_vehicleAt 14 = .ok (.if_icmp .lt 5, 3) := by decide +kernel
theorem dX1_vehicleAt_17 : decode cX1_vehicleAt 17 = .ok (.aconst_null, 1) := by decide +kernel
theorem dX1_vehicleAt_18 : decode cX1_vehicleAt 18 = .ok (.areturn, 1) := by decide +kernel
theorem dX1_vehicleAt_19 : decode cX1_vehicleAt 19 = .ok (.aload_n 0, 1) := by decide +kernel
theorem dX1_vehicleAt_20 : decode cX1_vehicleAt 20 = .ok (.getfield 19, 3) := by decide +kernel
theorem dX1_vehicleAt_23 : decode cX1_vehicleAt 23 = .ok (.iload_n 1, 1) := by decide +kernel
theorem dX1_vehicleAt_24 : decode cX1_vehicleAt 24 = .ok (.aaload, 1) := by decide +kernel
theorem dX1_vehicleAt_25 : decode cX1_vehicleAt 25 = .ok (.areturn, 1) := by decide +kernel
theorem dX1_makeConsignment_0 : decode cX1_makeConsignment 0 = .ok (.aload_n 0, 1) := by decide +kernel
theorem dX1_makeConsignment_1 : decode cX1_makeConsignment 1 = .ok (.getfield 38, 3) := by decide +kernel
theorem dX1_makeConsignment_4 : decode cX1_makeConsignment 4 = .ok (.bipush 16, 2) := by decide +kernel
theorem dX1_makeConsignment_6 : decode cX1_makeConsignment 6 = .ok (.if_icmp .lt 6, 3) := by decide +kernel
theorem dX1_makeConsignment_9 : decode cX1_makeConsignment 9 = .ok (.ldc 82, 2) := by decide +kernel
theorem dX1_makeConsignment_11 : decode cX1_makeConsignment 11 = .ok (.ireturn, 1) := by decide +kernel
theorem dX1_makeConsignment_12 : decode cX1_makeConsignment 12 = .ok (.aload_n 0, 1) := by decide +kernel
theorem dX1_makeConsignment_13 : decode cX1_makeConsignment 13 = .ok (.getfield 11, 3) := by decide +kernel
theorem dX1_makeConsignment_16 : decode cX1_makeConsignment 16 = .ok (.aload_n 0, 1) := by decide +kernel
theorem dX1_makeConsignment_17 : decode cX1_makeConsignment 17 = .ok (.getfield 38, 3) := by decide +kernel
theorem dX1_makeConsignment_20 : decode cX1_makeConsignment 20 = .ok (.aaload, 1) := by decide +kernel
theorem dX1_makeConsignment_21 : decode cX1_makeConsignment 21 = .ok (.astore 7, 2) := by decide +kernel
theorem dX1_makeConsignment_23 : decode cX1_makeConsignment 23 = .ok (.aload 7, 2) := by decide +kernel
theorem dX1_makeConsignment_25 : decode cX1_makeConsignment 25 = .ok (.iload_n 1, 1) := by decide +kernel
theorem dX1_makeConsignment_26 : decode cX1_makeConsignment 26 = .ok (.putfield 83, 3) := by decide +kernel
theorem dX1_makeConsignment_29 : decode cX1_makeConsignment 29 = .ok (.aload 7, 2) := by decide +kernel
theorem dX1_makeConsignment_31 : decode cX1_makeConsignment 31 = .ok (.iload_n 2, 1) := by decide +kernel
theorem dX1_makeConsignment_32 : decode cX1_makeConsignment 32 = .ok (.putfield 86, 3) := by decide +kernel
theorem dX1_makeConsignment_35 : decode cX1_makeConsignment 35 = .ok (.aload 7, 2) := by decide +kernel
theorem dX1_makeConsignment_37 : decode cX1_makeConsignment 37 = .ok (.iload_n 3, 1) := by decide +kernel
theorem dX1_makeConsignment_38 : decode cX1_makeConsignment 38 = .ok (.putfield 89, 3) := by decide +kernel
theorem dX1_makeConsignment_41 : decode cX1_makeConsignment 41 = .ok (.aload 7, 2) := by decide +kernel
theorem dX1_makeConsignment_43 : decode cX1_makeConsignment 43 = .ok (.iload 4, 2) := by decide +kernel
theorem dX1_makeConsignment_45 : decode cX1_makeConsignment 45 = .ok (.putfield 92, 3) := by decide +kernel
theorem dX1_makeConsignment_48 : decode cX1_makeConsignment 48 = .ok (.aload 7, 2) := by decide +kernel
theorem dX1_makeConsignment_50 : decode cX1_makeConsignment 50 = .ok (.iload 5, 2) := by decide +kernel
theorem dX1_makeConsignment_52 : decode cX1_makeConsignment 52 = .ok (.putfield 95, 3) := by decide +kernel
theorem dX1_makeConsignment_55 : decode cX1_makeConsignment 55 = .ok (.aload 7, 2) := by decide +kernel
theorem dX1_makeConsignment_57 : decode cX1_makeConsignment 57 = .ok (.iload 6, 2) := by decide +kernel
theorem dX1_makeConsignment_59 : decode cX1_makeConsignment 59 = .ok (.putfield 98, 3) := by decide +kernel
theorem dX1_makeConsignment_62 : decode cX1_makeConsignment 62 = .ok (.aload 7, 2) := by decide +kernel
theorem dX1_makeConsignment_64 : decode cX1_makeConsignment 64 = .ok (.aload_n 0, 1) := by decide +kernel
theorem dX1_makeConsignment_65 : decode cX1_makeConsignment 65 = .ok (.getfield 48, 3) := by decide +kernel
theorem dX1_makeConsignment_68 : decode cX1_makeConsignment 68 = .ok (.putfield 101, 3) := by decide +kernel
theorem dX1_makeConsignment_71 : decode cX1_makeConsignment 71 = .ok (.aload 7, 2) := by decide +kernel
theorem dX1_makeConsignment_73 : decode cX1_makeConsignment 73 = .ok (.aload 7, 2) := by decide +kernel
theorem dX1_makeConsignment_75 : decode cX1_makeConsignment 75 = .ok (.getfield 104, 3) := by decide +kernel
theorem dX1_makeConsignment_78 : decode cX1_makeConsignment 78 = .ok (.putfield 107, 3) := by decide +kernel
theorem dX1_makeConsignment_81 : decode cX1_makeConsignment 81 = .ok (.aload 7, 2) := by decide +kernel
theorem dX1_makeConsignment_83 : decode cX1_makeConsignment 83 = .ok (.invokevirtual 110, 3) := by decide +kernel
theorem dX1_makeConsignment_86 : decode cX1_makeConsignment 86 = .ok (.aload_n 0, 1) := by decide +kernel
theorem dX1_makeConsignment_87 : decode cX1_makeConsignment 87 = .ok (.dup, 1) := by decide +kernel
theorem dX1_makeConsignment_88 : decode cX1_makeConsignment 88 = .ok (.getfield 38, 3) := by decide +kernel
theorem dX1_makeConsignment_91 : decode cX1_makeConsignment 91 = .ok (.iconst 1, 1) := by decide +kernel
theorem dX1_makeConsignment_92 : decode cX1_makeConsignment 92 = .ok (.iadd, 1) := by decide +kernel
theorem dX1_makeConsignment_93 : decode cX1_makeConsignment 93 = .ok (.putfield 38, 3) := by decide +kernel
theorem dX1_makeConsignment_96 : decode cX1_makeConsignment 96 = .ok (.aload 7, 2) := by decide +kernel
theorem dX1_makeConsignment_98 : decode cX1_makeConsignment 98 = .ok (.getfield 104, 3) := by decide +kernel
theorem dX1_makeConsignment_101 : decode cX1_makeConsignment 101 = .ok (.ireturn, 1) := by decide +kernel
theorem dX1_splitOff_0 : decode cX1_splitOff 0 = .ok (.aload_n 0, 1) := by decide +kernel
theorem dX1_splitOff_1 : decode cX1_splitOff 1 = .ok (.iload_n 1, 1) := by decide +kernel
theorem dX1_splitOff_2 : decode cX1_splitOff 2 = .ok (.invokevirtual 113, 3) := by decide +kernel
theorem dX1_splitOff_5 : decode cX1_splitOff 5 = .ok (.astore 4, 2) := by decide +kernel
theorem dX1_splitOff_7 : decode cX1_splitOff 7 = .ok (.aload 4, 2) := by decide +kernel
theorem dX1_splitOff_9 : decode cX1_splitOff 9 = .ok (.ifnull 33, 3) := by decide +kernel
theorem dX1_splitOff_12 : decode cX1_splitOff 12 = .ok (.iload_n 2, 1) := by decide +kernel
theorem dX1_splitOff_13 : decode cX1_splitOff 13 = .ok (.iconst 1, 1) := by decide +kernel
theorem dX1_splitOff_14 : decode cX1_splitOff 14 = .ok (.aload 4, 2) := by decide +kernel
theorem dX1_splitOff_16 : decode cX1_splitOff 16 = .ok (.getfield 86, 3) := by decide +kernel
theorem dX1_splitOff_19 : decode cX1_splitOff 19 = .ok (.iconst 1, 1) := by decide +kernel
theorem dX1_splitOff_20 : decode cX1_splitOff 20 = .ok (.isub, 1) := by decide +kernel
theorem dX1_splitOff_21 : decode cX1_splitOff 21 = .ok (.invokestatic 117, 3) := by decide +kernel
theorem dX1_splitOff_24 : decode cX1_splitOff 24 = .ok (.ifCond .eq 18, 3) := by decide +kernel
theorem dX1_splitOff_27 : decode cX1_splitOff 27 = .ok (.iload_n 3, 1) := by decide +kernel
theorem dX1_splitOff_28 : decode cX1_splitOff 28 = .ok (.iconst 1, 1) := by decide +kernel
theorem dX1_splitOff_29 : decode cX1_splitOff 29 = .ok (.aload 4, 2) := by decide +kernel
theorem dX1_splitOff_31 : decode cX1_splitOff 31 = .ok (.getfield 89, 3) := by decide +kernel
theorem dX1_splitOff_34 : decode cX1_splitOff 34 = .ok (.iconst 1, 1) := by decide +kernel
theorem dX1_splitOff_35 : decode cX1_splitOff 35 = .ok (.isub, 1) := by decide +kernel
theorem dX1_splitOff_36 : decode cX1_splitOff 36 = .ok (.invokestatic 117, 3) := by decide +kernel
theorem dX1_splitOff_39 : decode cX1_splitOff 39 = .ok (.ifCond .ne 6, 3) := by decide +kernel
theorem dX1_splitOff_42 : decode cX1_splitOff 42 = .ok (.ldc 121, 2) := by decide +kernel
theorem dX1_splitOff_44 : decode cX1_splitOff 44 = .ok (.ireturn, 1) := by decide +kernel
theorem dX1_splitOff_45 : decode cX1_splitOff 45 = .ok (.aload 4, 2) := by decide +kernel
theorem dX1_splitOff_47 : decode cX1_splitOff 47 = .ok (.getfield 79, 3) := by decide +kernel
theorem dX1_splitOff_50 : decode cX1_splitOff 50 = .ok (.ifCond .eq 6, 3) := by decide +kernel
theorem dX1_splitOff_53 : decode cX1_splitOff 53 = .ok (.ldc 122, 2) := by decide +kernel
theorem dX1_splitOff_55 : decode cX1_splitOff 55 = .ok (.ireturn, 1) := by decide +kernel
theorem dX1_splitOff_56 : decode cX1_splitOff 56 = .ok (.aload_n 0, 1) := by decide +kernel
theorem dX1_splitOff_57 : decode cX1_splitOff 57 = .ok (.getfield 38, 3) := by decide +kernel
theorem dX1_splitOff_60 : decode cX1_splitOff 60 = .ok (.bipush 16, 2) := by decide +kernel
theorem dX1_splitOff_62 : decode cX1_splitOff 62 = .ok (.if_icmp .lt 6, 3) := by decide +kernel
theorem dX1_splitOff_65 : decode cX1_splitOff 65 = .ok (.ldc 82, 2) := by decide +kernel
theorem dX1_splitOff_67 : decode cX1_splitOff 67 = .ok (.ireturn, 1) := by decide +kernel
theorem dX1_splitOff_68 : decode cX1_splitOff 68 = .ok (.aload_n 0, 1) := by decide +kernel
theorem dX1_splitOff_69 : decode cX1_splitOff 69 = .ok (.getfield 11, 3) := by decide +kernel
theorem dX1_splitOff_72 : decode cX1_splitOff 72 = .ok (.aload_n 0, 1) := by decide +kernel
theorem dX1_splitOff_73 : decode cX1_splitOff 73 = .ok (.getfield 38, 3) := by decide +kernel
theorem dX1_splitOff_76 : decode cX1_splitOff 76 = .ok (.aaload, 1) := by decide +kernel
theorem dX1_splitOff_77 : decode cX1_splitOff 77 = .ok (.astore 5, 2) := by decide +kernel
theorem dX1_splitOff_79 : decode cX1_splitOff 79 = .ok (.aload 5, 2) := by decide +kernel
theorem dX1_splitOff_81 : decode cX1_splitOff 81 = .ok (.aload 4, 2) := by decide +kernel
theorem dX1_splitOff_83 : decode cX1_splitOff 83 = .ok (.invokevirtual 123, 3) := by decide +kernel
theorem dX1_splitOff_86 : decode cX1_splitOff 86 = .ok (.aload 5, 2) := by decide +kernel
theorem dX1_splitOff_88 : decode cX1_splitOff 88 = .ok (.invokevirtual 110, 3) := by decide +kernel
theorem dX1_splitOff_91 : decode cX1_splitOff 91 = .ok (.aload 5, 2) := by decide +kernel
theorem dX1_splitOff_93 : decode cX1_splitOff 93 = .ok (.iload_n 2, 1) := by decide +kernel
theorem dX1_splitOff_94 : decode cX1_splitOff 94 = .ok (.putfield 86, 3) := by decide +kernel
theorem dX1_splitOff_97 : decode cX1_splitOff 97 = .ok (.aload 5, 2) := by decide +kernel
theorem dX1_splitOff_99 : decode cX1_splitOff 99 = .ok (.iload_n 3, 1) := by decide +kernel
theorem dX1_splitOff_100 : decode cX1_splitOff 100 = .ok (.putfield 89, 3) := by decide +kernel
theorem dX1_splitOff_103 : decode cX1_splitOff 103 = .ok (.aload 5, 2) := by decide +kernel
theorem dX1_splitOff_105 : decode cX1_splitOff 105 = .ok (.aload 4, 2) := by decide +kernel
theorem dX1_splitOff_107 : decode cX1_splitOff 107 = .ok (.getfield 98, 3) := by decide +kernel
theorem dX1_splitOff_110 : decode cX1_splitOff 110 = .ok (.iload_n 2, 1) := by decide +kernel
theorem dX1_splitOff_111 : decode cX1_splitOff 111 = .ok (.imul, 1) := by decide +kernel
theorem dX1_splitOff_112 : decode cX1_splitOff 112 = .ok (.aload 4, 2) := by decide +kernel
theorem dX1_splitOff_114 : decode cX1_splitOff 114 = .ok (.getfield 86, 3) := by decide +kernel
theorem dX1_splitOff_117 : decode cX1_splitOff 117 = .ok (.idiv, 1) := by decide +kernel
theorem dX1_splitOff_118 : decode cX1_splitOff 118 = .ok (.putfield 98, 3) := by decide +kernel
theorem dX1_splitOff_121 : decode cX1_splitOff 121 = .ok (.aload 4, 2) := by decide +kernel
theorem dX1_splitOff_123 : decode cX1_splitOff 123 = .ok (.dup, 1) := by decide +kernel
theorem dX1_splitOff_124 : decode cX1_splitOff 124 = .ok (.getfield 86, 3) := by decide +kernel
theorem dX1_splitOff_127 : decode cX1_splitOff 127 = .ok (.iload_n 2, 1) := by decide +kernel
theorem dX1_splitOff_128 : decode cX1_splitOff 128 = .ok (.isub, 1) := by decide +kernel
theorem dX1_splitOff_129 : decode cX1_splitOff 129 = .ok (.putfield 86, 3) := by decide +kernel
theorem dX1_splitOff_132 : decode cX1_splitOff 132 = .ok (.aload 4, 2) := by decide +kernel
theorem dX1_splitOff_134 : decode cX1_splitOff 134 = .ok (.dup, 1) := by decide +kernel
theorem dX1_splitOff_135 : decode cX1_splitOff 135 = .ok (.getfield 89, 3) := by decide +kernel
theorem dX1_splitOff_138 : decode cX1_splitOff 138 = .ok (.iload_n 3, 1) := by decide +kernel
theorem dX1_splitOff_139 : decode cX1_splitOff 139 = .ok (.isub, 1) := by decide +kernel
theorem dX1_splitOff_140 : decode cX1_splitOff 140 = .ok (.putfield 89, 3) := by decide +kernel
theorem dX1_splitOff_143 : decode cX1_splitOff 143 = .ok (.aload 4, 2) := by decide +kernel
theorem dX1_splitOff_145 : decode cX1_splitOff 145 = .ok (.dup, 1) := by decide +kernel
theorem dX1_splitOff_146 : decode cX1_splitOff 146 = .ok (.getfield 98, 3) := by decide +kernel
theorem dX1_splitOff_149 : decode cX1_splitOff 149 = .ok (.aload 5, 2) := by decide +kernel
theorem dX1_splitOff_151 : decode cX1_splitOff 151 = .ok (.getfield 98, 3) := by decide +kernel
theorem dX1_splitOff_154 : decode cX1_splitOff 154 = .ok (.isub, 1) := by decide +kernel
theorem dX1_splitOff_155 : decode cX1_splitOff 155 = .ok (.putfield 98, 3) := by decide +kernel
theorem dX1_splitOff_158 : decode cX1_splitOff 158 = .ok (.aload_n 0, 1) := by decide +kernel
theorem dX1_splitOff_159 : decode cX1_splitOff 159 = .ok (.dup, 1) := by decide +kernel
theorem dX1_splitOff_160 : decode cX1_splitOff 160 = .ok (.getfield 38, 3) := by decide +kernel
theorem dX1_splitOff_163 : decode cX1_splitOff 163 = .ok (.iconst 1, 1) := by decide +kernel
theorem dX1_splitOff_164 : decode cX1_splitOff 164 = .ok (.iadd, 1) := by decide +kernel
theorem dX1_splitOff_165 : decode cX1_splitOff 165 = .ok (.putfield 38, 3) := by decide +kernel
theorem dX1_splitOff_168 : decode cX1_splitOff 168 = .ok (.aload 5, 2) := by decide +kernel
theorem dX1_splitOff_170 : decode cX1_splitOff 170 = .ok (.getfield 104, 3) := by decide +kernel
theorem dX1_splitOff_173 : decode cX1_splitOff 173 = .ok (.ireturn, 1) := by decide +kernel
theorem dX1_joinParts_0 : decode cX1_joinParts 0 = .ok (.aload_n 0, 1) := by decide +kernel
theorem dX1_joinParts_1 : decode cX1_joinParts 1 = .ok (.iload_n 1, 1) := by decide +kernel
theorem dX1_joinParts_2 : decode cX1_joinParts 2 = .ok (.iload_n 2, 1) := by decide +kernel
theorem dX1_joinParts_3 : decode cX1_joinParts 3 = .ok (.invokestatic 126, 3) := by decide +kernel
theorem dX1_joinParts_6 : decode cX1_joinParts 6 = .ok (.invokevirtual 113, 3) := by decide +kernel
theorem dX1_joinParts_9 : decode cX1_joinParts 9 = .ok (.astore_n 3, 1) := by decide +kernel
theorem dX1_joinParts_10 : decode cX1_joinParts 10 = .ok (.aload_n 0, 1) := by decide +kernel
theorem dX1_joinParts_11 : decode cX1_joinParts 11 = .ok (.iload_n 1, 1) := by decide +kernel
theorem dX1_joinParts_12 : decode cX1_joinParts 12 = .ok (.iload_n 2, 1) := by decide +kernel
theorem dX1_joinParts_13 : decode cX1_joinParts 13 = .ok (.invokestatic 132, 3) := by decide +kernel
theorem dX1_joinParts_16 : decode cX1_joinParts 16 = .ok (.invokevirtual 113, 3) := by decide +kernel
theorem dX1_joinParts_19 : decode cX1_joinParts 19 = .ok (.astore 4, 2) := by decide +kernel
theorem dX1_joinParts_21 : decode cX1_joinParts 21 = .ok (.aload_n 3, 1) := by decide +kernel
theorem dX1_joinParts_22 : decode cX1_joinParts 22 = .ok (.ifnull 13, 3) := by decide +kernel
theorem dX1_joinParts_25 : decode cX1_joinParts 25 = .ok (.aload 4, 2) := by decide +kernel
theorem dX1_joinParts_27 : decode cX1_joinParts 27 = .ok (.ifnull 8, 3) := by decide +kernel
theorem dX1_joinParts_30 : decode cX1_joinParts 30 = .ok (.iload_n 1, 1) := by decide +kernel
theorem dX1_joinParts_31 : decode cX1_joinParts 31 = .ok (.iload_n 2, 1) := by decide +kernel
theorem dX1_joinParts_32 : decode cX1_joinParts 32 = .ok (.if_icmp .ne 6, 3) := by decide +kernel
theorem dX1_joinParts_35 : decode cX1_joinParts 35 = .ok (.ldc 121, 2) := by decide +kernel
theorem dX1_joinParts_37 : decode cX1_joinParts 37 = .ok (.ireturn, 1) := by decide +kernel
theorem dX1_joinParts_38 : decode cX1_joinParts 38 = .ok (.aload_n 3, 1) := by decide +kernel
theorem dX1_joinParts_39 : decode cX1_joinParts 39 = .ok (.getfield 107, 3) := by decide +kernel
theorem dX1_joinParts_42 : decode cX1_joinParts 42 = .ok (.aload 4, 2) := by decide +kernel
theorem dX1_joinParts_44 : decode cX1_joinParts 44 = .ok (.getfield 107, 3) := by decide +kernel
theorem dX1_joinParts_47 : decode cX1_joinParts 47 = .ok (.if_icmp .ne 18, 3) := by decide +kernel
theorem dX1_joinParts_50 : decode cX1_joinParts 50 = .ok (.aload_n 3, 1) := by decide +kernel
theorem dX1_joinParts_51 : decode cX1_joinParts 51 = .ok (.getfield 79, 3) := by decide +kernel
theorem dX1_joinParts_54 : decode cX1_joinParts 54 = .ok (.ifCond .ne 11, 3) := by decide +kernel
theorem dX1_joinParts_57 : decode cX1_joinParts 57 = .ok (.aload 4, 2) := by decide +kernel
theorem dX1_joinParts_59 : decode cX1_joinParts 59 = .ok (.getfield 79, 3) := by decide +kernel
theorem dX1_joinParts_62 : decode cX1_joinParts 62 = .ok (.ifCond .eq 6, 3) := by decide +kernel
theorem dX1_joinParts_65 : decode cX1_joinParts 65 = .ok (.ldc 122, 2) := by decide +kernel
theorem dX1_joinParts_67 : decode cX1_joinParts 67 = .ok (.ireturn, 1) := by decide +kernel
theorem dX1_joinParts_68 : decode cX1_joinParts 68 = .ok (.aload_n 3, 1) := by decide +kernel
theorem dX1_joinParts_69 : decode cX1_joinParts 69 = .ok (.dup, 1) := by decide +kernel
theorem dX1_joinParts_70 : decode cX1_joinParts 70 = .ok (.getfield 86, 3) := by decide +kernel
theorem dX1_joinParts_73 : decode cX1_joinParts 73 = .ok (.aload 4, 2) := by decide +kernel
theorem dX1_joinParts_75 : decode cX1_joinParts 75 = .ok (.getfield 86, 3) := by decide +kernel
theorem dX1_joinParts_78 : decode cX1_joinParts 78 = .ok (.iadd, 1) := by decide +kernel
theorem dX1_joinParts_79 : decode cX1_joinParts 79 = .ok (.putfield 86, 3) := by decide +kernel
theorem dX1_joinParts_82 : decode cX1_joinParts 82 = .ok (.aload_n 3, 1) := by decide +kernel
theorem dX1_joinParts_83 : decode cX1_joinParts 83 = .ok (.dup, 1) := by decide +kernel
theorem dX1_joinParts_84 : decode cX1_joinParts 84 = .ok (.getfield 89, 3) := by decide +kernel
theorem dX1_joinParts_87 : decode cX1_joinParts 87 = .ok (.aload 4, 2) := by decide +kernel
theorem dX1_joinParts_89 : decode cX1_joinParts 89 = .ok (.getfield 89, 3) := by decide +kernel
theorem dX1_joinParts_92 : decode cX1_joinParts 92 = .ok (.iadd, 1) := by decide +kernel
theorem dX1_joinParts_93 : decode cX1_joinParts 93 = .ok (.putfield 89, 3) := by decide +kernel
theorem dX1_joinParts_96 : decode cX1_joinParts 96 = .ok (.aload_n 3, 1) := by decide +kernel
theorem dX1_joinParts_97 : decode cX1_joinParts 97 = .ok (.dup, 1) := by decide +kernel
theorem dX1_joinParts_98 : decode cX1_joinParts 98 = .ok (.getfield 98, 3) := by decide +kernel
theorem dX1_joinParts_101 : decode cX1_joinParts 101 = .ok (.aload 4, 2) := by decide +kernel
theorem dX1_joinParts_103 : decode cX1_joinParts 103 = .ok (.getfield 98, 3) := by decide +kernel
theorem dX1_joinParts_106 : decode cX1_joinParts 106 = .ok (.iadd, 1) := by decide +kernel
theorem dX1_joinParts_107 : decode cX1_joinParts 107 = .ok (.putfield 98, 3) := by decide +kernel
theorem dX1_joinParts_110 : decode cX1_joinParts 110 = .ok (.aload_n 3, 1) := by decide +kernel
theorem dX1_joinParts_111 : decode cX1_joinParts 111 = .ok (.aload_n 3, 1) := by decide +kernel
theorem dX1_joinParts_112 : decode cX1_joinParts 112 = .ok (.getfield 101, 3) := by decide +kernel
theorem dX1_joinParts_115 : decode cX1_joinParts 115 = .ok (.aload 4, 2) := by decide +kernel
theorem dX1_joinParts_117 : decode cX1_joinParts 117 = .ok (.getfield 101, 3) := by decide +kernel
theorem dX1_joinParts_120 : decode cX1_joinParts 120 = .ok (.invokestatic 126, 3) := by decide +kernel
theorem dX1_joinParts_123 : decode cX1_joinParts 123 = .ok (.putfield 101, 3) := by decide +kernel
theorem dX1_joinParts_126 : decode cX1_joinParts 126 = .ok (.aload 4, 2) := by decide +kernel
theorem dX1_joinParts_128 : decode cX1_joinParts 128 = .ok (.iconst 5, 1) := by decide +kernel
theorem dX1_joinParts_129 : decode cX1_joinParts 129 = .ok (.putfield 79, 3) := by decide +kernel
theorem dX1_joinParts_132 : decode cX1_joinParts 132 = .ok (.aload_n 3, 1) := by decide +kernel
theorem dX1_joinParts_133 : decode cX1_joinParts 133 = .ok (.getfield 104, 3) := by decide +kernel
theorem dX1_joinParts_136 : decode cX1_joinParts 136 = .ok (.ireturn, 1) := by decide +kernel
theorem dX1_addVehicle_0 : decode cX1_addVehicle 0 = .ok (.iload_n 1, 1) := by decide +kernel
theorem dX1_addVehicle_1 : decode cX1_addVehicle 1 = .ok (.iconst 1, 1) := by decide +kernel
theorem dX1_addVehicle_2 : decode cX1_addVehicle 2 = .ok (.sipush 200, 3) := by decide +kernel
theorem dX1_addVehicle_5 : decode cX1_addVehicle 5 = .ok (.invokestatic 117, 3) := by decide +kernel
theorem dX1_addVehicle_8 : decode cX1_addVehicle 8 = .ok (.ifCond .eq 14, 3) := by decide +kernel
theorem dX1_addVehicle_11 : decode cX1_addVehicle 11 = .ok (.iload_n 2, 1) := by decide +kernel
theorem dX1_addVehicle_12 : decode cX1_addVehicle 12 = .ok (.iconst 1, 1) := by decide +kernel
theorem dX1_addVehicle_13 : decode cX1_addVehicle 13 = .ok (.sipush 200, 3) := by decide +kernel
theorem dX1_addVehicle_16 : decode cX1_addVehicle 16 = .ok (.invokestatic 117, 3) := by decide +kernel
theorem dX1_addVehicle_19 : decode cX1_addVehicle 19 = .ok (.ifCond .ne 6, 3) := by decide +kernel
theorem dX1_addVehicle_22 : decode cX1_addVehicle 22 = .ok (.ldc 121, 2) := by decide +kernel
theorem dX1_addVehicle_24 : decode cX1_addVehicle 24 = .ok (.ireturn, 1) := by decide +kernel
theorem dX1_addVehicle_25 : decode cX1_addVehicle 25 = .ok (.aload_n 0, 1) := by decide +kernel
theorem dX1_addVehicle_26 : decode cX1_addVehicle 26 = .ok (.getfield 42, 3) := by decide +kernel
theorem dX1_addVehicle_29 : decode cX1_addVehicle 29 = .ok (.iconst 4, 1) := by decide +kernel
theorem dX1_addVehicle_30 : decode cX1_addVehicle 30 = .ok (.if_icmp .lt 6, 3) := by decide +kernel
theorem dX1_addVehicle_33 : decode cX1_addVehicle 33 = .ok (.ldc 82, 2) := by decide +kernel
theorem dX1_addVehicle_35 : decode cX1_addVehicle 35 = .ok (.ireturn, 1) := by decide +kernel
theorem dX1_addVehicle_36 : decode cX1_addVehicle 36 = .ok (.aload_n 0, 1) := by decide +kernel
theorem dX1_addVehicle_37 : decode cX1_addVehicle 37 = .ok (.getfield 19, 3) := by decide +kernel
theorem dX1_addVehicle_40 : decode cX1_addVehicle 40 = .ok (.aload_n 0, 1) := by decide +kernel
theorem dX1_addVehicle_41 : decode cX1_addVehicle 41 = .ok (.getfield 42, 3) := by decide +kernel
theorem dX1_addVehicle_44 : decode cX1_addVehicle 44 = .ok (.aaload, 1) := by decide +kernel
theorem dX1_addVehicle_45 : decode cX1_addVehicle 45 = .ok (.astore_n 3, 1) := by decide +kernel
theorem dX1_addVehicle_46 : decode cX1_addVehicle 46 = .ok (.aload_n 3, 1) := by decide +kernel
theorem dX1_addVehicle_47 : decode cX1_addVehicle 47 = .ok (.iload_n 1, 1) := by decide +kernel
theorem dX1_addVehicle_48 : decode cX1_addVehicle 48 = .ok (.putfield 135, 3) := by decide +kernel
theorem dX1_addVehicle_51 : decode cX1_addVehicle 51 = .ok (.aload_n 3, 1) := by decide +kernel
theorem dX1_addVehicle_52 : decode cX1_addVehicle 52 = .ok (.iload_n 2, 1) := by decide +kernel
theorem dX1_addVehicle_53 : decode cX1_addVehicle 53 = .ok (.putfield 138, 3) := by decide +kernel
theorem dX1_addVehicle_56 : decode cX1_addVehicle 56 = .ok (.aload_n 3, 1) := by decide +kernel
theorem dX1_addVehicle_57 : decode cX1_addVehicle 57 = .ok (.iconst 0, 1) := by decide +kernel
theorem dX1_addVehicle_58 : decode cX1_addVehicle 58 = .ok (.putfield 141, 3) := by decide +kernel
theorem dX1_addVehicle_61 : decode cX1_addVehicle 61 = .ok (.aload_n 3, 1) := by decide +kernel
theorem dX1_addVehicle_62 : decode cX1_addVehicle 62 = .ok (.iconst 0, 1) := by decide +kernel
theorem dX1_addVehicle_63 : decode cX1_addVehicle 63 = .ok (.putfield 142, 3) := by decide +kernel
theorem dX1_addVehicle_66 : decode cX1_addVehicle 66 = .ok (.aload_n 3, 1) := by decide +kernel
theorem dX1_addVehicle_67 : decode cX1_addVehicle 67 = .ok (.iconst 0, 1) := by decide +kernel
theorem dX1_addVehicle_68 : decode cX1_addVehicle 68 = .ok (.putfield 145, 3) := by decide +kernel
theorem dX1_addVehicle_71 : decode cX1_addVehicle 71 = .ok (.aload_n 0, 1) := by decide +kernel
theorem dX1_addVehicle_72 : decode cX1_addVehicle 72 = .ok (.dup, 1) := by decide +kernel
theorem dX1_addVehicle_73 : decode cX1_addVehicle 73 = .ok (.getfield 42, 3) := by decide +kernel
theorem dX1_addVehicle_76 : decode cX1_addVehicle 76 = .ok (.iconst 1, 1) := by decide +kernel
theorem dX1_addVehicle_77 : decode cX1_addVehicle 77 = .ok (.iadd, 1) := by decide +kernel
theorem dX1_addVehicle_78 : decode cX1_addVehicle 78 = .ok (.putfield 42, 3) := by decide +kernel
theorem dX1_addVehicle_81 : decode cX1_addVehicle 81 = .ok (.aload_n 3, 1) := by decide +kernel
theorem dX1_addVehicle_82 : decode cX1_addVehicle 82 = .ok (.getfield 148, 3) := by decide +kernel
theorem dX1_addVehicle_85 : decode cX1_addVehicle 85 = .ok (.ireturn, 1) := by decide +kernel
theorem dX1_putInto_0 : decode cX1_putInto 0 = .ok (.aload_n 0, 1) := by decide +kernel
theorem dX1_putInto_1 : decode cX1_putInto 1 = .ok (.iload_n 1, 1) := by decide +kernel
theorem dX1_putInto_2 : decode cX1_putInto 2 = .ok (.invokevirtual 113, 3) := by decide +kernel
theorem dX1_putInto_5 : decode cX1_putInto 5 = .ok (.astore_n 3, 1) := by decide +kernel
theorem dX1_putInto_6 : decode cX1_putInto 6 = .ok (.aload_n 0, 1) := by decide +kernel
theorem dX1_putInto_7 : decode cX1_putInto 7 = .ok (.iload_n 2, 1) := by decide +kernel
theorem dX1_putInto_8 : decode cX1_putInto 8 = .ok (.invokevirtual 149, 3) := by decide +kernel
theorem dX1_putInto_11 : decode cX1_putInto 11 = .ok (.astore 4, 2) := by decide +kernel
theorem dX1_putInto_13 : decode cX1_putInto 13 = .ok (.aload_n 3, 1) := by decide +kernel
theorem dX1_putInto_14 : decode cX1_putInto 14 = .ok (.ifnull 8, 3) := by decide +kernel
theorem dX1_putInto_17 : decode cX1_putInto 17 = .ok (.aload 4, 2) := by decide +kernel
theorem dX1_putInto_19 : decode cX1_putInto 19 = .ok (.ifnonnull 6, 3) := by decide +kernel
theorem dX1_putInto_22 : decode cX1_putInto 22 = .ok (.ldc 121, 2) := by decide +kernel
theorem dX1_putInto_24 : decode cX1_putInto 24 = .ok (.ireturn, 1) := by decide +kernel
theorem dX1_putInto_25 : decode cX1_putInto 25 = .ok (.aload_n 0, 1) := by decide +kernel
theorem dX1_putInto_26 : decode cX1_putInto 26 = .ok (.aload 4, 2) := by decide +kernel
theorem dX1_putInto_28 : decode cX1_putInto 28 = .ok (.aload_n 3, 1) := by decide +kernel
theorem dX1_putInto_29 : decode cX1_putInto 29 = .ok (.invokevirtual 153, 3) := by decide +kernel
theorem dX1_putInto_32 : decode cX1_putInto 32 = .ok (.ifCond .ne 6, 3) := by decide +kernel
theorem dX1_putInto_35 : decode cX1_putInto 35 = .ok (.ldc 122, 2) := by decide +kernel
theorem dX1_putInto_37 : decode cX1_putInto 37 = .ok (.ireturn, 1) := by decide +kernel
theorem dX1_putInto_38 : decode cX1_putInto 38 = .ok (.aload_n 3, 1) := by decide +kernel
theorem dX1_putInto_39 : decode cX1_putInto 39 = .ok (.iconst 1, 1) := by decide +kernel
theorem dX1_putInto_40 : decode cX1_putInto 40 = .ok (.putfield 79, 3) := by decide +kernel
theorem dX1_putInto_43 : decode cX1_putInto 43 = .ok (.aload_n 3, 1) := by decide +kernel
theorem dX1_putInto_44 : decode cX1_putInto 44 = .ok (.aload 4, 2) := by decide +kernel
theorem dX1_putInto_46 : decode cX1_putInto 46 = .ok (.getfield 148, 3) := by decide +kernel
theorem dX1_putInto_49 : decode cX1_putInto 49 = .ok (.putfield 157, 3) := by decide +kernel
theorem dX1_putInto_52 : decode cX1_putInto 52 = .ok (.aload 4, 2) := by decide +kernel
theorem dX1_putInto_54 : decode cX1_putInto 54 = .ok (.getfield 135, 3) := by decide +kernel
theorem dX1_putInto_57 : decode cX1_putInto 57 = .ok (.aload_n 0, 1) := by decide +kernel
theorem dX1_putInto_58 : decode cX1_putInto 58 = .ok (.aload 4, 2) := by decide +kernel
theorem dX1_putInto_60 : decode cX1_putInto 60 = .ok (.invokevirtual 160, 3) := by decide +kernel
theorem dX1_putInto_63 : decode cX1_putInto 63 = .ok (.isub, 1) := by decide +kernel
theorem dX1_putInto_64 : decode cX1_putInto 64 = .ok (.ireturn, 1) := by decide +kernel
theorem dX1_takeOut_0 : decode cX1_takeOut 0 = .ok (.aload_n 0, 1) := by decide +kernel
theorem dX1_takeOut_1 : decode cX1_takeOut 1 = .ok (.iload_n 1, 1) := by decide +kernel
theorem dX1_takeOut_2 : decode cX1_takeOut 2 = .ok (.invokevirtual 113, 3) := by decide +kernel
theorem dX1_takeOut_5 : decode cX1_takeOut 5 = .ok (.astore_n 2, 1) := by decide +kernel
theorem dX1_takeOut_6 : decode cX1_takeOut 6 = .ok (.aload_n 2, 1) := by decide +kernel
theorem dX1_takeOut_7 : decode cX1_takeOut 7 = .ok (.ifnonnull 6, 3) := by decide +kernel
theorem dX1_takeOut_10 : decode cX1_takeOut 10 = .ok (.ldc 121, 2) := by decide +kernel
theorem dX1_takeOut_12 : decode cX1_takeOut 12 = .ok (.ireturn, 1) := by decide +kernel
theorem dX1_takeOut_13 : decode cX1_takeOut 13 = .ok (.aload_n 2, 1) := by decide +kernel
theorem dX1_takeOut_14 : decode cX1_takeOut 14 = .ok (.getfield 79, 3) := by decide +kernel
theorem dX1_takeOut_17 : decode cX1_takeOut 17 = .ok (.iconst 1, 1) := by decide +kernel
theorem dX1_takeOut_18 : decode cX1_takeOut 18 = .ok (.if_icmp .eq 6, 3) := by decide +kernel
theorem dX1_takeOut_21 : decode cX1_takeOut 21 = .ok (.ldc 122, 2) := by decide +kernel
theorem dX1_takeOut_23 : decode cX1_takeOut 23 = .ok (.ireturn, 1) := by decide +kernel
theorem dX1_takeOut_24 : decode cX1_takeOut 24 = .ok (.aload_n 2, 1) := by decide +kernel
theorem dX1_takeOut_25 : decode cX1_takeOut 25 = .ok (.iconst 0, 1) := by decide +kernel
theorem dX1_takeOut_26 : decode cX1_takeOut 26 = .ok (.putfield 79, 3) := by decide +kernel
theorem dX1_takeOut_29 : decode cX1_takeOut 29 = .ok (.aload_n 2, 1) := by decide +kernel
theorem dX1_takeOut_30 : decode cX1_takeOut 30 = .ok (.getfield 157, 3) := by decide +kernel
theorem dX1_takeOut_33 : decode cX1_takeOut 33 = .ok (.ireturn, 1) := by decide +kernel
theorem dX1_loadByRule_0 : decode cX1_loadByRule 0 = .ok (.aload_n 0, 1) := by decide +kernel
theorem dX1_loadByRule_1 : decode cX1_loadByRule 1 = .ok (.iload_n 1, 1) := by decide +kernel
theorem dX1_loadByRule_2 : decode cX1_loadByRule 2 = .ok (.invokevirtual 149, 3) := by decide +kernel
theorem dX1_loadByRule_5 : decode cX1_loadByRule 5 = .ok (.astore 4, 2) := by decide +kernel
theorem dX1_loadByRule_7 : decode cX1_loadByRule 7 = .ok (.aload 4, 2) := by decide +kernel
theorem dX1_loadByRule_9 : decode cX1_loadByRule 9 = .ok (.ifnull 21, 3) := by decide +kernel
theorem dX1_loadByRule_12 : decode cX1_loadByRule 12 = .ok (.iload_n 2, 1) := by decide +kernel
theorem dX1_loadByRule_13 : decode cX1_loadByRule 13 = .ok (.iconst 1, 1) := by decide +kernel
theorem dX1_loadByRule_14 : decode cX1_loadByRule 14 = .ok (.iconst 4, 1) := by decide +kernel
theorem dX1_loadByRule_15 : decode cX1_loadByRule 15 = .ok (.invokestatic 117, 3) := by decide +kernel
theorem dX1_loadByRule_18 : decode cX1_loadByRule 18 = .ok (.ifCond .eq 12, 3) := by decide +kernel
theorem dX1_loadByRule_21 : decode cX1_loadByRule 21 = .ok (.iload_n 3, 1) := by decide +kernel
theorem dX1_loadByRule_22 : decode cX1_loadByRule 22 = .ok (.iconst 0, 1) := by decide +kernel
theorem dX1_loadByRule_23 : decode cX1_loadByRule 23 = .ok (.iconst 2, 1) := by decide +kernel
theorem dX1_loadByRule_24 : decode cX1_loadByRule 24 = .ok (.invokestatic 117, 3) := by decide +kernel
theorem dX1_loadByRule_27 : decode cX1_loadByRule 27 = .ok (.ifCond .ne 6, 3) := by decide +kernel
theorem dX1_loadByRule_30 : decode cX1_loadByRule 30 = .ok (.ldc 121, 2) := by decide +kernel
theorem dX1_loadByRule_32 : decode cX1_loadByRule 32 = .ok (.ireturn, 1) := by decide +kernel
theorem dX1_loadByRule_33 : decode cX1_loadByRule 33 = .ok (.aload 4, 2) := by decide +kernel
theorem dX1_loadByRule_35 : decode cX1_loadByRule 35 = .ok (.getfield 141, 3) := by decide +kernel
theorem dX1_loadByRule_38 : decode cX1_loadByRule 38 = .ok (.ifCond .eq 6, 3) := by decide +kernel
theorem dX1_loadByRule_41 : decode cX1_loadByRule 41 = .ok (.ldc 122, 2) := by decide +kernel
theorem dX1_loadByRule_43 : decode cX1_loadByRule 43 = .ok (.ireturn, 1) := by decide +kernel
theorem dX1_loadByRule_44 : decode cX1_loadByRule 44 = .ok (.iconst 0, 1) := by decide +kernel
theorem dX1_loadByRule_45 : decode cX1_loadByRule 45 = .ok (.istore 5, 2) := by decide +kernel
theorem dX1_loadByRule_47 : decode cX1_loadByRule 47 = .ok (.iconst 0, 1) := by decide +kernel
theorem dX1_loadByRule_48 : decode cX1_loadByRule 48 = .ok (.istore 6, 2) := by decide +kernel
theorem dX1_loadByRule_50 : decode cX1_loadByRule 50 = .ok (.iconst 0, 1) := by decide +kernel
theorem dX1_loadByRule_51 : decode cX1_loadByRule 51 = .ok (.istore 7, 2) := by decide +kernel
theorem dX1_loadByRule_53 : decode cX1_loadByRule 53 = .ok (.iload 7, 2) := by decide +kernel
theorem dX1_loadByRule_55 : decode cX1_loadByRule 55 = .ok (.aload_n 0, 1) := by decide +kernel
theorem dX1_loadByRule_56 : decode cX1_loadByRule 56 = .ok (.getfield 38, 3) := by decide +kernel
theorem dX1_loadByRule_59 : decode cX1_loadByRule 59 = .ok (.if_icmp .ge 78, 3) := by decide +kernel
theorem dX1_loadByRule_62 : decode cX1_loadByRule 62 = .ok (.aload_n 0, 1) := by decide +kernel
theorem dX1_loadByRule_63 : decode cX1_loadByRule 63 = .ok (.iload_n 2, 1) := by decide +kernel
theorem dX1_loadByRule_64 : decode cX1_loadByRule 64 = .ok (.iload_n 3, 1) := by decide +kernel
theorem dX1_loadByRule_65 : decode cX1_loadByRule 65 = .ok (.iload 6, 2) := by decide +kernel
theorem dX1_loadByRule_67 : decode cX1_loadByRule 67 = .ok (.invokevirtual 164, 3) := by decide +kernel
theorem dX1_loadByRule_70 : decode cX1_loadByRule 70 = .ok (.astore 8, 2) := by decide +kernel
theorem dX1_loadByRule_72 : decode cX1_loadByRule 72 = .ok (.aload 8, 2) := by decide +kernel
theorem dX1_loadByRule_74 : decode cX1_loadByRule 74 = .ok (.ifnonnull 6, 3) := by decide +kernel
theorem dX1_loadByRule_77 : decode cX1_loadByRule 77 = .ok (.goto 60, 3) := by decide +kernel
theorem dX1_loadByRule_80 : decode cX1_loadByRule 80 = .ok (.iload 6, 2) := by decide +kernel
theorem dX1_loadByRule_82 : decode cX1_loadByRule 82 = .ok (.iconst 1, 1) := by decide +kernel
theorem dX1_loadByRule_83 : decode cX1_loadByRule 83 = .ok (.aload 8, 2) := by decide +kernel
theorem dX1_loadByRule_85 : decode cX1_loadByRule 85 = .ok (.getfield 104, 3) := by decide +kernel
theorem dX1_loadByRule_88 : decode cX1_loadByRule 88 = .ok (.ishl, 1) := by decide +kernel
theorem dX1_loadByRule_89 : decode cX1_loadByRule 89 = .ok (.ior, 1) := by decide +kernel
theorem dX1_loadByRule_90 : decode cX1_loadByRule 90 = .ok (.istore 6, 2) := by decide +kernel
theorem dX1_loadByRule_92 : decode cX1_loadByRule 92 = .ok (.aload_n 0, 1) := by decide +kernel
theorem dX1_loadByRule_93 : decode cX1_loadByRule 93 = .ok (.aload 4, 2) := by decide +kernel
theorem dX1_loadByRule_95 : decode cX1_loadByRule 95 = .ok (.aload 8, 2) := by decide +kernel
theorem dX1_loadByRule_97 : decode cX1_loadByRule 97 = .ok (.invokevirtual 153, 3) := by decide +kernel
theorem dX1_loadByRule_100 : decode cX1_loadByRule 100 = .ok (.ifCond .eq 31, 3) := by decide +kernel
theorem dX1_loadByRule_103 : decode cX1_loadByRule 103 = .ok (.aload 8, 2) := by decide +kernel
theorem dX1_loadByRule_105 : decode cX1_loadByRule 105 = .ok (.iconst 1, 1) := by decide +kernel
theorem dX1_loadByRule_106 : decode cX1_loadByRule 106 = .ok (.putfield 79, 3) := by decide +kernel
theorem dX1_loadByRule_109 : decode cX1_loadByRule 109 = .ok (.aload 8, 2) := by decide +kernel
theorem dX1_loadByRule_111 : decode cX1_loadByRule 111 = .ok (.aload 4, 2) := by decide +kernel
theorem dX1_loadByRule_113 : decode cX1_loadByRule 113 = .ok (.getfield 148, 3) := by decide +kernel
theorem dX1_loadByRule_116 : decode cX1_loadByRule 116 = .ok (.putfield 157, 3) := by decide +kernel
theorem dX1_loadByRule_119 : decode cX1_loadByRule 119 = .ok (.iload 5, 2) := by decide +kernel
theorem dX1_loadByRule_121 : decode cX1_loadByRule 121 = .ok (.iconst 1, 1) := by decide +kernel
theorem dX1_loadByRule_122 : decode cX1_loadByRule 122 = .ok (.aload 8, 2) := by decide +kernel
theorem dX1_loadByRule_124 : decode cX1_loadByRule 124 = .ok (.getfield 104, 3) := by decide +kernel
theorem dX1_loadByRule_127 : decode cX1_loadByRule 127 = .ok (.ishl, 1) := by decide +kernel
theorem dX1_loadByRule_128 : decode cX1_loadByRule 128 = .ok (.ior, 1) := by decide +kernel
theorem dX1_loadByRule_129 : decode cX1_loadByRule 129 = .ok (.istore 5, 2) := by decide +kernel
theorem dX1_loadByRule_131 : decode cX1_loadByRule 131 = .ok (.iinc 7 1, 3) := by decide +kernel
theorem dX1_loadByRule_134 : decode cX1_loadByRule 134 = .ok (.goto (-81), 3) := by decide +kernel
theorem dX1_loadByRule_137 : decode cX1_loadByRule 137 = .ok (.iload 5, 2) := by decide +kernel
theorem dX1_loadByRule_139 : decode cX1_loadByRule 139 = .ok (.ireturn, 1) := by decide +kernel
theorem dX1_nextByRule_0 : decode cX1_nextByRule 0 = .ok (.aconst_null, 1) := by decide +kernel
theorem dX1_nextByRule_1 : decode cX1_nextByRule 1 = .ok (.astore 4, 2) := by decide +kernel
theorem dX1_nextByRule_3 : decode cX1_nextByRule 3 = .ok (.iconst 0, 1) := by decide +kernel
theorem dX1_nextByRule_4 : decode cX1_nextByRule 4 = .ok (.istore 5, 2) := by decide +kernel
theorem dX1_nextByRule_6 : decode cX1_nextByRule 6 = .ok (.iload 5, 2) := by decide +kernel
theorem dX1_nextByRule_8 : decode cX1_nextByRule 8 = .ok (.aload_n 0, 1) := by decide +kernel
theorem dX1_nextByRule_9 : decode cX1_nextByRule 9 = .ok (.getfield 38, 3) := by decide +kernel
theorem dX1_nextByRule_12 : decode cX1_nextByRule 12 = .ok (.if_icmp .ge 76, 3) := by decide +kernel
theorem dX1_nextByRule_15 : decode cX1_nextByRule 15 = .ok (.aload_n 0, 1) := by decide +kernel
theorem dX1_nextByRule_16 : decode cX1_nextByRule 16 = .ok (.getfield 11, 3) := by decide +kernel
theorem dX1_nextByRule_19 : decode cX1_nextByRule 19 = .ok (.iload 5, 2) := by decide +kernel
theorem dX1_nextByRule_21 : decode cX1_nextByRule 21 = .ok (.aaload, 1) := by decide +kernel
theorem dX1_nextByRule_22 : decode cX1_nextByRule 22 = .ok (.astore 6, 2) := by decide +kernel
theorem dX1_nextByRule_24 : decode cX1_nextByRule 24 = .ok (.aload 6, 2) := by decide +kernel
theorem dX1_nextByRule_26 : decode cX1_nextByRule 26 = .ok (.getfield 79, 3) := by decide +kernel
theorem dX1_nextByRule_29 : decode cX1_nextByRule 29 = .ok (.ifCond .ne 25, 3) := by decide +kernel
theorem dX1_nextByRule_32 : decode cX1_nextByRule 32 = .ok (.aload 6, 2) := by decide +kernel
theorem dX1_nextByRule_34 : decode cX1_nextByRule 34 = .ok (.getfield 83, 3) := by decide +kernel
theorem dX1_nextByRule_37 : decode cX1_nextByRule 37 = .ok (.iload_n 1, 1) := by decide +kernel
theorem dX1_nextByRule_38 : decode cX1_nextByRule 38 = .ok (.if_icmp .ne 16, 3) := by decide +kernel
theorem dX1_nextByRule_41 : decode cX1_nextByRule 41 = .ok (.iload_n 3, 1) := by decide +kernel
theorem dX1_nextByRule_42 : decode cX1_nextByRule 42 = .ok (.iload 5, 2) := by decide +kernel
theorem dX1_nextByRule_44 : decode cX1_nextByRule 44 = .ok (.ishr, 1) := by decide +kernel
theorem dX1_nextByRule_45 : decode cX1_nextByRule 45 = .ok (.iconst 1, 1) := by decide +kernel
theorem dX1_nextByRule_46 : decode cX1_nextByRule 46 = .ok (.iand, 1) := by decide +kernel
theorem dX1_nextByRule_47 : decode cX1_nextByRule 47 = .ok (.ifCond .ne 7, 3) := by decide +kernel
theorem dX1_nextByRule_50 : decode cX1_nextByRule 50 = .ok (.iconst 1, 1) := by decide +kernel
theorem dX1_nextByRule_51 : decode cX1_nextByRule 51 = .ok (.goto 4, 3) := by decide +kernel
theorem dX1_nextByRule_54 : decode cX1_nextByRule 54 = .ok (.iconst 0, 1) := by decide +kernel
theorem dX1_nextByRule_55 : decode cX1_nextByRule 55 = .ok (.istore 7, 2) := by decide +kernel
theorem dX1_nextByRule_57 : decode cX1_nextByRule 57 = .ok (.iload 7, 2) := by decide +kernel
theorem dX1_nextByRule_59 : decode cX1_nextByRule 59 = .ok (.ifCond .eq 23, 3) := by decide +kernel
theorem dX1_nextByRule_62 : decode cX1_nextByRule 62 = .ok (.aload 4, 2) := by decide +kernel
theorem dX1_nextByRule_64 : decode cX1_nextByRule 64 = .ok (.ifnull 14, 3) := by decide +kernel
theorem dX1_nextByRule_67 : decode cX1_nextByRule 67 = .ok (.aload 6, 2) := by decide +kernel
theorem dX1_nextByRule_69 : decode cX1_nextByRule 69 = .ok (.aload 4, 2) := by decide +kernel
theorem dX1_nextByRule_71 : decode cX1_nextByRule 71 = .ok (.iload_n 2, 1) := by decide +kernel
theorem dX1_nextByRule_72 : decode cX1_nextByRule 72 = .ok (.invokevirtual 168, 3) := by decide +kernel
theorem dX1_nextByRule_75 : decode cX1_nextByRule 75 = .ok (.ifCond .eq 7, 3) := by decide +kernel
theorem dX1_nextByRule_78 : decode cX1_nextByRule 78 = .ok (.aload 6, 2) := by decide +kernel
theorem dX1_nextByRule_80 : decode cX1_nextByRule 80 = .ok (.astore 4, 2) := by decide +kernel
theorem dX1_nextByRule_82 : decode cX1_nextByRule 82 = .ok (.iinc 5 1, 3) := by decide +kernel
theorem dX1_nextByRule_85 : decode cX1_nextByRule 85 = .ok (.goto (-79), 3) := by decide +kernel
theorem dX1_nextByRule_88 : decode cX1_nextByRule 88 = .ok (.aload 4, 2) := by decide +kernel
theorem dX1_nextByRule_90 : decode cX1_nextByRule 90 = .ok (.areturn, 1) := by decide +kernel
theorem dX1_sendOff_0 : decode cX1_sendOff 0 = .ok (.aload_n 0, 1) := by decide +kernel
theorem dX1_sendOff_1 : decode cX1_sendOff 1 = .ok (.iload_n 1, 1) := by decide +kernel
theorem dX1_sendOff_2 : decode cX1_sendOff 2 = .ok (.invokevirtual 149, 3) := by decide +kernel
theorem dX1_sendOff_5 : decode cX1_sendOff 5 = .ok (.astore_n 2, 1) := by decide +kernel
theorem dX1_sendOff_6 : decode cX1_sendOff 6 = .ok (.aload_n 2, 1) := by decide +kernel
theorem dX1_sendOff_7 : decode cX1_sendOff 7 = .ok (.ifnonnull 6, 3) := by decide +kernel
theorem dX1_sendOff_10 : decode cX1_sendOff 10 = .ok (.ldc 121, 2) := by decide +kernel
theorem dX1_sendOff_12 : decode cX1_sendOff 12 = .ok (.ireturn, 1) := by decide +kernel
theorem dX1_sendOff_13 : decode cX1_sendOff 13 = .ok (.aload_n 0, 1) := by decide +kernel
theorem dX1_sendOff_14 : decode cX1_sendOff 14 = .ok (.aload_n 2, 1) := by decide +kernel
theorem dX1_sendOff_15 : decode cX1_sendOff 15 = .ok (.invokevirtual 172, 3) := by decide +kernel
theorem dX1_sendOff_18 : decode cX1_sendOff 18 = .ok (.istore_n 3, 1) := by decide +kernel
theorem dX1_sendOff_19 : decode cX1_sendOff 19 = .ok (.aload_n 2, 1) := by decide +kernel
theorem dX1_sendOff_20 : decode cX1_sendOff 20 = .ok (.getfield 141, 3) := by decide +kernel
theorem dX1_sendOff_23 : decode cX1_sendOff 23 = .ok (.ifCond .ne 7, 3) := by decide +kernel
theorem dX1_sendOff_26 : decode cX1_sendOff 26 = .ok (.iload_n 3, 1) := by decide +kernel
theorem dX1_sendOff_27 : decode cX1_sendOff 27 = .ok (.ifCond .ne 6, 3) := by decide +kernel
theorem dX1_sendOff_30 : decode cX1_sendOff 30 = .ok (.ldc 122, 2) := by decide +kernel
theorem dX1_sendOff_32 : decode cX1_sendOff 32 = .ok (.ireturn, 1) := by decide +kernel
theorem dX1_sendOff_33 : decode cX1_sendOff 33 = .ok (.iconst 0, 1) := by decide +kernel
theorem dX1_sendOff_34 : decode cX1_sendOff 34 = .ok (.istore 4, 2) := by decide +kernel
theorem dX1_sendOff_36 : decode cX1_sendOff 36 = .ok (.iload 4, 2) := by decide +kernel
theorem dX1_sendOff_38 : decode cX1_sendOff 38 = .ok (.aload_n 0, 1) := by decide +kernel
theorem dX1_sendOff_39 : decode cX1_sendOff 39 = .ok (.getfield 38, 3) := by decide +kernel
theorem dX1_sendOff_42 : decode cX1_sendOff 42 = .ok (.if_icmp .ge 48, 3) := by decide +kernel
theorem dX1_sendOff_45 : decode cX1_sendOff 45 = .ok (.aload_n 0, 1) := by decide +kernel
theorem dX1_sendOff_46 : decode cX1_sendOff 46 = .ok (.getfield 11, 3) := by decide +kernel
theorem dX1_sendOff_49 : decode cX1_sendOff 49 = .ok (.iload 4, 2) := by decide +kernel
theorem dX1_sendOff_51 : decode cX1_sendOff 51 = .ok (.aaload, 1) := by decide +kernel
theorem dX1_sendOff_52 : decode cX1_sendOff 52 = .ok (.aload_n 2, 1) := by decide +kernel
theorem dX1_sendOff_53 : decode cX1_sendOff 53 = .ok (.invokevirtual 175, 3) := by decide +kernel
theorem dX1_sendOff_56 : decode cX1_sendOff 56 = .ok (.ifCond .eq 28, 3) := by decide +kernel
theorem dX1_sendOff_59 : decode cX1_sendOff 59 = .ok (.aload_n 0, 1) := by decide +kernel
theorem dX1_sendOff_60 : decode cX1_sendOff 60 = .ok (.getfield 11, 3) := by decide +kernel
theorem dX1_sendOff_63 : decode cX1_sendOff 63 = .ok (.iload 4, 2) := by decide +kernel
theorem dX1_sendOff_65 : decode cX1_sendOff 65 = .ok (.aaload, 1) := by decide +kernel
theorem dX1_sendOff_66 : decode cX1_sendOff 66 = .ok (.iconst 2, 1) := by decide +kernel
theorem dX1_sendOff_67 : decode cX1_sendOff 67 = .ok (.putfield 79, 3) := by decide +kernel
theorem dX1_sendOff_70 : decode cX1_sendOff 70 = .ok (.aload_n 0, 1) := by decide +kernel
theorem dX1_sendOff_71 : decode cX1_sendOff 71 = .ok (.getfield 11, 3) := by decide +kernel
theorem dX1_sendOff_74 : decode cX1_sendOff 74 = .ok (.iload 4, 2) := by decide +kernel
theorem dX1_sendOff_76 : decode cX1_sendOff 76 = .ok (.aaload, 1) := by decide +kernel
theorem dX1_sendOff_77 : decode cX1_sendOff 77 = .ok (.aload_n 0, 1) := by decide +kernel
theorem dX1_sendOff_78 : decode cX1_sendOff 78 = .ok (.getfield 48, 3) := by decide +kernel
theorem dX1_sendOff_81 : decode cX1_sendOff 81 = .ok (.putfield 179, 3) := by decide +kernel
theorem dX1_sendOff_84 : decode cX1_sendOff 84 = .ok (.iinc 4 1, 3) := by decide +kernel
theorem dX1_sendOff_87 : decode cX1_sendOff 87 = .ok (.goto (-51), 3) := by decide +kernel
theorem dX1_sendOff_90 : decode cX1_sendOff 90 = .ok (.aload_n 2, 1) := by decide +kernel
theorem dX1_sendOff_91 : decode cX1_sendOff 91 = .ok (.iconst 1, 1) := by decide +kernel
theorem dX1_sendOff_92 : decode cX1_sendOff 92 = .ok (.putfield 141, 3) := by decide +kernel
theorem dX1_sendOff_95 : decode cX1_sendOff 95 = .ok (.aload_n 2, 1) := by decide +kernel
theorem dX1_sendOff_96 : decode cX1_sendOff 96 = .ok (.iload_n 3, 1) := by decide +kernel
theorem dX1_sendOff_97 : decode cX1_sendOff 97 = .ok (.putfield 182, 3) := by decide +kernel
theorem dX1_sendOff_100 : decode cX1_sendOff 100 = .ok (.aload_n 2, 1) := by decide +kernel
theorem dX1_sendOff_101 : decode cX1_sendOff 101 = .ok (.iload_n 3, 1) := by decide +kernel
theorem dX1_sendOff_102 : decode cX1_sendOff 102 = .ok (.aload_n 0, 1) := by decide +kernel
theorem dX1_sendOff_103 : decode cX1_sendOff 103 = .ok (.getfield 29, 3) := by decide +kernel
theorem dX1_sendOff_106 : decode cX1_sendOff 106 = .ok (.iconst 0, 1) := by decide +kernel
theorem dX1_sendOff_107 : decode cX1_sendOff 107 = .ok (.iaload, 1) := by decide +kernel
theorem dX1_sendOff_108 : decode cX1_sendOff 108 = .ok (.imul, 1) := by decide +kernel
theorem dX1_sendOff_109 : decode cX1_sendOff 109 = .ok (.putfield 183, 3) := by decide +kernel
theorem dX1_sendOff_112 : decode cX1_sendOff 112 = .ok (.aload_n 2, 1) := by decide +kernel
theorem dX1_sendOff_113 : decode cX1_sendOff 113 = .ok (.aload_n 0, 1) := by decide +kernel
theorem dX1_sendOff_114 : decode cX1_sendOff 114 = .ok (.getfield 48, 3) := by decide +kernel
theorem dX1_sendOff_117 : decode cX1_sendOff 117 = .ok (.aload_n 2, 1) := by decide +kernel
theorem dX1_sendOff_118 : decode cX1_sendOff 118 = .ok (.getfield 183, 3) := by decide +kernel
theorem dX1_sendOff_121 : decode cX1_sendOff 121 = .ok (.iadd, 1) := by decide +kernel
theorem dX1_sendOff_122 : decode cX1_sendOff 122 = .ok (.putfield 186, 3) := by decide +kernel
theorem dX1_sendOff_125 : decode cX1_sendOff 125 = .ok (.aload_n 2, 1) := by decide +kernel
theorem dX1_sendOff_126 : decode cX1_sendOff 126 = .ok (.getfield 186, 3) := by decide +kernel
theorem dX1_sendOff_129 : decode cX1_sendOff 129 = .ok (.ireturn, 1) := by decide +kernel
theorem dX1_makeOffer_0 : decode cX1_makeOffer 0 = .ok (.iload_n 1, 1) := by decide +kernel
theorem dX1_makeOffer_1 : decode cX1_makeOffer 1 = .ok (.iconst 1, 1) := by decide +kernel
theorem dX1_makeOffer_2 : decode cX1_makeOffer 2 = .ok (.iconst 4, 1) := by decide +kernel
theorem dX1_makeOffer_3 : decode cX1_makeOffer 3 = .ok (.invokestatic 117, 3) := by decide +kernel
theorem dX1_makeOffer_6 : decode cX1_makeOffer 6 = .ok (.ifCond .eq 46, 3) := by decide +kernel
theorem dX1_makeOffer_9 : decode cX1_makeOffer 9 = .ok (.iload_n 2, 1) := by decide +kernel
theorem dX1_makeOffer_10 : decode cX1_makeOffer 10 = .ok (.iconst 1, 1) := by decide +kernel
theorem dX1_makeOffer_11 : decode cX1_makeOffer 11 = .ok (.bipush 99, 2) := by decide +kernel
theorem dX1_makeOffer_13 : decode cX1_makeOffer 13 = .ok (.invokestatic 117, 3) := by decide +kernel
theorem dX1_makeOffer_16 : decode cX1_makeOffer 16 = .ok (.ifCond .eq 36, 3) := by decide +kernel
theorem dX1_makeOffer_19 : decode cX1_makeOffer 19 = .ok (.iload_n 3, 1) := by decide +kernel
theorem dX1_makeOffer_20 : decode cX1_makeOffer 20 = .ok (.iconst 1, 1) := by decide +kernel
theorem dX1_makeOffer_21 : decode cX1_makeOffer 21 = .ok (.bipush 99, 2) := by decide +kernel
theorem dX1_makeOffer_23 : decode cX1_makeOffer 23 = .ok (.invokestatic 117, 3) := by decide +kernel
theorem dX1_makeOffer_26 : decode cX1_makeOffer 26 = .ok (.ifCond .eq 26, 3) := by decide +kernel
theorem dX1_makeOffer_29 : decode cX1_makeOffer 29 = .ok (.iload 4, 2) := by decide +kernel
theorem dX1_makeOffer_31 : decode cX1_makeOffer 31 = .ok (.iconst 0, 1) := by decide +kernel
theorem dX1_makeOffer_32 : decode cX1_makeOffer 32 = .ok (.sipush 999, 3) := by decide +kernel
theorem dX1_makeOffer_35 : decode cX1_makeOffer 35 = .ok (.invokestatic 117, 3) := by decide +kernel
theorem dX1_makeOffer_38 : decode cX1_makeOffer 38 = .ok (.ifCond .eq 14, 3) := by decide +kernel
theorem dX1_makeOffer_41 : decode cX1_makeOffer 41 = .ok (.iload 5, 2) := by decide +kernel
theorem dX1_makeOffer_43 : decode cX1_makeOffer 43 = .ok (.iconst 0, 1) := by decide +kernel
theorem dX1_makeOffer_44 : decode cX1_makeOffer 44 = .ok (.bipush 99, 2) := by decide +kernel
theorem dX1_makeOffer_46 : decode cX1_makeOffer 46 = .ok (.invokestatic 117, 3) := by decide +kernel
theorem dX1_makeOffer_49 : decode cX1_makeOffer 49 = .ok (.ifCond .ne 6, 3) := by decide +kernel
theorem dX1_makeOffer_52 : decode cX1_makeOffer 52 = .ok (.ldc 121, 2) := by decide +kernel
theorem dX1_makeOffer_54 : decode cX1_makeOffer 54 = .ok (.ireturn, 1) := by decide +kernel
theorem dX1_makeOffer_55 : decode cX1_makeOffer 55 = .ok (.aload_n 0, 1) := by decide +kernel
theorem dX1_makeOffer_56 : decode cX1_makeOffer 56 = .ok (.getfield 45, 3) := by decide +kernel
theorem dX1_makeOffer_59 : decode cX1_makeOffer 59 = .ok (.bipush 10, 2) := by decide +kernel
theorem dX1_makeOffer_61 : decode cX1_makeOffer 61 = .ok (.if_icmp .lt 6, 3) := by decide +kernel
theorem dX1_makeOffer_64 : decode cX1_makeOffer 64 = .ok (.ldc 82, 2) := by decide +kernel
theorem dX1_makeOffer_66 : decode cX1_makeOffer 66 = .ok (.ireturn, 1) := by decide +kernel
theorem dX1_makeOffer_67 : decode cX1_makeOffer 67 = .ok (.aload_n 0, 1) := by decide +kernel
theorem dX1_makeOffer_68 : decode cX1_makeOffer 68 = .ok (.getfield 25, 3) := by decide +kernel
theorem dX1_makeOffer_71 : decode cX1_makeOffer 71 = .ok (.aload_n 0, 1) := by decide +kernel
theorem dX1_makeOffer_72 : decode cX1_makeOffer 72 = .ok (.getfield 45, 3) := by decide +kernel
theorem dX1_makeOffer_75 : decode cX1_makeOffer 75 = .ok (.aaload, 1) := by decide +kernel
theorem dX1_makeOffer_76 : decode cX1_makeOffer 76 = .ok (.astore 6, 2) := by decide +kernel
theorem dX1_makeOffer_78 : decode cX1_makeOffer 78 = .ok (.aload 6, 2) := by decide +kernel
theorem dX1_makeOffer_80 : decode cX1_makeOffer 80 = .ok (.iload_n 1, 1) := by decide +kernel
theorem dX1_makeOffer_81 : decode cX1_makeOffer 81 = .ok (.putfield 189, 3) := by decide +kernel
theorem dX1_makeOffer_84 : decode cX1_makeOffer 84 = .ok (.aload 6, 2) := by decide +kernel
theorem dX1_makeOffer_86 : decode cX1_makeOffer 86 = .ok (.iload_n 2, 1) := by decide +kernel
theorem dX1_makeOffer_87 : decode cX1_makeOffer 87 = .ok (.putfield 190, 3) := by decide +kernel
theorem dX1_makeOffer_90 : decode cX1_makeOffer 90 = .ok (.aload 6, 2) := by decide +kernel
theorem dX1_makeOffer_92 : decode cX1_makeOffer 92 = .ok (.iload_n 3, 1) := by decide +kernel
theorem dX1_makeOffer_93 : decode cX1_makeOffer 93 = .ok (.putfield 191, 3) := by decide +kernel
theorem dX1_makeOffer_96 : decode cX1_makeOffer 96 = .ok (.aload 6, 2) := by decide +kernel
theorem dX1_makeOffer_98 : decode cX1_makeOffer 98 = .ok (.iload 4, 2) := by decide +kernel
theorem dX1_makeOffer_100 : decode cX1_makeOffer 100 = .ok (.putfield 192, 3) := by decide +kernel
theorem dX1_makeOffer_103 : decode cX1_makeOffer 103 = .ok (.aload 6, 2) := by decide +kernel
theorem dX1_makeOffer_105 : decode cX1_makeOffer 105 = .ok (.aload_n 0, 1) := by decide +kernel
theorem dX1_makeOffer_106 : decode cX1_makeOffer 106 = .ok (.getfield 48, 3) := by decide +kernel
theorem dX1_makeOffer_109 : decode cX1_makeOffer 109 = .ok (.iload 5, 2) := by decide +kernel
theorem dX1_makeOffer_111 : decode cX1_makeOffer 111 = .ok (.iadd, 1) := by decide +kernel
theorem dX1_makeOffer_112 : decode cX1_makeOffer 112 = .ok (.putfield 195, 3) := by decide +kernel
theorem dX1_makeOffer_115 : decode cX1_makeOffer 115 = .ok (.aload_n 0, 1) := by decide +kernel
theorem dX1_makeOffer_116 : decode cX1_makeOffer 116 = .ok (.dup, 1) := by decide +kernel
theorem dX1_makeOffer_117 : decode cX1_makeOffer 117 = .ok (.getfield 45, 3) := by decide +kernel
theorem dX1_makeOffer_120 : decode cX1_makeOffer 120 = .ok (.iconst 1, 1) := by decide +kernel
theorem dX1_makeOffer_121 : decode cX1_makeOffer 121 = .ok (.iadd, 1) := by decide +kernel
theorem dX1_makeOffer_122 : decode cX1_makeOffer 122 = .ok (.putfield 45, 3) := by decide +kernel
theorem dX1_makeOffer_125 : decode cX1_makeOffer 125 = .ok (.aload_n 0, 1) := by decide +kernel
theorem dX1_makeOffer_126 : decode cX1_makeOffer 126 = .ok (.getfield 45, 3) := by decide +kernel
theorem dX1_makeOffer_129 : decode cX1_makeOffer 129 = .ok (.ireturn, 1) := by decide +kernel
theorem dX1_letPass_0 : decode cX1_letPass 0 = .ok (.iload_n 1, 1) := by decide +kernel
theorem dX1_letPass_1 : decode cX1_letPass 1 = .ok (.iconst 1, 1) := by decide +kernel
theorem dX1_letPass_2 : decode cX1_letPass 2 = .ok (.bipush 99, 2) := by decide +kernel
theorem dX1_letPass_4 : decode cX1_letPass 4 = .ok (.invokestatic 117, 3) := by decide +kernel
theorem dX1_letPass_7 : decode cX1_letPass 7 = .ok (.ifCond .ne 6, 3) := by decide +kernel
theorem dX1_letPass_10 : decode cX1_letPass 10 = .ok (.ldc 121, 2) := by decide +kernel
theorem dX1_letPass_12 : decode cX1_letPass 12 = .ok (.ireturn, 1) := by decide +kernel
theorem dX1_letPass_13 : decode cX1_letPass 13 = .ok (.aload_n 0, 1) := by decide +kernel
theorem dX1_letPass_14 : decode cX1_letPass 14 = .ok (.getfield 48, 3) := by decide +kernel
theorem dX1_letPass_17 : decode cX1_letPass 17 = .ok (.iload_n 1, 1) := by decide +kernel
theorem dX1_letPass_18 : decode cX1_letPass 18 = .ok (.iadd, 1) := by decide +kernel
theorem dX1_letPass_19 : decode cX1_letPass 19 = .ok (.sipush 9000, 3) := by decide +kernel
theorem dX1_letPass_22 : decode cX1_letPass 22 = .ok (.if_icmp .le 6, 3) := by decide +kernel
theorem dX1_letPass_25 : decode cX1_letPass 25 = .ok (.ldc 82, 2) := by decide +kernel
theorem dX1_letPass_27 : decode cX1_letPass 27 = .ok (.ireturn, 1) := by decide +kernel
theorem dX1_letPass_28 : decode cX1_letPass 28 = .ok (.iconst 0, 1) := by decide +kernel
theorem dX1_letPass_29 : decode cX1_letPass 29 = .ok (.istore_n 2, 1) := by decide +kernel
theorem dX1_letPass_30 : decode cX1_letPass 30 = .ok (.iconst 0, 1) := by decide +kernel
theorem dX1_letPass_31 : decode cX1_letPass 31 = .ok (.istore_n 3, 1) := by decide +kernel
theorem dX1_letPass_32 : decode cX1_letPass 32 = .ok (.iload_n 3, 1) := by decide +kernel
theorem dX1_letPass_33 : decode cX1_letPass 33 = .ok (.iload_n 1, 1) := by decide +kernel
theorem dX1_letPass_34 : decode cX1_letPass 34 = .ok (.if_icmp .ge 34, 3) := by decide +kernel
theorem dX1_letPass_37 : decode cX1_letPass 37 = .ok (.aload_n 0, 1) := by decide +kernel
theorem dX1_letPass_38 : decode cX1_letPass 38 = .ok (.dup, 1) := by decide +kernel
theorem dX1_letPass_39 : decode cX1_letPass 39 = .ok (.getfield 48, 3) := by decide +kernel
theorem dX1_letPass_42 : decode cX1_letPass 42 = .ok (.iconst 1, 1) := by decide +kernel
theorem dX1_letPass_43 : decode cX1_letPass 43 = .ok (.iadd, 1) := by decide +kernel
theorem dX1_letPass_44 : decode cX1_letPass 44 = .ok (.putfield 48, 3) := by decide +kernel
theorem dX1_letPass_47 : decode cX1_letPass 47 = .ok (.iload_n 2, 1) := by decide +kernel
theorem dX1_letPass_48 : decode cX1_letPass 48 = .ok (.aload_n 0, 1) := by decide +kernel
theorem dX1_letPass_49 : decode cX1_letPass 49 = .ok (.invokevirtual 198, 3) := by decide +kernel
theorem dX1_letPass_52 : decode cX1_letPass 52 = .ok (.iadd, 1) := by decide +kernel
theorem dX1_letPass_53 : decode cX1_letPass 53 = .ok (.istore_n 2, 1) := by decide +kernel
theorem dX1_letPass_54 : decode cX1_letPass 54 = .ok (.aload_n 0, 1) := by decide +kernel
theorem dX1_letPass_55 : decode cX1_letPass 55 = .ok (.invokevirtual 202, 3) := by decide +kernel
theorem dX1_letPass_58 : decode cX1_letPass 58 = .ok (.aload_n 0, 1) := by decide +kernel
theorem dX1_letPass_59 : decode cX1_letPass 59 = .ok (.invokevirtual 205, 3) := by decide +kernel
theorem dX1_letPass_62 : decode cX1_letPass 62 = .ok (.iinc 3 1, 3) := by decide +kernel
theorem dX1_letPass_65 : decode cX1_letPass 65 = .ok (.goto (-33), 3) := by decide +kernel
theorem dX1_letPass_68 : decode cX1_letPass 68 = .ok (.iload_n 2, 1) := by decide +kernel
theorem dX1_letPass_69 : decode cX1_letPass 69 = .ok (.ireturn, 1) := by decide +kernel
theorem dX1_changeSetting_0 : decode cX1_changeSetting 0 = .ok (.iload_n 1, 1) := by decide +kernel
theorem dX1_changeSetting_1 : decode cX1_changeSetting 1 = .ok (.iconst 0, 1) := by decide +kernel
theorem dX1_changeSetting_2 : decode cX1_changeSetting 2 = .ok (.iconst 2, 1) := by decide +kernel
theorem dX1_changeSetting_3 : decode cX1_changeSetting 3 = .ok (.invokestatic 117, 3) := by decide +kernel
theorem dX1_changeSetting_6 : decode cX1_changeSetting 6 = .ok (.ifCond .eq 18, 3) := by decide +kernel
theorem dX1_changeSetting_9 : decode cX1_changeSetting 9 = .ok (.iload_n 2, 1) := by decide +kernel
theorem dX1_changeSetting_10 : decode cX1_changeSetting 10 = .ok (.iload_n 1, 1) := by decide +kernel
theorem dX1_changeSetting_11 : decode cX1_changeSetting 11 = .ok (.invokestatic 208, 3) := by decide +kernel
theorem dX1_changeSetting_14 : decode cX1_changeSetting 14 = .ok (.iload_n 1, 1) := by decide +kernel
theorem dX1_changeSetting_15 : decode cX1_changeSetting 15 = .ok (.invokestatic 212, 3) := by decide +kernel
theorem dX1_changeSetting_18 : decode cX1_changeSetting 18 = .ok (.invokestatic 117, 3) := by decide +kernel
theorem dX1_changeSetting_21 : decode cX1_changeSetting 21 = .ok (.ifCond .ne 6, 3) := by decide +kernel
theorem dX1_changeSetting_24 : decode cX1_changeSetting 24 = .ok (.ldc 121, 2) := by decide +kernel
theorem dX1_changeSetting_26 : decode cX1_changeSetting 26 = .ok (.ireturn, 1) := by decide +kernel
theorem dX1_changeSetting_27 : decode cX1_changeSetting 27 = .ok (.aload_n 0, 1) := by decide +kernel
theorem dX1_changeSetting_28 : decode cX1_changeSetting 28 = .ok (.getfield 29, 3) := by decide +kernel
theorem dX1_changeSetting_31 : decode cX1_changeSetting 31 = .ok (.iload_n 1, 1) := by decide +kernel
theorem dX1_changeSetting_32 : decode cX1_changeSetting 32 = .ok (.iaload, 1) := by decide +kernel
theorem dX1_changeSetting_33 : decode cX1_changeSetting 33 = .ok (.istore_n 3, 1) := by decide +kernel
theorem dX1_changeSetting_34 : decode cX1_changeSetting 34 = .ok (.aload_n 0, 1) := by decide +kernel
theorem dX1_changeSetting_35 : decode cX1_changeSetting 35 = .ok (.getfield 29, 3) := by decide +kernel
theorem dX1_changeSetting_38 : decode cX1_changeSetting 38 = .ok (.iload_n 1, 1) := by decide +kernel
theorem dX1_changeSetting_39 : decode cX1_changeSetting 39 = .ok (.iload_n 2, 1) := by decide +kernel
theorem dX1_changeSetting_40 : decode cX1_changeSetting 40 = .ok (.iastore, 1) := by decide +kernel
theorem dX1_changeSetting_41 : decode cX1_changeSetting 41 = .ok (.iload_n 3, 1) := by decide +kernel
theorem dX1_changeSetting_42 : decode cX1_changeSetting 42 = .ok (.ireturn, 1) := by decide +kernel
theorem dX1_leastOfSetting_0 : decode cX1_leastOfSetting 0 = .ok (.iload_n 0, 1) := by decide +kernel
theorem dX1_leastOfSetting_1 : decode cX1_leastOfSetting 1 = .ok (.ifCond .ne 7, 3) := by decide +kernel
theorem dX1_leastOfSetting_4 : decode cX1_leastOfSetting 4 = .ok (.iconst 1, 1) := by decide +kernel
theorem dX1_leastOfSetting_5 : decode cX1_leastOfSetting 5 = .ok (.goto 4, 3) := by decide +kernel
theorem dX1_leastOfSetting_8 : decode cX1_leastOfSetting 8 = .ok (.iconst 0, 1) := by decide +kernel
theorem dX1_leastOfSetting_9 : decode cX1_leastOfSetting 9 = .ok (.ireturn, 1) := by decide +kernel
theorem dX1_mostOfSetting_0 : decode cX1_mostOfSetting 0 = .ok (.iload_n 0, 1) := by decide +kernel
theorem dX1_mostOfSetting_1 : decode cX1_mostOfSetting 1 = .ok (.lookupswitch 33 #[(0, 27), (1, 30)], 27) := by decide +kernel
theorem dX1_mostOfSetting_28 : decode cX1_mostOfSetting 28 = .ok (.bipush 24, 2) := by decide +kernel
theorem dX1_mostOfSetting_30 : decode cX1_mostOfSetting 30 = .ok (.ireturn, 1) := by decide +kernel
theorem dX1_mostOfSetting_31 : decode cX1_mostOfSetting 31 = .ok (.bipush 99, 2) := by decide +kernel
theorem dX1_mostOfSetting_33 : decode cX1_mostOfSetting 33 = .ok (.ireturn, 1) := by decide +kernel
theorem dX1_mostOfSetting_34 : decode cX1_mostOfSetting 34 = .ok (.bipush 20, 2) := by decide +kernel
theorem dX1_mostOfSetting_36 : decode cX1_mostOfSetting 36 = .ok (.ireturn, 1) := by decide +kernel
theorem dX1_moveVehicles_0 : decode cX1_moveVehicles 0 = .ok (.iconst 0, 1) := by decide +kernel
theorem dX1_moveVehicles_1 : decode cX1_moveVehicles 1 = .ok (.istore_n 1, 1) := by decide +kernel
theorem dX1_moveVehicles_2 : decode cX1_moveVehicles 2 = .ok (.iconst 0, 1) := by decide +kernel
theorem dX1_moveVehicles_3 : decode cX1_moveVehicles 3 = .ok (.istore_n 2, 1) := by decide +kernel
theorem dX1_moveVehicles_4 : decode cX1_moveVehicles 4 = .ok (.iload_n 2, 1) := by decide +kernel
theorem dX1_moveVehicles_5 : decode cX1_moveVehicles 5 = .ok (.aload_n 0, 1) := by decide +kernel
theorem dX1_moveVehicles_6 : decode cX1_moveVehicles 6 = .ok (.getfield 42, 3) := by decide +kernel
theorem dX1_moveVehicles_9 : decode cX1_moveVehicles 9 = .ok (.if_icmp .ge 84, 3) := by decide +kernel
theorem dX1_moveVehicles_12 : decode cX1_moveVehicles 12 = .ok (.aload_n 0, 1) := by decide +kernel
theorem dX1_moveVehicles_13 : decode cX1_moveVehicles 13 = .ok (.getfield 19, 3) := by decide +kernel
theorem dX1_moveVehicles_16 : decode cX1_moveVehicles 16 = .ok (.iload_n 2, 1) := by decide +kernel
theorem dX1_moveVehicles_17 : decode cX1_moveVehicles 17 = .ok (.aaload, 1) := by decide +kernel
theorem dX1_moveVehicles_18 : decode cX1_moveVehicles 18 = .ok (.astore_n 3, 1) := by decide +kernel
theorem dX1_moveVehicles_19 : decode cX1_moveVehicles 19 = .ok (.aload_n 3, 1) := by decide +kernel
theorem dX1_moveVehicles_20 : decode cX1_moveVehicles 20 = .ok (.getfield 141, 3) := by decide +kernel
theorem dX1_moveVehicles_23 : decode cX1_moveVehicles 23 = .ok (.ifCond .eq 64, 3) := by decide +kernel
theorem dX1_moveVehicles_26 : decode cX1_moveVehicles 26 = .ok (.aload_n 3, 1) := by decide +kernel
theorem dX1_moveVehicles_27 : decode cX1_moveVehicles 27 = .ok (.getfield 186, 3) := by decide +kernel
theorem dX1_moveVehicles_30 : decode cX1_moveVehicles 30 = .ok (.aload_n 0, 1) := by decide +kernel
theorem dX1_moveVehicles_31 : decode cX1_moveVehicles 31 = .ok (.getfield 48, 3) := by decide +kernel
theorem dX1_moveVehicles_34 : decode cX1_moveVehicles 34 = .ok (.if_icmp .eq 6, 3) := by decide +kernel
theorem dX1_moveVehicles_37 : decode cX1_moveVehicles 37 = .ok (.goto 50, 3) := by decide +kernel
theorem dX1_moveVehicles_40 : decode cX1_moveVehicles 40 = .ok (.aload_n 3, 1) := by decide +kernel
theorem dX1_moveVehicles_41 : decode cX1_moveVehicles 41 = .ok (.getfield 141, 3) := by decide +kernel
theorem dX1_moveVehicles_44 : decode cX1_moveVehicles 44 = .ok (.iconst 1, 1) := by decide +kernel
theorem dX1_moveVehicles_45 : decode cX1_moveVehicles 45 = .ok (.if_icmp .ne 37, 3) := by decide +kernel
theorem dX1_moveVehicles_48 : decode cX1_moveVehicles 48 = .ok (.iload_n 1, 1) := by decide +kernel
theorem dX1_moveVehicles_49 : decode cX1_moveVehicles 49 = .ok (.aload_n 0, 1) := by decide +kernel
theorem dX1_moveVehicles_50 : decode cX1_moveVehicles 50 = .ok (.aload_n 3, 1) := by decide +kernel
theorem dX1_moveVehicles_51 : decode cX1_moveVehicles 51 = .ok (.invokevirtual 215, 3) := by decide +kernel
theorem dX1_moveVehicles_54 : decode cX1_moveVehicles 54 = .ok (.iadd, 1) := by decide +kernel
theorem dX1_moveVehicles_55 : decode cX1_moveVehicles 55 = .ok (.istore_n 1, 1) := by decide +kernel
theorem dX1_moveVehicles_56 : decode cX1_moveVehicles 56 = .ok (.aload_n 0, 1) := by decide +kernel
theorem dX1_moveVehicles_57 : decode cX1_moveVehicles 57 = .ok (.aload_n 3, 1) := by decide +kernel
theorem dX1_moveVehicles_58 : decode cX1_moveVehicles 58 = .ok (.invokevirtual 218, 3) := by decide +kernel
theorem dX1_moveVehicles_61 : decode cX1_moveVehicles 61 = .ok (.aload_n 3, 1) := by decide +kernel
theorem dX1_moveVehicles_62 : decode cX1_moveVehicles 62 = .ok (.iconst 2, 1) := by decide +kernel
theorem dX1_moveVehicles_63 : decode cX1_moveVehicles 63 = .ok (.putfield 141, 3) := by decide +kernel
theorem dX1_moveVehicles_66 : decode cX1_moveVehicles 66 = .ok (.aload_n 3, 1) := by decide +kernel
theorem dX1_moveVehicles_67 : decode cX1_moveVehicles 67 = .ok (.aload_n 0, 1) := by decide +kernel
theorem dX1_moveVehicles_68 : decode cX1_moveVehicles 68 = .ok (.getfield 48, 3) := by decide +kernel
theorem dX1_moveVehicles_71 : decode cX1_moveVehicles 71 = .ok (.aload_n 3, 1) := by decide +kernel
theorem dX1_moveVehicles_72 : decode cX1_moveVehicles 72 = .ok (.getfield 183, 3) := by decide +kernel
theorem dX1_moveVehicles_75 : decode cX1_moveVehicles 75 = .ok (.iadd, 1) := by decide +kernel
theorem dX1_moveVehicles_76 : decode cX1_moveVehicles 76 = .ok (.putfield 186, 3) := by decide +kernel
theorem dX1_moveVehicles_79 : decode cX1_moveVehicles 79 = .ok (.goto 8, 3) := by decide +kernel
theorem dX1_moveVehicles_82 : decode cX1_moveVehicles 82 = .ok (.aload_n 0, 1) := by decide +kernel
theorem dX1_moveVehicles_83 : decode cX1_moveVehicles 83 = .ok (.aload_n 3, 1) := by decide +kernel
theorem dX1_moveVehicles_84 : decode cX1_moveVehicles 84 = .ok (.invokevirtual 221, 3) := by decide +kernel
theorem dX1_moveVehicles_87 : decode cX1_moveVehicles 87 = .ok (.iinc 2 1, 3) := by decide +kernel
theorem dX1_moveVehicles_90 : decode cX1_moveVehicles 90 = .ok (.goto (-86), 3) := by decide +kernel
theorem dX1_moveVehicles_93 : decode cX1_moveVehicles 93 = .ok (.iload_n 1, 1) := by decide +kernel
theorem dX1_moveVehicles_94 : decode cX1_moveVehicles 94 = .ok (.ireturn, 1) := by decide +kernel
theorem dX1_deliverLoad_0 : decode cX1_deliverLoad 0 = .ok (.iconst 0, 1) := by decide +kernel
theorem dX1_deliverLoad_1 : decode cX1_deliverLoad 1 = .ok (.istore_n 2, 1) := by decide +kernel
theorem dX1_deliverLoad_2 : decode cX1_deliverLoad 2 = .ok (.iconst 0, 1) := by decide +kernel
theorem dX1_deliverLoad_3 : decode cX1_deliverLoad 3 = .ok (.istore_n 3, 1) := by decide +kernel
theorem dX1_deliverLoad_4 : decode cX1_deliverLoad 4 = .ok (.iload_n 3, 1) := by decide +kernel
theorem dX1_deliverLoad_5 : decode cX1_deliverLoad 5 = .ok (.aload_n 0, 1) := by decide +kernel
theorem dX1_deliverLoad_6 : decode cX1_deliverLoad 6 = .ok (.getfield 38, 3) := by decide +kernel
theorem dX1_deliverLoad_9 : decode cX1_deliverLoad 9 = .ok (.if_icmp .ge 113, 3) := by decide +kernel
theorem dX1_deliverLoad_12 : decode cX1_deliverLoad 12 = .ok (.aload_n 0, 1) := by decide +kernel
theorem dX1_deliverLoad_13 : decode cX1_deliverLoad 13 = .ok (.getfield 11, 3) := by decide +kernel
theorem dX1_deliverLoad_16 : decode cX1_deliverLoad 16 = .ok (.iload_n 3, 1) := by decide +kernel
theorem dX1_deliverLoad_17 : decode cX1_deliverLoad 17 = .ok (.aaload, 1) := by decide +kernel
theorem dX1_deliverLoad_18 : decode cX1_deliverLoad 18 = .ok (.astore 4, 2) := by decide +kernel
theorem dX1_deliverLoad_20 : decode cX1_deliverLoad 20 = .ok (.aload 4, 2) := by decide +kernel
theorem dX1_deliverLoad_22 : decode cX1_deliverLoad 22 = .ok (.aload_n 1, 1) := by decide +kernel
theorem dX1_deliverLoad_23 : decode cX1_deliverLoad 23 = .ok (.invokevirtual 175, 3) := by decide +kernel
theorem dX1_deliverLoad_26 : decode cX1_deliverLoad 26 = .ok (.ifCond .eq 90, 3) := by decide +kernel
theorem dX1_deliverLoad_29 : decode cX1_deliverLoad 29 = .ok (.aload 4, 2) := by decide +kernel
theorem dX1_deliverLoad_31 : decode cX1_deliverLoad 31 = .ok (.aload_n 0, 1) := by decide +kernel
theorem dX1_deliverLoad_32 : decode cX1_deliverLoad 32 = .ok (.getfield 48, 3) := by decide +kernel
theorem dX1_deliverLoad_35 : decode cX1_deliverLoad 35 = .ok (.putfield 224, 3) := by decide +kernel
theorem dX1_deliverLoad_38 : decode cX1_deliverLoad 38 = .ok (.aload 4, 2) := by decide +kernel
theorem dX1_deliverLoad_40 : decode cX1_deliverLoad 40 = .ok (.aload_n 0, 1) := by decide +kernel
theorem dX1_deliverLoad_41 : decode cX1_deliverLoad 41 = .ok (.getfield 48, 3) := by decide +kernel
theorem dX1_deliverLoad_44 : decode cX1_deliverLoad 44 = .ok (.aload 4, 2) := by decide +kernel
theorem dX1_deliverLoad_46 : decode cX1_deliverLoad 46 = .ok (.getfield 95, 3) := by decide +kernel
theorem dX1_deliverLoad_49 : decode cX1_deliverLoad 49 = .ok (.if_icmp .le 7, 3) := by decide +kernel
theorem dX1_deliverLoad_52 : decode cX1_deliverLoad 52 = .ok (.iconst 4, 1) := by decide +kernel
theorem dX1_deliverLoad_53 : decode cX1_deliverLoad 53 = .ok (.goto 4, 3) := by decide +kernel
theorem dX1_deliverLoad_56 : decode cX1_deliverLoad 56 = .ok (.iconst 3, 1) := by decide +kernel
theorem dX1_deliverLoad_57 : decode cX1_deliverLoad 57 = .ok (.putfield 79, 3) := by decide +kernel
theorem dX1_deliverLoad_60 : decode cX1_deliverLoad 60 = .ok (.aload 4, 2) := by decide +kernel
theorem dX1_deliverLoad_62 : decode cX1_deliverLoad 62 = .ok (.getfield 79, 3) := by decide +kernel
theorem dX1_deliverLoad_65 : decode cX1_deliverLoad 65 = .ok (.iconst 3, 1) := by decide +kernel
theorem dX1_deliverLoad_66 : decode cX1_deliverLoad 66 = .ok (.if_icmp .ne 47, 3) := by decide +kernel
theorem dX1_deliverLoad_69 : decode cX1_deliverLoad 69 = .ok (.aload_n 0, 1) := by decide +kernel
theorem dX1_deliverLoad_70 : decode cX1_deliverLoad 70 = .ok (.dup, 1) := by decide +kernel
theorem dX1_deliverLoad_71 : decode cX1_deliverLoad 71 = .ok (.getfield 51, 3) := by decide +kernel
theorem dX1_deliverLoad_74 : decode cX1_deliverLoad 74 = .ok (.aload 4, 2) := by decide +kernel
theorem dX1_deliverLoad_76 : decode cX1_deliverLoad 76 = .ok (.getfield 98, 3) := by decide +kernel
theorem dX1_deliverLoad_79 : decode cX1_deliverLoad 79 = .ok (.iadd, 1) := by decide +kernel
theorem dX1_deliverLoad_80 : decode cX1_deliverLoad 80 = .ok (.putfield 51, 3) := by decide +kernel
theorem dX1_deliverLoad_83 : decode cX1_deliverLoad 83 = .ok (.aload_n 0, 1) := by decide +kernel
theorem dX1_deliverLoad_84 : decode cX1_deliverLoad 84 = .ok (.dup, 1) := by decide +kernel
theorem dX1_deliverLoad_85 : decode cX1_deliverLoad 85 = .ok (.getfield 60, 3) := by decide +kernel
theorem dX1_deliverLoad_88 : decode cX1_deliverLoad 88 = .ok (.aload_n 0, 1) := by decide +kernel
theorem dX1_deliverLoad_89 : decode cX1_deliverLoad 89 = .ok (.getfield 29, 3) := by decide +kernel
theorem dX1_deliverLoad_92 : decode cX1_deliverLoad 92 = .ok (.iconst 2, 1) := by decide +kernel
theorem dX1_deliverLoad_93 : decode cX1_deliverLoad 93 = .ok (.iaload, 1) := by decide +kernel
theorem dX1_deliverLoad_94 : decode cX1_deliverLoad 94 = .ok (.iconst 0, 1) := by decide +kernel
theorem dX1_deliverLoad_95 : decode cX1_deliverLoad 95 = .ok (.aload 4, 2) := by decide +kernel
theorem dX1_deliverLoad_97 : decode cX1_deliverLoad 97 = .ok (.getfield 92, 3) := by decide +kernel
theorem dX1_deliverLoad_100 : decode cX1_deliverLoad 100 = .ok (.aload_n 0, 1) := by decide +kernel
theorem dX1_deliverLoad_101 : decode cX1_deliverLoad 101 = .ok (.getfield 48, 3) := by decide +kernel
theorem dX1_deliverLoad_104 : decode cX1_deliverLoad 104 = .ok (.isub, 1) := by decide +kernel
theorem dX1_deliverLoad_105 : decode cX1_deliverLoad 105 = .ok (.invokestatic 132, 3) := by decide +kernel
theorem dX1_deliverLoad_108 : decode cX1_deliverLoad 108 = .ok (.imul, 1) := by decide +kernel
theorem dX1_deliverLoad_109 : decode cX1_deliverLoad 109 = .ok (.iadd, 1) := by decide +kernel
theorem dX1_deliverLoad_110 : decode cX1_deliverLoad 110 = .ok (.putfield 60, 3) := by decide +kernel
theorem dX1_deliverLoad_113 : decode cX1_deliverLoad 113 = .ok (.iinc 2 1, 3) := by decide +kernel
theorem dX1_deliverLoad_116 : decode cX1_deliverLoad 116 = .ok (.iinc 3 1, 3) := by decide +kernel
theorem dX1_deliverLoad_119 : decode cX1_deliverLoad 119 = .ok (.goto (-115), 3) := by decide +kernel
theorem dX1_deliverLoad_122 : decode cX1_deliverLoad 122 = .ok (.iload_n 2, 1) := by decide +kernel
theorem dX1_deliverLoad_123 : decode cX1_deliverLoad 123 = .ok (.ireturn, 1) := by decide +kernel
theorem dX1_takeOffers_0 : decode cX1_takeOffers 0 = .ok (.aload_n 1, 1) := by decide +kernel
theorem dX1_takeOffers_1 : decode cX1_takeOffers 1 = .ok (.getfield 135, 3) := by decide +kernel
theorem dX1_takeOffers_4 : decode cX1_takeOffers 4 = .ok (.istore_n 2, 1) := by decide +kernel
theorem dX1_takeOffers_5 : decode cX1_takeOffers 5 = .ok (.aload_n 1, 1) := by decide +kernel
theorem dX1_takeOffers_6 : decode cX1_takeOffers 6 = .ok (.getfield 138, 3) := by decide +kernel
theorem dX1_takeOffers_9 : decode cX1_takeOffers 9 = .ok (.istore_n 3, 1) := by decide +kernel
theorem dX1_takeOffers_10 : decode cX1_takeOffers 10 = .ok (.iconst 0, 1) := by decide +kernel
theorem dX1_takeOffers_11 : decode cX1_takeOffers 11 = .ok (.istore 4, 2) := by decide +kernel
theorem dX1_takeOffers_13 : decode cX1_takeOffers 13 = .ok (.iload 4, 2) := by decide +kernel
theorem dX1_takeOffers_15 : decode cX1_takeOffers 15 = .ok (.bipush 10, 2) := by decide +kernel
theorem dX1_takeOffers_17 : decode cX1_takeOffers 17 = .ok (.if_icmp .ge 81, 3) := by decide +kernel
theorem dX1_takeOffers_20 : decode cX1_takeOffers 20 = .ok (.aload_n 0, 1) := by decide +kernel
theorem dX1_takeOffers_21 : decode cX1_takeOffers 21 = .ok (.aload_n 1, 1) := by decide +kernel
theorem dX1_takeOffers_22 : decode cX1_takeOffers 22 = .ok (.getfield 182, 3) := by decide +kernel
theorem dX1_takeOffers_25 : decode cX1_takeOffers 25 = .ok (.iload_n 2, 1) := by decide +kernel
theorem dX1_takeOffers_26 : decode cX1_takeOffers 26 = .ok (.iload_n 3, 1) := by decide +kernel
theorem dX1_takeOffers_27 : decode cX1_takeOffers 27 = .ok (.invokevirtual 227, 3) := by decide +kernel
theorem dX1_takeOffers_30 : decode cX1_takeOffers 30 = .ok (.istore 5, 2) := by decide +kernel
theorem dX1_takeOffers_32 : decode cX1_takeOffers 32 = .ok (.iload 5, 2) := by decide +kernel
theorem dX1_takeOffers_34 : decode cX1_takeOffers 34 = .ok (.iconst (-1), 1) := by decide +kernel
theorem dX1_takeOffers_35 : decode cX1_takeOffers 35 = .ok (.if_icmp .ne 6, 3) := by decide +kernel
theorem dX1_takeOffers_38 : decode cX1_takeOffers 38 = .ok (.goto 60, 3) := by decide +kernel
theorem dX1_takeOffers_41 : decode cX1_takeOffers 41 = .ok (.iload_n 2, 1) := by decide +kernel
theorem dX1_takeOffers_42 : decode cX1_takeOffers 42 = .ok (.aload_n 0, 1) := by decide +kernel
theorem dX1_takeOffers_43 : decode cX1_takeOffers 43 = .ok (.getfield 25, 3) := by decide +kernel
theorem dX1_takeOffers_46 : decode cX1_takeOffers 46 = .ok (.iload 5, 2) := by decide +kernel
theorem dX1_takeOffers_48 : decode cX1_takeOffers 48 = .ok (.aaload, 1) := by decide +kernel
theorem dX1_takeOffers_49 : decode cX1_takeOffers 49 = .ok (.getfield 190, 3) := by decide +kernel
theorem dX1_takeOffers_52 : decode cX1_takeOffers 52 = .ok (.isub, 1) := by decide +kernel
theorem dX1_takeOffers_53 : decode cX1_takeOffers 53 = .ok (.istore_n 2, 1) := by decide +kernel
theorem dX1_takeOffers_54 : decode cX1_takeOffers 54 = .ok (.iload_n 3, 1) := by decide +kernel
theorem dX1_takeOffers_55 : decode cX1_takeOffers 55 = .ok (.aload_n 0, 1) := by decide +kernel
theorem dX1_takeOffers_56 : decode cX1_takeOffers 56 = .ok (.getfield 25, 3) := by decide +kernel
theorem dX1_takeOffers_59 : decode cX1_takeOffers 59 = .ok (.iload 5, 2) := by decide +kernel
theorem dX1_takeOffers_61 : decode cX1_takeOffers 61 = .ok (.aaload, 1) := by decide +kernel
theorem dX1_takeOffers_62 : decode cX1_takeOffers 62 = .ok (.getfield 191, 3) := by decide +kernel
theorem dX1_takeOffers_65 : decode cX1_takeOffers 65 = .ok (.isub, 1) := by decide +kernel
theorem dX1_takeOffers_66 : decode cX1_takeOffers 66 = .ok (.istore_n 3, 1) := by decide +kernel
theorem dX1_takeOffers_67 : decode cX1_takeOffers 67 = .ok (.aload_n 1, 1) := by decide +kernel
theorem dX1_takeOffers_68 : decode cX1_takeOffers 68 = .ok (.dup, 1) := by decide +kernel
theorem dX1_takeOffers_69 : decode cX1_takeOffers 69 = .ok (.getfield 142, 3) := by decide +kernel
theorem dX1_takeOffers_72 : decode cX1_takeOffers 72 = .ok (.aload_n 0, 1) := by decide +kernel
theorem dX1_takeOffers_73 : decode cX1_takeOffers 73 = .ok (.getfield 25, 3) := by decide +kernel
theorem dX1_takeOffers_76 : decode cX1_takeOffers 76 = .ok (.iload 5, 2) := by decide +kernel
theorem dX1_takeOffers_78 : decode cX1_takeOffers 78 = .ok (.aaload, 1) := by decide +kernel
theorem dX1_takeOffers_79 : decode cX1_takeOffers 79 = .ok (.getfield 192, 3) := by decide +kernel
theorem dX1_takeOffers_82 : decode cX1_takeOffers 82 = .ok (.iadd, 1) := by decide +kernel
theorem dX1_takeOffers_83 : decode cX1_takeOffers 83 = .ok (.putfield 142, 3) := by decide +kernel
theorem dX1_takeOffers_86 : decode cX1_takeOffers 86 = .ok (.aload_n 0, 1) := by decide +kernel
theorem dX1_takeOffers_87 : decode cX1_takeOffers 87 = .ok (.iload 5, 2) := by decide +kernel
theorem dX1_takeOffers_89 : decode cX1_takeOffers 89 = .ok (.invokevirtual 231, 3) := by decide +kernel
theorem dX1_takeOffers_92 : decode cX1_takeOffers 92 = .ok (.iinc 4 1, 3) := by decide +kernel
theorem dX1_takeOffers_95 : decode cX1_takeOffers 95 = .ok (.goto (-82), 3) := by decide +kernel
theorem dX1_takeOffers_98 : decode cX1_takeOffers 98 = .ok (.return_, 1) := by decide +kernel
theorem dX1_bestOffer_0 : decode cX1_bestOffer 0 = .ok (.iconst (-1), 1) := by decide +kernel
theorem dX1_bestOffer_1 : decode cX1_bestOffer 1 = .ok (.istore 4, 2) := by decide +kernel
theorem dX1_bestOffer_3 : decode cX1_bestOffer 3 = .ok (.iconst (-1), 1) := by decide +kernel
theorem dX1_bestOffer_4 : decode cX1_bestOffer 4 = .ok (.istore 5, 2) := by decide +kernel
theorem dX1_bestOffer_6 : decode cX1_bestOffer 6 = .ok (.iconst 0, 1) := by decide +kernel
theorem dX1_bestOffer_7 : decode cX1_bestOffer 7 = .ok (.istore 6, 2) := by decide +kernel
theorem dX1_bestOffer_9 : decode cX1_bestOffer 9 = .ok (.iload 6, 2) := by decide +kernel
theorem dX1_bestOffer_11 : decode cX1_bestOffer 11 = .ok (.aload_n 0, 1) := by decide +kernel
theorem dX1_bestOffer_12 : decode cX1_bestOffer 12 = .ok (.getfield 45, 3) := by decide +kernel
theorem dX1_bestOffer_15 : decode cX1_bestOffer 15 = .ok (.if_icmp .ge 90, 3) := by decide +kernel
theorem dX1_bestOffer_18 : decode cX1_bestOffer 18 = .ok (.aload_n 0, 1) := by decide +kernel
theorem dX1_bestOffer_19 : decode cX1_bestOffer 19 = .ok (.getfield 25, 3) := by decide +kernel
theorem dX1_bestOffer_22 : decode cX1_bestOffer 22 = .ok (.iload 6, 2) := by decide +kernel
theorem dX1_bestOffer_24 : decode cX1_bestOffer 24 = .ok (.aaload, 1) := by decide +kernel
theorem dX1_bestOffer_25 : decode cX1_bestOffer 25 = .ok (.astore 7, 2) := by decide +kernel
theorem dX1_bestOffer_27 : decode cX1_bestOffer 27 = .ok (.aload 7, 2) := by decide +kernel
theorem dX1_bestOffer_29 : decode cX1_bestOffer 29 = .ok (.getfield 189, 3) := by decide +kernel
theorem dX1_bestOffer_32 : decode cX1_bestOffer 32 = .ok (.iload_n 1, 1) := by decide +kernel
theorem dX1_bestOffer_33 : decode cX1_bestOffer 33 = .ok (.if_icmp .ne 37, 3) := by decide +kernel
theorem dX1_bestOffer_36 : decode cX1_bestOffer 36 = .ok (.aload 7, 2) := by decide +kernel
theorem dX1_bestOffer_38 : decode cX1_bestOffer 38 = .ok (.getfield 195, 3) := by decide +kernel
theorem dX1_bestOffer_41 : decode cX1_bestOffer 41 = .ok (.aload_n 0, 1) := by decide +kernel
theorem dX1_bestOffer_42 : decode cX1_bestOffer 42 = .ok (.getfield 48, 3) := by decide +kernel
theorem dX1_bestOffer_45 : decode cX1_bestOffer 45 = .ok (.if_icmp .lt 25, 3) := by decide +kernel
theorem dX1_bestOffer_48 : decode cX1_bestOffer 48 = .ok (.aload 7, 2) := by decide +kernel
theorem dX1_bestOffer_50 : decode cX1_bestOffer 50 = .ok (.getfield 190, 3) := by decide +kernel
theorem dX1_bestOffer_53 : decode cX1_bestOffer 53 = .ok (.iload_n 2, 1) := by decide +kernel
theorem dX1_bestOffer_54 : decode cX1_bestOffer 54 = .ok (.if_icmp .gt 16, 3) := by decide +kernel
theorem dX1_bestOffer_57 : decode cX1_bestOffer 57 = .ok (.aload 7, 2) := by decide +kernel
theorem dX1_bestOffer_59 : decode cX1_bestOffer 59 = .ok (.getfield 191, 3) := by decide +kernel
theorem dX1_bestOffer_62 : decode cX1_bestOffer 62 = .ok (.iload_n 3, 1) := by decide +kernel
theorem dX1_bestOffer_63 : decode cX1_bestOffer 63 = .ok (.if_icmp .gt 7, 3) := by decide +kernel
theorem dX1_bestOffer_66 : decode cX1_bestOffer 66 = .ok (.iconst 1, 1) := by decide +kernel
theorem dX1_bestOffer_67 : decode cX1_bestOffer 67 = .ok (.goto 4, 3) := by decide +kernel
theorem dX1_bestOffer_70 : decode cX1_bestOffer 70 = .ok (.iconst 0, 1) := by decide +kernel
theorem dX1_bestOffer_71 : decode cX1_bestOffer 71 = .ok (.istore 8, 2) := by decide +kernel
theorem dX1_bestOffer_73 : decode cX1_bestOffer 73 = .ok (.iload 8, 2) := by decide +kernel
theorem dX1_bestOffer_75 : decode cX1_bestOffer 75 = .ok (.ifCond .eq 24, 3) := by decide +kernel
theorem dX1_bestOffer_78 : decode cX1_bestOffer 78 = .ok (.aload 7, 2) := by decide +kernel
theorem dX1_bestOffer_80 : decode cX1_bestOffer 80 = .ok (.getfield 192, 3) := by decide +kernel
theorem dX1_bestOffer_83 : decode cX1_bestOffer 83 = .ok (.iload 5, 2) := by decide +kernel
theorem dX1_bestOffer_85 : decode cX1_bestOffer 85 = .ok (.if_icmp .le 14, 3) := by decide +kernel
theorem dX1_bestOffer_88 : decode cX1_bestOffer 88 = .ok (.iload 6, 2) := by decide +kernel
theorem dX1_bestOffer_90 : decode cX1_bestOffer 90 = .ok (.istore 4, 2) := by decide +kernel
theorem dX1_bestOffer_92 : decode cX1_bestOffer 92 = .ok (.aload 7, 2) := by decide +kernel
theorem dX1_bestOffer_94 : decode cX1_bestOffer 94 = .ok (.getfield 192, 3) := by decide +kernel
theorem dX1_bestOffer_97 : decode cX1_bestOffer 97 = .ok (.istore 5, 2) := by decide +kernel
theorem dX1_bestOffer_99 : decode cX1_bestOffer 99 = .ok (.iinc 6 1, 3) := by decide +kernel
theorem dX1_bestOffer_102 : decode cX1_bestOffer 102 = .ok (.goto (-93), 3) := by decide +kernel
theorem dX1_bestOffer_105 : decode cX1_bestOffer 105 = .ok (.iload 4, 2) := by decide +kernel
theorem dX1_bestOffer_107 : decode cX1_bestOffer 107 = .ok (.ireturn, 1) := by decide +kernel
theorem dX1_comeBack_0 : decode cX1_comeBack 0 = .ok (.aload_n 1, 1) := by decide +kernel
theorem dX1_comeBack_1 : decode cX1_comeBack 1 = .ok (.iconst 0, 1) := by decide +kernel
theorem dX1_comeBack_2 : decode cX1_comeBack 2 = .ok (.putfield 141, 3) := by decide +kernel
theorem dX1_comeBack_5 : decode cX1_comeBack 5 = .ok (.aload_n 1, 1) := by decide +kernel
theorem dX1_comeBack_6 : decode cX1_comeBack 6 = .ok (.dup, 1) := by decide +kernel
theorem dX1_comeBack_7 : decode cX1_comeBack 7 = .ok (.getfield 145, 3) := by decide +kernel
theorem dX1_comeBack_10 : decode cX1_comeBack 10 = .ok (.iconst 1, 1) := by decide +kernel
theorem dX1_comeBack_11 : decode cX1_comeBack 11 = .ok (.iadd, 1) := by decide +kernel
theorem dX1_comeBack_12 : decode cX1_comeBack 12 = .ok (.putfield 145, 3) := by decide +kernel
theorem dX1_comeBack_15 : decode cX1_comeBack 15 = .ok (.aload_n 0, 1) := by decide +kernel
theorem dX1_comeBack_16 : decode cX1_comeBack 16 = .ok (.dup, 1) := by decide +kernel
theorem dX1_comeBack_17 : decode cX1_comeBack 17 = .ok (.getfield 54, 3) := by decide +kernel
theorem dX1_comeBack_20 : decode cX1_comeBack 20 = .ok (.aload_n 1, 1) := by decide +kernel
theorem dX1_comeBack_21 : decode cX1_comeBack 21 = .ok (.getfield 142, 3) := by decide +kernel
theorem dX1_comeBack_24 : decode cX1_comeBack 24 = .ok (.iadd, 1) := by decide +kernel
theorem dX1_comeBack_25 : decode cX1_comeBack 25 = .ok (.putfield 54, 3) := by decide +kernel
theorem dX1_comeBack_28 : decode cX1_comeBack 28 = .ok (.aload_n 1, 1) := by decide +kernel
theorem dX1_comeBack_29 : decode cX1_comeBack 29 = .ok (.iconst 0, 1) := by decide +kernel
theorem dX1_comeBack_30 : decode cX1_comeBack 30 = .ok (.putfield 142, 3) := by decide +kernel
theorem dX1_comeBack_33 : decode cX1_comeBack 33 = .ok (.return_, 1) := by decide +kernel
theorem dX1_dropOldOffers_0 : decode cX1_dropOldOffers 0 = .ok (.aload_n 0, 1) := by decide +kernel
theorem dX1_dropOldOffers_1 : decode cX1_dropOldOffers 1 = .ok (.getfield 45, 3) := by decide +kernel
theorem dX1_dropOldOffers_4 : decode cX1_dropOldOffers 4 = .ok (.iconst 1, 1) := by decide +kernel
theorem dX1_dropOldOffers_5 : decode cX1_dropOldOffers 5 = .ok (.isub, 1) := by decide +kernel
theorem dX1_dropOldOffers_6 : decode cX1_dropOldOffers 6 = .ok (.istore_n 1, 1) := by decide +kernel
theorem dX1_dropOldOffers_7 : decode cX1_dropOldOffers 7 = .ok (.iload_n 1, 1) := by decide +kernel
theorem dX1_dropOldOffers_8 : decode cX1_dropOldOffers 8 = .ok (.ifCond .lt 30, 3) := by decide +kernel
theorem dX1_dropOldOffers_11 : decode cX1_dropOldOffers 11 = .ok (.aload_n 0, 1) := by decide +kernel
theorem dX1_dropOldOffers_12 : decode cX1_dropOldOffers 12 = .ok (.getfield 25, 3) := by decide +kernel
theorem dX1_dropOldOffers_15 : decode cX1_dropOldOffers 15 = .ok (.iload_n 1, 1) := by decide +kernel
theorem dX1_dropOldOffers_16 : decode cX1_dropOldOffers 16 = .ok (.aaload, 1) := by decide +kernel
theorem dX1_dropOldOffers_17 : decode cX1_dropOldOffers 17 = .ok (.getfield 195, 3) := by decide +kernel
theorem dX1_dropOldOffers_20 : decode cX1_dropOldOffers 20 = .ok (.aload_n 0, 1) := by decide +kernel
theorem dX1_dropOldOffers_21 : decode cX1_dropOldOffers 21 = .ok (.getfield 48, 3) := by decide +kernel
theorem dX1_dropOldOffers_24 : decode cX1_dropOldOffers 24 = .ok (.if_icmp .ge 8, 3) := by decide +kernel
theorem dX1_dropOldOffers_27 : decode cX1_dropOldOffers 27 = .ok (.aload_n 0, 1) := by decide +kernel
theorem dX1_dropOldOffers_28 : decode cX1_dropOldOffers 28 = .ok (.iload_n 1, 1) := by decide +kernel
theorem dX1_dropOldOffers_29 : decode cX1_dropOldOffers 29 = .ok (.invokevirtual 231, 3) := by decide +kernel
theorem dX1_dropOldOffers_32 : decode cX1_dropOldOffers 32 = .ok (.iinc 1 (-1), 3) := by decide +kernel
theorem dX1_dropOldOffers_35 : decode cX1_dropOldOffers 35 = .ok (.goto (-28), 3) := by decide +kernel
theorem dX1_dropOldOffers_38 : decode cX1_dropOldOffers 38 = .ok (.return_, 1) := by decide +kernel
theorem dX1_removeOffer_0 : decode cX1_removeOffer 0 = .ok (.iload_n 1, 1) := by decide +kernel
theorem dX1_removeOffer_1 : decode cX1_removeOffer 1 = .ok (.ifCond .lt 20, 3) := by decide +kernel
theorem dX1_removeOffer_4 : decode cX1_removeOffer 4 = .ok (.iload_n 1, 1) := by decide +kernel
theorem dX1_removeOffer_5 : decode cX1_removeOffer 5 = .ok (.aload_n 0, 1) := by decide +kernel
theorem dX1_removeOffer_6 : decode cX1_removeOffer 6 = .ok (.getfield 45, 3) := by decide +kernel
theorem dX1_removeOffer_9 : decode cX1_removeOffer 9 = .ok (.if_icmp .ge 12, 3) := by decide +kernel
theorem dX1_removeOffer_12 : decode cX1_removeOffer 12 = .ok (.aload_n 0, 1) := by decide +kernel
theorem dX1_removeOffer_13 : decode cX1_removeOffer 13 = .ok (.getfield 45, 3) := by decide +kernel
theorem dX1_removeOffer_16 : decode cX1_removeOffer 16 = .ok (.bipush 10, 2) := by decide +kernel
theorem dX1_removeOffer_18 : decode cX1_removeOffer 18 = .ok (.if_icmp .le 4, 3) := by decide +kernel
theorem dX1_removeOffer_21 : decode cX1_removeOffer 21 = .ok (.return_, 1) := by decide +kernel
theorem dX1_removeOffer_22 : decode cX1_removeOffer 22 = .ok (.aload_n 0, 1) := by decide +kernel
theorem dX1_removeOffer_23 : decode cX1_removeOffer 23 = .ok (.getfield 25, 3) := by decide +kernel
theorem dX1_removeOffer_26 : decode cX1_removeOffer 26 = .ok (.iload_n 1, 1) := by decide +kernel
theorem dX1_removeOffer_27 : decode cX1_removeOffer 27 = .ok (.aaload, 1) := by decide +kernel
theorem dX1_removeOffer_28 : decode cX1_removeOffer 28 = .ok (.astore_n 2, 1) := by decide +kernel
theorem dX1_removeOffer_29 : decode cX1_removeOffer 29 = .ok (.iload_n 1, 1) := by decide +kernel
theorem dX1_removeOffer_30 : decode cX1_removeOffer 30 = .ok (.istore_n 3, 1) := by decide +kernel
theorem dX1_removeOffer_31 : decode cX1_removeOffer 31 = .ok (.iload_n 3, 1) := by decide +kernel
theorem dX1_removeOffer_32 : decode cX1_removeOffer 32 = .ok (.aload_n 0, 1) := by decide +kernel
theorem dX1_removeOffer_33 : decode cX1_removeOffer 33 = .ok (.getfield 45, 3) := by decide +kernel
theorem dX1_removeOffer_36 : decode cX1_removeOffer 36 = .ok (.iconst 1, 1) := by decide +kernel
theorem dX1_removeOffer_37 : decode cX1_removeOffer 37 = .ok (.isub, 1) := by decide +kernel
theorem dX1_removeOffer_38 : decode cX1_removeOffer 38 = .ok (.if_icmp .ge 23, 3) := by decide +kernel
theorem dX1_removeOffer_41 : decode cX1_removeOffer 41 = .ok (.aload_n 0, 1) := by decide +kernel
theorem dX1_removeOffer_42 : decode cX1_removeOffer 42 = .ok (.getfield 25, 3) := by decide +kernel
theorem dX1_removeOffer_45 : decode cX1_removeOffer 45 = .ok (.iload_n 3, 1) := by decide +kernel
theorem dX1_removeOffer_46 : decode cX1_removeOffer 46 = .ok (.aload_n 0, 1) := by decide +kernel
theorem dX1_removeOffer_47 : decode cX1_removeOffer 47 = .ok (.getfield 25, 3) := by decide +kernel
theorem dX1_removeOffer_50 : decode cX1_removeOffer 50 = .ok (.iload_n 3, 1) := by decide +kernel
theorem dX1_removeOffer_51 : decode cX1_removeOffer 51 = .ok (.iconst 1, 1) := by decide +kernel
theorem dX1_removeOffer_52 : decode cX1_removeOffer 52 = .ok (.iadd, 1) := by decide +kernel
theorem dX1_removeOffer_53 : decode cX1_removeOffer 53 = .ok (.aaload, 1) := by decide +kernel
theorem dX1_removeOffer_54 : decode cX1_removeOffer 54 = .ok (.aastore, 1) := by decide +kernel
theorem dX1_removeOffer_55 : decode cX1_removeOffer 55 = .ok (.iinc 3 1, 3) := by decide +kernel
theorem dX1_removeOffer_58 : decode cX1_removeOffer 58 = .ok (.goto (-27), 3) := by decide +kernel
theorem dX1_removeOffer_61 : decode cX1_removeOffer 61 = .ok (.aload_n 0, 1) := by decide +kernel
theorem dX1_removeOffer_62 : decode cX1_removeOffer 62 = .ok (.dup, 1) := by decide +kernel
theorem dX1_removeOffer_63 : decode cX1_removeOffer 63 = .ok (.getfield 45, 3) := by decide +kernel
theorem dX1_removeOffer_66 : decode cX1_removeOffer 66 = .ok (.iconst 1, 1) := by decide +kernel
theorem dX1_removeOffer_67 : decode cX1_removeOffer 67 = .ok (.isub, 1) := by decide +kernel
theorem dX1_removeOffer_68 : decode cX1_removeOffer 68 = .ok (.putfield 45, 3) := by decide +kernel
theorem dX1_removeOffer_71 : decode cX1_removeOffer 71 = .ok (.aload_n 0, 1) := by decide +kernel
theorem dX1_removeOffer_72 : decode cX1_removeOffer 72 = .ok (.getfield 25, 3) := by decide +kernel
theorem dX1_removeOffer_75 : decode cX1_removeOffer 75 = .ok (.aload_n 0, 1) := by decide +kernel
theorem dX1_removeOffer_76 : decode cX1_removeOffer 76 = .ok (.getfield 45, 3) := by decide +kernel
theorem dX1_removeOffer_79 : decode cX1_removeOffer 79 = .ok (.aload_n 2, 1) := by decide +kernel
theorem dX1_removeOffer_80 : decode cX1_removeOffer 80 = .ok (.aastore, 1) := by decide +kernel
theorem dX1_removeOffer_81 : decode cX1_removeOffer 81 = .ok (.return_, 1) := by decide +kernel
theorem dX1_payFees_0 : decode cX1_payFees 0 = .ok (.iconst 0, 1) := by decide +kernel
theorem dX1_payFees_1 : decode cX1_payFees 1 = .ok (.istore_n 1, 1) := by decide +kernel
theorem dX1_payFees_2 : decode cX1_payFees 2 = .ok (.iload_n 1, 1) := by decide +kernel
theorem dX1_payFees_3 : decode cX1_payFees 3 = .ok (.aload_n 0, 1) := by decide +kernel
theorem dX1_payFees_4 : decode cX1_payFees 4 = .ok (.getfield 38, 3) := by decide +kernel
theorem dX1_payFees_7 : decode cX1_payFees 7 = .ok (.if_icmp .ge 60, 3) := by decide +kernel
theorem dX1_payFees_10 : decode cX1_payFees 10 = .ok (.aload_n 0, 1) := by decide +kernel
theorem dX1_payFees_11 : decode cX1_payFees 11 = .ok (.getfield 11, 3) := by decide +kernel
theorem dX1_payFees_14 : decode cX1_payFees 14 = .ok (.iload_n 1, 1) := by decide +kernel
theorem dX1_payFees_15 : decode cX1_payFees 15 = .ok (.aaload, 1) := by decide +kernel
theorem dX1_payFees_16 : decode cX1_payFees 16 = .ok (.astore_n 2, 1) := by decide +kernel
theorem dX1_payFees_17 : decode cX1_payFees 17 = .ok (.aload_n 2, 1) := by decide +kernel
theorem dX1_payFees_18 : decode cX1_payFees 18 = .ok (.invokevirtual 234, 3) := by decide +kernel
theorem dX1_payFees_21 : decode cX1_payFees 21 = .ok (.ifCond .eq 40, 3) := by decide +kernel
theorem dX1_payFees_24 : decode cX1_payFees 24 = .ok (.aload_n 0, 1) := by decide +kernel
theorem dX1_payFees_25 : decode cX1_payFees 25 = .ok (.getfield 48, 3) := by decide +kernel
theorem dX1_payFees_28 : decode cX1_payFees 28 = .ok (.aload_n 2, 1) := by decide +kernel
theorem dX1_payFees_29 : decode cX1_payFees 29 = .ok (.getfield 101, 3) := by decide +kernel
theorem dX1_payFees_32 : decode cX1_payFees 32 = .ok (.isub, 1) := by decide +kernel
theorem dX1_payFees_33 : decode cX1_payFees 33 = .ok (.aload_n 0, 1) := by decide +kernel
theorem dX1_payFees_34 : decode cX1_payFees 34 = .ok (.getfield 29, 3) := by decide +kernel
theorem dX1_payFees_37 : decode cX1_payFees 37 = .ok (.iconst 1, 1) := by decide +kernel
theorem dX1_payFees_38 : decode cX1_payFees 38 = .ok (.iaload, 1) := by decide +kernel
theorem dX1_payFees_39 : decode cX1_payFees 39 = .ok (.if_icmp .le 22, 3) := by decide +kernel
theorem dX1_payFees_42 : decode cX1_payFees 42 = .ok (.aload_n 0, 1) := by decide +kernel
theorem dX1_payFees_43 : decode cX1_payFees 43 = .ok (.dup, 1) := by decide +kernel
theorem dX1_payFees_44 : decode cX1_payFees 44 = .ok (.getfield 57, 3) := by decide +kernel
theorem dX1_payFees_47 : decode cX1_payFees 47 = .ok (.aload_n 2, 1) := by decide +kernel
theorem dX1_payFees_48 : decode cX1_payFees 48 = .ok (.getfield 86, 3) := by decide +kernel
theorem dX1_payFees_51 : decode cX1_payFees 51 = .ok (.bipush 9, 2) := by decide +kernel
theorem dX1_payFees_53 : decode cX1_payFees 53 = .ok (.iadd, 1) := by decide +kernel
theorem dX1_payFees_54 : decode cX1_payFees 54 = .ok (.bipush 10, 2) := by decide +kernel
theorem dX1_payFees_56 : decode cX1_payFees 56 = .ok (.idiv, 1) := by decide +kernel
theorem dX1_payFees_57 : decode cX1_payFees 57 = .ok (.iadd, 1) := by decide +kernel
theorem dX1_payFees_58 : decode cX1_payFees 58 = .ok (.putfield 57, 3) := by decide +kernel
theorem dX1_payFees_61 : decode cX1_payFees 61 = .ok (.iinc 1 1, 3) := by decide +kernel
theorem dX1_payFees_64 : decode cX1_payFees 64 = .ok (.goto (-62), 3) := by decide +kernel
theorem dX1_payFees_67 : decode cX1_payFees 67 = .ok (.return_, 1) := by decide +kernel
theorem dX1_canTake_0 : decode cX1_canTake 0 = .ok (.aload_n 1, 1) := by decide +kernel
theorem dX1_canTake_1 : decode cX1_canTake 1 = .ok (.getfield 141, 3) := by decide +kernel
theorem dX1_canTake_4 : decode cX1_canTake 4 = .ok (.ifCond .ne 10, 3) := by decide +kernel
theorem dX1_canTake_7 : decode cX1_canTake 7 = .ok (.aload_n 2, 1) := by decide +kernel
theorem dX1_canTake_8 : decode cX1_canTake 8 = .ok (.getfield 79, 3) := by decide +kernel
theorem dX1_canTake_11 : decode cX1_canTake 11 = .ok (.ifCond .eq 5, 3) := by decide +kernel
theorem dX1_canTake_14 : decode cX1_canTake 14 = .ok (.iconst 0, 1) := by decide +kernel
theorem dX1_canTake_15 : decode cX1_canTake 15 = .ok (.ireturn, 1) := by decide +kernel
theorem dX1_canTake_16 : decode cX1_canTake 16 = .ok (.aload_n 0, 1) := by decide +kernel
theorem dX1_canTake_17 : decode cX1_canTake 17 = .ok (.aload_n 1, 1) := by decide +kernel
theorem dX1_canTake_18 : decode cX1_canTake 18 = .ok (.invokevirtual 172, 3) := by decide +kernel
theorem dX1_canTake_21 : decode cX1_canTake 21 = .ok (.istore_n 3, 1) := by decide +kernel
theorem dX1_canTake_22 : decode cX1_canTake 22 = .ok (.iload_n 3, 1) := by decide +kernel
theorem dX1_canTake_23 : decode cX1_canTake 23 = .ok (.ifCond .eq 11, 3) := by decide +kernel
theorem dX1_canTake_26 : decode cX1_canTake 26 = .ok (.iload_n 3, 1) := by decide +kernel
theorem dX1_canTake_27 : decode cX1_canTake 27 = .ok (.aload_n 2, 1) := by decide +kernel
theorem dX1_canTake_28 : decode cX1_canTake 28 = .ok (.getfield 83, 3) := by decide +kernel
theorem dX1_canTake_31 : decode cX1_canTake 31 = .ok (.if_icmp .ne 41, 3) := by decide +kernel
theorem dX1_canTake_34 : decode cX1_canTake 34 = .ok (.aload_n 0, 1) := by decide +kernel
theorem dX1_canTake_35 : decode cX1_canTake 35 = .ok (.aload_n 1, 1) := by decide +kernel
theorem dX1_canTake_36 : decode cX1_canTake 36 = .ok (.invokevirtual 160, 3) := by decide +kernel
theorem dX1_canTake_39 : decode cX1_canTake 39 = .ok (.aload_n 2, 1) := by decide +kernel
theorem dX1_canTake_40 : decode cX1_canTake 40 = .ok (.getfield 86, 3) := by decide +kernel
theorem dX1_canTake_43 : decode cX1_canTake 43 = .ok (.iadd, 1) := by decide +kernel
theorem dX1_canTake_44 : decode cX1_canTake 44 = .ok (.aload_n 1, 1) := by decide +kernel
theorem dX1_canTake_45 : decode cX1_canTake 45 = .ok (.getfield 135, 3) := by decide +kernel
theorem dX1_canTake_48 : decode cX1_canTake 48 = .ok (.if_icmp .gt 24, 3) := by decide +kernel
theorem dX1_canTake_51 : decode cX1_canTake 51 = .ok (.aload_n 0, 1) := by decide +kernel
theorem dX1_canTake_52 : decode cX1_canTake 52 = .ok (.aload_n 1, 1) := by decide +kernel
theorem dX1_canTake_53 : decode cX1_canTake 53 = .ok (.invokevirtual 238, 3) := by decide +kernel
theorem dX1_canTake_56 : decode cX1_canTake 56 = .ok (.aload_n 2, 1) := by decide +kernel
theorem dX1_canTake_57 : decode cX1_canTake 57 = .ok (.getfield 89, 3) := by decide +kernel
theorem dX1_canTake_60 : decode cX1_canTake 60 = .ok (.iadd, 1) := by decide +kernel
theorem dX1_canTake_61 : decode cX1_canTake 61 = .ok (.aload_n 1, 1) := by decide +kernel
theorem dX1_canTake_62 : decode cX1_canTake 62 = .ok (.getfield 138, 3) := by decide +kernel
theorem dX1_canTake_65 : decode cX1_canTake 65 = .ok (.if_icmp .gt 7, 3) := by decide +kernel
theorem dX1_canTake_68 : decode cX1_canTake 68 = .ok (.iconst 1, 1) := by decide +kernel
theorem dX1_canTake_69 : decode cX1_canTake 69 = .ok (.goto 4, 3) := by decide +kernel
theorem dX1_canTake_72 : decode cX1_canTake 72 = .ok (.iconst 0, 1) := by decide +kernel
theorem dX1_canTake_73 : decode cX1_canTake 73 = .ok (.ireturn, 1) := by decide +kernel
theorem dX1_loadSize_0 : decode cX1_loadSize 0 = .ok (.iconst 0, 1) := by decide +kernel
theorem dX1_loadSize_1 : decode cX1_loadSize 1 = .ok (.istore_n 2, 1) := by decide +kernel
theorem dX1_loadSize_2 : decode cX1_loadSize 2 = .ok (.iconst 0, 1) := by decide +kernel
theorem dX1_loadSize_3 : decode cX1_loadSize 3 = .ok (.istore_n 3, 1) := by decide +kernel
theorem dX1_loadSize_4 : decode cX1_loadSize 4 = .ok (.iload_n 3, 1) := by decide +kernel
theorem dX1_loadSize_5 : decode cX1_loadSize 5 = .ok (.aload_n 0, 1) := by decide +kernel
theorem dX1_loadSize_6 : decode cX1_loadSize 6 = .ok (.getfield 38, 3) := by decide +kernel
theorem dX1_loadSize_9 : decode cX1_loadSize 9 = .ok (.if_icmp .ge 38, 3) := by decide +kernel
theorem dX1_loadSize_12 : decode cX1_loadSize 12 = .ok (.iload_n 2, 1) := by decide +kernel
theorem dX1_loadSize_13 : decode cX1_loadSize 13 = .ok (.aload_n 0, 1) := by decide +kernel
theorem dX1_loadSize_14 : decode cX1_loadSize 14 = .ok (.getfield 11, 3) := by decide +kernel
theorem dX1_loadSize_17 : decode cX1_loadSize 17 = .ok (.iload_n 3, 1) := by decide +kernel
theorem dX1_loadSize_18 : decode cX1_loadSize 18 = .ok (.aaload, 1) := by decide +kernel
theorem dX1_loadSize_19 : decode cX1_loadSize 19 = .ok (.aload_n 1, 1) := by decide +kernel
theorem dX1_loadSize_20 : decode cX1_loadSize 20 = .ok (.invokevirtual 175, 3) := by decide +kernel
theorem dX1_loadSize_23 : decode cX1_loadSize 23 = .ok (.ifCond .eq 15, 3) := by decide +kernel
theorem dX1_loadSize_26 : decode cX1_loadSize 26 = .ok (.aload_n 0, 1) := by decide +kernel
theorem dX1_loadSize_27 : decode cX1_loadSize 27 = .ok (.getfield 11, 3) := by decide +kernel
theorem dX1_loadSize_30 : decode cX1_loadSize 30 = .ok (.iload_n 3, 1) := by decide +kernel
theorem dX1_loadSize_31 : decode cX1_loadSize 31 = .ok (.aaload, 1) := by decide +kernel
theorem dX1_loadSize_32 : decode cX1_loadSize 32 = .ok (.getfield 86, 3) := by decide +kernel
theorem dX1_loadSize_35 : decode cX1_loadSize 35 = .ok (.goto 4, 3) := by decide +kernel
theorem dX1_loadSize_38 : decode cX1_loadSize 38 = .ok (.iconst 0, 1) := by decide +kernel
theorem dX1_loadSize_39 : decode cX1_loadSize 39 = .ok (.iadd, 1) := by decide +kernel
theorem dX1_loadSize_40 : decode cX1_loadSize 40 = .ok (.istore_n 2, 1) := by decide +kernel
theorem dX1_loadSize_41 : decode cX1_loadSize 41 = .ok (.iinc 3 1, 3) := by decide +kernel
theorem dX1_loadSize_44 : decode cX1_loadSize 44 = .ok (.goto (-40), 3) := by decide +kernel
theorem dX1_loadSize_47 : decode cX1_loadSize 47 = .ok (.iload_n 2, 1) := by decide +kernel
theorem dX1_loadSize_48 : decode cX1_loadSize 48 = .ok (.ireturn, 1) := by decide +kernel
theorem dX1_loadWeight_0 : decode cX1_loadWeight 0 = .ok (.iconst 0, 1) := by decide +kernel
theorem dX1_loadWeight_1 : decode cX1_loadWeight 1 = .ok (.istore_n 2, 1) := by decide +kernel
theorem dX1_loadWeight_2 : decode cX1_loadWeight 2 = .ok (.iconst 0, 1) := by decide +kernel
theorem dX1_loadWeight_3 : decode cX1_loadWeight 3 = .ok (.istore_n 3, 1) := by decide +kernel
theorem dX1_loadWeight_4 : decode cX1_loadWeight 4 = .ok (.iload_n 3, 1) := by decide +kernel
theorem dX1_loadWeight_5 : decode cX1_loadWeight 5 = .ok (.aload_n 0, 1) := by decide +kernel
theorem dX1_loadWeight_6 : decode cX1_loadWeight 6 = .ok (.getfield 38, 3) := by decide +kernel
theorem dX1_loadWeight_9 : decode cX1_loadWeight 9 = .ok (.if_icmp .ge 38, 3) := by decide +kernel
theorem dX1_loadWeight_12 : decode cX1_loadWeight 12 = .ok (.iload_n 2, 1) := by decide +kernel
theorem dX1_loadWeight_13 : decode cX1_loadWeight 13 = .ok (.aload_n 0, 1) := by decide +kernel
theorem dX1_loadWeight_14 : decode cX1_loadWeight 14 = .ok (.getfield 11, 3) := by decide +kernel
theorem dX1_loadWeight_17 : decode cX1_loadWeight 17 = .ok (.iload_n 3, 1) := by decide +kernel
theorem dX1_loadWeight_18 : decode cX1_loadWeight 18 = .ok (.aaload, 1) := by decide +kernel
theorem dX1_loadWeight_19 : decode cX1_loadWeight 19 = .ok (.aload_n 1, 1) := by decide +kernel
theorem dX1_loadWeight_20 : decode cX1_loadWeight 20 = .ok (.invokevirtual 175, 3) := by decide +kernel
theorem dX1_loadWeight_23 : decode cX1_loadWeight 23 = .ok (.ifCond .eq 15, 3) := by decide +kernel
theorem dX1_loadWeight_26 : decode cX1_loadWeight 26 = .ok (.aload_n 0, 1) := by decide +kernel
theorem dX1_loadWeight_27 : decode cX1_loadWeight 27 = .ok (.getfield 11, 3) := by decide +kernel
theorem dX1_loadWeight_30 : decode cX1_loadWeight 30 = .ok (.iload_n 3, 1) := by decide +kernel
theorem dX1_loadWeight_31 : decode cX1_loadWeight 31 = .ok (.aaload, 1) := by decide +kernel
theorem dX1_loadWeight_32 : decode cX1_loadWeight 32 = .ok (.getfield 89, 3) := by decide +kernel
theorem dX1_loadWeight_35 : decode cX1_loadWeight 35 = .ok (.goto 4, 3) := by decide +kernel
theorem dX1_loadWeight_38 : decode cX1_loadWeight 38 = .ok (.iconst 0, 1) := by decide +kernel
theorem dX1_loadWeight_39 : decode cX1_loadWeight 39 = .ok (.iadd, 1) := by decide +kernel
theorem dX1_loadWeight_40 : decode cX1_loadWeight 40 = .ok (.istore_n 2, 1) := by decide +kernel
theorem dX1_loadWeight_41 : decode cX1_loadWeight 41 = .ok (.iinc 3 1, 3) := by decide +kernel
theorem dX1_loadWeight_44 : decode cX1_loadWeight 44 = .ok (.goto (-40), 3) := by decide +kernel
theorem dX1_loadWeight_47 : decode cX1_loadWeight 47 = .ok (.iload_n 2, 1) := by decide +kernel
theorem dX1_loadWeight_48 : decode cX1_loadWeight 48 = .ok (.ireturn, 1) := by decide +kernel
theorem dX1_loadSet_0 : decode cX1_loadSet 0 = .ok (.iconst 0, 1) := by decide +kernel
theorem dX1_loadSet_1 : decode cX1_loadSet 1 = .ok (.istore_n 2, 1) := by decide +kernel
theorem dX1_loadSet_2 : decode cX1_loadSet 2 = .ok (.iconst 0, 1) := by decide +kernel
theorem dX1_loadSet_3 : decode cX1_loadSet 3 = .ok (.istore_n 3, 1) := by decide +kernel
theorem dX1_loadSet_4 : decode cX1_loadSet 4 = .ok (.iload_n 3, 1) := by decide +kernel
theorem dX1_loadSet_5 : decode cX1_loadSet 5 = .ok (.aload_n 0, 1) := by decide +kernel
theorem dX1_loadSet_6 : decode cX1_loadSet 6 = .ok (.getfield 38, 3) := by decide +kernel
theorem dX1_loadSet_9 : decode cX1_loadSet 9 = .ok (.if_icmp .ge 32, 3) := by decide +kernel
theorem dX1_loadSet_12 : decode cX1_loadSet 12 = .ok (.iload_n 2, 1) := by decide +kernel
theorem dX1_loadSet_13 : decode cX1_loadSet 13 = .ok (.aload_n 0, 1) := by decide +kernel
theorem dX1_loadSet_14 : decode cX1_loadSet 14 = .ok (.getfield 11, 3) := by decide +kernel
theorem dX1_loadSet_17 : decode cX1_loadSet 17 = .ok (.iload_n 3, 1) := by decide +kernel
theorem dX1_loadSet_18 : decode cX1_loadSet 18 = .ok (.aaload, 1) := by decide +kernel
theorem dX1_loadSet_19 : decode cX1_loadSet 19 = .ok (.aload_n 1, 1) := by decide +kernel
theorem dX1_loadSet_20 : decode cX1_loadSet 20 = .ok (.invokevirtual 175, 3) := by decide +kernel
theorem dX1_loadSet_23 : decode cX1_loadSet 23 = .ok (.ifCond .eq 9, 3) := by decide +kernel
theorem dX1_loadSet_26 : decode cX1_loadSet 26 = .ok (.iconst 1, 1) := by decide +kernel
theorem dX1_loadSet_27 : decode cX1_loadSet 27 = .ok (.iload_n 3, 1) := by decide +kernel
theorem dX1_loadSet_28 : decode cX1_loadSet 28 = .ok (.ishl, 1) := by decide +kernel
theorem dX1_loadSet_29 : decode cX1_loadSet 29 = .ok (.goto 4, 3) := by decide +kernel
theorem dX1_loadSet_32 : decode cX1_loadSet 32 = .ok (.iconst 0, 1) := by decide +kernel
theorem dX1_loadSet_33 : decode cX1_loadSet 33 = .ok (.ior, 1) := by decide +kernel
theorem dX1_loadSet_34 : decode cX1_loadSet 34 = .ok (.istore_n 2, 1) := by decide +kernel
theorem dX1_loadSet_35 : decode cX1_loadSet 35 = .ok (.iinc 3 1, 3) := by decide +kernel
theorem dX1_loadSet_38 : decode cX1_loadSet 38 = .ok (.goto (-34), 3) := by decide +kernel
theorem dX1_loadSet_41 : decode cX1_loadSet 41 = .ok (.iload_n 2, 1) := by decide +kernel
theorem dX1_loadSet_42 : decode cX1_loadSet 42 = .ok (.ireturn, 1) := by decide +kernel
theorem dX1_loadPlace_0 : decode cX1_loadPlace 0 = .ok (.iconst 0, 1) := by decide +kernel
theorem dX1_loadPlace_1 : decode cX1_loadPlace 1 = .ok (.istore_n 2, 1) := by decide +kernel
theorem dX1_loadPlace_2 : decode cX1_loadPlace 2 = .ok (.iload_n 2, 1) := by decide +kernel
theorem dX1_loadPlace_3 : decode cX1_loadPlace 3 = .ok (.aload_n 0, 1) := by decide +kernel
theorem dX1_loadPlace_4 : decode cX1_loadPlace 4 = .ok (.getfield 38, 3) := by decide +kernel
theorem dX1_loadPlace_7 : decode cX1_loadPlace 7 = .ok (.if_icmp .ge 32, 3) := by decide +kernel
theorem dX1_loadPlace_10 : decode cX1_loadPlace 10 = .ok (.aload_n 0, 1) := by decide +kernel
theorem dX1_loadPlace_11 : decode cX1_loadPlace 11 = .ok (.getfield 11, 3) := by decide +kernel
theorem dX1_loadPlace_14 : decode cX1_loadPlace 14 = .ok (.iload_n 2, 1) := by decide +kernel
theorem dX1_loadPlace_15 : decode cX1_loadPlace 15 = .ok (.aaload, 1) := by decide +kernel
theorem dX1_loadPlace_16 : decode cX1_loadPlace 16 = .ok (.aload_n 1, 1) := by decide +kernel
theorem dX1_loadPlace_17 : decode cX1_loadPlace 17 = .ok (.invokevirtual 175, 3) := by decide +kernel
theorem dX1_loadPlace_20 : decode cX1_loadPlace 20 = .ok (.ifCond .eq 13, 3) := by decide +kernel
theorem dX1_loadPlace_23 : decode cX1_loadPlace 23 = .ok (.aload_n 0, 1) := by decide +kernel
theorem dX1_loadPlace_24 : decode cX1_loadPlace 24 = .ok (.getfield 11, 3) := by decide +kernel
theorem dX1_loadPlace_27 : decode cX1_loadPlace 27 = .ok (.iload_n 2, 1) := by decide +kernel
theorem dX1_loadPlace_28 : decode cX1_loadPlace 28 = .ok (.aaload, 1) := by decide +kernel
theorem dX1_loadPlace_29 : decode cX1_loadPlace 29 = .ok (.getfield 83, 3) := by decide +kernel
theorem dX1_loadPlace_32 : decode cX1_loadPlace 32 = .ok (.ireturn, 1) := by decide +kernel
theorem dX1_loadPlace_33 : decode cX1_loadPlace 33 = .ok (.iinc 2 1, 3) := by decide +kernel
theorem dX1_loadPlace_36 : decode cX1_loadPlace 36 = .ok (.goto (-34), 3) := by decide +kernel
theorem dX1_loadPlace_39 : decode cX1_loadPlace 39 = .ok (.iconst 0, 1) := by decide +kernel
theorem dX1_loadPlace_40 : decode cX1_loadPlace 40 = .ok (.ireturn, 1) := by decide +kernel
theorem dX1_partsOf_0 : decode cX1_partsOf 0 = .ok (.iconst 0, 1) := by decide +kernel
theorem dX1_partsOf_1 : decode cX1_partsOf 1 = .ok (.istore_n 2, 1) := by decide +kernel
theorem dX1_partsOf_2 : decode cX1_partsOf 2 = .ok (.iconst 0, 1) := by decide +kernel
theorem dX1_partsOf_3 : decode cX1_partsOf 3 = .ok (.istore_n 3, 1) := by decide +kernel
theorem dX1_partsOf_4 : decode cX1_partsOf 4 = .ok (.iload_n 3, 1) := by decide +kernel
theorem dX1_partsOf_5 : decode cX1_partsOf 5 = .ok (.aload_n 0, 1) := by decide +kernel
theorem dX1_partsOf_6 : decode cX1_partsOf 6 = .ok (.getfield 38, 3) := by decide +kernel
theorem dX1_partsOf_9 : decode cX1_partsOf 9 = .ok (.if_icmp .ge 57, 3) := by decide +kernel
theorem dX1_partsOf_12 : decode cX1_partsOf 12 = .ok (.aload_n 0, 1) := by decide +kernel
theorem dX1_partsOf_13 : decode cX1_partsOf 13 = .ok (.getfield 11, 3) := by decide +kernel
theorem dX1_partsOf_16 : decode cX1_partsOf 16 = .ok (.iload_n 3, 1) := by decide +kernel
theorem dX1_partsOf_17 : decode cX1_partsOf 17 = .ok (.aaload, 1) := by decide +kernel
theorem dX1_partsOf_18 : decode cX1_partsOf 18 = .ok (.getfield 107, 3) := by decide +kernel
theorem dX1_partsOf_21 : decode cX1_partsOf 21 = .ok (.iload_n 1, 1) := by decide +kernel
theorem dX1_partsOf_22 : decode cX1_partsOf 22 = .ok (.if_icmp .ne 20, 3) := by decide +kernel
theorem dX1_partsOf_25 : decode cX1_partsOf 25 = .ok (.aload_n 0, 1) := by decide +kernel
theorem dX1_partsOf_26 : decode cX1_partsOf 26 = .ok (.getfield 11, 3) := by decide +kernel
theorem dX1_partsOf_29 : decode cX1_partsOf 29 = .ok (.iload_n 3, 1) := by decide +kernel
theorem dX1_partsOf_30 : decode cX1_partsOf 30 = .ok (.aaload, 1) := by decide +kernel
theorem dX1_partsOf_31 : decode cX1_partsOf 31 = .ok (.getfield 79, 3) := by decide +kernel
theorem dX1_partsOf_34 : decode cX1_partsOf 34 = .ok (.iconst 5, 1) := by decide +kernel
theorem dX1_partsOf_35 : decode cX1_partsOf 35 = .ok (.if_icmp .eq 7, 3) := by decide +kernel
theorem dX1_partsOf_38 : decode cX1_partsOf 38 = .ok (.iconst 1, 1) := by decide +kernel
theorem dX1_partsOf_39 : decode cX1_partsOf 39 = .ok (.goto 4, 3) := by decide +kernel
theorem dX1_partsOf_42 : decode cX1_partsOf 42 = .ok (.iconst 0, 1) := by decide +kernel
theorem dX1_partsOf_43 : decode cX1_partsOf 43 = .ok (.istore 4, 2) := by decide +kernel
theorem dX1_partsOf_45 : decode cX1_partsOf 45 = .ok (.iload_n 2, 1) := by decide +kernel
theorem dX1_partsOf_46 : decode cX1_partsOf 46 = .ok (.iload 4, 2) := by decide +kernel
theorem dX1_partsOf_48 : decode cX1_partsOf 48 = .ok (.ifCond .eq 9, 3) := by decide +kernel
theorem dX1_partsOf_51 : decode cX1_partsOf 51 = .ok (.iconst 1, 1) := by decide +kernel
theorem dX1_partsOf_52 : decode cX1_partsOf 52 = .ok (.iload_n 3, 1) := by decide +kernel
theorem dX1_partsOf_53 : decode cX1_partsOf 53 = .ok (.ishl, 1) := by decide +kernel
theorem dX1_partsOf_54 : decode cX1_partsOf 54 = .ok (.goto 4, 3) := by decide +kernel
theorem dX1_partsOf_57 : decode cX1_partsOf 57 = .ok (.iconst 0, 1) := by decide +kernel
theorem dX1_partsOf_58 : decode cX1_partsOf 58 = .ok (.ior, 1) := by decide +kernel
theorem dX1_partsOf_59 : decode cX1_partsOf 59 = .ok (.istore_n 2, 1) := by decide +kernel
theorem dX1_partsOf_60 : decode cX1_partsOf 60 = .ok (.iinc 3 1, 3) := by decide +kernel
theorem dX1_partsOf_63 : decode cX1_partsOf 63 = .ok (.goto (-59), 3) := by decide +kernel
theorem dX1_partsOf_66 : decode cX1_partsOf 66 = .ok (.iload_n 2, 1) := by decide +kernel
theorem dX1_partsOf_67 : decode cX1_partsOf 67 = .ok (.ireturn, 1) := by decide +kernel
theorem dX1_hallSet_0 : decode cX1_hallSet 0 = .ok (.iconst 0, 1) := by decide +kernel
theorem dX1_hallSet_1 : decode cX1_hallSet 1 = .ok (.istore_n 1, 1) := by decide +kernel
theorem dX1_hallSet_2 : decode cX1_hallSet 2 = .ok (.iconst 0, 1) := by decide +kernel
theorem dX1_hallSet_3 : decode cX1_hallSet 3 = .ok (.istore_n 2, 1) := by decide +kernel
theorem dX1_hallSet_4 : decode cX1_hallSet 4 = .ok (.iload_n 2, 1) := by decide +kernel
theorem dX1_hallSet_5 : decode cX1_hallSet 5 = .ok (.aload_n 0, 1) := by decide +kernel
theorem dX1_hallSet_6 : decode cX1_hallSet 6 = .ok (.getfield 38, 3) := by decide +kernel
theorem dX1_hallSet_9 : decode cX1_hallSet 9 = .ok (.if_icmp .ge 31, 3) := by decide +kernel
theorem dX1_hallSet_12 : decode cX1_hallSet 12 = .ok (.iload_n 1, 1) := by decide +kernel
theorem dX1_hallSet_13 : decode cX1_hallSet 13 = .ok (.aload_n 0, 1) := by decide +kernel
theorem dX1_hallSet_14 : decode cX1_hallSet 14 = .ok (.getfield 11, 3) := by decide +kernel
theorem dX1_hallSet_17 : decode cX1_hallSet 17 = .ok (.iload_n 2, 1) := by decide +kernel
theorem dX1_hallSet_18 : decode cX1_hallSet 18 = .ok (.aaload, 1) := by decide +kernel
theorem dX1_hallSet_19 : decode cX1_hallSet 19 = .ok (.invokevirtual 234, 3) := by decide +kernel
theorem dX1_hallSet_22 : decode cX1_hallSet 22 = .ok (.ifCond .eq 9, 3) := by decide +kernel
theorem dX1_hallSet_25 : decode cX1_hallSet 25 = .ok (.iconst 1, 1) := by decide +kernel
theorem dX1_hallSet_26 : decode cX1_hallSet 26 = .ok (.iload_n 2, 1) := by decide +kernel
theorem dX1_hallSet_27 : decode cX1_hallSet 27 = .ok (.ishl, 1) := by decide +kernel
theorem dX1_hallSet_28 : decode cX1_hallSet 28 = .ok (.goto 4, 3) := by decide +kernel
theorem dX1_hallSet_31 : decode cX1_hallSet 31 = .ok (.iconst 0, 1) := by decide +kernel
theorem dX1_hallSet_32 : decode cX1_hallSet 32 = .ok (.ior, 1) := by decide +kernel
theorem dX1_hallSet_33 : decode cX1_hallSet 33 = .ok (.istore_n 1, 1) := by decide +kernel
theorem dX1_hallSet_34 : decode cX1_hallSet 34 = .ok (.iinc 2 1, 3) := by decide +kernel
theorem dX1_hallSet_37 : decode cX1_hallSet 37 = .ok (.goto (-33), 3) := by decide +kernel
theorem dX1_hallSet_40 : decode cX1_hallSet 40 = .ok (.iload_n 1, 1) := by decide +kernel
theorem dX1_hallSet_41 : decode cX1_hallSet 41 = .ok (.ireturn, 1) := by decide +kernel
theorem dX1_hopelessSet_0 : decode cX1_hopelessSet 0 = .ok (.iconst 0, 1) := by decide +kernel
theorem dX1_hopelessSet_1 : decode cX1_hopelessSet 1 = .ok (.istore_n 1, 1) := by decide +kernel
theorem dX1_hopelessSet_2 : decode cX1_hopelessSet 2 = .ok (.iconst 0, 1) := by decide +kernel
theorem dX1_hopelessSet_3 : decode cX1_hopelessSet 3 = .ok (.istore_n 2, 1) := by decide +kernel
theorem dX1_hopelessSet_4 : decode cX1_hopelessSet 4 = .ok (.iload_n 2, 1) := by decide +kernel
theorem dX1_hopelessSet_5 : decode cX1_hopelessSet 5 = .ok (.aload_n 0, 1) := by decide +kernel
theorem dX1_hopelessSet_6 : decode cX1_hopelessSet 6 = .ok (.getfield 38, 3) := by decide +kernel
theorem dX1_hopelessSet_9 : decode cX1_hopelessSet 9 = .ok (.if_icmp .ge 60, 3) := by decide +kernel
theorem dX1_hopelessSet_12 : decode cX1_hopelessSet 12 = .ok (.aload_n 0, 1) := by decide +kernel
theorem dX1_hopelessSet_13 : decode cX1_hopelessSet 13 = .ok (.getfield 11, 3) := by decide +kernel
theorem dX1_hopelessSet_16 : decode cX1_hopelessSet 16 = .ok (.iload_n 2, 1) := by decide +kernel
theorem dX1_hopelessSet_17 : decode cX1_hopelessSet 17 = .ok (.aaload, 1) := by decide +kernel
theorem dX1_hopelessSet_18 : decode cX1_hopelessSet 18 = .ok (.astore_n 3, 1) := by decide +kernel
theorem dX1_hopelessSet_19 : decode cX1_hopelessSet 19 = .ok (.aload_n 0, 1) := by decide +kernel
theorem dX1_hopelessSet_20 : decode cX1_hopelessSet 20 = .ok (.getfield 48, 3) := by decide +kernel
theorem dX1_hopelessSet_23 : decode cX1_hopelessSet 23 = .ok (.aload_n 3, 1) := by decide +kernel
theorem dX1_hopelessSet_24 : decode cX1_hopelessSet 24 = .ok (.getfield 83, 3) := by decide +kernel
theorem dX1_hopelessSet_27 : decode cX1_hopelessSet 27 = .ok (.aload_n 0, 1) := by decide +kernel
theorem dX1_hopelessSet_28 : decode cX1_hopelessSet 28 = .ok (.getfield 29, 3) := by decide +kernel
theorem dX1_hopelessSet_31 : decode cX1_hopelessSet 31 = .ok (.iconst 0, 1) := by decide +kernel
theorem dX1_hopelessSet_32 : decode cX1_hopelessSet 32 = .ok (.iaload, 1) := by decide +kernel
theorem dX1_hopelessSet_33 : decode cX1_hopelessSet 33 = .ok (.imul, 1) := by decide +kernel
theorem dX1_hopelessSet_34 : decode cX1_hopelessSet 34 = .ok (.iadd, 1) := by decide +kernel
theorem dX1_hopelessSet_35 : decode cX1_hopelessSet 35 = .ok (.istore 4, 2) := by decide +kernel
theorem dX1_hopelessSet_37 : decode cX1_hopelessSet 37 = .ok (.iload_n 1, 1) := by decide +kernel
theorem dX1_hopelessSet_38 : decode cX1_hopelessSet 38 = .ok (.aload_n 3, 1) := by decide +kernel
theorem dX1_hopelessSet_39 : decode cX1_hopelessSet 39 = .ok (.invokevirtual 234, 3) := by decide +kernel
theorem dX1_hopelessSet_42 : decode cX1_hopelessSet 42 = .ok (.ifCond .eq 18, 3) := by decide +kernel
theorem dX1_hopelessSet_45 : decode cX1_hopelessSet 45 = .ok (.iload 4, 2) := by decide +kernel
theorem dX1_hopelessSet_47 : decode cX1_hopelessSet 47 = .ok (.aload_n 3, 1) := by decide +kernel
theorem dX1_hopelessSet_48 : decode cX1_hopelessSet 48 = .ok (.getfield 95, 3) := by decide +kernel
theorem dX1_hopelessSet_51 : decode cX1_hopelessSet 51 = .ok (.if_icmp .le 9, 3) := by decide +kernel
theorem dX1_hopelessSet_54 : decode cX1_hopelessSet 54 = .ok (.iconst 1, 1) := by decide +kernel
theorem dX1_hopelessSet_55 : decode cX1_hopelessSet 55 = .ok (.iload_n 2, 1) := by decide +kernel
theorem dX1_hopelessSet_56 : decode cX1_hopelessSet 56 = .ok (.ishl, 1) := by decide +kernel
theorem dX1_hopelessSet_57 : decode cX1_hopelessSet 57 = .ok (.goto 4, 3) := by decide +kernel
theorem dX1_hopelessSet_60 : decode cX1_hopelessSet 60 = .ok (.iconst 0, 1) := by decide +kernel
theorem dX1_hopelessSet_61 : decode cX1_hopelessSet 61 = .ok (.ior, 1) := by decide +kernel
theorem dX1_hopelessSet_62 : decode cX1_hopelessSet 62 = .ok (.istore_n 1, 1) := by decide +kernel
theorem dX1_hopelessSet_63 : decode cX1_hopelessSet 63 = .ok (.iinc 2 1, 3) := by decide +kernel
theorem dX1_hopelessSet_66 : decode cX1_hopelessSet 66 = .ok (.goto (-62), 3) := by decide +kernel
theorem dX1_hopelessSet_69 : decode cX1_hopelessSet 69 = .ok (.iload_n 1, 1) := by decide +kernel
theorem dX1_hopelessSet_70 : decode cX1_hopelessSet 70 = .ok (.ireturn, 1) := by decide +kernel
theorem dX1_howManyAre_0 : decode cX1_howManyAre 0 = .ok (.iconst 0, 1) := by decide +kernel
theorem dX1_howManyAre_1 : decode cX1_howManyAre 1 = .ok (.istore_n 2, 1) := by decide +kernel
theorem dX1_howManyAre_2 : decode cX1_howManyAre 2 = .ok (.iconst 0, 1) := by decide +kernel
theorem dX1_howManyAre_3 : decode cX1_howManyAre 3 = .ok (.istore_n 3, 1) := by decide +kernel
theorem dX1_howManyAre_4 : decode cX1_howManyAre 4 = .ok (.iload_n 3, 1) := by decide +kernel
theorem dX1_howManyAre_5 : decode cX1_howManyAre 5 = .ok (.aload_n 0, 1) := by decide +kernel
theorem dX1_howManyAre_6 : decode cX1_howManyAre 6 = .ok (.getfield 38, 3) := by decide +kernel
theorem dX1_howManyAre_9 : decode cX1_howManyAre 9 = .ok (.if_icmp .ge 30, 3) := by decide +kernel
theorem dX1_howManyAre_12 : decode cX1_howManyAre 12 = .ok (.iload_n 2, 1) := by decide +kernel
theorem dX1_howManyAre_13 : decode cX1_howManyAre 13 = .ok (.aload_n 0, 1) := by decide +kernel
theorem dX1_howManyAre_14 : decode cX1_howManyAre 14 = .ok (.getfield 11, 3) := by decide +kernel
theorem dX1_howManyAre_17 : decode cX1_howManyAre 17 = .ok (.iload_n 3, 1) := by decide +kernel
theorem dX1_howManyAre_18 : decode cX1_howManyAre 18 = .ok (.aaload, 1) := by decide +kernel
theorem dX1_howManyAre_19 : decode cX1_howManyAre 19 = .ok (.getfield 79, 3) := by decide +kernel
theorem dX1_howManyAre_22 : decode cX1_howManyAre 22 = .ok (.iload_n 1, 1) := by decide +kernel
theorem dX1_howManyAre_23 : decode cX1_howManyAre 23 = .ok (.if_icmp .ne 7, 3) := by decide +kernel
theorem dX1_howManyAre_26 : decode cX1_howManyAre 26 = .ok (.iconst 1, 1) := by decide +kernel
theorem dX1_howManyAre_27 : decode cX1_howManyAre 27 = .ok (.goto 4, 3) := by decide +kernel
theorem dX1_howManyAre_30 : decode cX1_howManyAre 30 = .ok (.iconst 0, 1) := by decide +kernel
theorem dX1_howManyAre_31 : decode cX1_howManyAre 31 = .ok (.iadd, 1) := by decide +kernel
theorem dX1_howManyAre_32 : decode cX1_howManyAre 32 = .ok (.istore_n 2, 1) := by decide +kernel
theorem dX1_howManyAre_33 : decode cX1_howManyAre 33 = .ok (.iinc 3 1, 3) := by decide +kernel
theorem dX1_howManyAre_36 : decode cX1_howManyAre 36 = .ok (.goto (-32), 3) := by decide +kernel
theorem dX1_howManyAre_39 : decode cX1_howManyAre 39 = .ok (.iload_n 2, 1) := by decide +kernel
theorem dX1_howManyAre_40 : decode cX1_howManyAre 40 = .ok (.ireturn, 1) := by decide +kernel
theorem dX2_init_0 : decode cX2_init 0 = .ok (.aload_n 0, 1) := by decide +kernel
theorem dX2_init_1 : decode cX2_init 1 = .ok (.invokespecial 3, 3) := by decide +kernel
theorem dX2_init_4 : decode cX2_init 4 = .ok (.aload_n 0, 1) := by decide +kernel
theorem dX2_init_5 : decode cX2_init 5 = .ok (.iconst 5, 1) := by decide +kernel
theorem dX2_init_6 : decode cX2_init 6 = .ok (.anewarray 9, 3) := by decide +kernel
theorem dX2_init_9 : decode cX2_init 9 = .ok (.putfield 11, 3) := by decide +kernel
theorem dX2_init_12 : decode cX2_init 12 = .ok (.iconst 0, 1) := by decide +kernel
theorem dX2_init_13 : decode cX2_init 13 = .ok (.istore_n 1, 1) := by decide +kernel
theorem dX2_init_14 : decode cX2_init 14 = .ok (.iload_n 1, 1) := by decide +kernel
theorem dX2_init_15 : decode cX2_init 15 = .ok (.iconst 4, 1) := by decide +kernel
theorem dX2_init_16 : decode cX2_init 16 = .ok (.if_icmp .gt 22, 3) := by decide +kernel
theorem dX2_init_19 : decode cX2_init 19 = .ok (.aload_n 0, 1) := by decide +kernel
theorem dX2_init_20 : decode cX2_init 20 = .ok (.getfield 11, 3) := by decide +kernel
theorem dX2_init_23 : decode cX2_init 23 = .ok (.iload_n 1, 1) := by decide +kernel
theorem dX2_init_24 : decode cX2_init 24 = .ok (.new 9, 3) := by decide +kernel
theorem dX2_init_27 : decode cX2_init 27 = .ok (.dup, 1) := by decide +kernel
theorem dX2_init_28 : decode cX2_init 28 = .ok (.invokespecial 17, 3) := by decide +kernel
theorem dX2_init_31 : decode cX2_init 31 = .ok (.aastore, 1) := by decide +kernel
theorem dX2_init_32 : decode cX2_init 32 = .ok (.iinc 1 1, 3) := by decide +kernel
theorem dX2_init_35 : decode cX2_init 35 = .ok (.goto (-21), 3) := by decide +kernel
theorem dX2_init_38 : decode cX2_init 38 = .ok (.return_, 1) := by decide +kernel
theorem dX2_prepare_0 : decode cX2_prepare 0 = .ok (.aload_n 0, 1) := by decide +kernel
theorem dX2_prepare_1 : decode cX2_prepare 1 = .ok (.getfield 11, 3) := by decide +kernel
theorem dX2_prepare_4 : decode cX2_prepare 4 = .ok (.aload_n 0, 1) := by decide +kernel
theorem dX2_prepare_5 : decode cX2_prepare 5 = .ok (.getfield 18, 3) := by decide +kernel
theorem dX2_prepare_8 : decode cX2_prepare 8 = .ok (.aload_n 0, 1) := by decide +kernel
theorem dX2_prepare_9 : decode cX2_prepare 9 = .ok (.getfield 22, 3) := by decide +kernel
theorem dX2_prepare_12 : decode cX2_prepare 12 = .ok (.iadd, 1) := by decide +kernel
theorem dX2_prepare_13 : decode cX2_prepare 13 = .ok (.iconst 5, 1) := by decide +kernel
theorem dX2_prepare_14 : decode cX2_prepare 14 = .ok (.irem, 1) := by decide +kernel
theorem dX2_prepare_15 : decode cX2_prepare 15 = .ok (.aaload, 1) := by decide +kernel
theorem dX2_prepare_16 : decode cX2_prepare 16 = .ok (.aload_n 1, 1) := by decide +kernel
theorem dX2_prepare_17 : decode cX2_prepare 17 = .ok (.invokevirtual 25, 3) := by decide +kernel
theorem dX2_prepare_20 : decode cX2_prepare 20 = .ok (.return_, 1) := by decide +kernel
theorem dX2_keep_0 : decode cX2_keep 0 = .ok (.aload_n 0, 1) := by decide +kernel
theorem dX2_keep_1 : decode cX2_keep 1 = .ok (.getfield 22, 3) := by decide +kernel
theorem dX2_keep_4 : decode cX2_keep 4 = .ok (.iconst 4, 1) := by decide +kernel
theorem dX2_keep_5 : decode cX2_keep 5 = .ok (.if_icmp .ge 16, 3) := by decide +kernel
theorem dX2_keep_8 : decode cX2_keep 8 = .ok (.aload_n 0, 1) := by decide +kernel
theorem dX2_keep_9 : decode cX2_keep 9 = .ok (.dup, 1) := by decide +kernel
theorem dX2_keep_10 : decode cX2_keep 10 = .ok (.getfield 22, 3) := by decide +kernel
theorem dX2_keep_13 : decode cX2_keep 13 = .ok (.iconst 1, 1) := by decide +kernel
theorem dX2_keep_14 : decode cX2_keep 14 = .ok (.iadd, 1) := by decide +kernel
theorem dX2_keep_15 : decode cX2_keep 15 = .ok (.putfield 22, 3) := by decide +kernel
theorem dX2_keep_18 : decode cX2_keep 18 = .ok (.goto 15, 3) := by decide +kernel
theorem dX2_keep_21 : decode cX2_keep 21 = .ok (.aload_n 0, 1) := by decide +kernel
theorem dX2_keep_22 : decode cX2_keep 22 = .ok (.aload_n 0, 1) := by decide +kernel
theorem dX2_keep_23 : decode cX2_keep 23 = .ok (.getfield 18, 3) := by decide +kernel
theorem dX2_keep_26 : decode cX2_keep 26 = .ok (.iconst 1, 1) := by decide +kernel
theorem dX2_keep_27 : decode cX2_keep 27 = .ok (.iadd, 1) := by decide +kernel
theorem dX2_keep_28 : decode cX2_keep 28 = .ok (.iconst 5, 1) := by decide +kernel
theorem dX2_keep_29 : decode cX2_keep 29 = .ok (.irem, 1) := by decide +kernel
theorem dX2_keep_30 : decode cX2_keep 30 = .ok (.putfield 18, 3) := by decide +kernel
theorem dX2_keep_33 : decode cX2_keep 33 = .ok (.return_, 1) := by decide +kernel
theorem dX2_restore_0 : decode cX2_restore 0 = .ok (.aload_n 0, 1) := by decide +kernel
theorem dX2_restore_1 : decode cX2_restore 1 = .ok (.getfield 22, 3) := by decide +kernel
theorem dX2_restore_4 : decode cX2_restore 4 = .ok (.ifCond .gt 6, 3) := by decide +kernel
theorem dX2_restore_7 : decode cX2_restore 7 = .ok (.ldc 29, 2) := by decide +kernel
theorem dX2_restore_9 : decode cX2_restore 9 = .ok (.ireturn, 1) := by decide +kernel
theorem dX2_restore_10 : decode cX2_restore 10 = .ok (.aload_n 0, 1) := by decide +kernel
theorem dX2_restore_11 : decode cX2_restore 11 = .ok (.dup, 1) := by decide +kernel
theorem dX2_restore_12 : decode cX2_restore 12 = .ok (.getfield 22, 3) := by decide +kernel
theorem dX2_restore_15 : decode cX2_restore 15 = .ok (.iconst 1, 1) := by decide +kernel
theorem dX2_restore_16 : decode cX2_restore 16 = .ok (.isub, 1) := by decide +kernel
theorem dX2_restore_17 : decode cX2_restore 17 = .ok (.putfield 22, 3) := by decide +kernel
theorem dX2_restore_20 : decode cX2_restore 20 = .ok (.aload_n 1, 1) := by decide +kernel
theorem dX2_restore_21 : decode cX2_restore 21 = .ok (.aload_n 0, 1) := by decide +kernel
theorem dX2_restore_22 : decode cX2_restore 22 = .ok (.getfield 11, 3) := by decide +kernel
theorem dX2_restore_25 : decode cX2_restore 25 = .ok (.aload_n 0, 1) := by decide +kernel
theorem dX2_restore_26 : decode cX2_restore 26 = .ok (.getfield 18, 3) := by decide +kernel
theorem dX2_restore_29 : decode cX2_restore 29 = .ok (.aload_n 0, 1) := by decide +kernel
theorem dX2_restore_30 : decode cX2_restore 30 = .ok (.getfield 22, 3) := by decide +kernel
theorem dX2_restore_33 : decode cX2_restore 33 = .ok (.iadd, 1) := by decide +kernel
theorem dX2_restore_34 : decode cX2_restore 34 = .ok (.iconst 5, 1) := by decide +kernel
theorem dX2_restore_35 : decode cX2_restore 35 = .ok (.irem, 1) := by decide +kernel
theorem dX2_restore_36 : decode cX2_restore 36 = .ok (.aaload, 1) := by decide +kernel
theorem dX2_restore_37 : decode cX2_restore 37 = .ok (.invokevirtual 25, 3) := by decide +kernel
theorem dX2_restore_40 : decode cX2_restore 40 = .ok (.aload_n 0, 1) := by decide +kernel
theorem dX2_restore_41 : decode cX2_restore 41 = .ok (.getfield 22, 3) := by decide +kernel
theorem dX2_restore_44 : decode cX2_restore 44 = .ok (.ireturn, 1) := by decide +kernel
theorem dX3_init_0 : decode cX3_init 0 = .ok (.aload_n 0, 1) := by decide +kernel
theorem dX3_init_1 : decode cX3_init 1 = .ok (.invokespecial 1, 3) := by decide +kernel
theorem dX3_init_4 : decode cX3_init 4 = .ok (.return_, 1) := by decide +kernel
theorem dX3_copyFrom_0 : decode cX3_copyFrom 0 = .ok (.aload_n 0, 1) := by decide +kernel
theorem dX3_copyFrom_1 : decode cX3_copyFrom 1 = .ok (.aload_n 1, 1) := by decide +kernel
theorem dX3_copyFrom_2 : decode cX3_copyFrom 2 = .ok (.getfield 7, 3) := by decide +kernel
theorem dX3_copyFrom_5 : decode cX3_copyFrom 5 = .ok (.putfield 7, 3) := by decide +kernel
theorem dX3_copyFrom_8 : decode cX3_copyFrom 8 = .ok (.aload_n 0, 1) := by decide +kernel
theorem dX3_copyFrom_9 : decode cX3_copyFrom 9 = .ok (.aload_n 1, 1) := by decide +kernel
theorem dX3_copyFrom_10 : decode cX3_copyFrom 10 = .ok (.getfield 13, 3) := by decide +kernel
theorem dX3_copyFrom_13 : decode cX3_copyFrom 13 = .ok (.putfield 13, 3) := by decide +kernel
theorem dX3_copyFrom_16 : decode cX3_copyFrom 16 = .ok (.aload_n 0, 1) := by decide +kernel
theorem dX3_copyFrom_17 : decode cX3_copyFrom 17 = .ok (.aload_n 1, 1) := by decide +kernel
theorem dX3_copyFrom_18 : decode cX3_copyFrom 18 = .ok (.getfield 16, 3) := by decide +kernel
theorem dX3_copyFrom_21 : decode cX3_copyFrom 21 = .ok (.putfield 16, 3) := by decide +kernel
theorem dX3_copyFrom_24 : decode cX3_copyFrom 24 = .ok (.aload_n 0, 1) := by decide +kernel
theorem dX3_copyFrom_25 : decode cX3_copyFrom 25 = .ok (.aload_n 1, 1) := by decide +kernel
theorem dX3_copyFrom_26 : decode cX3_copyFrom 26 = .ok (.getfield 19, 3) := by decide +kernel
theorem dX3_copyFrom_29 : decode cX3_copyFrom 29 = .ok (.putfield 19, 3) := by decide +kernel
theorem dX3_copyFrom_32 : decode cX3_copyFrom 32 = .ok (.aload_n 0, 1) := by decide +kernel
theorem dX3_copyFrom_33 : decode cX3_copyFrom 33 = .ok (.aload_n 1, 1) := by decide +kernel
theorem dX3_copyFrom_34 : decode cX3_copyFrom 34 = .ok (.getfield 22, 3) := by decide +kernel
theorem dX3_copyFrom_37 : decode cX3_copyFrom 37 = .ok (.putfield 22, 3) := by decide +kernel
theorem dX3_copyFrom_40 : decode cX3_copyFrom 40 = .ok (.return_, 1) := by decide +kernel
theorem dX4_init_0 : decode cX4_init 0 = .ok (.aload_n 0, 1) := by decide +kernel
theorem dX4_init_1 : decode cX4_init 1 = .ok (.invokespecial 3, 3) := by decide +kernel
theorem dX4_init_4 : decode cX4_init 4 = .ok (.aload_n 0, 1) := by decide +kernel
theorem dX4_init_5 : decode cX4_init 5 = .ok (.bipush 80, 2) := by decide +kernel
theorem dX4_init_7 : decode cX4_init 7 = .ok (.newarray .char, 2) := by decide +kernel
theorem dX4_init_9 : decode cX4_init 9 = .ok (.putfield 9, 3) := by decide +kernel
theorem dX4_init_12 : decode cX4_init 12 = .ok (.aload_n 0, 1) := by decide +kernel
theorem dX4_init_13 : decode cX4_init 13 = .ok (.iconst 5, 1) := by decide +kernel
theorem dX4_init_14 : decode cX4_init 14 = .ok (.newarray .int, 2) := by decide +kernel
theorem dX4_init_16 : decode cX4_init 16 = .ok (.putfield 15, 3) := by decide +kernel
theorem dX4_init_19 : decode cX4_init 19 = .ok (.return_, 1) := by decide +kernel
theorem dX4_append_0 : decode cX4_append 0 = .ok (.aload_n 0, 1) := by decide +kernel
theorem dX4_append_1 : decode cX4_append 1 = .ok (.getfield 19, 3) := by decide +kernel
theorem dX4_append_4 : decode cX4_append 4 = .ok (.bipush 80, 2) := by decide +kernel
theorem dX4_append_6 : decode cX4_append 6 = .ok (.if_icmp .lt 6, 3) := by decide +kernel
theorem dX4_append_9 : decode cX4_append 9 = .ok (.ldc 23, 2) := by decide +kernel
theorem dX4_append_11 : decode cX4_append 11 = .ok (.ireturn, 1) := by decide +kernel
theorem dX4_append_12 : decode cX4_append 12 = .ok (.aload_n 0, 1) := by decide +kernel
theorem dX4_append_13 : decode cX4_append 13 = .ok (.getfield 9, 3) := by decide +kernel
theorem dX4_append_16 : decode cX4_append 16 = .ok (.aload_n 0, 1) := by decide +kernel
theorem dX4_append_17 : decode cX4_append 17 = .ok (.getfield 19, 3) := by decide +kernel
theorem dX4_append_20 : decode cX4_append 20 = .ok (.iload_n 1, 1) := by decide +kernel
theorem dX4_append_21 : decode cX4_append 21 = .ok (.castore, 1) := by decide +kernel
theorem dX4_append_22 : decode cX4_append 22 = .ok (.aload_n 0, 1) := by decide +kernel
theorem dX4_append_23 : decode cX4_append 23 = .ok (.dup, 1) := by decide +kernel
theorem dX4_append_24 : decode cX4_append 24 = .ok (.getfield 19, 3) := by decide +kernel
theorem dX4_append_27 : decode cX4_append 27 = .ok (.iconst 1, 1) := by decide +kernel
theorem dX4_append_28 : decode cX4_append 28 = .ok (.iadd, 1) := by decide +kernel
theorem dX4_append_29 : decode cX4_append 29 = .ok (.putfield 19, 3) := by decide +kernel
theorem dX4_append_32 : decode cX4_append 32 = .ok (.aload_n 0, 1) := by decide +kernel
theorem dX4_append_33 : decode cX4_append 33 = .ok (.getfield 19, 3) := by decide +kernel
theorem dX4_append_36 : decode cX4_append 36 = .ok (.ireturn, 1) := by decide +kernel
theorem dX4_readCommand_0 : decode cX4_readCommand 0 = .ok (.aload_n 0, 1) := by decide +kernel
theorem dX4_readCommand_1 : decode cX4_readCommand 1 = .ok (.aload_n 0, 1) := by decide +kernel
theorem dX4_readCommand_2 : decode cX4_readCommand 2 = .ok (.iload_n 1, 1) := by decide +kernel
theorem dX4_readCommand_3 : decode cX4_readCommand 3 = .ok (.invokevirtual 24, 3) := by decide +kernel
theorem dX4_readCommand_6 : decode cX4_readCommand 6 = .ok (.putfield 28, 3) := by decide +kernel
theorem dX4_readCommand_9 : decode cX4_readCommand 9 = .ok (.aload_n 0, 1) := by decide +kernel
theorem dX4_readCommand_10 : decode cX4_readCommand 10 = .ok (.iload_n 1, 1) := by decide +kernel
theorem dX4_readCommand_11 : decode cX4_readCommand 11 = .ok (.aload_n 0, 1) := by decide +kernel
theorem dX4_readCommand_12 : decode cX4_readCommand 12 = .ok (.getfield 28, 3) := by decide +kernel
theorem dX4_readCommand_15 : decode cX4_readCommand 15 = .ok (.invokestatic 31, 3) := by decide +kernel
theorem dX4_readCommand_18 : decode cX4_readCommand 18 = .ok (.invokevirtual 35, 3) := by decide +kernel
theorem dX4_readCommand_21 : decode cX4_readCommand 21 = .ok (.iadd, 1) := by decide +kernel
theorem dX4_readCommand_22 : decode cX4_readCommand 22 = .ok (.putfield 40, 3) := by decide +kernel
theorem dX4_readCommand_25 : decode cX4_readCommand 25 = .ok (.aload_n 0, 1) := by decide +kernel
theorem dX4_readCommand_26 : decode cX4_readCommand 26 = .ok (.getfield 28, 3) := by decide +kernel
theorem dX4_readCommand_29 : decode cX4_readCommand 29 = .ok (.invokestatic 43, 3) := by decide +kernel
theorem dX4_readCommand_32 : decode cX4_readCommand 32 = .ok (.istore_n 2, 1) := by decide +kernel
theorem dX4_readCommand_33 : decode cX4_readCommand 33 = .ok (.iconst 0, 1) := by decide +kernel
theorem dX4_readCommand_34 : decode cX4_readCommand 34 = .ok (.istore_n 3, 1) := by decide +kernel
theorem dX4_readCommand_35 : decode cX4_readCommand 35 = .ok (.iload_n 3, 1) := by decide +kernel
theorem dX4_readCommand_36 : decode cX4_readCommand 36 = .ok (.iload_n 2, 1) := by decide +kernel
theorem dX4_readCommand_37 : decode cX4_readCommand 37 = .ok (.if_icmp .ge 46, 3) := by decide +kernel
theorem dX4_readCommand_40 : decode cX4_readCommand 40 = .ok (.iload_n 3, 1) := by decide +kernel
theorem dX4_readCommand_41 : decode cX4_readCommand 41 = .ok (.iconst 5, 1) := by decide +kernel
theorem dX4_readCommand_42 : decode cX4_readCommand 42 = .ok (.if_icmp .ge 41, 3) := by decide +kernel
theorem dX4_readCommand_45 : decode cX4_readCommand 45 = .ok (.aload_n 0, 1) := by decide +kernel
theorem dX4_readCommand_46 : decode cX4_readCommand 46 = .ok (.bipush 32, 2) := by decide +kernel
theorem dX4_readCommand_48 : decode cX4_readCommand 48 = .ok (.invokevirtual 46, 3) := by decide +kernel
theorem dX4_readCommand_51 : decode cX4_readCommand 51 = .ok (.ifCond .ne 5, 3) := by decide +kernel
theorem dX4_readCommand_54 : decode cX4_readCommand 54 = .ok (.iconst 0, 1) := by decide +kernel
theorem dX4_readCommand_55 : decode cX4_readCommand 55 = .ok (.ireturn, 1) := by decide +kernel
theorem dX4_readCommand_56 : decode cX4_readCommand 56 = .ok (.aload_n 0, 1) := by decide +kernel
theorem dX4_readCommand_57 : decode cX4_readCommand 57 = .ok (.getfield 15, 3) := by decide +kernel
theorem dX4_readCommand_60 : decode cX4_readCommand 60 = .ok (.iload_n 3, 1) := by decide +kernel
theorem dX4_readCommand_61 : decode cX4_readCommand 61 = .ok (.aload_n 0, 1) := by decide +kernel
theorem dX4_readCommand_62 : decode cX4_readCommand 62 = .ok (.invokevirtual 50, 3) := by decide +kernel
theorem dX4_readCommand_65 : decode cX4_readCommand 65 = .ok (.iastore, 1) := by decide +kernel
theorem dX4_readCommand_66 : decode cX4_readCommand 66 = .ok (.aload_n 0, 1) := by decide +kernel
theorem dX4_readCommand_67 : decode cX4_readCommand 67 = .ok (.getfield 15, 3) := by decide +kernel
theorem dX4_readCommand_70 : decode cX4_readCommand 70 = .ok (.iload_n 3, 1) := by decide +kernel
theorem dX4_readCommand_71 : decode cX4_readCommand 71 = .ok (.iaload, 1) := by decide +kernel
theorem dX4_readCommand_72 : decode cX4_readCommand 72 = .ok (.ifCond .ge 5, 3) := by decide +kernel
theorem dX4_readCommand_75 : decode cX4_readCommand 75 = .ok (.iconst 0, 1) := by decide +kernel
theorem dX4_readCommand_76 : decode cX4_readCommand 76 = .ok (.ireturn, 1) := by decide +kernel
theorem dX4_readCommand_77 : decode cX4_readCommand 77 = .ok (.iinc 3 1, 3) := by decide +kernel
theorem dX4_readCommand_80 : decode cX4_readCommand 80 = .ok (.goto (-45), 3) := by decide +kernel
theorem dX4_readCommand_83 : decode cX4_readCommand 83 = .ok (.aload_n 0, 1) := by decide +kernel
theorem dX4_readCommand_84 : decode cX4_readCommand 84 = .ok (.getfield 28, 3) := by decide +kernel
theorem dX4_readCommand_87 : decode cX4_readCommand 87 = .ok (.iconst (-1), 1) := by decide +kernel
theorem dX4_readCommand_88 : decode cX4_readCommand 88 = .ok (.if_icmp .eq 16, 3) := by decide +kernel
theorem dX4_readCommand_91 : decode cX4_readCommand 91 = .ok (.aload_n 0, 1) := by decide +kernel
theorem dX4_readCommand_92 : decode cX4_readCommand 92 = .ok (.bipush 59, 2) := by decide +kernel
theorem dX4_readCommand_94 : decode cX4_readCommand 94 = .ok (.invokevirtual 46, 3) := by decide +kernel
theorem dX4_readCommand_97 : decode cX4_readCommand 97 = .ok (.ifCond .eq 7, 3) := by decide +kernel
theorem dX4_readCommand_100 : decode cX4_readCommand 100 = .ok (.iconst 1, 1) := by decide +kernel
theorem dX4_readCommand_101 : decode cX4_readCommand 101 = .ok (.goto 4, 3) := by decide +kernel
theorem dX4_readCommand_104 : decode cX4_readCommand 104 = .ok (.iconst 0, 1) := by decide +kernel
theorem dX4_readCommand_105 : decode cX4_readCommand 105 = .ok (.ireturn, 1) := by decide +kernel
theorem dX4_verbAt_0 : decode cX4_verbAt 0 = .ok (.iconst 0, 1) := by decide +kernel
theorem dX4_verbAt_1 : decode cX4_verbAt 1 = .ok (.istore_n 2, 1) := by decide +kernel
theorem dX4_verbAt_2 : decode cX4_verbAt 2 = .ok (.iload_n 2, 1) := by decide +kernel
theorem dX4_verbAt_3 : decode cX4_verbAt 3 = .ok (.bipush 7, 2) := by decide +kernel
theorem dX4_verbAt_5 : decode cX4_verbAt 5 = .ok (.if_icmp .ge 23, 3) := by decide +kernel
theorem dX4_verbAt_8 : decode cX4_verbAt 8 = .ok (.aload_n 0, 1) := by decide +kernel
theorem dX4_verbAt_9 : decode cX4_verbAt 9 = .ok (.iload_n 2, 1) := by decide +kernel
theorem dX4_verbAt_10 : decode cX4_verbAt 10 = .ok (.invokestatic 31, 3) := by decide +kernel
theorem dX4_verbAt_13 : decode cX4_verbAt 13 = .ok (.iload_n 1, 1) := by decide +kernel
theorem dX4_verbAt_14 : decode cX4_verbAt 14 = .ok (.invokevirtual 53, 3) := by decide +kernel
theorem dX4_verbAt_17 : decode cX4_verbAt 17 = .ok (.ifCond .eq 5, 3) := by decide +kernel
theorem dX4_verbAt_20 : decode cX4_verbAt 20 = .ok (.iload_n 2, 1) := by decide +kernel
theorem dX4_verbAt_21 : decode cX4_verbAt 21 = .ok (.ireturn, 1) := by decide +kernel
theorem dX4_verbAt_22 : decode cX4_verbAt 22 = .ok (.iinc 2 1, 3) := by decide +kernel
theorem dX4_verbAt_25 : decode cX4_verbAt 25 = .ok (.goto (-23), 3) := by decide +kernel
theorem dX4_verbAt_28 : decode cX4_verbAt 28 = .ok (.iconst (-1), 1) := by decide +kernel
theorem dX4_verbAt_29 : decode cX4_verbAt 29 = .ok (.ireturn, 1) := by decide +kernel
theorem dX4_standsAt_0 : decode cX4_standsAt 0 = .ok (.iload_n 2, 1) := by decide +kernel
theorem dX4_standsAt_1 : decode cX4_standsAt 1 = .ok (.ifCond .lt 16, 3) := by decide +kernel
theorem dX4_standsAt_4 : decode cX4_standsAt 4 = .ok (.iload_n 2, 1) := by decide +kernel
theorem dX4_standsAt_5 : decode cX4_standsAt 5 = .ok (.aload_n 1, 1) := by decide +kernel
theorem dX4_standsAt_6 : decode cX4_standsAt 6 = .ok (.invokevirtual 35, 3) := by decide +kernel
theorem dX4_standsAt_9 : decode cX4_standsAt 9 = .ok (.iadd, 1) := by decide +kernel
theorem dX4_standsAt_10 : decode cX4_standsAt 10 = .ok (.aload_n 0, 1) := by decide +kernel
theorem dX4_standsAt_11 : decode cX4_standsAt 11 = .ok (.getfield 19, 3) := by decide +kernel
theorem dX4_standsAt_14 : decode cX4_standsAt 14 = .ok (.if_icmp .le 5, 3) := by decide +kernel
theorem dX4_standsAt_17 : decode cX4_standsAt 17 = .ok (.iconst 0, 1) := by decide +kernel
theorem dX4_standsAt_18 : decode cX4_standsAt 18 = .ok (.ireturn, 1) := by decide +kernel
theorem dX4_standsAt_19 : decode cX4_standsAt 19 = .ok (.iconst 0, 1) := by decide +kernel
theorem dX4_standsAt_20 : decode cX4_standsAt 20 = .ok (.istore_n 3, 1) := by decide +kernel
theorem dX4_standsAt_21 : decode cX4_standsAt 21 = .ok (.iload_n 3, 1) := by decide +kernel
theorem dX4_standsAt_22 : decode cX4_standsAt 22 = .ok (.aload_n 1, 1) := by decide +kernel
theorem dX4_standsAt_23 : decode cX4_standsAt 23 = .ok (.invokevirtual 35, 3) := by decide +kernel
theorem dX4_standsAt_26 : decode cX4_standsAt 26 = .ok (.if_icmp .ge 27, 3) := by decide +kernel
theorem dX4_standsAt_29 : decode cX4_standsAt 29 = .ok (.aload_n 0, 1) := by decide +kernel
theorem dX4_standsAt_30 : decode cX4_standsAt 30 = .ok (.getfield 9, 3) := by decide +kernel
theorem dX4_standsAt_33 : decode cX4_standsAt 33 = .ok (.iload_n 2, 1) := by decide +kernel
theorem dX4_standsAt_34 : decode cX4_standsAt 34 = .ok (.iload_n 3, 1) := by decide +kernel
theorem dX4_standsAt_35 : decode cX4_standsAt 35 = .ok (.iadd, 1) := by decide +kernel
theorem dX4_standsAt_36 : decode cX4_standsAt 36 = .ok (.caload, 1) := by decide +kernel
theorem dX4_standsAt_37 : decode cX4_standsAt 37 = .ok (.aload_n 1, 1) := by decide +kernel
theorem dX4_standsAt_38 : decode cX4_standsAt 38 = .ok (.iload_n 3, 1) := by decide +kernel
theorem dX4_standsAt_39 : decode cX4_standsAt 39 = .ok (.invokevirtual 57, 3) := by decide +kernel
theorem dX4_standsAt_42 : decode cX4_standsAt 42 = .ok (.if_icmp .eq 5, 3) := by decide +kernel
theorem dX4_standsAt_45 : decode cX4_standsAt 45 = .ok (.iconst 0, 1) := by decide +kernel
theorem dX4_standsAt_46 : decode cX4_standsAt 46 = .ok (.ireturn, 1) := by decide +kernel
theorem dX4_standsAt_47 : decode cX4_standsAt 47 = .ok (.iinc 3 1, 3) := by decide +kernel
theorem dX4_standsAt_50 : decode cX4_standsAt 50 = .ok (.goto (-29), 3) := by decide +kernel
theorem dX4_standsAt_53 : decode cX4_standsAt 53 = .ok (.iconst 1, 1) := by decide +kernel
theorem dX4_standsAt_54 : decode cX4_standsAt 54 = .ok (.ireturn, 1) := by decide +kernel
theorem dX4_readSign_0 : decode cX4_readSign 0 = .ok (.aload_n 0, 1) := by decide +kernel
theorem dX4_readSign_1 : decode cX4_readSign 1 = .ok (.getfield 40, 3) := by decide +kernel
theorem dX4_readSign_4 : decode cX4_readSign 4 = .ok (.ifCond .lt 27, 3) := by decide +kernel
theorem dX4_readSign_7 : decode cX4_readSign 7 = .ok (.aload_n 0, 1) := by decide +kernel
theorem dX4_readSign_8 : decode cX4_readSign 8 = .ok (.getfield 40, 3) := by decide +kernel
theorem dX4_readSign_11 : decode cX4_readSign 11 = .ok (.aload_n 0, 1) := by decide +kernel
theorem dX4_readSign_12 : decode cX4_readSign 12 = .ok (.getfield 19, 3) := by decide +kernel
theorem dX4_readSign_15 : decode cX4_readSign 15 = .ok (.if_icmp .ge 16, 3) := by decide +kernel
theorem dX4_readSign_18 : decode cX4_readSign 18 = .ok (.aload_n 0, 1) := by decide +kernel
theorem dX4_readSign_19 : decode cX4_readSign 19 = .ok (.getfield 9, 3) := by decide +kernel
theorem dX4_readSign_22 : decode cX4_readSign 22 = .ok (.aload_n 0, 1) := by decide +kernel
theorem dX4_readSign_23 : decode cX4_readSign 23 = .ok (.getfield 40, 3) := by decide +kernel
theorem dX4_readSign_26 : decode cX4_readSign 26 = .ok (.caload, 1) := by decide +kernel
theorem dX4_readSign_27 : decode cX4_readSign 27 = .ok (.iload_n 1, 1) := by decide +kernel
theorem dX4_readSign_28 : decode cX4_readSign 28 = .ok (.if_icmp .eq 5, 3) := by decide +kernel
theorem dX4_readSign_31 : decode cX4_readSign 31 = .ok (.iconst 0, 1) := by decide +kernel
theorem dX4_readSign_32 : decode cX4_readSign 32 = .ok (.ireturn, 1) := by decide +kernel
theorem dX4_readSign_33 : decode cX4_readSign 33 = .ok (.aload_n 0, 1) := by decide +kernel
theorem dX4_readSign_34 : decode cX4_readSign 34 = .ok (.dup, 1) := by decide +kernel
theorem dX4_readSign_35 : decode cX4_readSign 35 = .ok (.getfield 40, 3) := by decide +kernel
theorem dX4_readSign_38 : decode cX4_readSign 38 = .ok (.iconst 1, 1) := by decide +kernel
theorem dX4_readSign_39 : decode cX4_readSign 39 = .ok (.iadd, 1) := by decide +kernel
theorem dX4_readSign_40 : decode cX4_readSign 40 = .ok (.putfield 40, 3) := by decide +kernel
theorem dX4_readSign_43 : decode cX4_readSign 43 = .ok (.iconst 1, 1) := by decide +kernel
theorem dX4_readSign_44 : decode cX4_readSign 44 = .ok (.ireturn, 1) := by decide +kernel
theorem dX4_readNumber_0 : decode cX4_readNumber 0 = .ok (.iconst (-1), 1) := by decide +kernel
theorem dX4_readNumber_1 : decode cX4_readNumber 1 = .ok (.istore_n 1, 1) := by decide +kernel
theorem dX4_readNumber_2 : decode cX4_readNumber 2 = .ok (.iconst 0, 1) := by decide +kernel
theorem dX4_readNumber_3 : decode cX4_readNumber 3 = .ok (.istore_n 2, 1) := by decide +kernel
theorem dX4_readNumber_4 : decode cX4_readNumber 4 = .ok (.iload_n 2, 1) := by decide +kernel
theorem dX4_readNumber_5 : decode cX4_readNumber 5 = .ok (.iconst 3, 1) := by decide +kernel
theorem dX4_readNumber_6 : decode cX4_readNumber 6 = .ok (.if_icmp .ge 81, 3) := by decide +kernel
theorem dX4_readNumber_9 : decode cX4_readNumber 9 = .ok (.aload_n 0, 1) := by decide +kernel
theorem dX4_readNumber_10 : decode cX4_readNumber 10 = .ok (.getfield 40, 3) := by decide +kernel
theorem dX4_readNumber_13 : decode cX4_readNumber 13 = .ok (.ifCond .lt 74, 3) := by decide +kernel
theorem dX4_readNumber_16 : decode cX4_readNumber 16 = .ok (.aload_n 0, 1) := by decide +kernel
theorem dX4_readNumber_17 : decode cX4_readNumber 17 = .ok (.getfield 40, 3) := by decide +kernel
theorem dX4_readNumber_20 : decode cX4_readNumber 20 = .ok (.aload_n 0, 1) := by decide +kernel
theorem dX4_readNumber_21 : decode cX4_readNumber 21 = .ok (.getfield 19, 3) := by decide +kernel
theorem dX4_readNumber_24 : decode cX4_readNumber 24 = .ok (.if_icmp .ge 63, 3) := by decide +kernel
theorem dX4_readNumber_27 : decode cX4_readNumber 27 = .ok (.aload_n 0, 1) := by decide +kernel
theorem dX4_readNumber_28 : decode cX4_readNumber 28 = .ok (.getfield 9, 3) := by decide +kernel
theorem dX4_readNumber_31 : decode cX4_readNumber 31 = .ok (.aload_n 0, 1) := by decide +kernel
theorem dX4_readNumber_32 : decode cX4_readNumber 32 = .ok (.getfield 40, 3) := by decide +kernel
theorem dX4_readNumber_35 : decode cX4_readNumber 35 = .ok (.caload, 1) := by decide +kernel
theorem dX4_readNumber_36 : decode cX4_readNumber 36 = .ok (.bipush 48, 2) := by decide +kernel
theorem dX4_readNumber_38 : decode cX4_readNumber 38 = .ok (.bipush 57, 2) := by decide +kernel
theorem dX4_readNumber_40 : decode cX4_readNumber 40 = .ok (.invokestatic 61, 3) := by decide +kernel
theorem dX4_readNumber_43 : decode cX4_readNumber 43 = .ok (.ifCond .ne 6, 3) := by decide +kernel
theorem dX4_readNumber_46 : decode cX4_readNumber 46 = .ok (.goto 41, 3) := by decide +kernel
theorem dX4_readNumber_49 : decode cX4_readNumber 49 = .ok (.iload_n 1, 1) := by decide +kernel
theorem dX4_readNumber_50 : decode cX4_readNumber 50 = .ok (.iconst 0, 1) := by decide +kernel
theorem dX4_readNumber_51 : decode cX4_readNumber 51 = .ok (.invokestatic 65, 3) := by decide +kernel
theorem dX4_readNumber_54 : decode cX4_readNumber 54 = .ok (.bipush 10, 2) := by decide +kernel
theorem dX4_readNumber_56 : decode cX4_readNumber 56 = .ok (.imul, 1) := by decide +kernel
theorem dX4_readNumber_57 : decode cX4_readNumber 57 = .ok (.aload_n 0, 1) := by decide +kernel
theorem dX4_readNumber_58 : decode cX4_readNumber 58 = .ok (.getfield 9, 3) := by decide +kernel
theorem dX4_readNumber_61 : decode cX4_readNumber 61 = .ok (.aload_n 0, 1) := by decide +kernel
theorem dX4_readNumber_62 : decode cX4_readNumber 62 = .ok (.getfield 40, 3) := by decide +kernel
theorem dX4_readNumber_65 : decode cX4_readNumber 65 = .ok (.caload, 1) := by decide +kernel
theorem dX4_readNumber_66 : decode cX4_readNumber 66 = .ok (.bipush 48, 2) := by decide +kernel
theorem dX4_readNumber_68 : decode cX4_readNumber 68 = .ok (.isub, 1) := by decide +kernel
theorem dX4_readNumber_69 : decode cX4_readNumber 69 = .ok (.iadd, 1) := by decide +kernel
theorem dX4_readNumber_70 : decode cX4_readNumber 70 = .ok (.istore_n 1, 1) := by decide +kernel
theorem dX4_readNumber_71 : decode cX4_readNumber 71 = .ok (.aload_n 0, 1) := by decide +kernel
theorem dX4_readNumber_72 : decode cX4_readNumber 72 = .ok (.dup, 1) := by decide +kernel
theorem dX4_readNumber_73 : decode cX4_readNumber 73 = .ok (.getfield 40, 3) := by decide +kernel
theorem dX4_readNumber_76 : decode cX4_readNumber 76 = .ok (.iconst 1, 1) := by decide +kernel
theorem dX4_readNumber_77 : decode cX4_readNumber 77 = .ok (.iadd, 1) := by decide +kernel
theorem dX4_readNumber_78 : decode cX4_readNumber 78 = .ok (.putfield 40, 3) := by decide +kernel
theorem dX4_readNumber_81 : decode cX4_readNumber 81 = .ok (.iinc 2 1, 3) := by decide +kernel
theorem dX4_readNumber_84 : decode cX4_readNumber 84 = .ok (.goto (-80), 3) := by decide +kernel
theorem dX4_readNumber_87 : decode cX4_readNumber 87 = .ok (.iload_n 1, 1) := by decide +kernel
theorem dX4_readNumber_88 : decode cX4_readNumber 88 = .ok (.ireturn, 1) := by decide +kernel
theorem dX4_wordOf_0 : decode cX4_wordOf 0 = .ok (.iload_n 0, 1) := by decide +kernel
theorem dX4_wordOf_1 : decode cX4_wordOf 1 = .ok (.tableswitch 64 0 6 #[43, 46, 49, 52, 55, 58, 61], 43) := by decide +kernel
theorem dX4_wordOf_44 : decode cX4_wordOf 44 = .ok (.ldc 71, 2) := by decide +kernel
theorem dX4_wordOf_46 : decode cX4_wordOf 46 = .ok (.areturn, 1) := by decide +kernel
theorem dX4_wordOf_47 : decode cX4_wordOf 47 = .ok (.ldc 73, 2) := by decide +kernel
theorem dX4_wordOf_49 : decode cX4_wordOf 49 = .ok (.areturn, 1) := by decide +kernel
theorem dX4_wordOf_50 : decode cX4_wordOf 50 = .ok (.ldc 75, 2) := by decide +kernel
theorem dX4_wordOf_52 : decode cX4_wordOf 52 = .ok (.areturn, 1) := by decide +kernel
theorem dX4_wordOf_53 : decode cX4_wordOf 53 = .ok (.ldc 77, 2) := by decide +kernel
theorem dX4_wordOf_55 : decode cX4_wordOf 55 = .ok (.areturn, 1) := by decide +kernel
theorem dX4_wordOf_56 : decode cX4_wordOf 56 = .ok (.ldc 79, 2) := by decide +kernel
theorem dX4_wordOf_58 : decode cX4_wordOf 58 = .ok (.areturn, 1) := by decide +kernel
theorem dX4_wordOf_59 : decode cX4_wordOf 59 = .ok (.ldc 81, 2) := by decide +kernel
theorem dX4_wordOf_61 : decode cX4_wordOf 61 = .ok (.areturn, 1) := by decide +kernel
theorem dX4_wordOf_62 : decode cX4_wordOf 62 = .ok (.ldc 83, 2) := by decide +kernel
theorem dX4_wordOf_64 : decode cX4_wordOf 64 = .ok (.areturn, 1) := by decide +kernel
theorem dX4_wordOf_65 : decode cX4_wordOf 65 = .ok (.ldc 85, 2) := by decide +kernel
theorem dX4_wordOf_67 : decode cX4_wordOf 67 = .ok (.areturn, 1) := by decide +kernel
theorem dX4_numbersOf_0 : decode cX4_numbersOf 0 = .ok (.iload_n 0, 1) := by decide +kernel
theorem dX4_numbersOf_1 : decode cX4_numbersOf 1 = .ok (.tableswitch 57 0 6 #[43, 45, 47, 49, 51, 53, 55], 43) := by decide +kernel
theorem dX4_numbersOf_44 : decode cX4_numbersOf 44 = .ok (.iconst 2, 1) := by decide +kernel
theorem dX4_numbersOf_45 : decode cX4_numbersOf 45 = .ok (.ireturn, 1) := by decide +kernel
theorem dX4_numbersOf_46 : decode cX4_numbersOf 46 = .ok (.iconst 3, 1) := by decide +kernel
theorem dX4_numbersOf_47 : decode cX4_numbersOf 47 = .ok (.ireturn, 1) := by decide +kernel
theorem dX4_numbersOf_48 : decode cX4_numbersOf 48 = .ok (.iconst 1, 1) := by decide +kernel
theorem dX4_numbersOf_49 : decode cX4_numbersOf 49 = .ok (.ireturn, 1) := by decide +kernel
theorem dX4_numbersOf_50 : decode cX4_numbersOf 50 = .ok (.iconst 3, 1) := by decide +kernel
theorem dX4_numbersOf_51 : decode cX4_numbersOf 51 = .ok (.ireturn, 1) := by decide +kernel
theorem dX4_numbersOf_52 : decode cX4_numbersOf 52 = .ok (.iconst 2, 1) := by decide +kernel
theorem dX4_numbersOf_53 : decode cX4_numbersOf 53 = .ok (.ireturn, 1) := by decide +kernel
theorem dX4_numbersOf_54 : decode cX4_numbersOf 54 = .ok (.iconst 5, 1) := by decide +kernel
theorem dX4_numbersOf_55 : decode cX4_numbersOf 55 = .ok (.ireturn, 1) := by decide +kernel
theorem dX4_numbersOf_56 : decode cX4_numbersOf 56 = .ok (.iconst 1, 1) := by decide +kernel
theorem dX4_numbersOf_57 : decode cX4_numbersOf 57 = .ok (.ireturn, 1) := by decide +kernel
theorem dX4_numbersOf_58 : decode cX4_numbersOf 58 = .ok (.iconst 0, 1) := by decide +kernel
theorem dX4_numbersOf_59 : decode cX4_numbersOf 59 = .ok (.ireturn, 1) := by decide +kernel
theorem dX5_init_0 : decode cX5_init 0 = .ok (.aload_n 0, 1) := by decide +kernel
theorem dX5_init_1 : decode cX5_init 1 = .ok (.invokespecial 1, 3) := by decide +kernel
theorem dX5_init_4 : decode cX5_init 4 = .ok (.aload_n 0, 1) := by decide +kernel
theorem dX5_init_5 : decode cX5_init 5 = .ok (.iload_n 1, 1) := by decide +kernel
theorem dX5_init_6 : decode cX5_init 6 = .ok (.putfield 7, 3) := by decide +kernel
theorem dX5_init_9 : decode cX5_init 9 = .ok (.return_, 1) := by decide +kernel
theorem dX5_copyFrom_0 : decode cX5_copyFrom 0 = .ok (.aload_n 0, 1) := by decide +kernel
theorem dX5_copyFrom_1 : decode cX5_copyFrom 1 = .ok (.aload_n 1, 1) := by decide +kernel
theorem dX5_copyFrom_2 : decode cX5_copyFrom 2 = .ok (.getfield 13, 3) := by decide +kernel
theorem dX5_copyFrom_5 : decode cX5_copyFrom 5 = .ok (.putfield 13, 3) := by decide +kernel
theorem dX5_copyFrom_8 : decode cX5_copyFrom 8 = .ok (.aload_n 0, 1) := by decide +kernel
theorem dX5_copyFrom_9 : decode cX5_copyFrom 9 = .ok (.aload_n 1, 1) := by decide +kernel
theorem dX5_copyFrom_10 : decode cX5_copyFrom 10 = .ok (.getfield 16, 3) := by decide +kernel
theorem dX5_copyFrom_13 : decode cX5_copyFrom 13 = .ok (.putfield 16, 3) := by decide +kernel
theorem dX5_copyFrom_16 : decode cX5_copyFrom 16 = .ok (.aload_n 0, 1) := by decide +kernel
theorem dX5_copyFrom_17 : decode cX5_copyFrom 17 = .ok (.aload_n 1, 1) := by decide +kernel
theorem dX5_copyFrom_18 : decode cX5_copyFrom 18 = .ok (.getfield 19, 3) := by decide +kernel
theorem dX5_copyFrom_21 : decode cX5_copyFrom 21 = .ok (.putfield 19, 3) := by decide +kernel
theorem dX5_copyFrom_24 : decode cX5_copyFrom 24 = .ok (.aload_n 0, 1) := by decide +kernel
theorem dX5_copyFrom_25 : decode cX5_copyFrom 25 = .ok (.aload_n 1, 1) := by decide +kernel
theorem dX5_copyFrom_26 : decode cX5_copyFrom 26 = .ok (.getfield 22, 3) := by decide +kernel
theorem dX5_copyFrom_29 : decode cX5_copyFrom 29 = .ok (.putfield 22, 3) := by decide +kernel
theorem dX5_copyFrom_32 : decode cX5_copyFrom 32 = .ok (.aload_n 0, 1) := by decide +kernel
theorem dX5_copyFrom_33 : decode cX5_copyFrom 33 = .ok (.aload_n 1, 1) := by decide +kernel
theorem dX5_copyFrom_34 : decode cX5_copyFrom 34 = .ok (.getfield 25, 3) := by decide +kernel
theorem dX5_copyFrom_37 : decode cX5_copyFrom 37 = .ok (.putfield 25, 3) := by decide +kernel
theorem dX5_copyFrom_40 : decode cX5_copyFrom 40 = .ok (.aload_n 0, 1) := by decide +kernel
theorem dX5_copyFrom_41 : decode cX5_copyFrom 41 = .ok (.aload_n 1, 1) := by decide +kernel
theorem dX5_copyFrom_42 : decode cX5_copyFrom 42 = .ok (.getfield 28, 3) := by decide +kernel
theorem dX5_copyFrom_45 : decode cX5_copyFrom 45 = .ok (.putfield 28, 3) := by decide +kernel
theorem dX5_copyFrom_48 : decode cX5_copyFrom 48 = .ok (.aload_n 0, 1) := by decide +kernel
theorem dX5_copyFrom_49 : decode cX5_copyFrom 49 = .ok (.aload_n 1, 1) := by decide +kernel
theorem dX5_copyFrom_50 : decode cX5_copyFrom 50 = .ok (.getfield 31, 3) := by decide +kernel
theorem dX5_copyFrom_53 : decode cX5_copyFrom 53 = .ok (.putfield 31, 3) := by decide +kernel
theorem dX5_copyFrom_56 : decode cX5_copyFrom 56 = .ok (.aload_n 0, 1) := by decide +kernel
theorem dX5_copyFrom_57 : decode cX5_copyFrom 57 = .ok (.aload_n 1, 1) := by decide +kernel
theorem dX5_copyFrom_58 : decode cX5_copyFrom 58 = .ok (.getfield 34, 3) := by decide +kernel
theorem dX5_copyFrom_61 : decode cX5_copyFrom 61 = .ok (.putfield 34, 3) := by decide +kernel
theorem dX5_copyFrom_64 : decode cX5_copyFrom 64 = .ok (.return_, 1) := by decide +kernel
theorem dX6_init_0 : decode cX6_init 0 = .ok (.aload_n 0, 1) := by decide +kernel
theorem dX6_init_1 : decode cX6_init 1 = .ok (.invokespecial 1, 3) := by decide +kernel
theorem dX6_init_4 : decode cX6_init 4 = .ok (.aload_n 0, 1) := by decide +kernel
theorem dX6_init_5 : decode cX6_init 5 = .ok (.new 7, 3) := by decide +kernel
theorem dX6_init_8 : decode cX6_init 8 = .ok (.dup, 1) := by decide +kernel
theorem dX6_init_9 : decode cX6_init 9 = .ok (.invokespecial 9, 3) := by decide +kernel
theorem dX6_init_12 : decode cX6_init 12 = .ok (.putfield 10, 3) := by decide +kernel
theorem dX6_init_15 : decode cX6_init 15 = .ok (.aload_n 0, 1) := by decide +kernel
theorem dX6_init_16 : decode cX6_init 16 = .ok (.new 7, 3) := by decide +kernel
theorem dX6_init_19 : decode cX6_init 19 = .ok (.dup, 1) := by decide +kernel
theorem dX6_init_20 : decode cX6_init 20 = .ok (.invokespecial 9, 3) := by decide +kernel
theorem dX6_init_23 : decode cX6_init 23 = .ok (.putfield 16, 3) := by decide +kernel
theorem dX6_init_26 : decode cX6_init 26 = .ok (.aload_n 0, 1) := by decide +kernel
theorem dX6_init_27 : decode cX6_init 27 = .ok (.new 19, 3) := by decide +kernel
theorem dX6_init_30 : decode cX6_init 30 = .ok (.dup, 1) := by decide +kernel
theorem dX6_init_31 : decode cX6_init 31 = .ok (.invokespecial 21, 3) := by decide +kernel
theorem dX6_init_34 : decode cX6_init 34 = .ok (.putfield 22, 3) := by decide +kernel
theorem dX6_init_37 : decode cX6_init 37 = .ok (.aload_n 0, 1) := by decide +kernel
theorem dX6_init_38 : decode cX6_init 38 = .ok (.new 26, 3) := by decide +kernel
theorem dX6_init_41 : decode cX6_init 41 = .ok (.dup, 1) := by decide +kernel
theorem dX6_init_42 : decode cX6_init 42 = .ok (.invokespecial 28, 3) := by decide +kernel
theorem dX6_init_45 : decode cX6_init 45 = .ok (.putfield 29, 3) := by decide +kernel
theorem dX6_init_48 : decode cX6_init 48 = .ok (.return_, 1) := by decide +kernel
theorem dX6_consign_0 : decode cX6_consign 0 = .ok (.iload_n 1, 1) := by decide +kernel
theorem dX6_consign_1 : decode cX6_consign 1 = .ok (.iconst 1, 1) := by decide +kernel
theorem dX6_consign_2 : decode cX6_consign 2 = .ok (.iconst 4, 1) := by decide +kernel
theorem dX6_consign_3 : decode cX6_consign 3 = .ok (.invokestatic 33, 3) := by decide +kernel
theorem dX6_consign_6 : decode cX6_consign 6 = .ok (.ifCond .eq 60, 3) := by decide +kernel
theorem dX6_consign_9 : decode cX6_consign 9 = .ok (.iload_n 2, 1) := by decide +kernel
theorem dX6_consign_10 : decode cX6_consign 10 = .ok (.iconst 1, 1) := by decide +kernel
theorem dX6_consign_11 : decode cX6_consign 11 = .ok (.bipush 99, 2) := by decide +kernel
theorem dX6_consign_13 : decode cX6_consign 13 = .ok (.invokestatic 33, 3) := by decide +kernel
theorem dX6_consign_16 : decode cX6_consign 16 = .ok (.ifCond .eq 50, 3) := by decide +kernel
theorem dX6_consign_19 : decode cX6_consign 19 = .ok (.iload_n 3, 1) := by decide +kernel
theorem dX6_consign_20 : decode cX6_consign 20 = .ok (.iconst 1, 1) := by decide +kernel
theorem dX6_consign_21 : decode cX6_consign 21 = .ok (.bipush 99, 2) := by decide +kernel
theorem dX6_consign_23 : decode cX6_consign 23 = .ok (.invokestatic 33, 3) := by decide +kernel
theorem dX6_consign_26 : decode cX6_consign 26 = .ok (.ifCond .eq 40, 3) := by decide +kernel
theorem dX6_consign_29 : decode cX6_consign 29 = .ok (.iload 4, 2) := by decide +kernel
theorem dX6_consign_31 : decode cX6_consign 31 = .ok (.iconst 0, 1) := by decide +kernel
theorem dX6_consign_32 : decode cX6_consign 32 = .ok (.sipush 9999, 3) := by decide +kernel
theorem dX6_consign_35 : decode cX6_consign 35 = .ok (.invokestatic 33, 3) := by decide +kernel
theorem dX6_consign_38 : decode cX6_consign 38 = .ok (.ifCond .eq 28, 3) := by decide +kernel
theorem dX6_consign_41 : decode cX6_consign 41 = .ok (.iload 5, 2) := by decide +kernel
theorem dX6_consign_43 : decode cX6_consign 43 = .ok (.iload 4, 2) := by decide +kernel
theorem dX6_consign_45 : decode cX6_consign 45 = .ok (.sipush 9999, 3) := by decide +kernel
theorem dX6_consign_48 : decode cX6_consign 48 = .ok (.invokestatic 33, 3) := by decide +kernel
theorem dX6_consign_51 : decode cX6_consign 51 = .ok (.ifCond .eq 15, 3) := by decide +kernel
theorem dX6_consign_54 : decode cX6_consign 54 = .ok (.iload 6, 2) := by decide +kernel
theorem dX6_consign_56 : decode cX6_consign 56 = .ok (.iconst 0, 1) := by decide +kernel
theorem dX6_consign_57 : decode cX6_consign 57 = .ok (.sipush 999, 3) := by decide +kernel
theorem dX6_consign_60 : decode cX6_consign 60 = .ok (.invokestatic 33, 3) := by decide +kernel
theorem dX6_consign_63 : decode cX6_consign 63 = .ok (.ifCond .ne 6, 3) := by decide +kernel
theorem dX6_consign_66 : decode cX6_consign 66 = .ok (.ldc 37, 2) := by decide +kernel
theorem dX6_consign_68 : decode cX6_consign 68 = .ok (.ireturn, 1) := by decide +kernel
theorem dX6_consign_69 : decode cX6_consign 69 = .ok (.aload_n 0, 1) := by decide +kernel
theorem dX6_consign_70 : decode cX6_consign 70 = .ok (.getfield 22, 3) := by decide +kernel
theorem dX6_consign_73 : decode cX6_consign 73 = .ok (.aload_n 0, 1) := by decide +kernel
theorem dX6_consign_74 : decode cX6_consign 74 = .ok (.getfield 10, 3) := by decide +kernel
theorem dX6_consign_77 : decode cX6_consign 77 = .ok (.invokevirtual 38, 3) := by decide +kernel
theorem dX6_consign_80 : decode cX6_consign 80 = .ok (.aload_n 0, 1) := by decide +kernel
theorem dX6_consign_81 : decode cX6_consign 81 = .ok (.aload_n 0, 1) := by decide +kernel
theorem dX6_consign_82 : decode cX6_consign 82 = .ok (.getfield 10, 3) := by decide +kernel
theorem dX6_consign_85 : decode cX6_consign 85 = .ok (.iload_n 1, 1) := by decide +kernel
theorem dX6_consign_86 : decode cX6_consign 86 = .ok (.iload_n 2, 1) := by decide +kernel
theorem dX6_consign_87 : decode cX6_consign 87 = .ok (.iload_n 3, 1) := by decide +kernel
theorem dX6_consign_88 : decode cX6_consign 88 = .ok (.iload 4, 2) := by decide +kernel
theorem dX6_consign_90 : decode cX6_consign 90 = .ok (.iload 5, 2) := by decide +kernel
theorem dX6_consign_92 : decode cX6_consign 92 = .ok (.iload 6, 2) := by decide +kernel
theorem dX6_consign_94 : decode cX6_consign 94 = .ok (.invokevirtual 42, 3) := by decide +kernel
theorem dX6_consign_97 : decode cX6_consign 97 = .ok (.invokevirtual 46, 3) := by decide +kernel
theorem dX6_consign_100 : decode cX6_consign 100 = .ok (.ireturn, 1) := by decide +kernel
theorem dX6_split_0 : decode cX6_split 0 = .ok (.aload_n 0, 1) := by decide +kernel
theorem dX6_split_1 : decode cX6_split 1 = .ok (.getfield 22, 3) := by decide +kernel
theorem dX6_split_4 : decode cX6_split 4 = .ok (.aload_n 0, 1) := by decide +kernel
theorem dX6_split_5 : decode cX6_split 5 = .ok (.getfield 10, 3) := by decide +kernel
theorem dX6_split_8 : decode cX6_split 8 = .ok (.invokevirtual 38, 3) := by decide +kernel
theorem dX6_split_11 : decode cX6_split 11 = .ok (.aload_n 0, 1) := by decide +kernel
theorem dX6_split_12 : decode cX6_split 12 = .ok (.aload_n 0, 1) := by decide +kernel
theorem dX6_split_13 : decode cX6_split 13 = .ok (.getfield 10, 3) := by decide +kernel
theorem dX6_split_16 : decode cX6_split 16 = .ok (.iload_n 1, 1) := by decide +kernel
theorem dX6_split_17 : decode cX6_split 17 = .ok (.iload_n 2, 1) := by decide +kernel
theorem dX6_split_18 : decode cX6_split 18 = .ok (.iload_n 3, 1) := by decide +kernel
theorem dX6_split_19 : decode cX6_split 19 = .ok (.invokevirtual 50, 3) := by decide +kernel
theorem dX6_split_22 : decode cX6_split 22 = .ok (.invokevirtual 46, 3) := by decide +kernel
theorem dX6_split_25 : decode cX6_split 25 = .ok (.ireturn, 1) := by decide +kernel
theorem dX6_join_0 : decode cX6_join 0 = .ok (.aload_n 0, 1) := by decide +kernel
theorem dX6_join_1 : decode cX6_join 1 = .ok (.getfield 22, 3) := by decide +kernel
theorem dX6_join_4 : decode cX6_join 4 = .ok (.aload_n 0, 1) := by decide +kernel
theorem dX6_join_5 : decode cX6_join 5 = .ok (.getfield 10, 3) := by decide +kernel
theorem dX6_join_8 : decode cX6_join 8 = .ok (.invokevirtual 38, 3) := by decide +kernel
theorem dX6_join_11 : decode cX6_join 11 = .ok (.aload_n 0, 1) := by decide +kernel
theorem dX6_join_12 : decode cX6_join 12 = .ok (.aload_n 0, 1) := by decide +kernel
theorem dX6_join_13 : decode cX6_join 13 = .ok (.getfield 10, 3) := by decide +kernel
theorem dX6_join_16 : decode cX6_join 16 = .ok (.iload_n 1, 1) := by decide +kernel
theorem dX6_join_17 : decode cX6_join 17 = .ok (.iload_n 2, 1) := by decide +kernel
theorem dX6_join_18 : decode cX6_join 18 = .ok (.invokevirtual 54, 3) := by decide +kernel
theorem dX6_join_21 : decode cX6_join 21 = .ok (.invokevirtual 46, 3) := by decide +kernel
theorem dX6_join_24 : decode cX6_join 24 = .ok (.ireturn, 1) := by decide +kernel
theorem dX6_vehicle_0 : decode cX6_vehicle 0 = .ok (.aload_n 0, 1) := by decide +kernel
theorem dX6_vehicle_1 : decode cX6_vehicle 1 = .ok (.getfield 22, 3) := by decide +kernel
theorem dX6_vehicle_4 : decode cX6_vehicle 4 = .ok (.aload_n 0, 1) := by decide +kernel
theorem dX6_vehicle_5 : decode cX6_vehicle 5 = .ok (.getfield 10, 3) := by decide +kernel
theorem dX6_vehicle_8 : decode cX6_vehicle 8 = .ok (.invokevirtual 38, 3) := by decide +kernel
theorem dX6_vehicle_11 : decode cX6_vehicle 11 = .ok (.aload_n 0, 1) := by decide +kernel
theorem dX6_vehicle_12 : decode cX6_vehicle 12 = .ok (.aload_n 0, 1) := by decide +kernel
theorem dX6_vehicle_13 : decode cX6_vehicle 13 = .ok (.getfield 10, 3) := by decide +kernel
theorem dX6_vehicle_16 : decode cX6_vehicle 16 = .ok (.iload_n 1, 1) := by decide +kernel
theorem dX6_vehicle_17 : decode cX6_vehicle 17 = .ok (.iload_n 2, 1) := by decide +kernel
theorem dX6_vehicle_18 : decode cX6_vehicle 18 = .ok (.invokevirtual 58, 3) := by decide +kernel
theorem dX6_vehicle_21 : decode cX6_vehicle 21 = .ok (.invokevirtual 46, 3) := by decide +kernel
theorem dX6_vehicle_24 : decode cX6_vehicle 24 = .ok (.ireturn, 1) := by decide +kernel
theorem dX6_load_0 : decode cX6_load 0 = .ok (.aload_n 0, 1) := by decide +kernel
theorem dX6_load_1 : decode cX6_load 1 = .ok (.getfield 22, 3) := by decide +kernel
theorem dX6_load_4 : decode cX6_load 4 = .ok (.aload_n 0, 1) := by decide +kernel
theorem dX6_load_5 : decode cX6_load 5 = .ok (.getfield 10, 3) := by decide +kernel
theorem dX6_load_8 : decode cX6_load 8 = .ok (.invokevirtual 38, 3) := by decide +kernel
theorem dX6_load_11 : decode cX6_load 11 = .ok (.aload_n 0, 1) := by decide +kernel
theorem dX6_load_12 : decode cX6_load 12 = .ok (.aload_n 0, 1) := by decide +kernel
theorem dX6_load_13 : decode cX6_load 13 = .ok (.getfield 10, 3) := by decide +kernel
theorem dX6_load_16 : decode cX6_load 16 = .ok (.iload_n 1, 1) := by decide +kernel
theorem dX6_load_17 : decode cX6_load 17 = .ok (.iload_n 2, 1) := by decide +kernel
theorem dX6_load_18 : decode cX6_load 18 = .ok (.invokevirtual 61, 3) := by decide +kernel
theorem dX6_load_21 : decode cX6_load 21 = .ok (.invokevirtual 46, 3) := by decide +kernel
theorem dX6_load_24 : decode cX6_load 24 = .ok (.ireturn, 1) := by decide +kernel
theorem dX6_unload_0 : decode cX6_unload 0 = .ok (.aload_n 0, 1) := by decide +kernel
theorem dX6_unload_1 : decode cX6_unload 1 = .ok (.getfield 22, 3) := by decide +kernel
theorem dX6_unload_4 : decode cX6_unload 4 = .ok (.aload_n 0, 1) := by decide +kernel
theorem dX6_unload_5 : decode cX6_unload 5 = .ok (.getfield 10, 3) := by decide +kernel
theorem dX6_unload_8 : decode cX6_unload 8 = .ok (.invokevirtual 38, 3) := by decide +kernel
theorem dX6_unload_11 : decode cX6_unload 11 = .ok (.aload_n 0, 1) := by decide +kernel
theorem dX6_unload_12 : decode cX6_unload 12 = .ok (.aload_n 0, 1) := by decide +kernel
theorem dX6_unload_13 : decode cX6_unload 13 = .ok (.getfield 10, 3) := by decide +kernel
theorem dX6_unload_16 : decode cX6_unload 16 = .ok (.iload_n 1, 1) := by decide +kernel
theorem dX6_unload_17 : decode cX6_unload 17 = .ok (.invokevirtual 64, 3) := by decide +kernel
theorem dX6_unload_20 : decode cX6_unload 20 = .ok (.invokevirtual 46, 3) := by decide +kernel
theorem dX6_unload_23 : decode cX6_unload 23 = .ok (.ireturn, 1) := by decide +kernel
theorem dX6_fill_0 : decode cX6_fill 0 = .ok (.aload_n 0, 1) := by decide +kernel
theorem dX6_fill_1 : decode cX6_fill 1 = .ok (.getfield 22, 3) := by decide +kernel
theorem dX6_fill_4 : decode cX6_fill 4 = .ok (.aload_n 0, 1) := by decide +kernel
theorem dX6_fill_5 : decode cX6_fill 5 = .ok (.getfield 10, 3) := by decide +kernel
theorem dX6_fill_8 : decode cX6_fill 8 = .ok (.invokevirtual 38, 3) := by decide +kernel
theorem dX6_fill_11 : decode cX6_fill 11 = .ok (.aload_n 0, 1) := by decide +kernel
theorem dX6_fill_12 : decode cX6_fill 12 = .ok (.aload_n 0, 1) := by decide +kernel
theorem dX6_fill_13 : decode cX6_fill 13 = .ok (.getfield 10, 3) := by decide +kernel
theorem dX6_fill_16 : decode cX6_fill 16 = .ok (.iload_n 1, 1) := by decide +kernel
theorem dX6_fill_17 : decode cX6_fill 17 = .ok (.iload_n 2, 1) := by decide +kernel
theorem dX6_fill_18 : decode cX6_fill 18 = .ok (.iload_n 3, 1) := by decide +kernel
theorem dX6_fill_19 : decode cX6_fill 19 = .ok (.invokevirtual 67, 3) := by decide +kernel
theorem dX6_fill_22 : decode cX6_fill 22 = .ok (.invokevirtual 46, 3) := by decide +kernel
theorem dX6_fill_25 : decode cX6_fill 25 = .ok (.istore 4, 2) := by decide +kernel
theorem dX6_fill_27 : decode cX6_fill 27 = .ok (.iload 4, 2) := by decide +kernel
theorem dX6_fill_29 : decode cX6_fill 29 = .ok (.ifCond .ge 8, 3) := by decide +kernel
theorem dX6_fill_32 : decode cX6_fill 32 = .ok (.iload 4, 2) := by decide +kernel
theorem dX6_fill_34 : decode cX6_fill 34 = .ok (.goto 8, 3) := by decide +kernel
theorem dX6_fill_37 : decode cX6_fill 37 = .ok (.iload 4, 2) := by decide +kernel
theorem dX6_fill_39 : decode cX6_fill 39 = .ok (.invokestatic 70, 3) := by decide +kernel
theorem dX6_fill_42 : decode cX6_fill 42 = .ok (.ireturn, 1) := by decide +kernel
theorem dX6_depart_0 : decode cX6_depart 0 = .ok (.aload_n 0, 1) := by decide +kernel
theorem dX6_depart_1 : decode cX6_depart 1 = .ok (.getfield 22, 3) := by decide +kernel
theorem dX6_depart_4 : decode cX6_depart 4 = .ok (.aload_n 0, 1) := by decide +kernel
theorem dX6_depart_5 : decode cX6_depart 5 = .ok (.getfield 10, 3) := by decide +kernel
theorem dX6_depart_8 : decode cX6_depart 8 = .ok (.invokevirtual 38, 3) := by decide +kernel
theorem dX6_depart_11 : decode cX6_depart 11 = .ok (.aload_n 0, 1) := by decide +kernel
theorem dX6_depart_12 : decode cX6_depart 12 = .ok (.aload_n 0, 1) := by decide +kernel
theorem dX6_depart_13 : decode cX6_depart 13 = .ok (.getfield 10, 3) := by decide +kernel
theorem dX6_depart_16 : decode cX6_depart 16 = .ok (.iload_n 1, 1) := by decide +kernel
theorem dX6_depart_17 : decode cX6_depart 17 = .ok (.invokevirtual 75, 3) := by decide +kernel
theorem dX6_depart_20 : decode cX6_depart 20 = .ok (.invokevirtual 46, 3) := by decide +kernel
theorem dX6_depart_23 : decode cX6_depart 23 = .ok (.ireturn, 1) := by decide +kernel
theorem dX6_offer_0 : decode cX6_offer 0 = .ok (.aload_n 0, 1) := by decide +kernel
theorem dX6_offer_1 : decode cX6_offer 1 = .ok (.getfield 22, 3) := by decide +kernel
theorem dX6_offer_4 : decode cX6_offer 4 = .ok (.aload_n 0, 1) := by decide +kernel
theorem dX6_offer_5 : decode cX6_offer 5 = .ok (.getfield 10, 3) := by decide +kernel
theorem dX6_offer_8 : decode cX6_offer 8 = .ok (.invokevirtual 38, 3) := by decide +kernel
theorem dX6_offer_11 : decode cX6_offer 11 = .ok (.aload_n 0, 1) := by decide +kernel
theorem dX6_offer_12 : decode cX6_offer 12 = .ok (.aload_n 0, 1) := by decide +kernel
theorem dX6_offer_13 : decode cX6_offer 13 = .ok (.getfield 10, 3) := by decide +kernel
theorem dX6_offer_16 : decode cX6_offer 16 = .ok (.iload_n 1, 1) := by decide +kernel
theorem dX6_offer_17 : decode cX6_offer 17 = .ok (.iload_n 2, 1) := by decide +kernel
theorem dX6_offer_18 : decode cX6_offer 18 = .ok (.iload_n 3, 1) := by decide +kernel
theorem dX6_offer_19 : decode cX6_offer 19 = .ok (.iload 4, 2) := by decide +kernel
theorem dX6_offer_21 : decode cX6_offer 21 = .ok (.iload 5, 2) := by decide +kernel
theorem dX6_offer_23 : decode cX6_offer 23 = .ok (.invokevirtual 78, 3) := by decide +kernel
theorem dX6_offer_26 : decode cX6_offer 26 = .ok (.invokevirtual 46, 3) := by decide +kernel
theorem dX6_offer_29 : decode cX6_offer 29 = .ok (.ireturn, 1) := by decide +kernel
theorem dX6_pass_0 : decode cX6_pass 0 = .ok (.aload_n 0, 1) := by decide +kernel
theorem dX6_pass_1 : decode cX6_pass 1 = .ok (.getfield 22, 3) := by decide +kernel
theorem dX6_pass_4 : decode cX6_pass 4 = .ok (.aload_n 0, 1) := by decide +kernel
theorem dX6_pass_5 : decode cX6_pass 5 = .ok (.getfield 10, 3) := by decide +kernel
theorem dX6_pass_8 : decode cX6_pass 8 = .ok (.invokevirtual 38, 3) := by decide +kernel
theorem dX6_pass_11 : decode cX6_pass 11 = .ok (.aload_n 0, 1) := by decide +kernel
theorem dX6_pass_12 : decode cX6_pass 12 = .ok (.aload_n 0, 1) := by decide +kernel
theorem dX6_pass_13 : decode cX6_pass 13 = .ok (.getfield 10, 3) := by decide +kernel
theorem dX6_pass_16 : decode cX6_pass 16 = .ok (.iload_n 1, 1) := by decide +kernel
theorem dX6_pass_17 : decode cX6_pass 17 = .ok (.invokevirtual 82, 3) := by decide +kernel
theorem dX6_pass_20 : decode cX6_pass 20 = .ok (.invokevirtual 46, 3) := by decide +kernel
theorem dX6_pass_23 : decode cX6_pass 23 = .ok (.ireturn, 1) := by decide +kernel
theorem dX6_set_0 : decode cX6_set 0 = .ok (.aload_n 0, 1) := by decide +kernel
theorem dX6_set_1 : decode cX6_set 1 = .ok (.getfield 22, 3) := by decide +kernel
theorem dX6_set_4 : decode cX6_set 4 = .ok (.aload_n 0, 1) := by decide +kernel
theorem dX6_set_5 : decode cX6_set 5 = .ok (.getfield 10, 3) := by decide +kernel
theorem dX6_set_8 : decode cX6_set 8 = .ok (.invokevirtual 38, 3) := by decide +kernel
theorem dX6_set_11 : decode cX6_set 11 = .ok (.aload_n 0, 1) := by decide +kernel
theorem dX6_set_12 : decode cX6_set 12 = .ok (.aload_n 0, 1) := by decide +kernel
theorem dX6_set_13 : decode cX6_set 13 = .ok (.getfield 10, 3) := by decide +kernel
theorem dX6_set_16 : decode cX6_set 16 = .ok (.iload_n 1, 1) := by decide +kernel
theorem dX6_set_17 : decode cX6_set 17 = .ok (.iload_n 2, 1) := by decide +kernel
theorem dX6_set_18 : decode cX6_set 18 = .ok (.invokevirtual 85, 3) := by decide +kernel
theorem dX6_set_21 : decode cX6_set 21 = .ok (.invokevirtual 46, 3) := by decide +kernel
theorem dX6_set_24 : decode cX6_set 24 = .ok (.ireturn, 1) := by decide +kernel
theorem dX6_consignmentOf_0 : decode cX6_consignmentOf 0 = .ok (.aload_n 0, 1) := by decide +kernel
theorem dX6_consignmentOf_1 : decode cX6_consignmentOf 1 = .ok (.getfield 10, 3) := by decide +kernel
theorem dX6_consignmentOf_4 : decode cX6_consignmentOf 4 = .ok (.iload_n 1, 1) := by decide +kernel
theorem dX6_consignmentOf_5 : decode cX6_consignmentOf 5 = .ok (.invokevirtual 88, 3) := by decide +kernel
theorem dX6_consignmentOf_8 : decode cX6_consignmentOf 8 = .ok (.astore_n 3, 1) := by decide +kernel
theorem dX6_consignmentOf_9 : decode cX6_consignmentOf 9 = .ok (.aload_n 3, 1) := by decide +kernel
theorem dX6_consignmentOf_10 : decode cX6_consignmentOf 10 = .ok (.ifnonnull 6, 3) := by decide +kernel
theorem dX6_consignmentOf_13 : decode cX6_consignmentOf 13 = .ok (.ldc 37, 2) := by decide +kernel
theorem dX6_consignmentOf_15 : decode cX6_consignmentOf 15 = .ok (.ireturn, 1) := by decide +kernel
theorem dX6_consignmentOf_16 : decode cX6_consignmentOf 16 = .ok (.iload_n 2, 1) := by decide +kernel
theorem dX6_consignmentOf_17 : decode cX6_consignmentOf 17 = .ok (.tableswitch 169 0 10 #[59, 64, 69, 74, 79, 84, 89, 94, 112, 130, 142], 59) := by decide +kernel
theorem dX6_consignmentOf_76 : decode cX6_consignmentOf 76 = .ok (.aload_n 3, 1) := by decide +kernel
theorem dX6_consignmentOf_77 : decode cX6_consignmentOf 77 = .ok (.getfield 92, 3) := by decide +kernel
theorem dX6_consignmentOf_80 : decode cX6_consignmentOf 80 = .ok (.ireturn, 1) := by decide +kernel
theorem dX6_consignmentOf_81 : decode cX6_consignmentOf 81 = .ok (.aload_n 3, 1) := by decide +kernel
theorem dX6_consignmentOf_82 : decode cX6_consignmentOf 82 = .ok (.getfield 98, 3) := by decide +kernel
theorem dX6_consignmentOf_85 : decode cX6_consignmentOf 85 = .ok (.ireturn, 1) := by decide +kernel
theorem dX6_consignmentOf_86 : decode cX6_consignmentOf 86 = .ok (.aload_n 3, 1) := by decide +kernel
theorem dX6_consignmentOf_87 : decode cX6_consignmentOf 87 = .ok (.getfield 101, 3) := by decide +kernel
theorem dX6_consignmentOf_90 : decode cX6_consignmentOf 90 = .ok (.ireturn, 1) := by decide +kernel
theorem dX6_consignmentOf_91 : decode cX6_consignmentOf 91 = .ok (.aload_n 3, 1) := by decide +kernel
theorem dX6_consignmentOf_92 : decode cX6_consignmentOf 92 = .ok (.getfield 104, 3) := by decide +kernel
theorem dX6_consignmentOf_95 : decode cX6_consignmentOf 95 = .ok (.ireturn, 1) := by decide +kernel
theorem dX6_consignmentOf_96 : decode cX6_consignmentOf 96 = .ok (.aload_n 3, 1) := by decide +kernel
theorem dX6_consignmentOf_97 : decode cX6_consignmentOf 97 = .ok (.getfield 107, 3) := by decide +kernel
theorem dX6_consignmentOf_100 : decode cX6_consignmentOf 100 = .ok (.ireturn, 1) := by decide +kernel
theorem dX6_consignmentOf_101 : decode cX6_consignmentOf 101 = .ok (.aload_n 3, 1) := by decide +kernel
theorem dX6_consignmentOf_102 : decode cX6_consignmentOf 102 = .ok (.getfield 110, 3) := by decide +kernel
theorem dX6_consignmentOf_105 : decode cX6_consignmentOf 105 = .ok (.ireturn, 1) := by decide +kernel
theorem dX6_consignmentOf_106 : decode cX6_consignmentOf 106 = .ok (.aload_n 3, 1) := by decide +kernel
theorem dX6_consignmentOf_107 : decode cX6_consignmentOf 107 = .ok (.getfield 113, 3) := by decide +kernel
theorem dX6_consignmentOf_110 : decode cX6_consignmentOf 110 = .ok (.ireturn, 1) := by decide +kernel
theorem dX6_consignmentOf_111 : decode cX6_consignmentOf 111 = .ok (.aload_n 3, 1) := by decide +kernel
theorem dX6_consignmentOf_112 : decode cX6_consignmentOf 112 = .ok (.getfield 116, 3) := by decide +kernel
theorem dX6_consignmentOf_115 : decode cX6_consignmentOf 115 = .ok (.iconst (-1), 1) := by decide +kernel
theorem dX6_consignmentOf_116 : decode cX6_consignmentOf 116 = .ok (.if_icmp .ne 8, 3) := by decide +kernel
theorem dX6_consignmentOf_119 : decode cX6_consignmentOf 119 = .ok (.ldc 119, 2) := by decide +kernel
theorem dX6_consignmentOf_121 : decode cX6_consignmentOf 121 = .ok (.goto 7, 3) := by decide +kernel
theorem dX6_consignmentOf_124 : decode cX6_consignmentOf 124 = .ok (.aload_n 3, 1) := by decide +kernel
theorem dX6_consignmentOf_125 : decode cX6_consignmentOf 125 = .ok (.getfield 116, 3) := by decide +kernel
theorem dX6_consignmentOf_128 : decode cX6_consignmentOf 128 = .ok (.ireturn, 1) := by decide +kernel
theorem dX6_consignmentOf_129 : decode cX6_consignmentOf 129 = .ok (.aload_n 3, 1) := by decide +kernel
theorem dX6_consignmentOf_130 : decode cX6_consignmentOf 130 = .ok (.getfield 120, 3) := by decide +kernel
theorem dX6_consignmentOf_133 : decode cX6_consignmentOf 133 = .ok (.iconst (-1), 1) := by decide +kernel
theorem dX6_consignmentOf_134 : decode cX6_consignmentOf 134 = .ok (.if_icmp .ne 8, 3) := by decide +kernel
theorem dX6_consignmentOf_137 : decode cX6_consignmentOf 137 = .ok (.ldc 119, 2) := by decide +kernel
theorem dX6_consignmentOf_139 : decode cX6_consignmentOf 139 = .ok (.goto 7, 3) := by decide +kernel
theorem dX6_consignmentOf_142 : decode cX6_consignmentOf 142 = .ok (.aload_n 3, 1) := by decide +kernel
theorem dX6_consignmentOf_143 : decode cX6_consignmentOf 143 = .ok (.getfield 120, 3) := by decide +kernel
theorem dX6_consignmentOf_146 : decode cX6_consignmentOf 146 = .ok (.ireturn, 1) := by decide +kernel
theorem dX6_consignmentOf_147 : decode cX6_consignmentOf 147 = .ok (.aload_n 0, 1) := by decide +kernel
theorem dX6_consignmentOf_148 : decode cX6_consignmentOf 148 = .ok (.getfield 10, 3) := by decide +kernel
theorem dX6_consignmentOf_151 : decode cX6_consignmentOf 151 = .ok (.aload_n 3, 1) := by decide +kernel
theorem dX6_consignmentOf_152 : decode cX6_consignmentOf 152 = .ok (.getfield 123, 3) := by decide +kernel
theorem dX6_consignmentOf_155 : decode cX6_consignmentOf 155 = .ok (.invokevirtual 126, 3) := by decide +kernel
theorem dX6_consignmentOf_158 : decode cX6_consignmentOf 158 = .ok (.ireturn, 1) := by decide +kernel
theorem dX6_consignmentOf_159 : decode cX6_consignmentOf 159 = .ok (.aload_n 3, 1) := by decide +kernel
theorem dX6_consignmentOf_160 : decode cX6_consignmentOf 160 = .ok (.invokevirtual 129, 3) := by decide +kernel
theorem dX6_consignmentOf_163 : decode cX6_consignmentOf 163 = .ok (.ifCond .eq 13, 3) := by decide +kernel
theorem dX6_consignmentOf_166 : decode cX6_consignmentOf 166 = .ok (.aload_n 0, 1) := by decide +kernel
theorem dX6_consignmentOf_167 : decode cX6_consignmentOf 167 = .ok (.getfield 10, 3) := by decide +kernel
theorem dX6_consignmentOf_170 : decode cX6_consignmentOf 170 = .ok (.getfield 133, 3) := by decide +kernel
theorem dX6_consignmentOf_173 : decode cX6_consignmentOf 173 = .ok (.goto 7, 3) := by decide +kernel
theorem dX6_consignmentOf_176 : decode cX6_consignmentOf 176 = .ok (.aload_n 3, 1) := by decide +kernel
theorem dX6_consignmentOf_177 : decode cX6_consignmentOf 177 = .ok (.getfield 136, 3) := by decide +kernel
theorem dX6_consignmentOf_180 : decode cX6_consignmentOf 180 = .ok (.aload_n 3, 1) := by decide +kernel
theorem dX6_consignmentOf_181 : decode cX6_consignmentOf 181 = .ok (.getfield 139, 3) := by decide +kernel
theorem dX6_consignmentOf_184 : decode cX6_consignmentOf 184 = .ok (.isub, 1) := by decide +kernel
theorem dX6_consignmentOf_185 : decode cX6_consignmentOf 185 = .ok (.ireturn, 1) := by decide +kernel
theorem dX6_consignmentOf_186 : decode cX6_consignmentOf 186 = .ok (.ldc 37, 2) := by decide +kernel
theorem dX6_consignmentOf_188 : decode cX6_consignmentOf 188 = .ok (.ireturn, 1) := by decide +kernel
theorem dX6_vehicleOf_0 : decode cX6_vehicleOf 0 = .ok (.aload_n 0, 1) := by decide +kernel
theorem dX6_vehicleOf_1 : decode cX6_vehicleOf 1 = .ok (.getfield 10, 3) := by decide +kernel
theorem dX6_vehicleOf_4 : decode cX6_vehicleOf 4 = .ok (.iload_n 1, 1) := by decide +kernel
theorem dX6_vehicleOf_5 : decode cX6_vehicleOf 5 = .ok (.invokevirtual 142, 3) := by decide +kernel
theorem dX6_vehicleOf_8 : decode cX6_vehicleOf 8 = .ok (.astore_n 3, 1) := by decide +kernel
theorem dX6_vehicleOf_9 : decode cX6_vehicleOf 9 = .ok (.aload_n 3, 1) := by decide +kernel
theorem dX6_vehicleOf_10 : decode cX6_vehicleOf 10 = .ok (.ifnonnull 6, 3) := by decide +kernel
theorem dX6_vehicleOf_13 : decode cX6_vehicleOf 13 = .ok (.ldc 37, 2) := by decide +kernel
theorem dX6_vehicleOf_15 : decode cX6_vehicleOf 15 = .ok (.ireturn, 1) := by decide +kernel
theorem dX6_vehicleOf_16 : decode cX6_vehicleOf 16 = .ok (.iload_n 2, 1) := by decide +kernel
theorem dX6_vehicleOf_17 : decode cX6_vehicleOf 17 = .ok (.tableswitch 130 0 9 #[55, 60, 65, 70, 79, 88, 97, 103, 120, 125], 55) := by decide +kernel
theorem dX6_vehicleOf_72 : decode cX6_vehicleOf 72 = .ok (.aload_n 3, 1) := by decide +kernel
theorem dX6_vehicleOf_73 : decode cX6_vehicleOf 73 = .ok (.getfield 146, 3) := by decide +kernel
theorem dX6_vehicleOf_76 : decode cX6_vehicleOf 76 = .ok (.ireturn, 1) := by decide +kernel
theorem dX6_vehicleOf_77 : decode cX6_vehicleOf 77 = .ok (.aload_n 3, 1) := by decide +kernel
theorem dX6_vehicleOf_78 : decode cX6_vehicleOf 78 = .ok (.getfield 151, 3) := by decide +kernel
theorem dX6_vehicleOf_81 : decode cX6_vehicleOf 81 = .ok (.ireturn, 1) := by decide +kernel
theorem dX6_vehicleOf_82 : decode cX6_vehicleOf 82 = .ok (.aload_n 3, 1) := by decide +kernel
theorem dX6_vehicleOf_83 : decode cX6_vehicleOf 83 = .ok (.getfield 154, 3) := by decide +kernel
theorem dX6_vehicleOf_86 : decode cX6_vehicleOf 86 = .ok (.ireturn, 1) := by decide +kernel
theorem dX6_vehicleOf_87 : decode cX6_vehicleOf 87 = .ok (.aload_n 0, 1) := by decide +kernel
theorem dX6_vehicleOf_88 : decode cX6_vehicleOf 88 = .ok (.getfield 10, 3) := by decide +kernel
theorem dX6_vehicleOf_91 : decode cX6_vehicleOf 91 = .ok (.aload_n 3, 1) := by decide +kernel
theorem dX6_vehicleOf_92 : decode cX6_vehicleOf 92 = .ok (.invokevirtual 155, 3) := by decide +kernel
theorem dX6_vehicleOf_95 : decode cX6_vehicleOf 95 = .ok (.ireturn, 1) := by decide +kernel
theorem dX6_vehicleOf_96 : decode cX6_vehicleOf 96 = .ok (.aload_n 0, 1) := by decide +kernel
theorem dX6_vehicleOf_97 : decode cX6_vehicleOf 97 = .ok (.getfield 10, 3) := by decide +kernel
theorem dX6_vehicleOf_100 : decode cX6_vehicleOf 100 = .ok (.aload_n 3, 1) := by decide +kernel
theorem dX6_vehicleOf_101 : decode cX6_vehicleOf 101 = .ok (.invokevirtual 159, 3) := by decide +kernel
theorem dX6_vehicleOf_104 : decode cX6_vehicleOf 104 = .ok (.ireturn, 1) := by decide +kernel
theorem dX6_vehicleOf_105 : decode cX6_vehicleOf 105 = .ok (.aload_n 0, 1) := by decide +kernel
theorem dX6_vehicleOf_106 : decode cX6_vehicleOf 106 = .ok (.getfield 10, 3) := by decide +kernel
theorem dX6_vehicleOf_109 : decode cX6_vehicleOf 109 = .ok (.aload_n 3, 1) := by decide +kernel
theorem dX6_vehicleOf_110 : decode cX6_vehicleOf 110 = .ok (.invokevirtual 162, 3) := by decide +kernel
theorem dX6_vehicleOf_113 : decode cX6_vehicleOf 113 = .ok (.ireturn, 1) := by decide +kernel
theorem dX6_vehicleOf_114 : decode cX6_vehicleOf 114 = .ok (.aload_n 0, 1) := by decide +kernel
theorem dX6_vehicleOf_115 : decode cX6_vehicleOf 115 = .ok (.aload_n 3, 1) := by decide +kernel
theorem dX6_vehicleOf_116 : decode cX6_vehicleOf 116 = .ok (.invokevirtual 165, 3) := by decide +kernel
theorem dX6_vehicleOf_119 : decode cX6_vehicleOf 119 = .ok (.ireturn, 1) := by decide +kernel
theorem dX6_vehicleOf_120 : decode cX6_vehicleOf 120 = .ok (.aload_n 3, 1) := by decide +kernel
theorem dX6_vehicleOf_121 : decode cX6_vehicleOf 121 = .ok (.getfield 154, 3) := by decide +kernel
theorem dX6_vehicleOf_124 : decode cX6_vehicleOf 124 = .ok (.ifCond .ne 8, 3) := by decide +kernel
theorem dX6_vehicleOf_127 : decode cX6_vehicleOf 127 = .ok (.ldc 119, 2) := by decide +kernel
theorem dX6_vehicleOf_129 : decode cX6_vehicleOf 129 = .ok (.goto 7, 3) := by decide +kernel
theorem dX6_vehicleOf_132 : decode cX6_vehicleOf 132 = .ok (.aload_n 3, 1) := by decide +kernel
theorem dX6_vehicleOf_133 : decode cX6_vehicleOf 133 = .ok (.getfield 168, 3) := by decide +kernel
theorem dX6_vehicleOf_136 : decode cX6_vehicleOf 136 = .ok (.ireturn, 1) := by decide +kernel
theorem dX6_vehicleOf_137 : decode cX6_vehicleOf 137 = .ok (.aload_n 3, 1) := by decide +kernel
theorem dX6_vehicleOf_138 : decode cX6_vehicleOf 138 = .ok (.getfield 171, 3) := by decide +kernel
theorem dX6_vehicleOf_141 : decode cX6_vehicleOf 141 = .ok (.ireturn, 1) := by decide +kernel
theorem dX6_vehicleOf_142 : decode cX6_vehicleOf 142 = .ok (.aload_n 3, 1) := by decide +kernel
theorem dX6_vehicleOf_143 : decode cX6_vehicleOf 143 = .ok (.getfield 174, 3) := by decide +kernel
theorem dX6_vehicleOf_146 : decode cX6_vehicleOf 146 = .ok (.ireturn, 1) := by decide +kernel
theorem dX6_vehicleOf_147 : decode cX6_vehicleOf 147 = .ok (.ldc 37, 2) := by decide +kernel
theorem dX6_vehicleOf_149 : decode cX6_vehicleOf 149 = .ok (.ireturn, 1) := by decide +kernel
theorem dX6_offerOf_0 : decode cX6_offerOf 0 = .ok (.iload_n 1, 1) := by decide +kernel
theorem dX6_offerOf_1 : decode cX6_offerOf 1 = .ok (.ifCond .lt 12, 3) := by decide +kernel
theorem dX6_offerOf_4 : decode cX6_offerOf 4 = .ok (.iload_n 2, 1) := by decide +kernel
theorem dX6_offerOf_5 : decode cX6_offerOf 5 = .ok (.iconst 0, 1) := by decide +kernel
theorem dX6_offerOf_6 : decode cX6_offerOf 6 = .ok (.iconst 4, 1) := by decide +kernel
theorem dX6_offerOf_7 : decode cX6_offerOf 7 = .ok (.invokestatic 33, 3) := by decide +kernel
theorem dX6_offerOf_10 : decode cX6_offerOf 10 = .ok (.ifCond .ne 6, 3) := by decide +kernel
theorem dX6_offerOf_13 : decode cX6_offerOf 13 = .ok (.ldc 37, 2) := by decide +kernel
theorem dX6_offerOf_15 : decode cX6_offerOf 15 = .ok (.ireturn, 1) := by decide +kernel
theorem dX6_offerOf_16 : decode cX6_offerOf 16 = .ok (.iload_n 1, 1) := by decide +kernel
theorem dX6_offerOf_17 : decode cX6_offerOf 17 = .ok (.aload_n 0, 1) := by decide +kernel
theorem dX6_offerOf_18 : decode cX6_offerOf 18 = .ok (.getfield 10, 3) := by decide +kernel
theorem dX6_offerOf_21 : decode cX6_offerOf 21 = .ok (.getfield 177, 3) := by decide +kernel
theorem dX6_offerOf_24 : decode cX6_offerOf 24 = .ok (.if_icmp .ge 9, 3) := by decide +kernel
theorem dX6_offerOf_27 : decode cX6_offerOf 27 = .ok (.iload_n 1, 1) := by decide +kernel
theorem dX6_offerOf_28 : decode cX6_offerOf 28 = .ok (.bipush 10, 2) := by decide +kernel
theorem dX6_offerOf_30 : decode cX6_offerOf 30 = .ok (.if_icmp .lt 6, 3) := by decide +kernel
theorem dX6_offerOf_33 : decode cX6_offerOf 33 = .ok (.ldc 119, 2) := by decide +kernel
theorem dX6_offerOf_35 : decode cX6_offerOf 35 = .ok (.ireturn, 1) := by decide +kernel
theorem dX6_offerOf_36 : decode cX6_offerOf 36 = .ok (.aload_n 0, 1) := by decide +kernel
theorem dX6_offerOf_37 : decode cX6_offerOf 37 = .ok (.getfield 10, 3) := by decide +kernel
theorem dX6_offerOf_40 : decode cX6_offerOf 40 = .ok (.getfield 180, 3) := by decide +kernel
theorem dX6_offerOf_43 : decode cX6_offerOf 43 = .ok (.iload_n 1, 1) := by decide +kernel
theorem dX6_offerOf_44 : decode cX6_offerOf 44 = .ok (.aaload, 1) := by decide +kernel
theorem dX6_offerOf_45 : decode cX6_offerOf 45 = .ok (.astore_n 3, 1) := by decide +kernel
theorem dX6_offerOf_46 : decode cX6_offerOf 46 = .ok (.iload_n 2, 1) := by decide +kernel
theorem dX6_offerOf_47 : decode cX6_offerOf 47 = .ok (.tableswitch 49 0 3 #[29, 34, 39, 44], 29) := by decide +kernel
theorem dX6_offerOf_76 : decode cX6_offerOf 76 = .ok (.aload_n 3, 1) := by decide +kernel
theorem dX6_offerOf_77 : decode cX6_offerOf 77 = .ok (.getfield 184, 3) := by decide +kernel
theorem dX6_offerOf_80 : decode cX6_offerOf 80 = .ok (.ireturn, 1) := by decide +kernel
theorem dX6_offerOf_81 : decode cX6_offerOf 81 = .ok (.aload_n 3, 1) := by decide +kernel
theorem dX6_offerOf_82 : decode cX6_offerOf 82 = .ok (.getfield 187, 3) := by decide +kernel
theorem dX6_offerOf_85 : decode cX6_offerOf 85 = .ok (.ireturn, 1) := by decide +kernel
theorem dX6_offerOf_86 : decode cX6_offerOf 86 = .ok (.aload_n 3, 1) := by decide +kernel
theorem dX6_offerOf_87 : decode cX6_offerOf 87 = .ok (.getfield 188, 3) := by decide +kernel
theorem dX6_offerOf_90 : decode cX6_offerOf 90 = .ok (.ireturn, 1) := by decide +kernel
theorem dX6_offerOf_91 : decode cX6_offerOf 91 = .ok (.aload_n 3, 1) := by decide +kernel
theorem dX6_offerOf_92 : decode cX6_offerOf 92 = .ok (.getfield 189, 3) := by decide +kernel
theorem dX6_offerOf_95 : decode cX6_offerOf 95 = .ok (.ireturn, 1) := by decide +kernel
theorem dX6_offerOf_96 : decode cX6_offerOf 96 = .ok (.aload_n 3, 1) := by decide +kernel
theorem dX6_offerOf_97 : decode cX6_offerOf 97 = .ok (.getfield 192, 3) := by decide +kernel
theorem dX6_offerOf_100 : decode cX6_offerOf 100 = .ok (.ireturn, 1) := by decide +kernel
theorem dX6_count_0 : decode cX6_count 0 = .ok (.iload_n 1, 1) := by decide +kernel
theorem dX6_count_1 : decode cX6_count 1 = .ok (.tableswitch 173 0 12 #[67, 75, 83, 91, 99, 108, 117, 125, 133, 141, 149, 157, 165], 67) := by decide +kernel
theorem dX6_count_68 : decode cX6_count 68 = .ok (.aload_n 0, 1) := by decide +kernel
theorem dX6_count_69 : decode cX6_count 69 = .ok (.getfield 10, 3) := by decide +kernel
theorem dX6_count_72 : decode cX6_count 72 = .ok (.getfield 195, 3) := by decide +kernel
theorem dX6_count_75 : decode cX6_count 75 = .ok (.ireturn, 1) := by decide +kernel
theorem dX6_count_76 : decode cX6_count 76 = .ok (.aload_n 0, 1) := by decide +kernel
theorem dX6_count_77 : decode cX6_count 77 = .ok (.getfield 10, 3) := by decide +kernel
theorem dX6_count_80 : decode cX6_count 80 = .ok (.getfield 198, 3) := by decide +kernel
theorem dX6_count_83 : decode cX6_count 83 = .ok (.ireturn, 1) := by decide +kernel
theorem dX6_count_84 : decode cX6_count 84 = .ok (.aload_n 0, 1) := by decide +kernel
theorem dX6_count_85 : decode cX6_count 85 = .ok (.getfield 10, 3) := by decide +kernel
theorem dX6_count_88 : decode cX6_count 88 = .ok (.getfield 133, 3) := by decide +kernel
theorem dX6_count_91 : decode cX6_count 91 = .ok (.ireturn, 1) := by decide +kernel
theorem dX6_count_92 : decode cX6_count 92 = .ok (.aload_n 0, 1) := by decide +kernel
theorem dX6_count_93 : decode cX6_count 93 = .ok (.getfield 10, 3) := by decide +kernel
theorem dX6_count_96 : decode cX6_count 96 = .ok (.invokevirtual 201, 3) := by decide +kernel
theorem dX6_count_99 : decode cX6_count 99 = .ok (.ireturn, 1) := by decide +kernel
theorem dX6_count_100 : decode cX6_count 100 = .ok (.aload_n 0, 1) := by decide +kernel
theorem dX6_count_101 : decode cX6_count 101 = .ok (.getfield 10, 3) := by decide +kernel
theorem dX6_count_104 : decode cX6_count 104 = .ok (.iconst 3, 1) := by decide +kernel
theorem dX6_count_105 : decode cX6_count 105 = .ok (.invokevirtual 205, 3) := by decide +kernel
theorem dX6_count_108 : decode cX6_count 108 = .ok (.ireturn, 1) := by decide +kernel
theorem dX6_count_109 : decode cX6_count 109 = .ok (.aload_n 0, 1) := by decide +kernel
theorem dX6_count_110 : decode cX6_count 110 = .ok (.getfield 10, 3) := by decide +kernel
theorem dX6_count_113 : decode cX6_count 113 = .ok (.iconst 4, 1) := by decide +kernel
theorem dX6_count_114 : decode cX6_count 114 = .ok (.invokevirtual 205, 3) := by decide +kernel
theorem dX6_count_117 : decode cX6_count 117 = .ok (.ireturn, 1) := by decide +kernel
theorem dX6_count_118 : decode cX6_count 118 = .ok (.aload_n 0, 1) := by decide +kernel
theorem dX6_count_119 : decode cX6_count 119 = .ok (.getfield 10, 3) := by decide +kernel
theorem dX6_count_122 : decode cX6_count 122 = .ok (.getfield 208, 3) := by decide +kernel
theorem dX6_count_125 : decode cX6_count 125 = .ok (.ireturn, 1) := by decide +kernel
theorem dX6_count_126 : decode cX6_count 126 = .ok (.aload_n 0, 1) := by decide +kernel
theorem dX6_count_127 : decode cX6_count 127 = .ok (.getfield 10, 3) := by decide +kernel
theorem dX6_count_130 : decode cX6_count 130 = .ok (.getfield 211, 3) := by decide +kernel
theorem dX6_count_133 : decode cX6_count 133 = .ok (.ireturn, 1) := by decide +kernel
theorem dX6_count_134 : decode cX6_count 134 = .ok (.aload_n 0, 1) := by decide +kernel
theorem dX6_count_135 : decode cX6_count 135 = .ok (.getfield 10, 3) := by decide +kernel
theorem dX6_count_138 : decode cX6_count 138 = .ok (.getfield 214, 3) := by decide +kernel
theorem dX6_count_141 : decode cX6_count 141 = .ok (.ireturn, 1) := by decide +kernel
theorem dX6_count_142 : decode cX6_count 142 = .ok (.aload_n 0, 1) := by decide +kernel
theorem dX6_count_143 : decode cX6_count 143 = .ok (.getfield 10, 3) := by decide +kernel
theorem dX6_count_146 : decode cX6_count 146 = .ok (.getfield 217, 3) := by decide +kernel
theorem dX6_count_149 : decode cX6_count 149 = .ok (.ireturn, 1) := by decide +kernel
theorem dX6_count_150 : decode cX6_count 150 = .ok (.aload_n 0, 1) := by decide +kernel
theorem dX6_count_151 : decode cX6_count 151 = .ok (.getfield 10, 3) := by decide +kernel
theorem dX6_count_154 : decode cX6_count 154 = .ok (.getfield 177, 3) := by decide +kernel
theorem dX6_count_157 : decode cX6_count 157 = .ok (.ireturn, 1) := by decide +kernel
theorem dX6_count_158 : decode cX6_count 158 = .ok (.aload_n 0, 1) := by decide +kernel
theorem dX6_count_159 : decode cX6_count 159 = .ok (.getfield 22, 3) := by decide +kernel
theorem dX6_count_162 : decode cX6_count 162 = .ok (.getfield 220, 3) := by decide +kernel
theorem dX6_count_165 : decode cX6_count 165 = .ok (.ireturn, 1) := by decide +kernel
theorem dX6_count_166 : decode cX6_count 166 = .ok (.aload_n 0, 1) := by decide +kernel
theorem dX6_count_167 : decode cX6_count 167 = .ok (.getfield 29, 3) := by decide +kernel
theorem dX6_count_170 : decode cX6_count 170 = .ok (.getfield 223, 3) := by decide +kernel
theorem dX6_count_173 : decode cX6_count 173 = .ok (.ireturn, 1) := by decide +kernel
theorem dX6_count_174 : decode cX6_count 174 = .ok (.aload_n 0, 1) := by decide +kernel
theorem dX6_count_175 : decode cX6_count 175 = .ok (.iload_n 1, 1) := by decide +kernel
theorem dX6_count_176 : decode cX6_count 176 = .ok (.invokevirtual 226, 3) := by decide +kernel
theorem dX6_count_179 : decode cX6_count 179 = .ok (.ireturn, 1) := by decide +kernel
theorem dX6_wouldFill_0 : decode cX6_wouldFill 0 = .ok (.aload_n 0, 1) := by decide +kernel
theorem dX6_wouldFill_1 : decode cX6_wouldFill 1 = .ok (.getfield 16, 3) := by decide +kernel
theorem dX6_wouldFill_4 : decode cX6_wouldFill 4 = .ok (.aload_n 0, 1) := by decide +kernel
theorem dX6_wouldFill_5 : decode cX6_wouldFill 5 = .ok (.getfield 10, 3) := by decide +kernel
theorem dX6_wouldFill_8 : decode cX6_wouldFill 8 = .ok (.invokevirtual 229, 3) := by decide +kernel
theorem dX6_wouldFill_11 : decode cX6_wouldFill 11 = .ok (.aload_n 0, 1) := by decide +kernel
theorem dX6_wouldFill_12 : decode cX6_wouldFill 12 = .ok (.getfield 16, 3) := by decide +kernel
theorem dX6_wouldFill_15 : decode cX6_wouldFill 15 = .ok (.iload_n 1, 1) := by decide +kernel
theorem dX6_wouldFill_16 : decode cX6_wouldFill 16 = .ok (.iload_n 2, 1) := by decide +kernel
theorem dX6_wouldFill_17 : decode cX6_wouldFill 17 = .ok (.iload_n 3, 1) := by decide +kernel
theorem dX6_wouldFill_18 : decode cX6_wouldFill 18 = .ok (.invokevirtual 67, 3) := by decide +kernel
theorem dX6_wouldFill_21 : decode cX6_wouldFill 21 = .ok (.ireturn, 1) := by decide +kernel
theorem dX6_wouldEarn_0 : decode cX6_wouldEarn 0 = .ok (.aload_n 0, 1) := by decide +kernel
theorem dX6_wouldEarn_1 : decode cX6_wouldEarn 1 = .ok (.getfield 16, 3) := by decide +kernel
theorem dX6_wouldEarn_4 : decode cX6_wouldEarn 4 = .ok (.aload_n 0, 1) := by decide +kernel
theorem dX6_wouldEarn_5 : decode cX6_wouldEarn 5 = .ok (.getfield 10, 3) := by decide +kernel
theorem dX6_wouldEarn_8 : decode cX6_wouldEarn 8 = .ok (.invokevirtual 229, 3) := by decide +kernel
theorem dX6_wouldEarn_11 : decode cX6_wouldEarn 11 = .ok (.aload_n 0, 1) := by decide +kernel
theorem dX6_wouldEarn_12 : decode cX6_wouldEarn 12 = .ok (.getfield 16, 3) := by decide +kernel
theorem dX6_wouldEarn_15 : decode cX6_wouldEarn 15 = .ok (.iload_n 1, 1) := by decide +kernel
theorem dX6_wouldEarn_16 : decode cX6_wouldEarn 16 = .ok (.invokevirtual 75, 3) := by decide +kernel
theorem dX6_wouldEarn_19 : decode cX6_wouldEarn 19 = .ok (.istore_n 2, 1) := by decide +kernel
theorem dX6_wouldEarn_20 : decode cX6_wouldEarn 20 = .ok (.aload_n 0, 1) := by decide +kernel
theorem dX6_wouldEarn_21 : decode cX6_wouldEarn 21 = .ok (.getfield 16, 3) := by decide +kernel
theorem dX6_wouldEarn_24 : decode cX6_wouldEarn 24 = .ok (.iload_n 1, 1) := by decide +kernel
theorem dX6_wouldEarn_25 : decode cX6_wouldEarn 25 = .ok (.invokevirtual 142, 3) := by decide +kernel
theorem dX6_wouldEarn_28 : decode cX6_wouldEarn 28 = .ok (.astore_n 3, 1) := by decide +kernel
theorem dX6_wouldEarn_29 : decode cX6_wouldEarn 29 = .ok (.iload_n 2, 1) := by decide +kernel
theorem dX6_wouldEarn_30 : decode cX6_wouldEarn 30 = .ok (.ifCond .lt 7, 3) := by decide +kernel
theorem dX6_wouldEarn_33 : decode cX6_wouldEarn 33 = .ok (.aload_n 3, 1) := by decide +kernel
theorem dX6_wouldEarn_34 : decode cX6_wouldEarn 34 = .ok (.ifnonnull 5, 3) := by decide +kernel
theorem dX6_wouldEarn_37 : decode cX6_wouldEarn 37 = .ok (.iload_n 2, 1) := by decide +kernel
theorem dX6_wouldEarn_38 : decode cX6_wouldEarn 38 = .ok (.ireturn, 1) := by decide +kernel
theorem dX6_wouldEarn_39 : decode cX6_wouldEarn 39 = .ok (.aload_n 0, 1) := by decide +kernel
theorem dX6_wouldEarn_40 : decode cX6_wouldEarn 40 = .ok (.getfield 16, 3) := by decide +kernel
theorem dX6_wouldEarn_43 : decode cX6_wouldEarn 43 = .ok (.iload_n 2, 1) := by decide +kernel
theorem dX6_wouldEarn_44 : decode cX6_wouldEarn 44 = .ok (.putfield 133, 3) := by decide +kernel
theorem dX6_wouldEarn_47 : decode cX6_wouldEarn 47 = .ok (.aload_n 0, 1) := by decide +kernel
theorem dX6_wouldEarn_48 : decode cX6_wouldEarn 48 = .ok (.getfield 16, 3) := by decide +kernel
theorem dX6_wouldEarn_51 : decode cX6_wouldEarn 51 = .ok (.aload_n 3, 1) := by decide +kernel
theorem dX6_wouldEarn_52 : decode cX6_wouldEarn 52 = .ok (.invokevirtual 232, 3) := by decide +kernel
theorem dX6_wouldEarn_55 : decode cX6_wouldEarn 55 = .ok (.pop, 1) := by decide +kernel
theorem dX6_wouldEarn_56 : decode cX6_wouldEarn 56 = .ok (.aload_n 0, 1) := by decide +kernel
theorem dX6_wouldEarn_57 : decode cX6_wouldEarn 57 = .ok (.getfield 16, 3) := by decide +kernel
theorem dX6_wouldEarn_60 : decode cX6_wouldEarn 60 = .ok (.aload_n 3, 1) := by decide +kernel
theorem dX6_wouldEarn_61 : decode cX6_wouldEarn 61 = .ok (.invokevirtual 235, 3) := by decide +kernel
theorem dX6_wouldEarn_64 : decode cX6_wouldEarn 64 = .ok (.aload_n 0, 1) := by decide +kernel
theorem dX6_wouldEarn_65 : decode cX6_wouldEarn 65 = .ok (.getfield 16, 3) := by decide +kernel
theorem dX6_wouldEarn_68 : decode cX6_wouldEarn 68 = .ok (.getfield 208, 3) := by decide +kernel
theorem dX6_wouldEarn_71 : decode cX6_wouldEarn 71 = .ok (.aload_n 0, 1) := by decide +kernel
theorem dX6_wouldEarn_72 : decode cX6_wouldEarn 72 = .ok (.getfield 10, 3) := by decide +kernel
theorem dX6_wouldEarn_75 : decode cX6_wouldEarn 75 = .ok (.getfield 208, 3) := by decide +kernel
theorem dX6_wouldEarn_78 : decode cX6_wouldEarn 78 = .ok (.isub, 1) := by decide +kernel
theorem dX6_wouldEarn_79 : decode cX6_wouldEarn 79 = .ok (.istore 4, 2) := by decide +kernel
theorem dX6_wouldEarn_81 : decode cX6_wouldEarn 81 = .ok (.aload_n 0, 1) := by decide +kernel
theorem dX6_wouldEarn_82 : decode cX6_wouldEarn 82 = .ok (.getfield 16, 3) := by decide +kernel
theorem dX6_wouldEarn_85 : decode cX6_wouldEarn 85 = .ok (.getfield 217, 3) := by decide +kernel
theorem dX6_wouldEarn_88 : decode cX6_wouldEarn 88 = .ok (.aload_n 0, 1) := by decide +kernel
theorem dX6_wouldEarn_89 : decode cX6_wouldEarn 89 = .ok (.getfield 10, 3) := by decide +kernel
theorem dX6_wouldEarn_92 : decode cX6_wouldEarn 92 = .ok (.getfield 217, 3) := by decide +kernel
theorem dX6_wouldEarn_95 : decode cX6_wouldEarn 95 = .ok (.isub, 1) := by decide +kernel
theorem dX6_wouldEarn_96 : decode cX6_wouldEarn 96 = .ok (.istore 5, 2) := by decide +kernel
theorem dX6_wouldEarn_98 : decode cX6_wouldEarn 98 = .ok (.ldc 239, 2) := by decide +kernel
theorem dX6_wouldEarn_100 : decode cX6_wouldEarn 100 = .ok (.iload 4, 2) := by decide +kernel
theorem dX6_wouldEarn_102 : decode cX6_wouldEarn 102 = .ok (.iadd, 1) := by decide +kernel
theorem dX6_wouldEarn_103 : decode cX6_wouldEarn 103 = .ok (.iload 5, 2) := by decide +kernel
theorem dX6_wouldEarn_105 : decode cX6_wouldEarn 105 = .ok (.isub, 1) := by decide +kernel
theorem dX6_wouldEarn_106 : decode cX6_wouldEarn 106 = .ok (.aload_n 3, 1) := by decide +kernel
theorem dX6_wouldEarn_107 : decode cX6_wouldEarn 107 = .ok (.getfield 171, 3) := by decide +kernel
theorem dX6_wouldEarn_110 : decode cX6_wouldEarn 110 = .ok (.iadd, 1) := by decide +kernel
theorem dX6_wouldEarn_111 : decode cX6_wouldEarn 111 = .ok (.ireturn, 1) := by decide +kernel
theorem dX6_hopeless_0 : decode cX6_hopeless 0 = .ok (.aload_n 0, 1) := by decide +kernel
theorem dX6_hopeless_1 : decode cX6_hopeless 1 = .ok (.getfield 10, 3) := by decide +kernel
theorem dX6_hopeless_4 : decode cX6_hopeless 4 = .ok (.invokevirtual 240, 3) := by decide +kernel
theorem dX6_hopeless_7 : decode cX6_hopeless 7 = .ok (.ireturn, 1) := by decide +kernel
theorem dX6_undo_0 : decode cX6_undo 0 = .ok (.aload_n 0, 1) := by decide +kernel
theorem dX6_undo_1 : decode cX6_undo 1 = .ok (.getfield 22, 3) := by decide +kernel
theorem dX6_undo_4 : decode cX6_undo 4 = .ok (.aload_n 0, 1) := by decide +kernel
theorem dX6_undo_5 : decode cX6_undo 5 = .ok (.getfield 10, 3) := by decide +kernel
theorem dX6_undo_8 : decode cX6_undo 8 = .ok (.invokevirtual 243, 3) := by decide +kernel
theorem dX6_undo_11 : decode cX6_undo 11 = .ok (.ireturn, 1) := by decide +kernel
theorem dX6_type_0 : decode cX6_type 0 = .ok (.iload_n 1, 1) := by decide +kernel
theorem dX6_type_1 : decode cX6_type 1 = .ok (.bipush 32, 2) := by decide +kernel
theorem dX6_type_3 : decode cX6_type 3 = .ok (.bipush 126, 2) := by decide +kernel
theorem dX6_type_5 : decode cX6_type 5 = .ok (.invokestatic 33, 3) := by decide +kernel
theorem dX6_type_8 : decode cX6_type 8 = .ok (.ifCond .ne 6, 3) := by decide +kernel
theorem dX6_type_11 : decode cX6_type 11 = .ok (.ldc 37, 2) := by decide +kernel
theorem dX6_type_13 : decode cX6_type 13 = .ok (.ireturn, 1) := by decide +kernel
theorem dX6_type_14 : decode cX6_type 14 = .ok (.aload_n 0, 1) := by decide +kernel
theorem dX6_type_15 : decode cX6_type 15 = .ok (.getfield 29, 3) := by decide +kernel
theorem dX6_type_18 : decode cX6_type 18 = .ok (.iload_n 1, 1) := by decide +kernel
theorem dX6_type_19 : decode cX6_type 19 = .ok (.i2c, 1) := by decide +kernel
theorem dX6_type_20 : decode cX6_type 20 = .ok (.invokevirtual 247, 3) := by decide +kernel
theorem dX6_type_23 : decode cX6_type 23 = .ok (.ireturn, 1) := by decide +kernel
theorem dX6_clearText_0 : decode cX6_clearText 0 = .ok (.aload_n 0, 1) := by decide +kernel
theorem dX6_clearText_1 : decode cX6_clearText 1 = .ok (.getfield 29, 3) := by decide +kernel
theorem dX6_clearText_4 : decode cX6_clearText 4 = .ok (.getfield 223, 3) := by decide +kernel
theorem dX6_clearText_7 : decode cX6_clearText 7 = .ok (.istore_n 1, 1) := by decide +kernel
theorem dX6_clearText_8 : decode cX6_clearText 8 = .ok (.aload_n 0, 1) := by decide +kernel
theorem dX6_clearText_9 : decode cX6_clearText 9 = .ok (.getfield 29, 3) := by decide +kernel
theorem dX6_clearText_12 : decode cX6_clearText 12 = .ok (.iconst 0, 1) := by decide +kernel
theorem dX6_clearText_13 : decode cX6_clearText 13 = .ok (.putfield 223, 3) := by decide +kernel
theorem dX6_clearText_16 : decode cX6_clearText 16 = .ok (.iload_n 1, 1) := by decide +kernel
theorem dX6_clearText_17 : decode cX6_clearText 17 = .ok (.ireturn, 1) := by decide +kernel
theorem dX6_fault_0 : decode cX6_fault 0 = .ok (.iload_n 1, 1) := by decide +kernel
theorem dX6_fault_1 : decode cX6_fault 1 = .ok (.iconst 0, 1) := by decide +kernel
theorem dX6_fault_2 : decode cX6_fault 2 = .ok (.iconst 1, 1) := by decide +kernel
theorem dX6_fault_3 : decode cX6_fault 3 = .ok (.invokestatic 33, 3) := by decide +kernel
theorem dX6_fault_6 : decode cX6_fault 6 = .ok (.ifCond .ne 6, 3) := by decide +kernel
theorem dX6_fault_9 : decode cX6_fault 9 = .ok (.ldc 37, 2) := by decide +kernel
theorem dX6_fault_11 : decode cX6_fault 11 = .ok (.ireturn, 1) := by decide +kernel
theorem dX6_fault_12 : decode cX6_fault 12 = .ok (.aload_n 0, 1) := by decide +kernel
theorem dX6_fault_13 : decode cX6_fault 13 = .ok (.invokevirtual 251, 3) := by decide +kernel
theorem dX6_fault_16 : decode cX6_fault 16 = .ok (.pop, 1) := by decide +kernel
theorem dX6_fault_17 : decode cX6_fault 17 = .ok (.aload_n 0, 1) := by decide +kernel
theorem dX6_fault_18 : decode cX6_fault 18 = .ok (.getfield 254, 3) := by decide +kernel
theorem dX6_fault_21 : decode cX6_fault 21 = .ok (.ifCond .ne 6, 3) := by decide +kernel
theorem dX6_fault_24 : decode cX6_fault 24 = .ok (.ldc 119, 2) := by decide +kernel
theorem dX6_fault_26 : decode cX6_fault 26 = .ok (.ireturn, 1) := by decide +kernel
theorem dX6_fault_27 : decode cX6_fault 27 = .ok (.iload_n 1, 1) := by decide +kernel
theorem dX6_fault_28 : decode cX6_fault 28 = .ok (.ifCond .ne 10, 3) := by decide +kernel
theorem dX6_fault_31 : decode cX6_fault 31 = .ok (.aload_n 0, 1) := by decide +kernel
theorem dX6_fault_32 : decode cX6_fault 32 = .ok (.getfield 257, 3) := by decide +kernel
theorem dX6_fault_35 : decode cX6_fault 35 = .ok (.goto 7, 3) := by decide +kernel
theorem dX6_fault_38 : decode cX6_fault 38 = .ok (.aload_n 0, 1) := by decide +kernel
theorem dX6_fault_39 : decode cX6_fault 39 = .ok (.getfield 254, 3) := by decide +kernel
theorem dX6_fault_42 : decode cX6_fault 42 = .ok (.ireturn, 1) := by decide +kernel
theorem dX6_play_0 : decode cX6_play 0 = .ok (.aload_n 0, 1) := by decide +kernel
theorem dX6_play_1 : decode cX6_play 1 = .ok (.invokevirtual 251, 3) := by decide +kernel
theorem dX6_play_4 : decode cX6_play 4 = .ok (.istore_n 1, 1) := by decide +kernel
theorem dX6_play_5 : decode cX6_play 5 = .ok (.aload_n 0, 1) := by decide +kernel
theorem dX6_play_6 : decode cX6_play 6 = .ok (.getfield 254, 3) := by decide +kernel
theorem dX6_play_9 : decode cX6_play 9 = .ok (.ifCond .eq 7, 3) := by decide +kernel
theorem dX6_play_12 : decode cX6_play 12 = .ok (.ldc_w 260, 3) := by decide +kernel
theorem dX6_play_15 : decode cX6_play 15 = .ok (.ireturn, 1) := by decide +kernel
theorem dX6_play_16 : decode cX6_play 16 = .ok (.aload_n 0, 1) := by decide +kernel
theorem dX6_play_17 : decode cX6_play 17 = .ok (.getfield 22, 3) := by decide +kernel
theorem dX6_play_20 : decode cX6_play 20 = .ok (.aload_n 0, 1) := by decide +kernel
theorem dX6_play_21 : decode cX6_play 21 = .ok (.getfield 10, 3) := by decide +kernel
theorem dX6_play_24 : decode cX6_play 24 = .ok (.invokevirtual 38, 3) := by decide +kernel
theorem dX6_play_27 : decode cX6_play 27 = .ok (.aload_n 0, 1) := by decide +kernel
theorem dX6_play_28 : decode cX6_play 28 = .ok (.getfield 10, 3) := by decide +kernel
theorem dX6_play_31 : decode cX6_play 31 = .ok (.aload_n 0, 1) := by decide +kernel
theorem dX6_play_32 : decode cX6_play 32 = .ok (.getfield 16, 3) := by decide +kernel
theorem dX6_play_35 : decode cX6_play 35 = .ok (.invokevirtual 229, 3) := by decide +kernel
theorem dX6_play_38 : decode cX6_play 38 = .ok (.aload_n 0, 1) := by decide +kernel
theorem dX6_play_39 : decode cX6_play 39 = .ok (.iload_n 1, 1) := by decide +kernel
theorem dX6_play_40 : decode cX6_play 40 = .ok (.invokevirtual 46, 3) := by decide +kernel
theorem dX6_play_43 : decode cX6_play 43 = .ok (.ireturn, 1) := by decide +kernel
theorem dX6_isWithin_0 : decode cX6_isWithin 0 = .ok (.iload_n 0, 1) := by decide +kernel
theorem dX6_isWithin_1 : decode cX6_isWithin 1 = .ok (.iload_n 1, 1) := by decide +kernel
theorem dX6_isWithin_2 : decode cX6_isWithin 2 = .ok (.if_icmp .lt 12, 3) := by decide +kernel
theorem dX6_isWithin_5 : decode cX6_isWithin 5 = .ok (.iload_n 0, 1) := by decide +kernel
theorem dX6_isWithin_6 : decode cX6_isWithin 6 = .ok (.iload_n 2, 1) := by decide +kernel
theorem dX6_isWithin_7 : decode cX6_isWithin 7 = .ok (.if_icmp .gt 7, 3) := by decide +kernel
theorem dX6_isWithin_10 : decode cX6_isWithin 10 = .ok (.iconst 1, 1) := by decide +kernel
theorem dX6_isWithin_11 : decode cX6_isWithin 11 = .ok (.goto 4, 3) := by decide +kernel
theorem dX6_isWithin_14 : decode cX6_isWithin 14 = .ok (.iconst 0, 1) := by decide +kernel
theorem dX6_isWithin_15 : decode cX6_isWithin 15 = .ok (.ireturn, 1) := by decide +kernel
theorem dX6_changed_0 : decode cX6_changed 0 = .ok (.iload_n 1, 1) := by decide +kernel
theorem dX6_changed_1 : decode cX6_changed 1 = .ok (.ifCond .lt 10, 3) := by decide +kernel
theorem dX6_changed_4 : decode cX6_changed 4 = .ok (.aload_n 0, 1) := by decide +kernel
theorem dX6_changed_5 : decode cX6_changed 5 = .ok (.getfield 22, 3) := by decide +kernel
theorem dX6_changed_8 : decode cX6_changed 8 = .ok (.invokevirtual 261, 3) := by decide +kernel
theorem dX6_changed_11 : decode cX6_changed 11 = .ok (.iload_n 1, 1) := by decide +kernel
theorem dX6_changed_12 : decode cX6_changed 12 = .ok (.ireturn, 1) := by decide +kernel
theorem dX6_placeOf_0 : decode cX6_placeOf 0 = .ok (.aload_n 1, 1) := by decide +kernel
theorem dX6_placeOf_1 : decode cX6_placeOf 1 = .ok (.getfield 154, 3) := by decide +kernel
theorem dX6_placeOf_4 : decode cX6_placeOf 4 = .ok (.ifCond .ne 14, 3) := by decide +kernel
theorem dX6_placeOf_7 : decode cX6_placeOf 7 = .ok (.aload_n 0, 1) := by decide +kernel
theorem dX6_placeOf_8 : decode cX6_placeOf 8 = .ok (.getfield 10, 3) := by decide +kernel
theorem dX6_placeOf_11 : decode cX6_placeOf 11 = .ok (.aload_n 1, 1) := by decide +kernel
theorem dX6_placeOf_12 : decode cX6_placeOf 12 = .ok (.invokevirtual 264, 3) := by decide +kernel
theorem dX6_placeOf_15 : decode cX6_placeOf 15 = .ok (.goto 7, 3) := by decide +kernel
theorem dX6_placeOf_18 : decode cX6_placeOf 18 = .ok (.aload_n 1, 1) := by decide +kernel
theorem dX6_placeOf_19 : decode cX6_placeOf 19 = .ok (.getfield 267, 3) := by decide +kernel
theorem dX6_placeOf_22 : decode cX6_placeOf 22 = .ok (.istore_n 2, 1) := by decide +kernel
theorem dX6_placeOf_23 : decode cX6_placeOf 23 = .ok (.iload_n 2, 1) := by decide +kernel
theorem dX6_placeOf_24 : decode cX6_placeOf 24 = .ok (.ifCond .ne 8, 3) := by decide +kernel
theorem dX6_placeOf_27 : decode cX6_placeOf 27 = .ok (.ldc 119, 2) := by decide +kernel
theorem dX6_placeOf_29 : decode cX6_placeOf 29 = .ok (.goto 4, 3) := by decide +kernel
theorem dX6_placeOf_32 : decode cX6_placeOf 32 = .ok (.iload_n 2, 1) := by decide +kernel
theorem dX6_placeOf_33 : decode cX6_placeOf 33 = .ok (.ireturn, 1) := by decide +kernel
theorem dX6_settingCount_0 : decode cX6_settingCount 0 = .ok (.iload_n 1, 1) := by decide +kernel
theorem dX6_settingCount_1 : decode cX6_settingCount 1 = .ok (.bipush 20, 2) := by decide +kernel
theorem dX6_settingCount_3 : decode cX6_settingCount 3 = .ok (.bipush 22, 2) := by decide +kernel
theorem dX6_settingCount_5 : decode cX6_settingCount 5 = .ok (.invokestatic 33, 3) := by decide +kernel
theorem dX6_settingCount_8 : decode cX6_settingCount 8 = .ok (.ifCond .ne 6, 3) := by decide +kernel
theorem dX6_settingCount_11 : decode cX6_settingCount 11 = .ok (.ldc 37, 2) := by decide +kernel
theorem dX6_settingCount_13 : decode cX6_settingCount 13 = .ok (.ireturn, 1) := by decide +kernel
theorem dX6_settingCount_14 : decode cX6_settingCount 14 = .ok (.aload_n 0, 1) := by decide +kernel
theorem dX6_settingCount_15 : decode cX6_settingCount 15 = .ok (.getfield 10, 3) := by decide +kernel
theorem dX6_settingCount_18 : decode cX6_settingCount 18 = .ok (.getfield 268, 3) := by decide +kernel
theorem dX6_settingCount_21 : decode cX6_settingCount 21 = .ok (.iload_n 1, 1) := by decide +kernel
theorem dX6_settingCount_22 : decode cX6_settingCount 22 = .ok (.bipush 20, 2) := by decide +kernel
theorem dX6_settingCount_24 : decode cX6_settingCount 24 = .ok (.isub, 1) := by decide +kernel
theorem dX6_settingCount_25 : decode cX6_settingCount 25 = .ok (.iaload, 1) := by decide +kernel
theorem dX6_settingCount_26 : decode cX6_settingCount 26 = .ok (.ireturn, 1) := by decide +kernel
theorem dX6_tryText_0 : decode cX6_tryText 0 = .ok (.aload_n 0, 1) := by decide +kernel
theorem dX6_tryText_1 : decode cX6_tryText 1 = .ok (.getfield 16, 3) := by decide +kernel
theorem dX6_tryText_4 : decode cX6_tryText 4 = .ok (.aload_n 0, 1) := by decide +kernel
theorem dX6_tryText_5 : decode cX6_tryText 5 = .ok (.getfield 10, 3) := by decide +kernel
theorem dX6_tryText_8 : decode cX6_tryText 8 = .ok (.invokevirtual 229, 3) := by decide +kernel
theorem dX6_tryText_11 : decode cX6_tryText 11 = .ok (.aload_n 0, 1) := by decide +kernel
theorem dX6_tryText_12 : decode cX6_tryText 12 = .ok (.iconst 0, 1) := by decide +kernel
theorem dX6_tryText_13 : decode cX6_tryText 13 = .ok (.putfield 254, 3) := by decide +kernel
theorem dX6_tryText_16 : decode cX6_tryText 16 = .ok (.iconst 0, 1) := by decide +kernel
theorem dX6_tryText_17 : decode cX6_tryText 17 = .ok (.istore_n 1, 1) := by decide +kernel
theorem dX6_tryText_18 : decode cX6_tryText 18 = .ok (.iconst 0, 1) := by decide +kernel
theorem dX6_tryText_19 : decode cX6_tryText 19 = .ok (.istore_n 2, 1) := by decide +kernel
theorem dX6_tryText_20 : decode cX6_tryText 20 = .ok (.iload_n 2, 1) := by decide +kernel
theorem dX6_tryText_21 : decode cX6_tryText 21 = .ok (.bipush 80, 2) := by decide +kernel
theorem dX6_tryText_23 : decode cX6_tryText 23 = .ok (.if_icmp .ge 70, 3) := by decide +kernel
theorem dX6_tryText_26 : decode cX6_tryText 26 = .ok (.iload_n 1, 1) := by decide +kernel
theorem dX6_tryText_27 : decode cX6_tryText 27 = .ok (.aload_n 0, 1) := by decide +kernel
theorem dX6_tryText_28 : decode cX6_tryText 28 = .ok (.getfield 29, 3) := by decide +kernel
theorem dX6_tryText_31 : decode cX6_tryText 31 = .ok (.getfield 223, 3) := by decide +kernel
theorem dX6_tryText_34 : decode cX6_tryText 34 = .ok (.if_icmp .lt 5, 3) := by decide +kernel
theorem dX6_tryText_37 : decode cX6_tryText 37 = .ok (.iload_n 2, 1) := by decide +kernel
theorem dX6_tryText_38 : decode cX6_tryText 38 = .ok (.ireturn, 1) := by decide +kernel
theorem dX6_tryText_39 : decode cX6_tryText 39 = .ok (.aload_n 0, 1) := by decide +kernel
theorem dX6_tryText_40 : decode cX6_tryText 40 = .ok (.iload_n 1, 1) := by decide +kernel
theorem dX6_tryText_41 : decode cX6_tryText 41 = .ok (.putfield 257, 3) := by decide +kernel
theorem dX6_tryText_44 : decode cX6_tryText 44 = .ok (.aload_n 0, 1) := by decide +kernel
theorem dX6_tryText_45 : decode cX6_tryText 45 = .ok (.aload_n 0, 1) := by decide +kernel
theorem dX6_tryText_46 : decode cX6_tryText 46 = .ok (.getfield 29, 3) := by decide +kernel
theorem dX6_tryText_49 : decode cX6_tryText 49 = .ok (.iload_n 1, 1) := by decide +kernel
theorem dX6_tryText_50 : decode cX6_tryText 50 = .ok (.invokevirtual 272, 3) := by decide +kernel
theorem dX6_tryText_53 : decode cX6_tryText 53 = .ok (.ifCond .eq 13, 3) := by decide +kernel
theorem dX6_tryText_56 : decode cX6_tryText 56 = .ok (.aload_n 0, 1) := by decide +kernel
theorem dX6_tryText_57 : decode cX6_tryText 57 = .ok (.invokevirtual 276, 3) := by decide +kernel
theorem dX6_tryText_60 : decode cX6_tryText 60 = .ok (.invokestatic 279, 3) := by decide +kernel
theorem dX6_tryText_63 : decode cX6_tryText 63 = .ok (.goto 4, 3) := by decide +kernel
theorem dX6_tryText_66 : decode cX6_tryText 66 = .ok (.iconst 1, 1) := by decide +kernel
theorem dX6_tryText_67 : decode cX6_tryText 67 = .ok (.putfield 254, 3) := by decide +kernel
theorem dX6_tryText_70 : decode cX6_tryText 70 = .ok (.aload_n 0, 1) := by decide +kernel
theorem dX6_tryText_71 : decode cX6_tryText 71 = .ok (.getfield 254, 3) := by decide +kernel
theorem dX6_tryText_74 : decode cX6_tryText 74 = .ok (.ifCond .eq 5, 3) := by decide +kernel
theorem dX6_tryText_77 : decode cX6_tryText 77 = .ok (.iload_n 2, 1) := by decide +kernel
theorem dX6_tryText_78 : decode cX6_tryText 78 = .ok (.ireturn, 1) := by decide +kernel
theorem dX6_tryText_79 : decode cX6_tryText 79 = .ok (.aload_n 0, 1) := by decide +kernel
theorem dX6_tryText_80 : decode cX6_tryText 80 = .ok (.getfield 29, 3) := by decide +kernel
theorem dX6_tryText_83 : decode cX6_tryText 83 = .ok (.getfield 282, 3) := by decide +kernel
theorem dX6_tryText_86 : decode cX6_tryText 86 = .ok (.istore_n 1, 1) := by decide +kernel
theorem dX6_tryText_87 : decode cX6_tryText 87 = .ok (.iinc 2 1, 3) := by decide +kernel
theorem dX6_tryText_90 : decode cX6_tryText 90 = .ok (.goto (-70), 3) := by decide +kernel
theorem dX6_tryText_93 : decode cX6_tryText 93 = .ok (.bipush 80, 2) := by decide +kernel
theorem dX6_tryText_95 : decode cX6_tryText 95 = .ok (.ireturn, 1) := by decide +kernel
theorem dX6_reasonOf_0 : decode cX6_reasonOf 0 = .ok (.iload_n 0, 1) := by decide +kernel
theorem dX6_reasonOf_1 : decode cX6_reasonOf 1 = .ok (.ifCond .lt 5, 3) := by decide +kernel
theorem dX6_reasonOf_4 : decode cX6_reasonOf 4 = .ok (.iconst 0, 1) := by decide +kernel
theorem dX6_reasonOf_5 : decode cX6_reasonOf 5 = .ok (.ireturn, 1) := by decide +kernel
theorem dX6_reasonOf_6 : decode cX6_reasonOf 6 = .ok (.iload_n 0, 1) := by decide +kernel
theorem dX6_reasonOf_7 : decode cX6_reasonOf 7 = .ok (.ldc 37, 2) := by decide +kernel
theorem dX6_reasonOf_9 : decode cX6_reasonOf 9 = .ok (.if_icmp .ne 7, 3) := by decide +kernel
theorem dX6_reasonOf_12 : decode cX6_reasonOf 12 = .ok (.iconst 2, 1) := by decide +kernel
theorem dX6_reasonOf_13 : decode cX6_reasonOf 13 = .ok (.goto 4, 3) := by decide +kernel
theorem dX6_reasonOf_16 : decode cX6_reasonOf 16 = .ok (.iconst 3, 1) := by decide +kernel
theorem dX6_reasonOf_17 : decode cX6_reasonOf 17 = .ok (.ireturn, 1) := by decide +kernel
theorem dX6_perform_0 : decode cX6_perform 0 = .ok (.aload_n 0, 1) := by decide +kernel
theorem dX6_perform_1 : decode cX6_perform 1 = .ok (.getfield 29, 3) := by decide +kernel
theorem dX6_perform_4 : decode cX6_perform 4 = .ok (.getfield 285, 3) := by decide +kernel
theorem dX6_perform_7 : decode cX6_perform 7 = .ok (.astore_n 1, 1) := by decide +kernel
theorem dX6_perform_8 : decode cX6_perform 8 = .ok (.aload_n 0, 1) := by decide +kernel
theorem dX6_perform_9 : decode cX6_perform 9 = .ok (.getfield 29, 3) := by decide +kernel
theorem dX6_perform_12 : decode cX6_perform 12 = .ok (.getfield 288, 3) := by decide +kernel
theorem dX6_perform_15 : decode cX6_perform 15 = .ok (.tableswitch 148 0 6 #[41, 55, 72, 83, 100, 114, 137], 41) := by decide +kernel
theorem dX6_perform_56 : decode cX6_perform 56 = .ok (.aload_n 0, 1) := by decide +kernel
theorem dX6_perform_57 : decode cX6_perform 57 = .ok (.getfield 16, 3) := by decide +kernel
theorem dX6_perform_60 : decode cX6_perform 60 = .ok (.aload_n 1, 1) := by decide +kernel
theorem dX6_perform_61 : decode cX6_perform 61 = .ok (.iconst 0, 1) := by decide +kernel
theorem dX6_perform_62 : decode cX6_perform 62 = .ok (.iaload, 1) := by decide +kernel
theorem dX6_perform_63 : decode cX6_perform 63 = .ok (.aload_n 1, 1) := by decide +kernel
theorem dX6_perform_64 : decode cX6_perform 64 = .ok (.iconst 1, 1) := by decide +kernel
theorem dX6_perform_65 : decode cX6_perform 65 = .ok (.iaload, 1) := by decide +kernel
theorem dX6_perform_66 : decode cX6_perform 66 = .ok (.invokevirtual 61, 3) := by decide +kernel
theorem dX6_perform_69 : decode cX6_perform 69 = .ok (.ireturn, 1) := by decide +kernel
theorem dX6_perform_70 : decode cX6_perform 70 = .ok (.aload_n 0, 1) := by decide +kernel
theorem dX6_perform_71 : decode cX6_perform 71 = .ok (.getfield 16, 3) := by decide +kernel
theorem dX6_perform_74 : decode cX6_perform 74 = .ok (.aload_n 1, 1) := by decide +kernel
theorem dX6_perform_75 : decode cX6_perform 75 = .ok (.iconst 0, 1) := by decide +kernel
theorem dX6_perform_76 : decode cX6_perform 76 = .ok (.iaload, 1) := by decide +kernel
theorem dX6_perform_77 : decode cX6_perform 77 = .ok (.aload_n 1, 1) := by decide +kernel
theorem dX6_perform_78 : decode cX6_perform 78 = .ok (.iconst 1, 1) := by decide +kernel
theorem dX6_perform_79 : decode cX6_perform 79 = .ok (.iaload, 1) := by decide +kernel
theorem dX6_perform_80 : decode cX6_perform 80 = .ok (.aload_n 1, 1) := by decide +kernel
theorem dX6_perform_81 : decode cX6_perform 81 = .ok (.iconst 2, 1) := by decide +kernel
theorem dX6_perform_82 : decode cX6_perform 82 = .ok (.iaload, 1) := by decide +kernel
theorem dX6_perform_83 : decode cX6_perform 83 = .ok (.invokevirtual 67, 3) := by decide +kernel
theorem dX6_perform_86 : decode cX6_perform 86 = .ok (.ireturn, 1) := by decide +kernel
theorem dX6_perform_87 : decode cX6_perform 87 = .ok (.aload_n 0, 1) := by decide +kernel
theorem dX6_perform_88 : decode cX6_perform 88 = .ok (.getfield 16, 3) := by decide +kernel
theorem dX6_perform_91 : decode cX6_perform 91 = .ok (.aload_n 1, 1) := by decide +kernel
theorem dX6_perform_92 : decode cX6_perform 92 = .ok (.iconst 0, 1) := by decide +kernel
theorem dX6_perform_93 : decode cX6_perform 93 = .ok (.iaload, 1) := by decide +kernel
theorem dX6_perform_94 : decode cX6_perform 94 = .ok (.invokevirtual 75, 3) := by decide +kernel
theorem dX6_perform_97 : decode cX6_perform 97 = .ok (.ireturn, 1) := by decide +kernel
theorem dX6_perform_98 : decode cX6_perform 98 = .ok (.aload_n 0, 1) := by decide +kernel
theorem dX6_perform_99 : decode cX6_perform 99 = .ok (.getfield 16, 3) := by decide +kernel
theorem dX6_perform_102 : decode cX6_perform 102 = .ok (.aload_n 1, 1) := by decide +kernel
theorem dX6_perform_103 : decode cX6_perform 103 = .ok (.iconst 0, 1) := by decide +kernel
theorem dX6_perform_104 : decode cX6_perform 104 = .ok (.iaload, 1) := by decide +kernel
theorem dX6_perform_105 : decode cX6_perform 105 = .ok (.aload_n 1, 1) := by decide +kernel
theorem dX6_perform_106 : decode cX6_perform 106 = .ok (.iconst 1, 1) := by decide +kernel
theorem dX6_perform_107 : decode cX6_perform 107 = .ok (.iaload, 1) := by decide +kernel
theorem dX6_perform_108 : decode cX6_perform 108 = .ok (.aload_n 1, 1) := by decide +kernel
theorem dX6_perform_109 : decode cX6_perform 109 = .ok (.iconst 2, 1) := by decide +kernel
theorem dX6_perform_110 : decode cX6_perform 110 = .ok (.iaload, 1) := by decide +kernel
theorem dX6_perform_111 : decode cX6_perform 111 = .ok (.invokevirtual 50, 3) := by decide +kernel
theorem dX6_perform_114 : decode cX6_perform 114 = .ok (.ireturn, 1) := by decide +kernel
theorem dX6_perform_115 : decode cX6_perform 115 = .ok (.aload_n 0, 1) := by decide +kernel
theorem dX6_perform_116 : decode cX6_perform 116 = .ok (.getfield 16, 3) := by decide +kernel
theorem dX6_perform_119 : decode cX6_perform 119 = .ok (.aload_n 1, 1) := by decide +kernel
theorem dX6_perform_120 : decode cX6_perform 120 = .ok (.iconst 0, 1) := by decide +kernel
theorem dX6_perform_121 : decode cX6_perform 121 = .ok (.iaload, 1) := by decide +kernel
theorem dX6_perform_122 : decode cX6_perform 122 = .ok (.aload_n 1, 1) := by decide +kernel
theorem dX6_perform_123 : decode cX6_perform 123 = .ok (.iconst 1, 1) := by decide +kernel
theorem dX6_perform_124 : decode cX6_perform 124 = .ok (.iaload, 1) := by decide +kernel
theorem dX6_perform_125 : decode cX6_perform 125 = .ok (.invokevirtual 54, 3) := by decide +kernel
theorem dX6_perform_128 : decode cX6_perform 128 = .ok (.ireturn, 1) := by decide +kernel
theorem dX6_perform_129 : decode cX6_perform 129 = .ok (.aload_n 0, 1) := by decide +kernel
theorem dX6_perform_130 : decode cX6_perform 130 = .ok (.getfield 16, 3) := by decide +kernel
theorem dX6_perform_133 : decode cX6_perform 133 = .ok (.aload_n 1, 1) := by decide +kernel
theorem dX6_perform_134 : decode cX6_perform 134 = .ok (.iconst 0, 1) := by decide +kernel
theorem dX6_perform_135 : decode cX6_perform 135 = .ok (.iaload, 1) := by decide +kernel
theorem dX6_perform_136 : decode cX6_perform 136 = .ok (.aload_n 1, 1) := by decide +kernel
theorem dX6_perform_137 : decode cX6_perform 137 = .ok (.iconst 1, 1) := by decide +kernel
theorem dX6_perform_138 : decode cX6_perform 138 = .ok (.iaload, 1) := by decide +kernel
theorem dX6_perform_139 : decode cX6_perform 139 = .ok (.aload_n 1, 1) := by decide +kernel
theorem dX6_perform_140 : decode cX6_perform 140 = .ok (.iconst 2, 1) := by decide +kernel
theorem dX6_perform_141 : decode cX6_perform 141 = .ok (.iaload, 1) := by decide +kernel
theorem dX6_perform_142 : decode cX6_perform 142 = .ok (.aload_n 1, 1) := by decide +kernel
theorem dX6_perform_143 : decode cX6_perform 143 = .ok (.iconst 3, 1) := by decide +kernel
theorem dX6_perform_144 : decode cX6_perform 144 = .ok (.iaload, 1) := by decide +kernel
theorem dX6_perform_145 : decode cX6_perform 145 = .ok (.aload_n 1, 1) := by decide +kernel
theorem dX6_perform_146 : decode cX6_perform 146 = .ok (.iconst 4, 1) := by decide +kernel
theorem dX6_perform_147 : decode cX6_perform 147 = .ok (.iaload, 1) := by decide +kernel
theorem dX6_perform_148 : decode cX6_perform 148 = .ok (.invokevirtual 78, 3) := by decide +kernel
theorem dX6_perform_151 : decode cX6_perform 151 = .ok (.ireturn, 1) := by decide +kernel
theorem dX6_perform_152 : decode cX6_perform 152 = .ok (.aload_n 0, 1) := by decide +kernel
theorem dX6_perform_153 : decode cX6_perform 153 = .ok (.getfield 16, 3) := by decide +kernel
theorem dX6_perform_156 : decode cX6_perform 156 = .ok (.aload_n 1, 1) := by decide +kernel
theorem dX6_perform_157 : decode cX6_perform 157 = .ok (.iconst 0, 1) := by decide +kernel
theorem dX6_perform_158 : decode cX6_perform 158 = .ok (.iaload, 1) := by decide +kernel
theorem dX6_perform_159 : decode cX6_perform 159 = .ok (.invokevirtual 82, 3) := by decide +kernel
theorem dX6_perform_162 : decode cX6_perform 162 = .ok (.ireturn, 1) := by decide +kernel
theorem dX6_perform_163 : decode cX6_perform 163 = .ok (.ldc 37, 2) := by decide +kernel
theorem dX6_perform_165 : decode cX6_perform 165 = .ok (.ireturn, 1) := by decide +kernel
end
section
theorem dL_law_0 : decode cL_law 0 = .ok (.new 7, 3) := by decide +kernel
theorem dL_law_3 : decode cL_law 3 = .ok (.dup, 1) := by decide +kernel
theorem dL_law_4 : decode cL_law 4 = .ok (.invokespecial 9, 3) := by decide +kernel
theorem dL_law_7 : decode cL_law 7 = .ok (.astore_n 1, 1) := by decide +kernel
theorem dL_law_8 : decode cL_law 8 = .ok (.new 10, 3) := by decide +kernel
theorem dL_law_11 : decode cL_law 11 = .ok (.dup, 1) := by decide +kernel
theorem dL_law_12 : decode cL_law 12 = .ok (.invokespecial 12, 3) := by decide +kernel
theorem dL_law_15 : decode cL_law 15 = .ok (.astore_n 2, 1) := by decide +kernel
theorem dL_law_16 : decode cL_law 16 = .ok (.iconst 0, 1) := by decide +kernel
theorem dL_law_17 : decode cL_law 17 = .ok (.istore_n 3, 1) := by decide +kernel
theorem dL_law_18 : decode cL_law 18 = .ok (.iload_n 3, 1) := by decide +kernel
theorem dL_law_19 : decode cL_law 19 = .ok (.aload_n 0, 1) := by decide +kernel
theorem dL_law_20 : decode cL_law 20 = .ok (.arraylength, 1) := by decide +kernel
theorem dL_law_21 : decode cL_law 21 = .ok (.bipush 7, 2) := by decide +kernel
theorem dL_law_23 : decode cL_law 23 = .ok (.isub, 1) := by decide +kernel
theorem dL_law_24 : decode cL_law 24 = .ok (.if_icmp .gt 833, 3) := by decide +kernel
theorem dL_law_27 : decode cL_law 27 = .ok (.aload_n 0, 1) := by decide +kernel
theorem dL_law_28 : decode cL_law 28 = .ok (.iload_n 3, 1) := by decide +kernel
theorem dL_law_29 : decode cL_law 29 = .ok (.iaload, 1) := by decide +kernel
theorem dL_law_30 : decode cL_law 30 = .ok (.bipush 31, 2) := by decide +kernel
theorem dL_law_32 : decode cL_law 32 = .ok (.iand, 1) := by decide +kernel
theorem dL_law_33 : decode cL_law 33 = .ok (.tableswitch 818 0 22 #[107, 182, 225, 258, 291, 324, 347, 390, 413, 476, 499, 532, 565, 598, 631, 654, 697, 720, 733, 746, 769, 782, 805], 107) := by decide +kernel
theorem dL_law_140 : decode cL_law 140 = .ok (.aload_n 1, 1) := by decide +kernel
theorem dL_law_141 : decode cL_law 141 = .ok (.aload_n 0, 1) := by decide +kernel
theorem dL_law_142 : decode cL_law 142 = .ok (.iload_n 3, 1) := by decide +kernel
theorem dL_law_143 : decode cL_law 143 = .ok (.iconst 1, 1) := by decide +kernel
theorem dL_law_144 : decode cL_law 144 = .ok (.iadd, 1) := by decide +kernel
theorem dL_law_145 : decode cL_law 145 = .ok (.iaload, 1) := by decide +kernel
theorem dL_law_146 : decode cL_law 146 = .ok (.aload_n 0, 1) := by decide +kernel
theorem dL_law_147 : decode cL_law 147 = .ok (.iload_n 3, 1) := by decide +kernel
theorem dL_law_148 : decode cL_law 148 = .ok (.iconst 2, 1) := by decide +kernel
theorem dL_law_149 : decode cL_law 149 = .ok (.iadd, 1) := by decide +kernel
theorem dL_law_150 : decode cL_law 150 = .ok (.iaload, 1) := by decide +kernel
theorem dL_law_151 : decode cL_law 151 = .ok (.aload_n 0, 1) := by decide +kernel
theorem dL_law_152 : decode cL_law 152 = .ok (.iload_n 3, 1) := by decide +kernel
theorem dL_law_153 : decode cL_law 153 = .ok (.iconst 3, 1) := by decide +kernel
theorem dL_law_154 : decode cL_law 154 = .ok (.iadd, 1) := by decide +kernel
theorem dL_law_155 : decode cL_law 155 = .ok (.iaload, 1) := by decide +kernel
theorem dL_law_156 : decode cL_law 156 = .ok (.aload_n 0, 1) := by decide +kernel
theorem dL_law_157 : decode cL_law 157 = .ok (.iload_n 3, 1) := by decide +kernel
theorem dL_law_158 : decode cL_law 158 = .ok (.iconst 4, 1) := by decide +kernel
theorem dL_law_159 : decode cL_law 159 = .ok (.iadd, 1) := by decide +kernel
theorem dL_law_160 : decode cL_law 160 = .ok (.iaload, 1) := by decide +kernel
theorem dL_law_161 : decode cL_law 161 = .ok (.aload_n 0, 1) := by decide +kernel
theorem dL_law_162 : decode cL_law 162 = .ok (.iload_n 3, 1) := by decide +kernel
theorem dL_law_163 : decode cL_law 163 = .ok (.iconst 5, 1) := by decide +kernel
theorem dL_law_164 : decode cL_law 164 = .ok (.iadd, 1) := by decide +kernel
theorem dL_law_165 : decode cL_law 165 = .ok (.iaload, 1) := by decide +kernel
theorem dL_law_166 : decode cL_law 166 = .ok (.aload_n 0, 1) := by decide +kernel
theorem dL_law_167 : decode cL_law 167 = .ok (.iload_n 3, 1) := by decide +kernel
theorem dL_law_168 : decode cL_law 168 = .ok (.bipush 6, 2) := by decide +kernel
theorem dL_law_170 : decode cL_law 170 = .ok (.iadd, 1) := by decide +kernel
theorem dL_law_171 : decode cL_law 171 = .ok (.iaload, 1) := by decide +kernel
theorem dL_law_172 : decode cL_law 172 = .ok (.invokevirtual 13, 3) := by decide +kernel
theorem dL_law_175 : decode cL_law 175 = .ok (.aload_n 2, 1) := by decide +kernel
theorem dL_law_176 : decode cL_law 176 = .ok (.aload_n 0, 1) := by decide +kernel
theorem dL_law_177 : decode cL_law 177 = .ok (.iload_n 3, 1) := by decide +kernel
theorem dL_law_178 : decode cL_law 178 = .ok (.iconst 1, 1) := by decide +kernel
theorem dL_law_179 : decode cL_law 179 = .ok (.iadd, 1) := by decide +kernel
theorem dL_law_180 : decode cL_law 180 = .ok (.iaload, 1) := by decide +kernel
theorem dL_law_181 : decode cL_law 181 = .ok (.aload_n 0, 1) := by decide +kernel
theorem dL_law_182 : decode cL_law 182 = .ok (.iload_n 3, 1) := by decide +kernel
theorem dL_law_183 : decode cL_law 183 = .ok (.iconst 2, 1) := by decide +kernel
theorem dL_law_184 : decode cL_law 184 = .ok (.iadd, 1) := by decide +kernel
theorem dL_law_185 : decode cL_law 185 = .ok (.iaload, 1) := by decide +kernel
theorem dL_law_186 : decode cL_law 186 = .ok (.aload_n 0, 1) := by decide +kernel
theorem dL_law_187 : decode cL_law 187 = .ok (.iload_n 3, 1) := by decide +kernel
theorem dL_law_188 : decode cL_law 188 = .ok (.iconst 3, 1) := by decide +kernel
theorem dL_law_189 : decode cL_law 189 = .ok (.iadd, 1) := by decide +kernel
theorem dL_law_190 : decode cL_law 190 = .ok (.iaload, 1) := by decide +kernel
theorem dL_law_191 : decode cL_law 191 = .ok (.aload_n 0, 1) := by decide +kernel
theorem dL_law_192 : decode cL_law 192 = .ok (.iload_n 3, 1) := by decide +kernel
theorem dL_law_193 : decode cL_law 193 = .ok (.iconst 4, 1) := by decide +kernel
theorem dL_law_194 : decode cL_law 194 = .ok (.iadd, 1) := by decide +kernel
theorem dL_law_195 : decode cL_law 195 = .ok (.iaload, 1) := by decide +kernel
theorem dL_law_196 : decode cL_law 196 = .ok (.aload_n 0, 1) := by decide +kernel
theorem dL_law_197 : decode cL_law 197 = .ok (.iload_n 3, 1) := by decide +kernel
theorem dL_law_198 : decode cL_law 198 = .ok (.iconst 5, 1) := by decide +kernel
theorem dL_law_199 : decode cL_law 199 = .ok (.iadd, 1) := by decide +kernel
theorem dL_law_200 : decode cL_law 200 = .ok (.iaload, 1) := by decide +kernel
theorem dL_law_201 : decode cL_law 201 = .ok (.aload_n 0, 1) := by decide +kernel
theorem dL_law_202 : decode cL_law 202 = .ok (.iload_n 3, 1) := by decide +kernel
theorem dL_law_203 : decode cL_law 203 = .ok (.bipush 6, 2) := by decide +kernel
theorem dL_law_205 : decode cL_law 205 = .ok (.iadd, 1) := by decide +kernel
theorem dL_law_206 : decode cL_law 206 = .ok (.iaload, 1) := by decide +kernel
theorem dL_law_207 : decode cL_law 207 = .ok (.invokevirtual 17, 3) := by decide +kernel
theorem dL_law_210 : decode cL_law 210 = .ok (.if_icmp .eq 641, 3) := by decide +kernel
theorem dL_law_213 : decode cL_law 213 = .ok (.iconst 0, 1) := by decide +kernel
theorem dL_law_214 : decode cL_law 214 = .ok (.ireturn, 1) := by decide +kernel
theorem dL_law_215 : decode cL_law 215 = .ok (.aload_n 1, 1) := by decide +kernel
theorem dL_law_216 : decode cL_law 216 = .ok (.aload_n 0, 1) := by decide +kernel
theorem dL_law_217 : decode cL_law 217 = .ok (.iload_n 3, 1) := by decide +kernel
theorem dL_law_218 : decode cL_law 218 = .ok (.iconst 1, 1) := by decide +kernel
theorem dL_law_219 : decode cL_law 219 = .ok (.iadd, 1) := by decide +kernel
theorem dL_law_220 : decode cL_law 220 = .ok (.iaload, 1) := by decide +kernel
theorem dL_law_221 : decode cL_law 221 = .ok (.aload_n 0, 1) := by decide +kernel
theorem dL_law_222 : decode cL_law 222 = .ok (.iload_n 3, 1) := by decide +kernel
theorem dL_law_223 : decode cL_law 223 = .ok (.iconst 2, 1) := by decide +kernel
theorem dL_law_224 : decode cL_law 224 = .ok (.iadd, 1) := by decide +kernel
theorem dL_law_225 : decode cL_law 225 = .ok (.iaload, 1) := by decide +kernel
theorem dL_law_226 : decode cL_law 226 = .ok (.aload_n 0, 1) := by decide +kernel
theorem dL_law_227 : decode cL_law 227 = .ok (.iload_n 3, 1) := by decide +kernel
theorem dL_law_228 : decode cL_law 228 = .ok (.iconst 3, 1) := by decide +kernel
theorem dL_law_229 : decode cL_law 229 = .ok (.iadd, 1) := by decide +kernel
theorem dL_law_230 : decode cL_law 230 = .ok (.iaload, 1) := by decide +kernel
theorem dL_law_231 : decode cL_law 231 = .ok (.invokevirtual 18, 3) := by decide +kernel
theorem dL_law_234 : decode cL_law 234 = .ok (.aload_n 2, 1) := by decide +kernel
theorem dL_law_235 : decode cL_law 235 = .ok (.aload_n 0, 1) := by decide +kernel
theorem dL_law_236 : decode cL_law 236 = .ok (.iload_n 3, 1) := by decide +kernel
theorem dL_law_237 : decode cL_law 237 = .ok (.iconst 1, 1) := by decide +kernel
theorem dL_law_238 : decode cL_law 238 = .ok (.iadd, 1) := by decide +kernel
theorem dL_law_239 : decode cL_law 239 = .ok (.iaload, 1) := by decide +kernel
theorem dL_law_240 : decode cL_law 240 = .ok (.aload_n 0, 1) := by decide +kernel
theorem dL_law_241 : decode cL_law 241 = .ok (.iload_n 3, 1) := by decide +kernel
theorem dL_law_242 : decode cL_law 242 = .ok (.iconst 2, 1) := by decide +kernel
theorem dL_law_243 : decode cL_law 243 = .ok (.iadd, 1) := by decide +kernel
theorem dL_law_244 : decode cL_law 244 = .ok (.iaload, 1) := by decide +kernel
theorem dL_law_245 : decode cL_law 245 = .ok (.aload_n 0, 1) := by decide +kernel
theorem dL_law_246 : decode cL_law 246 = .ok (.iload_n 3, 1) := by decide +kernel
theorem dL_law_247 : decode cL_law 247 = .ok (.iconst 3, 1) := by decide +kernel
theorem dL_law_248 : decode cL_law 248 = .ok (.iadd, 1) := by decide +kernel
theorem dL_law_249 : decode cL_law 249 = .ok (.iaload, 1) := by decide +kernel
theorem dL_law_250 : decode cL_law 250 = .ok (.invokevirtual 22, 3) := by decide +kernel
theorem dL_law_253 : decode cL_law 253 = .ok (.if_icmp .eq 598, 3) := by decide +kernel
theorem dL_law_256 : decode cL_law 256 = .ok (.iconst 0, 1) := by decide +kernel
theorem dL_law_257 : decode cL_law 257 = .ok (.ireturn, 1) := by decide +kernel
theorem dL_law_258 : decode cL_law 258 = .ok (.aload_n 1, 1) := by decide +kernel
theorem dL_law_259 : decode cL_law 259 = .ok (.aload_n 0, 1) := by decide +kernel
theorem dL_law_260 : decode cL_law 260 = .ok (.iload_n 3, 1) := by decide +kernel
theorem dL_law_261 : decode cL_law 261 = .ok (.iconst 1, 1) := by decide +kernel
theorem dL_law_262 : decode cL_law 262 = .ok (.iadd, 1) := by decide +kernel
theorem dL_law_263 : decode cL_law 263 = .ok (.iaload, 1) := by decide +kernel
theorem dL_law_264 : decode cL_law 264 = .ok (.aload_n 0, 1) := by decide +kernel
theorem dL_law_265 : decode cL_law 265 = .ok (.iload_n 3, 1) := by decide +kernel
theorem dL_law_266 : decode cL_law 266 = .ok (.iconst 2, 1) := by decide +kernel
theorem dL_law_267 : decode cL_law 267 = .ok (.iadd, 1) := by decide +kernel
theorem dL_law_268 : decode cL_law 268 = .ok (.iaload, 1) := by decide +kernel
theorem dL_law_269 : decode cL_law 269 = .ok (.invokevirtual 23, 3) := by decide +kernel
theorem dL_law_272 : decode cL_law 272 = .ok (.aload_n 2, 1) := by decide +kernel
theorem dL_law_273 : decode cL_law 273 = .ok (.aload_n 0, 1) := by decide +kernel
theorem dL_law_274 : decode cL_law 274 = .ok (.iload_n 3, 1) := by decide +kernel
theorem dL_law_275 : decode cL_law 275 = .ok (.iconst 1, 1) := by decide +kernel
theorem dL_law_276 : decode cL_law 276 = .ok (.iadd, 1) := by decide +kernel
theorem dL_law_277 : decode cL_law 277 = .ok (.iaload, 1) := by decide +kernel
theorem dL_law_278 : decode cL_law 278 = .ok (.aload_n 0, 1) := by decide +kernel
theorem dL_law_279 : decode cL_law 279 = .ok (.iload_n 3, 1) := by decide +kernel
theorem dL_law_280 : decode cL_law 280 = .ok (.iconst 2, 1) := by decide +kernel
theorem dL_law_281 : decode cL_law 281 = .ok (.iadd, 1) := by decide +kernel
theorem dL_law_282 : decode cL_law 282 = .ok (.iaload, 1) := by decide +kernel
theorem dL_law_283 : decode cL_law 283 = .ok (.invokevirtual 27, 3) := by decide +kernel
theorem dL_law_286 : decode cL_law 286 = .ok (.if_icmp .eq 565, 3) := by decide +kernel
theorem dL_law_289 : decode cL_law 289 = .ok (.iconst 0, 1) := by decide +kernel
theorem dL_law_290 : decode cL_law 290 = .ok (.ireturn, 1) := by decide +kernel
theorem dL_law_291 : decode cL_law 291 = .ok (.aload_n 1, 1) := by decide +kernel
theorem dL_law_292 : decode cL_law 292 = .ok (.aload_n 0, 1) := by decide +kernel
theorem dL_law_293 : decode cL_law 293 = .ok (.iload_n 3, 1) := by decide +kernel
theorem dL_law_294 : decode cL_law 294 = .ok (.iconst 1, 1) := by decide +kernel
theorem dL_law_295 : decode cL_law 295 = .ok (.iadd, 1) := by decide +kernel
theorem dL_law_296 : decode cL_law 296 = .ok (.iaload, 1) := by decide +kernel
theorem dL_law_297 : decode cL_law 297 = .ok (.aload_n 0, 1) := by decide +kernel
theorem dL_law_298 : decode cL_law 298 = .ok (.iload_n 3, 1) := by decide +kernel
theorem dL_law_299 : decode cL_law 299 = .ok (.iconst 2, 1) := by decide +kernel
theorem dL_law_300 : decode cL_law 300 = .ok (.iadd, 1) := by decide +kernel
theorem dL_law_301 : decode cL_law 301 = .ok (.iaload, 1) := by decide +kernel
theorem dL_law_302 : decode cL_law 302 = .ok (.invokevirtual 28, 3) := by decide +kernel
theorem dL_law_305 : decode cL_law 305 = .ok (.aload_n 2, 1) := by decide +kernel
theorem dL_law_306 : decode cL_law 306 = .ok (.aload_n 0, 1) := by decide +kernel
theorem dL_law_307 : decode cL_law 307 = .ok (.iload_n 3, 1) := by decide +kernel
theorem dL_law_308 : decode cL_law 308 = .ok (.iconst 1, 1) := by decide +kernel
theorem dL_law_309 : decode cL_law 309 = .ok (.iadd, 1) := by decide +kernel
theorem dL_law_310 : decode cL_law 310 = .ok (.iaload, 1) := by decide +kernel
theorem dL_law_311 : decode cL_law 311 = .ok (.aload_n 0, 1) := by decide +kernel
theorem dL_law_312 : decode cL_law 312 = .ok (.iload_n 3, 1) := by decide +kernel
theorem dL_law_313 : decode cL_law 313 = .ok (.iconst 2, 1) := by decide +kernel
theorem dL_law_314 : decode cL_law 314 = .ok (.iadd, 1) := by decide +kernel
theorem dL_law_315 : decode cL_law 315 = .ok (.iaload, 1) := by decide +kernel
theorem dL_law_316 : decode cL_law 316 = .ok (.invokevirtual 31, 3) := by decide +kernel
theorem dL_law_319 : decode cL_law 319 = .ok (.if_icmp .eq 532, 3) := by decide +kernel
theorem dL_law_322 : decode cL_law 322 = .ok (.iconst 0, 1) := by decide +kernel
theorem dL_law_323 : decode cL_law 323 = .ok (.ireturn, 1) := by decide +kernel
theorem dL_law_324 : decode cL_law 324 = .ok (.aload_n 1, 1) := by decide +kernel
theorem dL_law_325 : decode cL_law 325 = .ok (.aload_n 0, 1) := by decide +kernel
theorem dL_law_326 : decode cL_law 326 = .ok (.iload_n 3, 1) := by decide +kernel
theorem dL_law_327 : decode cL_law 327 = .ok (.iconst 1, 1) := by decide +kernel
theorem dL_law_328 : decode cL_law 328 = .ok (.iadd, 1) := by decide +kernel
theorem dL_law_329 : decode cL_law 329 = .ok (.iaload, 1) := by decide +kernel
theorem dL_law_330 : decode cL_law 330 = .ok (.aload_n 0, 1) := by decide +kernel
theorem dL_law_331 : decode cL_law 331 = .ok (.iload_n 3, 1) := by decide +kernel
theorem dL_law_332 : decode cL_law 332 = .ok (.iconst 2, 1) := by decide +kernel
theorem dL_law_333 : decode cL_law 333 = .ok (.iadd, 1) := by decide +kernel
theorem dL_law_334 : decode cL_law 334 = .ok (.iaload, 1) := by decide +kernel
theorem dL_law_335 : decode cL_law 335 = .ok (.invokevirtual 32, 3) := by decide +kernel
theorem dL_law_338 : decode cL_law 338 = .ok (.aload_n 2, 1) := by decide +kernel
theorem dL_law_339 : decode cL_law 339 = .ok (.aload_n 0, 1) := by decide +kernel
theorem dL_law_340 : decode cL_law 340 = .ok (.iload_n 3, 1) := by decide +kernel
theorem dL_law_341 : decode cL_law 341 = .ok (.iconst 1, 1) := by decide +kernel
theorem dL_law_342 : decode cL_law 342 = .ok (.iadd, 1) := by decide +kernel
theorem dL_law_343 : decode cL_law 343 = .ok (.iaload, 1) := by decide +kernel
theorem dL_law_344 : decode cL_law 344 = .ok (.aload_n 0, 1) := by decide +kernel
theorem dL_law_345 : decode cL_law 345 = .ok (.iload_n 3, 1) := by decide +kernel
theorem dL_law_346 : decode cL_law 346 = .ok (.iconst 2, 1) := by decide +kernel
theorem dL_law_347 : decode cL_law 347 = .ok (.iadd, 1) := by decide +kernel
theorem dL_law_348 : decode cL_law 348 = .ok (.iaload, 1) := by decide +kernel
theorem dL_law_349 : decode cL_law 349 = .ok (.invokevirtual 35, 3) := by decide +kernel
theorem dL_law_352 : decode cL_law 352 = .ok (.if_icmp .eq 499, 3) := by decide +kernel
theorem dL_law_355 : decode cL_law 355 = .ok (.iconst 0, 1) := by decide +kernel
theorem dL_law_356 : decode cL_law 356 = .ok (.ireturn, 1) := by decide +kernel
theorem dL_law_357 : decode cL_law 357 = .ok (.aload_n 1, 1) := by decide +kernel
theorem dL_law_358 : decode cL_law 358 = .ok (.aload_n 0, 1) := by decide +kernel
theorem dL_law_359 : decode cL_law 359 = .ok (.iload_n 3, 1) := by decide +kernel
theorem dL_law_360 : decode cL_law 360 = .ok (.iconst 1, 1) := by decide +kernel
theorem dL_law_361 : decode cL_law 361 = .ok (.iadd, 1) := by decide +kernel
theorem dL_law_362 : decode cL_law 362 = .ok (.iaload, 1) := by decide +kernel
theorem dL_law_363 : decode cL_law 363 = .ok (.invokevirtual 36, 3) := by decide +kernel
theorem dL_law_366 : decode cL_law 366 = .ok (.aload_n 2, 1) := by decide +kernel
theorem dL_law_367 : decode cL_law 367 = .ok (.aload_n 0, 1) := by decide +kernel
theorem dL_law_368 : decode cL_law 368 = .ok (.iload_n 3, 1) := by decide +kernel
theorem dL_law_369 : decode cL_law 369 = .ok (.iconst 1, 1) := by decide +kernel
theorem dL_law_370 : decode cL_law 370 = .ok (.iadd, 1) := by decide +kernel
theorem dL_law_371 : decode cL_law 371 = .ok (.iaload, 1) := by decide +kernel
theorem dL_law_372 : decode cL_law 372 = .ok (.invokevirtual 40, 3) := by decide +kernel
theorem dL_law_375 : decode cL_law 375 = .ok (.if_icmp .eq 476, 3) := by decide +kernel
theorem dL_law_378 : decode cL_law 378 = .ok (.iconst 0, 1) := by decide +kernel
theorem dL_law_379 : decode cL_law 379 = .ok (.ireturn, 1) := by decide +kernel
theorem dL_law_380 : decode cL_law 380 = .ok (.aload_n 1, 1) := by decide +kernel
theorem dL_law_381 : decode cL_law 381 = .ok (.aload_n 0, 1) := by decide +kernel
theorem dL_law_382 : decode cL_law 382 = .ok (.iload_n 3, 1) := by decide +kernel
theorem dL_law_383 : decode cL_law 383 = .ok (.iconst 1, 1) := by decide +kernel
theorem dL_law_384 : decode cL_law 384 = .ok (.iadd, 1) := by decide +kernel
theorem dL_law_385 : decode cL_law 385 = .ok (.iaload, 1) := by decide +kernel
theorem dL_law_386 : decode cL_law 386 = .ok (.aload_n 0, 1) := by decide +kernel
theorem dL_law_387 : decode cL_law 387 = .ok (.iload_n 3, 1) := by decide +kernel
theorem dL_law_388 : decode cL_law 388 = .ok (.iconst 2, 1) := by decide +kernel
theorem dL_law_389 : decode cL_law 389 = .ok (.iadd, 1) := by decide +kernel
theorem dL_law_390 : decode cL_law 390 = .ok (.iaload, 1) := by decide +kernel
theorem dL_law_391 : decode cL_law 391 = .ok (.aload_n 0, 1) := by decide +kernel
theorem dL_law_392 : decode cL_law 392 = .ok (.iload_n 3, 1) := by decide +kernel
theorem dL_law_393 : decode cL_law 393 = .ok (.iconst 3, 1) := by decide +kernel
theorem dL_law_394 : decode cL_law 394 = .ok (.iadd, 1) := by decide +kernel
theorem dL_law_395 : decode cL_law 395 = .ok (.iaload, 1) := by decide +kernel
theorem dL_law_396 : decode cL_law 396 = .ok (.invokevirtual 41, 3) := by decide +kernel
theorem dL_law_399 : decode cL_law 399 = .ok (.aload_n 2, 1) := by decide +kernel
theorem dL_law_400 : decode cL_law 400 = .ok (.aload_n 0, 1) := by decide +kernel
theorem dL_law_401 : decode cL_law 401 = .ok (.iload_n 3, 1) := by decide +kernel
theorem dL_law_402 : decode cL_law 402 = .ok (.iconst 1, 1) := by decide +kernel
theorem dL_law_403 : decode cL_law 403 = .ok (.iadd, 1) := by decide +kernel
theorem dL_law_404 : decode cL_law 404 = .ok (.iaload, 1) := by decide +kernel
theorem dL_law_405 : decode cL_law 405 = .ok (.aload_n 0, 1) := by decide +kernel
theorem dL_law_406 : decode cL_law 406 = .ok (.iload_n 3, 1) := by decide +kernel
theorem dL_law_407 : decode cL_law 407 = .ok (.iconst 2, 1) := by decide +kernel
theorem dL_law_408 : decode cL_law 408 = .ok (.iadd, 1) := by decide +kernel
theorem dL_law_409 : decode cL_law 409 = .ok (.iaload, 1) := by decide +kernel
theorem dL_law_410 : decode cL_law 410 = .ok (.aload_n 0, 1) := by decide +kernel
theorem dL_law_411 : decode cL_law 411 = .ok (.iload_n 3, 1) := by decide +kernel
theorem dL_law_412 : decode cL_law 412 = .ok (.iconst 3, 1) := by decide +kernel
theorem dL_law_413 : decode cL_law 413 = .ok (.iadd, 1) := by decide +kernel
theorem dL_law_414 : decode cL_law 414 = .ok (.iaload, 1) := by decide +kernel
theorem dL_law_415 : decode cL_law 415 = .ok (.invokevirtual 44, 3) := by decide +kernel
theorem dL_law_418 : decode cL_law 418 = .ok (.if_icmp .eq 433, 3) := by decide +kernel
theorem dL_law_421 : decode cL_law 421 = .ok (.iconst 0, 1) := by decide +kernel
theorem dL_law_422 : decode cL_law 422 = .ok (.ireturn, 1) := by decide +kernel
theorem dL_law_423 : decode cL_law 423 = .ok (.aload_n 1, 1) := by decide +kernel
theorem dL_law_424 : decode cL_law 424 = .ok (.aload_n 0, 1) := by decide +kernel
theorem dL_law_425 : decode cL_law 425 = .ok (.iload_n 3, 1) := by decide +kernel
theorem dL_law_426 : decode cL_law 426 = .ok (.iconst 1, 1) := by decide +kernel
theorem dL_law_427 : decode cL_law 427 = .ok (.iadd, 1) := by decide +kernel
theorem dL_law_428 : decode cL_law 428 = .ok (.iaload, 1) := by decide +kernel
theorem dL_law_429 : decode cL_law 429 = .ok (.invokevirtual 45, 3) := by decide +kernel
theorem dL_law_432 : decode cL_law 432 = .ok (.aload_n 2, 1) := by decide +kernel
theorem dL_law_433 : decode cL_law 433 = .ok (.aload_n 0, 1) := by decide +kernel
theorem dL_law_434 : decode cL_law 434 = .ok (.iload_n 3, 1) := by decide +kernel
theorem dL_law_435 : decode cL_law 435 = .ok (.iconst 1, 1) := by decide +kernel
theorem dL_law_436 : decode cL_law 436 = .ok (.iadd, 1) := by decide +kernel
theorem dL_law_437 : decode cL_law 437 = .ok (.iaload, 1) := by decide +kernel
theorem dL_law_438 : decode cL_law 438 = .ok (.invokevirtual 48, 3) := by decide +kernel
theorem dL_law_441 : decode cL_law 441 = .ok (.if_icmp .eq 410, 3) := by decide +kernel
theorem dL_law_444 : decode cL_law 444 = .ok (.iconst 0, 1) := by decide +kernel
theorem dL_law_445 : decode cL_law 445 = .ok (.ireturn, 1) := by decide +kernel
theorem dL_law_446 : decode cL_law 446 = .ok (.aload_n 1, 1) := by decide +kernel
theorem dL_law_447 : decode cL_law 447 = .ok (.aload_n 0, 1) := by decide +kernel
theorem dL_law_448 : decode cL_law 448 = .ok (.iload_n 3, 1) := by decide +kernel
theorem dL_law_449 : decode cL_law 449 = .ok (.iconst 1, 1) := by decide +kernel
theorem dL_law_450 : decode cL_law 450 = .ok (.iadd, 1) := by decide +kernel
theorem dL_law_451 : decode cL_law 451 = .ok (.iaload, 1) := by decide +kernel
theorem dL_law_452 : decode cL_law 452 = .ok (.aload_n 0, 1) := by decide +kernel
theorem dL_law_453 : decode cL_law 453 = .ok (.iload_n 3, 1) := by decide +kernel
theorem dL_law_454 : decode cL_law 454 = .ok (.iconst 2, 1) := by decide +kernel
theorem dL_law_455 : decode cL_law 455 = .ok (.iadd, 1) := by decide +kernel
theorem dL_law_456 : decode cL_law 456 = .ok (.iaload, 1) := by decide +kernel
theorem dL_law_457 : decode cL_law 457 = .ok (.aload_n 0, 1) := by decide +kernel
theorem dL_law_458 : decode cL_law 458 = .ok (.iload_n 3, 1) := by decide +kernel
theorem dL_law_459 : decode cL_law 459 = .ok (.iconst 3, 1) := by decide +kernel
theorem dL_law_460 : decode cL_law 460 = .ok (.iadd, 1) := by decide +kernel
theorem dL_law_461 : decode cL_law 461 = .ok (.iaload, 1) := by decide +kernel
theorem dL_law_462 : decode cL_law 462 = .ok (.aload_n 0, 1) := by decide +kernel
theorem dL_law_463 : decode cL_law 463 = .ok (.iload_n 3, 1) := by decide +kernel
theorem dL_law_464 : decode cL_law 464 = .ok (.iconst 4, 1) := by decide +kernel
theorem dL_law_465 : decode cL_law 465 = .ok (.iadd, 1) := by decide +kernel
theorem dL_law_466 : decode cL_law 466 = .ok (.iaload, 1) := by decide +kernel
theorem dL_law_467 : decode cL_law 467 = .ok (.aload_n 0, 1) := by decide +kernel
theorem dL_law_468 : decode cL_law 468 = .ok (.iload_n 3, 1) := by decide +kernel
theorem dL_law_469 : decode cL_law 469 = .ok (.iconst 5, 1) := by decide +kernel
theorem dL_law_470 : decode cL_law 470 = .ok (.iadd, 1) := by decide +kernel
theorem dL_law_471 : decode cL_law 471 = .ok (.iaload, 1) := by decide +kernel
theorem dL_law_472 : decode cL_law 472 = .ok (.invokevirtual 49, 3) := by decide +kernel
theorem dL_law_475 : decode cL_law 475 = .ok (.aload_n 2, 1) := by decide +kernel
theorem dL_law_476 : decode cL_law 476 = .ok (.aload_n 0, 1) := by decide +kernel
theorem dL_law_477 : decode cL_law 477 = .ok (.iload_n 3, 1) := by decide +kernel
theorem dL_law_478 : decode cL_law 478 = .ok (.iconst 1, 1) := by decide +kernel
theorem dL_law_479 : decode cL_law 479 = .ok (.iadd, 1) := by decide +kernel
theorem dL_law_480 : decode cL_law 480 = .ok (.iaload, 1) := by decide +kernel
theorem dL_law_481 : decode cL_law 481 = .ok (.aload_n 0, 1) := by decide +kernel
theorem dL_law_482 : decode cL_law 482 = .ok (.iload_n 3, 1) := by decide +kernel
theorem dL_law_483 : decode cL_law 483 = .ok (.iconst 2, 1) := by decide +kernel
theorem dL_law_484 : decode cL_law 484 = .ok (.iadd, 1) := by decide +kernel
theorem dL_law_485 : decode cL_law 485 = .ok (.iaload, 1) := by decide +kernel
theorem dL_law_486 : decode cL_law 486 = .ok (.aload_n 0, 1) := by decide +kernel
theorem dL_law_487 : decode cL_law 487 = .ok (.iload_n 3, 1) := by decide +kernel
theorem dL_law_488 : decode cL_law 488 = .ok (.iconst 3, 1) := by decide +kernel
theorem dL_law_489 : decode cL_law 489 = .ok (.iadd, 1) := by decide +kernel
theorem dL_law_490 : decode cL_law 490 = .ok (.iaload, 1) := by decide +kernel
theorem dL_law_491 : decode cL_law 491 = .ok (.aload_n 0, 1) := by decide +kernel
theorem dL_law_492 : decode cL_law 492 = .ok (.iload_n 3, 1) := by decide +kernel
theorem dL_law_493 : decode cL_law 493 = .ok (.iconst 4, 1) := by decide +kernel
theorem dL_law_494 : decode cL_law 494 = .ok (.iadd, 1) := by decide +kernel
theorem dL_law_495 : decode cL_law 495 = .ok (.iaload, 1) := by decide +kernel
theorem dL_law_496 : decode cL_law 496 = .ok (.aload_n 0, 1) := by decide +kernel
theorem dL_law_497 : decode cL_law 497 = .ok (.iload_n 3, 1) := by decide +kernel
theorem dL_law_498 : decode cL_law 498 = .ok (.iconst 5, 1) := by decide +kernel
theorem dL_law_499 : decode cL_law 499 = .ok (.iadd, 1) := by decide +kernel
theorem dL_law_500 : decode cL_law 500 = .ok (.iaload, 1) := by decide +kernel
theorem dL_law_501 : decode cL_law 501 = .ok (.invokevirtual 53, 3) := by decide +kernel
theorem dL_law_504 : decode cL_law 504 = .ok (.if_icmp .eq 347, 3) := by decide +kernel
theorem dL_law_507 : decode cL_law 507 = .ok (.iconst 0, 1) := by decide +kernel
theorem dL_law_508 : decode cL_law 508 = .ok (.ireturn, 1) := by decide +kernel
theorem dL_law_509 : decode cL_law 509 = .ok (.aload_n 1, 1) := by decide +kernel
theorem dL_law_510 : decode cL_law 510 = .ok (.aload_n 0, 1) := by decide +kernel
theorem dL_law_511 : decode cL_law 511 = .ok (.iload_n 3, 1) := by decide +kernel
theorem dL_law_512 : decode cL_law 512 = .ok (.iconst 1, 1) := by decide +kernel
theorem dL_law_513 : decode cL_law 513 = .ok (.iadd, 1) := by decide +kernel
theorem dL_law_514 : decode cL_law 514 = .ok (.iaload, 1) := by decide +kernel
theorem dL_law_515 : decode cL_law 515 = .ok (.invokevirtual 54, 3) := by decide +kernel
theorem dL_law_518 : decode cL_law 518 = .ok (.aload_n 2, 1) := by decide +kernel
theorem dL_law_519 : decode cL_law 519 = .ok (.aload_n 0, 1) := by decide +kernel
theorem dL_law_520 : decode cL_law 520 = .ok (.iload_n 3, 1) := by decide +kernel
theorem dL_law_521 : decode cL_law 521 = .ok (.iconst 1, 1) := by decide +kernel
theorem dL_law_522 : decode cL_law 522 = .ok (.iadd, 1) := by decide +kernel
theorem dL_law_523 : decode cL_law 523 = .ok (.iaload, 1) := by decide +kernel
theorem dL_law_524 : decode cL_law 524 = .ok (.invokevirtual 57, 3) := by decide +kernel
theorem dL_law_527 : decode cL_law 527 = .ok (.if_icmp .eq 324, 3) := by decide +kernel
theorem dL_law_530 : decode cL_law 530 = .ok (.iconst 0, 1) := by decide +kernel
theorem dL_law_531 : decode cL_law 531 = .ok (.ireturn, 1) := by decide +kernel
theorem dL_law_532 : decode cL_law 532 = .ok (.aload_n 1, 1) := by decide +kernel
theorem dL_law_533 : decode cL_law 533 = .ok (.aload_n 0, 1) := by decide +kernel
theorem dL_law_534 : decode cL_law 534 = .ok (.iload_n 3, 1) := by decide +kernel
theorem dL_law_535 : decode cL_law 535 = .ok (.iconst 1, 1) := by decide +kernel
theorem dL_law_536 : decode cL_law 536 = .ok (.iadd, 1) := by decide +kernel
theorem dL_law_537 : decode cL_law 537 = .ok (.iaload, 1) := by decide +kernel
theorem dL_law_538 : decode cL_law 538 = .ok (.aload_n 0, 1) := by decide +kernel
theorem dL_law_539 : decode cL_law 539 = .ok (.iload_n 3, 1) := by decide +kernel
theorem dL_law_540 : decode cL_law 540 = .ok (.iconst 2, 1) := by decide +kernel
theorem dL_law_541 : decode cL_law 541 = .ok (.iadd, 1) := by decide +kernel
theorem dL_law_542 : decode cL_law 542 = .ok (.iaload, 1) := by decide +kernel
theorem dL_law_543 : decode cL_law 543 = .ok (.invokevirtual 58, 3) := by decide +kernel
theorem dL_law_546 : decode cL_law 546 = .ok (.aload_n 2, 1) := by decide +kernel
theorem dL_law_547 : decode cL_law 547 = .ok (.aload_n 0, 1) := by decide +kernel
theorem dL_law_548 : decode cL_law 548 = .ok (.iload_n 3, 1) := by decide +kernel
theorem dL_law_549 : decode cL_law 549 = .ok (.iconst 1, 1) := by decide +kernel
theorem dL_law_550 : decode cL_law 550 = .ok (.iadd, 1) := by decide +kernel
theorem dL_law_551 : decode cL_law 551 = .ok (.iaload, 1) := by decide +kernel
theorem dL_law_552 : decode cL_law 552 = .ok (.aload_n 0, 1) := by decide +kernel
theorem dL_law_553 : decode cL_law 553 = .ok (.iload_n 3, 1) := by decide +kernel
theorem dL_law_554 : decode cL_law 554 = .ok (.iconst 2, 1) := by decide +kernel
theorem dL_law_555 : decode cL_law 555 = .ok (.iadd, 1) := by decide +kernel
theorem dL_law_556 : decode cL_law 556 = .ok (.iaload, 1) := by decide +kernel
theorem dL_law_557 : decode cL_law 557 = .ok (.invokevirtual 61, 3) := by decide +kernel
theorem dL_law_560 : decode cL_law 560 = .ok (.if_icmp .eq 291, 3) := by decide +kernel
theorem dL_law_563 : decode cL_law 563 = .ok (.iconst 0, 1) := by decide +kernel
theorem dL_law_564 : decode cL_law 564 = .ok (.ireturn, 1) := by decide +kernel
theorem dL_law_565 : decode cL_law 565 = .ok (.aload_n 1, 1) := by decide +kernel
theorem dL_law_566 : decode cL_law 566 = .ok (.aload_n 0, 1) := by decide +kernel
theorem dL_law_567 : decode cL_law 567 = .ok (.iload_n 3, 1) := by decide +kernel
theorem dL_law_568 : decode cL_law 568 = .ok (.iconst 1, 1) := by decide +kernel
theorem dL_law_569 : decode cL_law 569 = .ok (.iadd, 1) := by decide +kernel
theorem dL_law_570 : decode cL_law 570 = .ok (.iaload, 1) := by decide +kernel
theorem dL_law_571 : decode cL_law 571 = .ok (.aload_n 0, 1) := by decide +kernel
theorem dL_law_572 : decode cL_law 572 = .ok (.iload_n 3, 1) := by decide +kernel
theorem dL_law_573 : decode cL_law 573 = .ok (.iconst 2, 1) := by decide +kernel
theorem dL_law_574 : decode cL_law 574 = .ok (.iadd, 1) := by decide +kernel
theorem dL_law_575 : decode cL_law 575 = .ok (.iaload, 1) := by decide +kernel
theorem dL_law_576 : decode cL_law 576 = .ok (.invokevirtual 62, 3) := by decide +kernel
theorem dL_law_579 : decode cL_law 579 = .ok (.aload_n 2, 1) := by decide +kernel
theorem dL_law_580 : decode cL_law 580 = .ok (.aload_n 0, 1) := by decide +kernel
theorem dL_law_581 : decode cL_law 581 = .ok (.iload_n 3, 1) := by decide +kernel
theorem dL_law_582 : decode cL_law 582 = .ok (.iconst 1, 1) := by decide +kernel
theorem dL_law_583 : decode cL_law 583 = .ok (.iadd, 1) := by decide +kernel
theorem dL_law_584 : decode cL_law 584 = .ok (.iaload, 1) := by decide +kernel
theorem dL_law_585 : decode cL_law 585 = .ok (.aload_n 0, 1) := by decide +kernel
theorem dL_law_586 : decode cL_law 586 = .ok (.iload_n 3, 1) := by decide +kernel
theorem dL_law_587 : decode cL_law 587 = .ok (.iconst 2, 1) := by decide +kernel
theorem dL_law_588 : decode cL_law 588 = .ok (.iadd, 1) := by decide +kernel
theorem dL_law_589 : decode cL_law 589 = .ok (.iaload, 1) := by decide +kernel
theorem dL_law_590 : decode cL_law 590 = .ok (.invokevirtual 65, 3) := by decide +kernel
theorem dL_law_593 : decode cL_law 593 = .ok (.if_icmp .eq 258, 3) := by decide +kernel
theorem dL_law_596 : decode cL_law 596 = .ok (.iconst 0, 1) := by decide +kernel
theorem dL_law_597 : decode cL_law 597 = .ok (.ireturn, 1) := by decide +kernel
theorem dL_law_598 : decode cL_law 598 = .ok (.aload_n 1, 1) := by decide +kernel
theorem dL_law_599 : decode cL_law 599 = .ok (.aload_n 0, 1) := by decide +kernel
theorem dL_law_600 : decode cL_law 600 = .ok (.iload_n 3, 1) := by decide +kernel
theorem dL_law_601 : decode cL_law 601 = .ok (.iconst 1, 1) := by decide +kernel
theorem dL_law_602 : decode cL_law 602 = .ok (.iadd, 1) := by decide +kernel
theorem dL_law_603 : decode cL_law 603 = .ok (.iaload, 1) := by decide +kernel
theorem dL_law_604 : decode cL_law 604 = .ok (.aload_n 0, 1) := by decide +kernel
theorem dL_law_605 : decode cL_law 605 = .ok (.iload_n 3, 1) := by decide +kernel
theorem dL_law_606 : decode cL_law 606 = .ok (.iconst 2, 1) := by decide +kernel
theorem dL_law_607 : decode cL_law 607 = .ok (.iadd, 1) := by decide +kernel
theorem dL_law_608 : decode cL_law 608 = .ok (.iaload, 1) := by decide +kernel
theorem dL_law_609 : decode cL_law 609 = .ok (.invokevirtual 66, 3) := by decide +kernel
theorem dL_law_612 : decode cL_law 612 = .ok (.aload_n 2, 1) := by decide +kernel
theorem dL_law_613 : decode cL_law 613 = .ok (.aload_n 0, 1) := by decide +kernel
theorem dL_law_614 : decode cL_law 614 = .ok (.iload_n 3, 1) := by decide +kernel
theorem dL_law_615 : decode cL_law 615 = .ok (.iconst 1, 1) := by decide +kernel
theorem dL_law_616 : decode cL_law 616 = .ok (.iadd, 1) := by decide +kernel
theorem dL_law_617 : decode cL_law 617 = .ok (.iaload, 1) := by decide +kernel
theorem dL_law_618 : decode cL_law 618 = .ok (.aload_n 0, 1) := by decide +kernel
theorem dL_law_619 : decode cL_law 619 = .ok (.iload_n 3, 1) := by decide +kernel
theorem dL_law_620 : decode cL_law 620 = .ok (.iconst 2, 1) := by decide +kernel
theorem dL_law_621 : decode cL_law 621 = .ok (.iadd, 1) := by decide +kernel
theorem dL_law_622 : decode cL_law 622 = .ok (.iaload, 1) := by decide +kernel
theorem dL_law_623 : decode cL_law 623 = .ok (.invokevirtual 69, 3) := by decide +kernel
theorem dL_law_626 : decode cL_law 626 = .ok (.if_icmp .eq 225, 3) := by decide +kernel
theorem dL_law_629 : decode cL_law 629 = .ok (.iconst 0, 1) := by decide +kernel
theorem dL_law_630 : decode cL_law 630 = .ok (.ireturn, 1) := by decide +kernel
theorem dL_law_631 : decode cL_law 631 = .ok (.aload_n 1, 1) := by decide +kernel
theorem dL_law_632 : decode cL_law 632 = .ok (.aload_n 0, 1) := by decide +kernel
theorem dL_law_633 : decode cL_law 633 = .ok (.iload_n 3, 1) := by decide +kernel
theorem dL_law_634 : decode cL_law 634 = .ok (.iconst 1, 1) := by decide +kernel
theorem dL_law_635 : decode cL_law 635 = .ok (.iadd, 1) := by decide +kernel
theorem dL_law_636 : decode cL_law 636 = .ok (.iaload, 1) := by decide +kernel
theorem dL_law_637 : decode cL_law 637 = .ok (.aload_n 0, 1) := by decide +kernel
theorem dL_law_638 : decode cL_law 638 = .ok (.iload_n 3, 1) := by decide +kernel
theorem dL_law_639 : decode cL_law 639 = .ok (.iconst 2, 1) := by decide +kernel
theorem dL_law_640 : decode cL_law 640 = .ok (.iadd, 1) := by decide +kernel
theorem dL_law_641 : decode cL_law 641 = .ok (.iaload, 1) := by decide +kernel
theorem dL_law_642 : decode cL_law 642 = .ok (.invokevirtual 70, 3) := by decide +kernel
theorem dL_law_645 : decode cL_law 645 = .ok (.aload_n 2, 1) := by decide +kernel
theorem dL_law_646 : decode cL_law 646 = .ok (.aload_n 0, 1) := by decide +kernel
theorem dL_law_647 : decode cL_law 647 = .ok (.iload_n 3, 1) := by decide +kernel
theorem dL_law_648 : decode cL_law 648 = .ok (.iconst 1, 1) := by decide +kernel
theorem dL_law_649 : decode cL_law 649 = .ok (.iadd, 1) := by decide +kernel
theorem dL_law_650 : decode cL_law 650 = .ok (.iaload, 1) := by decide +kernel
theorem dL_law_651 : decode cL_law 651 = .ok (.aload_n 0, 1) := by decide +kernel
theorem dL_law_652 : decode cL_law 652 = .ok (.iload_n 3, 1) := by decide +kernel
theorem dL_law_653 : decode cL_law 653 = .ok (.iconst 2, 1) := by decide +kernel
theorem dL_law_654 : decode cL_law 654 = .ok (.iadd, 1) := by decide +kernel
theorem dL_law_655 : decode cL_law 655 = .ok (.iaload, 1) := by decide +kernel
theorem dL_law_656 : decode cL_law 656 = .ok (.invokevirtual 73, 3) := by decide +kernel
theorem dL_law_659 : decode cL_law 659 = .ok (.if_icmp .eq 192, 3) := by decide +kernel
theorem dL_law_662 : decode cL_law 662 = .ok (.iconst 0, 1) := by decide +kernel
theorem dL_law_663 : decode cL_law 663 = .ok (.ireturn, 1) := by decide +kernel
theorem dL_law_664 : decode cL_law 664 = .ok (.aload_n 1, 1) := by decide +kernel
theorem dL_law_665 : decode cL_law 665 = .ok (.aload_n 0, 1) := by decide +kernel
theorem dL_law_666 : decode cL_law 666 = .ok (.iload_n 3, 1) := by decide +kernel
theorem dL_law_667 : decode cL_law 667 = .ok (.iconst 1, 1) := by decide +kernel
theorem dL_law_668 : decode cL_law 668 = .ok (.iadd, 1) := by decide +kernel
theorem dL_law_669 : decode cL_law 669 = .ok (.iaload, 1) := by decide +kernel
theorem dL_law_670 : decode cL_law 670 = .ok (.invokevirtual 74, 3) := by decide +kernel
theorem dL_law_673 : decode cL_law 673 = .ok (.aload_n 2, 1) := by decide +kernel
theorem dL_law_674 : decode cL_law 674 = .ok (.aload_n 0, 1) := by decide +kernel
theorem dL_law_675 : decode cL_law 675 = .ok (.iload_n 3, 1) := by decide +kernel
theorem dL_law_676 : decode cL_law 676 = .ok (.iconst 1, 1) := by decide +kernel
theorem dL_law_677 : decode cL_law 677 = .ok (.iadd, 1) := by decide +kernel
theorem dL_law_678 : decode cL_law 678 = .ok (.iaload, 1) := by decide +kernel
theorem dL_law_679 : decode cL_law 679 = .ok (.invokevirtual 77, 3) := by decide +kernel
theorem dL_law_682 : decode cL_law 682 = .ok (.if_icmp .eq 169, 3) := by decide +kernel
theorem dL_law_685 : decode cL_law 685 = .ok (.iconst 0, 1) := by decide +kernel
theorem dL_law_686 : decode cL_law 686 = .ok (.ireturn, 1) := by decide +kernel
theorem dL_law_687 : decode cL_law 687 = .ok (.aload_n 1, 1) := by decide +kernel
theorem dL_law_688 : decode cL_law 688 = .ok (.aload_n 0, 1) := by decide +kernel
theorem dL_law_689 : decode cL_law 689 = .ok (.iload_n 3, 1) := by decide +kernel
theorem dL_law_690 : decode cL_law 690 = .ok (.iconst 1, 1) := by decide +kernel
theorem dL_law_691 : decode cL_law 691 = .ok (.iadd, 1) := by decide +kernel
theorem dL_law_692 : decode cL_law 692 = .ok (.iaload, 1) := by decide +kernel
theorem dL_law_693 : decode cL_law 693 = .ok (.aload_n 0, 1) := by decide +kernel
theorem dL_law_694 : decode cL_law 694 = .ok (.iload_n 3, 1) := by decide +kernel
theorem dL_law_695 : decode cL_law 695 = .ok (.iconst 2, 1) := by decide +kernel
theorem dL_law_696 : decode cL_law 696 = .ok (.iadd, 1) := by decide +kernel
theorem dL_law_697 : decode cL_law 697 = .ok (.iaload, 1) := by decide +kernel
theorem dL_law_698 : decode cL_law 698 = .ok (.aload_n 0, 1) := by decide +kernel
theorem dL_law_699 : decode cL_law 699 = .ok (.iload_n 3, 1) := by decide +kernel
theorem dL_law_700 : decode cL_law 700 = .ok (.iconst 3, 1) := by decide +kernel
theorem dL_law_701 : decode cL_law 701 = .ok (.iadd, 1) := by decide +kernel
theorem dL_law_702 : decode cL_law 702 = .ok (.iaload, 1) := by decide +kernel
theorem dL_law_703 : decode cL_law 703 = .ok (.invokevirtual 78, 3) := by decide +kernel
theorem dL_law_706 : decode cL_law 706 = .ok (.aload_n 2, 1) := by decide +kernel
theorem dL_law_707 : decode cL_law 707 = .ok (.aload_n 0, 1) := by decide +kernel
theorem dL_law_708 : decode cL_law 708 = .ok (.iload_n 3, 1) := by decide +kernel
theorem dL_law_709 : decode cL_law 709 = .ok (.iconst 1, 1) := by decide +kernel
theorem dL_law_710 : decode cL_law 710 = .ok (.iadd, 1) := by decide +kernel
theorem dL_law_711 : decode cL_law 711 = .ok (.iaload, 1) := by decide +kernel
theorem dL_law_712 : decode cL_law 712 = .ok (.aload_n 0, 1) := by decide +kernel
theorem dL_law_713 : decode cL_law 713 = .ok (.iload_n 3, 1) := by decide +kernel
theorem dL_law_714 : decode cL_law 714 = .ok (.iconst 2, 1) := by decide +kernel
theorem dL_law_715 : decode cL_law 715 = .ok (.iadd, 1) := by decide +kernel
theorem dL_law_716 : decode cL_law 716 = .ok (.iaload, 1) := by decide +kernel
theorem dL_law_717 : decode cL_law 717 = .ok (.aload_n 0, 1) := by decide +kernel
theorem dL_law_718 : decode cL_law 718 = .ok (.iload_n 3, 1) := by decide +kernel
theorem dL_law_719 : decode cL_law 719 = .ok (.iconst 3, 1) := by decide +kernel
theorem dL_law_720 : decode cL_law 720 = .ok (.iadd, 1) := by decide +kernel
theorem dL_law_721 : decode cL_law 721 = .ok (.iaload, 1) := by decide +kernel
theorem dL_law_722 : decode cL_law 722 = .ok (.invokevirtual 81, 3) := by decide +kernel
theorem dL_law_725 : decode cL_law 725 = .ok (.if_icmp .eq 126, 3) := by decide +kernel
theorem dL_law_728 : decode cL_law 728 = .ok (.iconst 0, 1) := by decide +kernel
theorem dL_law_729 : decode cL_law 729 = .ok (.ireturn, 1) := by decide +kernel
theorem dL_law_730 : decode cL_law 730 = .ok (.aload_n 1, 1) := by decide +kernel
theorem dL_law_731 : decode cL_law 731 = .ok (.aload_n 0, 1) := by decide +kernel
theorem dL_law_732 : decode cL_law 732 = .ok (.iload_n 3, 1) := by decide +kernel
theorem dL_law_733 : decode cL_law 733 = .ok (.iconst 1, 1) := by decide +kernel
theorem dL_law_734 : decode cL_law 734 = .ok (.iadd, 1) := by decide +kernel
theorem dL_law_735 : decode cL_law 735 = .ok (.iaload, 1) := by decide +kernel
theorem dL_law_736 : decode cL_law 736 = .ok (.invokevirtual 82, 3) := by decide +kernel
theorem dL_law_739 : decode cL_law 739 = .ok (.aload_n 2, 1) := by decide +kernel
theorem dL_law_740 : decode cL_law 740 = .ok (.aload_n 0, 1) := by decide +kernel
theorem dL_law_741 : decode cL_law 741 = .ok (.iload_n 3, 1) := by decide +kernel
theorem dL_law_742 : decode cL_law 742 = .ok (.iconst 1, 1) := by decide +kernel
theorem dL_law_743 : decode cL_law 743 = .ok (.iadd, 1) := by decide +kernel
theorem dL_law_744 : decode cL_law 744 = .ok (.iaload, 1) := by decide +kernel
theorem dL_law_745 : decode cL_law 745 = .ok (.invokevirtual 85, 3) := by decide +kernel
theorem dL_law_748 : decode cL_law 748 = .ok (.if_icmp .eq 103, 3) := by decide +kernel
theorem dL_law_751 : decode cL_law 751 = .ok (.iconst 0, 1) := by decide +kernel
theorem dL_law_752 : decode cL_law 752 = .ok (.ireturn, 1) := by decide +kernel
theorem dL_law_753 : decode cL_law 753 = .ok (.aload_n 1, 1) := by decide +kernel
theorem dL_law_754 : decode cL_law 754 = .ok (.invokevirtual 86, 3) := by decide +kernel
theorem dL_law_757 : decode cL_law 757 = .ok (.aload_n 2, 1) := by decide +kernel
theorem dL_law_758 : decode cL_law 758 = .ok (.invokevirtual 90, 3) := by decide +kernel
theorem dL_law_761 : decode cL_law 761 = .ok (.if_icmp .eq 90, 3) := by decide +kernel
theorem dL_law_764 : decode cL_law 764 = .ok (.iconst 0, 1) := by decide +kernel
theorem dL_law_765 : decode cL_law 765 = .ok (.ireturn, 1) := by decide +kernel
theorem dL_law_766 : decode cL_law 766 = .ok (.aload_n 1, 1) := by decide +kernel
theorem dL_law_767 : decode cL_law 767 = .ok (.invokevirtual 91, 3) := by decide +kernel
theorem dL_law_770 : decode cL_law 770 = .ok (.aload_n 2, 1) := by decide +kernel
theorem dL_law_771 : decode cL_law 771 = .ok (.invokevirtual 94, 3) := by decide +kernel
theorem dL_law_774 : decode cL_law 774 = .ok (.if_icmp .eq 77, 3) := by decide +kernel
theorem dL_law_777 : decode cL_law 777 = .ok (.iconst 0, 1) := by decide +kernel
theorem dL_law_778 : decode cL_law 778 = .ok (.ireturn, 1) := by decide +kernel
theorem dL_law_779 : decode cL_law 779 = .ok (.aload_n 1, 1) := by decide +kernel
theorem dL_law_780 : decode cL_law 780 = .ok (.aload_n 0, 1) := by decide +kernel
theorem dL_law_781 : decode cL_law 781 = .ok (.iload_n 3, 1) := by decide +kernel
theorem dL_law_782 : decode cL_law 782 = .ok (.iconst 1, 1) := by decide +kernel
theorem dL_law_783 : decode cL_law 783 = .ok (.iadd, 1) := by decide +kernel
theorem dL_law_784 : decode cL_law 784 = .ok (.iaload, 1) := by decide +kernel
theorem dL_law_785 : decode cL_law 785 = .ok (.invokevirtual 95, 3) := by decide +kernel
theorem dL_law_788 : decode cL_law 788 = .ok (.aload_n 2, 1) := by decide +kernel
theorem dL_law_789 : decode cL_law 789 = .ok (.aload_n 0, 1) := by decide +kernel
theorem dL_law_790 : decode cL_law 790 = .ok (.iload_n 3, 1) := by decide +kernel
theorem dL_law_791 : decode cL_law 791 = .ok (.iconst 1, 1) := by decide +kernel
theorem dL_law_792 : decode cL_law 792 = .ok (.iadd, 1) := by decide +kernel
theorem dL_law_793 : decode cL_law 793 = .ok (.iaload, 1) := by decide +kernel
theorem dL_law_794 : decode cL_law 794 = .ok (.invokevirtual 98, 3) := by decide +kernel
theorem dL_law_797 : decode cL_law 797 = .ok (.if_icmp .eq 54, 3) := by decide +kernel
theorem dL_law_800 : decode cL_law 800 = .ok (.iconst 0, 1) := by decide +kernel
theorem dL_law_801 : decode cL_law 801 = .ok (.ireturn, 1) := by decide +kernel
theorem dL_law_802 : decode cL_law 802 = .ok (.aload_n 1, 1) := by decide +kernel
theorem dL_law_803 : decode cL_law 803 = .ok (.invokevirtual 99, 3) := by decide +kernel
theorem dL_law_806 : decode cL_law 806 = .ok (.aload_n 2, 1) := by decide +kernel
theorem dL_law_807 : decode cL_law 807 = .ok (.invokevirtual 102, 3) := by decide +kernel
theorem dL_law_810 : decode cL_law 810 = .ok (.if_icmp .eq 41, 3) := by decide +kernel
theorem dL_law_813 : decode cL_law 813 = .ok (.iconst 0, 1) := by decide +kernel
theorem dL_law_814 : decode cL_law 814 = .ok (.ireturn, 1) := by decide +kernel
theorem dL_law_815 : decode cL_law 815 = .ok (.aload_n 1, 1) := by decide +kernel
theorem dL_law_816 : decode cL_law 816 = .ok (.aload_n 0, 1) := by decide +kernel
theorem dL_law_817 : decode cL_law 817 = .ok (.iload_n 3, 1) := by decide +kernel
theorem dL_law_818 : decode cL_law 818 = .ok (.iconst 1, 1) := by decide +kernel
theorem dL_law_819 : decode cL_law 819 = .ok (.iadd, 1) := by decide +kernel
theorem dL_law_820 : decode cL_law 820 = .ok (.iaload, 1) := by decide +kernel
theorem dL_law_821 : decode cL_law 821 = .ok (.invokevirtual 103, 3) := by decide +kernel
theorem dL_law_824 : decode cL_law 824 = .ok (.aload_n 2, 1) := by decide +kernel
theorem dL_law_825 : decode cL_law 825 = .ok (.aload_n 0, 1) := by decide +kernel
theorem dL_law_826 : decode cL_law 826 = .ok (.iload_n 3, 1) := by decide +kernel
theorem dL_law_827 : decode cL_law 827 = .ok (.iconst 1, 1) := by decide +kernel
theorem dL_law_828 : decode cL_law 828 = .ok (.iadd, 1) := by decide +kernel
theorem dL_law_829 : decode cL_law 829 = .ok (.iaload, 1) := by decide +kernel
theorem dL_law_830 : decode cL_law 830 = .ok (.invokevirtual 106, 3) := by decide +kernel
theorem dL_law_833 : decode cL_law 833 = .ok (.if_icmp .eq 18, 3) := by decide +kernel
theorem dL_law_836 : decode cL_law 836 = .ok (.iconst 0, 1) := by decide +kernel
theorem dL_law_837 : decode cL_law 837 = .ok (.ireturn, 1) := by decide +kernel
theorem dL_law_838 : decode cL_law 838 = .ok (.aload_n 1, 1) := by decide +kernel
theorem dL_law_839 : decode cL_law 839 = .ok (.invokevirtual 107, 3) := by decide +kernel
theorem dL_law_842 : decode cL_law 842 = .ok (.aload_n 2, 1) := by decide +kernel
theorem dL_law_843 : decode cL_law 843 = .ok (.invokevirtual 110, 3) := by decide +kernel
theorem dL_law_846 : decode cL_law 846 = .ok (.if_icmp .eq 5, 3) := by decide +kernel
theorem dL_law_849 : decode cL_law 849 = .ok (.iconst 0, 1) := by decide +kernel
theorem dL_law_850 : decode cL_law 850 = .ok (.ireturn, 1) := by decide +kernel
theorem dL_law_851 : decode cL_law 851 = .ok (.iinc 3 7, 3) := by decide +kernel
theorem dL_law_854 : decode cL_law 854 = .ok (.goto (-836), 3) := by decide +kernel
theorem dL_law_857 : decode cL_law 857 = .ok (.iconst 1, 1) := by decide +kernel
theorem dL_law_858 : decode cL_law 858 = .ok (.ireturn, 1) := by decide +kernel
theorem dJ6_bitCount_0f7a4_0 : decode cJ6_bitCount_0f7a4 0 = .ok (.iload_n 0, 1) := by decide +kernel
theorem dJ6_bitCount_0f7a4_1 : decode cJ6_bitCount_0f7a4 1 = .ok (.iload_n 0, 1) := by decide +kernel
theorem dJ6_bitCount_0f7a4_2 : decode cJ6_bitCount_0f7a4 2 = .ok (.iconst 1, 1) := by decide +kernel
theorem dJ6_bitCount_0f7a4_3 : decode cJ6_bitCount_0f7a4 3 = .ok (.iushr, 1) := by decide +kernel
theorem dJ6_bitCount_0f7a4_4 : decode cJ6_bitCount_0f7a4 4 = .ok (.ldc_w 265, 3) := by decide +kernel
theorem dJ6_bitCount_0f7a4_7 : decode cJ6_bitCount_0f7a4 7 = .ok (.iand, 1) := by decide +kernel
theorem dJ6_bitCount_0f7a4_8 : decode cJ6_bitCount_0f7a4 8 = .ok (.isub, 1) := by decide +kernel
theorem dJ6_bitCount_0f7a4_9 : decode cJ6_bitCount_0f7a4 9 = .ok (.istore_n 0, 1) := by decide +kernel
theorem dJ6_bitCount_0f7a4_10 : decode cJ6_bitCount_0f7a4 10 = .ok (.iload_n 0, 1) := by decide +kernel
theorem dJ6_bitCount_0f7a4_11 : decode cJ6_bitCount_0f7a4 11 = .ok (.ldc_w 266, 3) := by decide +kernel
theorem dJ6_bitCount_0f7a4_14 : decode cJ6_bitCount_0f7a4 14 = .ok (.iand, 1) := by decide +kernel
theorem dJ6_bitCount_0f7a4_15 : decode cJ6_bitCount_0f7a4 15 = .ok (.iload_n 0, 1) := by decide +kernel
theorem dJ6_bitCount_0f7a4_16 : decode cJ6_bitCount_0f7a4 16 = .ok (.iconst 2, 1) := by decide +kernel
theorem dJ6_bitCount_0f7a4_17 : decode cJ6_bitCount_0f7a4 17 = .ok (.iushr, 1) := by decide +kernel
theorem dJ6_bitCount_0f7a4_18 : decode cJ6_bitCount_0f7a4 18 = .ok (.ldc_w 266, 3) := by decide +kernel
theorem dJ6_bitCount_0f7a4_21 : decode cJ6_bitCount_0f7a4 21 = .ok (.iand, 1) := by decide +kernel
theorem dJ6_bitCount_0f7a4_22 : decode cJ6_bitCount_0f7a4 22 = .ok (.iadd, 1) := by decide +kernel
theorem dJ6_bitCount_0f7a4_23 : decode cJ6_bitCount_0f7a4 23 = .ok (.istore_n 0, 1) := by decide +kernel
theorem dJ6_bitCount_0f7a4_24 : decode cJ6_bitCount_0f7a4 24 = .ok (.iload_n 0, 1) := by decide +kernel
theorem dJ6_bitCount_0f7a4_25 : decode cJ6_bitCount_0f7a4 25 = .ok (.iload_n 0, 1) := by decide +kernel
theorem dJ6_bitCount_0f7a4_26 : decode cJ6_bitCount_0f7a4 26 = .ok (.iconst 4, 1) := by decide +kernel
theorem dJ6_bitCount_0f7a4_27 : decode cJ6_bitCount_0f7a4 27 = .ok (.iushr, 1) := by decide +kernel
theorem dJ6_bitCount_0f7a4_28 : decode cJ6_bitCount_0f7a4 28 = .ok (.iadd, 1) := by decide +kernel
theorem dJ6_bitCount_0f7a4_29 : decode cJ6_bitCount_0f7a4 29 = .ok (.ldc_w 267, 3) := by decide +kernel
theorem dJ6_bitCount_0f7a4_32 : decode cJ6_bitCount_0f7a4 32 = .ok (.iand, 1) := by decide +kernel
theorem dJ6_bitCount_0f7a4_33 : decode cJ6_bitCount_0f7a4 33 = .ok (.istore_n 0, 1) := by decide +kernel
theorem dJ6_bitCount_0f7a4_34 : decode cJ6_bitCount_0f7a4 34 = .ok (.iload_n 0, 1) := by decide +kernel
theorem dJ6_bitCount_0f7a4_35 : decode cJ6_bitCount_0f7a4 35 = .ok (.iload_n 0, 1) := by decide +kernel
theorem dJ6_bitCount_0f7a4_36 : decode cJ6_bitCount_0f7a4 36 = .ok (.bipush 8, 2) := by decide +kernel
theorem dJ6_bitCount_0f7a4_38 : decode cJ6_bitCount_0f7a4 38 = .ok (.iushr, 1) := by decide +kernel
theorem dJ6_bitCount_0f7a4_39 : decode cJ6_bitCount_0f7a4 39 = .ok (.iadd, 1) := by decide +kernel
theorem dJ6_bitCount_0f7a4_40 : decode cJ6_bitCount_0f7a4 40 = .ok (.istore_n 0, 1) := by decide +kernel
theorem dJ6_bitCount_0f7a4_41 : decode cJ6_bitCount_0f7a4 41 = .ok (.iload_n 0, 1) := by decide +kernel
theorem dJ6_bitCount_0f7a4_42 : decode cJ6_bitCount_0f7a4 42 = .ok (.iload_n 0, 1) := by decide +kernel
theorem dJ6_bitCount_0f7a4_43 : decode cJ6_bitCount_0f7a4 43 = .ok (.bipush 16, 2) := by decide +kernel
theorem dJ6_bitCount_0f7a4_45 : decode cJ6_bitCount_0f7a4 45 = .ok (.iushr, 1) := by decide +kernel
theorem dJ6_bitCount_0f7a4_46 : decode cJ6_bitCount_0f7a4 46 = .ok (.iadd, 1) := by decide +kernel
theorem dJ6_bitCount_0f7a4_47 : decode cJ6_bitCount_0f7a4 47 = .ok (.istore_n 0, 1) := by decide +kernel
theorem dJ6_bitCount_0f7a4_48 : decode cJ6_bitCount_0f7a4 48 = .ok (.iload_n 0, 1) := by decide +kernel
theorem dJ6_bitCount_0f7a4_49 : decode cJ6_bitCount_0f7a4 49 = .ok (.bipush 63, 2) := by decide +kernel
theorem dJ6_bitCount_0f7a4_51 : decode cJ6_bitCount_0f7a4 51 = .ok (.iand, 1) := by decide +kernel
theorem dJ6_bitCount_0f7a4_52 : decode cJ6_bitCount_0f7a4 52 = .ok (.ireturn, 1) := by decide +kernel
theorem dJ9_max_7cf53_0 : decode cJ9_max_7cf53 0 = .ok (.iload_n 0, 1) := by decide +kernel
theorem dJ9_max_7cf53_1 : decode cJ9_max_7cf53 1 = .ok (.iload_n 1, 1) := by decide +kernel
theorem dJ9_max_7cf53_2 : decode cJ9_max_7cf53 2 = .ok (.if_icmp .lt 7, 3) := by decide +kernel
theorem dJ9_max_7cf53_5 : decode cJ9_max_7cf53 5 = .ok (.iload_n 0, 1) := by decide +kernel
theorem dJ9_max_7cf53_6 : decode cJ9_max_7cf53 6 = .ok (.goto 4, 3) := by decide +kernel
theorem dJ9_max_7cf53_9 : decode cJ9_max_7cf53 9 = .ok (.iload_n 1, 1) := by decide +kernel
theorem dJ9_max_7cf53_10 : decode cJ9_max_7cf53 10 = .ok (.ireturn, 1) := by decide +kernel
theorem dJ9_min_7cf53_0 : decode cJ9_min_7cf53 0 = .ok (.iload_n 0, 1) := by decide +kernel
theorem dJ9_min_7cf53_1 : decode cJ9_min_7cf53 1 = .ok (.iload_n 1, 1) := by decide +kernel
theorem dJ9_min_7cf53_2 : decode cJ9_min_7cf53 2 = .ok (.if_icmp .gt 7, 3) := by decide +kernel
theorem dJ9_min_7cf53_5 : decode cJ9_min_7cf53 5 = .ok (.iload_n 0, 1) := by decide +kernel
theorem dJ9_min_7cf53_6 : decode cJ9_min_7cf53 6 = .ok (.goto 4, 3) := by decide +kernel
theorem dJ9_min_7cf53_9 : decode cJ9_min_7cf53 9 = .ok (.iload_n 1, 1) := by decide +kernel
theorem dJ9_min_7cf53_10 : decode cJ9_min_7cf53 10 = .ok (.ireturn, 1) := by decide +kernel
theorem dJ0_length_8abf5_0 : decode cJ0_length_8abf5 0 = .ok (.aload_n 0, 1) := by decide +kernel
theorem dJ0_length_8abf5_1 : decode cJ0_length_8abf5 1 = .ok (.getfield 9, 3) := by decide +kernel
theorem dJ0_length_8abf5_4 : decode cJ0_length_8abf5 4 = .ok (.arraylength, 1) := by decide +kernel
theorem dJ0_length_8abf5_5 : decode cJ0_length_8abf5 5 = .ok (.aload_n 0, 1) := by decide +kernel
theorem dJ0_length_8abf5_6 : decode cJ0_length_8abf5 6 = .ok (.invokevirtual 335, 3) := by decide +kernel
theorem dJ0_length_8abf5_9 : decode cJ0_length_8abf5 9 = .ok (.ishr, 1) := by decide +kernel
theorem dJ0_length_8abf5_10 : decode cJ0_length_8abf5 10 = .ok (.ireturn, 1) := by decide +kernel
theorem dJ0_charAt_5068e_0 : decode cJ0_charAt_5068e 0 = .ok (.aload_n 0, 1) := by decide +kernel
theorem dJ0_charAt_5068e_1 : decode cJ0_charAt_5068e 1 = .ok (.invokevirtual 492, 3) := by decide +kernel
theorem dJ0_charAt_5068e_4 : decode cJ0_charAt_5068e 4 = .ok (.ifCond .eq 12, 3) := by decide +kernel
theorem dJ0_charAt_5068e_7 : decode cJ0_charAt_5068e 7 = .ok (.aload_n 0, 1) := by decide +kernel
theorem dJ0_charAt_5068e_8 : decode cJ0_charAt_5068e 8 = .ok (.getfield 9, 3) := by decide +kernel
theorem dJ0_charAt_5068e_11 : decode cJ0_charAt_5068e 11 = .ok (.iload_n 1, 1) := by decide +kernel
theorem dJ0_charAt_5068e_12 : decode cJ0_charAt_5068e 12 = .ok (.invokestatic 495, 3) := by decide +kernel
theorem dJ0_charAt_5068e_15 : decode cJ0_charAt_5068e 15 = .ok (.ireturn, 1) := by decide +kernel
theorem dJ0_charAt_5068e_16 : decode cJ0_charAt_5068e 16 = .ok (.aload_n 0, 1) := by decide +kernel
theorem dJ0_charAt_5068e_17 : decode cJ0_charAt_5068e 17 = .ok (.getfield 9, 3) := by decide +kernel
theorem dJ0_charAt_5068e_20 : decode cJ0_charAt_5068e 20 = .ok (.iload_n 1, 1) := by decide +kernel
theorem dJ0_charAt_5068e_21 : decode cJ0_charAt_5068e 21 = .ok (.invokestatic 498, 3) := by decide +kernel
theorem dJ0_charAt_5068e_24 : decode cJ0_charAt_5068e 24 = .ok (.ireturn, 1) := by decide +kernel
theorem dJ0_coder_7d493_0 : decode cJ0_coder_7d493 0 = .ok (.getstatic 38, 3) := by decide +kernel
theorem dJ0_coder_7d493_3 : decode cJ0_coder_7d493 3 = .ok (.ifCond .eq 10, 3) := by decide +kernel
theorem dJ0_coder_7d493_6 : decode cJ0_coder_7d493 6 = .ok (.aload_n 0, 1) := by decide +kernel
theorem dJ0_coder_7d493_7 : decode cJ0_coder_7d493 7 = .ok (.getfield 15, 3) := by decide +kernel
theorem dJ0_coder_7d493_10 : decode cJ0_coder_7d493 10 = .ok (.goto 4, 3) := by decide +kernel
theorem dJ0_coder_7d493_13 : decode cJ0_coder_7d493 13 = .ok (.iconst 1, 1) := by decide +kernel
theorem dJ0_coder_7d493_14 : decode cJ0_coder_7d493 14 = .ok (.ireturn, 1) := by decide +kernel
theorem dJ0_isLatin1_aae02_0 : decode cJ0_isLatin1_aae02 0 = .ok (.getstatic 38, 3) := by decide +kernel
theorem dJ0_isLatin1_aae02_3 : decode cJ0_isLatin1_aae02 3 = .ok (.ifCond .eq 14, 3) := by decide +kernel
theorem dJ0_isLatin1_aae02_6 : decode cJ0_isLatin1_aae02 6 = .ok (.aload_n 0, 1) := by decide +kernel
theorem dJ0_isLatin1_aae02_7 : decode cJ0_isLatin1_aae02 7 = .ok (.getfield 15, 3) := by decide +kernel
theorem dJ0_isLatin1_aae02_10 : decode cJ0_isLatin1_aae02 10 = .ok (.ifCond .ne 7, 3) := by decide +kernel
theorem dJ0_isLatin1_aae02_13 : decode cJ0_isLatin1_aae02 13 = .ok (.iconst 1, 1) := by decide +kernel
theorem dJ0_isLatin1_aae02_14 : decode cJ0_isLatin1_aae02 14 = .ok (.goto 4, 3) := by decide +kernel
theorem dJ0_isLatin1_aae02_17 : decode cJ0_isLatin1_aae02 17 = .ok (.iconst 0, 1) := by decide +kernel
theorem dJ0_isLatin1_aae02_18 : decode cJ0_isLatin1_aae02 18 = .ok (.ireturn, 1) := by decide +kernel
theorem dJ0_checkIndex_df160_0 : decode cJ0_checkIndex_df160 0 = .ok (.iload_n 0, 1) := by decide +kernel
theorem dJ0_checkIndex_df160_1 : decode cJ0_checkIndex_df160 1 = .ok (.iload_n 1, 1) := by decide +kernel
theorem dJ0_checkIndex_df160_2 : decode cJ0_checkIndex_df160 2 = .ok (.getstatic 1053, 3) := by decide +kernel
theorem dJ0_checkIndex_df160_5 : decode cJ0_checkIndex_df160 5 = .ok (.invokestatic 1059, 3) := by decide +kernel
theorem dJ0_checkIndex_df160_8 : decode cJ0_checkIndex_df160 8 = .ok (.pop, 1) := by decide +kernel
theorem dJ0_checkIndex_df160_9 : decode cJ0_checkIndex_df160 9 = .ok (.return_, 1) := by decide +kernel
theorem dJ1_charAt_3b067_0 : decode cJ1_charAt_3b067 0 = .ok (.iload_n 1, 1) := by decide +kernel
theorem dJ1_charAt_3b067_1 : decode cJ1_charAt_3b067 1 = .ok (.aload_n 0, 1) := by decide +kernel
theorem dJ1_charAt_3b067_2 : decode cJ1_charAt_3b067 2 = .ok (.arraylength, 1) := by decide +kernel
theorem dJ1_charAt_3b067_3 : decode cJ1_charAt_3b067 3 = .ok (.invokestatic 9, 3) := by decide +kernel
theorem dJ1_charAt_3b067_6 : decode cJ1_charAt_3b067 6 = .ok (.aload_n 0, 1) := by decide +kernel
theorem dJ1_charAt_3b067_7 : decode cJ1_charAt_3b067 7 = .ok (.iload_n 1, 1) := by decide +kernel
theorem dJ1_charAt_3b067_8 : decode cJ1_charAt_3b067 8 = .ok (.baload, 1) := by decide +kernel
theorem dJ1_charAt_3b067_9 : decode cJ1_charAt_3b067 9 = .ok (.sipush 255, 3) := by decide +kernel
theorem dJ1_charAt_3b067_12 : decode cJ1_charAt_3b067 12 = .ok (.iand, 1) := by decide +kernel
theorem dJ1_charAt_3b067_13 : decode cJ1_charAt_3b067 13 = .ok (.i2c, 1) := by decide +kernel
theorem dJ1_charAt_3b067_14 : decode cJ1_charAt_3b067 14 = .ok (.ireturn, 1) := by decide +kernel
theorem dJ3_checkIndex_8e157_0 : decode cJ3_checkIndex_8e157 0 = .ok (.iload_n 0, 1) := by decide +kernel
theorem dJ3_checkIndex_8e157_1 : decode cJ3_checkIndex_8e157 1 = .ok (.ifCond .lt 8, 3) := by decide +kernel
theorem dJ3_checkIndex_8e157_4 : decode cJ3_checkIndex_8e157 4 = .ok (.iload_n 0, 1) := by decide +kernel
theorem dJ3_checkIndex_8e157_5 : decode cJ3_checkIndex_8e157 5 = .ok (.iload_n 1, 1) := by decide +kernel
theorem dJ3_checkIndex_8e157_6 : decode cJ3_checkIndex_8e157 6 = .ok (.if_icmp .lt 10, 3) := by decide +kernel
theorem dJ3_checkIndex_8e157_9 : decode cJ3_checkIndex_8e157 9 = .ok (.aload_n 2, 1) := by decide +kernel
theorem dJ3_checkIndex_8e157_10 : decode cJ3_checkIndex_8e157 10 = .ok (.iload_n 0, 1) := by decide +kernel
theorem dJ3_checkIndex_8e157_11 : decode cJ3_checkIndex_8e157 11 = .ok (.iload_n 1, 1) := by decide +kernel
theorem dJ3_checkIndex_8e157_12 : decode cJ3_checkIndex_8e157 12 = .ok (.invokestatic 95, 3) := by decide +kernel
theorem dJ3_checkIndex_8e157_15 : decode cJ3_checkIndex_8e157 15 = .ok (.athrow, 1) := by decide +kernel
theorem dJ3_checkIndex_8e157_16 : decode cJ3_checkIndex_8e157 16 = .ok (.iload_n 0, 1) := by decide +kernel
theorem dJ3_checkIndex_8e157_17 : decode cJ3_checkIndex_8e157 17 = .ok (.ireturn, 1) := by decide +kernel
end
section
def zgw : List Cond := lw_tbl.filter goodWord
theorem zgw_at (i : Nat) {w : Cond} (h : lw_tbl[i]? = some w) (g : goodWord w = true) : w ∈ zgw := List.mem_filter.mpr ⟨List.mem_of_getElem? h, g⟩
theorem zgw_good : ∀ w ∈ zgw, goodWord w = true := fun _ h => (List.mem_filter.mp h).2
theorem zw_0 : (Jvm.Cond.selects "FreightSplits" (⟨"FreightSplits", "changed", "(I)I"⟩ : Jvm.MethodName) (⟨"FreightSplits", "changed", "(I)I"⟩ : Jvm.MethodName)) ∈ zgw := zgw_at 0 (by decide +kernel) (by decide +kernel)
theorem zw_1 : (Jvm.Cond.selects "FreightSplits" (⟨"FreightSplits", "placeOf", "(LFreightSplits$Vehicle;)I"⟩ : Jvm.MethodName) (⟨"FreightSplits", "placeOf", "(LFreightSplits$Vehicle;)I"⟩ : Jvm.MethodName)) ∈ zgw := zgw_at 1 (by decide +kernel) (by decide +kernel)
theorem zw_2 : (Jvm.Cond.selects "FreightSplits" (⟨"FreightSplits", "settingCount", "(I)I"⟩ : Jvm.MethodName) (⟨"FreightSplits", "settingCount", "(I)I"⟩ : Jvm.MethodName)) ∈ zgw := zgw_at 2 (by decide +kernel) (by decide +kernel)
theorem zw_3 : (Jvm.Cond.selects "FreightSplits" (⟨"FreightSplits", "tryText", "()I"⟩ : Jvm.MethodName) (⟨"FreightSplits", "tryText", "()I"⟩ : Jvm.MethodName)) ∈ zgw := zgw_at 3 (by decide +kernel) (by decide +kernel)
theorem zw_4 : (Jvm.Cond.selects "FreightSplits" (⟨"FreightSplits", "perform", "()I"⟩ : Jvm.MethodName) (⟨"FreightSplits", "perform", "()I"⟩ : Jvm.MethodName)) ∈ zgw := zgw_at 4 (by decide +kernel) (by decide +kernel)
theorem zw_5 : (Jvm.Cond.selects "FreightSplitsModel" (⟨"FreightSplitsModel", "changes", "()V"⟩ : Jvm.MethodName) (⟨"FreightSplitsModel", "changes", "()V"⟩ : Jvm.MethodName)) ∈ zgw := zgw_at 5 (by decide +kernel) (by decide +kernel)
theorem zw_6 : (Jvm.Cond.selects "FreightSplitsModel" (⟨"FreightSplitsModel", "makes", "(IIIIII)I"⟩ : Jvm.MethodName) (⟨"FreightSplitsModel", "makes", "(IIIIII)I"⟩ : Jvm.MethodName)) ∈ zgw := zgw_at 6 (by decide +kernel) (by decide +kernel)
theorem zw_7 : (Jvm.Cond.selects "FreightSplitsModel" (⟨"FreightSplitsModel", "puts", "(III)V"⟩ : Jvm.MethodName) (⟨"FreightSplitsModel", "puts", "(III)V"⟩ : Jvm.MethodName)) ∈ zgw := zgw_at 7 (by decide +kernel) (by decide +kernel)
theorem zw_8 : (Jvm.Cond.selects "FreightSplitsModel" (⟨"FreightSplitsModel", "isGoods", "(I)Z"⟩ : Jvm.MethodName) (⟨"FreightSplitsModel", "isGoods", "(I)Z"⟩ : Jvm.MethodName)) ∈ zgw := zgw_at 8 (by decide +kernel) (by decide +kernel)
theorem zw_9 : (Jvm.Cond.selects "FreightSplitsModel" (⟨"FreightSplitsModel", "of", "(II)I"⟩ : Jvm.MethodName) (⟨"FreightSplitsModel", "of", "(II)I"⟩ : Jvm.MethodName)) ∈ zgw := zgw_at 9 (by decide +kernel) (by decide +kernel)
theorem zw_10 : (Jvm.Cond.selects "FreightSplitsModel" (⟨"FreightSplitsModel", "putsVehicle", "(III)V"⟩ : Jvm.MethodName) (⟨"FreightSplitsModel", "putsVehicle", "(III)V"⟩ : Jvm.MethodName)) ∈ zgw := zgw_at 10 (by decide +kernel) (by decide +kernel)
theorem zw_11 : (Jvm.Cond.selects "FreightSplitsModel" (⟨"FreightSplitsModel", "isVehicle", "(I)Z"⟩ : Jvm.MethodName) (⟨"FreightSplitsModel", "isVehicle", "(I)Z"⟩ : Jvm.MethodName)) ∈ zgw := zgw_at 11 (by decide +kernel) (by decide +kernel)
theorem zw_12 : (Jvm.Cond.selects "FreightSplitsModel" (⟨"FreightSplitsModel", "canLoad", "(II)Z"⟩ : Jvm.MethodName) (⟨"FreightSplitsModel", "canLoad", "(II)Z"⟩ : Jvm.MethodName)) ∈ zgw := zgw_at 12 (by decide +kernel) (by decide +kernel)
theorem zw_13 : (Jvm.Cond.selects "FreightSplitsModel" (⟨"FreightSplitsModel", "ofVehicle", "(II)I"⟩ : Jvm.MethodName) (⟨"FreightSplitsModel", "ofVehicle", "(II)I"⟩ : Jvm.MethodName)) ∈ zgw := zgw_at 13 (by decide +kernel) (by decide +kernel)
theorem zw_14 : (Jvm.Cond.selects "FreightSplitsModel" (⟨"FreightSplitsModel", "goal", "(I)I"⟩ : Jvm.MethodName) (⟨"FreightSplitsModel", "goal", "(I)I"⟩ : Jvm.MethodName)) ∈ zgw := zgw_at 14 (by decide +kernel) (by decide +kernel)
theorem zw_15 : (Jvm.Cond.selects "FreightSplitsModel" (⟨"FreightSplitsModel", "isIn", "(II)Z"⟩ : Jvm.MethodName) (⟨"FreightSplitsModel", "isIn", "(II)Z"⟩ : Jvm.MethodName)) ∈ zgw := zgw_at 15 (by decide +kernel) (by decide +kernel)
theorem zw_16 : (Jvm.Cond.selects "FreightSplitsModel" (⟨"FreightSplitsModel", "loaded", "(II)I"⟩ : Jvm.MethodName) (⟨"FreightSplitsModel", "loaded", "(II)I"⟩ : Jvm.MethodName)) ∈ zgw := zgw_at 16 (by decide +kernel) (by decide +kernel)
theorem zw_17 : (Jvm.Cond.selects "FreightSplitsModel" (⟨"FreightSplitsModel", "loads", "(II)V"⟩ : Jvm.MethodName) (⟨"FreightSplitsModel", "loads", "(II)V"⟩ : Jvm.MethodName)) ∈ zgw := zgw_at 17 (by decide +kernel) (by decide +kernel)
theorem zw_18 : (Jvm.Cond.selects "FreightSplitsModel" (⟨"FreightSplitsModel", "fills", "(III)I"⟩ : Jvm.MethodName) (⟨"FreightSplitsModel", "fills", "(III)I"⟩ : Jvm.MethodName)) ∈ zgw := zgw_at 18 (by decide +kernel) (by decide +kernel)
theorem zw_19 : (Jvm.Cond.selects "FreightSplitsModel" (⟨"FreightSplitsModel", "isAhead", "(III)Z"⟩ : Jvm.MethodName) (⟨"FreightSplitsModel", "isAhead", "(III)Z"⟩ : Jvm.MethodName)) ∈ zgw := zgw_at 19 (by decide +kernel) (by decide +kernel)
theorem zw_20 : (Jvm.Cond.selects "FreightSplitsModel" (⟨"FreightSplitsModel", "loadSet", "(I)I"⟩ : Jvm.MethodName) (⟨"FreightSplitsModel", "loadSet", "(I)I"⟩ : Jvm.MethodName)) ∈ zgw := zgw_at 20 (by decide +kernel) (by decide +kernel)
theorem zw_21 : (Jvm.Cond.selects "FreightSplitsModel" (⟨"FreightSplitsModel", "hour", "()I"⟩ : Jvm.MethodName) (⟨"FreightSplitsModel", "hour", "()I"⟩ : Jvm.MethodName)) ∈ zgw := zgw_at 21 (by decide +kernel) (by decide +kernel)
theorem zw_22 : (Jvm.Cond.selects "FreightSplitsModel" (⟨"FreightSplitsModel", "arrives", "(I)I"⟩ : Jvm.MethodName) (⟨"FreightSplitsModel", "arrives", "(I)I"⟩ : Jvm.MethodName)) ∈ zgw := zgw_at 22 (by decide +kernel) (by decide +kernel)
theorem zw_23 : (Jvm.Cond.selects "FreightSplitsModel" (⟨"FreightSplitsModel", "takes", "(III)I"⟩ : Jvm.MethodName) (⟨"FreightSplitsModel", "takes", "(III)I"⟩ : Jvm.MethodName)) ∈ zgw := zgw_at 23 (by decide +kernel) (by decide +kernel)
theorem zw_24 : (Jvm.Cond.selects "FreightSplitsModel" (⟨"FreightSplitsModel", "ofOffer", "(II)I"⟩ : Jvm.MethodName) (⟨"FreightSplitsModel", "ofOffer", "(II)I"⟩ : Jvm.MethodName)) ∈ zgw := zgw_at 24 (by decide +kernel) (by decide +kernel)
theorem zw_25 : (Jvm.Cond.selects "FreightSplitsModel" (⟨"FreightSplitsModel", "dropsOffer", "(I)V"⟩ : Jvm.MethodName) (⟨"FreightSplitsModel", "dropsOffer", "(I)V"⟩ : Jvm.MethodName)) ∈ zgw := zgw_at 25 (by decide +kernel) (by decide +kernel)
theorem zw_26 : (Jvm.Cond.selects "FreightSplitsModel" (⟨"FreightSplitsModel", "returns", "(I)V"⟩ : Jvm.MethodName) (⟨"FreightSplitsModel", "returns", "(I)V"⟩ : Jvm.MethodName)) ∈ zgw := zgw_at 26 (by decide +kernel) (by decide +kernel)
theorem zw_27 : (Jvm.Cond.selects "FreightSplitsModel" (⟨"FreightSplitsModel", "isHere", "(I)Z"⟩ : Jvm.MethodName) (⟨"FreightSplitsModel", "isHere", "(I)Z"⟩ : Jvm.MethodName)) ∈ zgw := zgw_at 27 (by decide +kernel) (by decide +kernel)
theorem zw_28 : (Jvm.Cond.selects "FreightSplitsModel" (⟨"FreightSplitsModel", "parts", "(I)I"⟩ : Jvm.MethodName) (⟨"FreightSplitsModel", "parts", "(I)I"⟩ : Jvm.MethodName)) ∈ zgw := zgw_at 28 (by decide +kernel) (by decide +kernel)
theorem zw_29 : (Jvm.Cond.selects "FreightSplitsModel" (⟨"FreightSplitsModel", "here", "()I"⟩ : Jvm.MethodName) (⟨"FreightSplitsModel", "here", "()I"⟩ : Jvm.MethodName)) ∈ zgw := zgw_at 29 (by decide +kernel) (by decide +kernel)
theorem zw_30 : (Jvm.Cond.selects "FreightSplitsModel" (⟨"FreightSplitsModel", "plays", "()I"⟩ : Jvm.MethodName) (⟨"FreightSplitsModel", "plays", "()I"⟩ : Jvm.MethodName)) ∈ zgw := zgw_at 30 (by decide +kernel) (by decide +kernel)
theorem zw_31 : (Jvm.Cond.selects "FreightSplitsModel" (⟨"FreightSplitsModel", "reads", "()I"⟩ : Jvm.MethodName) (⟨"FreightSplitsModel", "reads", "()I"⟩ : Jvm.MethodName)) ∈ zgw := zgw_at 31 (by decide +kernel) (by decide +kernel)
theorem zw_32 : (Jvm.Cond.selects "FreightSplitsModel" (⟨"FreightSplitsModel", "word", "()I"⟩ : Jvm.MethodName) (⟨"FreightSplitsModel", "word", "()I"⟩ : Jvm.MethodName)) ∈ zgw := zgw_at 32 (by decide +kernel) (by decide +kernel)
theorem zw_33 : (Jvm.Cond.selects "FreightSplitsModel" (⟨"FreightSplitsModel", "isAt", "(II)Z"⟩ : Jvm.MethodName) (⟨"FreightSplitsModel", "isAt", "(II)Z"⟩ : Jvm.MethodName)) ∈ zgw := zgw_at 33 (by decide +kernel) (by decide +kernel)
theorem zw_34 : (Jvm.Cond.selects "FreightSplitsModel" (⟨"FreightSplitsModel", "passes", "(I)Z"⟩ : Jvm.MethodName) (⟨"FreightSplitsModel", "passes", "(I)Z"⟩ : Jvm.MethodName)) ∈ zgw := zgw_at 34 (by decide +kernel) (by decide +kernel)
theorem zw_35 : (Jvm.Cond.selects "FreightSplitsModel" (⟨"FreightSplitsModel", "number", "(I)Z"⟩ : Jvm.MethodName) (⟨"FreightSplitsModel", "number", "(I)Z"⟩ : Jvm.MethodName)) ∈ zgw := zgw_at 35 (by decide +kernel) (by decide +kernel)
theorem zw_36 : (Jvm.Cond.selects "FreightSplitsModel" (⟨"FreightSplitsModel", "calls", "(I)I"⟩ : Jvm.MethodName) (⟨"FreightSplitsModel", "calls", "(I)I"⟩ : Jvm.MethodName)) ∈ zgw := zgw_at 36 (by decide +kernel) (by decide +kernel)
theorem zw_37 : (Jvm.Cond.initialized "FreightSplitsLaw") ∈ zgw := zgw_at 37 (by decide +kernel) (by decide +kernel)
theorem zw_38 : (Jvm.Cond.initialized "FreightSplits") ∈ zgw := zgw_at 38 (by decide +kernel) (by decide +kernel)
theorem zw_39 : (Jvm.Cond.initialized "FreightSplits$Hall") ∈ zgw := zgw_at 39 (by decide +kernel) (by decide +kernel)
theorem zw_40 : (Jvm.Cond.initialized "FreightSplits$Consignment") ∈ zgw := zgw_at 40 (by decide +kernel) (by decide +kernel)
theorem zw_41 : (Jvm.Cond.initialized "FreightSplits$Vehicle") ∈ zgw := zgw_at 41 (by decide +kernel) (by decide +kernel)
theorem zw_42 : (Jvm.Cond.initialized "FreightSplits$Offer") ∈ zgw := zgw_at 42 (by decide +kernel) (by decide +kernel)
theorem zw_43 : (Jvm.Cond.initialized "FreightSplits$History") ∈ zgw := zgw_at 43 (by decide +kernel) (by decide +kernel)
theorem zw_44 : (Jvm.Cond.initialized "FreightSplits$Script") ∈ zgw := zgw_at 44 (by decide +kernel) (by decide +kernel)
theorem zw_45 : (Jvm.Cond.initialized "FreightSplitsModel") ∈ zgw := zgw_at 45 (by decide +kernel) (by decide +kernel)
theorem zw_46 : (Jvm.Cond.initialized "java/lang/System") ∈ zgw := zgw_at 46 (by decide +kernel) (by decide +kernel)
theorem zw_47 : (Jvm.Cond.initialized "java/lang/Math") ∈ zgw := zgw_at 47 (by decide +kernel) (by decide +kernel)
theorem zw_48 : (Jvm.Cond.initialized "java/lang/Integer") ∈ zgw := zgw_at 48 (by decide +kernel) (by decide +kernel)
theorem zw_49 : (Jvm.Cond.initialized "java/lang/String") ∈ zgw := zgw_at 49 (by decide +kernel) (by decide +kernel)
theorem zw_50 : (Jvm.Cond.initialized "java/lang/StringLatin1") ∈ zgw := zgw_at 50 (by decide +kernel) (by decide +kernel)
theorem zw_51 : (Jvm.Cond.initialized "jdk/internal/util/Preconditions") ∈ zgw := zgw_at 51 (by decide +kernel) (by decide +kernel)
theorem zw_52 : (Jvm.Cond.initialized "java/lang/StringUTF16") ∈ zgw := zgw_at 52 (by decide +kernel) (by decide +kernel)
theorem zw_53 : (Jvm.Cond.classLink "FreightSplitsLaw" (7 : Nat) "FreightSplits") ∈ zgw := zgw_at 53 (by decide +kernel) (by decide +kernel)
theorem zw_54 : (Jvm.Cond.instantiable "FreightSplits" (6 : Nat)) ∈ zgw := zgw_at 54 (by decide +kernel) (by decide +kernel)
theorem zw_55 : (Jvm.Cond.methodLink "FreightSplitsLaw" (9 : Nat) ({ cls := "FreightSplits", name := "<init>", desc := "()V" } : Jvm.MethodName)) ∈ zgw := zgw_at 55 (by decide +kernel) (by decide +kernel)
theorem zw_56 : (Jvm.Cond.instanceMethod ({ cls := "FreightSplits", name := "<init>", desc := "()V" } : Jvm.MethodName)) ∈ zgw := zgw_at 56 (by decide +kernel) (by decide +kernel)
theorem zw_57 : (Jvm.Cond.code ({ cls := "FreightSplits", name := "<init>", desc := "()V" } : Jvm.MethodName) prog_1_method_1_code (1 : Nat) (Option.none : Option Jvm.ClassFile.FieldType)) ∈ zgw := zgw_at 57 (by decide +kernel) (by decide +kernel)
theorem zw_58 : (Jvm.Cond.methodLink "FreightSplits" (1 : Nat) ({ cls := "java/lang/Object", name := "<init>", desc := "()V" } : Jvm.MethodName)) ∈ zgw := zgw_at 58 (by decide +kernel) (by decide +kernel)
theorem zw_59 : (Jvm.Cond.instanceMethod ({ cls := "java/lang/Object", name := "<init>", desc := "()V" } : Jvm.MethodName)) ∈ zgw := zgw_at 59 (by decide +kernel) (by decide +kernel)
theorem zw_60 : (Jvm.Cond.code ({ cls := "java/lang/Object", name := "<init>", desc := "()V" } : Jvm.MethodName) object_method_1_code (1 : Nat) (Option.none : Option Jvm.ClassFile.FieldType)) ∈ zgw := zgw_at 60 (by decide +kernel) (by decide +kernel)
theorem zw_61 : (Jvm.Cond.classLink "FreightSplits" (7 : Nat) "FreightSplits$Hall") ∈ zgw := zgw_at 61 (by decide +kernel) (by decide +kernel)
theorem zw_62 : (Jvm.Cond.instantiable "FreightSplits$Hall" (12 : Nat)) ∈ zgw := zgw_at 62 (by decide +kernel) (by decide +kernel)
theorem zw_63 : (Jvm.Cond.methodLink "FreightSplits" (9 : Nat) ({ cls := "FreightSplits$Hall", name := "<init>", desc := "()V" } : Jvm.MethodName)) ∈ zgw := zgw_at 63 (by decide +kernel) (by decide +kernel)
theorem zw_64 : (Jvm.Cond.instanceMethod ({ cls := "FreightSplits$Hall", name := "<init>", desc := "()V" } : Jvm.MethodName)) ∈ zgw := zgw_at 64 (by decide +kernel) (by decide +kernel)
theorem zw_65 : (Jvm.Cond.code ({ cls := "FreightSplits$Hall", name := "<init>", desc := "()V" } : Jvm.MethodName) prog_3_method_1_code (2 : Nat) (Option.none : Option Jvm.ClassFile.FieldType)) ∈ zgw := zgw_at 65 (by decide +kernel) (by decide +kernel)
theorem zw_66 : (Jvm.Cond.methodLink "FreightSplits$Hall" (3 : Nat) ({ cls := "java/lang/Object", name := "<init>", desc := "()V" } : Jvm.MethodName)) ∈ zgw := zgw_at 66 (by decide +kernel) (by decide +kernel)
theorem zw_67 : (Jvm.Cond.classLink "FreightSplits$Hall" (9 : Nat) "FreightSplits$Consignment") ∈ zgw := zgw_at 67 (by decide +kernel) (by decide +kernel)
theorem zw_69 : (Jvm.Cond.classLink "FreightSplits$Hall" (17 : Nat) "FreightSplits$Vehicle") ∈ zgw := zgw_at 69 (by decide +kernel) (by decide +kernel)
theorem zw_71 : (Jvm.Cond.classLink "FreightSplits$Hall" (23 : Nat) "FreightSplits$Offer") ∈ zgw := zgw_at 71 (by decide +kernel) (by decide +kernel)
theorem zw_73 : (Jvm.Cond.instantiable "FreightSplits$Consignment" (13 : Nat)) ∈ zgw := zgw_at 73 (by decide +kernel) (by decide +kernel)
theorem zw_74 : (Jvm.Cond.methodLink "FreightSplits$Hall" (33 : Nat) ({ cls := "FreightSplits$Consignment", name := "<init>", desc := "(I)V" } : Jvm.MethodName)) ∈ zgw := zgw_at 74 (by decide +kernel) (by decide +kernel)
theorem zw_75 : (Jvm.Cond.instanceMethod ({ cls := "FreightSplits$Consignment", name := "<init>", desc := "(I)V" } : Jvm.MethodName)) ∈ zgw := zgw_at 75 (by decide +kernel) (by decide +kernel)
theorem zw_76 : (Jvm.Cond.code ({ cls := "FreightSplits$Consignment", name := "<init>", desc := "(I)V" } : Jvm.MethodName) prog_2_method_1_code (2 : Nat) (Option.none : Option Jvm.ClassFile.FieldType)) ∈ zgw := zgw_at 76 (by decide +kernel) (by decide +kernel)
theorem zw_77 : (Jvm.Cond.methodLink "FreightSplits$Consignment" (3 : Nat) ({ cls := "java/lang/Object", name := "<init>", desc := "()V" } : Jvm.MethodName)) ∈ zgw := zgw_at 77 (by decide +kernel) (by decide +kernel)
theorem zw_78 : (Jvm.Cond.fieldLink "FreightSplits$Consignment" (9 : Nat) "FreightSplits$Consignment" "number" "I") ∈ zgw := zgw_at 78 (by decide +kernel) (by decide +kernel)
theorem zw_79 : (Jvm.Cond.fieldLink "FreightSplits$Hall" (104 : Nat) "FreightSplits$Consignment" "number" "I") ∈ zgw := zgw_at 79 (by decide +kernel) (by decide +kernel)
theorem zw_80 : (Jvm.Cond.fieldLink "FreightSplits$Consignment" (31 : Nat) "FreightSplits$Consignment" "place" "I") ∈ zgw := zgw_at 80 (by decide +kernel) (by decide +kernel)
theorem zw_81 : (Jvm.Cond.fieldLink "FreightSplits$Hall" (83 : Nat) "FreightSplits$Consignment" "place" "I") ∈ zgw := zgw_at 81 (by decide +kernel) (by decide +kernel)
theorem zw_82 : (Jvm.Cond.fieldLink "FreightSplits" (92 : Nat) "FreightSplits$Consignment" "place" "I") ∈ zgw := zgw_at 82 (by decide +kernel) (by decide +kernel)
theorem zw_83 : (Jvm.Cond.fieldLink "FreightSplits$Consignment" (34 : Nat) "FreightSplits$Consignment" "size" "I") ∈ zgw := zgw_at 83 (by decide +kernel) (by decide +kernel)
theorem zw_84 : (Jvm.Cond.fieldLink "FreightSplits$Hall" (86 : Nat) "FreightSplits$Consignment" "size" "I") ∈ zgw := zgw_at 84 (by decide +kernel) (by decide +kernel)
theorem zw_85 : (Jvm.Cond.fieldLink "FreightSplits" (98 : Nat) "FreightSplits$Consignment" "size" "I") ∈ zgw := zgw_at 85 (by decide +kernel) (by decide +kernel)
theorem zw_86 : (Jvm.Cond.fieldLink "FreightSplits$Consignment" (37 : Nat) "FreightSplits$Consignment" "weight" "I") ∈ zgw := zgw_at 86 (by decide +kernel) (by decide +kernel)
theorem zw_87 : (Jvm.Cond.fieldLink "FreightSplits$Hall" (89 : Nat) "FreightSplits$Consignment" "weight" "I") ∈ zgw := zgw_at 87 (by decide +kernel) (by decide +kernel)
theorem zw_88 : (Jvm.Cond.fieldLink "FreightSplits" (101 : Nat) "FreightSplits$Consignment" "weight" "I") ∈ zgw := zgw_at 88 (by decide +kernel) (by decide +kernel)
theorem zw_89 : (Jvm.Cond.fieldLink "FreightSplits$Consignment" (40 : Nat) "FreightSplits$Consignment" "from" "I") ∈ zgw := zgw_at 89 (by decide +kernel) (by decide +kernel)
theorem zw_90 : (Jvm.Cond.fieldLink "FreightSplits$Hall" (92 : Nat) "FreightSplits$Consignment" "from" "I") ∈ zgw := zgw_at 90 (by decide +kernel) (by decide +kernel)
theorem zw_91 : (Jvm.Cond.fieldLink "FreightSplits" (104 : Nat) "FreightSplits$Consignment" "from" "I") ∈ zgw := zgw_at 91 (by decide +kernel) (by decide +kernel)
theorem zw_92 : (Jvm.Cond.fieldLink "FreightSplits$Consignment" (43 : Nat) "FreightSplits$Consignment" "to" "I") ∈ zgw := zgw_at 92 (by decide +kernel) (by decide +kernel)
theorem zw_93 : (Jvm.Cond.fieldLink "FreightSplits$Hall" (95 : Nat) "FreightSplits$Consignment" "to" "I") ∈ zgw := zgw_at 93 (by decide +kernel) (by decide +kernel)
theorem zw_94 : (Jvm.Cond.fieldLink "FreightSplits" (107 : Nat) "FreightSplits$Consignment" "to" "I") ∈ zgw := zgw_at 94 (by decide +kernel) (by decide +kernel)
theorem zw_95 : (Jvm.Cond.fieldLink "FreightSplits$Consignment" (46 : Nat) "FreightSplits$Consignment" "worth" "I") ∈ zgw := zgw_at 95 (by decide +kernel) (by decide +kernel)
theorem zw_96 : (Jvm.Cond.fieldLink "FreightSplits$Hall" (98 : Nat) "FreightSplits$Consignment" "worth" "I") ∈ zgw := zgw_at 96 (by decide +kernel) (by decide +kernel)
theorem zw_97 : (Jvm.Cond.fieldLink "FreightSplits" (110 : Nat) "FreightSplits$Consignment" "worth" "I") ∈ zgw := zgw_at 97 (by decide +kernel) (by decide +kernel)
theorem zw_98 : (Jvm.Cond.fieldLink "FreightSplits$Consignment" (19 : Nat) "FreightSplits$Consignment" "state" "I") ∈ zgw := zgw_at 98 (by decide +kernel) (by decide +kernel)
theorem zw_99 : (Jvm.Cond.fieldLink "FreightSplits$Hall" (79 : Nat) "FreightSplits$Consignment" "state" "I") ∈ zgw := zgw_at 99 (by decide +kernel) (by decide +kernel)
theorem zw_100 : (Jvm.Cond.fieldLink "FreightSplits" (113 : Nat) "FreightSplits$Consignment" "state" "I") ∈ zgw := zgw_at 100 (by decide +kernel) (by decide +kernel)
theorem zw_101 : (Jvm.Cond.fieldLink "FreightSplits$Consignment" (49 : Nat) "FreightSplits$Consignment" "since" "I") ∈ zgw := zgw_at 101 (by decide +kernel) (by decide +kernel)
theorem zw_102 : (Jvm.Cond.fieldLink "FreightSplits$Hall" (101 : Nat) "FreightSplits$Consignment" "since" "I") ∈ zgw := zgw_at 102 (by decide +kernel) (by decide +kernel)
theorem zw_103 : (Jvm.Cond.fieldLink "FreightSplits" (139 : Nat) "FreightSplits$Consignment" "since" "I") ∈ zgw := zgw_at 103 (by decide +kernel) (by decide +kernel)
theorem zw_104 : (Jvm.Cond.fieldLink "FreightSplits$Consignment" (52 : Nat) "FreightSplits$Consignment" "whole" "I") ∈ zgw := zgw_at 104 (by decide +kernel) (by decide +kernel)
theorem zw_105 : (Jvm.Cond.fieldLink "FreightSplits$Hall" (107 : Nat) "FreightSplits$Consignment" "whole" "I") ∈ zgw := zgw_at 105 (by decide +kernel) (by decide +kernel)
theorem zw_106 : (Jvm.Cond.fieldLink "FreightSplits" (123 : Nat) "FreightSplits$Consignment" "whole" "I") ∈ zgw := zgw_at 106 (by decide +kernel) (by decide +kernel)
theorem zw_107 : (Jvm.Cond.fieldLink "FreightSplits$Consignment" (22 : Nat) "FreightSplits$Consignment" "vehicle" "I") ∈ zgw := zgw_at 107 (by decide +kernel) (by decide +kernel)
theorem zw_108 : (Jvm.Cond.fieldLink "FreightSplits$Hall" (157 : Nat) "FreightSplits$Consignment" "vehicle" "I") ∈ zgw := zgw_at 108 (by decide +kernel) (by decide +kernel)
theorem zw_109 : (Jvm.Cond.fieldLink "FreightSplits" (116 : Nat) "FreightSplits$Consignment" "vehicle" "I") ∈ zgw := zgw_at 109 (by decide +kernel) (by decide +kernel)
theorem zw_110 : (Jvm.Cond.fieldLink "FreightSplits$Consignment" (25 : Nat) "FreightSplits$Consignment" "departed" "I") ∈ zgw := zgw_at 110 (by decide +kernel) (by decide +kernel)
theorem zw_111 : (Jvm.Cond.fieldLink "FreightSplits$Hall" (179 : Nat) "FreightSplits$Consignment" "departed" "I") ∈ zgw := zgw_at 111 (by decide +kernel) (by decide +kernel)
theorem zw_112 : (Jvm.Cond.fieldLink "FreightSplits" (136 : Nat) "FreightSplits$Consignment" "departed" "I") ∈ zgw := zgw_at 112 (by decide +kernel) (by decide +kernel)
theorem zw_113 : (Jvm.Cond.fieldLink "FreightSplits$Consignment" (28 : Nat) "FreightSplits$Consignment" "delivered" "I") ∈ zgw := zgw_at 113 (by decide +kernel) (by decide +kernel)
theorem zw_114 : (Jvm.Cond.fieldLink "FreightSplits" (120 : Nat) "FreightSplits$Consignment" "delivered" "I") ∈ zgw := zgw_at 114 (by decide +kernel) (by decide +kernel)
theorem zw_115 : (Jvm.Cond.fieldLink "FreightSplits$Hall" (224 : Nat) "FreightSplits$Consignment" "delivered" "I") ∈ zgw := zgw_at 115 (by decide +kernel) (by decide +kernel)
theorem zw_116 : (Jvm.Cond.laysFinal "FreightSplits$Consignment" "FreightSplits$Consignment" "number" "I") ∈ zgw := zgw_at 116 (by decide +kernel) (by decide +kernel)
theorem zw_118 : (Jvm.Cond.lays "FreightSplits$Consignment" "FreightSplits$Consignment" "place" "I") ∈ zgw := zgw_at 118 (by decide +kernel) (by decide +kernel)
theorem zw_120 : (Jvm.Cond.lays "FreightSplits$Consignment" "FreightSplits$Consignment" "size" "I") ∈ zgw := zgw_at 120 (by decide +kernel) (by decide +kernel)
theorem zw_122 : (Jvm.Cond.lays "FreightSplits$Consignment" "FreightSplits$Consignment" "weight" "I") ∈ zgw := zgw_at 122 (by decide +kernel) (by decide +kernel)
theorem zw_124 : (Jvm.Cond.lays "FreightSplits$Consignment" "FreightSplits$Consignment" "from" "I") ∈ zgw := zgw_at 124 (by decide +kernel) (by decide +kernel)
theorem zw_126 : (Jvm.Cond.lays "FreightSplits$Consignment" "FreightSplits$Consignment" "to" "I") ∈ zgw := zgw_at 126 (by decide +kernel) (by decide +kernel)
theorem zw_128 : (Jvm.Cond.lays "FreightSplits$Consignment" "FreightSplits$Consignment" "worth" "I") ∈ zgw := zgw_at 128 (by decide +kernel) (by decide +kernel)
theorem zw_130 : (Jvm.Cond.lays "FreightSplits$Consignment" "FreightSplits$Consignment" "state" "I") ∈ zgw := zgw_at 130 (by decide +kernel) (by decide +kernel)
theorem zw_132 : (Jvm.Cond.lays "FreightSplits$Consignment" "FreightSplits$Consignment" "since" "I") ∈ zgw := zgw_at 132 (by decide +kernel) (by decide +kernel)
theorem zw_134 : (Jvm.Cond.lays "FreightSplits$Consignment" "FreightSplits$Consignment" "whole" "I") ∈ zgw := zgw_at 134 (by decide +kernel) (by decide +kernel)
theorem zw_136 : (Jvm.Cond.lays "FreightSplits$Consignment" "FreightSplits$Consignment" "vehicle" "I") ∈ zgw := zgw_at 136 (by decide +kernel) (by decide +kernel)
theorem zw_138 : (Jvm.Cond.lays "FreightSplits$Consignment" "FreightSplits$Consignment" "departed" "I") ∈ zgw := zgw_at 138 (by decide +kernel) (by decide +kernel)
theorem zw_140 : (Jvm.Cond.lays "FreightSplits$Consignment" "FreightSplits$Consignment" "delivered" "I") ∈ zgw := zgw_at 140 (by decide +kernel) (by decide +kernel)
theorem zw_143 : (Jvm.Cond.arrayClass Jvm.ClassFile.FieldType.int) ∈ zgw := zgw_at 143 (by decide +kernel) (by decide +kernel)
theorem zw_144 : (Jvm.Cond.instantiable "FreightSplits$Vehicle" (9 : Nat)) ∈ zgw := zgw_at 144 (by decide +kernel) (by decide +kernel)
theorem zw_145 : (Jvm.Cond.methodLink "FreightSplits$Hall" (36 : Nat) ({ cls := "FreightSplits$Vehicle", name := "<init>", desc := "(I)V" } : Jvm.MethodName)) ∈ zgw := zgw_at 145 (by decide +kernel) (by decide +kernel)
theorem zw_146 : (Jvm.Cond.instanceMethod ({ cls := "FreightSplits$Vehicle", name := "<init>", desc := "(I)V" } : Jvm.MethodName)) ∈ zgw := zgw_at 146 (by decide +kernel) (by decide +kernel)
theorem zw_147 : (Jvm.Cond.code ({ cls := "FreightSplits$Vehicle", name := "<init>", desc := "(I)V" } : Jvm.MethodName) prog_7_method_1_code (2 : Nat) (Option.none : Option Jvm.ClassFile.FieldType)) ∈ zgw := zgw_at 147 (by decide +kernel) (by decide +kernel)
theorem zw_148 : (Jvm.Cond.methodLink "FreightSplits$Vehicle" (1 : Nat) ({ cls := "java/lang/Object", name := "<init>", desc := "()V" } : Jvm.MethodName)) ∈ zgw := zgw_at 148 (by decide +kernel) (by decide +kernel)
theorem zw_149 : (Jvm.Cond.fieldLink "FreightSplits$Vehicle" (7 : Nat) "FreightSplits$Vehicle" "number" "I") ∈ zgw := zgw_at 149 (by decide +kernel) (by decide +kernel)
theorem zw_150 : (Jvm.Cond.fieldLink "FreightSplits$Consignment" (55 : Nat) "FreightSplits$Vehicle" "number" "I") ∈ zgw := zgw_at 150 (by decide +kernel) (by decide +kernel)
theorem zw_151 : (Jvm.Cond.fieldLink "FreightSplits$Hall" (148 : Nat) "FreightSplits$Vehicle" "number" "I") ∈ zgw := zgw_at 151 (by decide +kernel) (by decide +kernel)
theorem zw_152 : (Jvm.Cond.fieldLink "FreightSplits$Vehicle" (13 : Nat) "FreightSplits$Vehicle" "room" "I") ∈ zgw := zgw_at 152 (by decide +kernel) (by decide +kernel)
theorem zw_153 : (Jvm.Cond.fieldLink "FreightSplits$Hall" (135 : Nat) "FreightSplits$Vehicle" "room" "I") ∈ zgw := zgw_at 153 (by decide +kernel) (by decide +kernel)
theorem zw_154 : (Jvm.Cond.fieldLink "FreightSplits" (146 : Nat) "FreightSplits$Vehicle" "room" "I") ∈ zgw := zgw_at 154 (by decide +kernel) (by decide +kernel)
theorem zw_155 : (Jvm.Cond.fieldLink "FreightSplits$Vehicle" (16 : Nat) "FreightSplits$Vehicle" "bound" "I") ∈ zgw := zgw_at 155 (by decide +kernel) (by decide +kernel)
theorem zw_156 : (Jvm.Cond.fieldLink "FreightSplits$Hall" (138 : Nat) "FreightSplits$Vehicle" "bound" "I") ∈ zgw := zgw_at 156 (by decide +kernel) (by decide +kernel)
theorem zw_157 : (Jvm.Cond.fieldLink "FreightSplits" (151 : Nat) "FreightSplits$Vehicle" "bound" "I") ∈ zgw := zgw_at 157 (by decide +kernel) (by decide +kernel)
theorem zw_158 : (Jvm.Cond.fieldLink "FreightSplits$Vehicle" (19 : Nat) "FreightSplits$Vehicle" "state" "I") ∈ zgw := zgw_at 158 (by decide +kernel) (by decide +kernel)
theorem zw_159 : (Jvm.Cond.fieldLink "FreightSplits$Hall" (141 : Nat) "FreightSplits$Vehicle" "state" "I") ∈ zgw := zgw_at 159 (by decide +kernel) (by decide +kernel)
theorem zw_160 : (Jvm.Cond.fieldLink "FreightSplits" (154 : Nat) "FreightSplits$Vehicle" "state" "I") ∈ zgw := zgw_at 160 (by decide +kernel) (by decide +kernel)
theorem zw_161 : (Jvm.Cond.fieldLink "FreightSplits$Vehicle" (22 : Nat) "FreightSplits$Vehicle" "place" "I") ∈ zgw := zgw_at 161 (by decide +kernel) (by decide +kernel)
theorem zw_162 : (Jvm.Cond.fieldLink "FreightSplits$Hall" (182 : Nat) "FreightSplits$Vehicle" "place" "I") ∈ zgw := zgw_at 162 (by decide +kernel) (by decide +kernel)
theorem zw_163 : (Jvm.Cond.fieldLink "FreightSplits" (267 : Nat) "FreightSplits$Vehicle" "place" "I") ∈ zgw := zgw_at 163 (by decide +kernel) (by decide +kernel)
theorem zw_164 : (Jvm.Cond.fieldLink "FreightSplits$Vehicle" (25 : Nat) "FreightSplits$Vehicle" "way" "I") ∈ zgw := zgw_at 164 (by decide +kernel) (by decide +kernel)
theorem zw_165 : (Jvm.Cond.fieldLink "FreightSplits$Hall" (183 : Nat) "FreightSplits$Vehicle" "way" "I") ∈ zgw := zgw_at 165 (by decide +kernel) (by decide +kernel)
theorem zw_166 : (Jvm.Cond.fieldLink "FreightSplits$Vehicle" (28 : Nat) "FreightSplits$Vehicle" "hour" "I") ∈ zgw := zgw_at 166 (by decide +kernel) (by decide +kernel)
theorem zw_167 : (Jvm.Cond.fieldLink "FreightSplits$Hall" (186 : Nat) "FreightSplits$Vehicle" "hour" "I") ∈ zgw := zgw_at 167 (by decide +kernel) (by decide +kernel)
theorem zw_168 : (Jvm.Cond.fieldLink "FreightSplits" (168 : Nat) "FreightSplits$Vehicle" "hour" "I") ∈ zgw := zgw_at 168 (by decide +kernel) (by decide +kernel)
theorem zw_169 : (Jvm.Cond.fieldLink "FreightSplits$Vehicle" (31 : Nat) "FreightSplits$Vehicle" "brings" "I") ∈ zgw := zgw_at 169 (by decide +kernel) (by decide +kernel)
theorem zw_170 : (Jvm.Cond.fieldLink "FreightSplits$Hall" (142 : Nat) "FreightSplits$Vehicle" "brings" "I") ∈ zgw := zgw_at 170 (by decide +kernel) (by decide +kernel)
theorem zw_171 : (Jvm.Cond.fieldLink "FreightSplits" (171 : Nat) "FreightSplits$Vehicle" "brings" "I") ∈ zgw := zgw_at 171 (by decide +kernel) (by decide +kernel)
theorem zw_172 : (Jvm.Cond.fieldLink "FreightSplits$Vehicle" (34 : Nat) "FreightSplits$Vehicle" "trips" "I") ∈ zgw := zgw_at 172 (by decide +kernel) (by decide +kernel)
theorem zw_173 : (Jvm.Cond.fieldLink "FreightSplits$Hall" (145 : Nat) "FreightSplits$Vehicle" "trips" "I") ∈ zgw := zgw_at 173 (by decide +kernel) (by decide +kernel)
theorem zw_174 : (Jvm.Cond.fieldLink "FreightSplits" (174 : Nat) "FreightSplits$Vehicle" "trips" "I") ∈ zgw := zgw_at 174 (by decide +kernel) (by decide +kernel)
theorem zw_175 : (Jvm.Cond.laysFinal "FreightSplits$Vehicle" "FreightSplits$Vehicle" "number" "I") ∈ zgw := zgw_at 175 (by decide +kernel) (by decide +kernel)
theorem zw_177 : (Jvm.Cond.lays "FreightSplits$Vehicle" "FreightSplits$Vehicle" "room" "I") ∈ zgw := zgw_at 177 (by decide +kernel) (by decide +kernel)
theorem zw_179 : (Jvm.Cond.lays "FreightSplits$Vehicle" "FreightSplits$Vehicle" "bound" "I") ∈ zgw := zgw_at 179 (by decide +kernel) (by decide +kernel)
theorem zw_181 : (Jvm.Cond.lays "FreightSplits$Vehicle" "FreightSplits$Vehicle" "state" "I") ∈ zgw := zgw_at 181 (by decide +kernel) (by decide +kernel)
theorem zw_183 : (Jvm.Cond.lays "FreightSplits$Vehicle" "FreightSplits$Vehicle" "place" "I") ∈ zgw := zgw_at 183 (by decide +kernel) (by decide +kernel)
theorem zw_185 : (Jvm.Cond.lays "FreightSplits$Vehicle" "FreightSplits$Vehicle" "way" "I") ∈ zgw := zgw_at 185 (by decide +kernel) (by decide +kernel)
theorem zw_187 : (Jvm.Cond.lays "FreightSplits$Vehicle" "FreightSplits$Vehicle" "hour" "I") ∈ zgw := zgw_at 187 (by decide +kernel) (by decide +kernel)
theorem zw_189 : (Jvm.Cond.lays "FreightSplits$Vehicle" "FreightSplits$Vehicle" "brings" "I") ∈ zgw := zgw_at 189 (by decide +kernel) (by decide +kernel)
theorem zw_191 : (Jvm.Cond.lays "FreightSplits$Vehicle" "FreightSplits$Vehicle" "trips" "I") ∈ zgw := zgw_at 191 (by decide +kernel) (by decide +kernel)
theorem zw_194 : (Jvm.Cond.instantiable "FreightSplits$Offer" (5 : Nat)) ∈ zgw := zgw_at 194 (by decide +kernel) (by decide +kernel)
theorem zw_196 : (Jvm.Cond.instanceMethod ({ cls := "FreightSplits$Offer", name := "<init>", desc := "()V" } : Jvm.MethodName)) ∈ zgw := zgw_at 196 (by decide +kernel) (by decide +kernel)
theorem zw_197 : (Jvm.Cond.code ({ cls := "FreightSplits$Offer", name := "<init>", desc := "()V" } : Jvm.MethodName) prog_5_method_1_code (1 : Nat) (Option.none : Option Jvm.ClassFile.FieldType)) ∈ zgw := zgw_at 197 (by decide +kernel) (by decide +kernel)
theorem zw_198 : (Jvm.Cond.methodLink "FreightSplits$Offer" (1 : Nat) ({ cls := "java/lang/Object", name := "<init>", desc := "()V" } : Jvm.MethodName)) ∈ zgw := zgw_at 198 (by decide +kernel) (by decide +kernel)
theorem zw_199 : (Jvm.Cond.fieldLink "FreightSplits$Offer" (7 : Nat) "FreightSplits$Offer" "place" "I") ∈ zgw := zgw_at 199 (by decide +kernel) (by decide +kernel)
theorem zw_200 : (Jvm.Cond.fieldLink "FreightSplits$Hall" (189 : Nat) "FreightSplits$Offer" "place" "I") ∈ zgw := zgw_at 200 (by decide +kernel) (by decide +kernel)
theorem zw_201 : (Jvm.Cond.fieldLink "FreightSplits" (184 : Nat) "FreightSplits$Offer" "place" "I") ∈ zgw := zgw_at 201 (by decide +kernel) (by decide +kernel)
theorem zw_202 : (Jvm.Cond.fieldLink "FreightSplits$Offer" (13 : Nat) "FreightSplits$Offer" "size" "I") ∈ zgw := zgw_at 202 (by decide +kernel) (by decide +kernel)
theorem zw_203 : (Jvm.Cond.fieldLink "FreightSplits$Hall" (190 : Nat) "FreightSplits$Offer" "size" "I") ∈ zgw := zgw_at 203 (by decide +kernel) (by decide +kernel)
theorem zw_204 : (Jvm.Cond.fieldLink "FreightSplits" (187 : Nat) "FreightSplits$Offer" "size" "I") ∈ zgw := zgw_at 204 (by decide +kernel) (by decide +kernel)
theorem zw_205 : (Jvm.Cond.fieldLink "FreightSplits$Offer" (16 : Nat) "FreightSplits$Offer" "weight" "I") ∈ zgw := zgw_at 205 (by decide +kernel) (by decide +kernel)
theorem zw_206 : (Jvm.Cond.fieldLink "FreightSplits$Hall" (191 : Nat) "FreightSplits$Offer" "weight" "I") ∈ zgw := zgw_at 206 (by decide +kernel) (by decide +kernel)
theorem zw_207 : (Jvm.Cond.fieldLink "FreightSplits" (188 : Nat) "FreightSplits$Offer" "weight" "I") ∈ zgw := zgw_at 207 (by decide +kernel) (by decide +kernel)
theorem zw_208 : (Jvm.Cond.fieldLink "FreightSplits$Offer" (19 : Nat) "FreightSplits$Offer" "price" "I") ∈ zgw := zgw_at 208 (by decide +kernel) (by decide +kernel)
theorem zw_209 : (Jvm.Cond.fieldLink "FreightSplits$Hall" (192 : Nat) "FreightSplits$Offer" "price" "I") ∈ zgw := zgw_at 209 (by decide +kernel) (by decide +kernel)
theorem zw_210 : (Jvm.Cond.fieldLink "FreightSplits" (189 : Nat) "FreightSplits$Offer" "price" "I") ∈ zgw := zgw_at 210 (by decide +kernel) (by decide +kernel)
theorem zw_211 : (Jvm.Cond.fieldLink "FreightSplits$Offer" (22 : Nat) "FreightSplits$Offer" "until" "I") ∈ zgw := zgw_at 211 (by decide +kernel) (by decide +kernel)
theorem zw_212 : (Jvm.Cond.fieldLink "FreightSplits$Hall" (195 : Nat) "FreightSplits$Offer" "until" "I") ∈ zgw := zgw_at 212 (by decide +kernel) (by decide +kernel)
theorem zw_213 : (Jvm.Cond.fieldLink "FreightSplits" (192 : Nat) "FreightSplits$Offer" "until" "I") ∈ zgw := zgw_at 213 (by decide +kernel) (by decide +kernel)
theorem zw_214 : (Jvm.Cond.lays "FreightSplits$Offer" "FreightSplits$Offer" "place" "I") ∈ zgw := zgw_at 214 (by decide +kernel) (by decide +kernel)
theorem zw_216 : (Jvm.Cond.lays "FreightSplits$Offer" "FreightSplits$Offer" "size" "I") ∈ zgw := zgw_at 216 (by decide +kernel) (by decide +kernel)
theorem zw_218 : (Jvm.Cond.lays "FreightSplits$Offer" "FreightSplits$Offer" "weight" "I") ∈ zgw := zgw_at 218 (by decide +kernel) (by decide +kernel)
theorem zw_220 : (Jvm.Cond.lays "FreightSplits$Offer" "FreightSplits$Offer" "price" "I") ∈ zgw := zgw_at 220 (by decide +kernel) (by decide +kernel)
theorem zw_222 : (Jvm.Cond.lays "FreightSplits$Offer" "FreightSplits$Offer" "until" "I") ∈ zgw := zgw_at 222 (by decide +kernel) (by decide +kernel)
theorem zw_225 : (Jvm.Cond.fieldLink "FreightSplits$Hall" (11 : Nat) "FreightSplits$Hall" "consignments" "[LFreightSplits$Consignment;") ∈ zgw := zgw_at 225 (by decide +kernel) (by decide +kernel)
theorem zw_226 : (Jvm.Cond.fieldLink "FreightSplits$Hall" (19 : Nat) "FreightSplits$Hall" "vehicles" "[LFreightSplits$Vehicle;") ∈ zgw := zgw_at 226 (by decide +kernel) (by decide +kernel)
theorem zw_227 : (Jvm.Cond.fieldLink "FreightSplits$Hall" (25 : Nat) "FreightSplits$Hall" "offers" "[LFreightSplits$Offer;") ∈ zgw := zgw_at 227 (by decide +kernel) (by decide +kernel)
theorem zw_228 : (Jvm.Cond.fieldLink "FreightSplits" (180 : Nat) "FreightSplits$Hall" "offers" "[LFreightSplits$Offer;") ∈ zgw := zgw_at 228 (by decide +kernel) (by decide +kernel)
theorem zw_229 : (Jvm.Cond.fieldLink "FreightSplits$Hall" (29 : Nat) "FreightSplits$Hall" "settings" "[I") ∈ zgw := zgw_at 229 (by decide +kernel) (by decide +kernel)
theorem zw_230 : (Jvm.Cond.fieldLink "FreightSplits" (268 : Nat) "FreightSplits$Hall" "settings" "[I") ∈ zgw := zgw_at 230 (by decide +kernel) (by decide +kernel)
theorem zw_231 : (Jvm.Cond.fieldLink "FreightSplits$Hall" (38 : Nat) "FreightSplits$Hall" "made" "I") ∈ zgw := zgw_at 231 (by decide +kernel) (by decide +kernel)
theorem zw_232 : (Jvm.Cond.fieldLink "FreightSplits" (195 : Nat) "FreightSplits$Hall" "made" "I") ∈ zgw := zgw_at 232 (by decide +kernel) (by decide +kernel)
theorem zw_233 : (Jvm.Cond.fieldLink "FreightSplits$Hall" (42 : Nat) "FreightSplits$Hall" "vehicleCount" "I") ∈ zgw := zgw_at 233 (by decide +kernel) (by decide +kernel)
theorem zw_234 : (Jvm.Cond.fieldLink "FreightSplits" (198 : Nat) "FreightSplits$Hall" "vehicleCount" "I") ∈ zgw := zgw_at 234 (by decide +kernel) (by decide +kernel)
theorem zw_235 : (Jvm.Cond.fieldLink "FreightSplits$Hall" (45 : Nat) "FreightSplits$Hall" "offerCount" "I") ∈ zgw := zgw_at 235 (by decide +kernel) (by decide +kernel)
theorem zw_236 : (Jvm.Cond.fieldLink "FreightSplits" (177 : Nat) "FreightSplits$Hall" "offerCount" "I") ∈ zgw := zgw_at 236 (by decide +kernel) (by decide +kernel)
theorem zw_237 : (Jvm.Cond.fieldLink "FreightSplits$Hall" (48 : Nat) "FreightSplits$Hall" "time" "I") ∈ zgw := zgw_at 237 (by decide +kernel) (by decide +kernel)
theorem zw_238 : (Jvm.Cond.fieldLink "FreightSplits" (133 : Nat) "FreightSplits$Hall" "time" "I") ∈ zgw := zgw_at 238 (by decide +kernel) (by decide +kernel)
theorem zw_239 : (Jvm.Cond.fieldLink "FreightSplits$Hall" (51 : Nat) "FreightSplits$Hall" "earned" "I") ∈ zgw := zgw_at 239 (by decide +kernel) (by decide +kernel)
theorem zw_240 : (Jvm.Cond.fieldLink "FreightSplits" (208 : Nat) "FreightSplits$Hall" "earned" "I") ∈ zgw := zgw_at 240 (by decide +kernel) (by decide +kernel)
theorem zw_241 : (Jvm.Cond.fieldLink "FreightSplits$Hall" (54 : Nat) "FreightSplits$Hall" "offersEarned" "I") ∈ zgw := zgw_at 241 (by decide +kernel) (by decide +kernel)
theorem zw_242 : (Jvm.Cond.fieldLink "FreightSplits" (211 : Nat) "FreightSplits$Hall" "offersEarned" "I") ∈ zgw := zgw_at 242 (by decide +kernel) (by decide +kernel)
theorem zw_243 : (Jvm.Cond.fieldLink "FreightSplits$Hall" (57 : Nat) "FreightSplits$Hall" "feesPaid" "I") ∈ zgw := zgw_at 243 (by decide +kernel) (by decide +kernel)
theorem zw_244 : (Jvm.Cond.fieldLink "FreightSplits" (214 : Nat) "FreightSplits$Hall" "feesPaid" "I") ∈ zgw := zgw_at 244 (by decide +kernel) (by decide +kernel)
theorem zw_245 : (Jvm.Cond.fieldLink "FreightSplits$Hall" (60 : Nat) "FreightSplits$Hall" "earlyPaid" "I") ∈ zgw := zgw_at 245 (by decide +kernel) (by decide +kernel)
theorem zw_246 : (Jvm.Cond.fieldLink "FreightSplits" (217 : Nat) "FreightSplits$Hall" "earlyPaid" "I") ∈ zgw := zgw_at 246 (by decide +kernel) (by decide +kernel)
theorem zw_247 : (Jvm.Cond.laysFinal "FreightSplits$Hall" "FreightSplits$Hall" "consignments" "[LFreightSplits$Consignment;") ∈ zgw := zgw_at 247 (by decide +kernel) (by decide +kernel)
theorem zw_249 : (Jvm.Cond.laysFinal "FreightSplits$Hall" "FreightSplits$Hall" "vehicles" "[LFreightSplits$Vehicle;") ∈ zgw := zgw_at 249 (by decide +kernel) (by decide +kernel)
theorem zw_251 : (Jvm.Cond.laysFinal "FreightSplits$Hall" "FreightSplits$Hall" "offers" "[LFreightSplits$Offer;") ∈ zgw := zgw_at 251 (by decide +kernel) (by decide +kernel)
theorem zw_253 : (Jvm.Cond.laysFinal "FreightSplits$Hall" "FreightSplits$Hall" "settings" "[I") ∈ zgw := zgw_at 253 (by decide +kernel) (by decide +kernel)
theorem zw_255 : (Jvm.Cond.lays "FreightSplits$Hall" "FreightSplits$Hall" "made" "I") ∈ zgw := zgw_at 255 (by decide +kernel) (by decide +kernel)
theorem zw_257 : (Jvm.Cond.lays "FreightSplits$Hall" "FreightSplits$Hall" "vehicleCount" "I") ∈ zgw := zgw_at 257 (by decide +kernel) (by decide +kernel)
theorem zw_259 : (Jvm.Cond.lays "FreightSplits$Hall" "FreightSplits$Hall" "offerCount" "I") ∈ zgw := zgw_at 259 (by decide +kernel) (by decide +kernel)
theorem zw_261 : (Jvm.Cond.lays "FreightSplits$Hall" "FreightSplits$Hall" "time" "I") ∈ zgw := zgw_at 261 (by decide +kernel) (by decide +kernel)
theorem zw_263 : (Jvm.Cond.lays "FreightSplits$Hall" "FreightSplits$Hall" "earned" "I") ∈ zgw := zgw_at 263 (by decide +kernel) (by decide +kernel)
theorem zw_265 : (Jvm.Cond.lays "FreightSplits$Hall" "FreightSplits$Hall" "offersEarned" "I") ∈ zgw := zgw_at 265 (by decide +kernel) (by decide +kernel)
theorem zw_267 : (Jvm.Cond.lays "FreightSplits$Hall" "FreightSplits$Hall" "feesPaid" "I") ∈ zgw := zgw_at 267 (by decide +kernel) (by decide +kernel)
theorem zw_269 : (Jvm.Cond.lays "FreightSplits$Hall" "FreightSplits$Hall" "earlyPaid" "I") ∈ zgw := zgw_at 269 (by decide +kernel) (by decide +kernel)
theorem zw_272 : (Jvm.Cond.classLink "FreightSplits" (19 : Nat) "FreightSplits$History") ∈ zgw := zgw_at 272 (by decide +kernel) (by decide +kernel)
theorem zw_273 : (Jvm.Cond.instantiable "FreightSplits$History" (3 : Nat)) ∈ zgw := zgw_at 273 (by decide +kernel) (by decide +kernel)
theorem zw_274 : (Jvm.Cond.methodLink "FreightSplits" (21 : Nat) ({ cls := "FreightSplits$History", name := "<init>", desc := "()V" } : Jvm.MethodName)) ∈ zgw := zgw_at 274 (by decide +kernel) (by decide +kernel)
theorem zw_275 : (Jvm.Cond.instanceMethod ({ cls := "FreightSplits$History", name := "<init>", desc := "()V" } : Jvm.MethodName)) ∈ zgw := zgw_at 275 (by decide +kernel) (by decide +kernel)
theorem zw_276 : (Jvm.Cond.code ({ cls := "FreightSplits$History", name := "<init>", desc := "()V" } : Jvm.MethodName) prog_4_method_1_code (2 : Nat) (Option.none : Option Jvm.ClassFile.FieldType)) ∈ zgw := zgw_at 276 (by decide +kernel) (by decide +kernel)
theorem zw_277 : (Jvm.Cond.methodLink "FreightSplits$History" (3 : Nat) ({ cls := "java/lang/Object", name := "<init>", desc := "()V" } : Jvm.MethodName)) ∈ zgw := zgw_at 277 (by decide +kernel) (by decide +kernel)
theorem zw_278 : (Jvm.Cond.classLink "FreightSplits$History" (9 : Nat) "FreightSplits$Hall") ∈ zgw := zgw_at 278 (by decide +kernel) (by decide +kernel)
theorem zw_280 : (Jvm.Cond.methodLink "FreightSplits$History" (17 : Nat) ({ cls := "FreightSplits$Hall", name := "<init>", desc := "()V" } : Jvm.MethodName)) ∈ zgw := zgw_at 280 (by decide +kernel) (by decide +kernel)
theorem zw_281 : (Jvm.Cond.fieldLink "FreightSplits$History" (11 : Nat) "FreightSplits$History" "states" "[LFreightSplits$Hall;") ∈ zgw := zgw_at 281 (by decide +kernel) (by decide +kernel)
theorem zw_282 : (Jvm.Cond.fieldLink "FreightSplits$History" (18 : Nat) "FreightSplits$History" "oldest" "I") ∈ zgw := zgw_at 282 (by decide +kernel) (by decide +kernel)
theorem zw_283 : (Jvm.Cond.fieldLink "FreightSplits$History" (22 : Nat) "FreightSplits$History" "kept" "I") ∈ zgw := zgw_at 283 (by decide +kernel) (by decide +kernel)
theorem zw_284 : (Jvm.Cond.fieldLink "FreightSplits" (220 : Nat) "FreightSplits$History" "kept" "I") ∈ zgw := zgw_at 284 (by decide +kernel) (by decide +kernel)
theorem zw_285 : (Jvm.Cond.laysFinal "FreightSplits$History" "FreightSplits$History" "states" "[LFreightSplits$Hall;") ∈ zgw := zgw_at 285 (by decide +kernel) (by decide +kernel)
theorem zw_287 : (Jvm.Cond.lays "FreightSplits$History" "FreightSplits$History" "oldest" "I") ∈ zgw := zgw_at 287 (by decide +kernel) (by decide +kernel)
theorem zw_289 : (Jvm.Cond.lays "FreightSplits$History" "FreightSplits$History" "kept" "I") ∈ zgw := zgw_at 289 (by decide +kernel) (by decide +kernel)
theorem zw_292 : (Jvm.Cond.classLink "FreightSplits" (26 : Nat) "FreightSplits$Script") ∈ zgw := zgw_at 292 (by decide +kernel) (by decide +kernel)
theorem zw_293 : (Jvm.Cond.instantiable "FreightSplits$Script" (5 : Nat)) ∈ zgw := zgw_at 293 (by decide +kernel) (by decide +kernel)
theorem zw_295 : (Jvm.Cond.instanceMethod ({ cls := "FreightSplits$Script", name := "<init>", desc := "()V" } : Jvm.MethodName)) ∈ zgw := zgw_at 295 (by decide +kernel) (by decide +kernel)
theorem zw_296 : (Jvm.Cond.code ({ cls := "FreightSplits$Script", name := "<init>", desc := "()V" } : Jvm.MethodName) prog_6_method_1_code (1 : Nat) (Option.none : Option Jvm.ClassFile.FieldType)) ∈ zgw := zgw_at 296 (by decide +kernel) (by decide +kernel)
theorem zw_297 : (Jvm.Cond.methodLink "FreightSplits$Script" (3 : Nat) ({ cls := "java/lang/Object", name := "<init>", desc := "()V" } : Jvm.MethodName)) ∈ zgw := zgw_at 297 (by decide +kernel) (by decide +kernel)
theorem zw_298 : (Jvm.Cond.fieldLink "FreightSplits$Script" (9 : Nat) "FreightSplits$Script" "characters" "[C") ∈ zgw := zgw_at 298 (by decide +kernel) (by decide +kernel)
theorem zw_299 : (Jvm.Cond.fieldLink "FreightSplits$Script" (15 : Nat) "FreightSplits$Script" "numbers" "[I") ∈ zgw := zgw_at 299 (by decide +kernel) (by decide +kernel)
theorem zw_300 : (Jvm.Cond.fieldLink "FreightSplits" (285 : Nat) "FreightSplits$Script" "numbers" "[I") ∈ zgw := zgw_at 300 (by decide +kernel) (by decide +kernel)
theorem zw_301 : (Jvm.Cond.fieldLink "FreightSplits$Script" (19 : Nat) "FreightSplits$Script" "length" "I") ∈ zgw := zgw_at 301 (by decide +kernel) (by decide +kernel)
theorem zw_302 : (Jvm.Cond.fieldLink "FreightSplits" (223 : Nat) "FreightSplits$Script" "length" "I") ∈ zgw := zgw_at 302 (by decide +kernel) (by decide +kernel)
theorem zw_303 : (Jvm.Cond.fieldLink "FreightSplits$Script" (28 : Nat) "FreightSplits$Script" "verb" "I") ∈ zgw := zgw_at 303 (by decide +kernel) (by decide +kernel)
theorem zw_304 : (Jvm.Cond.fieldLink "FreightSplits" (288 : Nat) "FreightSplits$Script" "verb" "I") ∈ zgw := zgw_at 304 (by decide +kernel) (by decide +kernel)
theorem zw_305 : (Jvm.Cond.fieldLink "FreightSplits$Script" (40 : Nat) "FreightSplits$Script" "next" "I") ∈ zgw := zgw_at 305 (by decide +kernel) (by decide +kernel)
theorem zw_306 : (Jvm.Cond.fieldLink "FreightSplits" (282 : Nat) "FreightSplits$Script" "next" "I") ∈ zgw := zgw_at 306 (by decide +kernel) (by decide +kernel)
theorem zw_307 : (Jvm.Cond.laysFinal "FreightSplits$Script" "FreightSplits$Script" "characters" "[C") ∈ zgw := zgw_at 307 (by decide +kernel) (by decide +kernel)
theorem zw_309 : (Jvm.Cond.laysFinal "FreightSplits$Script" "FreightSplits$Script" "numbers" "[I") ∈ zgw := zgw_at 309 (by decide +kernel) (by decide +kernel)
theorem zw_311 : (Jvm.Cond.lays "FreightSplits$Script" "FreightSplits$Script" "length" "I") ∈ zgw := zgw_at 311 (by decide +kernel) (by decide +kernel)
theorem zw_313 : (Jvm.Cond.lays "FreightSplits$Script" "FreightSplits$Script" "verb" "I") ∈ zgw := zgw_at 313 (by decide +kernel) (by decide +kernel)
theorem zw_315 : (Jvm.Cond.lays "FreightSplits$Script" "FreightSplits$Script" "next" "I") ∈ zgw := zgw_at 315 (by decide +kernel) (by decide +kernel)
theorem zw_318 : (Jvm.Cond.arrayClass Jvm.ClassFile.FieldType.char) ∈ zgw := zgw_at 318 (by decide +kernel) (by decide +kernel)
theorem zw_319 : (Jvm.Cond.fieldLink "FreightSplits" (10 : Nat) "FreightSplits" "hall" "LFreightSplits$Hall;") ∈ zgw := zgw_at 319 (by decide +kernel) (by decide +kernel)
theorem zw_320 : (Jvm.Cond.fieldLink "FreightSplits" (16 : Nat) "FreightSplits" "trial" "LFreightSplits$Hall;") ∈ zgw := zgw_at 320 (by decide +kernel) (by decide +kernel)
theorem zw_321 : (Jvm.Cond.fieldLink "FreightSplits" (22 : Nat) "FreightSplits" "history" "LFreightSplits$History;") ∈ zgw := zgw_at 321 (by decide +kernel) (by decide +kernel)
theorem zw_322 : (Jvm.Cond.fieldLink "FreightSplits" (29 : Nat) "FreightSplits" "script" "LFreightSplits$Script;") ∈ zgw := zgw_at 322 (by decide +kernel) (by decide +kernel)
theorem zw_323 : (Jvm.Cond.fieldLink "FreightSplits" (257 : Nat) "FreightSplits" "faultPosition" "I") ∈ zgw := zgw_at 323 (by decide +kernel) (by decide +kernel)
theorem zw_324 : (Jvm.Cond.fieldLink "FreightSplits" (254 : Nat) "FreightSplits" "faultReason" "I") ∈ zgw := zgw_at 324 (by decide +kernel) (by decide +kernel)
theorem zw_325 : (Jvm.Cond.laysFinal "FreightSplits" "FreightSplits" "hall" "LFreightSplits$Hall;") ∈ zgw := zgw_at 325 (by decide +kernel) (by decide +kernel)
theorem zw_327 : (Jvm.Cond.laysFinal "FreightSplits" "FreightSplits" "trial" "LFreightSplits$Hall;") ∈ zgw := zgw_at 327 (by decide +kernel) (by decide +kernel)
theorem zw_329 : (Jvm.Cond.laysFinal "FreightSplits" "FreightSplits" "history" "LFreightSplits$History;") ∈ zgw := zgw_at 329 (by decide +kernel) (by decide +kernel)
theorem zw_331 : (Jvm.Cond.laysFinal "FreightSplits" "FreightSplits" "script" "LFreightSplits$Script;") ∈ zgw := zgw_at 331 (by decide +kernel) (by decide +kernel)
theorem zw_333 : (Jvm.Cond.lays "FreightSplits" "FreightSplits" "faultPosition" "I") ∈ zgw := zgw_at 333 (by decide +kernel) (by decide +kernel)
theorem zw_335 : (Jvm.Cond.lays "FreightSplits" "FreightSplits" "faultReason" "I") ∈ zgw := zgw_at 335 (by decide +kernel) (by decide +kernel)
theorem zw_338 : (Jvm.Cond.methodLink "FreightSplitsLaw" (13 : Nat) ({ cls := "FreightSplits", name := "consign", desc := "(IIIIII)I" } : Jvm.MethodName)) ∈ zgw := zgw_at 338 (by decide +kernel) (by decide +kernel)
theorem zw_339 : (Jvm.Cond.instanceMethod ({ cls := "FreightSplits", name := "consign", desc := "(IIIIII)I" } : Jvm.MethodName)) ∈ zgw := zgw_at 339 (by decide +kernel) (by decide +kernel)
theorem zw_340 : (Jvm.Cond.selects "FreightSplits" ({ cls := "FreightSplits", name := "consign", desc := "(IIIIII)I" } : Jvm.MethodName) ({ cls := "FreightSplits", name := "consign", desc := "(IIIIII)I" } : Jvm.MethodName)) ∈ zgw := zgw_at 340 (by decide +kernel) (by decide +kernel)
theorem zw_341 : (Jvm.Cond.code ({ cls := "FreightSplits", name := "consign", desc := "(IIIIII)I" } : Jvm.MethodName) prog_1_method_2_code (7 : Nat) (Option.some Jvm.ClassFile.FieldType.int)) ∈ zgw := zgw_at 341 (by decide +kernel) (by decide +kernel)
theorem zw_342 : (Jvm.Cond.methodLink "FreightSplits" (33 : Nat) ({ cls := "FreightSplits", name := "isWithin", desc := "(III)Z" } : Jvm.MethodName)) ∈ zgw := zgw_at 342 (by decide +kernel) (by decide +kernel)
theorem zw_343 : (Jvm.Cond.static ({ cls := "FreightSplits", name := "isWithin", desc := "(III)Z" } : Jvm.MethodName)) ∈ zgw := zgw_at 343 (by decide +kernel) (by decide +kernel)
theorem zw_344 : (Jvm.Cond.code ({ cls := "FreightSplits", name := "isWithin", desc := "(III)Z" } : Jvm.MethodName) prog_1_method_25_code (3 : Nat) (Option.some Jvm.ClassFile.FieldType.boolean)) ∈ zgw := zgw_at 344 (by decide +kernel) (by decide +kernel)
theorem zw_345 : (Jvm.Cond.constant "FreightSplits" (37 : Nat) (-1000001 : Int32)) ∈ zgw := zgw_at 345 (by decide +kernel) (by decide +kernel)
theorem zw_346 : (Jvm.Cond.methodLink "FreightSplits" (38 : Nat) ({ cls := "FreightSplits$History", name := "prepare", desc := "(LFreightSplits$Hall;)V" } : Jvm.MethodName)) ∈ zgw := zgw_at 346 (by decide +kernel) (by decide +kernel)
theorem zw_347 : (Jvm.Cond.instanceMethod ({ cls := "FreightSplits$History", name := "prepare", desc := "(LFreightSplits$Hall;)V" } : Jvm.MethodName)) ∈ zgw := zgw_at 347 (by decide +kernel) (by decide +kernel)
theorem zw_348 : (Jvm.Cond.selects "FreightSplits$History" ({ cls := "FreightSplits$History", name := "prepare", desc := "(LFreightSplits$Hall;)V" } : Jvm.MethodName) ({ cls := "FreightSplits$History", name := "prepare", desc := "(LFreightSplits$Hall;)V" } : Jvm.MethodName)) ∈ zgw := zgw_at 348 (by decide +kernel) (by decide +kernel)
theorem zw_349 : (Jvm.Cond.code ({ cls := "FreightSplits$History", name := "prepare", desc := "(LFreightSplits$Hall;)V" } : Jvm.MethodName) prog_4_method_2_code (2 : Nat) (Option.none : Option Jvm.ClassFile.FieldType)) ∈ zgw := zgw_at 349 (by decide +kernel) (by decide +kernel)
theorem zw_350 : (Jvm.Cond.methodLink "FreightSplits$History" (25 : Nat) ({ cls := "FreightSplits$Hall", name := "copyFrom", desc := "(LFreightSplits$Hall;)V" } : Jvm.MethodName)) ∈ zgw := zgw_at 350 (by decide +kernel) (by decide +kernel)
theorem zw_351 : (Jvm.Cond.instanceMethod ({ cls := "FreightSplits$Hall", name := "copyFrom", desc := "(LFreightSplits$Hall;)V" } : Jvm.MethodName)) ∈ zgw := zgw_at 351 (by decide +kernel) (by decide +kernel)
theorem zw_352 : (Jvm.Cond.selects "FreightSplits$Hall" ({ cls := "FreightSplits$Hall", name := "copyFrom", desc := "(LFreightSplits$Hall;)V" } : Jvm.MethodName) ({ cls := "FreightSplits$Hall", name := "copyFrom", desc := "(LFreightSplits$Hall;)V" } : Jvm.MethodName)) ∈ zgw := zgw_at 352 (by decide +kernel) (by decide +kernel)
theorem zw_353 : (Jvm.Cond.code ({ cls := "FreightSplits$Hall", name := "copyFrom", desc := "(LFreightSplits$Hall;)V" } : Jvm.MethodName) prog_3_method_2_code (3 : Nat) (Option.none : Option Jvm.ClassFile.FieldType)) ∈ zgw := zgw_at 353 (by decide +kernel) (by decide +kernel)
theorem zw_354 : (Jvm.Cond.methodLink "FreightSplits$Hall" (63 : Nat) ({ cls := "java/lang/System", name := "arraycopy", desc := "(Ljava/lang/Object;ILjava/lang/Object;II)V" } : Jvm.MethodName)) ∈ zgw := zgw_at 354 (by decide +kernel) (by decide +kernel)
theorem zw_355 : (Jvm.Cond.static ({ cls := "java/lang/System", name := "arraycopy", desc := "(Ljava/lang/Object;ILjava/lang/Object;II)V" } : Jvm.MethodName)) ∈ zgw := zgw_at 355 (by decide +kernel) (by decide +kernel)
theorem zw_356 : (Jvm.Cond.native ({ cls := "java/lang/System", name := "arraycopy", desc := "(Ljava/lang/Object;ILjava/lang/Object;II)V" } : Jvm.MethodName)) ∈ zgw := zgw_at 356 (by decide +kernel) (by decide +kernel)
theorem zw_357 : (Jvm.Cond.methodLink "FreightSplits$Hall" (69 : Nat) ({ cls := "FreightSplits$Consignment", name := "copyFrom", desc := "(LFreightSplits$Consignment;)V" } : Jvm.MethodName)) ∈ zgw := zgw_at 357 (by decide +kernel) (by decide +kernel)
theorem zw_358 : (Jvm.Cond.instanceMethod ({ cls := "FreightSplits$Consignment", name := "copyFrom", desc := "(LFreightSplits$Consignment;)V" } : Jvm.MethodName)) ∈ zgw := zgw_at 358 (by decide +kernel) (by decide +kernel)
theorem zw_359 : (Jvm.Cond.selects "FreightSplits$Consignment" ({ cls := "FreightSplits$Consignment", name := "copyFrom", desc := "(LFreightSplits$Consignment;)V" } : Jvm.MethodName) ({ cls := "FreightSplits$Consignment", name := "copyFrom", desc := "(LFreightSplits$Consignment;)V" } : Jvm.MethodName)) ∈ zgw := zgw_at 359 (by decide +kernel) (by decide +kernel)
theorem zw_360 : (Jvm.Cond.code ({ cls := "FreightSplits$Consignment", name := "copyFrom", desc := "(LFreightSplits$Consignment;)V" } : Jvm.MethodName) prog_2_method_2_code (2 : Nat) (Option.none : Option Jvm.ClassFile.FieldType)) ∈ zgw := zgw_at 360 (by decide +kernel) (by decide +kernel)
theorem zw_361 : (Jvm.Cond.methodLink "FreightSplits$Consignment" (15 : Nat) ({ cls := "FreightSplits$Consignment", name := "copyFreight", desc := "(LFreightSplits$Consignment;)V" } : Jvm.MethodName)) ∈ zgw := zgw_at 361 (by decide +kernel) (by decide +kernel)
theorem zw_362 : (Jvm.Cond.instanceMethod ({ cls := "FreightSplits$Consignment", name := "copyFreight", desc := "(LFreightSplits$Consignment;)V" } : Jvm.MethodName)) ∈ zgw := zgw_at 362 (by decide +kernel) (by decide +kernel)
theorem zw_363 : (Jvm.Cond.selects "FreightSplits$Consignment" ({ cls := "FreightSplits$Consignment", name := "copyFreight", desc := "(LFreightSplits$Consignment;)V" } : Jvm.MethodName) ({ cls := "FreightSplits$Consignment", name := "copyFreight", desc := "(LFreightSplits$Consignment;)V" } : Jvm.MethodName)) ∈ zgw := zgw_at 363 (by decide +kernel) (by decide +kernel)
theorem zw_364 : (Jvm.Cond.code ({ cls := "FreightSplits$Consignment", name := "copyFreight", desc := "(LFreightSplits$Consignment;)V" } : Jvm.MethodName) prog_2_method_3_code (2 : Nat) (Option.none : Option Jvm.ClassFile.FieldType)) ∈ zgw := zgw_at 364 (by decide +kernel) (by decide +kernel)
theorem zw_365 : (Jvm.Cond.methodLink "FreightSplits$Hall" (73 : Nat) ({ cls := "FreightSplits$Vehicle", name := "copyFrom", desc := "(LFreightSplits$Vehicle;)V" } : Jvm.MethodName)) ∈ zgw := zgw_at 365 (by decide +kernel) (by decide +kernel)
theorem zw_366 : (Jvm.Cond.instanceMethod ({ cls := "FreightSplits$Vehicle", name := "copyFrom", desc := "(LFreightSplits$Vehicle;)V" } : Jvm.MethodName)) ∈ zgw := zgw_at 366 (by decide +kernel) (by decide +kernel)
theorem zw_367 : (Jvm.Cond.selects "FreightSplits$Vehicle" ({ cls := "FreightSplits$Vehicle", name := "copyFrom", desc := "(LFreightSplits$Vehicle;)V" } : Jvm.MethodName) ({ cls := "FreightSplits$Vehicle", name := "copyFrom", desc := "(LFreightSplits$Vehicle;)V" } : Jvm.MethodName)) ∈ zgw := zgw_at 367 (by decide +kernel) (by decide +kernel)
theorem zw_368 : (Jvm.Cond.code ({ cls := "FreightSplits$Vehicle", name := "copyFrom", desc := "(LFreightSplits$Vehicle;)V" } : Jvm.MethodName) prog_7_method_2_code (2 : Nat) (Option.none : Option Jvm.ClassFile.FieldType)) ∈ zgw := zgw_at 368 (by decide +kernel) (by decide +kernel)
theorem zw_369 : (Jvm.Cond.methodLink "FreightSplits$Hall" (76 : Nat) ({ cls := "FreightSplits$Offer", name := "copyFrom", desc := "(LFreightSplits$Offer;)V" } : Jvm.MethodName)) ∈ zgw := zgw_at 369 (by decide +kernel) (by decide +kernel)
theorem zw_370 : (Jvm.Cond.instanceMethod ({ cls := "FreightSplits$Offer", name := "copyFrom", desc := "(LFreightSplits$Offer;)V" } : Jvm.MethodName)) ∈ zgw := zgw_at 370 (by decide +kernel) (by decide +kernel)
theorem zw_371 : (Jvm.Cond.selects "FreightSplits$Offer" ({ cls := "FreightSplits$Offer", name := "copyFrom", desc := "(LFreightSplits$Offer;)V" } : Jvm.MethodName) ({ cls := "FreightSplits$Offer", name := "copyFrom", desc := "(LFreightSplits$Offer;)V" } : Jvm.MethodName)) ∈ zgw := zgw_at 371 (by decide +kernel) (by decide +kernel)
theorem zw_372 : (Jvm.Cond.code ({ cls := "FreightSplits$Offer", name := "copyFrom", desc := "(LFreightSplits$Offer;)V" } : Jvm.MethodName) prog_5_method_2_code (2 : Nat) (Option.none : Option Jvm.ClassFile.FieldType)) ∈ zgw := zgw_at 372 (by decide +kernel) (by decide +kernel)
theorem zw_373 : (Jvm.Cond.methodLink "FreightSplits" (42 : Nat) ({ cls := "FreightSplits$Hall", name := "makeConsignment", desc := "(IIIIII)I" } : Jvm.MethodName)) ∈ zgw := zgw_at 373 (by decide +kernel) (by decide +kernel)
theorem zw_374 : (Jvm.Cond.instanceMethod ({ cls := "FreightSplits$Hall", name := "makeConsignment", desc := "(IIIIII)I" } : Jvm.MethodName)) ∈ zgw := zgw_at 374 (by decide +kernel) (by decide +kernel)
theorem zw_375 : (Jvm.Cond.selects "FreightSplits$Hall" ({ cls := "FreightSplits$Hall", name := "makeConsignment", desc := "(IIIIII)I" } : Jvm.MethodName) ({ cls := "FreightSplits$Hall", name := "makeConsignment", desc := "(IIIIII)I" } : Jvm.MethodName)) ∈ zgw := zgw_at 375 (by decide +kernel) (by decide +kernel)
theorem zw_376 : (Jvm.Cond.code ({ cls := "FreightSplits$Hall", name := "makeConsignment", desc := "(IIIIII)I" } : Jvm.MethodName) prog_3_method_5_code (8 : Nat) (Option.some Jvm.ClassFile.FieldType.int)) ∈ zgw := zgw_at 376 (by decide +kernel) (by decide +kernel)
theorem zw_377 : (Jvm.Cond.constant "FreightSplits$Hall" (82 : Nat) (-1000003 : Int32)) ∈ zgw := zgw_at 377 (by decide +kernel) (by decide +kernel)
theorem zw_378 : (Jvm.Cond.methodLink "FreightSplits$Hall" (110 : Nat) ({ cls := "FreightSplits$Consignment", name := "startInHall", desc := "()V" } : Jvm.MethodName)) ∈ zgw := zgw_at 378 (by decide +kernel) (by decide +kernel)
theorem zw_379 : (Jvm.Cond.instanceMethod ({ cls := "FreightSplits$Consignment", name := "startInHall", desc := "()V" } : Jvm.MethodName)) ∈ zgw := zgw_at 379 (by decide +kernel) (by decide +kernel)
theorem zw_380 : (Jvm.Cond.selects "FreightSplits$Consignment" ({ cls := "FreightSplits$Consignment", name := "startInHall", desc := "()V" } : Jvm.MethodName) ({ cls := "FreightSplits$Consignment", name := "startInHall", desc := "()V" } : Jvm.MethodName)) ∈ zgw := zgw_at 380 (by decide +kernel) (by decide +kernel)
theorem zw_381 : (Jvm.Cond.code ({ cls := "FreightSplits$Consignment", name := "startInHall", desc := "()V" } : Jvm.MethodName) prog_2_method_4_code (1 : Nat) (Option.none : Option Jvm.ClassFile.FieldType)) ∈ zgw := zgw_at 381 (by decide +kernel) (by decide +kernel)
theorem zw_382 : (Jvm.Cond.methodLink "FreightSplits" (46 : Nat) ({ cls := "FreightSplits", name := "changed", desc := "(I)I" } : Jvm.MethodName)) ∈ zgw := zgw_at 382 (by decide +kernel) (by decide +kernel)
theorem zw_384 : (Jvm.Cond.instanceMethod ({ cls := "FreightSplits", name := "changed", desc := "(I)I" } : Jvm.MethodName)) ∈ zgw := zgw_at 384 (by decide +kernel) (by decide +kernel)
theorem zw_385 : (Jvm.Cond.code ({ cls := "FreightSplits", name := "changed", desc := "(I)I" } : Jvm.MethodName) prog_1_method_26_code (2 : Nat) (Option.some Jvm.ClassFile.FieldType.int)) ∈ zgw := zgw_at 385 (by decide +kernel) (by decide +kernel)
theorem zw_386 : (Jvm.Cond.methodLink "FreightSplits" (261 : Nat) ({ cls := "FreightSplits$History", name := "keep", desc := "()V" } : Jvm.MethodName)) ∈ zgw := zgw_at 386 (by decide +kernel) (by decide +kernel)
theorem zw_387 : (Jvm.Cond.instanceMethod ({ cls := "FreightSplits$History", name := "keep", desc := "()V" } : Jvm.MethodName)) ∈ zgw := zgw_at 387 (by decide +kernel) (by decide +kernel)
theorem zw_388 : (Jvm.Cond.selects "FreightSplits$History" ({ cls := "FreightSplits$History", name := "keep", desc := "()V" } : Jvm.MethodName) ({ cls := "FreightSplits$History", name := "keep", desc := "()V" } : Jvm.MethodName)) ∈ zgw := zgw_at 388 (by decide +kernel) (by decide +kernel)
theorem zw_389 : (Jvm.Cond.code ({ cls := "FreightSplits$History", name := "keep", desc := "()V" } : Jvm.MethodName) prog_4_method_3_code (1 : Nat) (Option.none : Option Jvm.ClassFile.FieldType)) ∈ zgw := zgw_at 389 (by decide +kernel) (by decide +kernel)
theorem zw_390 : (Jvm.Cond.methodLink "FreightSplitsLaw" (18 : Nat) ({ cls := "FreightSplits", name := "split", desc := "(III)I" } : Jvm.MethodName)) ∈ zgw := zgw_at 390 (by decide +kernel) (by decide +kernel)
theorem zw_391 : (Jvm.Cond.instanceMethod ({ cls := "FreightSplits", name := "split", desc := "(III)I" } : Jvm.MethodName)) ∈ zgw := zgw_at 391 (by decide +kernel) (by decide +kernel)
theorem zw_392 : (Jvm.Cond.selects "FreightSplits" ({ cls := "FreightSplits", name := "split", desc := "(III)I" } : Jvm.MethodName) ({ cls := "FreightSplits", name := "split", desc := "(III)I" } : Jvm.MethodName)) ∈ zgw := zgw_at 392 (by decide +kernel) (by decide +kernel)
theorem zw_393 : (Jvm.Cond.code ({ cls := "FreightSplits", name := "split", desc := "(III)I" } : Jvm.MethodName) prog_1_method_3_code (4 : Nat) (Option.some Jvm.ClassFile.FieldType.int)) ∈ zgw := zgw_at 393 (by decide +kernel) (by decide +kernel)
theorem zw_394 : (Jvm.Cond.methodLink "FreightSplits" (50 : Nat) ({ cls := "FreightSplits$Hall", name := "splitOff", desc := "(III)I" } : Jvm.MethodName)) ∈ zgw := zgw_at 394 (by decide +kernel) (by decide +kernel)
theorem zw_395 : (Jvm.Cond.instanceMethod ({ cls := "FreightSplits$Hall", name := "splitOff", desc := "(III)I" } : Jvm.MethodName)) ∈ zgw := zgw_at 395 (by decide +kernel) (by decide +kernel)
theorem zw_396 : (Jvm.Cond.selects "FreightSplits$Hall" ({ cls := "FreightSplits$Hall", name := "splitOff", desc := "(III)I" } : Jvm.MethodName) ({ cls := "FreightSplits$Hall", name := "splitOff", desc := "(III)I" } : Jvm.MethodName)) ∈ zgw := zgw_at 396 (by decide +kernel) (by decide +kernel)
theorem zw_397 : (Jvm.Cond.code ({ cls := "FreightSplits$Hall", name := "splitOff", desc := "(III)I" } : Jvm.MethodName) prog_3_method_6_code (6 : Nat) (Option.some Jvm.ClassFile.FieldType.int)) ∈ zgw := zgw_at 397 (by decide +kernel) (by decide +kernel)
theorem zw_398 : (Jvm.Cond.methodLink "FreightSplits$Hall" (113 : Nat) ({ cls := "FreightSplits$Hall", name := "consignmentAt", desc := "(I)LFreightSplits$Consignment;" } : Jvm.MethodName)) ∈ zgw := zgw_at 398 (by decide +kernel) (by decide +kernel)
theorem zw_399 : (Jvm.Cond.instanceMethod ({ cls := "FreightSplits$Hall", name := "consignmentAt", desc := "(I)LFreightSplits$Consignment;" } : Jvm.MethodName)) ∈ zgw := zgw_at 399 (by decide +kernel) (by decide +kernel)
theorem zw_400 : (Jvm.Cond.selects "FreightSplits$Hall" ({ cls := "FreightSplits$Hall", name := "consignmentAt", desc := "(I)LFreightSplits$Consignment;" } : Jvm.MethodName) ({ cls := "FreightSplits$Hall", name := "consignmentAt", desc := "(I)LFreightSplits$Consignment;" } : Jvm.MethodName)) ∈ zgw := zgw_at 400 (by decide +kernel) (by decide +kernel)
theorem zw_401 : (Jvm.Cond.code ({ cls := "FreightSplits$Hall", name := "consignmentAt", desc := "(I)LFreightSplits$Consignment;" } : Jvm.MethodName) prog_3_method_3_code (2 : Nat) (Option.some (Jvm.ClassFile.FieldType.object "FreightSplits$Consignment"))) ∈ zgw := zgw_at 401 (by decide +kernel) (by decide +kernel)
theorem zw_403 : (Jvm.Cond.constant "FreightSplits$Hall" (121 : Nat) (-1000001 : Int32)) ∈ zgw := zgw_at 403 (by decide +kernel) (by decide +kernel)
theorem zw_404 : (Jvm.Cond.constant "FreightSplits$Hall" (122 : Nat) (-1000002 : Int32)) ∈ zgw := zgw_at 404 (by decide +kernel) (by decide +kernel)
theorem zw_405 : (Jvm.Cond.methodLink "FreightSplits$Hall" (123 : Nat) ({ cls := "FreightSplits$Consignment", name := "copyFreight", desc := "(LFreightSplits$Consignment;)V" } : Jvm.MethodName)) ∈ zgw := zgw_at 405 (by decide +kernel) (by decide +kernel)
theorem zw_406 : (Jvm.Cond.methodLink "FreightSplitsLaw" (23 : Nat) ({ cls := "FreightSplits", name := "join", desc := "(II)I" } : Jvm.MethodName)) ∈ zgw := zgw_at 406 (by decide +kernel) (by decide +kernel)
theorem zw_407 : (Jvm.Cond.instanceMethod ({ cls := "FreightSplits", name := "join", desc := "(II)I" } : Jvm.MethodName)) ∈ zgw := zgw_at 407 (by decide +kernel) (by decide +kernel)
theorem zw_408 : (Jvm.Cond.selects "FreightSplits" ({ cls := "FreightSplits", name := "join", desc := "(II)I" } : Jvm.MethodName) ({ cls := "FreightSplits", name := "join", desc := "(II)I" } : Jvm.MethodName)) ∈ zgw := zgw_at 408 (by decide +kernel) (by decide +kernel)
theorem zw_409 : (Jvm.Cond.code ({ cls := "FreightSplits", name := "join", desc := "(II)I" } : Jvm.MethodName) prog_1_method_4_code (3 : Nat) (Option.some Jvm.ClassFile.FieldType.int)) ∈ zgw := zgw_at 409 (by decide +kernel) (by decide +kernel)
theorem zw_410 : (Jvm.Cond.methodLink "FreightSplits" (54 : Nat) ({ cls := "FreightSplits$Hall", name := "joinParts", desc := "(II)I" } : Jvm.MethodName)) ∈ zgw := zgw_at 410 (by decide +kernel) (by decide +kernel)
theorem zw_411 : (Jvm.Cond.instanceMethod ({ cls := "FreightSplits$Hall", name := "joinParts", desc := "(II)I" } : Jvm.MethodName)) ∈ zgw := zgw_at 411 (by decide +kernel) (by decide +kernel)
theorem zw_412 : (Jvm.Cond.selects "FreightSplits$Hall" ({ cls := "FreightSplits$Hall", name := "joinParts", desc := "(II)I" } : Jvm.MethodName) ({ cls := "FreightSplits$Hall", name := "joinParts", desc := "(II)I" } : Jvm.MethodName)) ∈ zgw := zgw_at 412 (by decide +kernel) (by decide +kernel)
theorem zw_413 : (Jvm.Cond.code ({ cls := "FreightSplits$Hall", name := "joinParts", desc := "(II)I" } : Jvm.MethodName) prog_3_method_7_code (5 : Nat) (Option.some Jvm.ClassFile.FieldType.int)) ∈ zgw := zgw_at 413 (by decide +kernel) (by decide +kernel)
theorem zw_414 : (Jvm.Cond.methodLink "FreightSplits$Hall" (126 : Nat) ({ cls := "java/lang/Math", name := "min", desc := "(II)I" } : Jvm.MethodName)) ∈ zgw := zgw_at 414 (by decide +kernel) (by decide +kernel)
theorem zw_415 : (Jvm.Cond.static ({ cls := "java/lang/Math", name := "min", desc := "(II)I" } : Jvm.MethodName)) ∈ zgw := zgw_at 415 (by decide +kernel) (by decide +kernel)
theorem zw_416 : (Jvm.Cond.code ({ cls := "java/lang/Math", name := "min", desc := "(II)I" } : Jvm.MethodName) prog_11_method_69_code (2 : Nat) (Option.some Jvm.ClassFile.FieldType.int)) ∈ zgw := zgw_at 416 (by decide +kernel) (by decide +kernel)
theorem zw_417 : (Jvm.Cond.methodLink "FreightSplits$Hall" (132 : Nat) ({ cls := "java/lang/Math", name := "max", desc := "(II)I" } : Jvm.MethodName)) ∈ zgw := zgw_at 417 (by decide +kernel) (by decide +kernel)
theorem zw_418 : (Jvm.Cond.static ({ cls := "java/lang/Math", name := "max", desc := "(II)I" } : Jvm.MethodName)) ∈ zgw := zgw_at 418 (by decide +kernel) (by decide +kernel)
theorem zw_419 : (Jvm.Cond.code ({ cls := "java/lang/Math", name := "max", desc := "(II)I" } : Jvm.MethodName) prog_11_method_65_code (2 : Nat) (Option.some Jvm.ClassFile.FieldType.int)) ∈ zgw := zgw_at 419 (by decide +kernel) (by decide +kernel)
theorem zw_420 : (Jvm.Cond.methodLink "FreightSplitsLaw" (28 : Nat) ({ cls := "FreightSplits", name := "vehicle", desc := "(II)I" } : Jvm.MethodName)) ∈ zgw := zgw_at 420 (by decide +kernel) (by decide +kernel)
theorem zw_421 : (Jvm.Cond.instanceMethod ({ cls := "FreightSplits", name := "vehicle", desc := "(II)I" } : Jvm.MethodName)) ∈ zgw := zgw_at 421 (by decide +kernel) (by decide +kernel)
theorem zw_422 : (Jvm.Cond.selects "FreightSplits" ({ cls := "FreightSplits", name := "vehicle", desc := "(II)I" } : Jvm.MethodName) ({ cls := "FreightSplits", name := "vehicle", desc := "(II)I" } : Jvm.MethodName)) ∈ zgw := zgw_at 422 (by decide +kernel) (by decide +kernel)
theorem zw_423 : (Jvm.Cond.code ({ cls := "FreightSplits", name := "vehicle", desc := "(II)I" } : Jvm.MethodName) prog_1_method_5_code (3 : Nat) (Option.some Jvm.ClassFile.FieldType.int)) ∈ zgw := zgw_at 423 (by decide +kernel) (by decide +kernel)
theorem zw_424 : (Jvm.Cond.methodLink "FreightSplits" (58 : Nat) ({ cls := "FreightSplits$Hall", name := "addVehicle", desc := "(II)I" } : Jvm.MethodName)) ∈ zgw := zgw_at 424 (by decide +kernel) (by decide +kernel)
theorem zw_425 : (Jvm.Cond.instanceMethod ({ cls := "FreightSplits$Hall", name := "addVehicle", desc := "(II)I" } : Jvm.MethodName)) ∈ zgw := zgw_at 425 (by decide +kernel) (by decide +kernel)
theorem zw_426 : (Jvm.Cond.selects "FreightSplits$Hall" ({ cls := "FreightSplits$Hall", name := "addVehicle", desc := "(II)I" } : Jvm.MethodName) ({ cls := "FreightSplits$Hall", name := "addVehicle", desc := "(II)I" } : Jvm.MethodName)) ∈ zgw := zgw_at 426 (by decide +kernel) (by decide +kernel)
theorem zw_427 : (Jvm.Cond.code ({ cls := "FreightSplits$Hall", name := "addVehicle", desc := "(II)I" } : Jvm.MethodName) prog_3_method_8_code (4 : Nat) (Option.some Jvm.ClassFile.FieldType.int)) ∈ zgw := zgw_at 427 (by decide +kernel) (by decide +kernel)
theorem zw_428 : (Jvm.Cond.methodLink "FreightSplitsLaw" (32 : Nat) ({ cls := "FreightSplits", name := "load", desc := "(II)I" } : Jvm.MethodName)) ∈ zgw := zgw_at 428 (by decide +kernel) (by decide +kernel)
theorem zw_429 : (Jvm.Cond.instanceMethod ({ cls := "FreightSplits", name := "load", desc := "(II)I" } : Jvm.MethodName)) ∈ zgw := zgw_at 429 (by decide +kernel) (by decide +kernel)
theorem zw_430 : (Jvm.Cond.selects "FreightSplits" ({ cls := "FreightSplits", name := "load", desc := "(II)I" } : Jvm.MethodName) ({ cls := "FreightSplits", name := "load", desc := "(II)I" } : Jvm.MethodName)) ∈ zgw := zgw_at 430 (by decide +kernel) (by decide +kernel)
theorem zw_431 : (Jvm.Cond.code ({ cls := "FreightSplits", name := "load", desc := "(II)I" } : Jvm.MethodName) prog_1_method_6_code (3 : Nat) (Option.some Jvm.ClassFile.FieldType.int)) ∈ zgw := zgw_at 431 (by decide +kernel) (by decide +kernel)
theorem zw_432 : (Jvm.Cond.methodLink "FreightSplits" (61 : Nat) ({ cls := "FreightSplits$Hall", name := "putInto", desc := "(II)I" } : Jvm.MethodName)) ∈ zgw := zgw_at 432 (by decide +kernel) (by decide +kernel)
theorem zw_433 : (Jvm.Cond.instanceMethod ({ cls := "FreightSplits$Hall", name := "putInto", desc := "(II)I" } : Jvm.MethodName)) ∈ zgw := zgw_at 433 (by decide +kernel) (by decide +kernel)
theorem zw_434 : (Jvm.Cond.selects "FreightSplits$Hall" ({ cls := "FreightSplits$Hall", name := "putInto", desc := "(II)I" } : Jvm.MethodName) ({ cls := "FreightSplits$Hall", name := "putInto", desc := "(II)I" } : Jvm.MethodName)) ∈ zgw := zgw_at 434 (by decide +kernel) (by decide +kernel)
theorem zw_435 : (Jvm.Cond.code ({ cls := "FreightSplits$Hall", name := "putInto", desc := "(II)I" } : Jvm.MethodName) prog_3_method_9_code (5 : Nat) (Option.some Jvm.ClassFile.FieldType.int)) ∈ zgw := zgw_at 435 (by decide +kernel) (by decide +kernel)
theorem zw_436 : (Jvm.Cond.methodLink "FreightSplits$Hall" (149 : Nat) ({ cls := "FreightSplits$Hall", name := "vehicleAt", desc := "(I)LFreightSplits$Vehicle;" } : Jvm.MethodName)) ∈ zgw := zgw_at 436 (by decide +kernel) (by decide +kernel)
theorem zw_437 : (Jvm.Cond.instanceMethod ({ cls := "FreightSplits$Hall", name := "vehicleAt", desc := "(I)LFreightSplits$Vehicle;" } : Jvm.MethodName)) ∈ zgw := zgw_at 437 (by decide +kernel) (by decide +kernel)
theorem zw_438 : (Jvm.Cond.selects "FreightSplits$Hall" ({ cls := "FreightSplits$Hall", name := "vehicleAt", desc := "(I)LFreightSplits$Vehicle;" } : Jvm.MethodName) ({ cls := "FreightSplits$Hall", name := "vehicleAt", desc := "(I)LFreightSplits$Vehicle;" } : Jvm.MethodName)) ∈ zgw := zgw_at 438 (by decide +kernel) (by decide +kernel)
theorem zw_439 : (Jvm.Cond.code ({ cls := "FreightSplits$Hall", name := "vehicleAt", desc := "(I)LFreightSplits$Vehicle;" } : Jvm.MethodName) prog_3_method_4_code (2 : Nat) (Option.some (Jvm.ClassFile.FieldType.object "FreightSplits$Vehicle"))) ∈ zgw := zgw_at 439 (by decide +kernel) (by decide +kernel)
theorem zw_440 : (Jvm.Cond.methodLink "FreightSplits$Hall" (153 : Nat) ({ cls := "FreightSplits$Hall", name := "canTake", desc := "(LFreightSplits$Vehicle;LFreightSplits$Consignment;)Z" } : Jvm.MethodName)) ∈ zgw := zgw_at 440 (by decide +kernel) (by decide +kernel)
theorem zw_441 : (Jvm.Cond.instanceMethod ({ cls := "FreightSplits$Hall", name := "canTake", desc := "(LFreightSplits$Vehicle;LFreightSplits$Consignment;)Z" } : Jvm.MethodName)) ∈ zgw := zgw_at 441 (by decide +kernel) (by decide +kernel)
theorem zw_442 : (Jvm.Cond.selects "FreightSplits$Hall" ({ cls := "FreightSplits$Hall", name := "canTake", desc := "(LFreightSplits$Vehicle;LFreightSplits$Consignment;)Z" } : Jvm.MethodName) ({ cls := "FreightSplits$Hall", name := "canTake", desc := "(LFreightSplits$Vehicle;LFreightSplits$Consignment;)Z" } : Jvm.MethodName)) ∈ zgw := zgw_at 442 (by decide +kernel) (by decide +kernel)
theorem zw_443 : (Jvm.Cond.code ({ cls := "FreightSplits$Hall", name := "canTake", desc := "(LFreightSplits$Vehicle;LFreightSplits$Consignment;)Z" } : Jvm.MethodName) prog_3_method_27_code (4 : Nat) (Option.some Jvm.ClassFile.FieldType.boolean)) ∈ zgw := zgw_at 443 (by decide +kernel) (by decide +kernel)
theorem zw_444 : (Jvm.Cond.methodLink "FreightSplits$Hall" (172 : Nat) ({ cls := "FreightSplits$Hall", name := "loadPlace", desc := "(LFreightSplits$Vehicle;)I" } : Jvm.MethodName)) ∈ zgw := zgw_at 444 (by decide +kernel) (by decide +kernel)
theorem zw_445 : (Jvm.Cond.instanceMethod ({ cls := "FreightSplits$Hall", name := "loadPlace", desc := "(LFreightSplits$Vehicle;)I" } : Jvm.MethodName)) ∈ zgw := zgw_at 445 (by decide +kernel) (by decide +kernel)
theorem zw_446 : (Jvm.Cond.selects "FreightSplits$Hall" ({ cls := "FreightSplits$Hall", name := "loadPlace", desc := "(LFreightSplits$Vehicle;)I" } : Jvm.MethodName) ({ cls := "FreightSplits$Hall", name := "loadPlace", desc := "(LFreightSplits$Vehicle;)I" } : Jvm.MethodName)) ∈ zgw := zgw_at 446 (by decide +kernel) (by decide +kernel)
theorem zw_447 : (Jvm.Cond.code ({ cls := "FreightSplits$Hall", name := "loadPlace", desc := "(LFreightSplits$Vehicle;)I" } : Jvm.MethodName) prog_3_method_31_code (3 : Nat) (Option.some Jvm.ClassFile.FieldType.int)) ∈ zgw := zgw_at 447 (by decide +kernel) (by decide +kernel)
theorem zw_448 : (Jvm.Cond.methodLink "FreightSplits$Hall" (175 : Nat) ({ cls := "FreightSplits$Consignment", name := "isIn", desc := "(LFreightSplits$Vehicle;)Z" } : Jvm.MethodName)) ∈ zgw := zgw_at 448 (by decide +kernel) (by decide +kernel)
theorem zw_449 : (Jvm.Cond.instanceMethod ({ cls := "FreightSplits$Consignment", name := "isIn", desc := "(LFreightSplits$Vehicle;)Z" } : Jvm.MethodName)) ∈ zgw := zgw_at 449 (by decide +kernel) (by decide +kernel)
theorem zw_450 : (Jvm.Cond.selects "FreightSplits$Consignment" ({ cls := "FreightSplits$Consignment", name := "isIn", desc := "(LFreightSplits$Vehicle;)Z" } : Jvm.MethodName) ({ cls := "FreightSplits$Consignment", name := "isIn", desc := "(LFreightSplits$Vehicle;)Z" } : Jvm.MethodName)) ∈ zgw := zgw_at 450 (by decide +kernel) (by decide +kernel)
theorem zw_451 : (Jvm.Cond.code ({ cls := "FreightSplits$Consignment", name := "isIn", desc := "(LFreightSplits$Vehicle;)Z" } : Jvm.MethodName) prog_2_method_6_code (2 : Nat) (Option.some Jvm.ClassFile.FieldType.boolean)) ∈ zgw := zgw_at 451 (by decide +kernel) (by decide +kernel)
theorem zw_452 : (Jvm.Cond.methodLink "FreightSplits$Hall" (160 : Nat) ({ cls := "FreightSplits$Hall", name := "loadSize", desc := "(LFreightSplits$Vehicle;)I" } : Jvm.MethodName)) ∈ zgw := zgw_at 452 (by decide +kernel) (by decide +kernel)
theorem zw_453 : (Jvm.Cond.instanceMethod ({ cls := "FreightSplits$Hall", name := "loadSize", desc := "(LFreightSplits$Vehicle;)I" } : Jvm.MethodName)) ∈ zgw := zgw_at 453 (by decide +kernel) (by decide +kernel)
theorem zw_454 : (Jvm.Cond.selects "FreightSplits$Hall" ({ cls := "FreightSplits$Hall", name := "loadSize", desc := "(LFreightSplits$Vehicle;)I" } : Jvm.MethodName) ({ cls := "FreightSplits$Hall", name := "loadSize", desc := "(LFreightSplits$Vehicle;)I" } : Jvm.MethodName)) ∈ zgw := zgw_at 454 (by decide +kernel) (by decide +kernel)
theorem zw_455 : (Jvm.Cond.code ({ cls := "FreightSplits$Hall", name := "loadSize", desc := "(LFreightSplits$Vehicle;)I" } : Jvm.MethodName) prog_3_method_28_code (4 : Nat) (Option.some Jvm.ClassFile.FieldType.int)) ∈ zgw := zgw_at 455 (by decide +kernel) (by decide +kernel)
theorem zw_456 : (Jvm.Cond.methodLink "FreightSplits$Hall" (238 : Nat) ({ cls := "FreightSplits$Hall", name := "loadWeight", desc := "(LFreightSplits$Vehicle;)I" } : Jvm.MethodName)) ∈ zgw := zgw_at 456 (by decide +kernel) (by decide +kernel)
theorem zw_457 : (Jvm.Cond.instanceMethod ({ cls := "FreightSplits$Hall", name := "loadWeight", desc := "(LFreightSplits$Vehicle;)I" } : Jvm.MethodName)) ∈ zgw := zgw_at 457 (by decide +kernel) (by decide +kernel)
theorem zw_458 : (Jvm.Cond.selects "FreightSplits$Hall" ({ cls := "FreightSplits$Hall", name := "loadWeight", desc := "(LFreightSplits$Vehicle;)I" } : Jvm.MethodName) ({ cls := "FreightSplits$Hall", name := "loadWeight", desc := "(LFreightSplits$Vehicle;)I" } : Jvm.MethodName)) ∈ zgw := zgw_at 458 (by decide +kernel) (by decide +kernel)
theorem zw_459 : (Jvm.Cond.code ({ cls := "FreightSplits$Hall", name := "loadWeight", desc := "(LFreightSplits$Vehicle;)I" } : Jvm.MethodName) prog_3_method_29_code (4 : Nat) (Option.some Jvm.ClassFile.FieldType.int)) ∈ zgw := zgw_at 459 (by decide +kernel) (by decide +kernel)
theorem zw_460 : (Jvm.Cond.methodLink "FreightSplitsLaw" (36 : Nat) ({ cls := "FreightSplits", name := "unload", desc := "(I)I" } : Jvm.MethodName)) ∈ zgw := zgw_at 460 (by decide +kernel) (by decide +kernel)
theorem zw_461 : (Jvm.Cond.instanceMethod ({ cls := "FreightSplits", name := "unload", desc := "(I)I" } : Jvm.MethodName)) ∈ zgw := zgw_at 461 (by decide +kernel) (by decide +kernel)
theorem zw_462 : (Jvm.Cond.selects "FreightSplits" ({ cls := "FreightSplits", name := "unload", desc := "(I)I" } : Jvm.MethodName) ({ cls := "FreightSplits", name := "unload", desc := "(I)I" } : Jvm.MethodName)) ∈ zgw := zgw_at 462 (by decide +kernel) (by decide +kernel)
theorem zw_463 : (Jvm.Cond.code ({ cls := "FreightSplits", name := "unload", desc := "(I)I" } : Jvm.MethodName) prog_1_method_7_code (2 : Nat) (Option.some Jvm.ClassFile.FieldType.int)) ∈ zgw := zgw_at 463 (by decide +kernel) (by decide +kernel)
theorem zw_464 : (Jvm.Cond.methodLink "FreightSplits" (64 : Nat) ({ cls := "FreightSplits$Hall", name := "takeOut", desc := "(I)I" } : Jvm.MethodName)) ∈ zgw := zgw_at 464 (by decide +kernel) (by decide +kernel)
theorem zw_465 : (Jvm.Cond.instanceMethod ({ cls := "FreightSplits$Hall", name := "takeOut", desc := "(I)I" } : Jvm.MethodName)) ∈ zgw := zgw_at 465 (by decide +kernel) (by decide +kernel)
theorem zw_466 : (Jvm.Cond.selects "FreightSplits$Hall" ({ cls := "FreightSplits$Hall", name := "takeOut", desc := "(I)I" } : Jvm.MethodName) ({ cls := "FreightSplits$Hall", name := "takeOut", desc := "(I)I" } : Jvm.MethodName)) ∈ zgw := zgw_at 466 (by decide +kernel) (by decide +kernel)
theorem zw_467 : (Jvm.Cond.code ({ cls := "FreightSplits$Hall", name := "takeOut", desc := "(I)I" } : Jvm.MethodName) prog_3_method_10_code (3 : Nat) (Option.some Jvm.ClassFile.FieldType.int)) ∈ zgw := zgw_at 467 (by decide +kernel) (by decide +kernel)
theorem zw_468 : (Jvm.Cond.methodLink "FreightSplitsLaw" (41 : Nat) ({ cls := "FreightSplits", name := "fill", desc := "(III)I" } : Jvm.MethodName)) ∈ zgw := zgw_at 468 (by decide +kernel) (by decide +kernel)
theorem zw_469 : (Jvm.Cond.instanceMethod ({ cls := "FreightSplits", name := "fill", desc := "(III)I" } : Jvm.MethodName)) ∈ zgw := zgw_at 469 (by decide +kernel) (by decide +kernel)
theorem zw_470 : (Jvm.Cond.selects "FreightSplits" ({ cls := "FreightSplits", name := "fill", desc := "(III)I" } : Jvm.MethodName) ({ cls := "FreightSplits", name := "fill", desc := "(III)I" } : Jvm.MethodName)) ∈ zgw := zgw_at 470 (by decide +kernel) (by decide +kernel)
theorem zw_471 : (Jvm.Cond.code ({ cls := "FreightSplits", name := "fill", desc := "(III)I" } : Jvm.MethodName) prog_1_method_8_code (5 : Nat) (Option.some Jvm.ClassFile.FieldType.int)) ∈ zgw := zgw_at 471 (by decide +kernel) (by decide +kernel)
theorem zw_472 : (Jvm.Cond.methodLink "FreightSplits" (67 : Nat) ({ cls := "FreightSplits$Hall", name := "loadByRule", desc := "(III)I" } : Jvm.MethodName)) ∈ zgw := zgw_at 472 (by decide +kernel) (by decide +kernel)
theorem zw_473 : (Jvm.Cond.instanceMethod ({ cls := "FreightSplits$Hall", name := "loadByRule", desc := "(III)I" } : Jvm.MethodName)) ∈ zgw := zgw_at 473 (by decide +kernel) (by decide +kernel)
theorem zw_474 : (Jvm.Cond.selects "FreightSplits$Hall" ({ cls := "FreightSplits$Hall", name := "loadByRule", desc := "(III)I" } : Jvm.MethodName) ({ cls := "FreightSplits$Hall", name := "loadByRule", desc := "(III)I" } : Jvm.MethodName)) ∈ zgw := zgw_at 474 (by decide +kernel) (by decide +kernel)
theorem zw_475 : (Jvm.Cond.code ({ cls := "FreightSplits$Hall", name := "loadByRule", desc := "(III)I" } : Jvm.MethodName) prog_3_method_11_code (9 : Nat) (Option.some Jvm.ClassFile.FieldType.int)) ∈ zgw := zgw_at 475 (by decide +kernel) (by decide +kernel)
theorem zw_476 : (Jvm.Cond.methodLink "FreightSplits$Hall" (164 : Nat) ({ cls := "FreightSplits$Hall", name := "nextByRule", desc := "(III)LFreightSplits$Consignment;" } : Jvm.MethodName)) ∈ zgw := zgw_at 476 (by decide +kernel) (by decide +kernel)
theorem zw_477 : (Jvm.Cond.instanceMethod ({ cls := "FreightSplits$Hall", name := "nextByRule", desc := "(III)LFreightSplits$Consignment;" } : Jvm.MethodName)) ∈ zgw := zgw_at 477 (by decide +kernel) (by decide +kernel)
theorem zw_478 : (Jvm.Cond.selects "FreightSplits$Hall" ({ cls := "FreightSplits$Hall", name := "nextByRule", desc := "(III)LFreightSplits$Consignment;" } : Jvm.MethodName) ({ cls := "FreightSplits$Hall", name := "nextByRule", desc := "(III)LFreightSplits$Consignment;" } : Jvm.MethodName)) ∈ zgw := zgw_at 478 (by decide +kernel) (by decide +kernel)
theorem zw_479 : (Jvm.Cond.code ({ cls := "FreightSplits$Hall", name := "nextByRule", desc := "(III)LFreightSplits$Consignment;" } : Jvm.MethodName) prog_3_method_12_code (8 : Nat) (Option.some (Jvm.ClassFile.FieldType.object "FreightSplits$Consignment"))) ∈ zgw := zgw_at 479 (by decide +kernel) (by decide +kernel)
theorem zw_480 : (Jvm.Cond.methodLink "FreightSplits$Hall" (168 : Nat) ({ cls := "FreightSplits$Consignment", name := "comesAheadOf", desc := "(LFreightSplits$Consignment;I)Z" } : Jvm.MethodName)) ∈ zgw := zgw_at 480 (by decide +kernel) (by decide +kernel)
theorem zw_481 : (Jvm.Cond.instanceMethod ({ cls := "FreightSplits$Consignment", name := "comesAheadOf", desc := "(LFreightSplits$Consignment;I)Z" } : Jvm.MethodName)) ∈ zgw := zgw_at 481 (by decide +kernel) (by decide +kernel)
theorem zw_482 : (Jvm.Cond.selects "FreightSplits$Consignment" ({ cls := "FreightSplits$Consignment", name := "comesAheadOf", desc := "(LFreightSplits$Consignment;I)Z" } : Jvm.MethodName) ({ cls := "FreightSplits$Consignment", name := "comesAheadOf", desc := "(LFreightSplits$Consignment;I)Z" } : Jvm.MethodName)) ∈ zgw := zgw_at 482 (by decide +kernel) (by decide +kernel)
theorem zw_483 : (Jvm.Cond.code ({ cls := "FreightSplits$Consignment", name := "comesAheadOf", desc := "(LFreightSplits$Consignment;I)Z" } : Jvm.MethodName) prog_2_method_7_code (3 : Nat) (Option.some Jvm.ClassFile.FieldType.boolean)) ∈ zgw := zgw_at 483 (by decide +kernel) (by decide +kernel)
theorem zw_484 : (Jvm.Cond.methodLink "FreightSplits" (70 : Nat) ({ cls := "java/lang/Integer", name := "bitCount", desc := "(I)I" } : Jvm.MethodName)) ∈ zgw := zgw_at 484 (by decide +kernel) (by decide +kernel)
theorem zw_485 : (Jvm.Cond.static ({ cls := "java/lang/Integer", name := "bitCount", desc := "(I)I" } : Jvm.MethodName)) ∈ zgw := zgw_at 485 (by decide +kernel) (by decide +kernel)
theorem zw_486 : (Jvm.Cond.code ({ cls := "java/lang/Integer", name := "bitCount", desc := "(I)I" } : Jvm.MethodName) prog_10_method_49_code (1 : Nat) (Option.some Jvm.ClassFile.FieldType.int)) ∈ zgw := zgw_at 486 (by decide +kernel) (by decide +kernel)
theorem zw_487 : (Jvm.Cond.constant "java/lang/Integer" (265 : Nat) (1431655765 : Int32)) ∈ zgw := zgw_at 487 (by decide +kernel) (by decide +kernel)
theorem zw_488 : (Jvm.Cond.constant "java/lang/Integer" (266 : Nat) (858993459 : Int32)) ∈ zgw := zgw_at 488 (by decide +kernel) (by decide +kernel)
theorem zw_489 : (Jvm.Cond.constant "java/lang/Integer" (267 : Nat) (252645135 : Int32)) ∈ zgw := zgw_at 489 (by decide +kernel) (by decide +kernel)
theorem zw_490 : (Jvm.Cond.methodLink "FreightSplitsLaw" (45 : Nat) ({ cls := "FreightSplits", name := "depart", desc := "(I)I" } : Jvm.MethodName)) ∈ zgw := zgw_at 490 (by decide +kernel) (by decide +kernel)
theorem zw_491 : (Jvm.Cond.instanceMethod ({ cls := "FreightSplits", name := "depart", desc := "(I)I" } : Jvm.MethodName)) ∈ zgw := zgw_at 491 (by decide +kernel) (by decide +kernel)
theorem zw_492 : (Jvm.Cond.selects "FreightSplits" ({ cls := "FreightSplits", name := "depart", desc := "(I)I" } : Jvm.MethodName) ({ cls := "FreightSplits", name := "depart", desc := "(I)I" } : Jvm.MethodName)) ∈ zgw := zgw_at 492 (by decide +kernel) (by decide +kernel)
theorem zw_493 : (Jvm.Cond.code ({ cls := "FreightSplits", name := "depart", desc := "(I)I" } : Jvm.MethodName) prog_1_method_9_code (2 : Nat) (Option.some Jvm.ClassFile.FieldType.int)) ∈ zgw := zgw_at 493 (by decide +kernel) (by decide +kernel)
theorem zw_494 : (Jvm.Cond.methodLink "FreightSplits" (75 : Nat) ({ cls := "FreightSplits$Hall", name := "sendOff", desc := "(I)I" } : Jvm.MethodName)) ∈ zgw := zgw_at 494 (by decide +kernel) (by decide +kernel)
theorem zw_495 : (Jvm.Cond.instanceMethod ({ cls := "FreightSplits$Hall", name := "sendOff", desc := "(I)I" } : Jvm.MethodName)) ∈ zgw := zgw_at 495 (by decide +kernel) (by decide +kernel)
theorem zw_496 : (Jvm.Cond.selects "FreightSplits$Hall" ({ cls := "FreightSplits$Hall", name := "sendOff", desc := "(I)I" } : Jvm.MethodName) ({ cls := "FreightSplits$Hall", name := "sendOff", desc := "(I)I" } : Jvm.MethodName)) ∈ zgw := zgw_at 496 (by decide +kernel) (by decide +kernel)
theorem zw_497 : (Jvm.Cond.code ({ cls := "FreightSplits$Hall", name := "sendOff", desc := "(I)I" } : Jvm.MethodName) prog_3_method_13_code (5 : Nat) (Option.some Jvm.ClassFile.FieldType.int)) ∈ zgw := zgw_at 497 (by decide +kernel) (by decide +kernel)
theorem zw_498 : (Jvm.Cond.methodLink "FreightSplitsLaw" (49 : Nat) ({ cls := "FreightSplits", name := "offer", desc := "(IIIII)I" } : Jvm.MethodName)) ∈ zgw := zgw_at 498 (by decide +kernel) (by decide +kernel)
theorem zw_499 : (Jvm.Cond.instanceMethod ({ cls := "FreightSplits", name := "offer", desc := "(IIIII)I" } : Jvm.MethodName)) ∈ zgw := zgw_at 499 (by decide +kernel) (by decide +kernel)
theorem zw_500 : (Jvm.Cond.selects "FreightSplits" ({ cls := "FreightSplits", name := "offer", desc := "(IIIII)I" } : Jvm.MethodName) ({ cls := "FreightSplits", name := "offer", desc := "(IIIII)I" } : Jvm.MethodName)) ∈ zgw := zgw_at 500 (by decide +kernel) (by decide +kernel)
theorem zw_501 : (Jvm.Cond.code ({ cls := "FreightSplits", name := "offer", desc := "(IIIII)I" } : Jvm.MethodName) prog_1_method_10_code (6 : Nat) (Option.some Jvm.ClassFile.FieldType.int)) ∈ zgw := zgw_at 501 (by decide +kernel) (by decide +kernel)
theorem zw_502 : (Jvm.Cond.methodLink "FreightSplits" (78 : Nat) ({ cls := "FreightSplits$Hall", name := "makeOffer", desc := "(IIIII)I" } : Jvm.MethodName)) ∈ zgw := zgw_at 502 (by decide +kernel) (by decide +kernel)
theorem zw_503 : (Jvm.Cond.instanceMethod ({ cls := "FreightSplits$Hall", name := "makeOffer", desc := "(IIIII)I" } : Jvm.MethodName)) ∈ zgw := zgw_at 503 (by decide +kernel) (by decide +kernel)
theorem zw_504 : (Jvm.Cond.selects "FreightSplits$Hall" ({ cls := "FreightSplits$Hall", name := "makeOffer", desc := "(IIIII)I" } : Jvm.MethodName) ({ cls := "FreightSplits$Hall", name := "makeOffer", desc := "(IIIII)I" } : Jvm.MethodName)) ∈ zgw := zgw_at 504 (by decide +kernel) (by decide +kernel)
theorem zw_505 : (Jvm.Cond.code ({ cls := "FreightSplits$Hall", name := "makeOffer", desc := "(IIIII)I" } : Jvm.MethodName) prog_3_method_14_code (7 : Nat) (Option.some Jvm.ClassFile.FieldType.int)) ∈ zgw := zgw_at 505 (by decide +kernel) (by decide +kernel)
theorem zw_506 : (Jvm.Cond.methodLink "FreightSplitsLaw" (54 : Nat) ({ cls := "FreightSplits", name := "pass", desc := "(I)I" } : Jvm.MethodName)) ∈ zgw := zgw_at 506 (by decide +kernel) (by decide +kernel)
theorem zw_507 : (Jvm.Cond.instanceMethod ({ cls := "FreightSplits", name := "pass", desc := "(I)I" } : Jvm.MethodName)) ∈ zgw := zgw_at 507 (by decide +kernel) (by decide +kernel)
theorem zw_508 : (Jvm.Cond.selects "FreightSplits" ({ cls := "FreightSplits", name := "pass", desc := "(I)I" } : Jvm.MethodName) ({ cls := "FreightSplits", name := "pass", desc := "(I)I" } : Jvm.MethodName)) ∈ zgw := zgw_at 508 (by decide +kernel) (by decide +kernel)
theorem zw_509 : (Jvm.Cond.code ({ cls := "FreightSplits", name := "pass", desc := "(I)I" } : Jvm.MethodName) prog_1_method_11_code (2 : Nat) (Option.some Jvm.ClassFile.FieldType.int)) ∈ zgw := zgw_at 509 (by decide +kernel) (by decide +kernel)
theorem zw_510 : (Jvm.Cond.methodLink "FreightSplits" (82 : Nat) ({ cls := "FreightSplits$Hall", name := "letPass", desc := "(I)I" } : Jvm.MethodName)) ∈ zgw := zgw_at 510 (by decide +kernel) (by decide +kernel)
theorem zw_511 : (Jvm.Cond.instanceMethod ({ cls := "FreightSplits$Hall", name := "letPass", desc := "(I)I" } : Jvm.MethodName)) ∈ zgw := zgw_at 511 (by decide +kernel) (by decide +kernel)
theorem zw_512 : (Jvm.Cond.selects "FreightSplits$Hall" ({ cls := "FreightSplits$Hall", name := "letPass", desc := "(I)I" } : Jvm.MethodName) ({ cls := "FreightSplits$Hall", name := "letPass", desc := "(I)I" } : Jvm.MethodName)) ∈ zgw := zgw_at 512 (by decide +kernel) (by decide +kernel)
theorem zw_513 : (Jvm.Cond.code ({ cls := "FreightSplits$Hall", name := "letPass", desc := "(I)I" } : Jvm.MethodName) prog_3_method_15_code (4 : Nat) (Option.some Jvm.ClassFile.FieldType.int)) ∈ zgw := zgw_at 513 (by decide +kernel) (by decide +kernel)
theorem zw_514 : (Jvm.Cond.methodLink "FreightSplits$Hall" (198 : Nat) ({ cls := "FreightSplits$Hall", name := "moveVehicles", desc := "()I" } : Jvm.MethodName)) ∈ zgw := zgw_at 514 (by decide +kernel) (by decide +kernel)
theorem zw_515 : (Jvm.Cond.instanceMethod ({ cls := "FreightSplits$Hall", name := "moveVehicles", desc := "()I" } : Jvm.MethodName)) ∈ zgw := zgw_at 515 (by decide +kernel) (by decide +kernel)
theorem zw_516 : (Jvm.Cond.selects "FreightSplits$Hall" ({ cls := "FreightSplits$Hall", name := "moveVehicles", desc := "()I" } : Jvm.MethodName) ({ cls := "FreightSplits$Hall", name := "moveVehicles", desc := "()I" } : Jvm.MethodName)) ∈ zgw := zgw_at 516 (by decide +kernel) (by decide +kernel)
theorem zw_517 : (Jvm.Cond.code ({ cls := "FreightSplits$Hall", name := "moveVehicles", desc := "()I" } : Jvm.MethodName) prog_3_method_19_code (4 : Nat) (Option.some Jvm.ClassFile.FieldType.int)) ∈ zgw := zgw_at 517 (by decide +kernel) (by decide +kernel)
theorem zw_518 : (Jvm.Cond.methodLink "FreightSplits$Hall" (215 : Nat) ({ cls := "FreightSplits$Hall", name := "deliverLoad", desc := "(LFreightSplits$Vehicle;)I" } : Jvm.MethodName)) ∈ zgw := zgw_at 518 (by decide +kernel) (by decide +kernel)
theorem zw_519 : (Jvm.Cond.instanceMethod ({ cls := "FreightSplits$Hall", name := "deliverLoad", desc := "(LFreightSplits$Vehicle;)I" } : Jvm.MethodName)) ∈ zgw := zgw_at 519 (by decide +kernel) (by decide +kernel)
theorem zw_520 : (Jvm.Cond.selects "FreightSplits$Hall" ({ cls := "FreightSplits$Hall", name := "deliverLoad", desc := "(LFreightSplits$Vehicle;)I" } : Jvm.MethodName) ({ cls := "FreightSplits$Hall", name := "deliverLoad", desc := "(LFreightSplits$Vehicle;)I" } : Jvm.MethodName)) ∈ zgw := zgw_at 520 (by decide +kernel) (by decide +kernel)
theorem zw_521 : (Jvm.Cond.code ({ cls := "FreightSplits$Hall", name := "deliverLoad", desc := "(LFreightSplits$Vehicle;)I" } : Jvm.MethodName) prog_3_method_20_code (5 : Nat) (Option.some Jvm.ClassFile.FieldType.int)) ∈ zgw := zgw_at 521 (by decide +kernel) (by decide +kernel)
theorem zw_522 : (Jvm.Cond.methodLink "FreightSplits$Hall" (218 : Nat) ({ cls := "FreightSplits$Hall", name := "takeOffers", desc := "(LFreightSplits$Vehicle;)V" } : Jvm.MethodName)) ∈ zgw := zgw_at 522 (by decide +kernel) (by decide +kernel)
theorem zw_523 : (Jvm.Cond.instanceMethod ({ cls := "FreightSplits$Hall", name := "takeOffers", desc := "(LFreightSplits$Vehicle;)V" } : Jvm.MethodName)) ∈ zgw := zgw_at 523 (by decide +kernel) (by decide +kernel)
theorem zw_524 : (Jvm.Cond.selects "FreightSplits$Hall" ({ cls := "FreightSplits$Hall", name := "takeOffers", desc := "(LFreightSplits$Vehicle;)V" } : Jvm.MethodName) ({ cls := "FreightSplits$Hall", name := "takeOffers", desc := "(LFreightSplits$Vehicle;)V" } : Jvm.MethodName)) ∈ zgw := zgw_at 524 (by decide +kernel) (by decide +kernel)
theorem zw_525 : (Jvm.Cond.code ({ cls := "FreightSplits$Hall", name := "takeOffers", desc := "(LFreightSplits$Vehicle;)V" } : Jvm.MethodName) prog_3_method_21_code (6 : Nat) (Option.none : Option Jvm.ClassFile.FieldType)) ∈ zgw := zgw_at 525 (by decide +kernel) (by decide +kernel)
theorem zw_526 : (Jvm.Cond.methodLink "FreightSplits$Hall" (227 : Nat) ({ cls := "FreightSplits$Hall", name := "bestOffer", desc := "(III)I" } : Jvm.MethodName)) ∈ zgw := zgw_at 526 (by decide +kernel) (by decide +kernel)
theorem zw_527 : (Jvm.Cond.instanceMethod ({ cls := "FreightSplits$Hall", name := "bestOffer", desc := "(III)I" } : Jvm.MethodName)) ∈ zgw := zgw_at 527 (by decide +kernel) (by decide +kernel)
theorem zw_528 : (Jvm.Cond.selects "FreightSplits$Hall" ({ cls := "FreightSplits$Hall", name := "bestOffer", desc := "(III)I" } : Jvm.MethodName) ({ cls := "FreightSplits$Hall", name := "bestOffer", desc := "(III)I" } : Jvm.MethodName)) ∈ zgw := zgw_at 528 (by decide +kernel) (by decide +kernel)
theorem zw_529 : (Jvm.Cond.code ({ cls := "FreightSplits$Hall", name := "bestOffer", desc := "(III)I" } : Jvm.MethodName) prog_3_method_22_code (9 : Nat) (Option.some Jvm.ClassFile.FieldType.int)) ∈ zgw := zgw_at 529 (by decide +kernel) (by decide +kernel)
theorem zw_530 : (Jvm.Cond.methodLink "FreightSplits$Hall" (231 : Nat) ({ cls := "FreightSplits$Hall", name := "removeOffer", desc := "(I)V" } : Jvm.MethodName)) ∈ zgw := zgw_at 530 (by decide +kernel) (by decide +kernel)
theorem zw_531 : (Jvm.Cond.instanceMethod ({ cls := "FreightSplits$Hall", name := "removeOffer", desc := "(I)V" } : Jvm.MethodName)) ∈ zgw := zgw_at 531 (by decide +kernel) (by decide +kernel)
theorem zw_532 : (Jvm.Cond.selects "FreightSplits$Hall" ({ cls := "FreightSplits$Hall", name := "removeOffer", desc := "(I)V" } : Jvm.MethodName) ({ cls := "FreightSplits$Hall", name := "removeOffer", desc := "(I)V" } : Jvm.MethodName)) ∈ zgw := zgw_at 532 (by decide +kernel) (by decide +kernel)
theorem zw_533 : (Jvm.Cond.code ({ cls := "FreightSplits$Hall", name := "removeOffer", desc := "(I)V" } : Jvm.MethodName) prog_3_method_25_code (4 : Nat) (Option.none : Option Jvm.ClassFile.FieldType)) ∈ zgw := zgw_at 533 (by decide +kernel) (by decide +kernel)
theorem zw_534 : (Jvm.Cond.methodLink "FreightSplits$Hall" (221 : Nat) ({ cls := "FreightSplits$Hall", name := "comeBack", desc := "(LFreightSplits$Vehicle;)V" } : Jvm.MethodName)) ∈ zgw := zgw_at 534 (by decide +kernel) (by decide +kernel)
theorem zw_535 : (Jvm.Cond.instanceMethod ({ cls := "FreightSplits$Hall", name := "comeBack", desc := "(LFreightSplits$Vehicle;)V" } : Jvm.MethodName)) ∈ zgw := zgw_at 535 (by decide +kernel) (by decide +kernel)
theorem zw_536 : (Jvm.Cond.selects "FreightSplits$Hall" ({ cls := "FreightSplits$Hall", name := "comeBack", desc := "(LFreightSplits$Vehicle;)V" } : Jvm.MethodName) ({ cls := "FreightSplits$Hall", name := "comeBack", desc := "(LFreightSplits$Vehicle;)V" } : Jvm.MethodName)) ∈ zgw := zgw_at 536 (by decide +kernel) (by decide +kernel)
theorem zw_537 : (Jvm.Cond.code ({ cls := "FreightSplits$Hall", name := "comeBack", desc := "(LFreightSplits$Vehicle;)V" } : Jvm.MethodName) prog_3_method_23_code (2 : Nat) (Option.none : Option Jvm.ClassFile.FieldType)) ∈ zgw := zgw_at 537 (by decide +kernel) (by decide +kernel)
theorem zw_538 : (Jvm.Cond.methodLink "FreightSplits$Hall" (202 : Nat) ({ cls := "FreightSplits$Hall", name := "dropOldOffers", desc := "()V" } : Jvm.MethodName)) ∈ zgw := zgw_at 538 (by decide +kernel) (by decide +kernel)
theorem zw_539 : (Jvm.Cond.instanceMethod ({ cls := "FreightSplits$Hall", name := "dropOldOffers", desc := "()V" } : Jvm.MethodName)) ∈ zgw := zgw_at 539 (by decide +kernel) (by decide +kernel)
theorem zw_540 : (Jvm.Cond.selects "FreightSplits$Hall" ({ cls := "FreightSplits$Hall", name := "dropOldOffers", desc := "()V" } : Jvm.MethodName) ({ cls := "FreightSplits$Hall", name := "dropOldOffers", desc := "()V" } : Jvm.MethodName)) ∈ zgw := zgw_at 540 (by decide +kernel) (by decide +kernel)
theorem zw_541 : (Jvm.Cond.code ({ cls := "FreightSplits$Hall", name := "dropOldOffers", desc := "()V" } : Jvm.MethodName) prog_3_method_24_code (2 : Nat) (Option.none : Option Jvm.ClassFile.FieldType)) ∈ zgw := zgw_at 541 (by decide +kernel) (by decide +kernel)
theorem zw_542 : (Jvm.Cond.methodLink "FreightSplits$Hall" (205 : Nat) ({ cls := "FreightSplits$Hall", name := "payFees", desc := "()V" } : Jvm.MethodName)) ∈ zgw := zgw_at 542 (by decide +kernel) (by decide +kernel)
theorem zw_543 : (Jvm.Cond.instanceMethod ({ cls := "FreightSplits$Hall", name := "payFees", desc := "()V" } : Jvm.MethodName)) ∈ zgw := zgw_at 543 (by decide +kernel) (by decide +kernel)
theorem zw_544 : (Jvm.Cond.selects "FreightSplits$Hall" ({ cls := "FreightSplits$Hall", name := "payFees", desc := "()V" } : Jvm.MethodName) ({ cls := "FreightSplits$Hall", name := "payFees", desc := "()V" } : Jvm.MethodName)) ∈ zgw := zgw_at 544 (by decide +kernel) (by decide +kernel)
theorem zw_545 : (Jvm.Cond.code ({ cls := "FreightSplits$Hall", name := "payFees", desc := "()V" } : Jvm.MethodName) prog_3_method_26_code (3 : Nat) (Option.none : Option Jvm.ClassFile.FieldType)) ∈ zgw := zgw_at 545 (by decide +kernel) (by decide +kernel)
theorem zw_546 : (Jvm.Cond.methodLink "FreightSplits$Hall" (234 : Nat) ({ cls := "FreightSplits$Consignment", name := "isInHall", desc := "()Z" } : Jvm.MethodName)) ∈ zgw := zgw_at 546 (by decide +kernel) (by decide +kernel)
theorem zw_547 : (Jvm.Cond.instanceMethod ({ cls := "FreightSplits$Consignment", name := "isInHall", desc := "()Z" } : Jvm.MethodName)) ∈ zgw := zgw_at 547 (by decide +kernel) (by decide +kernel)
theorem zw_548 : (Jvm.Cond.selects "FreightSplits$Consignment" ({ cls := "FreightSplits$Consignment", name := "isInHall", desc := "()Z" } : Jvm.MethodName) ({ cls := "FreightSplits$Consignment", name := "isInHall", desc := "()Z" } : Jvm.MethodName)) ∈ zgw := zgw_at 548 (by decide +kernel) (by decide +kernel)
theorem zw_549 : (Jvm.Cond.code ({ cls := "FreightSplits$Consignment", name := "isInHall", desc := "()Z" } : Jvm.MethodName) prog_2_method_5_code (1 : Nat) (Option.some Jvm.ClassFile.FieldType.boolean)) ∈ zgw := zgw_at 549 (by decide +kernel) (by decide +kernel)
theorem zw_550 : (Jvm.Cond.methodLink "FreightSplitsLaw" (58 : Nat) ({ cls := "FreightSplits", name := "set", desc := "(II)I" } : Jvm.MethodName)) ∈ zgw := zgw_at 550 (by decide +kernel) (by decide +kernel)
theorem zw_551 : (Jvm.Cond.instanceMethod ({ cls := "FreightSplits", name := "set", desc := "(II)I" } : Jvm.MethodName)) ∈ zgw := zgw_at 551 (by decide +kernel) (by decide +kernel)
theorem zw_552 : (Jvm.Cond.selects "FreightSplits" ({ cls := "FreightSplits", name := "set", desc := "(II)I" } : Jvm.MethodName) ({ cls := "FreightSplits", name := "set", desc := "(II)I" } : Jvm.MethodName)) ∈ zgw := zgw_at 552 (by decide +kernel) (by decide +kernel)
theorem zw_553 : (Jvm.Cond.code ({ cls := "FreightSplits", name := "set", desc := "(II)I" } : Jvm.MethodName) prog_1_method_12_code (3 : Nat) (Option.some Jvm.ClassFile.FieldType.int)) ∈ zgw := zgw_at 553 (by decide +kernel) (by decide +kernel)
theorem zw_554 : (Jvm.Cond.methodLink "FreightSplits" (85 : Nat) ({ cls := "FreightSplits$Hall", name := "changeSetting", desc := "(II)I" } : Jvm.MethodName)) ∈ zgw := zgw_at 554 (by decide +kernel) (by decide +kernel)
theorem zw_555 : (Jvm.Cond.instanceMethod ({ cls := "FreightSplits$Hall", name := "changeSetting", desc := "(II)I" } : Jvm.MethodName)) ∈ zgw := zgw_at 555 (by decide +kernel) (by decide +kernel)
theorem zw_556 : (Jvm.Cond.selects "FreightSplits$Hall" ({ cls := "FreightSplits$Hall", name := "changeSetting", desc := "(II)I" } : Jvm.MethodName) ({ cls := "FreightSplits$Hall", name := "changeSetting", desc := "(II)I" } : Jvm.MethodName)) ∈ zgw := zgw_at 556 (by decide +kernel) (by decide +kernel)
theorem zw_557 : (Jvm.Cond.code ({ cls := "FreightSplits$Hall", name := "changeSetting", desc := "(II)I" } : Jvm.MethodName) prog_3_method_16_code (4 : Nat) (Option.some Jvm.ClassFile.FieldType.int)) ∈ zgw := zgw_at 557 (by decide +kernel) (by decide +kernel)
theorem zw_558 : (Jvm.Cond.methodLink "FreightSplits$Hall" (208 : Nat) ({ cls := "FreightSplits$Hall", name := "leastOfSetting", desc := "(I)I" } : Jvm.MethodName)) ∈ zgw := zgw_at 558 (by decide +kernel) (by decide +kernel)
theorem zw_559 : (Jvm.Cond.static ({ cls := "FreightSplits$Hall", name := "leastOfSetting", desc := "(I)I" } : Jvm.MethodName)) ∈ zgw := zgw_at 559 (by decide +kernel) (by decide +kernel)
theorem zw_560 : (Jvm.Cond.code ({ cls := "FreightSplits$Hall", name := "leastOfSetting", desc := "(I)I" } : Jvm.MethodName) prog_3_method_17_code (1 : Nat) (Option.some Jvm.ClassFile.FieldType.int)) ∈ zgw := zgw_at 560 (by decide +kernel) (by decide +kernel)
theorem zw_561 : (Jvm.Cond.methodLink "FreightSplits$Hall" (212 : Nat) ({ cls := "FreightSplits$Hall", name := "mostOfSetting", desc := "(I)I" } : Jvm.MethodName)) ∈ zgw := zgw_at 561 (by decide +kernel) (by decide +kernel)
theorem zw_562 : (Jvm.Cond.static ({ cls := "FreightSplits$Hall", name := "mostOfSetting", desc := "(I)I" } : Jvm.MethodName)) ∈ zgw := zgw_at 562 (by decide +kernel) (by decide +kernel)
theorem zw_563 : (Jvm.Cond.code ({ cls := "FreightSplits$Hall", name := "mostOfSetting", desc := "(I)I" } : Jvm.MethodName) prog_3_method_18_code (1 : Nat) (Option.some Jvm.ClassFile.FieldType.int)) ∈ zgw := zgw_at 563 (by decide +kernel) (by decide +kernel)
theorem zw_564 : (Jvm.Cond.methodLink "FreightSplitsLaw" (62 : Nat) ({ cls := "FreightSplits", name := "consignmentOf", desc := "(II)I" } : Jvm.MethodName)) ∈ zgw := zgw_at 564 (by decide +kernel) (by decide +kernel)
theorem zw_565 : (Jvm.Cond.instanceMethod ({ cls := "FreightSplits", name := "consignmentOf", desc := "(II)I" } : Jvm.MethodName)) ∈ zgw := zgw_at 565 (by decide +kernel) (by decide +kernel)
theorem zw_566 : (Jvm.Cond.selects "FreightSplits" ({ cls := "FreightSplits", name := "consignmentOf", desc := "(II)I" } : Jvm.MethodName) ({ cls := "FreightSplits", name := "consignmentOf", desc := "(II)I" } : Jvm.MethodName)) ∈ zgw := zgw_at 566 (by decide +kernel) (by decide +kernel)
theorem zw_567 : (Jvm.Cond.code ({ cls := "FreightSplits", name := "consignmentOf", desc := "(II)I" } : Jvm.MethodName) prog_1_method_13_code (4 : Nat) (Option.some Jvm.ClassFile.FieldType.int)) ∈ zgw := zgw_at 567 (by decide +kernel) (by decide +kernel)
theorem zw_568 : (Jvm.Cond.methodLink "FreightSplits" (88 : Nat) ({ cls := "FreightSplits$Hall", name := "consignmentAt", desc := "(I)LFreightSplits$Consignment;" } : Jvm.MethodName)) ∈ zgw := zgw_at 568 (by decide +kernel) (by decide +kernel)
theorem zw_569 : (Jvm.Cond.constant "FreightSplits" (119 : Nat) (-1000004 : Int32)) ∈ zgw := zgw_at 569 (by decide +kernel) (by decide +kernel)
theorem zw_570 : (Jvm.Cond.methodLink "FreightSplits" (126 : Nat) ({ cls := "FreightSplits$Hall", name := "partsOf", desc := "(I)I" } : Jvm.MethodName)) ∈ zgw := zgw_at 570 (by decide +kernel) (by decide +kernel)
theorem zw_571 : (Jvm.Cond.instanceMethod ({ cls := "FreightSplits$Hall", name := "partsOf", desc := "(I)I" } : Jvm.MethodName)) ∈ zgw := zgw_at 571 (by decide +kernel) (by decide +kernel)
theorem zw_572 : (Jvm.Cond.selects "FreightSplits$Hall" ({ cls := "FreightSplits$Hall", name := "partsOf", desc := "(I)I" } : Jvm.MethodName) ({ cls := "FreightSplits$Hall", name := "partsOf", desc := "(I)I" } : Jvm.MethodName)) ∈ zgw := zgw_at 572 (by decide +kernel) (by decide +kernel)
theorem zw_573 : (Jvm.Cond.code ({ cls := "FreightSplits$Hall", name := "partsOf", desc := "(I)I" } : Jvm.MethodName) prog_3_method_32_code (5 : Nat) (Option.some Jvm.ClassFile.FieldType.int)) ∈ zgw := zgw_at 573 (by decide +kernel) (by decide +kernel)
theorem zw_574 : (Jvm.Cond.methodLink "FreightSplits" (129 : Nat) ({ cls := "FreightSplits$Consignment", name := "isInHall", desc := "()Z" } : Jvm.MethodName)) ∈ zgw := zgw_at 574 (by decide +kernel) (by decide +kernel)
theorem zw_575 : (Jvm.Cond.methodLink "FreightSplitsLaw" (66 : Nat) ({ cls := "FreightSplits", name := "vehicleOf", desc := "(II)I" } : Jvm.MethodName)) ∈ zgw := zgw_at 575 (by decide +kernel) (by decide +kernel)
theorem zw_576 : (Jvm.Cond.instanceMethod ({ cls := "FreightSplits", name := "vehicleOf", desc := "(II)I" } : Jvm.MethodName)) ∈ zgw := zgw_at 576 (by decide +kernel) (by decide +kernel)
theorem zw_577 : (Jvm.Cond.selects "FreightSplits" ({ cls := "FreightSplits", name := "vehicleOf", desc := "(II)I" } : Jvm.MethodName) ({ cls := "FreightSplits", name := "vehicleOf", desc := "(II)I" } : Jvm.MethodName)) ∈ zgw := zgw_at 577 (by decide +kernel) (by decide +kernel)
theorem zw_578 : (Jvm.Cond.code ({ cls := "FreightSplits", name := "vehicleOf", desc := "(II)I" } : Jvm.MethodName) prog_1_method_14_code (4 : Nat) (Option.some Jvm.ClassFile.FieldType.int)) ∈ zgw := zgw_at 578 (by decide +kernel) (by decide +kernel)
theorem zw_579 : (Jvm.Cond.methodLink "FreightSplits" (142 : Nat) ({ cls := "FreightSplits$Hall", name := "vehicleAt", desc := "(I)LFreightSplits$Vehicle;" } : Jvm.MethodName)) ∈ zgw := zgw_at 579 (by decide +kernel) (by decide +kernel)
theorem zw_580 : (Jvm.Cond.methodLink "FreightSplits" (155 : Nat) ({ cls := "FreightSplits$Hall", name := "loadSize", desc := "(LFreightSplits$Vehicle;)I" } : Jvm.MethodName)) ∈ zgw := zgw_at 580 (by decide +kernel) (by decide +kernel)
theorem zw_581 : (Jvm.Cond.methodLink "FreightSplits" (159 : Nat) ({ cls := "FreightSplits$Hall", name := "loadWeight", desc := "(LFreightSplits$Vehicle;)I" } : Jvm.MethodName)) ∈ zgw := zgw_at 581 (by decide +kernel) (by decide +kernel)
theorem zw_582 : (Jvm.Cond.methodLink "FreightSplits" (162 : Nat) ({ cls := "FreightSplits$Hall", name := "loadSet", desc := "(LFreightSplits$Vehicle;)I" } : Jvm.MethodName)) ∈ zgw := zgw_at 582 (by decide +kernel) (by decide +kernel)
theorem zw_583 : (Jvm.Cond.instanceMethod ({ cls := "FreightSplits$Hall", name := "loadSet", desc := "(LFreightSplits$Vehicle;)I" } : Jvm.MethodName)) ∈ zgw := zgw_at 583 (by decide +kernel) (by decide +kernel)
theorem zw_584 : (Jvm.Cond.selects "FreightSplits$Hall" ({ cls := "FreightSplits$Hall", name := "loadSet", desc := "(LFreightSplits$Vehicle;)I" } : Jvm.MethodName) ({ cls := "FreightSplits$Hall", name := "loadSet", desc := "(LFreightSplits$Vehicle;)I" } : Jvm.MethodName)) ∈ zgw := zgw_at 584 (by decide +kernel) (by decide +kernel)
theorem zw_585 : (Jvm.Cond.code ({ cls := "FreightSplits$Hall", name := "loadSet", desc := "(LFreightSplits$Vehicle;)I" } : Jvm.MethodName) prog_3_method_30_code (4 : Nat) (Option.some Jvm.ClassFile.FieldType.int)) ∈ zgw := zgw_at 585 (by decide +kernel) (by decide +kernel)
theorem zw_586 : (Jvm.Cond.methodLink "FreightSplits" (165 : Nat) ({ cls := "FreightSplits", name := "placeOf", desc := "(LFreightSplits$Vehicle;)I" } : Jvm.MethodName)) ∈ zgw := zgw_at 586 (by decide +kernel) (by decide +kernel)
theorem zw_588 : (Jvm.Cond.instanceMethod ({ cls := "FreightSplits", name := "placeOf", desc := "(LFreightSplits$Vehicle;)I" } : Jvm.MethodName)) ∈ zgw := zgw_at 588 (by decide +kernel) (by decide +kernel)
theorem zw_589 : (Jvm.Cond.code ({ cls := "FreightSplits", name := "placeOf", desc := "(LFreightSplits$Vehicle;)I" } : Jvm.MethodName) prog_1_method_27_code (3 : Nat) (Option.some Jvm.ClassFile.FieldType.int)) ∈ zgw := zgw_at 589 (by decide +kernel) (by decide +kernel)
theorem zw_590 : (Jvm.Cond.methodLink "FreightSplits" (264 : Nat) ({ cls := "FreightSplits$Hall", name := "loadPlace", desc := "(LFreightSplits$Vehicle;)I" } : Jvm.MethodName)) ∈ zgw := zgw_at 590 (by decide +kernel) (by decide +kernel)
theorem zw_591 : (Jvm.Cond.methodLink "FreightSplitsLaw" (70 : Nat) ({ cls := "FreightSplits", name := "offerOf", desc := "(II)I" } : Jvm.MethodName)) ∈ zgw := zgw_at 591 (by decide +kernel) (by decide +kernel)
theorem zw_592 : (Jvm.Cond.instanceMethod ({ cls := "FreightSplits", name := "offerOf", desc := "(II)I" } : Jvm.MethodName)) ∈ zgw := zgw_at 592 (by decide +kernel) (by decide +kernel)
theorem zw_593 : (Jvm.Cond.selects "FreightSplits" ({ cls := "FreightSplits", name := "offerOf", desc := "(II)I" } : Jvm.MethodName) ({ cls := "FreightSplits", name := "offerOf", desc := "(II)I" } : Jvm.MethodName)) ∈ zgw := zgw_at 593 (by decide +kernel) (by decide +kernel)
theorem zw_594 : (Jvm.Cond.code ({ cls := "FreightSplits", name := "offerOf", desc := "(II)I" } : Jvm.MethodName) prog_1_method_15_code (4 : Nat) (Option.some Jvm.ClassFile.FieldType.int)) ∈ zgw := zgw_at 594 (by decide +kernel) (by decide +kernel)
theorem zw_595 : (Jvm.Cond.methodLink "FreightSplitsLaw" (74 : Nat) ({ cls := "FreightSplits", name := "count", desc := "(I)I" } : Jvm.MethodName)) ∈ zgw := zgw_at 595 (by decide +kernel) (by decide +kernel)
theorem zw_596 : (Jvm.Cond.instanceMethod ({ cls := "FreightSplits", name := "count", desc := "(I)I" } : Jvm.MethodName)) ∈ zgw := zgw_at 596 (by decide +kernel) (by decide +kernel)
theorem zw_597 : (Jvm.Cond.selects "FreightSplits" ({ cls := "FreightSplits", name := "count", desc := "(I)I" } : Jvm.MethodName) ({ cls := "FreightSplits", name := "count", desc := "(I)I" } : Jvm.MethodName)) ∈ zgw := zgw_at 597 (by decide +kernel) (by decide +kernel)
theorem zw_598 : (Jvm.Cond.code ({ cls := "FreightSplits", name := "count", desc := "(I)I" } : Jvm.MethodName) prog_1_method_16_code (2 : Nat) (Option.some Jvm.ClassFile.FieldType.int)) ∈ zgw := zgw_at 598 (by decide +kernel) (by decide +kernel)
theorem zw_599 : (Jvm.Cond.methodLink "FreightSplits" (201 : Nat) ({ cls := "FreightSplits$Hall", name := "hallSet", desc := "()I" } : Jvm.MethodName)) ∈ zgw := zgw_at 599 (by decide +kernel) (by decide +kernel)
theorem zw_600 : (Jvm.Cond.instanceMethod ({ cls := "FreightSplits$Hall", name := "hallSet", desc := "()I" } : Jvm.MethodName)) ∈ zgw := zgw_at 600 (by decide +kernel) (by decide +kernel)
theorem zw_601 : (Jvm.Cond.selects "FreightSplits$Hall" ({ cls := "FreightSplits$Hall", name := "hallSet", desc := "()I" } : Jvm.MethodName) ({ cls := "FreightSplits$Hall", name := "hallSet", desc := "()I" } : Jvm.MethodName)) ∈ zgw := zgw_at 601 (by decide +kernel) (by decide +kernel)
theorem zw_602 : (Jvm.Cond.code ({ cls := "FreightSplits$Hall", name := "hallSet", desc := "()I" } : Jvm.MethodName) prog_3_method_33_code (3 : Nat) (Option.some Jvm.ClassFile.FieldType.int)) ∈ zgw := zgw_at 602 (by decide +kernel) (by decide +kernel)
theorem zw_603 : (Jvm.Cond.methodLink "FreightSplits" (205 : Nat) ({ cls := "FreightSplits$Hall", name := "howManyAre", desc := "(I)I" } : Jvm.MethodName)) ∈ zgw := zgw_at 603 (by decide +kernel) (by decide +kernel)
theorem zw_604 : (Jvm.Cond.instanceMethod ({ cls := "FreightSplits$Hall", name := "howManyAre", desc := "(I)I" } : Jvm.MethodName)) ∈ zgw := zgw_at 604 (by decide +kernel) (by decide +kernel)
theorem zw_605 : (Jvm.Cond.selects "FreightSplits$Hall" ({ cls := "FreightSplits$Hall", name := "howManyAre", desc := "(I)I" } : Jvm.MethodName) ({ cls := "FreightSplits$Hall", name := "howManyAre", desc := "(I)I" } : Jvm.MethodName)) ∈ zgw := zgw_at 605 (by decide +kernel) (by decide +kernel)
theorem zw_606 : (Jvm.Cond.code ({ cls := "FreightSplits$Hall", name := "howManyAre", desc := "(I)I" } : Jvm.MethodName) prog_3_method_35_code (4 : Nat) (Option.some Jvm.ClassFile.FieldType.int)) ∈ zgw := zgw_at 606 (by decide +kernel) (by decide +kernel)
theorem zw_607 : (Jvm.Cond.methodLink "FreightSplits" (226 : Nat) ({ cls := "FreightSplits", name := "settingCount", desc := "(I)I" } : Jvm.MethodName)) ∈ zgw := zgw_at 607 (by decide +kernel) (by decide +kernel)
theorem zw_609 : (Jvm.Cond.instanceMethod ({ cls := "FreightSplits", name := "settingCount", desc := "(I)I" } : Jvm.MethodName)) ∈ zgw := zgw_at 609 (by decide +kernel) (by decide +kernel)
theorem zw_610 : (Jvm.Cond.code ({ cls := "FreightSplits", name := "settingCount", desc := "(I)I" } : Jvm.MethodName) prog_1_method_28_code (2 : Nat) (Option.some Jvm.ClassFile.FieldType.int)) ∈ zgw := zgw_at 610 (by decide +kernel) (by decide +kernel)
theorem zw_611 : (Jvm.Cond.methodLink "FreightSplitsLaw" (78 : Nat) ({ cls := "FreightSplits", name := "wouldFill", desc := "(III)I" } : Jvm.MethodName)) ∈ zgw := zgw_at 611 (by decide +kernel) (by decide +kernel)
theorem zw_612 : (Jvm.Cond.instanceMethod ({ cls := "FreightSplits", name := "wouldFill", desc := "(III)I" } : Jvm.MethodName)) ∈ zgw := zgw_at 612 (by decide +kernel) (by decide +kernel)
theorem zw_613 : (Jvm.Cond.selects "FreightSplits" ({ cls := "FreightSplits", name := "wouldFill", desc := "(III)I" } : Jvm.MethodName) ({ cls := "FreightSplits", name := "wouldFill", desc := "(III)I" } : Jvm.MethodName)) ∈ zgw := zgw_at 613 (by decide +kernel) (by decide +kernel)
theorem zw_614 : (Jvm.Cond.code ({ cls := "FreightSplits", name := "wouldFill", desc := "(III)I" } : Jvm.MethodName) prog_1_method_17_code (4 : Nat) (Option.some Jvm.ClassFile.FieldType.int)) ∈ zgw := zgw_at 614 (by decide +kernel) (by decide +kernel)
theorem zw_615 : (Jvm.Cond.methodLink "FreightSplits" (229 : Nat) ({ cls := "FreightSplits$Hall", name := "copyFrom", desc := "(LFreightSplits$Hall;)V" } : Jvm.MethodName)) ∈ zgw := zgw_at 615 (by decide +kernel) (by decide +kernel)
theorem zw_616 : (Jvm.Cond.methodLink "FreightSplitsLaw" (82 : Nat) ({ cls := "FreightSplits", name := "wouldEarn", desc := "(I)I" } : Jvm.MethodName)) ∈ zgw := zgw_at 616 (by decide +kernel) (by decide +kernel)
theorem zw_617 : (Jvm.Cond.instanceMethod ({ cls := "FreightSplits", name := "wouldEarn", desc := "(I)I" } : Jvm.MethodName)) ∈ zgw := zgw_at 617 (by decide +kernel) (by decide +kernel)
theorem zw_618 : (Jvm.Cond.selects "FreightSplits" ({ cls := "FreightSplits", name := "wouldEarn", desc := "(I)I" } : Jvm.MethodName) ({ cls := "FreightSplits", name := "wouldEarn", desc := "(I)I" } : Jvm.MethodName)) ∈ zgw := zgw_at 618 (by decide +kernel) (by decide +kernel)
theorem zw_619 : (Jvm.Cond.code ({ cls := "FreightSplits", name := "wouldEarn", desc := "(I)I" } : Jvm.MethodName) prog_1_method_18_code (6 : Nat) (Option.some Jvm.ClassFile.FieldType.int)) ∈ zgw := zgw_at 619 (by decide +kernel) (by decide +kernel)
theorem zw_620 : (Jvm.Cond.methodLink "FreightSplits" (232 : Nat) ({ cls := "FreightSplits$Hall", name := "deliverLoad", desc := "(LFreightSplits$Vehicle;)I" } : Jvm.MethodName)) ∈ zgw := zgw_at 620 (by decide +kernel) (by decide +kernel)
theorem zw_621 : (Jvm.Cond.methodLink "FreightSplits" (235 : Nat) ({ cls := "FreightSplits$Hall", name := "takeOffers", desc := "(LFreightSplits$Vehicle;)V" } : Jvm.MethodName)) ∈ zgw := zgw_at 621 (by decide +kernel) (by decide +kernel)
theorem zw_622 : (Jvm.Cond.constant "FreightSplits" (239 : Nat) (4000000 : Int32)) ∈ zgw := zgw_at 622 (by decide +kernel) (by decide +kernel)
theorem zw_623 : (Jvm.Cond.methodLink "FreightSplitsLaw" (86 : Nat) ({ cls := "FreightSplits", name := "hopeless", desc := "()I" } : Jvm.MethodName)) ∈ zgw := zgw_at 623 (by decide +kernel) (by decide +kernel)
theorem zw_624 : (Jvm.Cond.instanceMethod ({ cls := "FreightSplits", name := "hopeless", desc := "()I" } : Jvm.MethodName)) ∈ zgw := zgw_at 624 (by decide +kernel) (by decide +kernel)
theorem zw_625 : (Jvm.Cond.selects "FreightSplits" ({ cls := "FreightSplits", name := "hopeless", desc := "()I" } : Jvm.MethodName) ({ cls := "FreightSplits", name := "hopeless", desc := "()I" } : Jvm.MethodName)) ∈ zgw := zgw_at 625 (by decide +kernel) (by decide +kernel)
theorem zw_626 : (Jvm.Cond.code ({ cls := "FreightSplits", name := "hopeless", desc := "()I" } : Jvm.MethodName) prog_1_method_19_code (1 : Nat) (Option.some Jvm.ClassFile.FieldType.int)) ∈ zgw := zgw_at 626 (by decide +kernel) (by decide +kernel)
theorem zw_627 : (Jvm.Cond.methodLink "FreightSplits" (240 : Nat) ({ cls := "FreightSplits$Hall", name := "hopelessSet", desc := "()I" } : Jvm.MethodName)) ∈ zgw := zgw_at 627 (by decide +kernel) (by decide +kernel)
theorem zw_628 : (Jvm.Cond.instanceMethod ({ cls := "FreightSplits$Hall", name := "hopelessSet", desc := "()I" } : Jvm.MethodName)) ∈ zgw := zgw_at 628 (by decide +kernel) (by decide +kernel)
theorem zw_629 : (Jvm.Cond.selects "FreightSplits$Hall" ({ cls := "FreightSplits$Hall", name := "hopelessSet", desc := "()I" } : Jvm.MethodName) ({ cls := "FreightSplits$Hall", name := "hopelessSet", desc := "()I" } : Jvm.MethodName)) ∈ zgw := zgw_at 629 (by decide +kernel) (by decide +kernel)
theorem zw_630 : (Jvm.Cond.code ({ cls := "FreightSplits$Hall", name := "hopelessSet", desc := "()I" } : Jvm.MethodName) prog_3_method_34_code (5 : Nat) (Option.some Jvm.ClassFile.FieldType.int)) ∈ zgw := zgw_at 630 (by decide +kernel) (by decide +kernel)
theorem zw_631 : (Jvm.Cond.methodLink "FreightSplitsLaw" (91 : Nat) ({ cls := "FreightSplits", name := "undo", desc := "()I" } : Jvm.MethodName)) ∈ zgw := zgw_at 631 (by decide +kernel) (by decide +kernel)
theorem zw_632 : (Jvm.Cond.instanceMethod ({ cls := "FreightSplits", name := "undo", desc := "()I" } : Jvm.MethodName)) ∈ zgw := zgw_at 632 (by decide +kernel) (by decide +kernel)
theorem zw_633 : (Jvm.Cond.selects "FreightSplits" ({ cls := "FreightSplits", name := "undo", desc := "()I" } : Jvm.MethodName) ({ cls := "FreightSplits", name := "undo", desc := "()I" } : Jvm.MethodName)) ∈ zgw := zgw_at 633 (by decide +kernel) (by decide +kernel)
theorem zw_634 : (Jvm.Cond.code ({ cls := "FreightSplits", name := "undo", desc := "()I" } : Jvm.MethodName) prog_1_method_20_code (1 : Nat) (Option.some Jvm.ClassFile.FieldType.int)) ∈ zgw := zgw_at 634 (by decide +kernel) (by decide +kernel)
theorem zw_635 : (Jvm.Cond.methodLink "FreightSplits" (243 : Nat) ({ cls := "FreightSplits$History", name := "restore", desc := "(LFreightSplits$Hall;)I" } : Jvm.MethodName)) ∈ zgw := zgw_at 635 (by decide +kernel) (by decide +kernel)
theorem zw_636 : (Jvm.Cond.instanceMethod ({ cls := "FreightSplits$History", name := "restore", desc := "(LFreightSplits$Hall;)I" } : Jvm.MethodName)) ∈ zgw := zgw_at 636 (by decide +kernel) (by decide +kernel)
theorem zw_637 : (Jvm.Cond.selects "FreightSplits$History" ({ cls := "FreightSplits$History", name := "restore", desc := "(LFreightSplits$Hall;)I" } : Jvm.MethodName) ({ cls := "FreightSplits$History", name := "restore", desc := "(LFreightSplits$Hall;)I" } : Jvm.MethodName)) ∈ zgw := zgw_at 637 (by decide +kernel) (by decide +kernel)
theorem zw_638 : (Jvm.Cond.code ({ cls := "FreightSplits$History", name := "restore", desc := "(LFreightSplits$Hall;)I" } : Jvm.MethodName) prog_4_method_4_code (2 : Nat) (Option.some Jvm.ClassFile.FieldType.int)) ∈ zgw := zgw_at 638 (by decide +kernel) (by decide +kernel)
theorem zw_639 : (Jvm.Cond.constant "FreightSplits$History" (29 : Nat) (-1000002 : Int32)) ∈ zgw := zgw_at 639 (by decide +kernel) (by decide +kernel)
theorem zw_640 : (Jvm.Cond.methodLink "FreightSplitsLaw" (95 : Nat) ({ cls := "FreightSplits", name := "type", desc := "(I)I" } : Jvm.MethodName)) ∈ zgw := zgw_at 640 (by decide +kernel) (by decide +kernel)
theorem zw_641 : (Jvm.Cond.instanceMethod ({ cls := "FreightSplits", name := "type", desc := "(I)I" } : Jvm.MethodName)) ∈ zgw := zgw_at 641 (by decide +kernel) (by decide +kernel)
theorem zw_642 : (Jvm.Cond.selects "FreightSplits" ({ cls := "FreightSplits", name := "type", desc := "(I)I" } : Jvm.MethodName) ({ cls := "FreightSplits", name := "type", desc := "(I)I" } : Jvm.MethodName)) ∈ zgw := zgw_at 642 (by decide +kernel) (by decide +kernel)
theorem zw_643 : (Jvm.Cond.code ({ cls := "FreightSplits", name := "type", desc := "(I)I" } : Jvm.MethodName) prog_1_method_21_code (2 : Nat) (Option.some Jvm.ClassFile.FieldType.int)) ∈ zgw := zgw_at 643 (by decide +kernel) (by decide +kernel)
theorem zw_644 : (Jvm.Cond.methodLink "FreightSplits" (247 : Nat) ({ cls := "FreightSplits$Script", name := "append", desc := "(C)I" } : Jvm.MethodName)) ∈ zgw := zgw_at 644 (by decide +kernel) (by decide +kernel)
theorem zw_645 : (Jvm.Cond.instanceMethod ({ cls := "FreightSplits$Script", name := "append", desc := "(C)I" } : Jvm.MethodName)) ∈ zgw := zgw_at 645 (by decide +kernel) (by decide +kernel)
theorem zw_646 : (Jvm.Cond.selects "FreightSplits$Script" ({ cls := "FreightSplits$Script", name := "append", desc := "(C)I" } : Jvm.MethodName) ({ cls := "FreightSplits$Script", name := "append", desc := "(C)I" } : Jvm.MethodName)) ∈ zgw := zgw_at 646 (by decide +kernel) (by decide +kernel)
theorem zw_647 : (Jvm.Cond.code ({ cls := "FreightSplits$Script", name := "append", desc := "(C)I" } : Jvm.MethodName) prog_6_method_2_code (2 : Nat) (Option.some Jvm.ClassFile.FieldType.int)) ∈ zgw := zgw_at 647 (by decide +kernel) (by decide +kernel)
theorem zw_648 : (Jvm.Cond.constant "FreightSplits$Script" (23 : Nat) (-1000003 : Int32)) ∈ zgw := zgw_at 648 (by decide +kernel) (by decide +kernel)
theorem zw_649 : (Jvm.Cond.methodLink "FreightSplitsLaw" (99 : Nat) ({ cls := "FreightSplits", name := "clearText", desc := "()I" } : Jvm.MethodName)) ∈ zgw := zgw_at 649 (by decide +kernel) (by decide +kernel)
theorem zw_650 : (Jvm.Cond.instanceMethod ({ cls := "FreightSplits", name := "clearText", desc := "()I" } : Jvm.MethodName)) ∈ zgw := zgw_at 650 (by decide +kernel) (by decide +kernel)
theorem zw_651 : (Jvm.Cond.selects "FreightSplits" ({ cls := "FreightSplits", name := "clearText", desc := "()I" } : Jvm.MethodName) ({ cls := "FreightSplits", name := "clearText", desc := "()I" } : Jvm.MethodName)) ∈ zgw := zgw_at 651 (by decide +kernel) (by decide +kernel)
theorem zw_652 : (Jvm.Cond.code ({ cls := "FreightSplits", name := "clearText", desc := "()I" } : Jvm.MethodName) prog_1_method_22_code (2 : Nat) (Option.some Jvm.ClassFile.FieldType.int)) ∈ zgw := zgw_at 652 (by decide +kernel) (by decide +kernel)
theorem zw_653 : (Jvm.Cond.methodLink "FreightSplitsLaw" (103 : Nat) ({ cls := "FreightSplits", name := "fault", desc := "(I)I" } : Jvm.MethodName)) ∈ zgw := zgw_at 653 (by decide +kernel) (by decide +kernel)
theorem zw_654 : (Jvm.Cond.instanceMethod ({ cls := "FreightSplits", name := "fault", desc := "(I)I" } : Jvm.MethodName)) ∈ zgw := zgw_at 654 (by decide +kernel) (by decide +kernel)
theorem zw_655 : (Jvm.Cond.selects "FreightSplits" ({ cls := "FreightSplits", name := "fault", desc := "(I)I" } : Jvm.MethodName) ({ cls := "FreightSplits", name := "fault", desc := "(I)I" } : Jvm.MethodName)) ∈ zgw := zgw_at 655 (by decide +kernel) (by decide +kernel)
theorem zw_656 : (Jvm.Cond.code ({ cls := "FreightSplits", name := "fault", desc := "(I)I" } : Jvm.MethodName) prog_1_method_23_code (2 : Nat) (Option.some Jvm.ClassFile.FieldType.int)) ∈ zgw := zgw_at 656 (by decide +kernel) (by decide +kernel)
theorem zw_657 : (Jvm.Cond.methodLink "FreightSplits" (251 : Nat) ({ cls := "FreightSplits", name := "tryText", desc := "()I" } : Jvm.MethodName)) ∈ zgw := zgw_at 657 (by decide +kernel) (by decide +kernel)
theorem zw_659 : (Jvm.Cond.instanceMethod ({ cls := "FreightSplits", name := "tryText", desc := "()I" } : Jvm.MethodName)) ∈ zgw := zgw_at 659 (by decide +kernel) (by decide +kernel)
theorem zw_660 : (Jvm.Cond.code ({ cls := "FreightSplits", name := "tryText", desc := "()I" } : Jvm.MethodName) prog_1_method_29_code (3 : Nat) (Option.some Jvm.ClassFile.FieldType.int)) ∈ zgw := zgw_at 660 (by decide +kernel) (by decide +kernel)
theorem zw_661 : (Jvm.Cond.methodLink "FreightSplits" (272 : Nat) ({ cls := "FreightSplits$Script", name := "readCommand", desc := "(I)Z" } : Jvm.MethodName)) ∈ zgw := zgw_at 661 (by decide +kernel) (by decide +kernel)
theorem zw_662 : (Jvm.Cond.instanceMethod ({ cls := "FreightSplits$Script", name := "readCommand", desc := "(I)Z" } : Jvm.MethodName)) ∈ zgw := zgw_at 662 (by decide +kernel) (by decide +kernel)
theorem zw_663 : (Jvm.Cond.selects "FreightSplits$Script" ({ cls := "FreightSplits$Script", name := "readCommand", desc := "(I)Z" } : Jvm.MethodName) ({ cls := "FreightSplits$Script", name := "readCommand", desc := "(I)Z" } : Jvm.MethodName)) ∈ zgw := zgw_at 663 (by decide +kernel) (by decide +kernel)
theorem zw_664 : (Jvm.Cond.code ({ cls := "FreightSplits$Script", name := "readCommand", desc := "(I)Z" } : Jvm.MethodName) prog_6_method_3_code (4 : Nat) (Option.some Jvm.ClassFile.FieldType.boolean)) ∈ zgw := zgw_at 664 (by decide +kernel) (by decide +kernel)
theorem zw_665 : (Jvm.Cond.methodLink "FreightSplits$Script" (24 : Nat) ({ cls := "FreightSplits$Script", name := "verbAt", desc := "(I)I" } : Jvm.MethodName)) ∈ zgw := zgw_at 665 (by decide +kernel) (by decide +kernel)
theorem zw_666 : (Jvm.Cond.instanceMethod ({ cls := "FreightSplits$Script", name := "verbAt", desc := "(I)I" } : Jvm.MethodName)) ∈ zgw := zgw_at 666 (by decide +kernel) (by decide +kernel)
theorem zw_667 : (Jvm.Cond.selects "FreightSplits$Script" ({ cls := "FreightSplits$Script", name := "verbAt", desc := "(I)I" } : Jvm.MethodName) ({ cls := "FreightSplits$Script", name := "verbAt", desc := "(I)I" } : Jvm.MethodName)) ∈ zgw := zgw_at 667 (by decide +kernel) (by decide +kernel)
theorem zw_668 : (Jvm.Cond.code ({ cls := "FreightSplits$Script", name := "verbAt", desc := "(I)I" } : Jvm.MethodName) prog_6_method_4_code (3 : Nat) (Option.some Jvm.ClassFile.FieldType.int)) ∈ zgw := zgw_at 668 (by decide +kernel) (by decide +kernel)
theorem zw_669 : (Jvm.Cond.methodLink "FreightSplits$Script" (31 : Nat) ({ cls := "FreightSplits$Script", name := "wordOf", desc := "(I)Ljava/lang/String;" } : Jvm.MethodName)) ∈ zgw := zgw_at 669 (by decide +kernel) (by decide +kernel)
theorem zw_670 : (Jvm.Cond.static ({ cls := "FreightSplits$Script", name := "wordOf", desc := "(I)Ljava/lang/String;" } : Jvm.MethodName)) ∈ zgw := zgw_at 670 (by decide +kernel) (by decide +kernel)
theorem zw_671 : (Jvm.Cond.code ({ cls := "FreightSplits$Script", name := "wordOf", desc := "(I)Ljava/lang/String;" } : Jvm.MethodName) prog_6_method_8_code (1 : Nat) (Option.some (Jvm.ClassFile.FieldType.object "java/lang/String"))) ∈ zgw := zgw_at 671 (by decide +kernel) (by decide +kernel)
theorem zw_680 : (Jvm.Cond.methodLink "FreightSplits$Script" (53 : Nat) ({ cls := "FreightSplits$Script", name := "standsAt", desc := "(Ljava/lang/String;I)Z" } : Jvm.MethodName)) ∈ zgw := zgw_at 680 (by decide +kernel) (by decide +kernel)
theorem zw_681 : (Jvm.Cond.instanceMethod ({ cls := "FreightSplits$Script", name := "standsAt", desc := "(Ljava/lang/String;I)Z" } : Jvm.MethodName)) ∈ zgw := zgw_at 681 (by decide +kernel) (by decide +kernel)
theorem zw_682 : (Jvm.Cond.selects "FreightSplits$Script" ({ cls := "FreightSplits$Script", name := "standsAt", desc := "(Ljava/lang/String;I)Z" } : Jvm.MethodName) ({ cls := "FreightSplits$Script", name := "standsAt", desc := "(Ljava/lang/String;I)Z" } : Jvm.MethodName)) ∈ zgw := zgw_at 682 (by decide +kernel) (by decide +kernel)
theorem zw_683 : (Jvm.Cond.code ({ cls := "FreightSplits$Script", name := "standsAt", desc := "(Ljava/lang/String;I)Z" } : Jvm.MethodName) prog_6_method_5_code (4 : Nat) (Option.some Jvm.ClassFile.FieldType.boolean)) ∈ zgw := zgw_at 683 (by decide +kernel) (by decide +kernel)
theorem zw_684 : (Jvm.Cond.methodLink "FreightSplits$Script" (35 : Nat) ({ cls := "java/lang/String", name := "length", desc := "()I" } : Jvm.MethodName)) ∈ zgw := zgw_at 684 (by decide +kernel) (by decide +kernel)
theorem zw_685 : (Jvm.Cond.instanceMethod ({ cls := "java/lang/String", name := "length", desc := "()I" } : Jvm.MethodName)) ∈ zgw := zgw_at 685 (by decide +kernel) (by decide +kernel)
theorem zw_686 : (Jvm.Cond.selects "java/lang/String" ({ cls := "java/lang/String", name := "length", desc := "()I" } : Jvm.MethodName) ({ cls := "java/lang/String", name := "length", desc := "()I" } : Jvm.MethodName)) ∈ zgw := zgw_at 686 (by decide +kernel) (by decide +kernel)
theorem zw_687 : (Jvm.Cond.code ({ cls := "java/lang/String", name := "length", desc := "()I" } : Jvm.MethodName) prog_12_method_54_code (1 : Nat) (Option.some Jvm.ClassFile.FieldType.int)) ∈ zgw := zgw_at 687 (by decide +kernel) (by decide +kernel)
theorem zw_688 : (Jvm.Cond.methodLink "java/lang/String" (335 : Nat) ({ cls := "java/lang/String", name := "coder", desc := "()B" } : Jvm.MethodName)) ∈ zgw := zgw_at 688 (by decide +kernel) (by decide +kernel)
theorem zw_689 : (Jvm.Cond.instanceMethod ({ cls := "java/lang/String", name := "coder", desc := "()B" } : Jvm.MethodName)) ∈ zgw := zgw_at 689 (by decide +kernel) (by decide +kernel)
theorem zw_690 : (Jvm.Cond.selects "java/lang/String" ({ cls := "java/lang/String", name := "coder", desc := "()B" } : Jvm.MethodName) ({ cls := "java/lang/String", name := "coder", desc := "()B" } : Jvm.MethodName)) ∈ zgw := zgw_at 690 (by decide +kernel) (by decide +kernel)
theorem zw_691 : (Jvm.Cond.code ({ cls := "java/lang/String", name := "coder", desc := "()B" } : Jvm.MethodName) prog_12_method_152_code (1 : Nat) (Option.some Jvm.ClassFile.FieldType.byte)) ∈ zgw := zgw_at 691 (by decide +kernel) (by decide +kernel)
theorem zw_692 : (Jvm.Cond.fieldLink "java/lang/String" (38 : Nat) "java/lang/String" "COMPACT_STRINGS" "Z") ∈ zgw := zgw_at 692 (by decide +kernel) (by decide +kernel)
theorem zw_694 : (Jvm.Cond.methodLink "FreightSplits$Script" (57 : Nat) ({ cls := "java/lang/String", name := "charAt", desc := "(I)C" } : Jvm.MethodName)) ∈ zgw := zgw_at 694 (by decide +kernel) (by decide +kernel)
theorem zw_695 : (Jvm.Cond.instanceMethod ({ cls := "java/lang/String", name := "charAt", desc := "(I)C" } : Jvm.MethodName)) ∈ zgw := zgw_at 695 (by decide +kernel) (by decide +kernel)
theorem zw_696 : (Jvm.Cond.selects "java/lang/String" ({ cls := "java/lang/String", name := "charAt", desc := "(I)C" } : Jvm.MethodName) ({ cls := "java/lang/String", name := "charAt", desc := "(I)C" } : Jvm.MethodName)) ∈ zgw := zgw_at 696 (by decide +kernel) (by decide +kernel)
theorem zw_697 : (Jvm.Cond.code ({ cls := "java/lang/String", name := "charAt", desc := "(I)C" } : Jvm.MethodName) prog_12_method_56_code (2 : Nat) (Option.some Jvm.ClassFile.FieldType.char)) ∈ zgw := zgw_at 697 (by decide +kernel) (by decide +kernel)
theorem zw_698 : (Jvm.Cond.methodLink "java/lang/String" (492 : Nat) ({ cls := "java/lang/String", name := "isLatin1", desc := "()Z" } : Jvm.MethodName)) ∈ zgw := zgw_at 698 (by decide +kernel) (by decide +kernel)
theorem zw_699 : (Jvm.Cond.instanceMethod ({ cls := "java/lang/String", name := "isLatin1", desc := "()Z" } : Jvm.MethodName)) ∈ zgw := zgw_at 699 (by decide +kernel) (by decide +kernel)
theorem zw_700 : (Jvm.Cond.selects "java/lang/String" ({ cls := "java/lang/String", name := "isLatin1", desc := "()Z" } : Jvm.MethodName) ({ cls := "java/lang/String", name := "isLatin1", desc := "()Z" } : Jvm.MethodName)) ∈ zgw := zgw_at 700 (by decide +kernel) (by decide +kernel)
theorem zw_701 : (Jvm.Cond.code ({ cls := "java/lang/String", name := "isLatin1", desc := "()Z" } : Jvm.MethodName) prog_12_method_154_code (1 : Nat) (Option.some Jvm.ClassFile.FieldType.boolean)) ∈ zgw := zgw_at 701 (by decide +kernel) (by decide +kernel)
theorem zw_702 : (Jvm.Cond.methodLink "java/lang/String" (495 : Nat) ({ cls := "java/lang/StringLatin1", name := "charAt", desc := "([BI)C" } : Jvm.MethodName)) ∈ zgw := zgw_at 702 (by decide +kernel) (by decide +kernel)
theorem zw_703 : (Jvm.Cond.static ({ cls := "java/lang/StringLatin1", name := "charAt", desc := "([BI)C" } : Jvm.MethodName)) ∈ zgw := zgw_at 703 (by decide +kernel) (by decide +kernel)
theorem zw_704 : (Jvm.Cond.code ({ cls := "java/lang/StringLatin1", name := "charAt", desc := "([BI)C" } : Jvm.MethodName) prog_13_method_2_code (2 : Nat) (Option.some Jvm.ClassFile.FieldType.char)) ∈ zgw := zgw_at 704 (by decide +kernel) (by decide +kernel)
theorem zw_705 : (Jvm.Cond.methodLink "java/lang/StringLatin1" (9 : Nat) ({ cls := "java/lang/String", name := "checkIndex", desc := "(II)V" } : Jvm.MethodName)) ∈ zgw := zgw_at 705 (by decide +kernel) (by decide +kernel)
theorem zw_706 : (Jvm.Cond.static ({ cls := "java/lang/String", name := "checkIndex", desc := "(II)V" } : Jvm.MethodName)) ∈ zgw := zgw_at 706 (by decide +kernel) (by decide +kernel)
theorem zw_707 : (Jvm.Cond.code ({ cls := "java/lang/String", name := "checkIndex", desc := "(II)V" } : Jvm.MethodName) prog_12_method_155_code (2 : Nat) (Option.none : Option Jvm.ClassFile.FieldType)) ∈ zgw := zgw_at 707 (by decide +kernel) (by decide +kernel)
theorem zw_708 : (Jvm.Cond.fieldLink "java/lang/String" (1053 : Nat) "jdk/internal/util/Preconditions" "SIOOBE_FORMATTER" "Ljava/util/function/BiFunction;") ∈ zgw := zgw_at 708 (by decide +kernel) (by decide +kernel)
theorem zw_710 : (Jvm.Cond.methodLink "java/lang/String" (1059 : Nat) ({ cls := "jdk/internal/util/Preconditions", name := "checkIndex", desc := "(IILjava/util/function/BiFunction;)I" } : Jvm.MethodName)) ∈ zgw := zgw_at 710 (by decide +kernel) (by decide +kernel)
theorem zw_711 : (Jvm.Cond.static ({ cls := "jdk/internal/util/Preconditions", name := "checkIndex", desc := "(IILjava/util/function/BiFunction;)I" } : Jvm.MethodName)) ∈ zgw := zgw_at 711 (by decide +kernel) (by decide +kernel)
theorem zw_712 : (Jvm.Cond.code ({ cls := "jdk/internal/util/Preconditions", name := "checkIndex", desc := "(IILjava/util/function/BiFunction;)I" } : Jvm.MethodName) prog_16_method_11_code (3 : Nat) (Option.some Jvm.ClassFile.FieldType.int)) ∈ zgw := zgw_at 712 (by decide +kernel) (by decide +kernel)
theorem zw_713 : (Jvm.Cond.methodLink "java/lang/String" (498 : Nat) ({ cls := "java/lang/StringUTF16", name := "charAt", desc := "([BI)C" } : Jvm.MethodName)) ∈ zgw := zgw_at 713 (by decide +kernel) (by decide +kernel)
theorem zw_714 : (Jvm.Cond.static ({ cls := "java/lang/StringUTF16", name := "charAt", desc := "([BI)C" } : Jvm.MethodName)) ∈ zgw := zgw_at 714 (by decide +kernel) (by decide +kernel)
theorem zw_715 : (Jvm.Cond.code ({ cls := "java/lang/StringUTF16", name := "charAt", desc := "([BI)C" } : Jvm.MethodName) prog_14_method_83_code (2 : Nat) (Option.some Jvm.ClassFile.FieldType.char)) ∈ zgw := zgw_at 715 (by decide +kernel) (by decide +kernel)
theorem zw_716 : (Jvm.Cond.methodLink "java/lang/StringUTF16" (67 : Nat) ({ cls := "java/lang/StringUTF16", name := "checkIndex", desc := "(I[B)V" } : Jvm.MethodName)) ∈ zgw := zgw_at 716 (by decide +kernel) (by decide +kernel)
theorem zw_717 : (Jvm.Cond.static ({ cls := "java/lang/StringUTF16", name := "checkIndex", desc := "(I[B)V" } : Jvm.MethodName)) ∈ zgw := zgw_at 717 (by decide +kernel) (by decide +kernel)
theorem zw_718 : (Jvm.Cond.code ({ cls := "java/lang/StringUTF16", name := "checkIndex", desc := "(I[B)V" } : Jvm.MethodName) prog_14_method_91_code (2 : Nat) (Option.none : Option Jvm.ClassFile.FieldType)) ∈ zgw := zgw_at 718 (by decide +kernel) (by decide +kernel)
theorem zw_719 : (Jvm.Cond.methodLink "java/lang/StringUTF16" (48 : Nat) ({ cls := "java/lang/StringUTF16", name := "length", desc := "([B)I" } : Jvm.MethodName)) ∈ zgw := zgw_at 719 (by decide +kernel) (by decide +kernel)
theorem zw_720 : (Jvm.Cond.static ({ cls := "java/lang/StringUTF16", name := "length", desc := "([B)I" } : Jvm.MethodName)) ∈ zgw := zgw_at 720 (by decide +kernel) (by decide +kernel)
theorem zw_721 : (Jvm.Cond.code ({ cls := "java/lang/StringUTF16", name := "length", desc := "([B)I" } : Jvm.MethodName) prog_14_method_6_code (1 : Nat) (Option.some Jvm.ClassFile.FieldType.int)) ∈ zgw := zgw_at 721 (by decide +kernel) (by decide +kernel)
theorem zw_722 : (Jvm.Cond.methodLink "java/lang/StringUTF16" (414 : Nat) ({ cls := "java/lang/String", name := "checkIndex", desc := "(II)V" } : Jvm.MethodName)) ∈ zgw := zgw_at 722 (by decide +kernel) (by decide +kernel)
theorem zw_723 : (Jvm.Cond.methodLink "java/lang/StringUTF16" (71 : Nat) ({ cls := "java/lang/StringUTF16", name := "getChar", desc := "([BI)C" } : Jvm.MethodName)) ∈ zgw := zgw_at 723 (by decide +kernel) (by decide +kernel)
theorem zw_724 : (Jvm.Cond.static ({ cls := "java/lang/StringUTF16", name := "getChar", desc := "([BI)C" } : Jvm.MethodName)) ∈ zgw := zgw_at 724 (by decide +kernel) (by decide +kernel)
theorem zw_725 : (Jvm.Cond.code ({ cls := "java/lang/StringUTF16", name := "getChar", desc := "([BI)C" } : Jvm.MethodName) prog_14_method_5_code (2 : Nat) (Option.some Jvm.ClassFile.FieldType.char)) ∈ zgw := zgw_at 725 (by decide +kernel) (by decide +kernel)
theorem zw_726 : (Jvm.Cond.fieldLink "java/lang/StringUTF16" (44 : Nat) "java/lang/StringUTF16" "$assertionsDisabled" "Z") ∈ zgw := zgw_at 726 (by decide +kernel) (by decide +kernel)
theorem zw_728 : (Jvm.Cond.fieldLink "java/lang/StringUTF16" (59 : Nat) "java/lang/StringUTF16" "HI_BYTE_SHIFT" "I") ∈ zgw := zgw_at 728 (by decide +kernel) (by decide +kernel)
theorem zw_730 : (Jvm.Cond.fieldLink "java/lang/StringUTF16" (63 : Nat) "java/lang/StringUTF16" "LO_BYTE_SHIFT" "I") ∈ zgw := zgw_at 730 (by decide +kernel) (by decide +kernel)
theorem zw_732 : (Jvm.Cond.methodLink "FreightSplits$Script" (43 : Nat) ({ cls := "FreightSplits$Script", name := "numbersOf", desc := "(I)I" } : Jvm.MethodName)) ∈ zgw := zgw_at 732 (by decide +kernel) (by decide +kernel)
theorem zw_733 : (Jvm.Cond.static ({ cls := "FreightSplits$Script", name := "numbersOf", desc := "(I)I" } : Jvm.MethodName)) ∈ zgw := zgw_at 733 (by decide +kernel) (by decide +kernel)
theorem zw_734 : (Jvm.Cond.code ({ cls := "FreightSplits$Script", name := "numbersOf", desc := "(I)I" } : Jvm.MethodName) prog_6_method_9_code (1 : Nat) (Option.some Jvm.ClassFile.FieldType.int)) ∈ zgw := zgw_at 734 (by decide +kernel) (by decide +kernel)
theorem zw_735 : (Jvm.Cond.methodLink "FreightSplits$Script" (46 : Nat) ({ cls := "FreightSplits$Script", name := "readSign", desc := "(C)Z" } : Jvm.MethodName)) ∈ zgw := zgw_at 735 (by decide +kernel) (by decide +kernel)
theorem zw_736 : (Jvm.Cond.instanceMethod ({ cls := "FreightSplits$Script", name := "readSign", desc := "(C)Z" } : Jvm.MethodName)) ∈ zgw := zgw_at 736 (by decide +kernel) (by decide +kernel)
theorem zw_737 : (Jvm.Cond.selects "FreightSplits$Script" ({ cls := "FreightSplits$Script", name := "readSign", desc := "(C)Z" } : Jvm.MethodName) ({ cls := "FreightSplits$Script", name := "readSign", desc := "(C)Z" } : Jvm.MethodName)) ∈ zgw := zgw_at 737 (by decide +kernel) (by decide +kernel)
theorem zw_738 : (Jvm.Cond.code ({ cls := "FreightSplits$Script", name := "readSign", desc := "(C)Z" } : Jvm.MethodName) prog_6_method_6_code (2 : Nat) (Option.some Jvm.ClassFile.FieldType.boolean)) ∈ zgw := zgw_at 738 (by decide +kernel) (by decide +kernel)
theorem zw_739 : (Jvm.Cond.methodLink "FreightSplits$Script" (50 : Nat) ({ cls := "FreightSplits$Script", name := "readNumber", desc := "()I" } : Jvm.MethodName)) ∈ zgw := zgw_at 739 (by decide +kernel) (by decide +kernel)
theorem zw_740 : (Jvm.Cond.instanceMethod ({ cls := "FreightSplits$Script", name := "readNumber", desc := "()I" } : Jvm.MethodName)) ∈ zgw := zgw_at 740 (by decide +kernel) (by decide +kernel)
theorem zw_741 : (Jvm.Cond.selects "FreightSplits$Script" ({ cls := "FreightSplits$Script", name := "readNumber", desc := "()I" } : Jvm.MethodName) ({ cls := "FreightSplits$Script", name := "readNumber", desc := "()I" } : Jvm.MethodName)) ∈ zgw := zgw_at 741 (by decide +kernel) (by decide +kernel)
theorem zw_742 : (Jvm.Cond.code ({ cls := "FreightSplits$Script", name := "readNumber", desc := "()I" } : Jvm.MethodName) prog_6_method_7_code (3 : Nat) (Option.some Jvm.ClassFile.FieldType.int)) ∈ zgw := zgw_at 742 (by decide +kernel) (by decide +kernel)
theorem zw_744 : (Jvm.Cond.methodLink "FreightSplits$Script" (65 : Nat) ({ cls := "java/lang/Math", name := "max", desc := "(II)I" } : Jvm.MethodName)) ∈ zgw := zgw_at 744 (by decide +kernel) (by decide +kernel)
theorem zw_745 : (Jvm.Cond.methodLink "FreightSplits" (276 : Nat) ({ cls := "FreightSplits", name := "perform", desc := "()I" } : Jvm.MethodName)) ∈ zgw := zgw_at 745 (by decide +kernel) (by decide +kernel)
theorem zw_747 : (Jvm.Cond.instanceMethod ({ cls := "FreightSplits", name := "perform", desc := "()I" } : Jvm.MethodName)) ∈ zgw := zgw_at 747 (by decide +kernel) (by decide +kernel)
theorem zw_748 : (Jvm.Cond.code ({ cls := "FreightSplits", name := "perform", desc := "()I" } : Jvm.MethodName) prog_1_method_31_code (2 : Nat) (Option.some Jvm.ClassFile.FieldType.int)) ∈ zgw := zgw_at 748 (by decide +kernel) (by decide +kernel)
theorem zw_749 : (Jvm.Cond.methodLink "FreightSplits" (279 : Nat) ({ cls := "FreightSplits", name := "reasonOf", desc := "(I)I" } : Jvm.MethodName)) ∈ zgw := zgw_at 749 (by decide +kernel) (by decide +kernel)
theorem zw_750 : (Jvm.Cond.static ({ cls := "FreightSplits", name := "reasonOf", desc := "(I)I" } : Jvm.MethodName)) ∈ zgw := zgw_at 750 (by decide +kernel) (by decide +kernel)
theorem zw_751 : (Jvm.Cond.code ({ cls := "FreightSplits", name := "reasonOf", desc := "(I)I" } : Jvm.MethodName) prog_1_method_30_code (1 : Nat) (Option.some Jvm.ClassFile.FieldType.int)) ∈ zgw := zgw_at 751 (by decide +kernel) (by decide +kernel)
theorem zw_752 : (Jvm.Cond.arrayClass Jvm.ClassFile.FieldType.byte) ∈ zgw := zgw_at 752 (by decide +kernel) (by decide +kernel)
theorem zw_753 : (Jvm.Cond.methodLink "FreightSplitsLaw" (107 : Nat) ({ cls := "FreightSplits", name := "play", desc := "()I" } : Jvm.MethodName)) ∈ zgw := zgw_at 753 (by decide +kernel) (by decide +kernel)
theorem zw_754 : (Jvm.Cond.instanceMethod ({ cls := "FreightSplits", name := "play", desc := "()I" } : Jvm.MethodName)) ∈ zgw := zgw_at 754 (by decide +kernel) (by decide +kernel)
theorem zw_755 : (Jvm.Cond.selects "FreightSplits" ({ cls := "FreightSplits", name := "play", desc := "()I" } : Jvm.MethodName) ({ cls := "FreightSplits", name := "play", desc := "()I" } : Jvm.MethodName)) ∈ zgw := zgw_at 755 (by decide +kernel) (by decide +kernel)
theorem zw_756 : (Jvm.Cond.code ({ cls := "FreightSplits", name := "play", desc := "()I" } : Jvm.MethodName) prog_1_method_24_code (2 : Nat) (Option.some Jvm.ClassFile.FieldType.int)) ∈ zgw := zgw_at 756 (by decide +kernel) (by decide +kernel)
theorem zw_757 : (Jvm.Cond.constant "FreightSplits" (260 : Nat) (-1000002 : Int32)) ∈ zgw := zgw_at 757 (by decide +kernel) (by decide +kernel)
theorem zw_758 : (Jvm.Cond.classLink "FreightSplitsLaw" (10 : Nat) "FreightSplitsModel") ∈ zgw := zgw_at 758 (by decide +kernel) (by decide +kernel)
theorem zw_759 : (Jvm.Cond.instantiable "FreightSplitsModel" (14 : Nat)) ∈ zgw := zgw_at 759 (by decide +kernel) (by decide +kernel)
theorem zw_760 : (Jvm.Cond.methodLink "FreightSplitsLaw" (12 : Nat) ({ cls := "FreightSplitsModel", name := "<init>", desc := "()V" } : Jvm.MethodName)) ∈ zgw := zgw_at 760 (by decide +kernel) (by decide +kernel)
theorem zw_761 : (Jvm.Cond.instanceMethod ({ cls := "FreightSplitsModel", name := "<init>", desc := "()V" } : Jvm.MethodName)) ∈ zgw := zgw_at 761 (by decide +kernel) (by decide +kernel)
theorem zw_762 : (Jvm.Cond.code ({ cls := "FreightSplitsModel", name := "<init>", desc := "()V" } : Jvm.MethodName) prog_9_method_1_code (1 : Nat) (Option.none : Option Jvm.ClassFile.FieldType)) ∈ zgw := zgw_at 762 (by decide +kernel) (by decide +kernel)
theorem zw_763 : (Jvm.Cond.methodLink "FreightSplitsModel" (1 : Nat) ({ cls := "java/lang/Object", name := "<init>", desc := "()V" } : Jvm.MethodName)) ∈ zgw := zgw_at 763 (by decide +kernel) (by decide +kernel)
theorem zw_764 : (Jvm.Cond.constantLong "FreightSplitsModel" (35 : Nat) (1819238756 : Int64)) ∈ zgw := zgw_at 764 (by decide +kernel) (by decide +kernel)
theorem zw_765 : (Jvm.Cond.constantLong "FreightSplitsModel" (37 : Nat) (1718185068 : Int64)) ∈ zgw := zgw_at 765 (by decide +kernel) (by decide +kernel)
theorem zw_766 : (Jvm.Cond.constantLong "FreightSplitsModel" (39 : Nat) (26479 : Int64)) ∈ zgw := zgw_at 766 (by decide +kernel) (by decide +kernel)
theorem zw_767 : (Jvm.Cond.constantLong "FreightSplitsModel" (41 : Nat) (495807392116 : Int64)) ∈ zgw := zgw_at 767 (by decide +kernel) (by decide +kernel)
theorem zw_768 : (Jvm.Cond.constantLong "FreightSplitsModel" (43 : Nat) (1785686382 : Int64)) ∈ zgw := zgw_at 768 (by decide +kernel) (by decide +kernel)
theorem zw_769 : (Jvm.Cond.constantLong "FreightSplitsModel" (45 : Nat) (478459356530 : Int64)) ∈ zgw := zgw_at 769 (by decide +kernel) (by decide +kernel)
theorem zw_770 : (Jvm.Cond.constantLong "FreightSplitsModel" (47 : Nat) (1885434739 : Int64)) ∈ zgw := zgw_at 770 (by decide +kernel) (by decide +kernel)
theorem zw_771 : (Jvm.Cond.fieldLink "FreightSplitsModel" (7 : Nat) "FreightSplitsModel" "s" "[I") ∈ zgw := zgw_at 771 (by decide +kernel) (by decide +kernel)
theorem zw_772 : (Jvm.Cond.fieldLink "FreightSplitsModel" (13 : Nat) "FreightSplitsModel" "past" "[I") ∈ zgw := zgw_at 772 (by decide +kernel) (by decide +kernel)
theorem zw_773 : (Jvm.Cond.fieldLink "FreightSplitsModel" (16 : Nat) "FreightSplitsModel" "held" "[I") ∈ zgw := zgw_at 773 (by decide +kernel) (by decide +kernel)
theorem zw_774 : (Jvm.Cond.fieldLink "FreightSplitsModel" (19 : Nat) "FreightSplitsModel" "tried" "[I") ∈ zgw := zgw_at 774 (by decide +kernel) (by decide +kernel)
theorem zw_775 : (Jvm.Cond.fieldLink "FreightSplitsModel" (53 : Nat) "FreightSplitsModel" "pasts" "I") ∈ zgw := zgw_at 775 (by decide +kernel) (by decide +kernel)
theorem zw_776 : (Jvm.Cond.fieldLink "FreightSplitsModel" (49 : Nat) "FreightSplitsModel" "runs" "Z") ∈ zgw := zgw_at 776 (by decide +kernel) (by decide +kernel)
theorem zw_777 : (Jvm.Cond.fieldLink "FreightSplitsModel" (22 : Nat) "FreightSplitsModel" "text" "[I") ∈ zgw := zgw_at 777 (by decide +kernel) (by decide +kernel)
theorem zw_778 : (Jvm.Cond.fieldLink "FreightSplitsModel" (153 : Nat) "FreightSplitsModel" "typed" "I") ∈ zgw := zgw_at 778 (by decide +kernel) (by decide +kernel)
theorem zw_779 : (Jvm.Cond.fieldLink "FreightSplitsModel" (25 : Nat) "FreightSplitsModel" "words" "[J") ∈ zgw := zgw_at 779 (by decide +kernel) (by decide +kernel)
theorem zw_780 : (Jvm.Cond.fieldLink "FreightSplitsModel" (29 : Nat) "FreightSplitsModel" "numbers" "[I") ∈ zgw := zgw_at 780 (by decide +kernel) (by decide +kernel)
theorem zw_781 : (Jvm.Cond.fieldLink "FreightSplitsModel" (161 : Nat) "FreightSplitsModel" "spot" "I") ∈ zgw := zgw_at 781 (by decide +kernel) (by decide +kernel)
theorem zw_782 : (Jvm.Cond.fieldLink "FreightSplitsModel" (203 : Nat) "FreightSplitsModel" "cause" "I") ∈ zgw := zgw_at 782 (by decide +kernel) (by decide +kernel)
theorem zw_783 : (Jvm.Cond.fieldLink "FreightSplitsModel" (200 : Nat) "FreightSplitsModel" "commands" "I") ∈ zgw := zgw_at 783 (by decide +kernel) (by decide +kernel)
theorem zw_784 : (Jvm.Cond.fieldLink "FreightSplitsModel" (32 : Nat) "FreightSplitsModel" "told" "[I") ∈ zgw := zgw_at 784 (by decide +kernel) (by decide +kernel)
theorem zw_785 : (Jvm.Cond.laysFinal "FreightSplitsModel" "FreightSplitsModel" "s" "[I") ∈ zgw := zgw_at 785 (by decide +kernel) (by decide +kernel)
theorem zw_787 : (Jvm.Cond.laysFinal "FreightSplitsModel" "FreightSplitsModel" "past" "[I") ∈ zgw := zgw_at 787 (by decide +kernel) (by decide +kernel)
theorem zw_789 : (Jvm.Cond.laysFinal "FreightSplitsModel" "FreightSplitsModel" "held" "[I") ∈ zgw := zgw_at 789 (by decide +kernel) (by decide +kernel)
theorem zw_791 : (Jvm.Cond.laysFinal "FreightSplitsModel" "FreightSplitsModel" "tried" "[I") ∈ zgw := zgw_at 791 (by decide +kernel) (by decide +kernel)
theorem zw_793 : (Jvm.Cond.lays "FreightSplitsModel" "FreightSplitsModel" "pasts" "I") ∈ zgw := zgw_at 793 (by decide +kernel) (by decide +kernel)
theorem zw_795 : (Jvm.Cond.lays "FreightSplitsModel" "FreightSplitsModel" "runs" "Z") ∈ zgw := zgw_at 795 (by decide +kernel) (by decide +kernel)
theorem zw_797 : (Jvm.Cond.laysFinal "FreightSplitsModel" "FreightSplitsModel" "text" "[I") ∈ zgw := zgw_at 797 (by decide +kernel) (by decide +kernel)
theorem zw_799 : (Jvm.Cond.lays "FreightSplitsModel" "FreightSplitsModel" "typed" "I") ∈ zgw := zgw_at 799 (by decide +kernel) (by decide +kernel)
theorem zw_801 : (Jvm.Cond.laysFinal "FreightSplitsModel" "FreightSplitsModel" "words" "[J") ∈ zgw := zgw_at 801 (by decide +kernel) (by decide +kernel)
theorem zw_803 : (Jvm.Cond.laysFinal "FreightSplitsModel" "FreightSplitsModel" "numbers" "[I") ∈ zgw := zgw_at 803 (by decide +kernel) (by decide +kernel)
theorem zw_805 : (Jvm.Cond.lays "FreightSplitsModel" "FreightSplitsModel" "spot" "I") ∈ zgw := zgw_at 805 (by decide +kernel) (by decide +kernel)
theorem zw_807 : (Jvm.Cond.lays "FreightSplitsModel" "FreightSplitsModel" "cause" "I") ∈ zgw := zgw_at 807 (by decide +kernel) (by decide +kernel)
theorem zw_809 : (Jvm.Cond.lays "FreightSplitsModel" "FreightSplitsModel" "commands" "I") ∈ zgw := zgw_at 809 (by decide +kernel) (by decide +kernel)
theorem zw_811 : (Jvm.Cond.laysFinal "FreightSplitsModel" "FreightSplitsModel" "told" "[I") ∈ zgw := zgw_at 811 (by decide +kernel) (by decide +kernel)
theorem zw_814 : (Jvm.Cond.arrayClass Jvm.ClassFile.FieldType.long) ∈ zgw := zgw_at 814 (by decide +kernel) (by decide +kernel)
theorem zw_815 : (Jvm.Cond.methodLink "FreightSplitsLaw" (17 : Nat) ({ cls := "FreightSplitsModel", name := "consign", desc := "(IIIIII)I" } : Jvm.MethodName)) ∈ zgw := zgw_at 815 (by decide +kernel) (by decide +kernel)
theorem zw_816 : (Jvm.Cond.instanceMethod ({ cls := "FreightSplitsModel", name := "consign", desc := "(IIIIII)I" } : Jvm.MethodName)) ∈ zgw := zgw_at 816 (by decide +kernel) (by decide +kernel)
theorem zw_817 : (Jvm.Cond.selects "FreightSplitsModel" ({ cls := "FreightSplitsModel", name := "consign", desc := "(IIIIII)I" } : Jvm.MethodName) ({ cls := "FreightSplitsModel", name := "consign", desc := "(IIIIII)I" } : Jvm.MethodName)) ∈ zgw := zgw_at 817 (by decide +kernel) (by decide +kernel)
theorem zw_818 : (Jvm.Cond.code ({ cls := "FreightSplitsModel", name := "consign", desc := "(IIIIII)I" } : Jvm.MethodName) prog_9_method_15_code (7 : Nat) (Option.some Jvm.ClassFile.FieldType.int)) ∈ zgw := zgw_at 818 (by decide +kernel) (by decide +kernel)
theorem zw_819 : (Jvm.Cond.methodLink "FreightSplitsModel" (70 : Nat) ({ cls := "FreightSplitsModel", name := "in", desc := "(III)Z" } : Jvm.MethodName)) ∈ zgw := zgw_at 819 (by decide +kernel) (by decide +kernel)
theorem zw_820 : (Jvm.Cond.static ({ cls := "FreightSplitsModel", name := "in", desc := "(III)Z" } : Jvm.MethodName)) ∈ zgw := zgw_at 820 (by decide +kernel) (by decide +kernel)
theorem zw_821 : (Jvm.Cond.code ({ cls := "FreightSplitsModel", name := "in", desc := "(III)Z" } : Jvm.MethodName) prog_9_method_3_code (3 : Nat) (Option.some Jvm.ClassFile.FieldType.boolean)) ∈ zgw := zgw_at 821 (by decide +kernel) (by decide +kernel)
theorem zw_822 : (Jvm.Cond.constant "FreightSplitsModel" (74 : Nat) (-1000001 : Int32)) ∈ zgw := zgw_at 822 (by decide +kernel) (by decide +kernel)
theorem zw_823 : (Jvm.Cond.constant "FreightSplitsModel" (75 : Nat) (-1000003 : Int32)) ∈ zgw := zgw_at 823 (by decide +kernel) (by decide +kernel)
theorem zw_824 : (Jvm.Cond.methodLink "FreightSplitsModel" (76 : Nat) ({ cls := "FreightSplitsModel", name := "changes", desc := "()V" } : Jvm.MethodName)) ∈ zgw := zgw_at 824 (by decide +kernel) (by decide +kernel)
theorem zw_826 : (Jvm.Cond.instanceMethod ({ cls := "FreightSplitsModel", name := "changes", desc := "()V" } : Jvm.MethodName)) ∈ zgw := zgw_at 826 (by decide +kernel) (by decide +kernel)
theorem zw_827 : (Jvm.Cond.code ({ cls := "FreightSplitsModel", name := "changes", desc := "()V" } : Jvm.MethodName) prog_9_method_5_code (2 : Nat) (Option.none : Option Jvm.ClassFile.FieldType)) ∈ zgw := zgw_at 827 (by decide +kernel) (by decide +kernel)
theorem zw_828 : (Jvm.Cond.methodLink "FreightSplitsModel" (79 : Nat) ({ cls := "FreightSplitsModel", name := "makes", desc := "(IIIIII)I" } : Jvm.MethodName)) ∈ zgw := zgw_at 828 (by decide +kernel) (by decide +kernel)
theorem zw_830 : (Jvm.Cond.instanceMethod ({ cls := "FreightSplitsModel", name := "makes", desc := "(IIIIII)I" } : Jvm.MethodName)) ∈ zgw := zgw_at 830 (by decide +kernel) (by decide +kernel)
theorem zw_831 : (Jvm.Cond.code ({ cls := "FreightSplitsModel", name := "makes", desc := "(IIIIII)I" } : Jvm.MethodName) prog_9_method_14_code (8 : Nat) (Option.some Jvm.ClassFile.FieldType.int)) ∈ zgw := zgw_at 831 (by decide +kernel) (by decide +kernel)
theorem zw_832 : (Jvm.Cond.methodLink "FreightSplitsModel" (65 : Nat) ({ cls := "FreightSplitsModel", name := "puts", desc := "(III)V" } : Jvm.MethodName)) ∈ zgw := zgw_at 832 (by decide +kernel) (by decide +kernel)
theorem zw_834 : (Jvm.Cond.instanceMethod ({ cls := "FreightSplitsModel", name := "puts", desc := "(III)V" } : Jvm.MethodName)) ∈ zgw := zgw_at 834 (by decide +kernel) (by decide +kernel)
theorem zw_835 : (Jvm.Cond.code ({ cls := "FreightSplitsModel", name := "puts", desc := "(III)V" } : Jvm.MethodName) prog_9_method_7_code (4 : Nat) (Option.none : Option Jvm.ClassFile.FieldType)) ∈ zgw := zgw_at 835 (by decide +kernel) (by decide +kernel)
theorem zw_836 : (Jvm.Cond.constant "FreightSplitsModel" (69 : Nat) (-1000004 : Int32)) ∈ zgw := zgw_at 836 (by decide +kernel) (by decide +kernel)
theorem zw_837 : (Jvm.Cond.methodLink "FreightSplitsLaw" (22 : Nat) ({ cls := "FreightSplitsModel", name := "split", desc := "(III)I" } : Jvm.MethodName)) ∈ zgw := zgw_at 837 (by decide +kernel) (by decide +kernel)
theorem zw_838 : (Jvm.Cond.instanceMethod ({ cls := "FreightSplitsModel", name := "split", desc := "(III)I" } : Jvm.MethodName)) ∈ zgw := zgw_at 838 (by decide +kernel) (by decide +kernel)
theorem zw_839 : (Jvm.Cond.selects "FreightSplitsModel" ({ cls := "FreightSplitsModel", name := "split", desc := "(III)I" } : Jvm.MethodName) ({ cls := "FreightSplitsModel", name := "split", desc := "(III)I" } : Jvm.MethodName)) ∈ zgw := zgw_at 839 (by decide +kernel) (by decide +kernel)
theorem zw_840 : (Jvm.Cond.code ({ cls := "FreightSplitsModel", name := "split", desc := "(III)I" } : Jvm.MethodName) prog_9_method_16_code (6 : Nat) (Option.some Jvm.ClassFile.FieldType.int)) ∈ zgw := zgw_at 840 (by decide +kernel) (by decide +kernel)
theorem zw_841 : (Jvm.Cond.methodLink "FreightSplitsModel" (61 : Nat) ({ cls := "FreightSplitsModel", name := "isGoods", desc := "(I)Z" } : Jvm.MethodName)) ∈ zgw := zgw_at 841 (by decide +kernel) (by decide +kernel)
theorem zw_843 : (Jvm.Cond.instanceMethod ({ cls := "FreightSplitsModel", name := "isGoods", desc := "(I)Z" } : Jvm.MethodName)) ∈ zgw := zgw_at 843 (by decide +kernel) (by decide +kernel)
theorem zw_844 : (Jvm.Cond.code ({ cls := "FreightSplitsModel", name := "isGoods", desc := "(I)Z" } : Jvm.MethodName) prog_9_method_11_code (2 : Nat) (Option.some Jvm.ClassFile.FieldType.boolean)) ∈ zgw := zgw_at 844 (by decide +kernel) (by decide +kernel)
theorem zw_845 : (Jvm.Cond.methodLink "FreightSplitsModel" (57 : Nat) ({ cls := "FreightSplitsModel", name := "of", desc := "(II)I" } : Jvm.MethodName)) ∈ zgw := zgw_at 845 (by decide +kernel) (by decide +kernel)
theorem zw_847 : (Jvm.Cond.instanceMethod ({ cls := "FreightSplitsModel", name := "of", desc := "(II)I" } : Jvm.MethodName)) ∈ zgw := zgw_at 847 (by decide +kernel) (by decide +kernel)
theorem zw_848 : (Jvm.Cond.code ({ cls := "FreightSplitsModel", name := "of", desc := "(II)I" } : Jvm.MethodName) prog_9_method_6_code (3 : Nat) (Option.some Jvm.ClassFile.FieldType.int)) ∈ zgw := zgw_at 848 (by decide +kernel) (by decide +kernel)
theorem zw_849 : (Jvm.Cond.constant "FreightSplitsModel" (83 : Nat) (-1000002 : Int32)) ∈ zgw := zgw_at 849 (by decide +kernel) (by decide +kernel)
theorem zw_850 : (Jvm.Cond.methodLink "FreightSplitsLaw" (27 : Nat) ({ cls := "FreightSplitsModel", name := "join", desc := "(II)I" } : Jvm.MethodName)) ∈ zgw := zgw_at 850 (by decide +kernel) (by decide +kernel)
theorem zw_851 : (Jvm.Cond.instanceMethod ({ cls := "FreightSplitsModel", name := "join", desc := "(II)I" } : Jvm.MethodName)) ∈ zgw := zgw_at 851 (by decide +kernel) (by decide +kernel)
theorem zw_852 : (Jvm.Cond.selects "FreightSplitsModel" ({ cls := "FreightSplitsModel", name := "join", desc := "(II)I" } : Jvm.MethodName) ({ cls := "FreightSplitsModel", name := "join", desc := "(II)I" } : Jvm.MethodName)) ∈ zgw := zgw_at 852 (by decide +kernel) (by decide +kernel)
theorem zw_853 : (Jvm.Cond.code ({ cls := "FreightSplitsModel", name := "join", desc := "(II)I" } : Jvm.MethodName) prog_9_method_17_code (5 : Nat) (Option.some Jvm.ClassFile.FieldType.int)) ∈ zgw := zgw_at 853 (by decide +kernel) (by decide +kernel)
theorem zw_854 : (Jvm.Cond.methodLink "FreightSplitsLaw" (31 : Nat) ({ cls := "FreightSplitsModel", name := "vehicle", desc := "(II)I" } : Jvm.MethodName)) ∈ zgw := zgw_at 854 (by decide +kernel) (by decide +kernel)
theorem zw_855 : (Jvm.Cond.instanceMethod ({ cls := "FreightSplitsModel", name := "vehicle", desc := "(II)I" } : Jvm.MethodName)) ∈ zgw := zgw_at 855 (by decide +kernel) (by decide +kernel)
theorem zw_856 : (Jvm.Cond.selects "FreightSplitsModel" ({ cls := "FreightSplitsModel", name := "vehicle", desc := "(II)I" } : Jvm.MethodName) ({ cls := "FreightSplitsModel", name := "vehicle", desc := "(II)I" } : Jvm.MethodName)) ∈ zgw := zgw_at 856 (by decide +kernel) (by decide +kernel)
theorem zw_857 : (Jvm.Cond.code ({ cls := "FreightSplitsModel", name := "vehicle", desc := "(II)I" } : Jvm.MethodName) prog_9_method_18_code (5 : Nat) (Option.some Jvm.ClassFile.FieldType.int)) ∈ zgw := zgw_at 857 (by decide +kernel) (by decide +kernel)
theorem zw_858 : (Jvm.Cond.methodLink "FreightSplitsModel" (84 : Nat) ({ cls := "FreightSplitsModel", name := "putsVehicle", desc := "(III)V" } : Jvm.MethodName)) ∈ zgw := zgw_at 858 (by decide +kernel) (by decide +kernel)
theorem zw_860 : (Jvm.Cond.instanceMethod ({ cls := "FreightSplitsModel", name := "putsVehicle", desc := "(III)V" } : Jvm.MethodName)) ∈ zgw := zgw_at 860 (by decide +kernel) (by decide +kernel)
theorem zw_861 : (Jvm.Cond.code ({ cls := "FreightSplitsModel", name := "putsVehicle", desc := "(III)V" } : Jvm.MethodName) prog_9_method_9_code (4 : Nat) (Option.none : Option Jvm.ClassFile.FieldType)) ∈ zgw := zgw_at 861 (by decide +kernel) (by decide +kernel)
theorem zw_862 : (Jvm.Cond.methodLink "FreightSplitsLaw" (35 : Nat) ({ cls := "FreightSplitsModel", name := "load", desc := "(II)I" } : Jvm.MethodName)) ∈ zgw := zgw_at 862 (by decide +kernel) (by decide +kernel)
theorem zw_863 : (Jvm.Cond.instanceMethod ({ cls := "FreightSplitsModel", name := "load", desc := "(II)I" } : Jvm.MethodName)) ∈ zgw := zgw_at 863 (by decide +kernel) (by decide +kernel)
theorem zw_864 : (Jvm.Cond.selects "FreightSplitsModel" ({ cls := "FreightSplitsModel", name := "load", desc := "(II)I" } : Jvm.MethodName) ({ cls := "FreightSplitsModel", name := "load", desc := "(II)I" } : Jvm.MethodName)) ∈ zgw := zgw_at 864 (by decide +kernel) (by decide +kernel)
theorem zw_865 : (Jvm.Cond.code ({ cls := "FreightSplitsModel", name := "load", desc := "(II)I" } : Jvm.MethodName) prog_9_method_25_code (3 : Nat) (Option.some Jvm.ClassFile.FieldType.int)) ∈ zgw := zgw_at 865 (by decide +kernel) (by decide +kernel)
theorem zw_866 : (Jvm.Cond.methodLink "FreightSplitsModel" (101 : Nat) ({ cls := "FreightSplitsModel", name := "isVehicle", desc := "(I)Z" } : Jvm.MethodName)) ∈ zgw := zgw_at 866 (by decide +kernel) (by decide +kernel)
theorem zw_868 : (Jvm.Cond.instanceMethod ({ cls := "FreightSplitsModel", name := "isVehicle", desc := "(I)Z" } : Jvm.MethodName)) ∈ zgw := zgw_at 868 (by decide +kernel) (by decide +kernel)
theorem zw_869 : (Jvm.Cond.code ({ cls := "FreightSplitsModel", name := "isVehicle", desc := "(I)Z" } : Jvm.MethodName) prog_9_method_12_code (2 : Nat) (Option.some Jvm.ClassFile.FieldType.boolean)) ∈ zgw := zgw_at 869 (by decide +kernel) (by decide +kernel)
theorem zw_870 : (Jvm.Cond.methodLink "FreightSplitsModel" (104 : Nat) ({ cls := "FreightSplitsModel", name := "canLoad", desc := "(II)Z" } : Jvm.MethodName)) ∈ zgw := zgw_at 870 (by decide +kernel) (by decide +kernel)
theorem zw_872 : (Jvm.Cond.instanceMethod ({ cls := "FreightSplitsModel", name := "canLoad", desc := "(II)Z" } : Jvm.MethodName)) ∈ zgw := zgw_at 872 (by decide +kernel) (by decide +kernel)
theorem zw_873 : (Jvm.Cond.code ({ cls := "FreightSplitsModel", name := "canLoad", desc := "(II)Z" } : Jvm.MethodName) prog_9_method_23_code (4 : Nat) (Option.some Jvm.ClassFile.FieldType.boolean)) ∈ zgw := zgw_at 873 (by decide +kernel) (by decide +kernel)
theorem zw_874 : (Jvm.Cond.methodLink "FreightSplitsModel" (91 : Nat) ({ cls := "FreightSplitsModel", name := "ofVehicle", desc := "(II)I" } : Jvm.MethodName)) ∈ zgw := zgw_at 874 (by decide +kernel) (by decide +kernel)
theorem zw_876 : (Jvm.Cond.instanceMethod ({ cls := "FreightSplitsModel", name := "ofVehicle", desc := "(II)I" } : Jvm.MethodName)) ∈ zgw := zgw_at 876 (by decide +kernel) (by decide +kernel)
theorem zw_877 : (Jvm.Cond.code ({ cls := "FreightSplitsModel", name := "ofVehicle", desc := "(II)I" } : Jvm.MethodName) prog_9_method_8_code (3 : Nat) (Option.some Jvm.ClassFile.FieldType.int)) ∈ zgw := zgw_at 877 (by decide +kernel) (by decide +kernel)
theorem zw_878 : (Jvm.Cond.methodLink "FreightSplitsModel" (94 : Nat) ({ cls := "FreightSplitsModel", name := "goal", desc := "(I)I" } : Jvm.MethodName)) ∈ zgw := zgw_at 878 (by decide +kernel) (by decide +kernel)
theorem zw_880 : (Jvm.Cond.instanceMethod ({ cls := "FreightSplitsModel", name := "goal", desc := "(I)I" } : Jvm.MethodName)) ∈ zgw := zgw_at 880 (by decide +kernel) (by decide +kernel)
theorem zw_881 : (Jvm.Cond.code ({ cls := "FreightSplitsModel", name := "goal", desc := "(I)I" } : Jvm.MethodName) prog_9_method_22_code (4 : Nat) (Option.some Jvm.ClassFile.FieldType.int)) ∈ zgw := zgw_at 881 (by decide +kernel) (by decide +kernel)
theorem zw_882 : (Jvm.Cond.methodLink "FreightSplitsModel" (87 : Nat) ({ cls := "FreightSplitsModel", name := "isIn", desc := "(II)Z" } : Jvm.MethodName)) ∈ zgw := zgw_at 882 (by decide +kernel) (by decide +kernel)
theorem zw_884 : (Jvm.Cond.instanceMethod ({ cls := "FreightSplitsModel", name := "isIn", desc := "(II)Z" } : Jvm.MethodName)) ∈ zgw := zgw_at 884 (by decide +kernel) (by decide +kernel)
theorem zw_885 : (Jvm.Cond.code ({ cls := "FreightSplitsModel", name := "isIn", desc := "(II)Z" } : Jvm.MethodName) prog_9_method_19_code (3 : Nat) (Option.some Jvm.ClassFile.FieldType.boolean)) ∈ zgw := zgw_at 885 (by decide +kernel) (by decide +kernel)
theorem zw_886 : (Jvm.Cond.methodLink "FreightSplitsModel" (98 : Nat) ({ cls := "FreightSplitsModel", name := "loaded", desc := "(II)I" } : Jvm.MethodName)) ∈ zgw := zgw_at 886 (by decide +kernel) (by decide +kernel)
theorem zw_888 : (Jvm.Cond.instanceMethod ({ cls := "FreightSplitsModel", name := "loaded", desc := "(II)I" } : Jvm.MethodName)) ∈ zgw := zgw_at 888 (by decide +kernel) (by decide +kernel)
theorem zw_889 : (Jvm.Cond.code ({ cls := "FreightSplitsModel", name := "loaded", desc := "(II)I" } : Jvm.MethodName) prog_9_method_20_code (5 : Nat) (Option.some Jvm.ClassFile.FieldType.int)) ∈ zgw := zgw_at 889 (by decide +kernel) (by decide +kernel)
theorem zw_890 : (Jvm.Cond.methodLink "FreightSplitsModel" (107 : Nat) ({ cls := "FreightSplitsModel", name := "loads", desc := "(II)V" } : Jvm.MethodName)) ∈ zgw := zgw_at 890 (by decide +kernel) (by decide +kernel)
theorem zw_892 : (Jvm.Cond.instanceMethod ({ cls := "FreightSplitsModel", name := "loads", desc := "(II)V" } : Jvm.MethodName)) ∈ zgw := zgw_at 892 (by decide +kernel) (by decide +kernel)
theorem zw_893 : (Jvm.Cond.code ({ cls := "FreightSplitsModel", name := "loads", desc := "(II)V" } : Jvm.MethodName) prog_9_method_24_code (3 : Nat) (Option.none : Option Jvm.ClassFile.FieldType)) ∈ zgw := zgw_at 893 (by decide +kernel) (by decide +kernel)
theorem zw_894 : (Jvm.Cond.methodLink "FreightSplitsLaw" (40 : Nat) ({ cls := "FreightSplitsModel", name := "unload", desc := "(I)I" } : Jvm.MethodName)) ∈ zgw := zgw_at 894 (by decide +kernel) (by decide +kernel)
theorem zw_895 : (Jvm.Cond.instanceMethod ({ cls := "FreightSplitsModel", name := "unload", desc := "(I)I" } : Jvm.MethodName)) ∈ zgw := zgw_at 895 (by decide +kernel) (by decide +kernel)
theorem zw_896 : (Jvm.Cond.selects "FreightSplitsModel" ({ cls := "FreightSplitsModel", name := "unload", desc := "(I)I" } : Jvm.MethodName) ({ cls := "FreightSplitsModel", name := "unload", desc := "(I)I" } : Jvm.MethodName)) ∈ zgw := zgw_at 896 (by decide +kernel) (by decide +kernel)
theorem zw_897 : (Jvm.Cond.code ({ cls := "FreightSplitsModel", name := "unload", desc := "(I)I" } : Jvm.MethodName) prog_9_method_26_code (2 : Nat) (Option.some Jvm.ClassFile.FieldType.int)) ∈ zgw := zgw_at 897 (by decide +kernel) (by decide +kernel)
theorem zw_898 : (Jvm.Cond.methodLink "FreightSplitsLaw" (44 : Nat) ({ cls := "FreightSplitsModel", name := "fill", desc := "(III)I" } : Jvm.MethodName)) ∈ zgw := zgw_at 898 (by decide +kernel) (by decide +kernel)
theorem zw_899 : (Jvm.Cond.instanceMethod ({ cls := "FreightSplitsModel", name := "fill", desc := "(III)I" } : Jvm.MethodName)) ∈ zgw := zgw_at 899 (by decide +kernel) (by decide +kernel)
theorem zw_900 : (Jvm.Cond.selects "FreightSplitsModel" ({ cls := "FreightSplitsModel", name := "fill", desc := "(III)I" } : Jvm.MethodName) ({ cls := "FreightSplitsModel", name := "fill", desc := "(III)I" } : Jvm.MethodName)) ∈ zgw := zgw_at 900 (by decide +kernel) (by decide +kernel)
theorem zw_901 : (Jvm.Cond.code ({ cls := "FreightSplitsModel", name := "fill", desc := "(III)I" } : Jvm.MethodName) prog_9_method_30_code (4 : Nat) (Option.some Jvm.ClassFile.FieldType.int)) ∈ zgw := zgw_at 901 (by decide +kernel) (by decide +kernel)
theorem zw_902 : (Jvm.Cond.methodLink "FreightSplitsModel" (114 : Nat) ({ cls := "FreightSplitsModel", name := "fills", desc := "(III)I" } : Jvm.MethodName)) ∈ zgw := zgw_at 902 (by decide +kernel) (by decide +kernel)
theorem zw_904 : (Jvm.Cond.instanceMethod ({ cls := "FreightSplitsModel", name := "fills", desc := "(III)I" } : Jvm.MethodName)) ∈ zgw := zgw_at 904 (by decide +kernel) (by decide +kernel)
theorem zw_905 : (Jvm.Cond.code ({ cls := "FreightSplitsModel", name := "fills", desc := "(III)I" } : Jvm.MethodName) prog_9_method_28_code (9 : Nat) (Option.some Jvm.ClassFile.FieldType.int)) ∈ zgw := zgw_at 905 (by decide +kernel) (by decide +kernel)
theorem zw_906 : (Jvm.Cond.methodLink "FreightSplitsModel" (111 : Nat) ({ cls := "FreightSplitsModel", name := "isAhead", desc := "(III)Z" } : Jvm.MethodName)) ∈ zgw := zgw_at 906 (by decide +kernel) (by decide +kernel)
theorem zw_908 : (Jvm.Cond.instanceMethod ({ cls := "FreightSplitsModel", name := "isAhead", desc := "(III)Z" } : Jvm.MethodName)) ∈ zgw := zgw_at 908 (by decide +kernel) (by decide +kernel)
theorem zw_909 : (Jvm.Cond.code ({ cls := "FreightSplitsModel", name := "isAhead", desc := "(III)Z" } : Jvm.MethodName) prog_9_method_27_code (5 : Nat) (Option.some Jvm.ClassFile.FieldType.boolean)) ∈ zgw := zgw_at 909 (by decide +kernel) (by decide +kernel)
theorem zw_910 : (Jvm.Cond.methodLink "FreightSplitsModel" (118 : Nat) ({ cls := "FreightSplitsModel", name := "bits", desc := "(I)I" } : Jvm.MethodName)) ∈ zgw := zgw_at 910 (by decide +kernel) (by decide +kernel)
theorem zw_911 : (Jvm.Cond.static ({ cls := "FreightSplitsModel", name := "bits", desc := "(I)I" } : Jvm.MethodName)) ∈ zgw := zgw_at 911 (by decide +kernel) (by decide +kernel)
theorem zw_912 : (Jvm.Cond.code ({ cls := "FreightSplitsModel", name := "bits", desc := "(I)I" } : Jvm.MethodName) prog_9_method_29_code (3 : Nat) (Option.some Jvm.ClassFile.FieldType.int)) ∈ zgw := zgw_at 912 (by decide +kernel) (by decide +kernel)
theorem zw_913 : (Jvm.Cond.methodLink "FreightSplitsLaw" (48 : Nat) ({ cls := "FreightSplitsModel", name := "depart", desc := "(I)I" } : Jvm.MethodName)) ∈ zgw := zgw_at 913 (by decide +kernel) (by decide +kernel)
theorem zw_914 : (Jvm.Cond.instanceMethod ({ cls := "FreightSplitsModel", name := "depart", desc := "(I)I" } : Jvm.MethodName)) ∈ zgw := zgw_at 914 (by decide +kernel) (by decide +kernel)
theorem zw_915 : (Jvm.Cond.selects "FreightSplitsModel" ({ cls := "FreightSplitsModel", name := "depart", desc := "(I)I" } : Jvm.MethodName) ({ cls := "FreightSplitsModel", name := "depart", desc := "(I)I" } : Jvm.MethodName)) ∈ zgw := zgw_at 915 (by decide +kernel) (by decide +kernel)
theorem zw_916 : (Jvm.Cond.code ({ cls := "FreightSplitsModel", name := "depart", desc := "(I)I" } : Jvm.MethodName) prog_9_method_31_code (4 : Nat) (Option.some Jvm.ClassFile.FieldType.int)) ∈ zgw := zgw_at 916 (by decide +kernel) (by decide +kernel)
theorem zw_917 : (Jvm.Cond.methodLink "FreightSplitsModel" (121 : Nat) ({ cls := "FreightSplitsModel", name := "loadSet", desc := "(I)I" } : Jvm.MethodName)) ∈ zgw := zgw_at 917 (by decide +kernel) (by decide +kernel)
theorem zw_919 : (Jvm.Cond.instanceMethod ({ cls := "FreightSplitsModel", name := "loadSet", desc := "(I)I" } : Jvm.MethodName)) ∈ zgw := zgw_at 919 (by decide +kernel) (by decide +kernel)
theorem zw_920 : (Jvm.Cond.code ({ cls := "FreightSplitsModel", name := "loadSet", desc := "(I)I" } : Jvm.MethodName) prog_9_method_21_code (4 : Nat) (Option.some Jvm.ClassFile.FieldType.int)) ∈ zgw := zgw_at 920 (by decide +kernel) (by decide +kernel)
theorem zw_921 : (Jvm.Cond.methodLink "FreightSplitsLaw" (53 : Nat) ({ cls := "FreightSplitsModel", name := "offer", desc := "(IIIII)I" } : Jvm.MethodName)) ∈ zgw := zgw_at 921 (by decide +kernel) (by decide +kernel)
theorem zw_922 : (Jvm.Cond.instanceMethod ({ cls := "FreightSplitsModel", name := "offer", desc := "(IIIII)I" } : Jvm.MethodName)) ∈ zgw := zgw_at 922 (by decide +kernel) (by decide +kernel)
theorem zw_923 : (Jvm.Cond.selects "FreightSplitsModel" ({ cls := "FreightSplitsModel", name := "offer", desc := "(IIIII)I" } : Jvm.MethodName) ({ cls := "FreightSplitsModel", name := "offer", desc := "(IIIII)I" } : Jvm.MethodName)) ∈ zgw := zgw_at 923 (by decide +kernel) (by decide +kernel)
theorem zw_924 : (Jvm.Cond.code ({ cls := "FreightSplitsModel", name := "offer", desc := "(IIIII)I" } : Jvm.MethodName) prog_9_method_32_code (7 : Nat) (Option.some Jvm.ClassFile.FieldType.int)) ∈ zgw := zgw_at 924 (by decide +kernel) (by decide +kernel)
theorem zw_925 : (Jvm.Cond.methodLink "FreightSplitsLaw" (57 : Nat) ({ cls := "FreightSplitsModel", name := "pass", desc := "(I)I" } : Jvm.MethodName)) ∈ zgw := zgw_at 925 (by decide +kernel) (by decide +kernel)
theorem zw_926 : (Jvm.Cond.instanceMethod ({ cls := "FreightSplitsModel", name := "pass", desc := "(I)I" } : Jvm.MethodName)) ∈ zgw := zgw_at 926 (by decide +kernel) (by decide +kernel)
theorem zw_927 : (Jvm.Cond.selects "FreightSplitsModel" ({ cls := "FreightSplitsModel", name := "pass", desc := "(I)I" } : Jvm.MethodName) ({ cls := "FreightSplitsModel", name := "pass", desc := "(I)I" } : Jvm.MethodName)) ∈ zgw := zgw_at 927 (by decide +kernel) (by decide +kernel)
theorem zw_928 : (Jvm.Cond.code ({ cls := "FreightSplitsModel", name := "pass", desc := "(I)I" } : Jvm.MethodName) prog_9_method_38_code (4 : Nat) (Option.some Jvm.ClassFile.FieldType.int)) ∈ zgw := zgw_at 928 (by decide +kernel) (by decide +kernel)
theorem zw_929 : (Jvm.Cond.methodLink "FreightSplitsModel" (143 : Nat) ({ cls := "FreightSplitsModel", name := "hour", desc := "()I" } : Jvm.MethodName)) ∈ zgw := zgw_at 929 (by decide +kernel) (by decide +kernel)
theorem zw_931 : (Jvm.Cond.instanceMethod ({ cls := "FreightSplitsModel", name := "hour", desc := "()I" } : Jvm.MethodName)) ∈ zgw := zgw_at 931 (by decide +kernel) (by decide +kernel)
theorem zw_932 : (Jvm.Cond.code ({ cls := "FreightSplitsModel", name := "hour", desc := "()I" } : Jvm.MethodName) prog_9_method_37_code (4 : Nat) (Option.some Jvm.ClassFile.FieldType.int)) ∈ zgw := zgw_at 932 (by decide +kernel) (by decide +kernel)
theorem zw_933 : (Jvm.Cond.methodLink "FreightSplitsModel" (134 : Nat) ({ cls := "FreightSplitsModel", name := "arrives", desc := "(I)I" } : Jvm.MethodName)) ∈ zgw := zgw_at 933 (by decide +kernel) (by decide +kernel)
theorem zw_935 : (Jvm.Cond.instanceMethod ({ cls := "FreightSplitsModel", name := "arrives", desc := "(I)I" } : Jvm.MethodName)) ∈ zgw := zgw_at 935 (by decide +kernel) (by decide +kernel)
theorem zw_936 : (Jvm.Cond.code ({ cls := "FreightSplitsModel", name := "arrives", desc := "(I)I" } : Jvm.MethodName) prog_9_method_35_code (6 : Nat) (Option.some Jvm.ClassFile.FieldType.int)) ∈ zgw := zgw_at 936 (by decide +kernel) (by decide +kernel)
theorem zw_937 : (Jvm.Cond.methodLink "FreightSplitsModel" (131 : Nat) ({ cls := "FreightSplitsModel", name := "takes", desc := "(III)I" } : Jvm.MethodName)) ∈ zgw := zgw_at 937 (by decide +kernel) (by decide +kernel)
theorem zw_939 : (Jvm.Cond.instanceMethod ({ cls := "FreightSplitsModel", name := "takes", desc := "(III)I" } : Jvm.MethodName)) ∈ zgw := zgw_at 939 (by decide +kernel) (by decide +kernel)
theorem zw_940 : (Jvm.Cond.code ({ cls := "FreightSplitsModel", name := "takes", desc := "(III)I" } : Jvm.MethodName) prog_9_method_34_code (10 : Nat) (Option.some Jvm.ClassFile.FieldType.int)) ∈ zgw := zgw_at 940 (by decide +kernel) (by decide +kernel)
theorem zw_941 : (Jvm.Cond.methodLink "FreightSplitsModel" (124 : Nat) ({ cls := "FreightSplitsModel", name := "ofOffer", desc := "(II)I" } : Jvm.MethodName)) ∈ zgw := zgw_at 941 (by decide +kernel) (by decide +kernel)
theorem zw_943 : (Jvm.Cond.instanceMethod ({ cls := "FreightSplitsModel", name := "ofOffer", desc := "(II)I" } : Jvm.MethodName)) ∈ zgw := zgw_at 943 (by decide +kernel) (by decide +kernel)
theorem zw_944 : (Jvm.Cond.code ({ cls := "FreightSplitsModel", name := "ofOffer", desc := "(II)I" } : Jvm.MethodName) prog_9_method_10_code (3 : Nat) (Option.some Jvm.ClassFile.FieldType.int)) ∈ zgw := zgw_at 944 (by decide +kernel) (by decide +kernel)
theorem zw_945 : (Jvm.Cond.methodLink "FreightSplitsModel" (127 : Nat) ({ cls := "FreightSplitsModel", name := "dropsOffer", desc := "(I)V" } : Jvm.MethodName)) ∈ zgw := zgw_at 945 (by decide +kernel) (by decide +kernel)
theorem zw_947 : (Jvm.Cond.instanceMethod ({ cls := "FreightSplitsModel", name := "dropsOffer", desc := "(I)V" } : Jvm.MethodName)) ∈ zgw := zgw_at 947 (by decide +kernel) (by decide +kernel)
theorem zw_948 : (Jvm.Cond.code ({ cls := "FreightSplitsModel", name := "dropsOffer", desc := "(I)V" } : Jvm.MethodName) prog_9_method_33_code (3 : Nat) (Option.none : Option Jvm.ClassFile.FieldType)) ∈ zgw := zgw_at 948 (by decide +kernel) (by decide +kernel)
theorem zw_949 : (Jvm.Cond.methodLink "FreightSplitsModel" (137 : Nat) ({ cls := "FreightSplitsModel", name := "returns", desc := "(I)V" } : Jvm.MethodName)) ∈ zgw := zgw_at 949 (by decide +kernel) (by decide +kernel)
theorem zw_951 : (Jvm.Cond.instanceMethod ({ cls := "FreightSplitsModel", name := "returns", desc := "(I)V" } : Jvm.MethodName)) ∈ zgw := zgw_at 951 (by decide +kernel) (by decide +kernel)
theorem zw_952 : (Jvm.Cond.code ({ cls := "FreightSplitsModel", name := "returns", desc := "(I)V" } : Jvm.MethodName) prog_9_method_36_code (2 : Nat) (Option.none : Option Jvm.ClassFile.FieldType)) ∈ zgw := zgw_at 952 (by decide +kernel) (by decide +kernel)
theorem zw_953 : (Jvm.Cond.methodLink "FreightSplitsModel" (140 : Nat) ({ cls := "FreightSplitsModel", name := "isHere", desc := "(I)Z" } : Jvm.MethodName)) ∈ zgw := zgw_at 953 (by decide +kernel) (by decide +kernel)
theorem zw_955 : (Jvm.Cond.instanceMethod ({ cls := "FreightSplitsModel", name := "isHere", desc := "(I)Z" } : Jvm.MethodName)) ∈ zgw := zgw_at 955 (by decide +kernel) (by decide +kernel)
theorem zw_956 : (Jvm.Cond.code ({ cls := "FreightSplitsModel", name := "isHere", desc := "(I)Z" } : Jvm.MethodName) prog_9_method_13_code (2 : Nat) (Option.some Jvm.ClassFile.FieldType.boolean)) ∈ zgw := zgw_at 956 (by decide +kernel) (by decide +kernel)
theorem zw_957 : (Jvm.Cond.methodLink "FreightSplitsLaw" (61 : Nat) ({ cls := "FreightSplitsModel", name := "set", desc := "(II)I" } : Jvm.MethodName)) ∈ zgw := zgw_at 957 (by decide +kernel) (by decide +kernel)
theorem zw_958 : (Jvm.Cond.instanceMethod ({ cls := "FreightSplitsModel", name := "set", desc := "(II)I" } : Jvm.MethodName)) ∈ zgw := zgw_at 958 (by decide +kernel) (by decide +kernel)
theorem zw_959 : (Jvm.Cond.selects "FreightSplitsModel" ({ cls := "FreightSplitsModel", name := "set", desc := "(II)I" } : Jvm.MethodName) ({ cls := "FreightSplitsModel", name := "set", desc := "(II)I" } : Jvm.MethodName)) ∈ zgw := zgw_at 959 (by decide +kernel) (by decide +kernel)
theorem zw_960 : (Jvm.Cond.code ({ cls := "FreightSplitsModel", name := "set", desc := "(II)I" } : Jvm.MethodName) prog_9_method_39_code (4 : Nat) (Option.some Jvm.ClassFile.FieldType.int)) ∈ zgw := zgw_at 960 (by decide +kernel) (by decide +kernel)
theorem zw_961 : (Jvm.Cond.methodLink "FreightSplitsLaw" (65 : Nat) ({ cls := "FreightSplitsModel", name := "consignmentOf", desc := "(II)I" } : Jvm.MethodName)) ∈ zgw := zgw_at 961 (by decide +kernel) (by decide +kernel)
theorem zw_962 : (Jvm.Cond.instanceMethod ({ cls := "FreightSplitsModel", name := "consignmentOf", desc := "(II)I" } : Jvm.MethodName)) ∈ zgw := zgw_at 962 (by decide +kernel) (by decide +kernel)
theorem zw_963 : (Jvm.Cond.selects "FreightSplitsModel" ({ cls := "FreightSplitsModel", name := "consignmentOf", desc := "(II)I" } : Jvm.MethodName) ({ cls := "FreightSplitsModel", name := "consignmentOf", desc := "(II)I" } : Jvm.MethodName)) ∈ zgw := zgw_at 963 (by decide +kernel) (by decide +kernel)
theorem zw_964 : (Jvm.Cond.code ({ cls := "FreightSplitsModel", name := "consignmentOf", desc := "(II)I" } : Jvm.MethodName) prog_9_method_41_code (3 : Nat) (Option.some Jvm.ClassFile.FieldType.int)) ∈ zgw := zgw_at 964 (by decide +kernel) (by decide +kernel)
theorem zw_965 : (Jvm.Cond.methodLink "FreightSplitsModel" (147 : Nat) ({ cls := "FreightSplitsModel", name := "parts", desc := "(I)I" } : Jvm.MethodName)) ∈ zgw := zgw_at 965 (by decide +kernel) (by decide +kernel)
theorem zw_967 : (Jvm.Cond.instanceMethod ({ cls := "FreightSplitsModel", name := "parts", desc := "(I)I" } : Jvm.MethodName)) ∈ zgw := zgw_at 967 (by decide +kernel) (by decide +kernel)
theorem zw_968 : (Jvm.Cond.code ({ cls := "FreightSplitsModel", name := "parts", desc := "(I)I" } : Jvm.MethodName) prog_9_method_40_code (4 : Nat) (Option.some Jvm.ClassFile.FieldType.int)) ∈ zgw := zgw_at 968 (by decide +kernel) (by decide +kernel)
theorem zw_969 : (Jvm.Cond.methodLink "FreightSplitsLaw" (69 : Nat) ({ cls := "FreightSplitsModel", name := "vehicleOf", desc := "(II)I" } : Jvm.MethodName)) ∈ zgw := zgw_at 969 (by decide +kernel) (by decide +kernel)
theorem zw_970 : (Jvm.Cond.instanceMethod ({ cls := "FreightSplitsModel", name := "vehicleOf", desc := "(II)I" } : Jvm.MethodName)) ∈ zgw := zgw_at 970 (by decide +kernel) (by decide +kernel)
theorem zw_971 : (Jvm.Cond.selects "FreightSplitsModel" ({ cls := "FreightSplitsModel", name := "vehicleOf", desc := "(II)I" } : Jvm.MethodName) ({ cls := "FreightSplitsModel", name := "vehicleOf", desc := "(II)I" } : Jvm.MethodName)) ∈ zgw := zgw_at 971 (by decide +kernel) (by decide +kernel)
theorem zw_972 : (Jvm.Cond.code ({ cls := "FreightSplitsModel", name := "vehicleOf", desc := "(II)I" } : Jvm.MethodName) prog_9_method_42_code (3 : Nat) (Option.some Jvm.ClassFile.FieldType.int)) ∈ zgw := zgw_at 972 (by decide +kernel) (by decide +kernel)
theorem zw_973 : (Jvm.Cond.methodLink "FreightSplitsLaw" (73 : Nat) ({ cls := "FreightSplitsModel", name := "offerOf", desc := "(II)I" } : Jvm.MethodName)) ∈ zgw := zgw_at 973 (by decide +kernel) (by decide +kernel)
theorem zw_974 : (Jvm.Cond.instanceMethod ({ cls := "FreightSplitsModel", name := "offerOf", desc := "(II)I" } : Jvm.MethodName)) ∈ zgw := zgw_at 974 (by decide +kernel) (by decide +kernel)
theorem zw_975 : (Jvm.Cond.selects "FreightSplitsModel" ({ cls := "FreightSplitsModel", name := "offerOf", desc := "(II)I" } : Jvm.MethodName) ({ cls := "FreightSplitsModel", name := "offerOf", desc := "(II)I" } : Jvm.MethodName)) ∈ zgw := zgw_at 975 (by decide +kernel) (by decide +kernel)
theorem zw_976 : (Jvm.Cond.code ({ cls := "FreightSplitsModel", name := "offerOf", desc := "(II)I" } : Jvm.MethodName) prog_9_method_43_code (3 : Nat) (Option.some Jvm.ClassFile.FieldType.int)) ∈ zgw := zgw_at 976 (by decide +kernel) (by decide +kernel)
theorem zw_977 : (Jvm.Cond.methodLink "FreightSplitsLaw" (77 : Nat) ({ cls := "FreightSplitsModel", name := "count", desc := "(I)I" } : Jvm.MethodName)) ∈ zgw := zgw_at 977 (by decide +kernel) (by decide +kernel)
theorem zw_978 : (Jvm.Cond.instanceMethod ({ cls := "FreightSplitsModel", name := "count", desc := "(I)I" } : Jvm.MethodName)) ∈ zgw := zgw_at 978 (by decide +kernel) (by decide +kernel)
theorem zw_979 : (Jvm.Cond.selects "FreightSplitsModel" ({ cls := "FreightSplitsModel", name := "count", desc := "(I)I" } : Jvm.MethodName) ({ cls := "FreightSplitsModel", name := "count", desc := "(I)I" } : Jvm.MethodName)) ∈ zgw := zgw_at 979 (by decide +kernel) (by decide +kernel)
theorem zw_980 : (Jvm.Cond.code ({ cls := "FreightSplitsModel", name := "count", desc := "(I)I" } : Jvm.MethodName) prog_9_method_45_code (2 : Nat) (Option.some Jvm.ClassFile.FieldType.int)) ∈ zgw := zgw_at 980 (by decide +kernel) (by decide +kernel)
theorem zw_981 : (Jvm.Cond.methodLink "FreightSplitsModel" (150 : Nat) ({ cls := "FreightSplitsModel", name := "here", desc := "()I" } : Jvm.MethodName)) ∈ zgw := zgw_at 981 (by decide +kernel) (by decide +kernel)
theorem zw_983 : (Jvm.Cond.instanceMethod ({ cls := "FreightSplitsModel", name := "here", desc := "()I" } : Jvm.MethodName)) ∈ zgw := zgw_at 983 (by decide +kernel) (by decide +kernel)
theorem zw_984 : (Jvm.Cond.code ({ cls := "FreightSplitsModel", name := "here", desc := "()I" } : Jvm.MethodName) prog_9_method_44_code (3 : Nat) (Option.some Jvm.ClassFile.FieldType.int)) ∈ zgw := zgw_at 984 (by decide +kernel) (by decide +kernel)
theorem zw_985 : (Jvm.Cond.methodLink "FreightSplitsLaw" (81 : Nat) ({ cls := "FreightSplitsModel", name := "wouldFill", desc := "(III)I" } : Jvm.MethodName)) ∈ zgw := zgw_at 985 (by decide +kernel) (by decide +kernel)
theorem zw_986 : (Jvm.Cond.instanceMethod ({ cls := "FreightSplitsModel", name := "wouldFill", desc := "(III)I" } : Jvm.MethodName)) ∈ zgw := zgw_at 986 (by decide +kernel) (by decide +kernel)
theorem zw_987 : (Jvm.Cond.selects "FreightSplitsModel" ({ cls := "FreightSplitsModel", name := "wouldFill", desc := "(III)I" } : Jvm.MethodName) ({ cls := "FreightSplitsModel", name := "wouldFill", desc := "(III)I" } : Jvm.MethodName)) ∈ zgw := zgw_at 987 (by decide +kernel) (by decide +kernel)
theorem zw_988 : (Jvm.Cond.code ({ cls := "FreightSplitsModel", name := "wouldFill", desc := "(III)I" } : Jvm.MethodName) prog_9_method_46_code (5 : Nat) (Option.some Jvm.ClassFile.FieldType.int)) ∈ zgw := zgw_at 988 (by decide +kernel) (by decide +kernel)
theorem zw_989 : (Jvm.Cond.methodLink "FreightSplitsModel" (156 : Nat) ({ cls := "FreightSplitsModel", name := "copies", desc := "([I[I)V" } : Jvm.MethodName)) ∈ zgw := zgw_at 989 (by decide +kernel) (by decide +kernel)
theorem zw_990 : (Jvm.Cond.static ({ cls := "FreightSplitsModel", name := "copies", desc := "([I[I)V" } : Jvm.MethodName)) ∈ zgw := zgw_at 990 (by decide +kernel) (by decide +kernel)
theorem zw_991 : (Jvm.Cond.code ({ cls := "FreightSplitsModel", name := "copies", desc := "([I[I)V" } : Jvm.MethodName) prog_9_method_4_code (3 : Nat) (Option.none : Option Jvm.ClassFile.FieldType)) ∈ zgw := zgw_at 991 (by decide +kernel) (by decide +kernel)
theorem zw_992 : (Jvm.Cond.methodLink "FreightSplitsLaw" (85 : Nat) ({ cls := "FreightSplitsModel", name := "wouldEarn", desc := "(I)I" } : Jvm.MethodName)) ∈ zgw := zgw_at 992 (by decide +kernel) (by decide +kernel)
theorem zw_993 : (Jvm.Cond.instanceMethod ({ cls := "FreightSplitsModel", name := "wouldEarn", desc := "(I)I" } : Jvm.MethodName)) ∈ zgw := zgw_at 993 (by decide +kernel) (by decide +kernel)
theorem zw_994 : (Jvm.Cond.selects "FreightSplitsModel" ({ cls := "FreightSplitsModel", name := "wouldEarn", desc := "(I)I" } : Jvm.MethodName) ({ cls := "FreightSplitsModel", name := "wouldEarn", desc := "(I)I" } : Jvm.MethodName)) ∈ zgw := zgw_at 994 (by decide +kernel) (by decide +kernel)
theorem zw_995 : (Jvm.Cond.code ({ cls := "FreightSplitsModel", name := "wouldEarn", desc := "(I)I" } : Jvm.MethodName) prog_9_method_47_code (6 : Nat) (Option.some Jvm.ClassFile.FieldType.int)) ∈ zgw := zgw_at 995 (by decide +kernel) (by decide +kernel)
theorem zw_996 : (Jvm.Cond.constant "FreightSplitsModel" (160 : Nat) (4000000 : Int32)) ∈ zgw := zgw_at 996 (by decide +kernel) (by decide +kernel)
theorem zw_997 : (Jvm.Cond.methodLink "FreightSplitsLaw" (90 : Nat) ({ cls := "FreightSplitsModel", name := "hopeless", desc := "()I" } : Jvm.MethodName)) ∈ zgw := zgw_at 997 (by decide +kernel) (by decide +kernel)
theorem zw_998 : (Jvm.Cond.instanceMethod ({ cls := "FreightSplitsModel", name := "hopeless", desc := "()I" } : Jvm.MethodName)) ∈ zgw := zgw_at 998 (by decide +kernel) (by decide +kernel)
theorem zw_999 : (Jvm.Cond.selects "FreightSplitsModel" ({ cls := "FreightSplitsModel", name := "hopeless", desc := "()I" } : Jvm.MethodName) ({ cls := "FreightSplitsModel", name := "hopeless", desc := "()I" } : Jvm.MethodName)) ∈ zgw := zgw_at 999 (by decide +kernel) (by decide +kernel)
theorem zw_1000 : (Jvm.Cond.code ({ cls := "FreightSplitsModel", name := "hopeless", desc := "()I" } : Jvm.MethodName) prog_9_method_48_code (3 : Nat) (Option.some Jvm.ClassFile.FieldType.int)) ∈ zgw := zgw_at 1000 (by decide +kernel) (by decide +kernel)
theorem zw_1001 : (Jvm.Cond.methodLink "FreightSplitsLaw" (94 : Nat) ({ cls := "FreightSplitsModel", name := "undo", desc := "()I" } : Jvm.MethodName)) ∈ zgw := zgw_at 1001 (by decide +kernel) (by decide +kernel)
theorem zw_1002 : (Jvm.Cond.instanceMethod ({ cls := "FreightSplitsModel", name := "undo", desc := "()I" } : Jvm.MethodName)) ∈ zgw := zgw_at 1002 (by decide +kernel) (by decide +kernel)
theorem zw_1003 : (Jvm.Cond.selects "FreightSplitsModel" ({ cls := "FreightSplitsModel", name := "undo", desc := "()I" } : Jvm.MethodName) ({ cls := "FreightSplitsModel", name := "undo", desc := "()I" } : Jvm.MethodName)) ∈ zgw := zgw_at 1003 (by decide +kernel) (by decide +kernel)
theorem zw_1004 : (Jvm.Cond.code ({ cls := "FreightSplitsModel", name := "undo", desc := "()I" } : Jvm.MethodName) prog_9_method_49_code (2 : Nat) (Option.some Jvm.ClassFile.FieldType.int)) ∈ zgw := zgw_at 1004 (by decide +kernel) (by decide +kernel)
theorem zw_1005 : (Jvm.Cond.methodLink "FreightSplitsLaw" (98 : Nat) ({ cls := "FreightSplitsModel", name := "type", desc := "(I)I" } : Jvm.MethodName)) ∈ zgw := zgw_at 1005 (by decide +kernel) (by decide +kernel)
theorem zw_1006 : (Jvm.Cond.instanceMethod ({ cls := "FreightSplitsModel", name := "type", desc := "(I)I" } : Jvm.MethodName)) ∈ zgw := zgw_at 1006 (by decide +kernel) (by decide +kernel)
theorem zw_1007 : (Jvm.Cond.selects "FreightSplitsModel" ({ cls := "FreightSplitsModel", name := "type", desc := "(I)I" } : Jvm.MethodName) ({ cls := "FreightSplitsModel", name := "type", desc := "(I)I" } : Jvm.MethodName)) ∈ zgw := zgw_at 1007 (by decide +kernel) (by decide +kernel)
theorem zw_1008 : (Jvm.Cond.code ({ cls := "FreightSplitsModel", name := "type", desc := "(I)I" } : Jvm.MethodName) prog_9_method_50_code (2 : Nat) (Option.some Jvm.ClassFile.FieldType.int)) ∈ zgw := zgw_at 1008 (by decide +kernel) (by decide +kernel)
theorem zw_1009 : (Jvm.Cond.methodLink "FreightSplitsLaw" (102 : Nat) ({ cls := "FreightSplitsModel", name := "clearText", desc := "()I" } : Jvm.MethodName)) ∈ zgw := zgw_at 1009 (by decide +kernel) (by decide +kernel)
theorem zw_1010 : (Jvm.Cond.instanceMethod ({ cls := "FreightSplitsModel", name := "clearText", desc := "()I" } : Jvm.MethodName)) ∈ zgw := zgw_at 1010 (by decide +kernel) (by decide +kernel)
theorem zw_1011 : (Jvm.Cond.selects "FreightSplitsModel" ({ cls := "FreightSplitsModel", name := "clearText", desc := "()I" } : Jvm.MethodName) ({ cls := "FreightSplitsModel", name := "clearText", desc := "()I" } : Jvm.MethodName)) ∈ zgw := zgw_at 1011 (by decide +kernel) (by decide +kernel)
theorem zw_1012 : (Jvm.Cond.code ({ cls := "FreightSplitsModel", name := "clearText", desc := "()I" } : Jvm.MethodName) prog_9_method_51_code (2 : Nat) (Option.some Jvm.ClassFile.FieldType.int)) ∈ zgw := zgw_at 1012 (by decide +kernel) (by decide +kernel)
theorem zw_1013 : (Jvm.Cond.methodLink "FreightSplitsLaw" (106 : Nat) ({ cls := "FreightSplitsModel", name := "fault", desc := "(I)I" } : Jvm.MethodName)) ∈ zgw := zgw_at 1013 (by decide +kernel) (by decide +kernel)
theorem zw_1014 : (Jvm.Cond.instanceMethod ({ cls := "FreightSplitsModel", name := "fault", desc := "(I)I" } : Jvm.MethodName)) ∈ zgw := zgw_at 1014 (by decide +kernel) (by decide +kernel)
theorem zw_1015 : (Jvm.Cond.selects "FreightSplitsModel" ({ cls := "FreightSplitsModel", name := "fault", desc := "(I)I" } : Jvm.MethodName) ({ cls := "FreightSplitsModel", name := "fault", desc := "(I)I" } : Jvm.MethodName)) ∈ zgw := zgw_at 1015 (by decide +kernel) (by decide +kernel)
theorem zw_1016 : (Jvm.Cond.code ({ cls := "FreightSplitsModel", name := "fault", desc := "(I)I" } : Jvm.MethodName) prog_9_method_59_code (3 : Nat) (Option.some Jvm.ClassFile.FieldType.int)) ∈ zgw := zgw_at 1016 (by decide +kernel) (by decide +kernel)
theorem zw_1017 : (Jvm.Cond.methodLink "FreightSplitsModel" (212 : Nat) ({ cls := "FreightSplitsModel", name := "plays", desc := "()I" } : Jvm.MethodName)) ∈ zgw := zgw_at 1017 (by decide +kernel) (by decide +kernel)
theorem zw_1019 : (Jvm.Cond.instanceMethod ({ cls := "FreightSplitsModel", name := "plays", desc := "()I" } : Jvm.MethodName)) ∈ zgw := zgw_at 1019 (by decide +kernel) (by decide +kernel)
theorem zw_1020 : (Jvm.Cond.code ({ cls := "FreightSplitsModel", name := "plays", desc := "()I" } : Jvm.MethodName) prog_9_method_58_code (4 : Nat) (Option.some Jvm.ClassFile.FieldType.int)) ∈ zgw := zgw_at 1020 (by decide +kernel) (by decide +kernel)
theorem zw_1021 : (Jvm.Cond.methodLink "FreightSplitsModel" (206 : Nat) ({ cls := "FreightSplitsModel", name := "reads", desc := "()I" } : Jvm.MethodName)) ∈ zgw := zgw_at 1021 (by decide +kernel) (by decide +kernel)
theorem zw_1023 : (Jvm.Cond.instanceMethod ({ cls := "FreightSplitsModel", name := "reads", desc := "()I" } : Jvm.MethodName)) ∈ zgw := zgw_at 1023 (by decide +kernel) (by decide +kernel)
theorem zw_1024 : (Jvm.Cond.code ({ cls := "FreightSplitsModel", name := "reads", desc := "()I" } : Jvm.MethodName) prog_9_method_56_code (4 : Nat) (Option.some Jvm.ClassFile.FieldType.int)) ∈ zgw := zgw_at 1024 (by decide +kernel) (by decide +kernel)
theorem zw_1025 : (Jvm.Cond.methodLink "FreightSplitsModel" (169 : Nat) ({ cls := "FreightSplitsModel", name := "word", desc := "()I" } : Jvm.MethodName)) ∈ zgw := zgw_at 1025 (by decide +kernel) (by decide +kernel)
theorem zw_1027 : (Jvm.Cond.instanceMethod ({ cls := "FreightSplitsModel", name := "word", desc := "()I" } : Jvm.MethodName)) ∈ zgw := zgw_at 1027 (by decide +kernel) (by decide +kernel)
theorem zw_1028 : (Jvm.Cond.code ({ cls := "FreightSplitsModel", name := "word", desc := "()I" } : Jvm.MethodName) prog_9_method_54_code (6 : Nat) (Option.some Jvm.ClassFile.FieldType.int)) ∈ zgw := zgw_at 1028 (by decide +kernel) (by decide +kernel)
theorem zw_1029 : (Jvm.Cond.methodLink "FreightSplitsModel" (164 : Nat) ({ cls := "FreightSplitsModel", name := "isAt", desc := "(II)Z" } : Jvm.MethodName)) ∈ zgw := zgw_at 1029 (by decide +kernel) (by decide +kernel)
theorem zw_1031 : (Jvm.Cond.instanceMethod ({ cls := "FreightSplitsModel", name := "isAt", desc := "(II)Z" } : Jvm.MethodName)) ∈ zgw := zgw_at 1031 (by decide +kernel) (by decide +kernel)
theorem zw_1032 : (Jvm.Cond.code ({ cls := "FreightSplitsModel", name := "isAt", desc := "(II)Z" } : Jvm.MethodName) prog_9_method_52_code (3 : Nat) (Option.some Jvm.ClassFile.FieldType.boolean)) ∈ zgw := zgw_at 1032 (by decide +kernel) (by decide +kernel)
theorem zw_1033 : (Jvm.Cond.constantLong "FreightSplitsModel" (167 : Nat) (256 : Int64)) ∈ zgw := zgw_at 1033 (by decide +kernel) (by decide +kernel)
theorem zw_1034 : (Jvm.Cond.methodLink "FreightSplitsModel" (172 : Nat) ({ cls := "FreightSplitsModel", name := "passes", desc := "(I)Z" } : Jvm.MethodName)) ∈ zgw := zgw_at 1034 (by decide +kernel) (by decide +kernel)
theorem zw_1036 : (Jvm.Cond.instanceMethod ({ cls := "FreightSplitsModel", name := "passes", desc := "(I)Z" } : Jvm.MethodName)) ∈ zgw := zgw_at 1036 (by decide +kernel) (by decide +kernel)
theorem zw_1037 : (Jvm.Cond.code ({ cls := "FreightSplitsModel", name := "passes", desc := "(I)Z" } : Jvm.MethodName) prog_9_method_53_code (3 : Nat) (Option.some Jvm.ClassFile.FieldType.boolean)) ∈ zgw := zgw_at 1037 (by decide +kernel) (by decide +kernel)
theorem zw_1038 : (Jvm.Cond.methodLink "FreightSplitsModel" (175 : Nat) ({ cls := "FreightSplitsModel", name := "number", desc := "(I)Z" } : Jvm.MethodName)) ∈ zgw := zgw_at 1038 (by decide +kernel) (by decide +kernel)
theorem zw_1040 : (Jvm.Cond.instanceMethod ({ cls := "FreightSplitsModel", name := "number", desc := "(I)Z" } : Jvm.MethodName)) ∈ zgw := zgw_at 1040 (by decide +kernel) (by decide +kernel)
theorem zw_1041 : (Jvm.Cond.code ({ cls := "FreightSplitsModel", name := "number", desc := "(I)Z" } : Jvm.MethodName) prog_9_method_55_code (3 : Nat) (Option.some Jvm.ClassFile.FieldType.boolean)) ∈ zgw := zgw_at 1041 (by decide +kernel) (by decide +kernel)
theorem zw_1042 : (Jvm.Cond.methodLink "FreightSplitsModel" (209 : Nat) ({ cls := "FreightSplitsModel", name := "calls", desc := "(I)I" } : Jvm.MethodName)) ∈ zgw := zgw_at 1042 (by decide +kernel) (by decide +kernel)
theorem zw_1044 : (Jvm.Cond.instanceMethod ({ cls := "FreightSplitsModel", name := "calls", desc := "(I)I" } : Jvm.MethodName)) ∈ zgw := zgw_at 1044 (by decide +kernel) (by decide +kernel)
theorem zw_1045 : (Jvm.Cond.code ({ cls := "FreightSplitsModel", name := "calls", desc := "(I)I" } : Jvm.MethodName) prog_9_method_57_code (2 : Nat) (Option.some Jvm.ClassFile.FieldType.int)) ∈ zgw := zgw_at 1045 (by decide +kernel) (by decide +kernel)
theorem zw_1046 : (Jvm.Cond.methodLink "FreightSplitsModel" (178 : Nat) ({ cls := "FreightSplitsModel", name := "load", desc := "(II)I" } : Jvm.MethodName)) ∈ zgw := zgw_at 1046 (by decide +kernel) (by decide +kernel)
theorem zw_1047 : (Jvm.Cond.methodLink "FreightSplitsModel" (181 : Nat) ({ cls := "FreightSplitsModel", name := "fill", desc := "(III)I" } : Jvm.MethodName)) ∈ zgw := zgw_at 1047 (by decide +kernel) (by decide +kernel)
theorem zw_1048 : (Jvm.Cond.methodLink "FreightSplitsModel" (184 : Nat) ({ cls := "FreightSplitsModel", name := "depart", desc := "(I)I" } : Jvm.MethodName)) ∈ zgw := zgw_at 1048 (by decide +kernel) (by decide +kernel)
theorem zw_1049 : (Jvm.Cond.methodLink "FreightSplitsModel" (187 : Nat) ({ cls := "FreightSplitsModel", name := "split", desc := "(III)I" } : Jvm.MethodName)) ∈ zgw := zgw_at 1049 (by decide +kernel) (by decide +kernel)
theorem zw_1050 : (Jvm.Cond.methodLink "FreightSplitsModel" (190 : Nat) ({ cls := "FreightSplitsModel", name := "join", desc := "(II)I" } : Jvm.MethodName)) ∈ zgw := zgw_at 1050 (by decide +kernel) (by decide +kernel)
theorem zw_1051 : (Jvm.Cond.methodLink "FreightSplitsModel" (193 : Nat) ({ cls := "FreightSplitsModel", name := "offer", desc := "(IIIII)I" } : Jvm.MethodName)) ∈ zgw := zgw_at 1051 (by decide +kernel) (by decide +kernel)
theorem zw_1052 : (Jvm.Cond.methodLink "FreightSplitsModel" (197 : Nat) ({ cls := "FreightSplitsModel", name := "pass", desc := "(I)I" } : Jvm.MethodName)) ∈ zgw := zgw_at 1052 (by decide +kernel) (by decide +kernel)
theorem zw_1053 : (Jvm.Cond.methodLink "FreightSplitsLaw" (110 : Nat) ({ cls := "FreightSplitsModel", name := "play", desc := "()I" } : Jvm.MethodName)) ∈ zgw := zgw_at 1053 (by decide +kernel) (by decide +kernel)
theorem zw_1054 : (Jvm.Cond.instanceMethod ({ cls := "FreightSplitsModel", name := "play", desc := "()I" } : Jvm.MethodName)) ∈ zgw := zgw_at 1054 (by decide +kernel) (by decide +kernel)
theorem zw_1055 : (Jvm.Cond.selects "FreightSplitsModel" ({ cls := "FreightSplitsModel", name := "play", desc := "()I" } : Jvm.MethodName) ({ cls := "FreightSplitsModel", name := "play", desc := "()I" } : Jvm.MethodName)) ∈ zgw := zgw_at 1055 (by decide +kernel) (by decide +kernel)
theorem zw_1056 : (Jvm.Cond.code ({ cls := "FreightSplitsModel", name := "play", desc := "()I" } : Jvm.MethodName) prog_9_method_60_code (2 : Nat) (Option.some Jvm.ClassFile.FieldType.int)) ∈ zgw := zgw_at 1056 (by decide +kernel) (by decide +kernel)
theorem zw_1057 : (Jvm.Cond.fieldLink "java/lang/String" (9 : Nat) "java/lang/String" "value" "[B") ∈ zgw := zgw_at 1057 (by decide +kernel) (by decide +kernel)
theorem zw_1058 : (Jvm.Cond.fieldLink "java/lang/String" (15 : Nat) "java/lang/String" "coder" "B") ∈ zgw := zgw_at 1058 (by decide +kernel) (by decide +kernel)
end
section
/-! MEMORY LOGIC. A memory is a function from addresses to what lies there: an array (its kind, its places) or an object (its class's number, its fields). zV: the machine, at pc with these locals, this stack and a heap that holds this memory, comes to a state with Q. One rule an instruction; zCt: a method's contract from one memory. -/
abbrev mE : Type := (Nat × vp_A) ⊕ (Nat × List Value)
abbrev mM : Type := Nat → Option mE
def mU (M : mM) (a : Nat) (e : mE) : mM := fun q => if q = a then some e else M q
theorem mU_s {M : mM} {a : Nat} {e : mE} : mU M a e a = some e := if_pos rfl
theorem mU_n {M : mM} {a q : Nat} {e : mE} (h : q ≠ a) : mU M a e q = M q := if_neg h
def mTy : List FieldType := [.int, .long, .char, .object RX0, .object RX5, .object RX3, .object RX1]
def mTys (E : Nat → ClassId) : List (ClassId × FieldType) := [(E 0, .int), (E 1, .long), (E 2, .char), (E 3, .object RX0), (E 4, .object RX5), (E 5, .object RX3), (E 6, .object RX1)]
def mC (E : Nat → ClassId) (e : mE) : va_E := match e with
  | .inl (k, a) => .inl (E k, a)
  | .inr o => .inr o
def mRep (D : va_G) (E : Nat → ClassId) (A : Nat → Prop) (M : mM) (H : Heap) : Prop := ∀ (q : Nat) (e : mE), M q = some e → va_at D vwCl (q, mC E e) H ∧ A q
theorem mRep.one {D : va_G} {E : Nat → ClassId} {A : Nat → Prop} {M : mM} {H : Heap} (h : mRep D E A M H) {a : Nat} {e : mE} (ha : M a = some e) : va_P D vwCl [(a, mC E e)] H := by
  intro k q hk
  match k, hk with
  | 0, hk => cases hk; exact (h a e ha).1
  | k + 1, hk => simp at hk
theorem mRep.kept {D : va_G} {E : Nat → ClassId} {A : Nat → Prop} {M : mM} {H H1 : Heap} (h : mRep D E A M H) (hq : ∀ q, q < H.size → H1[q]? = H[q]?) : mRep D E A M H1 := fun q e he => ⟨(h q e he).1.kept (hq q (h q e he).1.lt), (h q e he).2⟩
theorem mRep.push {D : va_G} {E : Nat → ClassId} {A : Nat → Prop} {M : mM} {H H1 : Heap} (h : mRep D E A M H) {a : Nat} {e : mE} (he : va_at D vwCl (a, mC E e) H1) (hA : A a) (hq : ∀ q, q < H.size → H1[q]? = H[q]?) : mRep D E A (mU M a e) H1 := by
  intro q e' h'
  by_cases hqa : q = a
  · subst hqa
    rw [mU_s] at h'
    cases h'
    exact ⟨he, hA⟩
  · rw [mU_n hqa] at h'
    exact h.kept hq q e' h'
/-- all of a memory as one world of the kit -/
theorem mRep.world {D : va_G} {E : Nat → ClassId} {A : Nat → Prop} {M : mM} {H : Heap} (h : mRep D E A M H) :
    ∃ ws : va_W, va_P D vwCl ws H ∧ va_D A ws ∧ ∀ (q : Nat) (e : mE), M q = some e → ∃ k : Nat, ws[k]? = some (q, mC E e) := by
  have key : ∀ n, ∃ ws : va_W, va_P D vwCl ws H ∧ va_D A ws ∧ (∀ x ∈ ws, x.1 < n) ∧ ∀ (q : Nat) (e : mE), q < n → M q = some e → (q, mC E e) ∈ ws := by
    intro n
    induction n with
    | zero => exact ⟨[], fun k q h => by simp at h, ⟨fun i j p q h => by simp at h, fun k q h => by simp at h⟩, fun x hx => by simp at hx, fun q e hq => absurd hq (Nat.not_lt_zero q)⟩
    | succ n ih =>
      obtain ⟨ws, h1, h2, h3, h4⟩ := ih
      cases hn : M n with
      | none =>
        refine ⟨ws, h1, h2, fun x hx => Nat.lt_succ_of_lt (h3 x hx), fun q e hq he => ?_⟩
        by_cases hqn : q = n
        · subst hqn; rw [hn] at he; cases he
        · exact h4 q e (by omega) he
      | some e0 =>
        have hone : va_D A [(n, mC E e0)] := by
          refine ⟨fun i j p q hi hj _ => ?_, fun k q hk => ?_⟩
          · have a1 := (List.getElem?_eq_some_iff.mp hi).1
            have a2 := (List.getElem?_eq_some_iff.mp hj).1
            simp at a1 a2
            omega
          · match k, hk with
            | 0, hk => cases hk; exact (h n e0 hn).2
            | k + 1, hk => simp at hk
        refine ⟨ws ++ [(n, mC E e0)], h1.app (h.one hn), h2.app hone (fun i j p q hi hj hpq => ?_), fun x hx => ?_, fun q e hq he => ?_⟩
        · have b1 := h3 p (List.mem_of_getElem? hi)
          have b2 := List.mem_of_getElem? hj
          rw [List.mem_singleton] at b2
          rw [b2] at hpq
          simp only at hpq
          omega
        · rcases List.mem_append.mp hx with hx | hx
          · exact Nat.lt_succ_of_lt (h3 x hx)
          · rw [List.mem_singleton] at hx
            rw [hx]
            exact Nat.lt_succ_self n
        · by_cases hqn : q = n
          · subst hqn
            rw [hn] at he
            cases he
            exact List.mem_append_right _ (List.mem_singleton.mpr rfl)
          · exact List.mem_append_left _ (h4 q e (by omega) he)
  obtain ⟨ws, h1, h2, -, h4⟩ := key H.size
  exact ⟨ws, h1, h2, fun q e he => List.getElem?_of_mem (h4 q e (h q e he).1.lt he)⟩
/-- a cell of that world is changed -/
theorem mRep.back {D : va_G} {E : Nat → ClassId} {A : Nat → Prop} {M : mM} {H H1 : Heap} {ws : va_W} (h : mRep D E A M H) (hw : ∀ (q : Nat) (e : mE), M q = some e → ∃ k : Nat, ws[k]? = some (q, mC E e)) {a p : Nat} {e0 e : mE} (ha : M a = some e0) (hp : ws[p]? = some (a, mC E e0)) (h1 : va_P D vwCl (ws.set p (a, mC E e)) H1) : mRep D E A (mU M a e) H1 := by
  have hl := (List.getElem?_eq_some_iff.mp hp).1
  intro q e' h'
  by_cases hqa : q = a
  · subst hqa
    rw [mU_s] at h'
    cases h'
    exact ⟨h1 p _ (List.getElem?_set_self hl), (h q e0 ha).2⟩
  · rw [mU_n hqa] at h'
    obtain ⟨k, hk⟩ := hw q e' h'
    have hkp : k ≠ p := fun z => by
      subst z
      rw [hk] at hp
      exact hqa (congrArg Prod.fst (Option.some.inj hp))
    exact ⟨h1 k _ (by rw [List.getElem?_set_ne (Ne.symm hkp)]; exact hk), (h q e' h').2⟩
/-! locals by their places -/
def zPr : Nat → List (Option Value) → List (Nat × Value)
  | _, [] => []
  | i, none :: t => zPr (i + 1) t
  | i, some v :: t => (i, v) :: zPr (i + 1) t
theorem zPr_mem {q : Nat × Value} : ∀ (L : List (Option Value)) (i : Nat), q ∈ zPr i L ↔ ∃ k, q.1 = i + k ∧ L[k]? = some (some q.2)
  | [], i => by simp [zPr]
  | none :: t, i => by
    rw [zPr, zPr_mem t (i + 1)]
    constructor
    · rintro ⟨k, h1, h2⟩
      exact ⟨k + 1, by omega, by simpa using h2⟩
    · rintro ⟨k, h1, h2⟩
      cases k with
      | zero => simp at h2
      | succ k => exact ⟨k, by omega, by simpa using h2⟩
  | some v :: t, i => by
    rw [zPr, List.mem_cons, zPr_mem t (i + 1)]
    constructor
    · rintro (h | ⟨k, h1, h2⟩)
      · exact ⟨0, by rw [h]; rfl, by rw [h]; rfl⟩
      · exact ⟨k + 1, by omega, by simpa using h2⟩
    · rintro ⟨k, h1, h2⟩
      cases k with
      | zero =>
        left
        simp at h2
        obtain ⟨a, b⟩ := q
        simp at h1 h2
        rw [h1, h2]
      | succ k => exact Or.inr ⟨k, by omega, by simpa using h2⟩
abbrev zHas (ls : Array Slot) (nL : Nat) (L : List (Option Value)) : Prop := lv_has ls nL (zPr 0 L)
theorem zHas.at {ls : Array Slot} {nL : Nat} {L : List (Option Value)} (h : zHas ls nL L) {i : Nat} {v : Value} (hv : L[i]? = some (some v)) : ls[i]? = some (.val v) := h.2.2 (i, v) ((zPr_mem L 0).mpr ⟨i, (Nat.zero_add i).symm, hv⟩)
def zk1 (L : List (Option Value)) (i : Nat) : Bool := match i with
  | 0 => true
  | j + 1 => match L[j]? with
    | some (some v) => v.category == 1
    | _ => true
theorem zk1_spec {L : List (Option Value)} {i j : Nat} {v : Value} (h : zk1 L i = true) (hj : j + 1 = i) (hv : L[j]? = some (some v)) : v.category = 1 := by
  subst hj
  simp only [zk1, hv] at h
  exact of_decide_eq_true (by simpa using h)
theorem zHas.set1 {ls : Array Slot} {nL : Nat} {L : List (Option Value)} {i : Nat} {v : Value} (hk : zk1 L i = true) (h : lv_has ls nL ((i, v) :: (zPr 0 L).filter (fun q => !(q.1 == i) && !(q.1 + 1 == i && q.2.category == 2)))) : zHas ls nL (L.set i (some v)) := by
  refine ⟨h.1, h.2.1, fun q hq => h.2.2 q ?_⟩
  obtain ⟨k, h1, h2⟩ := (zPr_mem _ 0).mp hq
  rw [Nat.zero_add] at h1
  by_cases hki : k = i
  · subst hki
    have hl : k < L.length := by
      have := (List.getElem?_eq_some_iff.mp h2).1
      simpa using this
    rw [List.getElem?_set_self hl] at h2
    have : q = (k, v) := by
      obtain ⟨a, b⟩ := q
      simp at h1 h2
      rw [h1, h2]
    rw [this]
    exact List.mem_cons_self
  · rw [List.getElem?_set_ne (Ne.symm hki)] at h2
    refine List.mem_cons_of_mem _ (List.mem_filter.mpr ⟨(zPr_mem L 0).mpr ⟨k, by omega, h2⟩, ?_⟩)
    have e1 : (q.1 == i) = false := by simp; omega
    have e2 : (q.1 + 1 == i && q.2.category == 2) = false := by
      by_cases hz : q.1 + 1 = i
      · have hc := zk1_spec hk (j := k) (by omega) h2
        simp [hc]
      · simp [hz]
    simp [e1, e2]
theorem zHas.set2 {ls : Array Slot} {nL : Nat} {L : List (Option Value)} {i : Nat} {v : Value} (hk : zk1 L i = true) (h : lv_has ls nL ((i, v) :: (zPr 0 L).filter (fun q => !(q.1 == i) && (!(q.1 == i + 1) && !(q.1 + 1 == i && q.2.category == 2))))) : zHas ls nL ((L.set (i + 1) none).set i (some v)) := by
  refine ⟨h.1, h.2.1, fun q hq => h.2.2 q ?_⟩
  obtain ⟨k, h1, h2⟩ := (zPr_mem _ 0).mp hq
  rw [Nat.zero_add] at h1
  by_cases hki : k = i
  · subst hki
    have hl : k < (L.set (k + 1) none).length := by
      have := (List.getElem?_eq_some_iff.mp h2).1
      simpa using this
    rw [List.getElem?_set_self hl] at h2
    have : q = (k, v) := by
      obtain ⟨a, b⟩ := q
      simp at h1 h2
      rw [h1, h2]
    rw [this]
    exact List.mem_cons_self
  · rw [List.getElem?_set_ne (Ne.symm hki)] at h2
    have hk1 : k ≠ i + 1 := fun z => by
      subst z
      have hl : i + 1 < L.length := by
        have := (List.getElem?_eq_some_iff.mp h2).1
        simpa using this
      rw [List.getElem?_set_self hl] at h2
      simp at h2
    rw [List.getElem?_set_ne (Ne.symm hk1)] at h2
    refine List.mem_cons_of_mem _ (List.mem_filter.mpr ⟨(zPr_mem L 0).mpr ⟨k, by omega, h2⟩, ?_⟩)
    have e1 : (q.1 == i) = false := by simp; omega
    have e3 : (q.1 == i + 1) = false := by simp; omega
    have e2 : (q.1 + 1 == i && q.2.category == 2) = false := by
      by_cases hz : q.1 + 1 = i
      · have hc := zk1_spec hk (j := k) (by omega) h2
        simp [hc]
      · simp [hz]
    simp [e1, e2, e3]
/-- fewer locals -/
def zle : List (Option Value) → List (Option Value) → Prop
  | [], _ => True
  | none :: t, [] => zle t []
  | none :: t, _ :: t' => zle t t'
  | some _ :: _, [] => False
  | some v :: t, x :: t' => some v = x ∧ zle t t'
theorem zle_at : ∀ (L' L : List (Option Value)), zle L' L → ∀ (k : Nat) (v : Value), L'[k]? = some (some v) → L[k]? = some (some v)
  | [], _, _, k, v, h => by simp at h
  | none :: t, [], hz, k, v, h => by
    cases k with
    | zero => simp at h
    | succ k => have := zle_at t [] hz k v (by simpa using h); simp at this
  | none :: t, _ :: t', hz, k, v, h => by
    cases k with
    | zero => simp at h
    | succ k => simpa using zle_at t t' hz k v (by simpa using h)
  | some _ :: _, [], hz, _, _, _ => hz.elim
  | some w :: t, x :: t', hz, k, v, h => by
    cases k with
    | zero =>
      simp at h
      rw [← hz.1, h]
      rfl
    | succ k => simpa using zle_at t t' hz.2 k v (by simpa using h)
theorem zHas.le {ls : Array Slot} {nL : Nat} {L L' : List (Option Value)} (h : zHas ls nL L) (hz : zle L' L) : zHas ls nL L' := ⟨h.1, h.2.1, fun q hq => by
  obtain ⟨k, h1, h2⟩ := (zPr_mem _ 0).mp hq
  exact h.2.2 q ((zPr_mem L 0).mpr ⟨k, h1, zle_at L' L hz k _ h2⟩)⟩
/-! what every method needs of the tables and of old objects -/
def zFx (U : State) : Prop := va_AO RX0 U ∧ va_AO RX5 U ∧ va_AO RX3 U ∧ va_AO RX1 U ∧ va_Nw (.methodLinkNest RX1 37 yX3_init RX6) U ∧ va_Nw (.methodLinkNest RX6 28 yX4_init RX6) U ∧ va_Nw (.methodLinkNest RX1 117 yX6_isWithin RX6) U ∧ va_Nw (.methodLinkNest RX4 61 yX6_isWithin RX6) U
theorem zFx.warm {s U : State} (hW : s.WarmedH U.vm) (h : zFx s) : zFx U := ⟨h.1.moved hW.alike, h.2.1.moved hW.alike, h.2.2.1.moved hW.alike, h.2.2.2.1.moved hW.alike, va_Nw.warmM hW h.2.2.2.2.1, va_Nw.warmM hW h.2.2.2.2.2.1, va_Nw.warmM hW h.2.2.2.2.2.2.1, va_Nw.warmM hW h.2.2.2.2.2.2.2⟩
theorem zFx.same {s U : State} (hv : s.vm = U.vm) (h : zFx s) : zFx U := ⟨h.1.moved (hv ▸ Vm.Alike.refl _), h.2.1.moved (hv ▸ Vm.Alike.refl _), h.2.2.1.moved (hv ▸ Vm.Alike.refl _), h.2.2.2.1.moved (hv ▸ Vm.Alike.refl _), va_Nw.same rfl hv h.2.2.2.2.1, va_Nw.same rfl hv h.2.2.2.2.2.1, va_Nw.same rfl hv h.2.2.2.2.2.2.1, va_Nw.same rfl hv h.2.2.2.2.2.2.2⟩
def zTx : List String := ["load", "fill", "go", "split", "join", "offer", "pass", ""]
def zByt : List (List Int32) := [[108, 111, 97, 100], [102, 105, 108, 108], [103, 111], [115, 112, 108, 105, 116], [106, 111, 105, 110], [111, 102, 102, 101, 114], [112, 97, 115, 115], []]
def zLen : List Nat := [4, 4, 2, 5, 4, 5, 4, 0]
abbrev zK : Type := (Nat → Nat) × (Nat → Nat)
def zStr (K : zK) (A : Nat → Prop) (U : State) (H : Heap) : Prop := vk_S 8 zLen zByt K.1 K.2 A U H ∧ (∀ i, i < 8 → vk_R RX4 (71 + 2 * i) (zTx.getD i "") (K.1 i) U) ∧ va_Z "java/lang/String" "COMPACT_STRINGS" "Z" (.int 1) A U H ∧ va_Zq "jdk/internal/util/Preconditions" "SIOOBE_FORMATTER" "Ljava/util/function/BiFunction;" A U H
theorem zStr.warm {K : zK} {A : Nat → Prop} {s U : State} {H : Heap} (hW : s.WarmedH U.vm) (h : zStr K A s H) : zStr K A U H := ⟨h.1.moved hW.alike, fun i hi => (h.2.1 i hi).warm hW, h.2.2.1.moved hW.alike, h.2.2.2.moved hW.alike⟩
theorem zStr.same {K : zK} {A : Nat → Prop} {s U : State} {H : Heap} (hv : s.vm = U.vm) (h : zStr K A s H) : zStr K A U H := ⟨h.1.moved (hv ▸ Vm.Alike.refl _), fun i hi => (h.2.1 i hi).same hv.symm, h.2.2.1.moved (hv ▸ Vm.Alike.refl _), h.2.2.2.moved (hv ▸ Vm.Alike.refl _)⟩
theorem zStr.kept {K : zK} {A : Nat → Prop} {s : State} {H H1 : Heap} (h : zStr K A s H) (hq : ∀ a : Nat, a < H.size → ¬ A a → H1[a]? = H[a]?) : zStr K A s H1 := ⟨h.1.kept hq, h.2.1, h.2.2.1.kept hq, h.2.2.2.kept hq⟩
/-! where a method stands -/
abbrev zB : Type := Program × Launch × Env × Room × State × MethodId × Array Value × List Frame × Method × Code × va_G × (Nat → ClassId) × (Nat → Prop)
def zOk (K : zK) (yn : MethodName) (cc : ByteArray) (nL : Nat) (ret : Option FieldType) (d mc ms : Nat) (B : zB) : Prop := match B with
  | (p, _, _, R, s, m, args, _, meth, c, D, E, A) => (p.tables.exec = Jvm.exec ∧ c.code = cc ∧ c.maxLocals = nL ∧ meth.sig.returnType = ret ∧ s.vm.findClass yn.cls = some m.cls) ∧ (∀ w ∈ zgw, w.before args s = true) ∧ meth.locks = false ∧ va_K D vwCl (mTys E) s ∧ (∀ q, s.heap.size ≤ q → A q) ∧ meth.name = yn.name ∧ (d ≤ R.frames ∧ 40 * d ≤ R.locals ∧ mc ≤ R.cells ∧ ms ≤ R.slots) ∧ zFx s ∧ zStr K A s s.heap
def zV (nL : Nat) (B : zB) (Q : State → Prop) (pc : Nat) (L : List (Option Value)) (stk : List Value) (M : mM) (k n : Nat) : Prop := match B with
  | (p, l, e, R, s, m, args, below, meth, c, D, E, A) => ∀ (H : Heap) (ls : Array Slot) (locs : List Loc), zHas ls nL L → mRep D E A M H → H.size = s.heap.size + k → va_S A s.heap H locs → W p l e R s m args below meth c H locs k n Q (F0 m pc ls stk)
/-- the size of the heap with which the method began -/
def zSz (B : zB) : Nat := match B with
  | (_, _, _, _, s, _, _, _, _, _, _, _, _) => s.heap.size
def zQ (D : va_G) (E : Nat → ClassId) (A : Nat → Prop) (Q : Option Value → mM → Prop) (nx mc : Nat) : Array Value → State → Outcome → State → Prop := fun _ st oc t => (∃ (r : Option Value) (M' : mM), oc = .returned r ∧ Q r M' ∧ t.heap.size = nx + mc ∧ mRep D E A M' t.heap ∧ va_K D vwCl (mTys E) t) ∧ va_F A st t
def zP (K : zK) (D : va_G) (E : Nat → ClassId) (A : Nat → Prop) (av : List Value) (M : mM) (nx : Nat) : Array Value → State → Prop := va_Pc av (fun U => U.heap.size = nx ∧ mRep D E A M U.heap ∧ va_K D vwCl (mTys E) U ∧ (∀ q, nx ≤ q → A q) ∧ zFx U ∧ zStr K A U U.heap)
def zRm (d mc ms : Nat) : Room := { frames := d, cells := mc, slots := ms, locals := 40 * d }
def zCt (K : zK) (yn : MethodName) (cc : ByteArray) (nL : Nat) (ret : Option FieldType) (d : Nat) (av : List Value) (M : mM) (nx mc ms : Nat) (Q : Option Value → mM → Prop) : Prop :=
  ∀ (l : Launch) (D : va_G) (E : Nat → ClassId) (A : Nat → Prop), Met l yn (Cond.code yn cc nL ret :: zgw) (zRm d mc ms) (zP K D E A av M nx) (zQ D E A Q nx mc) mc ms A
def zE (B : zB) (Q : Option Value → mM → Prop) (mc ms : Nat) : State → Prop := match B with
  | (_, _, _, _, s, _, args, below, _, _, D, E, A) => MQ below (zQ D E A Q s.heap.size mc) args s mc ms A
theorem zP_blind {K : zK} {D : va_G} {E : Nat → ClassId} {A : Nat → Prop} {av : List Value} {M : mM} {nx : Nat} : FrameBlind (zP K D E A av M nx) := fun a U g mk q => by
  obtain ⟨q0, q1, q2, q3, q4, q5, q6⟩ := q
  exact ⟨q0, q1, q2, va_K.moved (u := U) (U := U.calling g mk a) (Vm.Alike.refl U.vm) q3, q4, zFx.same (s := U) (U := U.calling g mk a) rfl q5, zStr.same (s := U) (U := U.calling g mk a) rfl q6⟩
set_option maxHeartbeats 1000000 in
theorem z_enter {K : zK} {yn : MethodName} {cc : ByteArray} {nL : Nat} {ret : Option FieldType} {d : Nat} {av : List Value} {M : mM} {nx mc ms : Nat} {Q : Option Value → mM → Prop} (L : List (Option Value)) (hy : plainName yn.cls = true) (hlen : (lg_sl av).length ≤ nL) (hL : zPr 0 L = lv_args 0 av)
    (body : ∀ B : zB, zOk K yn cc nL ret d mc ms B → zSz B = nx → zV nL B (zE B Q mc ms) 0 L [] M 0 0) : zCt K yn cc nL ret d av M nx mc ms Q := by
  intro l D E A
  refine Met.ofW (cc := cc) (maxL := nL) (ret := ret) hy rfl ?_
  intro p e s m args below meth c s₁ B hml hv
  obtain ⟨rfl, hsz, hM, hK, hA, hF, hT⟩ := hv
  have hts := atoms_spec (ws := Cond.code yn cc nL ret :: zgw) B.pre
  have hown : s.vm.findClass yn.cls = some m.cls := findClass_of_methodNamed B.named
  have hnm : meth.name = yn.name := (name_of_methodNamed B.named B.method).1
  subst hsz
  have h := body (p, l, e, (headSpec (Cond.code yn cc nL ret :: zgw) (zRm d mc ms)).room, s, m, av.toArray, below, meth, c, D, E, A) ⟨⟨B.exec, B.bytes, hml, B.returns, hown⟩, fun w hw => hts w (List.mem_cons_of_mem _ hw), B.notSynchronized, hK, hA, hnm, ⟨Nat.le_refl _, Nat.le_refl _, Nat.le_refl _, Nat.le_refl _⟩, hF, hT⟩ rfl
  have hl := lv_entry av (n := nL) hlen
  rw [lg_entry_eq]
  refine h s.heap _ [] ?_ hM rfl va_S.rf
  rw [zHas, hL]
  exact hl

theorem z_iadd {K : zK} {yn : MethodName} {cc : ByteArray} {nL : Nat} {ret : Option FieldType} {d mc ms : Nat} {B : zB} {Q : State → Prop} {pc : Nat} {L : List (Option Value)} {rest : List Value} {M : mM} {k n : Nat} {x y : Int32} (ok : zOk K yn cc nL ret d mc ms B) (hd : decode cc pc = .ok (.iadd, 1)) 
    (kk : zV nL B Q (pc + 1) L (.int (x + y) :: rest) M k n) : zV nL B Q pc L (.int y :: .int x :: rest) M k n := by
  obtain ⟨p, l, e, R, s, m, args, below, meth, c, D, E, A⟩ := B
  obtain ⟨⟨hx, hb, hml, hr, hown⟩, hts, hlocks, hK, hA, hnm, hR, hF, hT⟩ := ok
  intro H ls locs hl hM hz hS
  exact lv_iadd hx hb hd (kk H ls locs hl hM hz hS)
theorem z_isub {K : zK} {yn : MethodName} {cc : ByteArray} {nL : Nat} {ret : Option FieldType} {d mc ms : Nat} {B : zB} {Q : State → Prop} {pc : Nat} {L : List (Option Value)} {rest : List Value} {M : mM} {k n : Nat} {x y : Int32} (ok : zOk K yn cc nL ret d mc ms B) (hd : decode cc pc = .ok (.isub, 1)) 
    (kk : zV nL B Q (pc + 1) L (.int (x - y) :: rest) M k n) : zV nL B Q pc L (.int y :: .int x :: rest) M k n := by
  obtain ⟨p, l, e, R, s, m, args, below, meth, c, D, E, A⟩ := B
  obtain ⟨⟨hx, hb, hml, hr, hown⟩, hts, hlocks, hK, hA, hnm, hR, hF, hT⟩ := ok
  intro H ls locs hl hM hz hS
  exact lv_isub hx hb hd (kk H ls locs hl hM hz hS)
theorem z_imul {K : zK} {yn : MethodName} {cc : ByteArray} {nL : Nat} {ret : Option FieldType} {d mc ms : Nat} {B : zB} {Q : State → Prop} {pc : Nat} {L : List (Option Value)} {rest : List Value} {M : mM} {k n : Nat} {x y : Int32} (ok : zOk K yn cc nL ret d mc ms B) (hd : decode cc pc = .ok (.imul, 1)) 
    (kk : zV nL B Q (pc + 1) L (.int (x * y) :: rest) M k n) : zV nL B Q pc L (.int y :: .int x :: rest) M k n := by
  obtain ⟨p, l, e, R, s, m, args, below, meth, c, D, E, A⟩ := B
  obtain ⟨⟨hx, hb, hml, hr, hown⟩, hts, hlocks, hK, hA, hnm, hR, hF, hT⟩ := ok
  intro H ls locs hl hM hz hS
  exact lv_imul hx hb hd (kk H ls locs hl hM hz hS)
theorem z_iand {K : zK} {yn : MethodName} {cc : ByteArray} {nL : Nat} {ret : Option FieldType} {d mc ms : Nat} {B : zB} {Q : State → Prop} {pc : Nat} {L : List (Option Value)} {rest : List Value} {M : mM} {k n : Nat} {x y : Int32} (ok : zOk K yn cc nL ret d mc ms B) (hd : decode cc pc = .ok (.iand, 1)) 
    (kk : zV nL B Q (pc + 1) L (.int (x &&& y) :: rest) M k n) : zV nL B Q pc L (.int y :: .int x :: rest) M k n := by
  obtain ⟨p, l, e, R, s, m, args, below, meth, c, D, E, A⟩ := B
  obtain ⟨⟨hx, hb, hml, hr, hown⟩, hts, hlocks, hK, hA, hnm, hR, hF, hT⟩ := ok
  intro H ls locs hl hM hz hS
  exact lv_iand hx hb hd (kk H ls locs hl hM hz hS)
theorem z_ior {K : zK} {yn : MethodName} {cc : ByteArray} {nL : Nat} {ret : Option FieldType} {d mc ms : Nat} {B : zB} {Q : State → Prop} {pc : Nat} {L : List (Option Value)} {rest : List Value} {M : mM} {k n : Nat} {x y : Int32} (ok : zOk K yn cc nL ret d mc ms B) (hd : decode cc pc = .ok (.ior, 1)) 
    (kk : zV nL B Q (pc + 1) L (.int (x ||| y) :: rest) M k n) : zV nL B Q pc L (.int y :: .int x :: rest) M k n := by
  obtain ⟨p, l, e, R, s, m, args, below, meth, c, D, E, A⟩ := B
  obtain ⟨⟨hx, hb, hml, hr, hown⟩, hts, hlocks, hK, hA, hnm, hR, hF, hT⟩ := ok
  intro H ls locs hl hM hz hS
  exact lv_ior hx hb hd (kk H ls locs hl hM hz hS)
theorem z_ishl {K : zK} {yn : MethodName} {cc : ByteArray} {nL : Nat} {ret : Option FieldType} {d mc ms : Nat} {B : zB} {Q : State → Prop} {pc : Nat} {L : List (Option Value)} {rest : List Value} {M : mM} {k n : Nat} {x y : Int32} (ok : zOk K yn cc nL ret d mc ms B) (hd : decode cc pc = .ok (.ishl, 1)) 
    (kk : zV nL B Q (pc + 1) L (.int (x <<< (y &&& 31)) :: rest) M k n) : zV nL B Q pc L (.int y :: .int x :: rest) M k n := by
  obtain ⟨p, l, e, R, s, m, args, below, meth, c, D, E, A⟩ := B
  obtain ⟨⟨hx, hb, hml, hr, hown⟩, hts, hlocks, hK, hA, hnm, hR, hF, hT⟩ := ok
  intro H ls locs hl hM hz hS
  exact lv_ishl hx hb hd (kk H ls locs hl hM hz hS)
theorem z_ishr {K : zK} {yn : MethodName} {cc : ByteArray} {nL : Nat} {ret : Option FieldType} {d mc ms : Nat} {B : zB} {Q : State → Prop} {pc : Nat} {L : List (Option Value)} {rest : List Value} {M : mM} {k n : Nat} {x y : Int32} (ok : zOk K yn cc nL ret d mc ms B) (hd : decode cc pc = .ok (.ishr, 1)) 
    (kk : zV nL B Q (pc + 1) L (.int (x >>> (y &&& 31)) :: rest) M k n) : zV nL B Q pc L (.int y :: .int x :: rest) M k n := by
  obtain ⟨p, l, e, R, s, m, args, below, meth, c, D, E, A⟩ := B
  obtain ⟨⟨hx, hb, hml, hr, hown⟩, hts, hlocks, hK, hA, hnm, hR, hF, hT⟩ := ok
  intro H ls locs hl hM hz hS
  exact lv_ishr hx hb hd (kk H ls locs hl hM hz hS)
theorem z_iushr {K : zK} {yn : MethodName} {cc : ByteArray} {nL : Nat} {ret : Option FieldType} {d mc ms : Nat} {B : zB} {Q : State → Prop} {pc : Nat} {L : List (Option Value)} {rest : List Value} {M : mM} {k n : Nat} {x y : Int32} (ok : zOk K yn cc nL ret d mc ms B) (hd : decode cc pc = .ok (.iushr, 1)) 
    (kk : zV nL B Q (pc + 1) L (.int (x.toUInt32 >>> (y.toUInt32 &&& Int32.toUInt32 31)).toInt32 :: rest) M k n) : zV nL B Q pc L (.int y :: .int x :: rest) M k n := by
  obtain ⟨p, l, e, R, s, m, args, below, meth, c, D, E, A⟩ := B
  obtain ⟨⟨hx, hb, hml, hr, hown⟩, hts, hlocks, hK, hA, hnm, hR, hF, hT⟩ := ok
  intro H ls locs hl hM hz hS
  exact lv_iushr hx hb hd rfl (kk H ls locs hl hM hz hS)
theorem z_idiv {K : zK} {yn : MethodName} {cc : ByteArray} {nL : Nat} {ret : Option FieldType} {d mc ms : Nat} {B : zB} {Q : State → Prop} {pc : Nat} {L : List (Option Value)} {rest : List Value} {M : mM} {k n : Nat} {x y : Int32} (ok : zOk K yn cc nL ret d mc ms B) (hd : decode cc pc = .ok (.idiv, 1)) (hne : ¬ y = 0)
    (kk : zV nL B Q (pc + 1) L (.int (x / y) :: rest) M k n) : zV nL B Q pc L (.int y :: .int x :: rest) M k n := by
  obtain ⟨p, l, e, R, s, m, args, below, meth, c, D, E, A⟩ := B
  obtain ⟨⟨hx, hb, hml, hr, hown⟩, hts, hlocks, hK, hA, hnm, hR, hF, hT⟩ := ok
  intro H ls locs hl hM hz hS
  exact lv_idiv hx hb hd hne (kk H ls locs hl hM hz hS)
theorem z_irem {K : zK} {yn : MethodName} {cc : ByteArray} {nL : Nat} {ret : Option FieldType} {d mc ms : Nat} {B : zB} {Q : State → Prop} {pc : Nat} {L : List (Option Value)} {rest : List Value} {M : mM} {k n : Nat} {x y : Int32} (ok : zOk K yn cc nL ret d mc ms B) (hd : decode cc pc = .ok (.irem, 1)) (hne : ¬ y = 0)
    (kk : zV nL B Q (pc + 1) L (.int (x - x / y * y) :: rest) M k n) : zV nL B Q pc L (.int y :: .int x :: rest) M k n := by
  obtain ⟨p, l, e, R, s, m, args, below, meth, c, D, E, A⟩ := B
  obtain ⟨⟨hx, hb, hml, hr, hown⟩, hts, hlocks, hK, hA, hnm, hR, hF, hT⟩ := ok
  intro H ls locs hl hM hz hS
  exact lv_irem hx hb hd hne (kk H ls locs hl hM hz hS)
theorem z_lmul {K : zK} {yn : MethodName} {cc : ByteArray} {nL : Nat} {ret : Option FieldType} {d mc ms : Nat} {B : zB} {Q : State → Prop} {pc : Nat} {L : List (Option Value)} {rest : List Value} {M : mM} {k n : Nat} {x y : Int64} (ok : zOk K yn cc nL ret d mc ms B) (hd : decode cc pc = .ok (.lmul, 1)) 
    (kk : zV nL B Q (pc + 1) L (.long (x * y) :: rest) M k n) : zV nL B Q pc L (.long y :: .long x :: rest) M k n := by
  obtain ⟨p, l, e, R, s, m, args, below, meth, c, D, E, A⟩ := B
  obtain ⟨⟨hx, hb, hml, hr, hown⟩, hts, hlocks, hK, hA, hnm, hR, hF, hT⟩ := ok
  intro H ls locs hl hM hz hS
  exact lv_lmul hx hb hd (kk H ls locs hl hM hz hS)
theorem z_ladd {K : zK} {yn : MethodName} {cc : ByteArray} {nL : Nat} {ret : Option FieldType} {d mc ms : Nat} {B : zB} {Q : State → Prop} {pc : Nat} {L : List (Option Value)} {rest : List Value} {M : mM} {k n : Nat} {x y : Int64} (ok : zOk K yn cc nL ret d mc ms B) (hd : decode cc pc = .ok (.ladd, 1)) 
    (kk : zV nL B Q (pc + 1) L (.long (x + y) :: rest) M k n) : zV nL B Q pc L (.long y :: .long x :: rest) M k n := by
  obtain ⟨p, l, e, R, s, m, args, below, meth, c, D, E, A⟩ := B
  obtain ⟨⟨hx, hb, hml, hr, hown⟩, hts, hlocks, hK, hA, hnm, hR, hF, hT⟩ := ok
  intro H ls locs hl hM hz hS
  exact lv_ladd hx hb hd (kk H ls locs hl hM hz hS)
theorem z_i2l {K : zK} {yn : MethodName} {cc : ByteArray} {nL : Nat} {ret : Option FieldType} {d mc ms : Nat} {B : zB} {Q : State → Prop} {pc : Nat} {L : List (Option Value)} {rest : List Value} {M : mM} {k n : Nat} {x : Int32} (ok : zOk K yn cc nL ret d mc ms B) (hd : decode cc pc = .ok (.i2l, 1)) 
    (kk : zV nL B Q (pc + 1) L (.long x.toInt64 :: rest) M k n) : zV nL B Q pc L (.int x :: rest) M k n := by
  obtain ⟨p, l, e, R, s, m, args, below, meth, c, D, E, A⟩ := B
  obtain ⟨⟨hx, hb, hml, hr, hown⟩, hts, hlocks, hK, hA, hnm, hR, hF, hT⟩ := ok
  intro H ls locs hl hM hz hS
  exact lv_i2l hx hb hd rfl (kk H ls locs hl hM hz hS)
theorem z_i2c {K : zK} {yn : MethodName} {cc : ByteArray} {nL : Nat} {ret : Option FieldType} {d mc ms : Nat} {B : zB} {Q : State → Prop} {pc : Nat} {L : List (Option Value)} {rest : List Value} {M : mM} {k n : Nat} {x : Int32} (ok : zOk K yn cc nL ret d mc ms B) (hd : decode cc pc = .ok (.i2c, 1)) 
    (kk : zV nL B Q (pc + 1) L (.int (x.toUInt32 % 65536).toInt32 :: rest) M k n) : zV nL B Q pc L (.int x :: rest) M k n := by
  obtain ⟨p, l, e, R, s, m, args, below, meth, c, D, E, A⟩ := B
  obtain ⟨⟨hx, hb, hml, hr, hown⟩, hts, hlocks, hK, hA, hnm, hR, hF, hT⟩ := ok
  intro H ls locs hl hM hz hS
  exact lv_i2c hx hb hd rfl (kk H ls locs hl hM hz hS)
theorem z_lcmp {K : zK} {yn : MethodName} {cc : ByteArray} {nL : Nat} {ret : Option FieldType} {d mc ms : Nat} {B : zB} {Q : State → Prop} {pc : Nat} {L : List (Option Value)} {rest : List Value} {M : mM} {k n : Nat} {x y : Int64} (ok : zOk K yn cc nL ret d mc ms B) (hd : decode cc pc = .ok (.lcmp, 1)) 
    (kk : zV nL B Q (pc + 1) L (.int (lg_cmp x y) :: rest) M k n) : zV nL B Q pc L (.long y :: .long x :: rest) M k n := by
  obtain ⟨p, l, e, R, s, m, args, below, meth, c, D, E, A⟩ := B
  obtain ⟨⟨hx, hb, hml, hr, hown⟩, hts, hlocks, hK, hA, hnm, hR, hF, hT⟩ := ok
  intro H ls locs hl hM hz hS
  exact W.lcmp hx hb hd (kk H ls locs hl hM hz hS)
theorem z_dup {K : zK} {yn : MethodName} {cc : ByteArray} {nL : Nat} {ret : Option FieldType} {d mc ms : Nat} {B : zB} {Q : State → Prop} {pc : Nat} {L : List (Option Value)} {rest : List Value} {M : mM} {k n : Nat} {v : Value} (ok : zOk K yn cc nL ret d mc ms B) (hd : decode cc pc = .ok (.dup, 1)) (hc : v.category = 1)
    (kk : zV nL B Q (pc + 1) L (v :: v :: rest) M k n) : zV nL B Q pc L (v :: rest) M k n := by
  obtain ⟨p, l, e, R, s, m, args, below, meth, c, D, E, A⟩ := B
  obtain ⟨⟨hx, hb, hml, hr, hown⟩, hts, hlocks, hK, hA, hnm, hR, hF, hT⟩ := ok
  intro H ls locs hl hM hz hS
  exact lv_dup hx hb hd hc (kk H ls locs hl hM hz hS)
theorem z_dup2 {K : zK} {yn : MethodName} {cc : ByteArray} {nL : Nat} {ret : Option FieldType} {d mc ms : Nat} {B : zB} {Q : State → Prop} {pc : Nat} {L : List (Option Value)} {rest : List Value} {M : mM} {k n : Nat} {v w : Value} (ok : zOk K yn cc nL ret d mc ms B) (hd : decode cc pc = .ok (.dup2, 1)) (hc : v.category = 1) (hc2 : w.category = 1)
    (kk : zV nL B Q (pc + 1) L (v :: w :: v :: w :: rest) M k n) : zV nL B Q pc L (v :: w :: rest) M k n := by
  obtain ⟨p, l, e, R, s, m, args, below, meth, c, D, E, A⟩ := B
  obtain ⟨⟨hx, hb, hml, hr, hown⟩, hts, hlocks, hK, hA, hnm, hR, hF, hT⟩ := ok
  intro H ls locs hl hM hz hS
  exact lv_dup2_11 hx hb hd hc hc2 (kk H ls locs hl hM hz hS)
theorem z_pop {K : zK} {yn : MethodName} {cc : ByteArray} {nL : Nat} {ret : Option FieldType} {d mc ms : Nat} {B : zB} {Q : State → Prop} {pc : Nat} {L : List (Option Value)} {rest : List Value} {M : mM} {k n : Nat} {v : Value} (ok : zOk K yn cc nL ret d mc ms B) (hd : decode cc pc = .ok (.pop, 1)) (hc : v.category = 1)
    (kk : zV nL B Q (pc + 1) L rest M k n) : zV nL B Q pc L (v :: rest) M k n := by
  obtain ⟨p, l, e, R, s, m, args, below, meth, c, D, E, A⟩ := B
  obtain ⟨⟨hx, hb, hml, hr, hown⟩, hts, hlocks, hK, hA, hnm, hR, hF, hT⟩ := ok
  intro H ls locs hl hM hz hS
  exact lv_pop hx hb hd hc (kk H ls locs hl hM hz hS)
theorem z_iconst {K : zK} {yn : MethodName} {cc : ByteArray} {nL : Nat} {ret : Option FieldType} {d mc ms : Nat} {B : zB} {Q : State → Prop} {pc : Nat} {L : List (Option Value)} {rest : List Value} {M : mM} {k n : Nat} {z : Int} {v : Int32} (ok : zOk K yn cc nL ret d mc ms B) (hd : decode cc pc = .ok (.iconst z, 1)) (hv : Int32.ofInt z = v)
    (kk : zV nL B Q (pc + 1) L (.int v :: rest) M k n) : zV nL B Q pc L rest M k n := by
  obtain ⟨p, l, e, R, s, m, args, below, meth, c, D, E, A⟩ := B
  obtain ⟨⟨hx, hb, hml, hr, hown⟩, hts, hlocks, hK, hA, hnm, hR, hF, hT⟩ := ok
  intro H ls locs hl hM hz hS
  exact lv_iconst hx hb hd hv (kk H ls locs hl hM hz hS)
theorem z_bipush {K : zK} {yn : MethodName} {cc : ByteArray} {nL : Nat} {ret : Option FieldType} {d mc ms : Nat} {B : zB} {Q : State → Prop} {pc : Nat} {L : List (Option Value)} {rest : List Value} {M : mM} {k n : Nat} {z : Int} {v : Int32} (ok : zOk K yn cc nL ret d mc ms B) (hd : decode cc pc = .ok (.bipush z, 2)) (hv : (Int8.ofInt z).toInt32 = v)
    (kk : zV nL B Q (pc + 2) L (.int v :: rest) M k n) : zV nL B Q pc L rest M k n := by
  obtain ⟨p, l, e, R, s, m, args, below, meth, c, D, E, A⟩ := B
  obtain ⟨⟨hx, hb, hml, hr, hown⟩, hts, hlocks, hK, hA, hnm, hR, hF, hT⟩ := ok
  intro H ls locs hl hM hz hS
  exact lv_bipush hx hb hd hv (kk H ls locs hl hM hz hS)
theorem z_sipush {K : zK} {yn : MethodName} {cc : ByteArray} {nL : Nat} {ret : Option FieldType} {d mc ms : Nat} {B : zB} {Q : State → Prop} {pc : Nat} {L : List (Option Value)} {rest : List Value} {M : mM} {k n : Nat} {z : Int} {v : Int32} (ok : zOk K yn cc nL ret d mc ms B) (hd : decode cc pc = .ok (.sipush z, 3)) (hv : (Int16.ofInt z).toInt32 = v)
    (kk : zV nL B Q (pc + 3) L (.int v :: rest) M k n) : zV nL B Q pc L rest M k n := by
  obtain ⟨p, l, e, R, s, m, args, below, meth, c, D, E, A⟩ := B
  obtain ⟨⟨hx, hb, hml, hr, hown⟩, hts, hlocks, hK, hA, hnm, hR, hF, hT⟩ := ok
  intro H ls locs hl hM hz hS
  exact lv_sipush hx hb hd hv (kk H ls locs hl hM hz hS)
theorem z_lconst {K : zK} {yn : MethodName} {cc : ByteArray} {nL : Nat} {ret : Option FieldType} {d mc ms : Nat} {B : zB} {Q : State → Prop} {pc : Nat} {L : List (Option Value)} {rest : List Value} {M : mM} {k n : Nat} {z : Fin 2} {v : Int64} (ok : zOk K yn cc nL ret d mc ms B) (hd : decode cc pc = .ok (.lconst z, 1)) (hv : Int64.ofNat (z : Nat) = v)
    (kk : zV nL B Q (pc + 1) L (.long v :: rest) M k n) : zV nL B Q pc L rest M k n := by
  obtain ⟨p, l, e, R, s, m, args, below, meth, c, D, E, A⟩ := B
  obtain ⟨⟨hx, hb, hml, hr, hown⟩, hts, hlocks, hK, hA, hnm, hR, hF, hT⟩ := ok
  intro H ls locs hl hM hz hS
  exact lv_lconst hx hb hd hv (kk H ls locs hl hM hz hS)
theorem z_null {K : zK} {yn : MethodName} {cc : ByteArray} {nL : Nat} {ret : Option FieldType} {d mc ms : Nat} {B : zB} {Q : State → Prop} {pc : Nat} {L : List (Option Value)} {rest : List Value} {M : mM} {k n : Nat}  (ok : zOk K yn cc nL ret d mc ms B) (hd : decode cc pc = .ok (.aconst_null, 1)) 
    (kk : zV nL B Q (pc + 1) L (.null :: rest) M k n) : zV nL B Q pc L rest M k n := by
  obtain ⟨p, l, e, R, s, m, args, below, meth, c, D, E, A⟩ := B
  obtain ⟨⟨hx, hb, hml, hr, hown⟩, hts, hlocks, hK, hA, hnm, hR, hF, hT⟩ := ok
  intro H ls locs hl hM hz hS
  exact lv_null hx hb hd (kk H ls locs hl hM hz hS)
theorem z_ldc {K : zK} {yn : MethodName} {cc : ByteArray} {nL : Nat} {ret : Option FieldType} {d mc ms : Nat} {B : zB} {Q : State → Prop} {pc : Nat} {L : List (Option Value)} {rest : List Value} {M : mM} {k n : Nat} {ix : Nat} {v : Int32} (ok : zOk K yn cc nL ret d mc ms B) (hd : decode cc pc = .ok (.ldc ix, 2)) (hw : Cond.constant yn.cls ix v ∈ zgw)
    (kk : zV nL B Q (pc + 2) L (.int v :: rest) M k n) : zV nL B Q pc L rest M k n := by
  obtain ⟨p, l, e, R, s, m, args, below, meth, c, D, E, A⟩ := B
  obtain ⟨⟨hx, hb, hml, hr, hown⟩, hts, hlocks, hK, hA, hnm, hR, hF, hT⟩ := ok
  intro H ls locs hl hM hz hS
  exact lv_ldc hx hb hown (hts _ hw) hd (kk H ls locs hl hM hz hS)
theorem z_ldcw {K : zK} {yn : MethodName} {cc : ByteArray} {nL : Nat} {ret : Option FieldType} {d mc ms : Nat} {B : zB} {Q : State → Prop} {pc : Nat} {L : List (Option Value)} {rest : List Value} {M : mM} {k n : Nat} {ix : Nat} {v : Int32} (ok : zOk K yn cc nL ret d mc ms B) (hd : decode cc pc = .ok (.ldc_w ix, 3)) (hw : Cond.constant yn.cls ix v ∈ zgw)
    (kk : zV nL B Q (pc + 3) L (.int v :: rest) M k n) : zV nL B Q pc L rest M k n := by
  obtain ⟨p, l, e, R, s, m, args, below, meth, c, D, E, A⟩ := B
  obtain ⟨⟨hx, hb, hml, hr, hown⟩, hts, hlocks, hK, hA, hnm, hR, hF, hT⟩ := ok
  intro H ls locs hl hM hz hS
  exact lv_ldcw hx hb hown (hts _ hw) hd (kk H ls locs hl hM hz hS)
theorem z_ldc2 {K : zK} {yn : MethodName} {cc : ByteArray} {nL : Nat} {ret : Option FieldType} {d mc ms : Nat} {B : zB} {Q : State → Prop} {pc : Nat} {L : List (Option Value)} {rest : List Value} {M : mM} {k n : Nat} {ix : Nat} {v : Int64} (ok : zOk K yn cc nL ret d mc ms B) (hd : decode cc pc = .ok (.ldc2_w ix, 3)) (hw : Cond.constantLong yn.cls ix v ∈ zgw)
    (kk : zV nL B Q (pc + 3) L (.long v :: rest) M k n) : zV nL B Q pc L rest M k n := by
  obtain ⟨p, l, e, R, s, m, args, below, meth, c, D, E, A⟩ := B
  obtain ⟨⟨hx, hb, hml, hr, hown⟩, hts, hlocks, hK, hA, hnm, hR, hF, hT⟩ := ok
  intro H ls locs hl hM hz hS
  exact lv_ldc2 hx hb hown (hts _ hw) hd (kk H ls locs hl hM hz hS)
theorem z_ldcS {K : zK} {yn : MethodName} {cc : ByteArray} {nL : Nat} {ret : Option FieldType} {d mc ms : Nat} {B : zB} {Q : State → Prop} {pc : Nat} {L : List (Option Value)} {rest : List Value} {M : mM} {k n : Nat} {ix i : Nat} (ok : zOk K yn cc nL ret d mc ms B) (hd : decode cc pc = .ok (.ldc ix, 2)) (hi : i < 8) (hix : 71 + 2 * i = ix) (hcl : yn.cls = RX4)
    (kk : zV nL B Q (pc + 2) L (.ref (K.1 i) :: rest) M k n) : zV nL B Q pc L rest M k n := by
  obtain ⟨p, l, e, R, s, m, args, below, meth, c, D, E, A⟩ := B
  obtain ⟨⟨hx, hb, hml, hr, hown⟩, hts, hlocks, hK, hA, hnm, hR, hF, hT⟩ := ok
  intro H ls locs hl hM hz hS
  exact va_ldcS (tx := zTx.getD i "") hx hb hown (by rw [hcl, ← hix]; exact hT.2.1 i hi) hd (kk H ls locs hl hM hz hS)
theorem z_iload {K : zK} {yn : MethodName} {cc : ByteArray} {nL : Nat} {ret : Option FieldType} {d mc ms : Nat} {B : zB} {Q : State → Prop} {pc : Nat} {L : List (Option Value)} {rest : List Value} {M : mM} {k n : Nat} {i : Nat} {x : Int32} (ok : zOk K yn cc nL ret d mc ms B) (hd : decode cc pc = .ok (.iload i, 2)) (hi : L[i]? = some (some (.int x)))
    (kk : zV nL B Q (pc + 2) L (.int x :: rest) M k n) : zV nL B Q pc L rest M k n := by
  obtain ⟨p, l, e, R, s, m, args, below, meth, c, D, E, A⟩ := B
  obtain ⟨⟨hx, hb, hml, hr, hown⟩, hts, hlocks, hK, hA, hnm, hR, hF, hT⟩ := ok
  intro H ls locs hl hM hz hS
  exact lv_iload hx hb hd (hl.at hi) (kk H ls locs hl hM hz hS)
theorem z_iload_n {K : zK} {yn : MethodName} {cc : ByteArray} {nL : Nat} {ret : Option FieldType} {d mc ms : Nat} {B : zB} {Q : State → Prop} {pc : Nat} {L : List (Option Value)} {rest : List Value} {M : mM} {k n : Nat} {i : Fin 4} {x : Int32} (ok : zOk K yn cc nL ret d mc ms B) (hd : decode cc pc = .ok (.iload_n i, 1)) (hi : L[(i : Nat)]? = some (some (.int x)))
    (kk : zV nL B Q (pc + 1) L (.int x :: rest) M k n) : zV nL B Q pc L rest M k n := by
  obtain ⟨p, l, e, R, s, m, args, below, meth, c, D, E, A⟩ := B
  obtain ⟨⟨hx, hb, hml, hr, hown⟩, hts, hlocks, hK, hA, hnm, hR, hF, hT⟩ := ok
  intro H ls locs hl hM hz hS
  exact lv_iload_n hx hb hd rfl (hl.at hi) (kk H ls locs hl hM hz hS)
theorem z_aload {K : zK} {yn : MethodName} {cc : ByteArray} {nL : Nat} {ret : Option FieldType} {d mc ms : Nat} {B : zB} {Q : State → Prop} {pc : Nat} {L : List (Option Value)} {rest : List Value} {M : mM} {k n : Nat} {i : Nat} {x : Nat} (ok : zOk K yn cc nL ret d mc ms B) (hd : decode cc pc = .ok (.aload i, 2)) (hi : L[i]? = some (some (.ref x)))
    (kk : zV nL B Q (pc + 2) L (.ref x :: rest) M k n) : zV nL B Q pc L rest M k n := by
  obtain ⟨p, l, e, R, s, m, args, below, meth, c, D, E, A⟩ := B
  obtain ⟨⟨hx, hb, hml, hr, hown⟩, hts, hlocks, hK, hA, hnm, hR, hF, hT⟩ := ok
  intro H ls locs hl hM hz hS
  exact lv_aload hx hb hd (hl.at hi) (kk H ls locs hl hM hz hS)
theorem z_aload_n {K : zK} {yn : MethodName} {cc : ByteArray} {nL : Nat} {ret : Option FieldType} {d mc ms : Nat} {B : zB} {Q : State → Prop} {pc : Nat} {L : List (Option Value)} {rest : List Value} {M : mM} {k n : Nat} {i : Fin 4} {x : Nat} (ok : zOk K yn cc nL ret d mc ms B) (hd : decode cc pc = .ok (.aload_n i, 1)) (hi : L[(i : Nat)]? = some (some (.ref x)))
    (kk : zV nL B Q (pc + 1) L (.ref x :: rest) M k n) : zV nL B Q pc L rest M k n := by
  obtain ⟨p, l, e, R, s, m, args, below, meth, c, D, E, A⟩ := B
  obtain ⟨⟨hx, hb, hml, hr, hown⟩, hts, hlocks, hK, hA, hnm, hR, hF, hT⟩ := ok
  intro H ls locs hl hM hz hS
  exact lv_aload_n hx hb hd rfl (hl.at hi) (kk H ls locs hl hM hz hS)
theorem z_lload_n {K : zK} {yn : MethodName} {cc : ByteArray} {nL : Nat} {ret : Option FieldType} {d mc ms : Nat} {B : zB} {Q : State → Prop} {pc : Nat} {L : List (Option Value)} {rest : List Value} {M : mM} {k n : Nat} {i : Fin 4} {x : Int64} (ok : zOk K yn cc nL ret d mc ms B) (hd : decode cc pc = .ok (.lload_n i, 1)) (hi : L[(i : Nat)]? = some (some (.long x)))
    (kk : zV nL B Q (pc + 1) L (.long x :: rest) M k n) : zV nL B Q pc L rest M k n := by
  obtain ⟨p, l, e, R, s, m, args, below, meth, c, D, E, A⟩ := B
  obtain ⟨⟨hx, hb, hml, hr, hown⟩, hts, hlocks, hK, hA, hnm, hR, hF, hT⟩ := ok
  intro H ls locs hl hM hz hS
  exact lv_lload_n hx hb hd rfl (hl.at hi) (kk H ls locs hl hM hz hS)
theorem z_aload_nN {K : zK} {yn : MethodName} {cc : ByteArray} {nL : Nat} {ret : Option FieldType} {d mc ms : Nat} {B : zB} {Q : State → Prop} {pc : Nat} {L : List (Option Value)} {rest : List Value} {M : mM} {k n : Nat} {i : Fin 4} (ok : zOk K yn cc nL ret d mc ms B) (hd : decode cc pc = .ok (.aload_n i, 1)) (hi : L[(i : Nat)]? = some (some .null))
    (kk : zV nL B Q (pc + 1) L (.null :: rest) M k n) : zV nL B Q pc L rest M k n := by
  obtain ⟨p, l, e, R, s, m, args, below, meth, c, D, E, A⟩ := B
  obtain ⟨⟨hx, hb, hml, hr, hown⟩, hts, hlocks, hK, hA, hnm, hR, hF, hT⟩ := ok
  intro H ls locs hl hM hz hS
  exact lv_aload_nN hx hb hd rfl (hl.at hi) (kk H ls locs hl hM hz hS)
theorem z_aloadN {K : zK} {yn : MethodName} {cc : ByteArray} {nL : Nat} {ret : Option FieldType} {d mc ms : Nat} {B : zB} {Q : State → Prop} {pc : Nat} {L : List (Option Value)} {rest : List Value} {M : mM} {k n : Nat} {i : Nat} (ok : zOk K yn cc nL ret d mc ms B) (hd : decode cc pc = .ok (.aload i, 2)) (hi : L[i]? = some (some .null))
    (kk : zV nL B Q (pc + 2) L (.null :: rest) M k n) : zV nL B Q pc L rest M k n := by
  obtain ⟨p, l, e, R, s, m, args, below, meth, c, D, E, A⟩ := B
  obtain ⟨⟨hx, hb, hml, hr, hown⟩, hts, hlocks, hK, hA, hnm, hR, hF, hT⟩ := ok
  intro H ls locs hl hM hz hS
  exact lv_aloadN hx hb hd (hl.at hi) (kk H ls locs hl hM hz hS)
theorem z_istore {K : zK} {yn : MethodName} {cc : ByteArray} {nL : Nat} {ret : Option FieldType} {d mc ms : Nat} {B : zB} {Q : State → Prop} {pc : Nat} {L : List (Option Value)} {rest : List Value} {M : mM} {k n : Nat} {i : Nat} {x : Int32} (ok : zOk K yn cc nL ret d mc ms B) (hd : decode cc pc = .ok (.istore i, 2)) (hn : i < nL) (h1 : zk1 L i = true)
    (kk : zV nL B Q (pc + 2) (L.set i (some (.int x))) rest M k n) : zV nL B Q pc L (.int x :: rest) M k n := by
  obtain ⟨p, l, e, R, s, m, args, below, meth, c, D, E, A⟩ := B
  obtain ⟨⟨hx, hb, hml, hr, hown⟩, hts, hlocks, hK, hA, hnm, hR, hF, hT⟩ := ok
  intro H ls locs hl hM hz hS
  exact lv_istore hx hb hd hl hn rfl (fun ls' hl' => kk H ls' locs (zHas.set1 h1 hl') hM hz hS)
theorem z_istore_n {K : zK} {yn : MethodName} {cc : ByteArray} {nL : Nat} {ret : Option FieldType} {d mc ms : Nat} {B : zB} {Q : State → Prop} {pc : Nat} {L : List (Option Value)} {rest : List Value} {M : mM} {k n : Nat} {i : Fin 4} {x : Int32} (ok : zOk K yn cc nL ret d mc ms B) (hd : decode cc pc = .ok (.istore_n i, 1)) (hn : (i : Nat) < nL) (h1 : zk1 L (i : Nat) = true)
    (kk : zV nL B Q (pc + 1) (L.set (i : Nat) (some (.int x))) rest M k n) : zV nL B Q pc L (.int x :: rest) M k n := by
  obtain ⟨p, l, e, R, s, m, args, below, meth, c, D, E, A⟩ := B
  obtain ⟨⟨hx, hb, hml, hr, hown⟩, hts, hlocks, hK, hA, hnm, hR, hF, hT⟩ := ok
  intro H ls locs hl hM hz hS
  exact lv_istore_n hx hb hd rfl hl hn rfl (fun ls' hl' => kk H ls' locs (zHas.set1 h1 hl') hM hz hS)
theorem z_astore {K : zK} {yn : MethodName} {cc : ByteArray} {nL : Nat} {ret : Option FieldType} {d mc ms : Nat} {B : zB} {Q : State → Prop} {pc : Nat} {L : List (Option Value)} {rest : List Value} {M : mM} {k n : Nat} {i : Nat} {x : Nat} (ok : zOk K yn cc nL ret d mc ms B) (hd : decode cc pc = .ok (.astore i, 2)) (hn : i < nL) (h1 : zk1 L i = true)
    (kk : zV nL B Q (pc + 2) (L.set i (some (.ref x))) rest M k n) : zV nL B Q pc L (.ref x :: rest) M k n := by
  obtain ⟨p, l, e, R, s, m, args, below, meth, c, D, E, A⟩ := B
  obtain ⟨⟨hx, hb, hml, hr, hown⟩, hts, hlocks, hK, hA, hnm, hR, hF, hT⟩ := ok
  intro H ls locs hl hM hz hS
  exact lv_astore hx hb hd hl hn rfl (fun ls' hl' => kk H ls' locs (zHas.set1 h1 hl') hM hz hS)
theorem z_astore_n {K : zK} {yn : MethodName} {cc : ByteArray} {nL : Nat} {ret : Option FieldType} {d mc ms : Nat} {B : zB} {Q : State → Prop} {pc : Nat} {L : List (Option Value)} {rest : List Value} {M : mM} {k n : Nat} {i : Fin 4} {x : Nat} (ok : zOk K yn cc nL ret d mc ms B) (hd : decode cc pc = .ok (.astore_n i, 1)) (hn : (i : Nat) < nL) (h1 : zk1 L (i : Nat) = true)
    (kk : zV nL B Q (pc + 1) (L.set (i : Nat) (some (.ref x))) rest M k n) : zV nL B Q pc L (.ref x :: rest) M k n := by
  obtain ⟨p, l, e, R, s, m, args, below, meth, c, D, E, A⟩ := B
  obtain ⟨⟨hx, hb, hml, hr, hown⟩, hts, hlocks, hK, hA, hnm, hR, hF, hT⟩ := ok
  intro H ls locs hl hM hz hS
  exact lv_astore_n hx hb hd rfl hl hn rfl (fun ls' hl' => kk H ls' locs (zHas.set1 h1 hl') hM hz hS)
theorem z_astoreN {K : zK} {yn : MethodName} {cc : ByteArray} {nL : Nat} {ret : Option FieldType} {d mc ms : Nat} {B : zB} {Q : State → Prop} {pc : Nat} {L : List (Option Value)} {rest : List Value} {M : mM} {k n : Nat} {i : Nat} (ok : zOk K yn cc nL ret d mc ms B) (hd : decode cc pc = .ok (.astore i, 2)) (hn : i < nL) (h1 : zk1 L i = true)
    (kk : zV nL B Q (pc + 2) (L.set i (some (.null))) rest M k n) : zV nL B Q pc L (.null :: rest) M k n := by
  obtain ⟨p, l, e, R, s, m, args, below, meth, c, D, E, A⟩ := B
  obtain ⟨⟨hx, hb, hml, hr, hown⟩, hts, hlocks, hK, hA, hnm, hR, hF, hT⟩ := ok
  intro H ls locs hl hM hz hS
  exact lv_astoreN hx hb hd hl hn rfl (fun ls' hl' => kk H ls' locs (zHas.set1 h1 hl') hM hz hS)
theorem z_astore_nN {K : zK} {yn : MethodName} {cc : ByteArray} {nL : Nat} {ret : Option FieldType} {d mc ms : Nat} {B : zB} {Q : State → Prop} {pc : Nat} {L : List (Option Value)} {rest : List Value} {M : mM} {k n : Nat} {i : Fin 4} (ok : zOk K yn cc nL ret d mc ms B) (hd : decode cc pc = .ok (.astore_n i, 1)) (hn : (i : Nat) < nL) (h1 : zk1 L (i : Nat) = true)
    (kk : zV nL B Q (pc + 1) (L.set (i : Nat) (some (.null))) rest M k n) : zV nL B Q pc L (.null :: rest) M k n := by
  obtain ⟨p, l, e, R, s, m, args, below, meth, c, D, E, A⟩ := B
  obtain ⟨⟨hx, hb, hml, hr, hown⟩, hts, hlocks, hK, hA, hnm, hR, hF, hT⟩ := ok
  intro H ls locs hl hM hz hS
  exact lv_astore_nN hx hb hd rfl hl hn rfl (fun ls' hl' => kk H ls' locs (zHas.set1 h1 hl') hM hz hS)
theorem z_lstore_n {K : zK} {yn : MethodName} {cc : ByteArray} {nL : Nat} {ret : Option FieldType} {d mc ms : Nat} {B : zB} {Q : State → Prop} {pc : Nat} {L : List (Option Value)} {rest : List Value} {M : mM} {k n : Nat} {i : Fin 4} {x : Int64} (ok : zOk K yn cc nL ret d mc ms B) (hd : decode cc pc = .ok (.lstore_n i, 1)) (hn : (i : Nat) + 1 < nL) (h1 : zk1 L (i : Nat) = true)
    (kk : zV nL B Q (pc + 1) ((L.set ((i : Nat) + 1) none).set (i : Nat) (some (.long x))) rest M k n) : zV nL B Q pc L (.long x :: rest) M k n := by
  obtain ⟨p, l, e, R, s, m, args, below, meth, c, D, E, A⟩ := B
  obtain ⟨⟨hx, hb, hml, hr, hown⟩, hts, hlocks, hK, hA, hnm, hR, hF, hT⟩ := ok
  intro H ls locs hl hM hz hS
  exact lv_lstore_n hx hb hd rfl hl hn rfl (fun ls' hl' => kk H ls' locs (zHas.set2 h1 hl') hM hz hS)
theorem z_iinc {K : zK} {yn : MethodName} {cc : ByteArray} {nL : Nat} {ret : Option FieldType} {d mc ms : Nat} {B : zB} {Q : State → Prop} {pc : Nat} {L : List (Option Value)} {rest : List Value} {M : mM} {k n : Nat} {i : Nat} {z : Int} {x v : Int32} (ok : zOk K yn cc nL ret d mc ms B) (hd : decode cc pc = .ok (.iinc i z, 3)) (hi : L[i]? = some (some (.int x))) (hv : x + Int32.ofInt z = v) (hn : i < nL) (h1 : zk1 L i = true)
    (kk : zV nL B Q (pc + 3) (L.set i (some (.int v))) rest M k n) : zV nL B Q pc L rest M k n := by
  obtain ⟨p, l, e, R, s, m, args, below, meth, c, D, E, A⟩ := B
  obtain ⟨⟨hx, hb, hml, hr, hown⟩, hts, hlocks, hK, hA, hnm, hR, hF, hT⟩ := ok
  intro H ls locs hl hM hz hS
  obtain ⟨j, hj⟩ := List.getElem?_of_mem ((zPr_mem (q := (i, .int x)) L 0).mpr ⟨i, (Nat.zero_add i).symm, hi⟩)
  exact lv_iinc hx hb hd hl hj hv hn rfl (fun ls' hl' => kk H ls' locs (zHas.set1 h1 hl') hM hz hS)
theorem z_if_eq {K : zK} {yn : MethodName} {cc : ByteArray} {nL : Nat} {ret : Option FieldType} {d mc ms : Nat} {B : zB} {Q : State → Prop} {pc : Nat} {L : List (Option Value)} {rest : List Value} {M : mM} {k n : Nat} {x : Int32} {off : Int} {tgt : Nat} (ok : zOk K yn cc nL ret d mc ms B) (hd : decode cc pc = .ok (.ifCond .eq off, 3)) (ht : (pc : Int) + off = (tgt : Int))
    (kt : x = 0 → zV nL B Q tgt L rest M k n) (kf : ¬ x = 0 → zV nL B Q (pc + 3) L rest M k n) : zV nL B Q pc L (.int x :: rest) M k n := by
  obtain ⟨p, l, e, R, s, m, args, below, meth, c, D, E, A⟩ := B
  obtain ⟨⟨hx, hb, hml, hr, hown⟩, hts, hlocks, hK, hA, hnm, hR, hF, hT⟩ := ok
  intro H ls locs hl hM hz hS
  exact lv_if_eq hx hb hd ht (fun q => kt q H ls locs hl hM hz hS) (fun q => kf q H ls locs hl hM hz hS)
theorem z_icmp_eq {K : zK} {yn : MethodName} {cc : ByteArray} {nL : Nat} {ret : Option FieldType} {d mc ms : Nat} {B : zB} {Q : State → Prop} {pc : Nat} {L : List (Option Value)} {rest : List Value} {M : mM} {k n : Nat} {x y : Int32} {off : Int} {tgt : Nat} (ok : zOk K yn cc nL ret d mc ms B) (hd : decode cc pc = .ok (.if_icmp .eq off, 3)) (ht : (pc : Int) + off = (tgt : Int))
    (kt : x = y → zV nL B Q tgt L rest M k n) (kf : ¬ x = y → zV nL B Q (pc + 3) L rest M k n) : zV nL B Q pc L (.int y :: .int x :: rest) M k n := by
  obtain ⟨p, l, e, R, s, m, args, below, meth, c, D, E, A⟩ := B
  obtain ⟨⟨hx, hb, hml, hr, hown⟩, hts, hlocks, hK, hA, hnm, hR, hF, hT⟩ := ok
  intro H ls locs hl hM hz hS
  exact lv_icmp_eq hx hb hd ht (fun q => kt q H ls locs hl hM hz hS) (fun q => kf q H ls locs hl hM hz hS)
theorem z_if_ne {K : zK} {yn : MethodName} {cc : ByteArray} {nL : Nat} {ret : Option FieldType} {d mc ms : Nat} {B : zB} {Q : State → Prop} {pc : Nat} {L : List (Option Value)} {rest : List Value} {M : mM} {k n : Nat} {x : Int32} {off : Int} {tgt : Nat} (ok : zOk K yn cc nL ret d mc ms B) (hd : decode cc pc = .ok (.ifCond .ne off, 3)) (ht : (pc : Int) + off = (tgt : Int))
    (kt : ¬ x = 0 → zV nL B Q tgt L rest M k n) (kf : x = 0 → zV nL B Q (pc + 3) L rest M k n) : zV nL B Q pc L (.int x :: rest) M k n := by
  obtain ⟨p, l, e, R, s, m, args, below, meth, c, D, E, A⟩ := B
  obtain ⟨⟨hx, hb, hml, hr, hown⟩, hts, hlocks, hK, hA, hnm, hR, hF, hT⟩ := ok
  intro H ls locs hl hM hz hS
  exact lv_if_ne hx hb hd ht (fun q => kt q H ls locs hl hM hz hS) (fun q => kf q H ls locs hl hM hz hS)
theorem z_icmp_ne {K : zK} {yn : MethodName} {cc : ByteArray} {nL : Nat} {ret : Option FieldType} {d mc ms : Nat} {B : zB} {Q : State → Prop} {pc : Nat} {L : List (Option Value)} {rest : List Value} {M : mM} {k n : Nat} {x y : Int32} {off : Int} {tgt : Nat} (ok : zOk K yn cc nL ret d mc ms B) (hd : decode cc pc = .ok (.if_icmp .ne off, 3)) (ht : (pc : Int) + off = (tgt : Int))
    (kt : ¬ x = y → zV nL B Q tgt L rest M k n) (kf : x = y → zV nL B Q (pc + 3) L rest M k n) : zV nL B Q pc L (.int y :: .int x :: rest) M k n := by
  obtain ⟨p, l, e, R, s, m, args, below, meth, c, D, E, A⟩ := B
  obtain ⟨⟨hx, hb, hml, hr, hown⟩, hts, hlocks, hK, hA, hnm, hR, hF, hT⟩ := ok
  intro H ls locs hl hM hz hS
  exact lv_icmp_ne hx hb hd ht (fun q => kt q H ls locs hl hM hz hS) (fun q => kf q H ls locs hl hM hz hS)
theorem z_if_lt {K : zK} {yn : MethodName} {cc : ByteArray} {nL : Nat} {ret : Option FieldType} {d mc ms : Nat} {B : zB} {Q : State → Prop} {pc : Nat} {L : List (Option Value)} {rest : List Value} {M : mM} {k n : Nat} {x : Int32} {off : Int} {tgt : Nat} (ok : zOk K yn cc nL ret d mc ms B) (hd : decode cc pc = .ok (.ifCond .lt off, 3)) (ht : (pc : Int) + off = (tgt : Int))
    (kt : x < 0 → zV nL B Q tgt L rest M k n) (kf : ¬ x < 0 → zV nL B Q (pc + 3) L rest M k n) : zV nL B Q pc L (.int x :: rest) M k n := by
  obtain ⟨p, l, e, R, s, m, args, below, meth, c, D, E, A⟩ := B
  obtain ⟨⟨hx, hb, hml, hr, hown⟩, hts, hlocks, hK, hA, hnm, hR, hF, hT⟩ := ok
  intro H ls locs hl hM hz hS
  exact lv_if_lt hx hb hd ht (fun q => kt q H ls locs hl hM hz hS) (fun q => kf q H ls locs hl hM hz hS)
theorem z_icmp_lt {K : zK} {yn : MethodName} {cc : ByteArray} {nL : Nat} {ret : Option FieldType} {d mc ms : Nat} {B : zB} {Q : State → Prop} {pc : Nat} {L : List (Option Value)} {rest : List Value} {M : mM} {k n : Nat} {x y : Int32} {off : Int} {tgt : Nat} (ok : zOk K yn cc nL ret d mc ms B) (hd : decode cc pc = .ok (.if_icmp .lt off, 3)) (ht : (pc : Int) + off = (tgt : Int))
    (kt : x < y → zV nL B Q tgt L rest M k n) (kf : ¬ x < y → zV nL B Q (pc + 3) L rest M k n) : zV nL B Q pc L (.int y :: .int x :: rest) M k n := by
  obtain ⟨p, l, e, R, s, m, args, below, meth, c, D, E, A⟩ := B
  obtain ⟨⟨hx, hb, hml, hr, hown⟩, hts, hlocks, hK, hA, hnm, hR, hF, hT⟩ := ok
  intro H ls locs hl hM hz hS
  exact lv_icmp_lt hx hb hd ht (fun q => kt q H ls locs hl hM hz hS) (fun q => kf q H ls locs hl hM hz hS)
theorem z_if_ge {K : zK} {yn : MethodName} {cc : ByteArray} {nL : Nat} {ret : Option FieldType} {d mc ms : Nat} {B : zB} {Q : State → Prop} {pc : Nat} {L : List (Option Value)} {rest : List Value} {M : mM} {k n : Nat} {x : Int32} {off : Int} {tgt : Nat} (ok : zOk K yn cc nL ret d mc ms B) (hd : decode cc pc = .ok (.ifCond .ge off, 3)) (ht : (pc : Int) + off = (tgt : Int))
    (kt : 0 ≤ x → zV nL B Q tgt L rest M k n) (kf : ¬ 0 ≤ x → zV nL B Q (pc + 3) L rest M k n) : zV nL B Q pc L (.int x :: rest) M k n := by
  obtain ⟨p, l, e, R, s, m, args, below, meth, c, D, E, A⟩ := B
  obtain ⟨⟨hx, hb, hml, hr, hown⟩, hts, hlocks, hK, hA, hnm, hR, hF, hT⟩ := ok
  intro H ls locs hl hM hz hS
  exact lv_if_ge hx hb hd ht (fun q => kt q H ls locs hl hM hz hS) (fun q => kf q H ls locs hl hM hz hS)
theorem z_icmp_ge {K : zK} {yn : MethodName} {cc : ByteArray} {nL : Nat} {ret : Option FieldType} {d mc ms : Nat} {B : zB} {Q : State → Prop} {pc : Nat} {L : List (Option Value)} {rest : List Value} {M : mM} {k n : Nat} {x y : Int32} {off : Int} {tgt : Nat} (ok : zOk K yn cc nL ret d mc ms B) (hd : decode cc pc = .ok (.if_icmp .ge off, 3)) (ht : (pc : Int) + off = (tgt : Int))
    (kt : y ≤ x → zV nL B Q tgt L rest M k n) (kf : ¬ y ≤ x → zV nL B Q (pc + 3) L rest M k n) : zV nL B Q pc L (.int y :: .int x :: rest) M k n := by
  obtain ⟨p, l, e, R, s, m, args, below, meth, c, D, E, A⟩ := B
  obtain ⟨⟨hx, hb, hml, hr, hown⟩, hts, hlocks, hK, hA, hnm, hR, hF, hT⟩ := ok
  intro H ls locs hl hM hz hS
  exact lv_icmp_ge hx hb hd ht (fun q => kt q H ls locs hl hM hz hS) (fun q => kf q H ls locs hl hM hz hS)
theorem z_if_gt {K : zK} {yn : MethodName} {cc : ByteArray} {nL : Nat} {ret : Option FieldType} {d mc ms : Nat} {B : zB} {Q : State → Prop} {pc : Nat} {L : List (Option Value)} {rest : List Value} {M : mM} {k n : Nat} {x : Int32} {off : Int} {tgt : Nat} (ok : zOk K yn cc nL ret d mc ms B) (hd : decode cc pc = .ok (.ifCond .gt off, 3)) (ht : (pc : Int) + off = (tgt : Int))
    (kt : 0 < x → zV nL B Q tgt L rest M k n) (kf : ¬ 0 < x → zV nL B Q (pc + 3) L rest M k n) : zV nL B Q pc L (.int x :: rest) M k n := by
  obtain ⟨p, l, e, R, s, m, args, below, meth, c, D, E, A⟩ := B
  obtain ⟨⟨hx, hb, hml, hr, hown⟩, hts, hlocks, hK, hA, hnm, hR, hF, hT⟩ := ok
  intro H ls locs hl hM hz hS
  exact lv_if_gt hx hb hd ht (fun q => kt q H ls locs hl hM hz hS) (fun q => kf q H ls locs hl hM hz hS)
theorem z_icmp_gt {K : zK} {yn : MethodName} {cc : ByteArray} {nL : Nat} {ret : Option FieldType} {d mc ms : Nat} {B : zB} {Q : State → Prop} {pc : Nat} {L : List (Option Value)} {rest : List Value} {M : mM} {k n : Nat} {x y : Int32} {off : Int} {tgt : Nat} (ok : zOk K yn cc nL ret d mc ms B) (hd : decode cc pc = .ok (.if_icmp .gt off, 3)) (ht : (pc : Int) + off = (tgt : Int))
    (kt : y < x → zV nL B Q tgt L rest M k n) (kf : ¬ y < x → zV nL B Q (pc + 3) L rest M k n) : zV nL B Q pc L (.int y :: .int x :: rest) M k n := by
  obtain ⟨p, l, e, R, s, m, args, below, meth, c, D, E, A⟩ := B
  obtain ⟨⟨hx, hb, hml, hr, hown⟩, hts, hlocks, hK, hA, hnm, hR, hF, hT⟩ := ok
  intro H ls locs hl hM hz hS
  exact lv_icmp_gt hx hb hd ht (fun q => kt q H ls locs hl hM hz hS) (fun q => kf q H ls locs hl hM hz hS)
theorem z_if_le {K : zK} {yn : MethodName} {cc : ByteArray} {nL : Nat} {ret : Option FieldType} {d mc ms : Nat} {B : zB} {Q : State → Prop} {pc : Nat} {L : List (Option Value)} {rest : List Value} {M : mM} {k n : Nat} {x : Int32} {off : Int} {tgt : Nat} (ok : zOk K yn cc nL ret d mc ms B) (hd : decode cc pc = .ok (.ifCond .le off, 3)) (ht : (pc : Int) + off = (tgt : Int))
    (kt : x ≤ 0 → zV nL B Q tgt L rest M k n) (kf : ¬ x ≤ 0 → zV nL B Q (pc + 3) L rest M k n) : zV nL B Q pc L (.int x :: rest) M k n := by
  obtain ⟨p, l, e, R, s, m, args, below, meth, c, D, E, A⟩ := B
  obtain ⟨⟨hx, hb, hml, hr, hown⟩, hts, hlocks, hK, hA, hnm, hR, hF, hT⟩ := ok
  intro H ls locs hl hM hz hS
  exact lv_if_le hx hb hd ht (fun q => kt q H ls locs hl hM hz hS) (fun q => kf q H ls locs hl hM hz hS)
theorem z_icmp_le {K : zK} {yn : MethodName} {cc : ByteArray} {nL : Nat} {ret : Option FieldType} {d mc ms : Nat} {B : zB} {Q : State → Prop} {pc : Nat} {L : List (Option Value)} {rest : List Value} {M : mM} {k n : Nat} {x y : Int32} {off : Int} {tgt : Nat} (ok : zOk K yn cc nL ret d mc ms B) (hd : decode cc pc = .ok (.if_icmp .le off, 3)) (ht : (pc : Int) + off = (tgt : Int))
    (kt : x ≤ y → zV nL B Q tgt L rest M k n) (kf : ¬ x ≤ y → zV nL B Q (pc + 3) L rest M k n) : zV nL B Q pc L (.int y :: .int x :: rest) M k n := by
  obtain ⟨p, l, e, R, s, m, args, below, meth, c, D, E, A⟩ := B
  obtain ⟨⟨hx, hb, hml, hr, hown⟩, hts, hlocks, hK, hA, hnm, hR, hF, hT⟩ := ok
  intro H ls locs hl hM hz hS
  exact lv_icmp_le hx hb hd ht (fun q => kt q H ls locs hl hM hz hS) (fun q => kf q H ls locs hl hM hz hS)
theorem z_goto {K : zK} {yn : MethodName} {cc : ByteArray} {nL : Nat} {ret : Option FieldType} {d mc ms : Nat} {B : zB} {Q : State → Prop} {pc : Nat} {L : List (Option Value)} {rest : List Value} {M : mM} {k n : Nat} {off : Int} {tgt : Nat} (ok : zOk K yn cc nL ret d mc ms B) (hd : decode cc pc = .ok (.goto off, 3)) (ht : (pc : Int) + off = (tgt : Int))
    (kk : zV nL B Q tgt L rest M k n) : zV nL B Q pc L rest M k n := by
  obtain ⟨p, l, e, R, s, m, args, below, meth, c, D, E, A⟩ := B
  obtain ⟨⟨hx, hb, hml, hr, hown⟩, hts, hlocks, hK, hA, hnm, hR, hF, hT⟩ := ok
  intro H ls locs hl hM hz hS
  exact lv_goto hx hb hd ht (kk H ls locs hl hM hz hS)
theorem z_ifnonnull {K : zK} {yn : MethodName} {cc : ByteArray} {nL : Nat} {ret : Option FieldType} {d mc ms : Nat} {B : zB} {Q : State → Prop} {pc : Nat} {L : List (Option Value)} {rest : List Value} {M : mM} {k n : Nat} {x : Nat} {off : Int} {tgt : Nat} (ok : zOk K yn cc nL ret d mc ms B) (hd : decode cc pc = .ok (.ifnonnull off, 3)) (ht : (pc : Int) + off = (tgt : Int))
    (kk : zV nL B Q tgt L rest M k n) : zV nL B Q pc L (.ref x :: rest) M k n := by
  obtain ⟨p, l, e, R, s, m, args, below, meth, c, D, E, A⟩ := B
  obtain ⟨⟨hx, hb, hml, hr, hown⟩, hts, hlocks, hK, hA, hnm, hR, hF, hT⟩ := ok
  intro H ls locs hl hM hz hS
  exact lv_ifnonnull hx hb hd ht (kk H ls locs hl hM hz hS)
theorem z_ifnonnullN {K : zK} {yn : MethodName} {cc : ByteArray} {nL : Nat} {ret : Option FieldType} {d mc ms : Nat} {B : zB} {Q : State → Prop} {pc : Nat} {L : List (Option Value)} {rest : List Value} {M : mM} {k n : Nat} {off : Int} (ok : zOk K yn cc nL ret d mc ms B) (hd : decode cc pc = .ok (.ifnonnull off, 3)) 
    (kk : zV nL B Q (pc + 3) L rest M k n) : zV nL B Q pc L (.null :: rest) M k n := by
  obtain ⟨p, l, e, R, s, m, args, below, meth, c, D, E, A⟩ := B
  obtain ⟨⟨hx, hb, hml, hr, hown⟩, hts, hlocks, hK, hA, hnm, hR, hF, hT⟩ := ok
  intro H ls locs hl hM hz hS
  exact lv_ifnonnullN hx hb hd (kk H ls locs hl hM hz hS)
theorem z_ifnull {K : zK} {yn : MethodName} {cc : ByteArray} {nL : Nat} {ret : Option FieldType} {d mc ms : Nat} {B : zB} {Q : State → Prop} {pc : Nat} {L : List (Option Value)} {rest : List Value} {M : mM} {k n : Nat} {x : Nat} {off : Int} (ok : zOk K yn cc nL ret d mc ms B) (hd : decode cc pc = .ok (.ifnull off, 3)) 
    (kk : zV nL B Q (pc + 3) L rest M k n) : zV nL B Q pc L (.ref x :: rest) M k n := by
  obtain ⟨p, l, e, R, s, m, args, below, meth, c, D, E, A⟩ := B
  obtain ⟨⟨hx, hb, hml, hr, hown⟩, hts, hlocks, hK, hA, hnm, hR, hF, hT⟩ := ok
  intro H ls locs hl hM hz hS
  exact lv_ifnull hx hb hd (kk H ls locs hl hM hz hS)
theorem z_ifnullN {K : zK} {yn : MethodName} {cc : ByteArray} {nL : Nat} {ret : Option FieldType} {d mc ms : Nat} {B : zB} {Q : State → Prop} {pc : Nat} {L : List (Option Value)} {rest : List Value} {M : mM} {k n : Nat} {off : Int} {tgt : Nat} (ok : zOk K yn cc nL ret d mc ms B) (hd : decode cc pc = .ok (.ifnull off, 3)) (ht : (pc : Int) + off = (tgt : Int))
    (kk : zV nL B Q tgt L rest M k n) : zV nL B Q pc L (.null :: rest) M k n := by
  obtain ⟨p, l, e, R, s, m, args, below, meth, c, D, E, A⟩ := B
  obtain ⟨⟨hx, hb, hml, hr, hown⟩, hts, hlocks, hK, hA, hnm, hR, hF, hT⟩ := ok
  intro H ls locs hl hM hz hS
  exact lv_ifnullN hx hb hd ht (kk H ls locs hl hM hz hS)
theorem z_tableOut {K : zK} {yn : MethodName} {cc : ByteArray} {nL : Nat} {ret : Option FieldType} {d mc ms : Nat} {B : zB} {Q : State → Prop} {pc : Nat} {L : List (Option Value)} {rest : List Value} {M : mM} {k n : Nat} {x : Int32} {dflt lo hi : Int} {offs : Array Int} {len tgt : Nat} (ok : zOk K yn cc nL ret d mc ms B) (hd : decode cc pc = .ok (.tableswitch dflt lo hi offs, len)) (h : x.toInt < lo ∨ hi < x.toInt) (ht : (pc : Int) + dflt = (tgt : Int))
    (kk : zV nL B Q tgt L rest M k n) : zV nL B Q pc L (.int x :: rest) M k n := by
  obtain ⟨p, l, e, R, s, m, args, below, meth, c, D, E, A⟩ := B
  obtain ⟨⟨hx, hb, hml, hr, hown⟩, hts, hlocks, hK, hA, hnm, hR, hF, hT⟩ := ok
  intro H ls locs hl hM hz hS
  exact lv_tableOut hx hb hd h ht (kk H ls locs hl hM hz hS)
theorem z_tableIn {K : zK} {yn : MethodName} {cc : ByteArray} {nL : Nat} {ret : Option FieldType} {d mc ms : Nat} {B : zB} {Q : State → Prop} {pc : Nat} {L : List (Option Value)} {rest : List Value} {M : mM} {k n : Nat} {x : Int32} {dflt lo hi off : Int} {offs : Array Int} {len tgt : Nat} (ok : zOk K yn cc nL ret d mc ms B) (hd : decode cc pc = .ok (.tableswitch dflt lo hi offs, len)) (h1 : ¬ x.toInt < lo) (h2 : ¬ hi < x.toInt) (ho : offs[(x.toInt - lo).toNat]? = some off) (ht : (pc : Int) + off = (tgt : Int))
    (kk : zV nL B Q tgt L rest M k n) : zV nL B Q pc L (.int x :: rest) M k n := by
  obtain ⟨p, l, e, R, s, m, args, below, meth, c, D, E, A⟩ := B
  obtain ⟨⟨hx, hb, hml, hr, hown⟩, hts, hlocks, hK, hA, hnm, hR, hF, hT⟩ := ok
  intro H ls locs hl hM hz hS
  exact lv_tableIn hx hb hd h1 h2 ho ht (kk H ls locs hl hM hz hS)
theorem z_lookup {K : zK} {yn : MethodName} {cc : ByteArray} {nL : Nat} {ret : Option FieldType} {d mc ms : Nat} {B : zB} {Q : State → Prop} {pc : Nat} {L : List (Option Value)} {rest : List Value} {M : mM} {k n : Nat} {x : Int32} {dflt off : Int} {ps : Array (Int × Int)} {len tgt : Nat} (ok : zOk K yn cc nL ret d mc ms B) (hd : decode cc pc = .ok (.lookupswitch dflt ps, len)) (hp : (ps.toList.zip (ps.toList.drop 1)).all (fun (a, next) => a.1 < next.1) = true) (ho : Op.lookupswitch.offset ps.toList dflt x.toInt = off) (ht : (pc : Int) + off = (tgt : Int))
    (kk : zV nL B Q tgt L rest M k n) : zV nL B Q pc L (.int x :: rest) M k n := by
  obtain ⟨p, l, e, R, s, m, args, below, meth, c, D, E, A⟩ := B
  obtain ⟨⟨hx, hb, hml, hr, hown⟩, hts, hlocks, hK, hA, hnm, hR, hF, hT⟩ := ok
  intro H ls locs hl hM hz hS
  exact lv_lookup hx hb hd hp ho ht (kk H ls locs hl hM hz hS)
end
section
theorem mTys_at (E : Nat → ClassId) {j : Nat} {ty : FieldType} (h : mTy[j]? = some ty) : (mTys E)[j]? = some (E j, ty) := by
  match j, h with
  | 0, h => cases h; rfl
  | 1, h => cases h; rfl
  | 2, h => cases h; rfl
  | 3, h => cases h; rfl
  | 4, h => cases h; rfl
  | 5, h => cases h; rfl
  | 6, h => cases h; rfl
  | j + 7, h => simp [mTy] at h
theorem z_getf {K : zK} {yn : MethodName} {cc : ByteArray} {nL : Nat} {ret : Option FieldType} {d mc ms : Nat} {B : zB} {Q : State → Prop} {pc : Nat} {L : List (Option Value)} {rest : List Value} {M : mM} {k n : Nat} {C : String} {T : u_T} {N ci ix a : Nat} {fs : List Value} {v : Value} (ok : zOk K yn cc nL ret d mc ms B) (hd : decode cc pc = .ok (.getfield ix, 3)) (hin : ∀ w ∈ u_ws C T N, w ∈ zgw) (hc : vwCl[ci]? = some (C, T, N)) (j : Nat) (hj : j < N) (hw : Cond.fieldLink yn.cls ix (T j).1 (T j).2.1 (T j).2.2.1 ∈ zgw) (hm : M a = some (.inr (ci, fs))) (hv : fs[j]? = some v)
    (kk : zV nL B Q (pc + 3) L (v :: rest) M k n) : zV nL B Q pc L (.ref a :: rest) M k n := by
  obtain ⟨p, l, e, R, s, m, args, below, meth, c, D, E, A⟩ := B
  obtain ⟨⟨hx, hb, hml, hr, hown⟩, hts, hlocks, hK, hA, hnm, hR, hF, hT⟩ := ok
  intro H ls locs hl hM hz hS
  exact va_get (D := D) (ci := ci) (v := v) (C := C) (T := T) (N := N) hx hb hts hin hown hK (hM.one hm) 0 rfl hc j hj (hts _ hw) (fun _ h9 => h9) hv hd (kk H ls locs hl hM hz hS)
theorem mRep.put {D : va_G} {E : Nat → ClassId} {A : Nat → Prop} {M : mM} {H H1 : Heap} (h : mRep D E A M H) {a : Nat} {e0 e : mE} (ha : M a = some e0) (he : va_at D vwCl (a, mC E e) H1) (oq : ∀ q : Nat, q ≠ a → H1[q]? = H[q]?) : mRep D E A (mU M a e) H1 := by
  intro q e' h'
  by_cases hqa : q = a
  · subst hqa
    rw [mU_s] at h'
    cases h'
    exact ⟨he, (h q e0 ha).2⟩
  · rw [mU_n hqa] at h'
    exact ⟨(h q e' h').1.kept (oq q hqa), (h q e' h').2⟩
theorem z_putf {K : zK} {yn : MethodName} {cc : ByteArray} {nL : Nat} {ret : Option FieldType} {d mc ms : Nat} {B : zB} {Q : State → Prop} {pc : Nat} {L : List (Option Value)} {rest : List Value} {M : mM} {k n : Nat} {C : String} {T : u_T} {N ci ix a : Nat} {fs : List Value} {v : Value} {ty : FieldType} (ok : zOk K yn cc nL ret d mc ms B) (hd : decode cc pc = .ok (.putfield ix, 3)) (hin : ∀ w ∈ u_ws C T N, w ∈ zgw) (ty0 : Nat → FieldType) (hty : ∀ k, k < N → parseFieldDescriptor (T k).2.2.1 = some (ty0 k)) (hnm2 : ∀ a, a < N → ∀ b, b < N → a ≠ b → (T a).2.1 ≠ (T b).2.1) (hc : vwCl[ci]? = some (C, T, N)) (j : Nat) (hj : j < N) (hw : Cond.fieldLink yn.cls ix (T j).1 (T j).2.1 (T j).2.2.1 ∈ zgw) (hfin : (T j).2.2.2 = false) (hm : M a = some (.inr (ci, fs))) (hds : parseFieldDescriptor (T j).2.2.1 = some ty) (hn : narrow ty v = v) (hfit : fits ty v = true) (hlen : j < fs.length)
    (kk : zV nL B Q (pc + 3) L rest (mU M a (.inr (ci, fs.set j v))) k n) : zV nL B Q pc L (v :: .ref a :: rest) M k n := by
  obtain ⟨p, l, e, R, s, m, args, below, meth, c, D, E, A⟩ := B
  obtain ⟨⟨hx, hb, hml, hr, hown⟩, hts, hlocks, hK, hA, hnm, hR, hF, hT⟩ := ok
  intro H ls locs hl hM hz hS
  have hin' : ∀ w ∈ u_ws C T N, w ∈ zgw := hin
  have hap := va_apart (own := yn.cls) hts hin ty0 hty hnm2 hK hc
  obtain ⟨r, h1, cell, q1, q2, q3, q4⟩ := (hM a _ hm).1
  have hr9 : r = (C, T, N) := Option.some.inj (h1.symm.trans hc)
  subst hr9
  obtain ⟨hSl, hfc, kC, hkC, hkind⟩ := hK.1 ci _ hc
  obtain ⟨cf, kf, fi, f, hi, hsl⟩ := hSl j hj
  have hlay := hts _ (hin _ (u_in_lay hj))
  unfold u_lay at hlay
  rw [if_neg (by rw [hfin]; decide)] at hlay
  have hst := (u_facts hfc hkC (u_lays hts hin hj) hi).1
  have h6 := u_store hfc hkC hkind hlay hi hds hn hfit
  refine W.putK hx hb (f := f) ⟨hown, hts _ hw, ⟨_, _, _, hi⟩, hst⟩ (by rw [q2]; exact h6) q1 q3 (by rw [hsl]; exact k2_hasslot (q4 j hj)) rfl rfl hd fun H' e1 e2 e3 => ?_
  rw [hsl] at e1
  exact kk H' ls _ hl (hM.put hm ⟨_, hc, t_OB.to (V := updV (vp_V fs) j v) ⟨_, e1, q2, q3, t_set q4 hap hj v⟩ (fun i _ => vp_updV_set hlen v i)⟩ e3) (by rw [e2]; exact hz) (hS.put e2 e3 (hM a _ hm).2)
theorem z_putF {K : zK} {yn : MethodName} {cc : ByteArray} {nL : Nat} {ret : Option FieldType} {d mc ms : Nat} {B : zB} {Q : State → Prop} {pc : Nat} {L : List (Option Value)} {rest : List Value} {M : mM} {k n : Nat} {C : String} {T : u_T} {N ci ix a : Nat} {fs : List Value} {v : Value} {ty : FieldType} (ok : zOk K yn cc nL ret d mc ms B) (hd : decode cc pc = .ok (.putfield ix, 3)) (hin : ∀ w ∈ u_ws C T N, w ∈ zgw) (ty0 : Nat → FieldType) (hty : ∀ k, k < N → parseFieldDescriptor (T k).2.2.1 = some (ty0 k)) (hnm2 : ∀ a, a < N → ∀ b, b < N → a ≠ b → (T a).2.1 ≠ (T b).2.1) (hc : vwCl[ci]? = some (C, T, N)) (j : Nat) (hj : j < N) (hw : Cond.fieldLink yn.cls ix (T j).1 (T j).2.1 (T j).2.2.1 ∈ zgw) (hfin : (T j).2.2.2 = true) (hini : yn.name = "<init>") (hdecl : (T j).1 = yn.cls) (hm : M a = some (.inr (ci, fs))) (hds : parseFieldDescriptor (T j).2.2.1 = some ty) (hn : narrow ty v = v) (hfit : fits ty v = true) (hlen : j < fs.length)
    (kk : zV nL B Q (pc + 3) L rest (mU M a (.inr (ci, fs.set j v))) k n) : zV nL B Q pc L (v :: .ref a :: rest) M k n := by
  obtain ⟨p, l, e, R, s, m, args, below, meth, c, D, E, A⟩ := B
  obtain ⟨⟨hx, hb, hml, hr, hown⟩, hts, hlocks, hK, hA, hnm, hR, hF, hT⟩ := ok
  intro H ls locs hl hM hz hS
  have hin' : ∀ w ∈ u_ws C T N, w ∈ zgw := hin
  have hap := va_apart (own := yn.cls) hts hin ty0 hty hnm2 hK hc
  obtain ⟨r, h1, cell, q1, q2, q3, q4⟩ := (hM a _ hm).1
  have hr9 : r = (C, T, N) := Option.some.inj (h1.symm.trans hc)
  subst hr9
  obtain ⟨hSl, hfc, kC, hkC, hkind⟩ := hK.1 ci _ hc
  obtain ⟨cf, kf, fi, f, hi, hsl⟩ := hSl j hj
  have hlay := hts _ (hin _ (u_in_lay hj))
  unfold u_lay at hlay
  rw [if_pos hfin] at hlay
  have hst := (u_facts hfc hkC (u_lays hts hin hj) hi).1
  have hcf : m.cls = cf := by
    obtain ⟨_, _, c', _, _, _, -, -, hf', -, -, -, hown2, -⟩ := Cond.laysFinal_spec hlay
    have e1 : c' = cf := by have := hi.symm.trans hf'; simp at this; exact this.1.symm
    rw [hdecl] at hown2
    rw [← e1]; exact Option.some.inj (hown.symm.trans hown2)
  have h6 := u_fits hfc hkC hkind (Or.inr hlay) hi hds hn hfit
  refine W.putFinK hx hb hown (hts _ hw) hi hst hcf (hnm.trans hini) (by rw [q2]; exact h6) q1 q3 (by rw [hsl]; exact k2_hasslot (q4 j hj)) rfl rfl hd fun H' e1 e2 e3 => ?_
  rw [hsl] at e1
  exact kk H' ls _ hl (hM.put hm ⟨_, hc, t_OB.to (V := updV (vp_V fs) j v) ⟨_, e1, q2, q3, t_set q4 hap hj v⟩ (fun i _ => vp_updV_set hlen v i)⟩ e3) (by rw [e2]; exact hz) (hS.put e2 e3 (hM a _ hm).2)
theorem z_iaload {K : zK} {yn : MethodName} {cc : ByteArray} {nL : Nat} {ret : Option FieldType} {d mc ms : Nat} {B : zB} {Q : State → Prop} {pc : Nat} {L : List (Option Value)} {rest : List Value} {M : mM} {k n : Nat} {a N : Nat} {f : Nat → Int32} {i : Int32} (ok : zOk K yn cc nL ret d mc ms B) (hd : decode cc pc = .ok (.iaload, 1)) (hm : M a = some (.inl (0, N, .inl f))) (hin : vp_in i N)
    (kk : zV nL B Q (pc + 1) L (.int (f i.toNatClampNeg) :: rest) M k n) : zV nL B Q pc L (.int i :: .ref a :: rest) M k n := by
  obtain ⟨p, l, e, R, s, m, args, below, meth, c, D, E, A⟩ := B
  obtain ⟨⟨hx, hb, hml, hr, hown⟩, hts, hlocks, hK, hA, hnm, hR, hF, hT⟩ := ok
  intro H ls locs hl hM hz hS
  exact va_iald (D := D) (cl := vwCl) hx hb hK (hM.one hm) 0 0 rfl (mTys_at E (j := 0) rfl) hin hd (kk H ls locs hl hM hz hS)
theorem z_caload {K : zK} {yn : MethodName} {cc : ByteArray} {nL : Nat} {ret : Option FieldType} {d mc ms : Nat} {B : zB} {Q : State → Prop} {pc : Nat} {L : List (Option Value)} {rest : List Value} {M : mM} {k n : Nat} {a N : Nat} {f : Nat → Int32} {i : Int32} (ok : zOk K yn cc nL ret d mc ms B) (hd : decode cc pc = .ok (.caload, 1)) (hm : M a = some (.inl (2, N, .inl f))) (hin : vp_in i N)
    (kk : zV nL B Q (pc + 1) L (.int (f i.toNatClampNeg) :: rest) M k n) : zV nL B Q pc L (.int i :: .ref a :: rest) M k n := by
  obtain ⟨p, l, e, R, s, m, args, below, meth, c, D, E, A⟩ := B
  obtain ⟨⟨hx, hb, hml, hr, hown⟩, hts, hlocks, hK, hA, hnm, hR, hF, hT⟩ := ok
  intro H ls locs hl hM hz hS
  exact va_cald (D := D) (cl := vwCl) hx hb hK (hM.one hm) 0 2 rfl (mTys_at E (j := 2) rfl) hin hd (kk H ls locs hl hM hz hS)
theorem z_laload {K : zK} {yn : MethodName} {cc : ByteArray} {nL : Nat} {ret : Option FieldType} {d mc ms : Nat} {B : zB} {Q : State → Prop} {pc : Nat} {L : List (Option Value)} {rest : List Value} {M : mM} {k n : Nat} {a N : Nat} {f : Nat → Int64} {i : Int32} (ok : zOk K yn cc nL ret d mc ms B) (hd : decode cc pc = .ok (.laload, 1)) (hm : M a = some (.inl (1, N, .inr (.inl f)))) (hin : vp_in i N)
    (kk : zV nL B Q (pc + 1) L (.long (f i.toNatClampNeg) :: rest) M k n) : zV nL B Q pc L (.int i :: .ref a :: rest) M k n := by
  obtain ⟨p, l, e, R, s, m, args, below, meth, c, D, E, A⟩ := B
  obtain ⟨⟨hx, hb, hml, hr, hown⟩, hts, hlocks, hK, hA, hnm, hR, hF, hT⟩ := ok
  intro H ls locs hl hM hz hS
  exact va_lald (D := D) (cl := vwCl) hx hb hK (hM.one hm) 0 1 rfl (mTys_at E (j := 1) rfl) hin hd (kk H ls locs hl hM hz hS)
theorem z_aaload {K : zK} {yn : MethodName} {cc : ByteArray} {nL : Nat} {ret : Option FieldType} {d mc ms : Nat} {B : zB} {Q : State → Prop} {pc : Nat} {L : List (Option Value)} {rest : List Value} {M : mM} {k n : Nat} {a N j : Nat} {C : String} {f : Nat → Option Nat} {i : Int32} (ok : zOk K yn cc nL ret d mc ms B) (hd : decode cc pc = .ok (.aaload, 1)) (hm : M a = some (.inl (j, N, .inr (.inr (.inr (.inr f)))))) (hj : mTy[j]? = some (.object C)) (hin : vp_in i N)
    (kk : zV nL B Q (pc + 1) L (va_rf (f i.toNatClampNeg) :: rest) M k n) : zV nL B Q pc L (.int i :: .ref a :: rest) M k n := by
  obtain ⟨p, l, e, R, s, m, args, below, meth, c, D, E, A⟩ := B
  obtain ⟨⟨hx, hb, hml, hr, hown⟩, hts, hlocks, hK, hA, hnm, hR, hF, hT⟩ := ok
  intro H ls locs hl hM hz hS
  exact va_aldq (D := D) (cl := vwCl) (C := C) hx hb hK (hM.one hm) 0 j rfl (mTys_at E hj) hin hd (kk H ls locs hl hM hz hS)
theorem z_iastore {K : zK} {yn : MethodName} {cc : ByteArray} {nL : Nat} {ret : Option FieldType} {d mc ms : Nat} {B : zB} {Q : State → Prop} {pc : Nat} {L : List (Option Value)} {rest : List Value} {M : mM} {k n : Nat} {a N : Nat} {f : Nat → Int32} {i : Int32} {x : Int32} (ok : zOk K yn cc nL ret d mc ms B) (hd : decode cc pc = .ok (.iastore, 1)) (hm : M a = some (.inl (0, N, .inl (f)))) (hin : vp_in i N)
    (kk : zV nL B Q (pc + 1) L rest (mU M a (.inl (0, N, .inl (upd f i.toNatClampNeg x)))) k n) : zV nL B Q pc L (.int x :: .int i :: .ref a :: rest) M k n := by
  obtain ⟨p, l, e, R, s, m, args, below, meth, c, D, E, A⟩ := B
  obtain ⟨⟨hx, hb, hml, hr, hown⟩, hts, hlocks, hK, hA, hnm, hR, hF, hT⟩ := ok
  intro H ls locs hl hM hz hS
  refine W.iast hx hb (hM a _ hm).1 ((hK.2 0 _ (mTys_at E (j := 0) rfl)).1 N (fun j => .int (f j))) (fun q => by cases q) (by show ¬ (i < 0 ∨ (arrV _ _ _).slots.size ≤ _); rw [arrV_size]; exact hin) rfl rfl hd fun H1 e9 z9 oq => ?_
  refine kk H1 ls _ hl (hM.put hm ?_ oq) (by rw [z9]; exact hz) (hS.put z9 oq (hM a _ hm).2)
  show H1[a]? = some (vp_cell _ _)
  rw [e9]
  show some ((vp_cell (E 0) (N, .inl (f))).setSlot _ _) = _
  rw [vp_cell_i, vp_cell_i, arrV_store]
  congr 2
  funext q
  by_cases hq : q = i.toNatClampNeg
  · subst hq
    simp [updV, upd, vp_nar, vp_updL]
    try rfl
  · simp [updV, upd, vp_updL, hq]
theorem z_castore {K : zK} {yn : MethodName} {cc : ByteArray} {nL : Nat} {ret : Option FieldType} {d mc ms : Nat} {B : zB} {Q : State → Prop} {pc : Nat} {L : List (Option Value)} {rest : List Value} {M : mM} {k n : Nat} {a N : Nat} {f : Nat → Int32} {i : Int32} {x : Int32} (ok : zOk K yn cc nL ret d mc ms B) (hd : decode cc pc = .ok (.castore, 1)) (hm : M a = some (.inl (2, N, .inl (f)))) (hin : vp_in i N)
    (kk : zV nL B Q (pc + 1) L rest (mU M a (.inl (2, N, .inl (upd f i.toNatClampNeg (vp_nar .char x))))) k n) : zV nL B Q pc L (.int x :: .int i :: .ref a :: rest) M k n := by
  obtain ⟨p, l, e, R, s, m, args, below, meth, c, D, E, A⟩ := B
  obtain ⟨⟨hx, hb, hml, hr, hown⟩, hts, hlocks, hK, hA, hnm, hR, hF, hT⟩ := ok
  intro H ls locs hl hM hz hS
  refine W.cast hx hb (hM a _ hm).1 ((hK.2 2 _ (mTys_at E (j := 2) rfl)).1 N (fun j => .int (f j))) (fun q => by cases q) (by show ¬ (i < 0 ∨ (arrV _ _ _).slots.size ≤ _); rw [arrV_size]; exact hin) rfl rfl hd fun H1 e9 z9 oq => ?_
  refine kk H1 ls _ hl (hM.put hm ?_ oq) (by rw [z9]; exact hz) (hS.put z9 oq (hM a _ hm).2)
  show H1[a]? = some (vp_cell _ _)
  rw [e9]
  show some ((vp_cell (E 2) (N, .inl (f))).setSlot _ _) = _
  rw [vp_cell_i, vp_cell_i, arrV_store]
  congr 2
  funext q
  by_cases hq : q = i.toNatClampNeg
  · subst hq
    simp [updV, upd, vp_nar, vp_updL]
    try rfl
  · simp [updV, upd, vp_updL, hq]
theorem z_lastore {K : zK} {yn : MethodName} {cc : ByteArray} {nL : Nat} {ret : Option FieldType} {d mc ms : Nat} {B : zB} {Q : State → Prop} {pc : Nat} {L : List (Option Value)} {rest : List Value} {M : mM} {k n : Nat} {a N : Nat} {f : Nat → Int64} {i : Int32} {x : Int64} (ok : zOk K yn cc nL ret d mc ms B) (hd : decode cc pc = .ok (.lastore, 1)) (hm : M a = some (.inl (1, N, .inr (.inl (f))))) (hin : vp_in i N)
    (kk : zV nL B Q (pc + 1) L rest (mU M a (.inl (1, N, .inr (.inl (vp_updL f i.toNatClampNeg x))))) k n) : zV nL B Q pc L (.long x :: .int i :: .ref a :: rest) M k n := by
  obtain ⟨p, l, e, R, s, m, args, below, meth, c, D, E, A⟩ := B
  obtain ⟨⟨hx, hb, hml, hr, hown⟩, hts, hlocks, hK, hA, hnm, hR, hF, hT⟩ := ok
  intro H ls locs hl hM hz hS
  refine W.last hx hb (hM a _ hm).1 ((hK.2 1 _ (mTys_at E (j := 1) rfl)).1 N (fun j => .long (f j))) (fun q => by cases q) (by show ¬ (i < 0 ∨ (arrV _ _ _).slots.size ≤ _); rw [arrV_size]; exact hin) rfl rfl hd fun H1 e9 z9 oq => ?_
  refine kk H1 ls _ hl (hM.put hm ?_ oq) (by rw [z9]; exact hz) (hS.put z9 oq (hM a _ hm).2)
  show H1[a]? = some (vp_cell _ _)
  rw [e9]
  show some ((vp_cell (E 1) (N, .inr (.inl (f)))).setSlot _ _) = _
  rw [vp_cell_l, vp_cell_l, arrV_store]
  congr 2
  funext q
  by_cases hq : q = i.toNatClampNeg
  · subst hq
    simp [updV, upd, vp_nar, vp_updL]
    try rfl
  · simp [updV, upd, vp_updL, hq]
theorem z_aastore {K : zK} {yn : MethodName} {cc : ByteArray} {nL : Nat} {ret : Option FieldType} {d mc ms : Nat} {B : zB} {Q : State → Prop} {pc : Nat} {L : List (Option Value)} {rest : List Value} {M : mM} {k n : Nat} {a N j v ci : Nat} {f : Nat → Option Nat} {i : Int32} {r : vw_C} {vs : List Value} (ok : zOk K yn cc nL ret d mc ms B) (hd : decode cc pc = .ok (.aastore, 1)) (hm : M a = some (.inl (j, N, .inr (.inr (.inr (.inr f)))))) (hj : mTy[j]? = some (.object r.1)) (hv : M v = some (.inr (ci, vs))) (hc : vwCl[ci]? = some r) (hin : vp_in i N)
    (kk : zV nL B Q (pc + 1) L rest (mU M a (.inl (j, N, .inr (.inr (.inr (.inr (va_up f i.toNatClampNeg (some v)))))))) k n) : zV nL B Q pc L (.ref v :: .int i :: .ref a :: rest) M k n := by
  obtain ⟨p, l, e, R, s, m, args, below, meth, c, D, E, A⟩ := B
  obtain ⟨⟨hx, hb, hml, hr, hown⟩, hts, hlocks, hK, hA, hnm, hR, hF, hT⟩ := ok
  intro H ls locs hl hM hz hS
  have hlt : i.toNatClampNeg < N := Nat.not_le.mp fun q => hin (Or.inr q)
  have h0 : ¬ i < 0 := fun q => hin (Or.inl q)
  obtain ⟨r', hr', cellV, g1, g2, g3, -⟩ := (hM v _ hv).1
  have hcls := (hK.1 ci r hc).2
  obtain ⟨kA, comp, k1, k2, k3, -⟩ := (hK.2 j _ (mTys_at E hj)).2
  have hcomp : comp = D.1 ci := Option.some.inj (k3.symm.trans hcls.1)
  subst hcomp
  obtain ⟨kC, hkC, -⟩ := hcls.2
  refine W.aast hx hb (hM a _ hm).1 (fun q h => by cases h) (fun h => by cases h) k1 k2 rfl hkC ⟨h0, by show _ < (arrV _ _ _).slots.size; rw [arrV_size]; exact hlt⟩ g1 (fun q h => by rw [g3] at h; cases h) (by rw [g2]; exact hkC) (by rw [g2]; exact va_assign hcls) rfl rfl hd fun H1 e9 z9 oq => ?_
  refine kk H1 ls _ hl (hM.put hm ?_ oq) (by rw [z9]; exact hz) (hS.put z9 oq (hM a _ hm).2)
  show H1[a]? = some (vp_cell _ _)
  rw [e9]
  show some ((vp_cell (E j) (N, .inr (.inr (.inr (.inr f))))).setSlot _ _) = _
  rw [vp_cell_q, vp_cell_q, arrV_store]
  congr 2
  funext q
  by_cases hq : q = i.toNatClampNeg
  · subst hq
    simp [updV, va_up, va_rf]
  · simp [updV, va_up, hq]
theorem z_arraycopy {K : zK} {yn : MethodName} {cc : ByteArray} {nL : Nat} {ret : Option FieldType} {d mc ms : Nat} {B : zB} {Q : State → Prop} {pc : Nat} {L : List (Option Value)} {rest : List Value} {M : mM} {k n : Nat} {ix a0 a N0 N1 : Nat} {f g : Nat → Int32} {sp dp w : Int32} (ok : zOk K yn cc nL ret d mc ms B) (hd : decode cc pc = .ok (.invokestatic ix, 3)) (hw : Cond.methodLink yn.cls ix arraycopyName ∈ zgw) (hw2 : Cond.native arraycopyName ∈ zgw) (hw3 : Cond.static arraycopyName ∈ zgw) (hw4 : Cond.initialized "java/lang/System" ∈ zgw) (hm0 : M a0 = some (.inl (0, N0, .inl f))) (hm : M a = some (.inl (0, N1, .inl g)))
    (h1 : ¬ sp < 0) (h2 : ¬ dp < 0) (h3 : ¬ w < 0) (h4 : sp.toNatClampNeg + w.toNatClampNeg ≤ N0) (h5 : dp.toNatClampNeg + w.toNatClampNeg ≤ N1) (hd1 : 1 ≤ d) (hcat : (rest.map fun v => v.category).sum ≤ 8)
    (kk : zV nL B Q (pc + 3) L rest (mU M a (.inl (0, N1, .inl (va_cpy f g sp.toNatClampNeg dp.toNatClampNeg w.toNatClampNeg)))) k n) : zV nL B Q pc L (.int w :: .int dp :: .ref a :: .int sp :: .ref a0 :: rest) M k n := by
  obtain ⟨p, l, e, R, s, m, args, below, meth, c, D, E, A⟩ := B
  obtain ⟨⟨hx, hb, hml, hr, hown⟩, hts, hlocks, hK, hA, hnm, hR, hF, hT⟩ := ok
  intro H ls locs hl hM hz hS
  have nn : ∀ z : Int32, ¬ z < 0 → z.toInt = (z.toNatClampNeg : Int) := by
    intro z hz9
    have hz0 : (0 : Int) ≤ z.toInt := by
      have := Int32.not_lt.mp hz9
      simpa using Int32.le_iff_toInt_le.mp this
    show z.toInt = ((z.toInt.toNat : Nat) : Int)
    omega
  intro T9 hT9 X
  have hc0 : H[a0]? = some (vp_cell (E 0) (N0, .inl f)) := (hM a0 _ hm0).1
  have hc1 : H[a]? = some (vp_cell (E 0) (N1, .inl g)) := (hM a _ hm).1
  obtain ⟨-, k0, hk0, cm0, hkk0⟩ := (hK.2 0 _ (mTys_at E (j := 0) rfl)).1 N0 (fun j => .int (f j))
  have hlo : 40 * d ≤ R.locals := hR.2.1
  obtain ⟨vm', X', step⟩ := X.arraycopy hx hown (hts _ hw) (hts _ hw2) (hts _ hw3) (hts _ hw4) (src := a0) (dst := a) (cs := vp_cell (E 0) (N0, .inl f)) (cd := vp_cell (E 0) (N1, .inl g)) (srcPos := sp) (destPos := dp) (n := w) (by rw [hT9]; exact hc0) (by rw [hT9]; exact hc1)
    (fun _ h => by cases h) (fun _ h => by cases h) (fun h => by cases h) (fun h => by cases h) hk0 hk0 hkk0 hkk0 (by simp [refKind]) h1 h2 h3
    (by rw [nn sp h1, nn w h3]; show ¬ _ > ((arrV (E 0) N0 (fun j => .int (f j))).slots.size : Int); rw [arrV_size]; omega)
    (by rw [nn dp h2, nn w h3]; show ¬ _ > ((arrV (E 0) N1 (fun j => .int (g j))).slots.size : Int); rw [arrV_size]; omega)
    (fun vm₁ _ i hi => by
      have e : (vp_cell (E 0) (N0, .inl f)).slots.getD (sp.toNatClampNeg + i) .null = .int (f (sp.toNatClampNeg + i)) := by
        show (arrV (E 0) N0 (fun j => .int (f j))).slots.getD _ _ = _
        rw [Array.getD_eq_getD_getElem?, arrV_read _ _ (by omega)]
        rfl
      refine ⟨?_, ?_⟩
      · rw [e]
        rfl
      · rw [e]
        exact trivial)
    (g := F0 m pc ls (.int w :: .int dp :: .ref a :: .int sp :: .ref a0 :: rest)) rfl (by rw [hml]; exact hl.1) (rest := rest) rfl (by rw [hb]; exact hd) (Nat.le_trans hd1 hR.1) (by
      show 2 * 0 + _ + _ ≤ _
      have e9 : nativeFrameWords "java/lang/System" "arraycopy" 5 + 11 ≤ 32 := by decide +kernel
      omega)
  have e1 : copied (vp_cell (E 0) (N0, .inl f)) (vp_cell (E 0) (N1, .inl g)) sp dp w = vp_cell (E 0) (N1, .inl (va_cpy f g sp.toNatClampNeg dp.toNatClampNeg w.toNatClampNeg)) := va_copied (fun z => .int z) (E 0) (E 0) f g h4
  rw [e1] at X' step
  have hl9 : a < H.size := (Array.getElem?_eq_some_iff.mp hc1).1
  have hheap : ((T9.setVm vm').setCell a (vp_cell (E 0) (N1, .inl (va_cpy f g sp.toNatClampNeg dp.toNatClampNeg w.toNatClampNeg)))).heap = H.setIfInBounds a (vp_cell (E 0) (N1, .inl (va_cpy f g sp.toNatClampNeg dp.toNatClampNeg w.toNatClampNeg))) := by rw [← hT9]; rfl
  have oq : ∀ q : Nat, q ≠ a → (H.setIfInBounds a (vp_cell (E 0) (N1, .inl (va_cpy f g sp.toNatClampNeg dp.toNatClampNeg w.toNatClampNeg))))[q]? = H[q]? := fun q hq => by simp [Array.getElem?_setIfInBounds, Ne.symm hq]
  obtain ⟨t, a1, b1⟩ := kk _ ls _ hl (hM.put hm (show (H.setIfInBounds a _)[a]? = some _ by simp [Array.getElem?_setIfInBounds, hl9]) oq) (by simp; exact hz) ⟨by simp; exact hS.1, fun q g1 g2 => by
      rw [oq q (fun e => g2 (by rw [e]; exact (hM a _ hm).2))]
      exact hS.2.1 q g1 g2, fun q hq => by
      rcases List.mem_append.mp hq with h | h
      · exact hS.2.2 q h
      · obtain ⟨z, -, hz9⟩ := List.mem_map.mp h
        rw [← hz9]
        exact (hM a _ hm).2⟩ _ hheap X'
  exact ⟨t, step t a1, b1⟩
theorem z_new {K : zK} {yn : MethodName} {cc : ByteArray} {nL : Nat} {ret : Option FieldType} {d mc ms : Nat} {B : zB} {Q : State → Prop} {pc : Nat} {L : List (Option Value)} {rest : List Value} {M : mM} {k n : Nat} {C : String} {T : u_T} {N ci ix : Nat} {fs : List Value} (ok : zOk K yn cc nL ret d mc ms B) (hd : decode cc pc = .ok (.new ix, 3)) (hin : ∀ w ∈ u_ws C T N, w ∈ zgw) (ty : Nat → FieldType) (hty : ∀ k, k < N → parseFieldDescriptor (T k).2.2.1 = some (ty k)) (hc : vwCl[ci]? = some (C, T, N)) (hw : Cond.classLink yn.cls ix C ∈ zgw) (hw2 : Cond.instantiable C N ∈ zgw) (hw3 : Cond.initialized C ∈ zgw) (hfs : ∀ j, j < N → defaultValue (ty j) = vp_V fs j) (hk : k + 1 ≤ mc) (hn : n + N ≤ ms) {a : Nat} (ha : zSz B + k = a)
    (kk : zV nL B Q (pc + 3) L (.ref a :: rest) (mU M a (.inr (ci, fs))) (k + 1) (n + N)) : zV nL B Q pc L rest M k n := by
  subst ha
  obtain ⟨p, l, e, R, s, m, args, below, meth, c, D, E, A⟩ := B
  obtain ⟨⟨hx, hb, hml, hr, hown⟩, hts, hlocks, hK, hA, hnm, hR, hF, hT⟩ := ok
  intro H ls locs hl hM hz hS
  have hKn := hK.1 ci _ hc
  refine W.newcK hx hb hown (hts _ hw) (hts _ hw2) (hts _ hw3) rfl hd (Nat.le_trans hk hR.2.2.1) (Nat.le_trans hn hR.2.2.2) hKn.2.1 hz fun H1 kC hkC e1 z1 o1 => ?_
  have hq : ∀ q, q < H.size → H1[q]? = H[q]? := fun q h => o1 q (by rw [← hz]; exact h)
  exact kk H1 ls locs hl (hM.push ⟨_, hc, (u_born ty hts hin hKn hkC e1 hty).to hfs⟩ (hA _ (Nat.le_add_right _ _)) hq) (by rw [z1]; omega) ⟨Nat.le_trans hS.1 (by omega), fun x h1 h2 => (hq x (Nat.lt_of_lt_of_le h1 hS.1)).trans (hS.2.1 x h1 h2), hS.2.2⟩
theorem z_newI {K : zK} {yn : MethodName} {cc : ByteArray} {nL : Nat} {ret : Option FieldType} {d mc ms : Nat} {B : zB} {Q : State → Prop} {pc : Nat} {L : List (Option Value)} {rest : List Value} {M : mM} {k n : Nat} {x : Int32} {N : Nat} (ok : zOk K yn cc nL ret d mc ms B) (hd : decode cc pc = .ok (.newarray .int, 2)) (hw : Cond.arrayClass .int ∈ zgw) (hx0 : ¬ x < 0) (hxN : x.toNatClampNeg = N) (hby : N * componentBytes .int ≤ 536870912) (hk : k + 1 ≤ mc) (hn : n + N ≤ ms) {a : Nat} (ha : zSz B + k = a)
    (kk : zV nL B Q (pc + 2) L (.ref a :: rest) (mU M a (.inl (0, N, .inl (fun _ => 0)))) (k + 1) (n + N)) : zV nL B Q pc L (.int x :: rest) M k n := by
  subst ha
  obtain ⟨p, l, e, R, s, m, args, below, meth, c, D, E, A⟩ := B
  obtain ⟨⟨hx, hb, hml, hr, hown⟩, hts, hlocks, hK, hA, hnm, hR, hF, hT⟩ := ok
  intro H ls locs hl hM hz hS
  refine va_newaK (atype := .int) hx hb (hts _ hw) rfl hd rfl hx0 hxN hby (Nat.le_trans hk hR.2.2.1) (Nat.le_trans hn hR.2.2.2) hz fun H1 cA e1 z1 o1 hAr hNm => ?_
  have hq : ∀ q, q < H.size → H1[q]? = H[q]? := fun q h => o1 q (by rw [← hz]; exact h)
  have hcA : E 0 = cA := Option.some.inj ((hK.2 0 _ (mTys_at E (j := 0) rfl)).2.symm.trans hNm)
  subst hcA
  exact kk H1 ls locs hl (hM.push (show H1[_]? = some (vp_cell _ _) by rw [vp_cell_i]; exact e1) (hA _ (Nat.le_add_right _ _)) hq) (by rw [z1]; omega) ⟨Nat.le_trans hS.1 (by omega), fun x h1 h2 => (hq x (Nat.lt_of_lt_of_le h1 hS.1)).trans (hS.2.1 x h1 h2), hS.2.2⟩
theorem z_newL {K : zK} {yn : MethodName} {cc : ByteArray} {nL : Nat} {ret : Option FieldType} {d mc ms : Nat} {B : zB} {Q : State → Prop} {pc : Nat} {L : List (Option Value)} {rest : List Value} {M : mM} {k n : Nat} {x : Int32} {N : Nat} (ok : zOk K yn cc nL ret d mc ms B) (hd : decode cc pc = .ok (.newarray .long, 2)) (hw : Cond.arrayClass .long ∈ zgw) (hx0 : ¬ x < 0) (hxN : x.toNatClampNeg = N) (hby : N * componentBytes .long ≤ 536870912) (hk : k + 1 ≤ mc) (hn : n + N ≤ ms) {a : Nat} (ha : zSz B + k = a)
    (kk : zV nL B Q (pc + 2) L (.ref a :: rest) (mU M a (.inl (1, N, .inr (.inl (fun _ => 0))))) (k + 1) (n + N)) : zV nL B Q pc L (.int x :: rest) M k n := by
  subst ha
  obtain ⟨p, l, e, R, s, m, args, below, meth, c, D, E, A⟩ := B
  obtain ⟨⟨hx, hb, hml, hr, hown⟩, hts, hlocks, hK, hA, hnm, hR, hF, hT⟩ := ok
  intro H ls locs hl hM hz hS
  refine va_newaK (atype := .long) hx hb (hts _ hw) rfl hd rfl hx0 hxN hby (Nat.le_trans hk hR.2.2.1) (Nat.le_trans hn hR.2.2.2) hz fun H1 cA e1 z1 o1 hAr hNm => ?_
  have hq : ∀ q, q < H.size → H1[q]? = H[q]? := fun q h => o1 q (by rw [← hz]; exact h)
  have hcA : E 1 = cA := Option.some.inj ((hK.2 1 _ (mTys_at E (j := 1) rfl)).2.symm.trans hNm)
  subst hcA
  exact kk H1 ls locs hl (hM.push (show H1[_]? = some (vp_cell _ _) by rw [vp_cell_l]; exact e1) (hA _ (Nat.le_add_right _ _)) hq) (by rw [z1]; omega) ⟨Nat.le_trans hS.1 (by omega), fun x h1 h2 => (hq x (Nat.lt_of_lt_of_le h1 hS.1)).trans (hS.2.1 x h1 h2), hS.2.2⟩
theorem z_newC {K : zK} {yn : MethodName} {cc : ByteArray} {nL : Nat} {ret : Option FieldType} {d mc ms : Nat} {B : zB} {Q : State → Prop} {pc : Nat} {L : List (Option Value)} {rest : List Value} {M : mM} {k n : Nat} {x : Int32} {N : Nat} (ok : zOk K yn cc nL ret d mc ms B) (hd : decode cc pc = .ok (.newarray .char, 2)) (hw : Cond.arrayClass .char ∈ zgw) (hx0 : ¬ x < 0) (hxN : x.toNatClampNeg = N) (hby : N * componentBytes .char ≤ 536870912) (hk : k + 1 ≤ mc) (hn : n + N ≤ ms) {a : Nat} (ha : zSz B + k = a)
    (kk : zV nL B Q (pc + 2) L (.ref a :: rest) (mU M a (.inl (2, N, .inl (fun _ => 0)))) (k + 1) (n + N)) : zV nL B Q pc L (.int x :: rest) M k n := by
  subst ha
  obtain ⟨p, l, e, R, s, m, args, below, meth, c, D, E, A⟩ := B
  obtain ⟨⟨hx, hb, hml, hr, hown⟩, hts, hlocks, hK, hA, hnm, hR, hF, hT⟩ := ok
  intro H ls locs hl hM hz hS
  refine va_newaK (atype := .char) hx hb (hts _ hw) rfl hd rfl hx0 hxN hby (Nat.le_trans hk hR.2.2.1) (Nat.le_trans hn hR.2.2.2) hz fun H1 cA e1 z1 o1 hAr hNm => ?_
  have hq : ∀ q, q < H.size → H1[q]? = H[q]? := fun q h => o1 q (by rw [← hz]; exact h)
  have hcA : E 2 = cA := Option.some.inj ((hK.2 2 _ (mTys_at E (j := 2) rfl)).2.symm.trans hNm)
  subst hcA
  exact kk H1 ls locs hl (hM.push (show H1[_]? = some (vp_cell _ _) by rw [vp_cell_i]; exact e1) (hA _ (Nat.le_add_right _ _)) hq) (by rw [z1]; omega) ⟨Nat.le_trans hS.1 (by omega), fun x h1 h2 => (hq x (Nat.lt_of_lt_of_le h1 hS.1)).trans (hS.2.1 x h1 h2), hS.2.2⟩
theorem z_newR {K : zK} {yn : MethodName} {cc : ByteArray} {nL : Nat} {ret : Option FieldType} {d mc ms : Nat} {B : zB} {Q : State → Prop} {pc : Nat} {L : List (Option Value)} {rest : List Value} {M : mM} {k n : Nat} {x : Int32} {N j ix : Nat} {C : String} (ok : zOk K yn cc nL ret d mc ms B) (hd : decode cc pc = .ok (.anewarray ix, 3)) (hw : Cond.classLink yn.cls ix C ∈ zgw) (hAO : ∀ s : State, zFx s → va_AO C s) (hj : mTy[j]? = some (.object C)) (hx0 : ¬ x < 0) (hxN : x.toNatClampNeg = N) (hby : N * 4 ≤ 536870912) (hk : k + 1 ≤ mc) (hn : n + N ≤ ms) {a : Nat} (ha : zSz B + k = a)
    (kk : zV nL B Q (pc + 3) L (.ref a :: rest) (mU M a (.inl (j, N, .inr (.inr (.inr (.inr (fun _ => none))))))) (k + 1) (n + N)) : zV nL B Q pc L (.int x :: rest) M k n := by
  subst ha
  subst hxN
  obtain ⟨p, l, e, R, s, m, args, below, meth, c, D, E, A⟩ := B
  obtain ⟨⟨hx, hb, hml, hr, hown⟩, hts, hlocks, hK, hA, hnm, hR, hF, hT⟩ := ok
  intro H ls locs hl hM hz hS
  refine W.anew hx hb hown (hts _ hw) (va_AO.use (hAO s hF)) rfl hd rfl hx0 hby (Nat.le_trans hk hR.2.2.1) (Nat.le_trans hn hR.2.2.2) fun cA kA comp f1 f2 f3 f4 => ?_
  generalize hH1 : H.push ({ cls := cA, slots := Array.replicate x.toNatClampNeg .null, vm := .none } : Cell) = H1
  have z1 : H1.size = H.size + 1 := by rw [← hH1, Array.size_push]
  have e1 : H1[H.size]? = some (arrV cA x.toNatClampNeg (fun _ => .null)) := by rw [← hH1, Array.getElem?_push_size, ← arrV_new]
  have hq : ∀ q : Nat, q < H.size → H1[q]? = H[q]? := fun q hq => by rw [← hH1, Array.getElem?_push, if_neg (Nat.ne_of_lt hq)]
  obtain ⟨kA2, comp2, g1, g2, g3, g4⟩ := (hK.2 j _ (mTys_at E hj)).2
  have hcA : E j = cA := Option.some.inj (g4.symm.trans f1)
  subst hcA
  have hz9 : H.size = zSz (p, l, e, R, s, m, args, below, meth, c, D, E, A) + k := hz
  rw [hz9] at e1
  show W p l e R s m args below meth c H1 locs (k + 1) (n + x.toNatClampNeg) Q (F0 m (pc + 3) ls (.ref H.size :: rest))
  rw [hz9]
  exact kk H1 ls locs hl (hM.push (show H1[_]? = some (vp_cell _ _) by rw [vp_cell_q]; exact e1) (hA _ (Nat.le_add_right _ _)) hq) (by rw [z1, hz]; omega) ⟨Nat.le_trans hS.1 (by omega), fun x h1 h2 => (hq x (Nat.lt_of_lt_of_le h1 hS.1)).trans (hS.2.1 x h1 h2), hS.2.2⟩
end
section
/-- an int, nothing, any one value as an answer -/
def zI (P : Int32 → mM → Prop) : Option Value → mM → Prop := fun r M => ∃ x : Int32, r = some (.int x) ∧ P x M
def zU (P : mM → Prop) : Option Value → mM → Prop := fun r M => r = none ∧ P M
def zA (P : Value → mM → Prop) : Option Value → mM → Prop := fun r M => ∃ v : Value, r = some v ∧ P v M
/-- what the tables have of a method -/
def zMeth (y : MethodName) (cc : ByteArray) (nL : Nat) (ret : Option FieldType) (np : Nat) : Prop := Cond.code y cc nL ret ∈ zgw ∧ Cond.initialized y.cls ∈ zgw ∧ (y.cls ≠ "java/lang/invoke/MethodHandle" ∧ y.cls ≠ "java/lang/invoke/VarHandle" ∧ (parseMethodDescriptor y.desc).map (fun d => d.parameters.length) = some np) ∧ nL ≤ 21
theorem zgw_in {y : MethodName} {cc : ByteArray} {nL np : Nat} {ret : Option FieldType} (h : zMeth y cc nL ret np) : GoodIn zgw (Cond.code y cc nL ret :: zgw) := fun w hw => by
  have hm : w ∈ zgw := by
    rcases List.mem_cons.mp hw with h2 | h2
    · rw [h2]; exact h.1
    · exact h2
  exact ⟨hm, good_of_word (zgw_good w hm)⟩
theorem z_run {p : Program} {l : Launch} {e : Env} {R : Room} {s : State} {m : MethodId} {args : Array Value} {below : List Frame} {meth : Method} {c : Code} {H : Heap} {locs : List Loc} {k n mc' ms' : Nat} {D : va_G} {E : Nat → ClassId} {A : Nat → Prop} {pc : Nat} {ls : Array Slot} {st0 rest : List Value} {Qc : Option Value → mM → Prop} {Q : State → Prop} {av : Array Value}
    (hr : va_Run p l e R s m args below meth c H locs k n mc' ms' (F0 m pc ls st0) rest (zQ D E A Qc H.size mc' av) A) (hz : H.size = s.heap.size + k) (hS : va_S A s.heap H locs)
    (kk : ∀ (r : Option Value) (M' : mM) (H1 : Heap) (locs1 : List Loc), Qc r M' → mRep D E A M' H1 → H1.size = s.heap.size + (k + mc') → va_S A s.heap H1 locs1 → W p l e R s m args below meth c H1 locs1 (k + mc') (n + ms') Q (F0 m (pc + 3) ls (r.toList ++ rest))) : W p l e R s m args below meth c H locs k n Q (F0 m pc ls st0) := by
  intro T hT X
  obtain ⟨v, st₀, t, T', L, h0, X', hL, e1, e2, ⟨⟨r, M', hv, hq, hsz, hM', hK'⟩, hz1, hk1⟩, st⟩ := hr T hT X
  cases hv
  rw [h0] at hz1 hk1
  obtain ⟨t2, a1, b1⟩ := kk v M' T'.heap (locs ++ L) hq (by rw [e1]; exact hM') (by rw [e1, hsz, hz]; omega) ⟨Nat.le_trans hS.1 (by rw [e1]; exact hz1), fun q h1 h2 => by rw [e1, hk1 q (Nat.lt_of_lt_of_le h1 hS.1) h2]; exact hS.2.1 q h1 h2, fun q hq => by
      rcases List.mem_append.mp hq with h | h
      · exact hS.2.2 q h
      · exact hL q h⟩ T' rfl X'
  exact ⟨t2, st t2 a1, b1⟩
theorem z_callVi {K : zK} {yn : MethodName} {cc : ByteArray} {nL : Nat} {ret : Option FieldType} {d mc ms : Nat} {B : zB} {Q : State → Prop} {pc : Nat} {L : List (Option Value)} {rest : List Value} {M : mM} {k n : Nat} {y' : MethodName} {cc' : ByteArray} {nL' np ix : Nat} {ret' : Option FieldType} {d' mc' ms' : Nat} {b ci N : Nat} {fs As : List Value} {T : u_T} {P : Int32 → mM → Prop} {stk : List Value} (ok : zOk K yn cc nL ret d mc ms B) (hd : decode cc pc = .ok (.invokevirtual ix, 3)) (hy : zMeth y' cc' nL' ret' np) (hw : Cond.methodLink yn.cls ix y' ∈ zgw) (hw2 : Cond.instanceMethod y' ∈ zgw ∧ Cond.selects y'.cls y' y' ∈ zgw) (hm : M b = some (.inr (ci, fs))) (hc : vwCl[ci]? = some (y'.cls, T, N)) (hC : zCt K y' cc' nL' ret' d' (.ref b :: As) M (zSz B + k) mc' ms' (zI P)) (hst : stk = As.reverse ++ .ref b :: rest) (hlen : As.length = np) (hdd : d' + 1 ≤ d) (hk : k + mc' ≤ mc) (hn : n + ms' ≤ ms) (hcat : (rest.map fun v => v.category).sum ≤ 8)
    (kk : ∀ (x : Int32) (M' : mM), P x M' → zV nL B Q (pc + 3) L (.int x :: rest) M' (k + mc') (n + ms')) : zV nL B Q pc L stk M k n := by
  obtain ⟨p, l, e, R, s, m, args, below, meth, c, D, E, A⟩ := B
  obtain ⟨⟨hx, hb, hml, hr, hown⟩, hts, hlocks, hK, hA, hnm, hR, hF, hT⟩ := ok
  intro H ls locs hl hM hz hS
  have hroom : 8 + (nL' + 11) + 40 * d' ≤ R.locals := by
    have h1 := hy.2.2.2
    have h2 := hR.2.1
    omega
  have hKu : ∀ U : State, U.heap = H → s.WarmedH U.vm → zP K D E A (.ref b :: As) M H.size (.ref b :: As).toArray U := fun U hU hW => ⟨rfl, by rw [hU], by rw [hU]; exact hM, va_K.moved hW.alike hK, fun q hq => hA q (Nat.le_trans hS.1 hq), zFx.warm hW hF, by rw [hU]; exact zStr.warm hW (hT.kept hS.2.1)⟩
  have hM1 := hC l D E A
  rw [show zSz (p, l, e, R, s, m, args, below, meth, c, D, E, A) + k = H.size from hz.symm] at hM1
  exact z_run (va_runV (C := y'.cls) (As := As) (rest := rest) (nL := nL) (own := yn.cls) (index := ix) (n := np) ⟨hx, hb, hml, hown, hts⟩ hM1 ⟨callB_of (ws := Cond.code y' cc' nL' ret' :: zgw) (rm := zRm d' mc' ms') np hts (zgw_in hy) rfl rfl rfl (hts _ hy.2.1) (hts _ hw) hy.2.2.1 ⟨Nat.le_trans hdd hR.1, hroom⟩, hts _ hw2.1, hts _ hw2.2⟩ ⟨zP_blind, va_recv (q0 := 0) hK (hM.one hm) hc rfl, hKu⟩ rfl hlen hl.1 hst (lv_room hcat) hd ⟨Nat.le_trans hk hR.2.2.1, Nat.le_trans hn hR.2.2.2⟩) hz hS (fun r M' H1 locs1 hq hM' hz' hS' => by
    obtain ⟨x, rfl, hq⟩ := hq
    exact kk x M' hq H1 ls locs1 hl hM' hz' hS')
theorem z_callVv {K : zK} {yn : MethodName} {cc : ByteArray} {nL : Nat} {ret : Option FieldType} {d mc ms : Nat} {B : zB} {Q : State → Prop} {pc : Nat} {L : List (Option Value)} {rest : List Value} {M : mM} {k n : Nat} {y' : MethodName} {cc' : ByteArray} {nL' np ix : Nat} {ret' : Option FieldType} {d' mc' ms' : Nat} {b ci N : Nat} {fs As : List Value} {T : u_T} {P : mM → Prop} {stk : List Value} (ok : zOk K yn cc nL ret d mc ms B) (hd : decode cc pc = .ok (.invokevirtual ix, 3)) (hy : zMeth y' cc' nL' ret' np) (hw : Cond.methodLink yn.cls ix y' ∈ zgw) (hw2 : Cond.instanceMethod y' ∈ zgw ∧ Cond.selects y'.cls y' y' ∈ zgw) (hm : M b = some (.inr (ci, fs))) (hc : vwCl[ci]? = some (y'.cls, T, N)) (hC : zCt K y' cc' nL' ret' d' (.ref b :: As) M (zSz B + k) mc' ms' (zU P)) (hst : stk = As.reverse ++ .ref b :: rest) (hlen : As.length = np) (hdd : d' + 1 ≤ d) (hk : k + mc' ≤ mc) (hn : n + ms' ≤ ms) (hcat : (rest.map fun v => v.category).sum ≤ 8)
    (kk : ∀ (M' : mM), P M' → zV nL B Q (pc + 3) L rest M' (k + mc') (n + ms')) : zV nL B Q pc L stk M k n := by
  obtain ⟨p, l, e, R, s, m, args, below, meth, c, D, E, A⟩ := B
  obtain ⟨⟨hx, hb, hml, hr, hown⟩, hts, hlocks, hK, hA, hnm, hR, hF, hT⟩ := ok
  intro H ls locs hl hM hz hS
  have hroom : 8 + (nL' + 11) + 40 * d' ≤ R.locals := by
    have h1 := hy.2.2.2
    have h2 := hR.2.1
    omega
  have hKu : ∀ U : State, U.heap = H → s.WarmedH U.vm → zP K D E A (.ref b :: As) M H.size (.ref b :: As).toArray U := fun U hU hW => ⟨rfl, by rw [hU], by rw [hU]; exact hM, va_K.moved hW.alike hK, fun q hq => hA q (Nat.le_trans hS.1 hq), zFx.warm hW hF, by rw [hU]; exact zStr.warm hW (hT.kept hS.2.1)⟩
  have hM1 := hC l D E A
  rw [show zSz (p, l, e, R, s, m, args, below, meth, c, D, E, A) + k = H.size from hz.symm] at hM1
  exact z_run (va_runV (C := y'.cls) (As := As) (rest := rest) (nL := nL) (own := yn.cls) (index := ix) (n := np) ⟨hx, hb, hml, hown, hts⟩ hM1 ⟨callB_of (ws := Cond.code y' cc' nL' ret' :: zgw) (rm := zRm d' mc' ms') np hts (zgw_in hy) rfl rfl rfl (hts _ hy.2.1) (hts _ hw) hy.2.2.1 ⟨Nat.le_trans hdd hR.1, hroom⟩, hts _ hw2.1, hts _ hw2.2⟩ ⟨zP_blind, va_recv (q0 := 0) hK (hM.one hm) hc rfl, hKu⟩ rfl hlen hl.1 hst (lv_room hcat) hd ⟨Nat.le_trans hk hR.2.2.1, Nat.le_trans hn hR.2.2.2⟩) hz hS (fun r M' H1 locs1 hq hM' hz' hS' => by
    obtain ⟨rfl, hq⟩ := hq
    exact kk M' hq H1 ls locs1 hl hM' hz' hS')
theorem z_callVa {K : zK} {yn : MethodName} {cc : ByteArray} {nL : Nat} {ret : Option FieldType} {d mc ms : Nat} {B : zB} {Q : State → Prop} {pc : Nat} {L : List (Option Value)} {rest : List Value} {M : mM} {k n : Nat} {y' : MethodName} {cc' : ByteArray} {nL' np ix : Nat} {ret' : Option FieldType} {d' mc' ms' : Nat} {b ci N : Nat} {fs As : List Value} {T : u_T} {P : Value → mM → Prop} {stk : List Value} (ok : zOk K yn cc nL ret d mc ms B) (hd : decode cc pc = .ok (.invokevirtual ix, 3)) (hy : zMeth y' cc' nL' ret' np) (hw : Cond.methodLink yn.cls ix y' ∈ zgw) (hw2 : Cond.instanceMethod y' ∈ zgw ∧ Cond.selects y'.cls y' y' ∈ zgw) (hm : M b = some (.inr (ci, fs))) (hc : vwCl[ci]? = some (y'.cls, T, N)) (hC : zCt K y' cc' nL' ret' d' (.ref b :: As) M (zSz B + k) mc' ms' (zA P)) (hst : stk = As.reverse ++ .ref b :: rest) (hlen : As.length = np) (hdd : d' + 1 ≤ d) (hk : k + mc' ≤ mc) (hn : n + ms' ≤ ms) (hcat : (rest.map fun v => v.category).sum ≤ 8)
    (kk : ∀ (x : Value) (M' : mM), P x M' → zV nL B Q (pc + 3) L (x :: rest) M' (k + mc') (n + ms')) : zV nL B Q pc L stk M k n := by
  obtain ⟨p, l, e, R, s, m, args, below, meth, c, D, E, A⟩ := B
  obtain ⟨⟨hx, hb, hml, hr, hown⟩, hts, hlocks, hK, hA, hnm, hR, hF, hT⟩ := ok
  intro H ls locs hl hM hz hS
  have hroom : 8 + (nL' + 11) + 40 * d' ≤ R.locals := by
    have h1 := hy.2.2.2
    have h2 := hR.2.1
    omega
  have hKu : ∀ U : State, U.heap = H → s.WarmedH U.vm → zP K D E A (.ref b :: As) M H.size (.ref b :: As).toArray U := fun U hU hW => ⟨rfl, by rw [hU], by rw [hU]; exact hM, va_K.moved hW.alike hK, fun q hq => hA q (Nat.le_trans hS.1 hq), zFx.warm hW hF, by rw [hU]; exact zStr.warm hW (hT.kept hS.2.1)⟩
  have hM1 := hC l D E A
  rw [show zSz (p, l, e, R, s, m, args, below, meth, c, D, E, A) + k = H.size from hz.symm] at hM1
  exact z_run (va_runV (C := y'.cls) (As := As) (rest := rest) (nL := nL) (own := yn.cls) (index := ix) (n := np) ⟨hx, hb, hml, hown, hts⟩ hM1 ⟨callB_of (ws := Cond.code y' cc' nL' ret' :: zgw) (rm := zRm d' mc' ms') np hts (zgw_in hy) rfl rfl rfl (hts _ hy.2.1) (hts _ hw) hy.2.2.1 ⟨Nat.le_trans hdd hR.1, hroom⟩, hts _ hw2.1, hts _ hw2.2⟩ ⟨zP_blind, va_recv (q0 := 0) hK (hM.one hm) hc rfl, hKu⟩ rfl hlen hl.1 hst (lv_room hcat) hd ⟨Nat.le_trans hk hR.2.2.1, Nat.le_trans hn hR.2.2.2⟩) hz hS (fun r M' H1 locs1 hq hM' hz' hS' => by
    obtain ⟨x, rfl, hq⟩ := hq
    exact kk x M' hq H1 ls locs1 hl hM' hz' hS')
theorem z_callSi {K : zK} {yn : MethodName} {cc : ByteArray} {nL : Nat} {ret : Option FieldType} {d mc ms : Nat} {B : zB} {Q : State → Prop} {pc : Nat} {L : List (Option Value)} {rest : List Value} {M : mM} {k n : Nat} {y' : MethodName} {cc' : ByteArray} {nL' np ix : Nat} {ret' : Option FieldType} {d' mc' ms' : Nat} {As : List Value} {P : Int32 → mM → Prop} {stk : List Value} (ok : zOk K yn cc nL ret d mc ms B) (hd : decode cc pc = .ok (.invokestatic ix, 3)) (hy : zMeth y' cc' nL' ret' np) (hw : Cond.methodLink yn.cls ix y' ∈ zgw) (hw2 : Cond.static y' ∈ zgw) (hC : zCt K y' cc' nL' ret' d' As M (zSz B + k) mc' ms' (zI P)) (hst : stk = As.reverse ++ rest) (hlen : As.length = np) (hdd : d' + 1 ≤ d) (hk : k + mc' ≤ mc) (hn : n + ms' ≤ ms) (hcat : (rest.map fun v => v.category).sum ≤ 8)
    (kk : ∀ (x : Int32) (M' : mM), P x M' → zV nL B Q (pc + 3) L (.int x :: rest) M' (k + mc') (n + ms')) : zV nL B Q pc L stk M k n := by
  obtain ⟨p, l, e, R, s, m, args, below, meth, c, D, E, A⟩ := B
  obtain ⟨⟨hx, hb, hml, hr, hown⟩, hts, hlocks, hK, hA, hnm, hR, hF, hT⟩ := ok
  intro H ls locs hl hM hz hS
  have hroom : 8 + (nL' + 11) + 40 * d' ≤ R.locals := by
    have h1 := hy.2.2.2
    have h2 := hR.2.1
    omega
  have hKu : ∀ U : State, U.heap = H → s.WarmedH U.vm → zP K D E A As M H.size As.toArray U := fun U hU hW => ⟨rfl, by rw [hU], by rw [hU]; exact hM, va_K.moved hW.alike hK, fun q hq => hA q (Nat.le_trans hS.1 hq), zFx.warm hW hF, by rw [hU]; exact zStr.warm hW (hT.kept hS.2.1)⟩
  have hM1 := hC l D E A
  rw [show zSz (p, l, e, R, s, m, args, below, meth, c, D, E, A) + k = H.size from hz.symm] at hM1
  exact z_run (va_runS (As := As) (rest := rest) (nL := nL) (own := yn.cls) (index := ix) (n := np) ⟨hx, hb, hml, hown, hts⟩ hM1 ⟨callB_of (ws := Cond.code y' cc' nL' ret' :: zgw) (rm := zRm d' mc' ms') np hts (zgw_in hy) rfl rfl rfl (hts _ hy.2.1) (hts _ hw) hy.2.2.1 ⟨Nat.le_trans hdd hR.1, hroom⟩, hts _ hw2⟩ ⟨zP_blind, hKu⟩ rfl hlen hl.1 hst (lv_room hcat) hd ⟨Nat.le_trans hk hR.2.2.1, Nat.le_trans hn hR.2.2.2⟩) hz hS (fun r M' H1 locs1 hq hM' hz' hS' => by
    obtain ⟨x, rfl, hq⟩ := hq
    exact kk x M' hq H1 ls locs1 hl hM' hz' hS')
theorem z_callSa {K : zK} {yn : MethodName} {cc : ByteArray} {nL : Nat} {ret : Option FieldType} {d mc ms : Nat} {B : zB} {Q : State → Prop} {pc : Nat} {L : List (Option Value)} {rest : List Value} {M : mM} {k n : Nat} {y' : MethodName} {cc' : ByteArray} {nL' np ix : Nat} {ret' : Option FieldType} {d' mc' ms' : Nat} {As : List Value} {P : Value → mM → Prop} {stk : List Value} (ok : zOk K yn cc nL ret d mc ms B) (hd : decode cc pc = .ok (.invokestatic ix, 3)) (hy : zMeth y' cc' nL' ret' np) (hw : Cond.methodLink yn.cls ix y' ∈ zgw) (hw2 : Cond.static y' ∈ zgw) (hC : zCt K y' cc' nL' ret' d' As M (zSz B + k) mc' ms' (zA P)) (hst : stk = As.reverse ++ rest) (hlen : As.length = np) (hdd : d' + 1 ≤ d) (hk : k + mc' ≤ mc) (hn : n + ms' ≤ ms) (hcat : (rest.map fun v => v.category).sum ≤ 8)
    (kk : ∀ (x : Value) (M' : mM), P x M' → zV nL B Q (pc + 3) L (x :: rest) M' (k + mc') (n + ms')) : zV nL B Q pc L stk M k n := by
  obtain ⟨p, l, e, R, s, m, args, below, meth, c, D, E, A⟩ := B
  obtain ⟨⟨hx, hb, hml, hr, hown⟩, hts, hlocks, hK, hA, hnm, hR, hF, hT⟩ := ok
  intro H ls locs hl hM hz hS
  have hroom : 8 + (nL' + 11) + 40 * d' ≤ R.locals := by
    have h1 := hy.2.2.2
    have h2 := hR.2.1
    omega
  have hKu : ∀ U : State, U.heap = H → s.WarmedH U.vm → zP K D E A As M H.size As.toArray U := fun U hU hW => ⟨rfl, by rw [hU], by rw [hU]; exact hM, va_K.moved hW.alike hK, fun q hq => hA q (Nat.le_trans hS.1 hq), zFx.warm hW hF, by rw [hU]; exact zStr.warm hW (hT.kept hS.2.1)⟩
  have hM1 := hC l D E A
  rw [show zSz (p, l, e, R, s, m, args, below, meth, c, D, E, A) + k = H.size from hz.symm] at hM1
  exact z_run (va_runS (As := As) (rest := rest) (nL := nL) (own := yn.cls) (index := ix) (n := np) ⟨hx, hb, hml, hown, hts⟩ hM1 ⟨callB_of (ws := Cond.code y' cc' nL' ret' :: zgw) (rm := zRm d' mc' ms') np hts (zgw_in hy) rfl rfl rfl (hts _ hy.2.1) (hts _ hw) hy.2.2.1 ⟨Nat.le_trans hdd hR.1, hroom⟩, hts _ hw2⟩ ⟨zP_blind, hKu⟩ rfl hlen hl.1 hst (lv_room hcat) hd ⟨Nat.le_trans hk hR.2.2.1, Nat.le_trans hn hR.2.2.2⟩) hz hS (fun r M' H1 locs1 hq hM' hz' hS' => by
    obtain ⟨x, rfl, hq⟩ := hq
    exact kk x M' hq H1 ls locs1 hl hM' hz' hS')
theorem z_callIv {K : zK} {yn : MethodName} {cc : ByteArray} {nL : Nat} {ret : Option FieldType} {d mc ms : Nat} {B : zB} {Q : State → Prop} {pc : Nat} {L : List (Option Value)} {rest : List Value} {M : mM} {k n : Nat} {y' : MethodName} {cc' : ByteArray} {nL' np ix : Nat} {ret' : Option FieldType} {d' mc' ms' : Nat} {b : Nat} {As : List Value} {P : mM → Prop} {stk : List Value} (ok : zOk K yn cc nL ret d mc ms B) (hd : decode cc pc = .ok (.invokespecial ix, 3)) (hy : zMeth y' cc' nL' ret' np) (hw : Cond.methodLink yn.cls ix y' ∈ zgw) (hw2 : Cond.instanceMethod y' ∈ zgw) (hnm2 : y'.name = "<init>") (hret : ret' = none) (hC : zCt K y' cc' nL' ret' d' (.ref b :: As) M (zSz B + k) mc' ms' (zU P)) (hst : stk = As.reverse ++ .ref b :: rest) (hlen : As.length = np) (hdd : d' + 1 ≤ d) (hk : k + mc' ≤ mc) (hn : n + ms' ≤ ms) (hcat : (rest.map fun v => v.category).sum ≤ 8)
    (kk : ∀ (M' : mM), P M' → zV nL B Q (pc + 3) L rest M' (k + mc') (n + ms')) : zV nL B Q pc L stk M k n := by
  subst hret
  obtain ⟨p, l, e, R, s, m, args, below, meth, c, D, E, A⟩ := B
  obtain ⟨⟨hx, hb, hml, hr, hown⟩, hts, hlocks, hK, hA, hnm, hR, hF, hT⟩ := ok
  intro H ls locs hl hM hz hS
  have hroom : 8 + (nL' + 11) + 40 * d' ≤ R.locals := by
    have h1 := hy.2.2.2
    have h2 := hR.2.1
    omega
  have hKu : ∀ U : State, U.heap = H → s.WarmedH U.vm → zP K D E A (.ref b :: As) M H.size (.ref b :: As).toArray U := fun U hU hW => ⟨rfl, by rw [hU], by rw [hU]; exact hM, va_K.moved hW.alike hK, fun q hq => hA q (Nat.le_trans hS.1 hq), zFx.warm hW hF, by rw [hU]; exact zStr.warm hW (hT.kept hS.2.1)⟩
  have hM1 := hC l D E A
  rw [show zSz (p, l, e, R, s, m, args, below, meth, c, D, E, A) + k = H.size from hz.symm] at hM1
  exact z_run (va_runI (As := As) (rest := rest) (nL := nL) (own := yn.cls) (index := ix) (n := np) ⟨hx, hb, hml, hown, hts⟩ hM1 ⟨callB_of (ws := Cond.code y' cc' nL' none :: zgw) (rm := zRm d' mc' ms') np hts (zgw_in hy) rfl rfl rfl (hts _ hy.2.1) (hts _ hw) hy.2.2.1 ⟨Nat.le_trans hdd hR.1, hroom⟩, hnm2, hts _ hw2⟩ ⟨zP_blind, hKu⟩ rfl hlen hl.1 hst (lv_room hcat) hd ⟨Nat.le_trans hk hR.2.2.1, Nat.le_trans hn hR.2.2.2⟩) hz hS (fun r M' H1 locs1 hq hM' hz' hS' => by
    obtain ⟨rfl, hq⟩ := hq
    exact kk M' hq H1 ls locs1 hl hM' hz' hS')
theorem z_callSNi {K : zK} {yn : MethodName} {cc : ByteArray} {nL : Nat} {ret : Option FieldType} {d mc ms : Nat} {B : zB} {Q : State → Prop} {pc : Nat} {L : List (Option Value)} {rest : List Value} {M : mM} {k n : Nat} {y' : MethodName} {cc' : ByteArray} {nL' np ix : Nat} {ret' : Option FieldType} {d' mc' ms' : Nat} {As : List Value} {host : String} {P : Int32 → mM → Prop} {stk : List Value} (ok : zOk K yn cc nL ret d mc ms B) (hd : decode cc pc = .ok (.invokestatic ix, 3)) (hy : zMeth y' cc' nL' ret' np) (hw : ∀ U, zFx U → va_Nw (.methodLinkNest yn.cls ix y' host) U) (hw2 : Cond.static y' ∈ zgw) (hC : zCt K y' cc' nL' ret' d' As M (zSz B + k) mc' ms' (zI P)) (hst : stk = As.reverse ++ rest) (hlen : As.length = np) (hdd : d' + 1 ≤ d) (hk : k + mc' ≤ mc) (hn : n + ms' ≤ ms) (hcat : (rest.map fun v => v.category).sum ≤ 8)
    (kk : ∀ (x : Int32) (M' : mM), P x M' → zV nL B Q (pc + 3) L (.int x :: rest) M' (k + mc') (n + ms')) : zV nL B Q pc L stk M k n := by
  obtain ⟨p, l, e, R, s, m, args, below, meth, c, D, E, A⟩ := B
  obtain ⟨⟨hx, hb, hml, hr, hown⟩, hts, hlocks, hK, hA, hnm, hR, hF, hT⟩ := ok
  intro H ls locs hl hM hz hS
  have hroom : 8 + (nL' + 11) + 40 * d' ≤ R.locals := by
    have h1 := hy.2.2.2
    have h2 := hR.2.1
    omega
  have hKu : ∀ U : State, U.heap = H → s.WarmedH U.vm → zP K D E A As M H.size As.toArray U := fun U hU hW => ⟨rfl, by rw [hU], by rw [hU]; exact hM, va_K.moved hW.alike hK, fun q hq => hA q (Nat.le_trans hS.1 hq), zFx.warm hW hF, by rw [hU]; exact zStr.warm hW (hT.kept hS.2.1)⟩
  have hM1 := hC l D E A
  rw [show zSz (p, l, e, R, s, m, args, below, meth, c, D, E, A) + k = H.size from hz.symm] at hM1
  exact z_run (va_runSN (As := As) (rest := rest) (nL := nL) (own := yn.cls) (index := ix) (n := np) ⟨hx, hb, hml, hown, hts⟩ hM1 ⟨va_cnB (rm := zRm d' mc' ms') np hts (zgw_in hy) rfl rfl rfl (hw s hF) (hts _ hy.2.1) hy.2.2.1 ⟨Nat.le_trans hdd hR.1, hroom⟩, hts _ hw2, trivial⟩ ⟨zP_blind, hKu⟩ rfl hlen hl.1 hst (lv_room hcat) hd ⟨Nat.le_trans hk hR.2.2.1, Nat.le_trans hn hR.2.2.2⟩) hz hS (fun r M' H1 locs1 hq hM' hz' hS' => by
    obtain ⟨x, rfl, hq⟩ := hq
    exact kk x M' hq H1 ls locs1 hl hM' hz' hS')
theorem z_callINv {K : zK} {yn : MethodName} {cc : ByteArray} {nL : Nat} {ret : Option FieldType} {d mc ms : Nat} {B : zB} {Q : State → Prop} {pc : Nat} {L : List (Option Value)} {rest : List Value} {M : mM} {k n : Nat} {y' : MethodName} {cc' : ByteArray} {nL' np ix : Nat} {ret' : Option FieldType} {d' mc' ms' : Nat} {b : Nat} {As : List Value} {host : String} {P : mM → Prop} {stk : List Value} (ok : zOk K yn cc nL ret d mc ms B) (hd : decode cc pc = .ok (.invokespecial ix, 3)) (hy : zMeth y' cc' nL' ret' np) (hw : ∀ U, zFx U → va_Nw (.methodLinkNest yn.cls ix y' host) U) (hw2 : Cond.instanceMethod y' ∈ zgw) (hnm2 : y'.name = "<init>") (hret : ret' = none) (hC : zCt K y' cc' nL' ret' d' (.ref b :: As) M (zSz B + k) mc' ms' (zU P)) (hst : stk = As.reverse ++ .ref b :: rest) (hlen : As.length = np) (hdd : d' + 1 ≤ d) (hk : k + mc' ≤ mc) (hn : n + ms' ≤ ms) (hcat : (rest.map fun v => v.category).sum ≤ 8)
    (kk : ∀ (M' : mM), P M' → zV nL B Q (pc + 3) L rest M' (k + mc') (n + ms')) : zV nL B Q pc L stk M k n := by
  subst hret
  obtain ⟨p, l, e, R, s, m, args, below, meth, c, D, E, A⟩ := B
  obtain ⟨⟨hx, hb, hml, hr, hown⟩, hts, hlocks, hK, hA, hnm, hR, hF, hT⟩ := ok
  intro H ls locs hl hM hz hS
  have hroom : 8 + (nL' + 11) + 40 * d' ≤ R.locals := by
    have h1 := hy.2.2.2
    have h2 := hR.2.1
    omega
  have hKu : ∀ U : State, U.heap = H → s.WarmedH U.vm → zP K D E A (.ref b :: As) M H.size (.ref b :: As).toArray U := fun U hU hW => ⟨rfl, by rw [hU], by rw [hU]; exact hM, va_K.moved hW.alike hK, fun q hq => hA q (Nat.le_trans hS.1 hq), zFx.warm hW hF, by rw [hU]; exact zStr.warm hW (hT.kept hS.2.1)⟩
  have hM1 := hC l D E A
  rw [show zSz (p, l, e, R, s, m, args, below, meth, c, D, E, A) + k = H.size from hz.symm] at hM1
  exact z_run (va_runIN (As := As) (rest := rest) (nL := nL) (own := yn.cls) (index := ix) (n := np) ⟨hx, hb, hml, hown, hts⟩ hM1 ⟨va_cnB (rm := zRm d' mc' ms') np hts (zgw_in hy) rfl rfl rfl (hw s hF) (hts _ hy.2.1) hy.2.2.1 ⟨Nat.le_trans hdd hR.1, hroom⟩, hnm2, hts _ hw2⟩ ⟨zP_blind, hKu⟩ rfl hlen hl.1 hst (lv_room hcat) hd ⟨Nat.le_trans hk hR.2.2.1, Nat.le_trans hn hR.2.2.2⟩) hz hS (fun r M' H1 locs1 hq hM' hz' hS' => by
    obtain ⟨rfl, hq⟩ := hq
    exact kk M' hq H1 ls locs1 hl hM' hz' hS')
theorem z_objInit {K : zK} {yn : MethodName} {cc : ByteArray} {nL : Nat} {ret : Option FieldType} {d mc ms : Nat} {B : zB} {Q : State → Prop} {pc : Nat} {L : List (Option Value)} {rest : List Value} {M : mM} {k n : Nat} {ix a : Nat} (ok : zOk K yn cc nL ret d mc ms B) (hd : decode cc pc = .ok (.invokespecial ix, 3)) (hw : Cond.methodLink yn.cls ix objectInit ∈ zgw) (hw2 : Cond.instanceMethod objectInit ∈ zgw) (hw3 : Cond.code objectInit ⟨#[0xb1]⟩ 1 none ∈ zgw) (hd1 : 1 ≤ d) (hcat : (rest.map fun v => v.category).sum ≤ 8)
    (kk : zV nL B Q (pc + 3) L rest M k n) : zV nL B Q pc L (.ref a :: rest) M k n := by
  obtain ⟨p, l, e, R, s, m, args, below, meth, c, D, E, A⟩ := B
  obtain ⟨⟨hx, hb, hml, hr, hown⟩, hts, hlocks, hK, hA, hnm, hR, hF, hT⟩ := ok
  intro H ls locs hl hM hz hS
  refine W.objInit hx hb hown (hts _ hw) (hts _ hw2) (hts _ hw3) rfl (by rw [hml]; exact hl.1) rfl hd (Nat.le_trans hd1 hR.1) ?_ (kk H ls locs hl hM hz hS)
  have h2 := hR.2.1
  have h3 := lv_room (m := m) (pc := pc) (ls := ls) (rest := rest) hcat
  show 2 * 0 + _ + 12 ≤ _
  omega
theorem z_iret {K : zK} {yn : MethodName} {cc : ByteArray} {nL : Nat} {ret : Option FieldType} {d mc ms : Nat} {B : zB} {pc : Nat} {L : List (Option Value)} {M : mM} {k n : Nat} {P : Int32 → mM → Prop} {x : Int32} {ty : FieldType} (ok : zOk K yn cc nL ret d mc ms B) (hd : decode cc pc = .ok (.ireturn, 1)) (hrt : ret = some ty) (hnr : narrow ty (.int x) = .int x) (hk : k = mc) (hn : n ≤ ms) (hq : P x M) : zV nL B (zE B (zI P) mc ms) pc L [.int x] M k n := by
  obtain ⟨p, l, e, R, s, m, args, below, meth, c, D, E, A⟩ := B
  obtain ⟨⟨hx, hb, hml, hr, hown⟩, hts, hlocks, hK, hA, hnm, hR, hF, hT⟩ := ok
  intro H ls locs hl hM hz hS
  exact W.widen (k := mc) (n := ms) (Nat.le_of_eq hk) hn (W.zret (v := x) hx hb (hr.trans hrt) hnr (fun t ht hW => ⟨⟨_, M, rfl, ⟨x, rfl, hq⟩, by rw [ht, hz, hk], by rw [ht]; exact hM, va_K.moved hW.alike hK⟩, hS.F ht⟩) hS.2.2 hd)
theorem z_vret {K : zK} {yn : MethodName} {cc : ByteArray} {nL : Nat} {ret : Option FieldType} {d mc ms : Nat} {B : zB} {pc : Nat} {L : List (Option Value)} {M : mM} {k n : Nat} {P : mM → Prop} (ok : zOk K yn cc nL ret d mc ms B) (hd : decode cc pc = .ok (.return_, 1)) (hrt : ret = none) (hk : k = mc) (hn : n ≤ ms) (hq : P M) : zV nL B (zE B (zU P) mc ms) pc L [] M k n := by
  obtain ⟨p, l, e, R, s, m, args, below, meth, c, D, E, A⟩ := B
  obtain ⟨⟨hx, hb, hml, hr, hown⟩, hts, hlocks, hK, hA, hnm, hR, hF, hT⟩ := ok
  intro H ls locs hl hM hz hS
  exact W.widen (k := mc) (n := ms) (Nat.le_of_eq hk) hn (W.vret hx hb (hr.trans hrt) (fun t ht hW => ⟨⟨_, M, rfl, ⟨rfl, hq⟩, by rw [ht, hz, hk], by rw [ht]; exact hM, va_K.moved hW.alike hK⟩, hS.F ht⟩) hS.2.2 hd)
theorem z_aret {K : zK} {yn : MethodName} {cc : ByteArray} {nL : Nat} {ret : Option FieldType} {d mc ms : Nat} {B : zB} {pc : Nat} {L : List (Option Value)} {M : mM} {k n : Nat} {P : Value → mM → Prop} {v : Value} {ty : FieldType} (ok : zOk K yn cc nL ret d mc ms B) (hd : decode cc pc = .ok (.areturn, 1)) (hrt : ret = some ty) (hty : (∃ n, ty = .object n) ∨ ∃ t, ty = .array t) (hv : v = .null ∨ ∃ a, v = .ref a) (hk : k = mc) (hn : n ≤ ms) (hq : P v M) : zV nL B (zE B (zA P) mc ms) pc L [v] M k n := by
  obtain ⟨p, l, e, R, s, m, args, below, meth, c, D, E, A⟩ := B
  obtain ⟨⟨hx, hb, hml, hr, hown⟩, hts, hlocks, hK, hA, hnm, hR, hF, hT⟩ := ok
  intro H ls locs hl hM hz hS
  exact W.widen (k := mc) (n := ms) (Nat.le_of_eq hk) hn (W.aret (v := v) hx hb (hr.trans hrt) hty hv (fun t ht hW => ⟨⟨_, M, rfl, ⟨v, rfl, hq⟩, by rw [ht, hz, hk], by rw [ht]; exact hM, va_K.moved hW.alike hK⟩, hS.F ht⟩) hS.2.2 hd)
/-- fewer locals are listed from here on -/
theorem z_le {nL : Nat} {B : zB} {Q : State → Prop} {pc : Nat} {L L' : List (Option Value)} {stk : List Value} {M : mM} {k n : Nat} (h : zle L' L) (kk : zV nL B Q pc L' stk M k n) : zV nL B Q pc L stk M k n := by
  obtain ⟨p, l, e, R, s, m, args, below, meth, c, D, E, A⟩ := B
  intro H ls locs hl hM hz hS
  exact kk H ls locs (hl.le h) hM hz hS
/-- a contract says more than another -/
theorem zCt.mono {K : zK} {yn : MethodName} {cc : ByteArray} {nL : Nat} {ret : Option FieldType} {d : Nat} {av : List Value} {M : mM} {nx mc ms : Nat} {P Q : Option Value → mM → Prop} (h : zCt K yn cc nL ret d av M nx mc ms P) (hPQ : ∀ r M', P r M' → Q r M') : zCt K yn cc nL ret d av M nx mc ms Q := by
  intro l D E A
  exact MetFree.mono (h l D E A) (fun _ _ h => h) (fun _ _ _ _ _ h => h) (fun a st o t _ h => ⟨⟨by
    obtain ⟨r, M', h1, h2, h3⟩ := h.1.1
    exact ⟨r, M', h1, hPQ r M' h2, h3⟩, h.1.2⟩, h.2⟩)
end
