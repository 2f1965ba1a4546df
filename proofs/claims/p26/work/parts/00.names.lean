-- ===== PART A: goes FIRST, ahead of the names: the tables' words, and 'selects' of the private methods out of them =====
/-- a private method of a class that the tables say can be made, by its rows of tables_1 -/
def lw_okq (q : MethodName × Nat) : Prop := (q.1.cls ≠ "java/lang/invoke/MethodHandle" ∧ q.1.cls ≠ "java/lang/invoke/VarHandle") ∧ Cond.instantiable q.1.cls q.2 ∈ tables_1 ∧ Cond.privateMethod q.1 ∈ tables_1 ∧ Cond.instanceMethod q.1 ∈ tables_1
theorem lw_p0 : lw_okq (⟨"FreightSplits", "settingCount", "(I)I"⟩, 6) := ⟨⟨by decide +kernel, by decide +kernel⟩, List.mem_of_getElem? (i := 12) (by decide +kernel), List.mem_of_getElem? (i := 314) (by decide +kernel), List.mem_of_getElem? (i := 315) (by decide +kernel)⟩
theorem lw_p1 : lw_okq (⟨"FreightSplits", "changed", "(I)I"⟩, 6) := ⟨⟨by decide +kernel, by decide +kernel⟩, List.mem_of_getElem? (i := 12) (by decide +kernel), List.mem_of_getElem? (i := 373) (by decide +kernel), List.mem_of_getElem? (i := 374) (by decide +kernel)⟩
theorem lw_p2 : lw_okq (⟨"FreightSplits", "placeOf", "(LFreightSplits$Vehicle;)I"⟩, 6) := ⟨⟨by decide +kernel, by decide +kernel⟩, List.mem_of_getElem? (i := 12) (by decide +kernel), List.mem_of_getElem? (i := 615) (by decide +kernel), List.mem_of_getElem? (i := 616) (by decide +kernel)⟩
def lw_privs_1 : List (MethodName × Nat) := [(⟨"FreightSplits", "settingCount", "(I)I"⟩, 6), (⟨"FreightSplits", "changed", "(I)I"⟩, 6), (⟨"FreightSplits", "placeOf", "(LFreightSplits$Vehicle;)I"⟩, 6)]
theorem lw_r1 : ∀ q ∈ lw_privs_1, lw_okq q := List.forall_mem_cons.mpr ⟨lw_p0, List.forall_mem_cons.mpr ⟨lw_p1, List.forall_mem_cons.mpr ⟨lw_p2, fun _ h => absurd h List.not_mem_nil⟩⟩⟩
def lw_privs : List (MethodName × Nat) := lw_privs_1
def lw_tbl : List Cond := k2_sels lw_privs ++ tables_1
theorem lw_privs_ok : ∀ q ∈ lw_privs, lw_okq q := lw_r1
/-! ===== BEGIN words of one list among another's, by their places ===== -/
theorem goodIn_r {big : List Cond} (ws : List Cond) (ps : List Nat) (hp : ws = ps.filterMap (fun i => big[i]?)) (h : ws.all goodWord = true) : GoodIn big ws := by
  intro w hw
  have h1 := List.all_eq_true.mp h w hw
  rw [hp] at hw
  obtain ⟨i, -, hi⟩ := List.mem_filterMap.mp hw
  have hm : w ∈ big := by first | exact List.mem_of_getElem? hi | exact List.getElem?_mem hi
  exact ⟨hm, good_of_word h1⟩
theorem goodIn_app {big a b : List Cond} (ha : GoodIn big a) (hb : GoodIn big b) : GoodIn big (a ++ b) := fun w h => (List.mem_append.mp h).elim (ha w) (hb w)
theorem goodIn_ca {big a b : List Cond} {c : Cond} (ha : GoodIn big (c :: a)) (hb : GoodIn big b) : GoodIn big (c :: (a ++ b)) := fun w h => (List.mem_cons.mp h).elim (fun e => ha w (List.mem_cons.mpr (Or.inl e))) (fun h => (List.mem_append.mp h).elim (fun h => ha w (List.mem_cons.mpr (Or.inr h))) (hb w))
theorem goodIn_sub {big ws : List Cond} (hm : ∀ w ∈ ws, w ∈ big) (h : ws.all goodWord = true) : GoodIn big ws := fun w hw => ⟨hm w hw, good_of_word (List.all_eq_true.mp h w hw)⟩
/-! ===== END ===== -/

/-! ===== BEGIN printed: names, fields, word lists, decode rows ===== -/
def RX0 : String := "FreightSplits$Consignment"
def TX0 : u_T := fun k => match k with
  | 0 => ("FreightSplits$Consignment", "number", "I", true)
  | 1 => ("FreightSplits$Consignment", "place", "I", false)
  | 2 => ("FreightSplits$Consignment", "size", "I", false)
  | 3 => ("FreightSplits$Consignment", "weight", "I", false)
  | 4 => ("FreightSplits$Consignment", "from", "I", false)
  | 5 => ("FreightSplits$Consignment", "to", "I", false)
  | 6 => ("FreightSplits$Consignment", "worth", "I", false)
  | 7 => ("FreightSplits$Consignment", "state", "I", false)
  | 8 => ("FreightSplits$Consignment", "since", "I", false)
  | 9 => ("FreightSplits$Consignment", "whole", "I", false)
  | 10 => ("FreightSplits$Consignment", "vehicle", "I", false)
  | 11 => ("FreightSplits$Consignment", "departed", "I", false)
  | _ => ("FreightSplits$Consignment", "delivered", "I", false)
def tyX0 : Nat → FieldType := fun k => match k with
  | 0 => .int
  | 1 => .int
  | 2 => .int
  | 3 => .int
  | 4 => .int
  | 5 => .int
  | 6 => .int
  | 7 => .int
  | 8 => .int
  | 9 => .int
  | 10 => .int
  | 11 => .int
  | _ => .int
abbrev wsX00 : List Cond := u_ws RX0 TX0 13
theorem nmX0 : ∀ a, a < 13 → ∀ b, b < 13 → a ≠ b → (TX0 a).2.1 ≠ (TX0 b).2.1 := by decide +kernel
theorem tyX0_ok : ∀ k, k < 13 → parseFieldDescriptor (TX0 k).2.2.1 = some (tyX0 k) := by decide +kernel
abbrev cX0_init : ByteArray := prog_2_method_1_code
def yX0_init : MethodName := ⟨RX0, "<init>", "(I)V"⟩
abbrev cX0_copyFrom : ByteArray := prog_2_method_2_code
def yX0_copyFrom : MethodName := ⟨RX0, "copyFrom", "(LFreightSplits$Consignment;)V"⟩
abbrev cX0_copyFreight : ByteArray := prog_2_method_3_code
def yX0_copyFreight : MethodName := ⟨RX0, "copyFreight", "(LFreightSplits$Consignment;)V"⟩
abbrev cX0_startInHall : ByteArray := prog_2_method_4_code
def yX0_startInHall : MethodName := ⟨RX0, "startInHall", "()V"⟩
abbrev cX0_isInHall : ByteArray := prog_2_method_5_code
def yX0_isInHall : MethodName := ⟨RX0, "isInHall", "()Z"⟩
abbrev cX0_isIn : ByteArray := prog_2_method_6_code
def yX0_isIn : MethodName := ⟨RX0, "isIn", "(LFreightSplits$Vehicle;)Z"⟩
abbrev cX0_comesAheadOf : ByteArray := prog_2_method_7_code
def yX0_comesAheadOf : MethodName := ⟨RX0, "comesAheadOf", "(LFreightSplits$Consignment;I)Z"⟩
def RX1 : String := "FreightSplits$Hall"
def TX1 : u_T := fun k => match k with
  | 0 => ("FreightSplits$Hall", "consignments", "[LFreightSplits$Consignment;", true)
  | 1 => ("FreightSplits$Hall", "vehicles", "[LFreightSplits$Vehicle;", true)
  | 2 => ("FreightSplits$Hall", "offers", "[LFreightSplits$Offer;", true)
  | 3 => ("FreightSplits$Hall", "settings", "[I", true)
  | 4 => ("FreightSplits$Hall", "made", "I", false)
  | 5 => ("FreightSplits$Hall", "vehicleCount", "I", false)
  | 6 => ("FreightSplits$Hall", "offerCount", "I", false)
  | 7 => ("FreightSplits$Hall", "time", "I", false)
  | 8 => ("FreightSplits$Hall", "earned", "I", false)
  | 9 => ("FreightSplits$Hall", "offersEarned", "I", false)
  | 10 => ("FreightSplits$Hall", "feesPaid", "I", false)
  | _ => ("FreightSplits$Hall", "earlyPaid", "I", false)
def tyX1 : Nat → FieldType := fun k => match k with
  | 0 => .array (.object "FreightSplits$Consignment")
  | 1 => .array (.object "FreightSplits$Vehicle")
  | 2 => .array (.object "FreightSplits$Offer")
  | 3 => .array .int
  | 4 => .int
  | 5 => .int
  | 6 => .int
  | 7 => .int
  | 8 => .int
  | 9 => .int
  | 10 => .int
  | _ => .int
abbrev wsX10 : List Cond := u_ws RX1 TX1 12
theorem nmX1 : ∀ a, a < 12 → ∀ b, b < 12 → a ≠ b → (TX1 a).2.1 ≠ (TX1 b).2.1 := by decide +kernel
theorem tyX1_ok : ∀ k, k < 12 → parseFieldDescriptor (TX1 k).2.2.1 = some (tyX1 k) := by decide +kernel
abbrev cX1_init : ByteArray := prog_3_method_1_code
def yX1_init : MethodName := ⟨RX1, "<init>", "()V"⟩
abbrev cX1_copyFrom : ByteArray := prog_3_method_2_code
def yX1_copyFrom : MethodName := ⟨RX1, "copyFrom", "(LFreightSplits$Hall;)V"⟩
abbrev cX1_consignmentAt : ByteArray := prog_3_method_3_code
def yX1_consignmentAt : MethodName := ⟨RX1, "consignmentAt", "(I)LFreightSplits$Consignment;"⟩
abbrev cX1_vehicleAt : ByteArray := prog_3_method_4_code
def yX1_vehicleAt : MethodName := ⟨RX1, "vehicleAt", "(I)LFreightSplits$Vehicle;"⟩
abbrev cX1_makeConsignment : ByteArray := prog_3_method_5_code
def yX1_makeConsignment : MethodName := ⟨RX1, "makeConsignment", "(IIIIII)I"⟩
abbrev cX1_splitOff : ByteArray := prog_3_method_6_code
def yX1_splitOff : MethodName := ⟨RX1, "splitOff", "(III)I"⟩
abbrev cX1_joinParts : ByteArray := prog_3_method_7_code
def yX1_joinParts : MethodName := ⟨RX1, "joinParts", "(II)I"⟩
abbrev cX1_addVehicle : ByteArray := prog_3_method_8_code
def yX1_addVehicle : MethodName := ⟨RX1, "addVehicle", "(II)I"⟩
abbrev cX1_putInto : ByteArray := prog_3_method_9_code
def yX1_putInto : MethodName := ⟨RX1, "putInto", "(II)I"⟩
abbrev cX1_takeOut : ByteArray := prog_3_method_10_code
def yX1_takeOut : MethodName := ⟨RX1, "takeOut", "(I)I"⟩
abbrev cX1_loadByRule : ByteArray := prog_3_method_11_code
def yX1_loadByRule : MethodName := ⟨RX1, "loadByRule", "(III)I"⟩
abbrev cX1_nextByRule : ByteArray := prog_3_method_12_code
def yX1_nextByRule : MethodName := ⟨RX1, "nextByRule", "(III)LFreightSplits$Consignment;"⟩
abbrev cX1_sendOff : ByteArray := prog_3_method_13_code
def yX1_sendOff : MethodName := ⟨RX1, "sendOff", "(I)I"⟩
abbrev cX1_makeOffer : ByteArray := prog_3_method_14_code
def yX1_makeOffer : MethodName := ⟨RX1, "makeOffer", "(IIIII)I"⟩
abbrev cX1_letPass : ByteArray := prog_3_method_15_code
def yX1_letPass : MethodName := ⟨RX1, "letPass", "(I)I"⟩
abbrev cX1_changeSetting : ByteArray := prog_3_method_16_code
def yX1_changeSetting : MethodName := ⟨RX1, "changeSetting", "(II)I"⟩
abbrev cX1_leastOfSetting : ByteArray := prog_3_method_17_code
def yX1_leastOfSetting : MethodName := ⟨RX1, "leastOfSetting", "(I)I"⟩
abbrev cX1_mostOfSetting : ByteArray := prog_3_method_18_code
def yX1_mostOfSetting : MethodName := ⟨RX1, "mostOfSetting", "(I)I"⟩
abbrev cX1_moveVehicles : ByteArray := prog_3_method_19_code
def yX1_moveVehicles : MethodName := ⟨RX1, "moveVehicles", "()I"⟩
abbrev cX1_deliverLoad : ByteArray := prog_3_method_20_code
def yX1_deliverLoad : MethodName := ⟨RX1, "deliverLoad", "(LFreightSplits$Vehicle;)I"⟩
abbrev cX1_takeOffers : ByteArray := prog_3_method_21_code
def yX1_takeOffers : MethodName := ⟨RX1, "takeOffers", "(LFreightSplits$Vehicle;)V"⟩
abbrev cX1_bestOffer : ByteArray := prog_3_method_22_code
def yX1_bestOffer : MethodName := ⟨RX1, "bestOffer", "(III)I"⟩
abbrev cX1_comeBack : ByteArray := prog_3_method_23_code
def yX1_comeBack : MethodName := ⟨RX1, "comeBack", "(LFreightSplits$Vehicle;)V"⟩
abbrev cX1_dropOldOffers : ByteArray := prog_3_method_24_code
def yX1_dropOldOffers : MethodName := ⟨RX1, "dropOldOffers", "()V"⟩
abbrev cX1_removeOffer : ByteArray := prog_3_method_25_code
def yX1_removeOffer : MethodName := ⟨RX1, "removeOffer", "(I)V"⟩
abbrev cX1_payFees : ByteArray := prog_3_method_26_code
def yX1_payFees : MethodName := ⟨RX1, "payFees", "()V"⟩
abbrev cX1_canTake : ByteArray := prog_3_method_27_code
def yX1_canTake : MethodName := ⟨RX1, "canTake", "(LFreightSplits$Vehicle;LFreightSplits$Consignment;)Z"⟩
abbrev cX1_loadSize : ByteArray := prog_3_method_28_code
def yX1_loadSize : MethodName := ⟨RX1, "loadSize", "(LFreightSplits$Vehicle;)I"⟩
abbrev cX1_loadWeight : ByteArray := prog_3_method_29_code
def yX1_loadWeight : MethodName := ⟨RX1, "loadWeight", "(LFreightSplits$Vehicle;)I"⟩
abbrev cX1_loadSet : ByteArray := prog_3_method_30_code
def yX1_loadSet : MethodName := ⟨RX1, "loadSet", "(LFreightSplits$Vehicle;)I"⟩
abbrev cX1_loadPlace : ByteArray := prog_3_method_31_code
def yX1_loadPlace : MethodName := ⟨RX1, "loadPlace", "(LFreightSplits$Vehicle;)I"⟩
abbrev cX1_partsOf : ByteArray := prog_3_method_32_code
def yX1_partsOf : MethodName := ⟨RX1, "partsOf", "(I)I"⟩
abbrev cX1_hallSet : ByteArray := prog_3_method_33_code
def yX1_hallSet : MethodName := ⟨RX1, "hallSet", "()I"⟩
abbrev cX1_howManyAre : ByteArray := prog_3_method_35_code
def yX1_howManyAre : MethodName := ⟨RX1, "howManyAre", "(I)I"⟩
def RX2 : String := "FreightSplits$History"
def TX2 : u_T := fun k => match k with
  | 0 => ("FreightSplits$History", "states", "[LFreightSplits$Hall;", true)
  | 1 => ("FreightSplits$History", "oldest", "I", false)
  | _ => ("FreightSplits$History", "kept", "I", false)
def tyX2 : Nat → FieldType := fun k => match k with
  | 0 => .array (.object "FreightSplits$Hall")
  | 1 => .int
  | _ => .int
abbrev wsX20 : List Cond := u_ws RX2 TX2 3
theorem nmX2 : ∀ a, a < 3 → ∀ b, b < 3 → a ≠ b → (TX2 a).2.1 ≠ (TX2 b).2.1 := by decide +kernel
theorem tyX2_ok : ∀ k, k < 3 → parseFieldDescriptor (TX2 k).2.2.1 = some (tyX2 k) := by decide +kernel
abbrev cX2_init : ByteArray := prog_4_method_1_code
def yX2_init : MethodName := ⟨RX2, "<init>", "()V"⟩
abbrev cX2_prepare : ByteArray := prog_4_method_2_code
def yX2_prepare : MethodName := ⟨RX2, "prepare", "(LFreightSplits$Hall;)V"⟩
abbrev cX2_keep : ByteArray := prog_4_method_3_code
def yX2_keep : MethodName := ⟨RX2, "keep", "()V"⟩
def RX3 : String := "FreightSplits$Offer"
def TX3 : u_T := fun k => match k with
  | 0 => ("FreightSplits$Offer", "place", "I", false)
  | 1 => ("FreightSplits$Offer", "size", "I", false)
  | 2 => ("FreightSplits$Offer", "weight", "I", false)
  | 3 => ("FreightSplits$Offer", "price", "I", false)
  | _ => ("FreightSplits$Offer", "until", "I", false)
def tyX3 : Nat → FieldType := fun k => match k with
  | 0 => .int
  | 1 => .int
  | 2 => .int
  | 3 => .int
  | _ => .int
abbrev wsX30 : List Cond := u_ws RX3 TX3 5
theorem nmX3 : ∀ a, a < 5 → ∀ b, b < 5 → a ≠ b → (TX3 a).2.1 ≠ (TX3 b).2.1 := by decide +kernel
theorem tyX3_ok : ∀ k, k < 5 → parseFieldDescriptor (TX3 k).2.2.1 = some (tyX3 k) := by decide +kernel
abbrev cX3_init : ByteArray := prog_5_method_1_code
def yX3_init : MethodName := ⟨RX3, "<init>", "()V"⟩
abbrev cX3_copyFrom : ByteArray := prog_5_method_2_code
def yX3_copyFrom : MethodName := ⟨RX3, "copyFrom", "(LFreightSplits$Offer;)V"⟩
def RX4 : String := "FreightSplits$Script"
def TX4 : u_T := fun k => match k with
  | 0 => ("FreightSplits$Script", "characters", "[C", true)
  | 1 => ("FreightSplits$Script", "numbers", "[I", true)
  | 2 => ("FreightSplits$Script", "length", "I", false)
  | 3 => ("FreightSplits$Script", "verb", "I", false)
  | _ => ("FreightSplits$Script", "next", "I", false)
def tyX4 : Nat → FieldType := fun k => match k with
  | 0 => .array .char
  | 1 => .array .int
  | 2 => .int
  | 3 => .int
  | _ => .int
abbrev wsX40 : List Cond := u_ws RX4 TX4 5
theorem nmX4 : ∀ a, a < 5 → ∀ b, b < 5 → a ≠ b → (TX4 a).2.1 ≠ (TX4 b).2.1 := by decide +kernel
theorem tyX4_ok : ∀ k, k < 5 → parseFieldDescriptor (TX4 k).2.2.1 = some (tyX4 k) := by decide +kernel
abbrev cX4_init : ByteArray := prog_6_method_1_code
def yX4_init : MethodName := ⟨RX4, "<init>", "()V"⟩
def RX5 : String := "FreightSplits$Vehicle"
def TX5 : u_T := fun k => match k with
  | 0 => ("FreightSplits$Vehicle", "number", "I", true)
  | 1 => ("FreightSplits$Vehicle", "room", "I", false)
  | 2 => ("FreightSplits$Vehicle", "bound", "I", false)
  | 3 => ("FreightSplits$Vehicle", "state", "I", false)
  | 4 => ("FreightSplits$Vehicle", "place", "I", false)
  | 5 => ("FreightSplits$Vehicle", "way", "I", false)
  | 6 => ("FreightSplits$Vehicle", "hour", "I", false)
  | 7 => ("FreightSplits$Vehicle", "brings", "I", false)
  | _ => ("FreightSplits$Vehicle", "trips", "I", false)
def tyX5 : Nat → FieldType := fun k => match k with
  | 0 => .int
  | 1 => .int
  | 2 => .int
  | 3 => .int
  | 4 => .int
  | 5 => .int
  | 6 => .int
  | 7 => .int
  | _ => .int
abbrev wsX50 : List Cond := u_ws RX5 TX5 9
theorem nmX5 : ∀ a, a < 9 → ∀ b, b < 9 → a ≠ b → (TX5 a).2.1 ≠ (TX5 b).2.1 := by decide +kernel
theorem tyX5_ok : ∀ k, k < 9 → parseFieldDescriptor (TX5 k).2.2.1 = some (tyX5 k) := by decide +kernel
abbrev cX5_init : ByteArray := prog_7_method_1_code
def yX5_init : MethodName := ⟨RX5, "<init>", "(I)V"⟩
abbrev cX5_copyFrom : ByteArray := prog_7_method_2_code
def yX5_copyFrom : MethodName := ⟨RX5, "copyFrom", "(LFreightSplits$Vehicle;)V"⟩
def RX6 : String := "FreightSplits"
def TX6 : u_T := fun k => match k with
  | 0 => ("FreightSplits", "hall", "LFreightSplits$Hall;", true)
  | 1 => ("FreightSplits", "trial", "LFreightSplits$Hall;", true)
  | 2 => ("FreightSplits", "history", "LFreightSplits$History;", true)
  | 3 => ("FreightSplits", "script", "LFreightSplits$Script;", true)
  | 4 => ("FreightSplits", "faultPosition", "I", false)
  | _ => ("FreightSplits", "faultReason", "I", false)
def tyX6 : Nat → FieldType := fun k => match k with
  | 0 => .object "FreightSplits$Hall"
  | 1 => .object "FreightSplits$Hall"
  | 2 => .object "FreightSplits$History"
  | 3 => .object "FreightSplits$Script"
  | 4 => .int
  | _ => .int
abbrev wsX60 : List Cond := u_ws RX6 TX6 6
theorem nmX6 : ∀ a, a < 6 → ∀ b, b < 6 → a ≠ b → (TX6 a).2.1 ≠ (TX6 b).2.1 := by decide +kernel
theorem tyX6_ok : ∀ k, k < 6 → parseFieldDescriptor (TX6 k).2.2.1 = some (tyX6 k) := by decide +kernel
abbrev cX6_init : ByteArray := prog_1_method_1_code
def yX6_init : MethodName := ⟨RX6, "<init>", "()V"⟩
abbrev cX6_consign : ByteArray := prog_1_method_2_code
def yX6_consign : MethodName := ⟨RX6, "consign", "(IIIIII)I"⟩
abbrev cX6_split : ByteArray := prog_1_method_3_code
def yX6_split : MethodName := ⟨RX6, "split", "(III)I"⟩
abbrev cX6_join : ByteArray := prog_1_method_4_code
def yX6_join : MethodName := ⟨RX6, "join", "(II)I"⟩
abbrev cX6_vehicle : ByteArray := prog_1_method_5_code
def yX6_vehicle : MethodName := ⟨RX6, "vehicle", "(II)I"⟩
abbrev cX6_load : ByteArray := prog_1_method_6_code
def yX6_load : MethodName := ⟨RX6, "load", "(II)I"⟩
abbrev cX6_unload : ByteArray := prog_1_method_7_code
def yX6_unload : MethodName := ⟨RX6, "unload", "(I)I"⟩
abbrev cX6_fill : ByteArray := prog_1_method_8_code
def yX6_fill : MethodName := ⟨RX6, "fill", "(III)I"⟩
abbrev cX6_depart : ByteArray := prog_1_method_9_code
def yX6_depart : MethodName := ⟨RX6, "depart", "(I)I"⟩
abbrev cX6_offer : ByteArray := prog_1_method_10_code
def yX6_offer : MethodName := ⟨RX6, "offer", "(IIIII)I"⟩
abbrev cX6_pass : ByteArray := prog_1_method_11_code
def yX6_pass : MethodName := ⟨RX6, "pass", "(I)I"⟩
abbrev cX6_set : ByteArray := prog_1_method_12_code
def yX6_set : MethodName := ⟨RX6, "set", "(II)I"⟩
abbrev cX6_consignmentOf : ByteArray := prog_1_method_13_code
def yX6_consignmentOf : MethodName := ⟨RX6, "consignmentOf", "(II)I"⟩
abbrev cX6_vehicleOf : ByteArray := prog_1_method_14_code
def yX6_vehicleOf : MethodName := ⟨RX6, "vehicleOf", "(II)I"⟩
abbrev cX6_offerOf : ByteArray := prog_1_method_15_code
def yX6_offerOf : MethodName := ⟨RX6, "offerOf", "(II)I"⟩
abbrev cX6_count : ByteArray := prog_1_method_16_code
def yX6_count : MethodName := ⟨RX6, "count", "(I)I"⟩
abbrev cX6_isWithin : ByteArray := prog_1_method_25_code
def yX6_isWithin : MethodName := ⟨RX6, "isWithin", "(III)Z"⟩
abbrev cX6_changed : ByteArray := prog_1_method_26_code
def yX6_changed : MethodName := ⟨RX6, "changed", "(I)I"⟩
abbrev cX6_placeOf : ByteArray := prog_1_method_27_code
def yX6_placeOf : MethodName := ⟨RX6, "placeOf", "(LFreightSplits$Vehicle;)I"⟩
abbrev cX6_settingCount : ByteArray := prog_1_method_28_code
def yX6_settingCount : MethodName := ⟨RX6, "settingCount", "(I)I"⟩
def RX7 : String := "FreightSplitsModel"
def TX7 : u_T := fun k => match k with
  | _ => ("", "", "", false)
def tyX7 : Nat → FieldType := fun k => match k with
  | _ => .int
abbrev wsX70 : List Cond := u_ws RX7 TX7 0
theorem nmX7 : ∀ a, a < 0 → ∀ b, b < 0 → a ≠ b → (TX7 a).2.1 ≠ (TX7 b).2.1 := by decide +kernel
theorem tyX7_ok : ∀ k, k < 0 → parseFieldDescriptor (TX7 k).2.2.1 = some (tyX7 k) := by decide +kernel
def RJ6 : String := "java/lang/Integer"
def TJ6 : u_T := fun k => match k with
  | _ => ("", "", "", false)
def tyJ6 : Nat → FieldType := fun k => match k with
  | _ => .int
abbrev wsJ60 : List Cond := u_ws RJ6 TJ6 0
theorem nmJ6 : ∀ a, a < 0 → ∀ b, b < 0 → a ≠ b → (TJ6 a).2.1 ≠ (TJ6 b).2.1 := by decide +kernel
theorem tyJ6_ok : ∀ k, k < 0 → parseFieldDescriptor (TJ6 k).2.2.1 = some (tyJ6 k) := by decide +kernel
abbrev cJ6_bitCount_0f7a4 : ByteArray := prog_10_method_49_code
def yJ6_bitCount_0f7a4 : MethodName := ⟨RJ6, "bitCount", "(I)I"⟩
def RJ9 : String := "java/lang/Math"
def TJ9 : u_T := fun k => match k with
  | _ => ("", "", "", false)
def tyJ9 : Nat → FieldType := fun k => match k with
  | _ => .int
abbrev wsJ90 : List Cond := u_ws RJ9 TJ9 0
theorem nmJ9 : ∀ a, a < 0 → ∀ b, b < 0 → a ≠ b → (TJ9 a).2.1 ≠ (TJ9 b).2.1 := by decide +kernel
theorem tyJ9_ok : ∀ k, k < 0 → parseFieldDescriptor (TJ9 k).2.2.1 = some (tyJ9 k) := by decide +kernel
abbrev cJ9_max_7cf53 : ByteArray := prog_11_method_65_code
def yJ9_max_7cf53 : MethodName := ⟨RJ9, "max", "(II)I"⟩
abbrev cJ9_min_7cf53 : ByteArray := prog_11_method_69_code
def yJ9_min_7cf53 : MethodName := ⟨RJ9, "min", "(II)I"⟩
def RJ10 : String := "java/lang/System"
def TJ10 : u_T := fun k => match k with
  | _ => ("", "", "", false)
def tyJ10 : Nat → FieldType := fun k => match k with
  | _ => .int
abbrev wsJ100 : List Cond := u_ws RJ10 TJ10 0
theorem nmJ10 : ∀ a, a < 0 → ∀ b, b < 0 → a ≠ b → (TJ10 a).2.1 ≠ (TJ10 b).2.1 := by decide +kernel
theorem tyJ10_ok : ∀ k, k < 0 → parseFieldDescriptor (TJ10 k).2.2.1 = some (tyJ10 k) := by decide +kernel
def RL : String := "FreightSplitsLaw"
abbrev cL_cell : ByteArray := method_2_code
def yL_cell : MethodName := ⟨RL, "cell", "([II)I"⟩
abbrev cL_low : ByteArray := method_3_code
def yL_low : MethodName := ⟨RL, "low", "(II)I"⟩
abbrev cL_is : ByteArray := method_4_code
def yL_is : MethodName := ⟨RL, "is", "([I[II)Z"⟩
abbrev cL_load : ByteArray := method_5_code
def yL_load : MethodName := ⟨RL, "load", "([I[I[III)I"⟩
abbrev cL_goal : ByteArray := method_6_code
def yL_goal : MethodName := ⟨RL, "goal", "([I[I[I[II)I"⟩
abbrev cL_fits : ByteArray := method_7_code
def yL_fits : MethodName := ⟨RL, "fits", "([I[I[I[III)Z"⟩
abbrev cL_put : ByteArray := method_8_code
def yL_put : MethodName := ⟨RL, "put", "([III)V"⟩
abbrev cL_fill : ByteArray := method_9_code
def yL_fill : MethodName := ⟨RL, "fill", "([I[I[I[IIII)I"⟩
abbrev cL_offers : ByteArray := method_10_code
def yL_offers : MethodName := ⟨RL, "offers", "([I[I[IIII)I"⟩
abbrev cL_away : ByteArray := method_11_code
def yL_away : MethodName := ⟨RL, "away", "([I[II)V"⟩
abbrev cL_hour : ByteArray := method_12_code
def yL_hour : MethodName := ⟨RL, "hour", "([I[I[I[I[I[I)I"⟩
abbrev cL_makes : ByteArray := method_13_code
def yL_makes : MethodName := ⟨RL, "makes", "([I[I[I[IIIII)I"⟩
abbrev cL_some : ByteArray := method_14_code
def yL_some : MethodName := ⟨RL, "some", "([I[III)I"⟩
abbrev cL_goods : ByteArray := method_15_code
def yL_goods : MethodName := ⟨RL, "goods", "(LFreightSplits;[I[I[I[III)Z"⟩
abbrev cL_acts : ByteArray := method_16_code
def yL_acts : MethodName := ⟨RL, "acts", "(LFreightSplits;[I[I[I[I[I[II)Z"⟩
abbrev cL_areGoods : ByteArray := method_17_code
def yL_areGoods : MethodName := ⟨RL, "areGoods", "(LFreightSplits;[I[I[I[I)Z"⟩
abbrev cL_isSo : ByteArray := method_18_code
def yL_isSo : MethodName := ⟨RL, "isSo", "(LFreightSplits;[I[I[I[I[I[I)Z"⟩
abbrev cL_law : ByteArray := code
def yL_law : MethodName := ⟨RL, "law", "([I)Z"⟩
abbrev vwCl : List vw_C := [(RX0, TX0, 13), (RX1, TX1, 12), (RX2, TX2, 3), (RX3, TX3, 5), (RX4, TX4, 5), (RX5, TX5, 9), (RX6, TX6, 6)]
