section
-- ===== PART A: goes FIRST, ahead of the names: the tables' words, and 'selects' of the private methods out of them =====
/-- a private method of a class that the tables say can be made, by its rows of tables_1 -/
def lw_okq (q : MethodName × Nat) : Prop := (q.1.cls ≠ "java/lang/invoke/MethodHandle" ∧ q.1.cls ≠ "java/lang/invoke/VarHandle") ∧ Cond.instantiable q.1.cls q.2 ∈ tables_1 ∧ Cond.privateMethod q.1 ∈ tables_1 ∧ Cond.instanceMethod q.1 ∈ tables_1
theorem lw_p0 : lw_okq (⟨"FreightSplits", "settingCount", "(I)I"⟩, 6) := ⟨⟨by decide +kernel, by decide +kernel⟩, List.mem_of_getElem? (i := 12) (by decide +kernel), List.mem_of_getElem? (i := 314) (by decide +kernel), List.mem_of_getElem? (i := 315) (by decide +kernel)⟩
theorem lw_p1 : lw_okq (⟨"FreightSplits", "changed", "(I)I"⟩, 6) := ⟨⟨by decide +kernel, by decide +kernel⟩, List.mem_of_getElem? (i := 12) (by decide +kernel), List.mem_of_getElem? (i := 373) (by decide +kernel), List.mem_of_getElem? (i := 374) (by decide +kernel)⟩
theorem lw_p2 : lw_okq (⟨"FreightSplits", "placeOf", "(LFreightSplits$Vehicle;)I"⟩, 6) := ⟨⟨by decide +kernel, by decide +kernel⟩, List.mem_of_getElem? (i := 12) (by decide +kernel), List.mem_of_getElem? (i := 615) (by decide +kernel), List.mem_of_getElem? (i := 616) (by decide +kernel)⟩
def lw_privs_1 : List (MethodName × Nat) := [(⟨"FreightSplits", "settingCount", "(I)I"⟩, 6), (⟨"FreightSplits", "changed", "(I)I"⟩, 6), (⟨"FreightSplits", "placeOf", "(LFreightSplits$Vehicle;)I"⟩, 6)]
theorem lw_r1 : ∀ q ∈ lw_privs_1, lw_okq q := List.forall_mem_cons.mpr ⟨lw_p0, List.forall_mem_cons.mpr ⟨lw_p1, List.forall_mem_cons.mpr ⟨lw_p2, fun _ h => absurd h List.not_mem_nil⟩⟩⟩
def lw_privs : List (MethodName × Nat) := lw_privs_1
def lw_tbl : List Cond := k2_sels lw_privs ++ tables_1
theorem lw_privs_ok : ∀ q ∈ lw_privs, lw_okq q := lw_r1
/-! ===== BEGIN words of one list among another's, by their places ===== -/
theorem goodIn_r {big : List Cond} (ws : List Cond) (ps : List Nat) (hp : ws = ps.filterMap (fun i => big[i]?)) (h : ws.all goodWord = true) : GoodIn big ws := by
  intro w hw
  have h1 := List.all_eq_true.mp h w hw
  rw [hp] at hw
  obtain ⟨i, -, hi⟩ := List.mem_filterMap.mp hw
  have hm : w ∈ big := by first | exact List.mem_of_getElem? hi | exact List.getElem?_mem hi
  exact ⟨hm, good_of_word h1⟩
theorem goodIn_app {big a b : List Cond} (ha : GoodIn big a) (hb : GoodIn big b) : GoodIn big (a ++ b) := fun w h => (List.mem_append.mp h).elim (ha w) (hb w)
theorem goodIn_ca {big a b : List Cond} {c : Cond} (ha : GoodIn big (c :: a)) (hb : GoodIn big b) : GoodIn big (c :: (a ++ b)) := fun w h => (List.mem_cons.mp h).elim (fun e => ha w (List.mem_cons.mpr (Or.inl e))) (fun h => (List.mem_append.mp h).elim (fun h => ha w (List.mem_cons.mpr (Or.inr h))) (hb w))
theorem goodIn_sub {big ws : List Cond} (hm : ∀ w ∈ ws, w ∈ big) (h : ws.all goodWord = true) : GoodIn big ws := fun w hw => ⟨hm w hw, good_of_word (List.all_eq_true.mp h w hw)⟩
/-! ===== END ===== -/

/-! ===== BEGIN printed: names, fields, word lists, decode rows ===== -/
def RX0 : String := "FreightSplits$Consignment"
def TX0 : u_T := fun k => match k with
  | 0 => ("FreightSplits$Consignment", "number", "I", true)
  | 1 => ("FreightSplits$Consignment", "place", "I", false)
  | 2 => ("FreightSplits$Consignment", "size", "I", false)
  | 3 => ("FreightSplits$Consignment", "weight", "I", false)
  | 4 => ("FreightSplits$Consignment", "from", "I", false)
  | 5 => ("FreightSplits$Consignment", "to", "I", false)
  | 6 => ("FreightSplits$Consignment", "worth", "I", false)
  | 7 => ("FreightSplits$Consignment", "state", "I", false)
  | 8 => ("FreightSplits$Consignment", "since", "I", false)
  | 9 => ("FreightSplits$Consignment", "whole", "I", false)
  | 10 => ("FreightSplits$Consignment", "vehicle", "I", false)
  | 11 => ("FreightSplits$Consignment", "departed", "I", false)
  | _ => ("FreightSplits$Consignment", "delivered", "I", false)
def tyX0 : Nat → FieldType := fun k => match k with
  | 0 => .int
  | 1 => .int
  | 2 => .int
  | 3 => .int
  | 4 => .int
  | 5 => .int
  | 6 => .int
  | 7 => .int
  | 8 => .int
  | 9 => .int
  | 10 => .int
  | 11 => .int
  | _ => .int
abbrev wsX00 : List Cond := u_ws RX0 TX0 13
theorem nmX0 : ∀ a, a < 13 → ∀ b, b < 13 → a ≠ b → (TX0 a).2.1 ≠ (TX0 b).2.1 := by decide +kernel
theorem tyX0_ok : ∀ k, k < 13 → parseFieldDescriptor (TX0 k).2.2.1 = some (tyX0 k) := by decide +kernel
abbrev cX0_init : ByteArray := prog_2_method_1_code
def yX0_init : MethodName := ⟨RX0, "<init>", "(I)V"⟩
abbrev cX0_copyFrom : ByteArray := prog_2_method_2_code
def yX0_copyFrom : MethodName := ⟨RX0, "copyFrom", "(LFreightSplits$Consignment;)V"⟩
abbrev cX0_copyFreight : ByteArray := prog_2_method_3_code
def yX0_copyFreight : MethodName := ⟨RX0, "copyFreight", "(LFreightSplits$Consignment;)V"⟩
abbrev cX0_startInHall : ByteArray := prog_2_method_4_code
def yX0_startInHall : MethodName := ⟨RX0, "startInHall", "()V"⟩
abbrev cX0_isInHall : ByteArray := prog_2_method_5_code
def yX0_isInHall : MethodName := ⟨RX0, "isInHall", "()Z"⟩
abbrev cX0_isIn : ByteArray := prog_2_method_6_code
def yX0_isIn : MethodName := ⟨RX0, "isIn", "(LFreightSplits$Vehicle;)Z"⟩
abbrev cX0_comesAheadOf : ByteArray := prog_2_method_7_code
def yX0_comesAheadOf : MethodName := ⟨RX0, "comesAheadOf", "(LFreightSplits$Consignment;I)Z"⟩
def RX1 : String := "FreightSplits$Hall"
def TX1 : u_T := fun k => match k with
  | 0 => ("FreightSplits$Hall", "consignments", "[LFreightSplits$Consignment;", true)
  | 1 => ("FreightSplits$Hall", "vehicles", "[LFreightSplits$Vehicle;", true)
  | 2 => ("FreightSplits$Hall", "offers", "[LFreightSplits$Offer;", true)
  | 3 => ("FreightSplits$Hall", "settings", "[I", true)
  | 4 => ("FreightSplits$Hall", "made", "I", false)
  | 5 => ("FreightSplits$Hall", "vehicleCount", "I", false)
  | 6 => ("FreightSplits$Hall", "offerCount", "I", false)
  | 7 => ("FreightSplits$Hall", "time", "I", false)
  | 8 => ("FreightSplits$Hall", "earned", "I", false)
  | 9 => ("FreightSplits$Hall", "offersEarned", "I", false)
  | 10 => ("FreightSplits$Hall", "feesPaid", "I", false)
  | _ => ("FreightSplits$Hall", "earlyPaid", "I", false)
def tyX1 : Nat → FieldType := fun k => match k with
  | 0 => .array (.object "FreightSplits$Consignment")
  | 1 => .array (.object "FreightSplits$Vehicle")
  | 2 => .array (.object "FreightSplits$Offer")
  | 3 => .array .int
  | 4 => .int
  | 5 => .int
  | 6 => .int
  | 7 => .int
  | 8 => .int
  | 9 => .int
  | 10 => .int
  | _ => .int
abbrev wsX10 : List Cond := u_ws RX1 TX1 12
theorem nmX1 : ∀ a, a < 12 → ∀ b, b < 12 → a ≠ b → (TX1 a).2.1 ≠ (TX1 b).2.1 := by decide +kernel
theorem tyX1_ok : ∀ k, k < 12 → parseFieldDescriptor (TX1 k).2.2.1 = some (tyX1 k) := by decide +kernel
abbrev cX1_init : ByteArray := prog_3_method_1_code
def yX1_init : MethodName := ⟨RX1, "<init>", "()V"⟩
abbrev cX1_copyFrom : ByteArray := prog_3_method_2_code
def yX1_copyFrom : MethodName := ⟨RX1, "copyFrom", "(LFreightSplits$Hall;)V"⟩
abbrev cX1_consignmentAt : ByteArray := prog_3_method_3_code
def yX1_consignmentAt : MethodName := ⟨RX1, "consignmentAt", "(I)LFreightSplits$Consignment;"⟩
abbrev cX1_vehicleAt : ByteArray := prog_3_method_4_code
def yX1_vehicleAt : MethodName := ⟨RX1, "vehicleAt", "(I)LFreightSplits$Vehicle;"⟩
abbrev cX1_makeConsignment : ByteArray := prog_3_method_5_code
def yX1_makeConsignment : MethodName := ⟨RX1, "makeConsignment", "(IIIIII)I"⟩
abbrev cX1_splitOff : ByteArray := prog_3_method_6_code
def yX1_splitOff : MethodName := ⟨RX1, "splitOff", "(III)I"⟩
abbrev cX1_joinParts : ByteArray := prog_3_method_7_code
def yX1_joinParts : MethodName := ⟨RX1, "joinParts", "(II)I"⟩
abbrev cX1_addVehicle : ByteArray := prog_3_method_8_code
def yX1_addVehicle : MethodName := ⟨RX1, "addVehicle", "(II)I"⟩
abbrev cX1_putInto : ByteArray := prog_3_method_9_code
def yX1_putInto : MethodName := ⟨RX1, "putInto", "(II)I"⟩
abbrev cX1_takeOut : ByteArray := prog_3_method_10_code
def yX1_takeOut : MethodName := ⟨RX1, "takeOut", "(I)I"⟩
abbrev cX1_loadByRule : ByteArray := prog_3_method_11_code
def yX1_loadByRule : MethodName := ⟨RX1, "loadByRule", "(III)I"⟩
abbrev cX1_nextByRule : ByteArray := prog_3_method_12_code
def yX1_nextByRule : MethodName := ⟨RX1, "nextByRule", "(III)LFreightSplits$Consignment;"⟩
abbrev cX1_sendOff : ByteArray := prog_3_method_13_code
def yX1_sendOff : MethodName := ⟨RX1, "sendOff", "(I)I"⟩
abbrev cX1_makeOffer : ByteArray := prog_3_method_14_code
def yX1_makeOffer : MethodName := ⟨RX1, "makeOffer", "(IIIII)I"⟩
abbrev cX1_letPass : ByteArray := prog_3_method_15_code
def yX1_letPass : MethodName := ⟨RX1, "letPass", "(I)I"⟩
abbrev cX1_changeSetting : ByteArray := prog_3_method_16_code
def yX1_changeSetting : MethodName := ⟨RX1, "changeSetting", "(II)I"⟩
abbrev cX1_leastOfSetting : ByteArray := prog_3_method_17_code
def yX1_leastOfSetting : MethodName := ⟨RX1, "leastOfSetting", "(I)I"⟩
abbrev cX1_mostOfSetting : ByteArray := prog_3_method_18_code
def yX1_mostOfSetting : MethodName := ⟨RX1, "mostOfSetting", "(I)I"⟩
abbrev cX1_moveVehicles : ByteArray := prog_3_method_19_code
def yX1_moveVehicles : MethodName := ⟨RX1, "moveVehicles", "()I"⟩
abbrev cX1_deliverLoad : ByteArray := prog_3_method_20_code
def yX1_deliverLoad : MethodName := ⟨RX1, "deliverLoad", "(LFreightSplits$Vehicle;)I"⟩
abbrev cX1_takeOffers : ByteArray := prog_3_method_21_code
def yX1_takeOffers : MethodName := ⟨RX1, "takeOffers", "(LFreightSplits$Vehicle;)V"⟩
abbrev cX1_bestOffer : ByteArray := prog_3_method_22_code
def yX1_bestOffer : MethodName := ⟨RX1, "bestOffer", "(III)I"⟩
abbrev cX1_comeBack : ByteArray := prog_3_method_23_code
def yX1_comeBack : MethodName := ⟨RX1, "comeBack", "(LFreightSplits$Vehicle;)V"⟩
abbrev cX1_dropOldOffers : ByteArray := prog_3_method_24_code
def yX1_dropOldOffers : MethodName := ⟨RX1, "dropOldOffers", "()V"⟩
abbrev cX1_removeOffer : ByteArray := prog_3_method_25_code
def yX1_removeOffer : MethodName := ⟨RX1, "removeOffer", "(I)V"⟩
abbrev cX1_payFees : ByteArray := prog_3_method_26_code
def yX1_payFees : MethodName := ⟨RX1, "payFees", "()V"⟩
abbrev cX1_canTake : ByteArray := prog_3_method_27_code
def yX1_canTake : MethodName := ⟨RX1, "canTake", "(LFreightSplits$Vehicle;LFreightSplits$Consignment;)Z"⟩
abbrev cX1_loadSize : ByteArray := prog_3_method_28_code
def yX1_loadSize : MethodName := ⟨RX1, "loadSize", "(LFreightSplits$Vehicle;)I"⟩
abbrev cX1_loadWeight : ByteArray := prog_3_method_29_code
def yX1_loadWeight : MethodName := ⟨RX1, "loadWeight", "(LFreightSplits$Vehicle;)I"⟩
abbrev cX1_loadSet : ByteArray := prog_3_method_30_code
def yX1_loadSet : MethodName := ⟨RX1, "loadSet", "(LFreightSplits$Vehicle;)I"⟩
abbrev cX1_loadPlace : ByteArray := prog_3_method_31_code
def yX1_loadPlace : MethodName := ⟨RX1, "loadPlace", "(LFreightSplits$Vehicle;)I"⟩
abbrev cX1_partsOf : ByteArray := prog_3_method_32_code
def yX1_partsOf : MethodName := ⟨RX1, "partsOf", "(I)I"⟩
abbrev cX1_hallSet : ByteArray := prog_3_method_33_code
def yX1_hallSet : MethodName := ⟨RX1, "hallSet", "()I"⟩
abbrev cX1_howManyAre : ByteArray := prog_3_method_35_code
def yX1_howManyAre : MethodName := ⟨RX1, "howManyAre", "(I)I"⟩
def RX2 : String := "FreightSplits$History"
def TX2 : u_T := fun k => match k with
  | 0 => ("FreightSplits$History", "states", "[LFreightSplits$Hall;", true)
  | 1 => ("FreightSplits$History", "oldest", "I", false)
  | _ => ("FreightSplits$History", "kept", "I", false)
def tyX2 : Nat → FieldType := fun k => match k with
  | 0 => .array (.object "FreightSplits$Hall")
  | 1 => .int
  | _ => .int
abbrev wsX20 : List Cond := u_ws RX2 TX2 3
theorem nmX2 : ∀ a, a < 3 → ∀ b, b < 3 → a ≠ b → (TX2 a).2.1 ≠ (TX2 b).2.1 := by decide +kernel
theorem tyX2_ok : ∀ k, k < 3 → parseFieldDescriptor (TX2 k).2.2.1 = some (tyX2 k) := by decide +kernel
abbrev cX2_init : ByteArray := prog_4_method_1_code
def yX2_init : MethodName := ⟨RX2, "<init>", "()V"⟩
abbrev cX2_prepare : ByteArray := prog_4_method_2_code
def yX2_prepare : MethodName := ⟨RX2, "prepare", "(LFreightSplits$Hall;)V"⟩
abbrev cX2_keep : ByteArray := prog_4_method_3_code
def yX2_keep : MethodName := ⟨RX2, "keep", "()V"⟩
def RX3 : String := "FreightSplits$Offer"
def TX3 : u_T := fun k => match k with
  | 0 => ("FreightSplits$Offer", "place", "I", false)
  | 1 => ("FreightSplits$Offer", "size", "I", false)
  | 2 => ("FreightSplits$Offer", "weight", "I", false)
  | 3 => ("FreightSplits$Offer", "price", "I", false)
  | _ => ("FreightSplits$Offer", "until", "I", false)
def tyX3 : Nat → FieldType := fun k => match k with
  | 0 => .int
  | 1 => .int
  | 2 => .int
  | 3 => .int
  | _ => .int
abbrev wsX30 : List Cond := u_ws RX3 TX3 5
theorem nmX3 : ∀ a, a < 5 → ∀ b, b < 5 → a ≠ b → (TX3 a).2.1 ≠ (TX3 b).2.1 := by decide +kernel
theorem tyX3_ok : ∀ k, k < 5 → parseFieldDescriptor (TX3 k).2.2.1 = some (tyX3 k) := by decide +kernel
abbrev cX3_init : ByteArray := prog_5_method_1_code
def yX3_init : MethodName := ⟨RX3, "<init>", "()V"⟩
abbrev cX3_copyFrom : ByteArray := prog_5_method_2_code
def yX3_copyFrom : MethodName := ⟨RX3, "copyFrom", "(LFreightSplits$Offer;)V"⟩
def RX4 : String := "FreightSplits$Script"
def TX4 : u_T := fun k => match k with
  | 0 => ("FreightSplits$Script", "characters", "[C", true)
  | 1 => ("FreightSplits$Script", "numbers", "[I", true)
  | 2 => ("FreightSplits$Script", "length", "I", false)
  | 3 => ("FreightSplits$Script", "verb", "I", false)
  | _ => ("FreightSplits$Script", "next", "I", false)
def tyX4 : Nat → FieldType := fun k => match k with
  | 0 => .array .char
  | 1 => .array .int
  | 2 => .int
  | 3 => .int
  | _ => .int
abbrev wsX40 : List Cond := u_ws RX4 TX4 5
theorem nmX4 : ∀ a, a < 5 → ∀ b, b < 5 → a ≠ b → (TX4 a).2.1 ≠ (TX4 b).2.1 := by decide +kernel
theorem tyX4_ok : ∀ k, k < 5 → parseFieldDescriptor (TX4 k).2.2.1 = some (tyX4 k) := by decide +kernel
abbrev cX4_init : ByteArray := prog_6_method_1_code
def yX4_init : MethodName := ⟨RX4, "<init>", "()V"⟩
def RX5 : String := "FreightSplits$Vehicle"
def TX5 : u_T := fun k => match k with
  | 0 => ("FreightSplits$Vehicle", "number", "I", true)
  | 1 => ("FreightSplits$Vehicle", "room", "I", false)
  | 2 => ("FreightSplits$Vehicle", "bound", "I", false)
  | 3 => ("FreightSplits$Vehicle", "state", "I", false)
  | 4 => ("FreightSplits$Vehicle", "place", "I", false)
  | 5 => ("FreightSplits$Vehicle", "way", "I", false)
  | 6 => ("FreightSplits$Vehicle", "hour", "I", false)
  | 7 => ("FreightSplits$Vehicle", "brings", "I", false)
  | _ => ("FreightSplits$Vehicle", "trips", "I", false)
def tyX5 : Nat → FieldType := fun k => match k with
  | 0 => .int
  | 1 => .int
  | 2 => .int
  | 3 => .int
  | 4 => .int
  | 5 => .int
  | 6 => .int
  | 7 => .int
  | _ => .int
abbrev wsX50 : List Cond := u_ws RX5 TX5 9
theorem nmX5 : ∀ a, a < 9 → ∀ b, b < 9 → a ≠ b → (TX5 a).2.1 ≠ (TX5 b).2.1 := by decide +kernel
theorem tyX5_ok : ∀ k, k < 9 → parseFieldDescriptor (TX5 k).2.2.1 = some (tyX5 k) := by decide +kernel
abbrev cX5_init : ByteArray := prog_7_method_1_code
def yX5_init : MethodName := ⟨RX5, "<init>", "(I)V"⟩
abbrev cX5_copyFrom : ByteArray := prog_7_method_2_code
def yX5_copyFrom : MethodName := ⟨RX5, "copyFrom", "(LFreightSplits$Vehicle;)V"⟩
def RX6 : String := "FreightSplits"
def TX6 : u_T := fun k => match k with
  | 0 => ("FreightSplits", "hall", "LFreightSplits$Hall;", true)
  | 1 => ("FreightSplits", "trial", "LFreightSplits$Hall;", true)
  | 2 => ("FreightSplits", "history", "LFreightSplits$History;", true)
  | 3 => ("FreightSplits", "script", "LFreightSplits$Script;", true)
  | 4 => ("FreightSplits", "faultPosition", "I", false)
  | _ => ("FreightSplits", "faultReason", "I", false)
def tyX6 : Nat → FieldType := fun k => match k with
  | 0 => .object "FreightSplits$Hall"
  | 1 => .object "FreightSplits$Hall"
  | 2 => .object "FreightSplits$History"
  | 3 => .object "FreightSplits$Script"
  | 4 => .int
  | _ => .int
abbrev wsX60 : List Cond := u_ws RX6 TX6 6
theorem nmX6 : ∀ a, a < 6 → ∀ b, b < 6 → a ≠ b → (TX6 a).2.1 ≠ (TX6 b).2.1 := by decide +kernel
theorem tyX6_ok : ∀ k, k < 6 → parseFieldDescriptor (TX6 k).2.2.1 = some (tyX6 k) := by decide +kernel
abbrev cX6_init : ByteArray := prog_1_method_1_code
def yX6_init : MethodName := ⟨RX6, "<init>", "()V"⟩
abbrev cX6_consign : ByteArray := prog_1_method_2_code
def yX6_consign : MethodName := ⟨RX6, "consign", "(IIIIII)I"⟩
abbrev cX6_split : ByteArray := prog_1_method_3_code
def yX6_split : MethodName := ⟨RX6, "split", "(III)I"⟩
abbrev cX6_join : ByteArray := prog_1_method_4_code
def yX6_join : MethodName := ⟨RX6, "join", "(II)I"⟩
abbrev cX6_vehicle : ByteArray := prog_1_method_5_code
def yX6_vehicle : MethodName := ⟨RX6, "vehicle", "(II)I"⟩
abbrev cX6_load : ByteArray := prog_1_method_6_code
def yX6_load : MethodName := ⟨RX6, "load", "(II)I"⟩
abbrev cX6_unload : ByteArray := prog_1_method_7_code
def yX6_unload : MethodName := ⟨RX6, "unload", "(I)I"⟩
abbrev cX6_fill : ByteArray := prog_1_method_8_code
def yX6_fill : MethodName := ⟨RX6, "fill", "(III)I"⟩
abbrev cX6_depart : ByteArray := prog_1_method_9_code
def yX6_depart : MethodName := ⟨RX6, "depart", "(I)I"⟩
abbrev cX6_offer : ByteArray := prog_1_method_10_code
def yX6_offer : MethodName := ⟨RX6, "offer", "(IIIII)I"⟩
abbrev cX6_pass : ByteArray := prog_1_method_11_code
def yX6_pass : MethodName := ⟨RX6, "pass", "(I)I"⟩
abbrev cX6_set : ByteArray := prog_1_method_12_code
def yX6_set : MethodName := ⟨RX6, "set", "(II)I"⟩
abbrev cX6_consignmentOf : ByteArray := prog_1_method_13_code
def yX6_consignmentOf : MethodName := ⟨RX6, "consignmentOf", "(II)I"⟩
abbrev cX6_vehicleOf : ByteArray := prog_1_method_14_code
def yX6_vehicleOf : MethodName := ⟨RX6, "vehicleOf", "(II)I"⟩
abbrev cX6_offerOf : ByteArray := prog_1_method_15_code
def yX6_offerOf : MethodName := ⟨RX6, "offerOf", "(II)I"⟩
abbrev cX6_count : ByteArray := prog_1_method_16_code
def yX6_count : MethodName := ⟨RX6, "count", "(I)I"⟩
abbrev cX6_isWithin : ByteArray := prog_1_method_25_code
def yX6_isWithin : MethodName := ⟨RX6, "isWithin", "(III)Z"⟩
abbrev cX6_changed : ByteArray := prog_1_method_26_code
def yX6_changed : MethodName := ⟨RX6, "changed", "(I)I"⟩
abbrev cX6_placeOf : ByteArray := prog_1_method_27_code
def yX6_placeOf : MethodName := ⟨RX6, "placeOf", "(LFreightSplits$Vehicle;)I"⟩
abbrev cX6_settingCount : ByteArray := prog_1_method_28_code
def yX6_settingCount : MethodName := ⟨RX6, "settingCount", "(I)I"⟩
def RX7 : String := "FreightSplitsModel"
def TX7 : u_T := fun k => match k with
  | _ => ("", "", "", false)
def tyX7 : Nat → FieldType := fun k => match k with
  | _ => .int
abbrev wsX70 : List Cond := u_ws RX7 TX7 0
theorem nmX7 : ∀ a, a < 0 → ∀ b, b < 0 → a ≠ b → (TX7 a).2.1 ≠ (TX7 b).2.1 := by decide +kernel
theorem tyX7_ok : ∀ k, k < 0 → parseFieldDescriptor (TX7 k).2.2.1 = some (tyX7 k) := by decide +kernel
def RJ6 : String := "java/lang/Integer"
def TJ6 : u_T := fun k => match k with
  | _ => ("", "", "", false)
def tyJ6 : Nat → FieldType := fun k => match k with
  | _ => .int
abbrev wsJ60 : List Cond := u_ws RJ6 TJ6 0
theorem nmJ6 : ∀ a, a < 0 → ∀ b, b < 0 → a ≠ b → (TJ6 a).2.1 ≠ (TJ6 b).2.1 := by decide +kernel
theorem tyJ6_ok : ∀ k, k < 0 → parseFieldDescriptor (TJ6 k).2.2.1 = some (tyJ6 k) := by decide +kernel
abbrev cJ6_bitCount_0f7a4 : ByteArray := prog_10_method_49_code
def yJ6_bitCount_0f7a4 : MethodName := ⟨RJ6, "bitCount", "(I)I"⟩
def RJ9 : String := "java/lang/Math"
def TJ9 : u_T := fun k => match k with
  | _ => ("", "", "", false)
def tyJ9 : Nat → FieldType := fun k => match k with
  | _ => .int
abbrev wsJ90 : List Cond := u_ws RJ9 TJ9 0
theorem nmJ9 : ∀ a, a < 0 → ∀ b, b < 0 → a ≠ b → (TJ9 a).2.1 ≠ (TJ9 b).2.1 := by decide +kernel
theorem tyJ9_ok : ∀ k, k < 0 → parseFieldDescriptor (TJ9 k).2.2.1 = some (tyJ9 k) := by decide +kernel
abbrev cJ9_max_7cf53 : ByteArray := prog_11_method_65_code
def yJ9_max_7cf53 : MethodName := ⟨RJ9, "max", "(II)I"⟩
abbrev cJ9_min_7cf53 : ByteArray := prog_11_method_69_code
def yJ9_min_7cf53 : MethodName := ⟨RJ9, "min", "(II)I"⟩
def RJ10 : String := "java/lang/System"
def TJ10 : u_T := fun k => match k with
  | _ => ("", "", "", false)
def tyJ10 : Nat → FieldType := fun k => match k with
  | _ => .int
abbrev wsJ100 : List Cond := u_ws RJ10 TJ10 0
theorem nmJ10 : ∀ a, a < 0 → ∀ b, b < 0 → a ≠ b → (TJ10 a).2.1 ≠ (TJ10 b).2.1 := by decide +kernel
theorem tyJ10_ok : ∀ k, k < 0 → parseFieldDescriptor (TJ10 k).2.2.1 = some (tyJ10 k) := by decide +kernel
def RL : String := "FreightSplitsLaw"
abbrev cL_cell : ByteArray := method_2_code
def yL_cell : MethodName := ⟨RL, "cell", "([II)I"⟩
abbrev cL_low : ByteArray := method_3_code
def yL_low : MethodName := ⟨RL, "low", "(II)I"⟩
abbrev cL_is : ByteArray := method_4_code
def yL_is : MethodName := ⟨RL, "is", "([I[II)Z"⟩
abbrev cL_load : ByteArray := method_5_code
def yL_load : MethodName := ⟨RL, "load", "([I[I[III)I"⟩
abbrev cL_goal : ByteArray := method_6_code
def yL_goal : MethodName := ⟨RL, "goal", "([I[I[I[II)I"⟩
abbrev cL_fits : ByteArray := method_7_code
def yL_fits : MethodName := ⟨RL, "fits", "([I[I[I[III)Z"⟩
abbrev cL_put : ByteArray := method_8_code
def yL_put : MethodName := ⟨RL, "put", "([III)V"⟩
abbrev cL_fill : ByteArray := method_9_code
def yL_fill : MethodName := ⟨RL, "fill", "([I[I[I[IIII)I"⟩
abbrev cL_offers : ByteArray := method_10_code
def yL_offers : MethodName := ⟨RL, "offers", "([I[I[IIII)I"⟩
abbrev cL_away : ByteArray := method_11_code
def yL_away : MethodName := ⟨RL, "away", "([I[II)V"⟩
abbrev cL_hour : ByteArray := method_12_code
def yL_hour : MethodName := ⟨RL, "hour", "([I[I[I[I[I[I)I"⟩
abbrev cL_makes : ByteArray := method_13_code
def yL_makes : MethodName := ⟨RL, "makes", "([I[I[I[IIIII)I"⟩
abbrev cL_some : ByteArray := method_14_code
def yL_some : MethodName := ⟨RL, "some", "([I[III)I"⟩
abbrev cL_goods : ByteArray := method_15_code
def yL_goods : MethodName := ⟨RL, "goods", "(LFreightSplits;[I[I[I[III)Z"⟩
abbrev cL_acts : ByteArray := method_16_code
def yL_acts : MethodName := ⟨RL, "acts", "(LFreightSplits;[I[I[I[I[I[II)Z"⟩
abbrev cL_areGoods : ByteArray := method_17_code
def yL_areGoods : MethodName := ⟨RL, "areGoods", "(LFreightSplits;[I[I[I[I)Z"⟩
abbrev cL_isSo : ByteArray := method_18_code
def yL_isSo : MethodName := ⟨RL, "isSo", "(LFreightSplits;[I[I[I[I[I[I)Z"⟩
abbrev cL_law : ByteArray := code
def yL_law : MethodName := ⟨RL, "law", "([I)Z"⟩
abbrev vwCl : List vw_C := [(RX0, TX0, 13), (RX1, TX1, 12), (RX2, TX2, 3), (RX3, TX3, 5), (RX4, TX4, 5), (RX5, TX5, 9), (RX6, TX6, 6)]
end
section
theorem dX0_init_0 : decode cX0_init 0 = .ok (.aload_n 0, 1) := by decide +kernel
theorem dX0_init_1 : decode cX0_init 1 = .ok (.invokespecial 3, 3) := by decide +kernel
theorem dX0_init_4 : decode cX0_init 4 = .ok (.aload_n 0, 1) := by decide +kernel
theorem dX0_init_5 : decode cX0_init 5 = .ok (.iload_n 1, 1) := by decide +kernel
theorem dX0_init_6 : decode cX0_init 6 = .ok (.putfield 9, 3) := by decide +kernel
theorem dX0_init_9 : decode cX0_init 9 = .ok (.return_, 1) := by decide +kernel
theorem dX0_copyFrom_0 : decode cX0_copyFrom 0 = .ok (.aload_n 0, 1) := by decide +kernel
theorem dX0_copyFrom_1 : decode cX0_copyFrom 1 = .ok (.aload_n 1, 1) := by decide +kernel
theorem dX0_copyFrom_2 : decode cX0_copyFrom 2 = .ok (.invokevirtual 15, 3) := by decide +kernel
theorem dX0_copyFrom_5 : decode cX0_copyFrom 5 = .ok (.aload_n 0, 1) := by decide +kernel
theorem dX0_copyFrom_6 : decode cX0_copyFrom 6 = .ok (.aload_n 1, 1) := by decide +kernel
theorem dX0_copyFrom_7 : decode cX0_copyFrom 7 = .ok (.getfield 19, 3) := by decide +kernel
theorem dX0_copyFrom_10 : decode cX0_copyFrom 10 = .ok (.putfield 19, 3) := by decide +kernel
theorem dX0_copyFrom_13 : decode cX0_copyFrom 13 = .ok (.aload_n 0, 1) := by decide +kernel
theorem dX0_copyFrom_14 : decode cX0_copyFrom 14 = .ok (.aload_n 1, 1) := by decide +kernel
theorem dX0_copyFrom_15 : decode cX0_copyFrom 15 = .ok (.getfield 22, 3) := by decide +kernel
theorem dX0_copyFrom_18 : decode cX0_copyFrom 18 = .ok (.putfield 22, 3) := by decide +kernel
theorem dX0_copyFrom_21 : decode cX0_copyFrom 21 = .ok (.aload_n 0, 1) := by decide +kernel
theorem dX0_copyFrom_22 : decode cX0_copyFrom 22 = .ok (.aload_n 1, 1) := by decide +kernel
theorem dX0_copyFrom_23 : decode cX0_copyFrom 23 = .ok (.getfield 25, 3) := by decide +kernel
theorem dX0_copyFrom_26 : decode cX0_copyFrom 26 = .ok (.putfield 25, 3) := by decide +kernel
theorem dX0_copyFrom_29 : decode cX0_copyFrom 29 = .ok (.aload_n 0, 1) := by decide +kernel
theorem dX0_copyFrom_30 : decode cX0_copyFrom 30 = .ok (.aload_n 1, 1) := by decide +kernel
theorem dX0_copyFrom_31 : decode cX0_copyFrom 31 = .ok (.getfield 28, 3) := by decide +kernel
theorem dX0_copyFrom_34 : decode cX0_copyFrom 34 = .ok (.putfield 28, 3) := by decide +kernel
theorem dX0_copyFrom_37 : decode cX0_copyFrom 37 = .ok (.return_, 1) := by decide +kernel
theorem dX0_copyFreight_0 : decode cX0_copyFreight 0 = .ok (.aload_n 0, 1) := by decide +kernel
theorem dX0_copyFreight_1 : decode cX0_copyFreight 1 = .ok (.aload_n 1, 1) := by decide +kernel
theorem dX0_copyFreight_2 : decode cX0_copyFreight 2 = .ok (.getfield 31, 3) := by decide +kernel
theorem dX0_copyFreight_5 : decode cX0_copyFreight 5 = .ok (.putfield 31, 3) := by decide +kernel
theorem dX0_copyFreight_8 : decode cX0_copyFreight 8 = .ok (.aload_n 0, 1) := by decide +kernel
theorem dX0_copyFreight_9 : decode cX0_copyFreight 9 = .ok (.aload_n 1, 1) := by decide +kernel
theorem dX0_copyFreight_10 : decode cX0_copyFreight 10 = .ok (.getfield 34, 3) := by decide +kernel
theorem dX0_copyFreight_13 : decode cX0_copyFreight 13 = .ok (.putfield 34, 3) := by decide +kernel
theorem dX0_copyFreight_16 : decode cX0_copyFreight 16 = .ok (.aload_n 0, 1) := by decide +kernel
theorem dX0_copyFreight_17 : decode cX0_copyFreight 17 = .ok (.aload_n 1, 1) := by decide +kernel
theorem dX0_copyFreight_18 : decode cX0_copyFreight 18 = .ok (.getfield 37, 3) := by decide +kernel
theorem dX0_copyFreight_21 : decode cX0_copyFreight 21 = .ok (.putfield 37, 3) := by decide +kernel
theorem dX0_copyFreight_24 : decode cX0_copyFreight 24 = .ok (.aload_n 0, 1) := by decide +kernel
theorem dX0_copyFreight_25 : decode cX0_copyFreight 25 = .ok (.aload_n 1, 1) := by decide +kernel
theorem dX0_copyFreight_26 : decode cX0_copyFreight 26 = .ok (.getfield 40, 3) := by decide +kernel
theorem dX0_copyFreight_29 : decode cX0_copyFreight 29 = .ok (.putfield 40, 3) := by decide +kernel
theorem dX0_copyFreight_32 : decode cX0_copyFreight 32 = .ok (.aload_n 0, 1) := by decide +kernel
theorem dX0_copyFreight_33 : decode cX0_copyFreight 33 = .ok (.aload_n 1, 1) := by decide +kernel
theorem dX0_copyFreight_34 : decode cX0_copyFreight 34 = .ok (.getfield 43, 3) := by decide +kernel
theorem dX0_copyFreight_37 : decode cX0_copyFreight 37 = .ok (.putfield 43, 3) := by decide +kernel
theorem dX0_copyFreight_40 : decode cX0_copyFreight 40 = .ok (.aload_n 0, 1) := by decide +kernel
theorem dX0_copyFreight_41 : decode cX0_copyFreight 41 = .ok (.aload_n 1, 1) := by decide +kernel
theorem dX0_copyFreight_42 : decode cX0_copyFreight 42 = .ok (.getfield 46, 3) := by decide +kernel
theorem dX0_copyFreight_45 : decode cX0_copyFreight 45 = .ok (.putfield 46, 3) := by decide +kernel
theorem dX0_copyFreight_48 : decode cX0_copyFreight 48 = .ok (.aload_n 0, 1) := by decide +kernel
theorem dX0_copyFreight_49 : decode cX0_copyFreight 49 = .ok (.aload_n 1, 1) := by decide +kernel
theorem dX0_copyFreight_50 : decode cX0_copyFreight 50 = .ok (.getfield 49, 3) := by decide +kernel
theorem dX0_copyFreight_53 : decode cX0_copyFreight 53 = .ok (.putfield 49, 3) := by decide +kernel
theorem dX0_copyFreight_56 : decode cX0_copyFreight 56 = .ok (.aload_n 0, 1) := by decide +kernel
theorem dX0_copyFreight_57 : decode cX0_copyFreight 57 = .ok (.aload_n 1, 1) := by decide +kernel
theorem dX0_copyFreight_58 : decode cX0_copyFreight 58 = .ok (.getfield 52, 3) := by decide +kernel
theorem dX0_copyFreight_61 : decode cX0_copyFreight 61 = .ok (.putfield 52, 3) := by decide +kernel
theorem dX0_copyFreight_64 : decode cX0_copyFreight 64 = .ok (.return_, 1) := by decide +kernel
theorem dX0_startInHall_0 : decode cX0_startInHall 0 = .ok (.aload_n 0, 1) := by decide +kernel
theorem dX0_startInHall_1 : decode cX0_startInHall 1 = .ok (.iconst 0, 1) := by decide +kernel
theorem dX0_startInHall_2 : decode cX0_startInHall 2 = .ok (.putfield 19, 3) := by decide +kernel
theorem dX0_startInHall_5 : decode cX0_startInHall 5 = .ok (.aload_n 0, 1) := by decide +kernel
theorem dX0_startInHall_6 : decode cX0_startInHall 6 = .ok (.iconst (-1), 1) := by decide +kernel
theorem dX0_startInHall_7 : decode cX0_startInHall 7 = .ok (.putfield 22, 3) := by decide +kernel
theorem dX0_startInHall_10 : decode cX0_startInHall 10 = .ok (.aload_n 0, 1) := by decide +kernel
theorem dX0_startInHall_11 : decode cX0_startInHall 11 = .ok (.iconst (-1), 1) := by decide +kernel
theorem dX0_startInHall_12 : decode cX0_startInHall 12 = .ok (.putfield 25, 3) := by decide +kernel
theorem dX0_startInHall_15 : decode cX0_startInHall 15 = .ok (.aload_n 0, 1) := by decide +kernel
theorem dX0_startInHall_16 : decode cX0_startInHall 16 = .ok (.iconst (-1), 1) := by decide +kernel
theorem dX0_startInHall_17 : decode cX0_startInHall 17 = .ok (.putfield 28, 3) := by decide +kernel
theorem dX0_startInHall_20 : decode cX0_startInHall 20 = .ok (.return_, 1) := by decide +kernel
theorem dX0_isInHall_0 : decode cX0_isInHall 0 = .ok (.aload_n 0, 1) := by decide +kernel
theorem dX0_isInHall_1 : decode cX0_isInHall 1 = .ok (.getfield 19, 3) := by decide +kernel
theorem dX0_isInHall_4 : decode cX0_isInHall 4 = .ok (.ifCond .eq 11, 3) := by decide +kernel
theorem dX0_isInHall_7 : decode cX0_isInHall 7 = .ok (.aload_n 0, 1) := by decide +kernel
theorem dX0_isInHall_8 : decode cX0_isInHall 8 = .ok (.getfield 19, 3) := by decide +kernel
theorem dX0_isInHall_11 : decode cX0_isInHall 11 = .ok (.iconst 1, 1) := by decide +kernel
theorem dX0_isInHall_12 : decode cX0_isInHall 12 = .ok (.if_icmp .ne 7, 3) := by decide +kernel
theorem dX0_isInHall_15 : decode cX0_isInHall 15 = .ok (.iconst 1, 1) := by decide +kernel
theorem dX0_isInHall_16 : decode cX0_isInHall 16 = .ok (.goto 4, 3) := by decide +kernel
theorem dX0_isInHall_19 : decode cX0_isInHall 19 = .ok (.iconst 0, 1) := by decide +kernel
theorem dX0_isInHall_20 : decode cX0_isInHall 20 = .ok (.ireturn, 1) := by decide +kernel
theorem dX0_isIn_0 : decode cX0_isIn 0 = .ok (.aload_n 0, 1) := by decide +kernel
theorem dX0_isIn_1 : decode cX0_isIn 1 = .ok (.getfield 22, 3) := by decide +kernel
theorem dX0_isIn_4 : decode cX0_isIn 4 = .ok (.aload_n 1, 1) := by decide +kernel
theorem dX0_isIn_5 : decode cX0_isIn 5 = .ok (.getfield 55, 3) := by decide +kernel
theorem dX0_isIn_8 : decode cX0_isIn 8 = .ok (.if_icmp .ne 23, 3) := by decide +kernel
theorem dX0_isIn_11 : decode cX0_isIn 11 = .ok (.aload_n 0, 1) := by decide +kernel
theorem dX0_isIn_12 : decode cX0_isIn 12 = .ok (.getfield 19, 3) := by decide +kernel
theorem dX0_isIn_15 : decode cX0_isIn 15 = .ok (.iconst 1, 1) := by decide +kernel
theorem dX0_isIn_16 : decode cX0_isIn 16 = .ok (.if_icmp .eq 11, 3) := by decide +kernel
theorem dX0_isIn_19 : decode cX0_isIn 19 = .ok (.aload_n 0, 1) := by decide +kernel
theorem dX0_isIn_20 : decode cX0_isIn 20 = .ok (.getfield 19, 3) := by decide +kernel
theorem dX0_isIn_23 : decode cX0_isIn 23 = .ok (.iconst 2, 1) := by decide +kernel
theorem dX0_isIn_24 : decode cX0_isIn 24 = .ok (.if_icmp .ne 7, 3) := by decide +kernel
theorem dX0_isIn_27 : decode cX0_isIn 27 = .ok (.iconst 1, 1) := by decide +kernel
theorem dX0_isIn_28 : decode cX0_isIn 28 = .ok (.goto 4, 3) := by decide +kernel
theorem dX0_isIn_31 : decode cX0_isIn 31 = .ok (.iconst 0, 1) := by decide +kernel
theorem dX0_isIn_32 : decode cX0_isIn 32 = .ok (.ireturn, 1) := by decide +kernel
theorem dX0_comesAheadOf_0 : decode cX0_comesAheadOf 0 = .ok (.iload_n 2, 1) := by decide +kernel
theorem dX0_comesAheadOf_1 : decode cX0_comesAheadOf 1 = .ok (.lookupswitch 61 #[(0, 27), (1, 44)], 27) := by decide +kernel
theorem dX0_comesAheadOf_28 : decode cX0_comesAheadOf 28 = .ok (.aload_n 0, 1) := by decide +kernel
theorem dX0_comesAheadOf_29 : decode cX0_comesAheadOf 29 = .ok (.getfield 43, 3) := by decide +kernel
theorem dX0_comesAheadOf_32 : decode cX0_comesAheadOf 32 = .ok (.aload_n 1, 1) := by decide +kernel
theorem dX0_comesAheadOf_33 : decode cX0_comesAheadOf 33 = .ok (.getfield 43, 3) := by decide +kernel
theorem dX0_comesAheadOf_36 : decode cX0_comesAheadOf 36 = .ok (.if_icmp .ge 7, 3) := by decide +kernel
theorem dX0_comesAheadOf_39 : decode cX0_comesAheadOf 39 = .ok (.iconst 1, 1) := by decide +kernel
theorem dX0_comesAheadOf_40 : decode cX0_comesAheadOf 40 = .ok (.goto 4, 3) := by decide +kernel
theorem dX0_comesAheadOf_43 : decode cX0_comesAheadOf 43 = .ok (.iconst 0, 1) := by decide +kernel
theorem dX0_comesAheadOf_44 : decode cX0_comesAheadOf 44 = .ok (.ireturn, 1) := by decide +kernel
theorem dX0_comesAheadOf_45 : decode cX0_comesAheadOf 45 = .ok (.aload_n 0, 1) := by decide +kernel
theorem dX0_comesAheadOf_46 : decode cX0_comesAheadOf 46 = .ok (.getfield 46, 3) := by decide +kernel
theorem dX0_comesAheadOf_49 : decode cX0_comesAheadOf 49 = .ok (.aload_n 1, 1) := by decide +kernel
theorem dX0_comesAheadOf_50 : decode cX0_comesAheadOf 50 = .ok (.getfield 46, 3) := by decide +kernel
theorem dX0_comesAheadOf_53 : decode cX0_comesAheadOf 53 = .ok (.if_icmp .le 7, 3) := by decide +kernel
theorem dX0_comesAheadOf_56 : decode cX0_comesAheadOf 56 = .ok (.iconst 1, 1) := by decide +kernel
theorem dX0_comesAheadOf_57 : decode cX0_comesAheadOf 57 = .ok (.goto 4, 3) := by decide +kernel
theorem dX0_comesAheadOf_60 : decode cX0_comesAheadOf 60 = .ok (.iconst 0, 1) := by decide +kernel
theorem dX0_comesAheadOf_61 : decode cX0_comesAheadOf 61 = .ok (.ireturn, 1) := by decide +kernel
theorem dX0_comesAheadOf_62 : decode cX0_comesAheadOf 62 = .ok (.aload_n 0, 1) := by decide +kernel
theorem dX0_comesAheadOf_63 : decode cX0_comesAheadOf 63 = .ok (.getfield 46, 3) := by decide +kernel
theorem dX0_comesAheadOf_66 : decode cX0_comesAheadOf 66 = .ok (.aload_n 1, 1) := by decide +kernel
theorem dX0_comesAheadOf_67 : decode cX0_comesAheadOf 67 = .ok (.getfield 34, 3) := by decide +kernel
theorem dX0_comesAheadOf_70 : decode cX0_comesAheadOf 70 = .ok (.imul, 1) := by decide +kernel
theorem dX0_comesAheadOf_71 : decode cX0_comesAheadOf 71 = .ok (.aload_n 1, 1) := by decide +kernel
theorem dX0_comesAheadOf_72 : decode cX0_comesAheadOf 72 = .ok (.getfield 46, 3) := by decide +kernel
theorem dX0_comesAheadOf_75 : decode cX0_comesAheadOf 75 = .ok (.aload_n 0, 1) := by decide +kernel
theorem dX0_comesAheadOf_76 : decode cX0_comesAheadOf 76 = .ok (.getfield 34, 3) := by decide +kernel
theorem dX0_comesAheadOf_79 : decode cX0_comesAheadOf 79 = .ok (.imul, 1) := by decide +kernel
theorem dX0_comesAheadOf_80 : decode cX0_comesAheadOf 80 = .ok (.if_icmp .le 7, 3) := by decide +kernel
theorem dX0_comesAheadOf_83 : decode cX0_comesAheadOf 83 = .ok (.iconst 1, 1) := by decide +kernel
theorem dX0_comesAheadOf_84 : decode cX0_comesAheadOf 84 = .ok (.goto 4, 3) := by decide +kernel
theorem dX0_comesAheadOf_87 : decode cX0_comesAheadOf 87 = .ok (.iconst 0, 1) := by decide +kernel
theorem dX0_comesAheadOf_88 : decode cX0_comesAheadOf 88 = .ok (.ireturn, 1) := by decide +kernel
theorem dX1_init_0 : decode cX1_init 0 = .ok (.aload_n 0, 1) := by decide +kernel
theorem dX1_init_1 : decode cX1_init 1 = .ok (.invokespecial 3, 3) := by decide +kernel
theorem dX1_init_4 : decode cX1_init 4 = .ok (.aload_n 0, 1) := by decide +kernel
theorem dX1_init_5 : decode cX1_init 5 = .ok (.bipush 16, 2) := by decide +kernel
theorem dX1_init_7 : decode cX1_init 7 = .ok (.anewarray 9, 3) := by decide +kernel
theorem dX1_init_10 : decode cX1_init 10 = .ok (.putfield 11, 3) := by decide +kernel
theorem dX1_init_13 : decode cX1_init 13 = .ok (.aload_n 0, 1) := by decide +kernel
theorem dX1_init_14 : decode cX1_init 14 = .ok (.iconst 4, 1) := by decide +kernel
theorem dX1_init_15 : decode cX1_init 15 = .ok (.anewarray 17, 3) := by decide +kernel
theorem dX1_init_18 : decode cX1_init 18 = .ok (.putfield 19, 3) := by decide +kernel
theorem dX1_init_21 : decode cX1_init 21 = .ok (.aload_n 0, 1) := by decide +kernel
theorem dX1_init_22 : decode cX1_init 22 = .ok (.bipush 10, 2) := by decide +kernel
theorem dX1_init_24 : decode cX1_init 24 = .ok (.anewarray 23, 3) := by decide +kernel
theorem dX1_init_27 : decode cX1_init 27 = .ok (.putfield 25, 3) := by decide +kernel
theorem dX1_init_30 : decode cX1_init 30 = .ok (.aload_n 0, 1) := by decide +kernel
theorem dX1_init_31 : decode cX1_init 31 = .ok (.iconst 3, 1) := by decide +kernel
theorem dX1_init_32 : decode cX1_init 32 = .ok (.newarray .int, 2) := by decide +kernel
theorem dX1_init_34 : decode cX1_init 34 = .ok (.dup, 1) := by decide +kernel
theorem dX1_init_35 : decode cX1_init 35 = .ok (.iconst 0, 1) := by decide +kernel
theorem dX1_init_36 : decode cX1_init 36 = .ok (.iconst 3, 1) := by decide +kernel
theorem dX1_init_37 : decode cX1_init 37 = .ok (.iastore, 1) := by decide +kernel
theorem dX1_init_38 : decode cX1_init 38 = .ok (.dup, 1) := by decide +kernel
theorem dX1_init_39 : decode cX1_init 39 = .ok (.iconst 1, 1) := by decide +kernel
theorem dX1_init_40 : decode cX1_init 40 = .ok (.bipush 8, 2) := by decide +kernel
theorem dX1_init_42 : decode cX1_init 42 = .ok (.iastore, 1) := by decide +kernel
theorem dX1_init_43 : decode cX1_init 43 = .ok (.dup, 1) := by decide +kernel
theorem dX1_init_44 : decode cX1_init 44 = .ok (.iconst 2, 1) := by decide +kernel
theorem dX1_init_45 : decode cX1_init 45 = .ok (.iconst 1, 1) := by decide +kernel
theorem dX1_init_46 : decode cX1_init 46 = .ok (.iastore, 1) := by decide +kernel
theorem dX1_init_47 : decode cX1_init 47 = .ok (.putfield 29, 3) := by decide +kernel
theorem dX1_init_50 : decode cX1_init 50 = .ok (.iconst 0, 1) := by decide +kernel
theorem dX1_init_51 : decode cX1_init 51 = .ok (.istore_n 1, 1) := by decide +kernel
theorem dX1_init_52 : decode cX1_init 52 = .ok (.iload_n 1, 1) := by decide +kernel
theorem dX1_init_53 : decode cX1_init 53 = .ok (.bipush 16, 2) := by decide +kernel
theorem dX1_init_55 : decode cX1_init 55 = .ok (.if_icmp .ge 23, 3) := by decide +kernel
theorem dX1_init_58 : decode cX1_init 58 = .ok (.aload_n 0, 1) := by decide +kernel
theorem dX1_init_59 : decode cX1_init 59 = .ok (.getfield 11, 3) := by decide +kernel
theorem dX1_init_62 : decode cX1_init 62 = .ok (.iload_n 1, 1) := by decide +kernel
theorem dX1_init_63 : decode cX1_init 63 = .ok (.new 9, 3) := by decide +kernel
theorem dX1_init_66 : decode cX1_init 66 = .ok (.dup, 1) := by decide +kernel
theorem dX1_init_67 : decode cX1_init 67 = .ok (.iload_n 1, 1) := by decide +kernel
theorem dX1_init_68 : decode cX1_init 68 = .ok (.invokespecial 33, 3) := by decide +kernel
theorem dX1_init_71 : decode cX1_init 71 = .ok (.aastore, 1) := by decide +kernel
theorem dX1_init_72 : decode cX1_init 72 = .ok (.iinc 1 1, 3) := by decide +kernel
theorem dX1_init_75 : decode cX1_init 75 = .ok (.goto (-23), 3) := by decide +kernel
theorem dX1_init_78 : decode cX1_init 78 = .ok (.iconst 0, 1) := by decide +kernel
theorem dX1_init_79 : decode cX1_init 79 = .ok (.istore_n 1, 1) := by decide +kernel
theorem dX1_init_80 : decode cX1_init 80 = .ok (.iload_n 1, 1) := by decide +kernel
theorem dX1_init_81 : decode cX1_init 81 = .ok (.iconst 4, 1) := by decide +kernel
theorem dX1_init_82 : decode cX1_init 82 = .ok (.if_icmp .ge 23, 3) := by decide +kernel
theorem dX1_init_85 : decode cX1_init 85 = .ok (.aload_n 0, 1) := by decide +kernel
theorem dX1_init_86 : decode cX1_init 86 = .ok (.getfield 19, 3) := by decide +kernel
theorem dX1_init_89 : decode cX1_init 89 = .ok (.iload_n 1, 1) := by decide +kernel
theorem dX1_init_90 : decode cX1_init 90 = .ok (.new 17, 3) := by decide +kernel
theorem dX1_init_93 : decode cX1_init 93 = .ok (.dup, 1) := by decide +kernel
theorem dX1_init_94 : decode cX1_init 94 = .ok (.iload_n 1, 1) := by decide +kernel
theorem dX1_init_95 : decode cX1_init 95 = .ok (.invokespecial 36, 3) := by decide +kernel
theorem dX1_init_98 : decode cX1_init 98 = .ok (.aastore, 1) := by decide +kernel
theorem dX1_init_99 : decode cX1_init 99 = .ok (.iinc 1 1, 3) := by decide +kernel
theorem dX1_init_102 : decode cX1_init 102 = .ok (.goto (-22), 3) := by decide +kernel
theorem dX1_init_105 : decode cX1_init 105 = .ok (.iconst 0, 1) := by decide +kernel
theorem dX1_init_106 : decode cX1_init 106 = .ok (.istore_n 1, 1) := by decide +kernel
theorem dX1_init_107 : decode cX1_init 107 = .ok (.iload_n 1, 1) := by decide +kernel
theorem dX1_init_108 : decode cX1_init 108 = .ok (.bipush 10, 2) := by decide +kernel
theorem dX1_init_110 : decode cX1_init 110 = .ok (.if_icmp .ge 22, 3) := by decide +kernel
theorem dX1_init_113 : decode cX1_init 113 = .ok (.aload_n 0, 1) := by decide +kernel
theorem dX1_init_114 : decode cX1_init 114 = .ok (.getfield 25, 3) := by decide +kernel
theorem dX1_init_117 : decode cX1_init 117 = .ok (.iload_n 1, 1) := by decide +kernel
theorem dX1_init_118 : decode cX1_init 118 = .ok (.new 23, 3) := by decide +kernel
theorem dX1_init_121 : decode cX1_init 121 = .ok (.dup, 1) := by decide +kernel
theorem dX1_init_122 : decode cX1_init 122 = .ok (.invokespecial 37, 3) := by decide +kernel
theorem dX1_init_125 : decode cX1_init 125 = .ok (.aastore, 1) := by decide +kernel
theorem dX1_init_126 : decode cX1_init 126 = .ok (.iinc 1 1, 3) := by decide +kernel
theorem dX1_init_129 : decode cX1_init 129 = .ok (.goto (-22), 3) := by decide +kernel
theorem dX1_init_132 : decode cX1_init 132 = .ok (.return_, 1) := by decide +kernel
theorem dX1_copyFrom_0 : decode cX1_copyFrom 0 = .ok (.aload_n 0, 1) := by decide +kernel
theorem dX1_copyFrom_1 : decode cX1_copyFrom 1 = .ok (.aload_n 1, 1) := by decide +kernel
theorem dX1_copyFrom_2 : decode cX1_copyFrom 2 = .ok (.getfield 38, 3) := by decide +kernel
theorem dX1_copyFrom_5 : decode cX1_copyFrom 5 = .ok (.putfield 38, 3) := by decide +kernel
theorem dX1_copyFrom_8 : decode cX1_copyFrom 8 = .ok (.aload_n 0, 1) := by decide +kernel
theorem dX1_copyFrom_9 : decode cX1_copyFrom 9 = .ok (.aload_n 1, 1) := by decide +kernel
theorem dX1_copyFrom_10 : decode cX1_copyFrom 10 = .ok (.getfield 42, 3) := by decide +kernel
theorem dX1_copyFrom_13 : decode cX1_copyFrom 13 = .ok (.putfield 42, 3) := by decide +kernel
theorem dX1_copyFrom_16 : decode cX1_copyFrom 16 = .ok (.aload_n 0, 1) := by decide +kernel
theorem dX1_copyFrom_17 : decode cX1_copyFrom 17 = .ok (.aload_n 1, 1) := by decide +kernel
theorem dX1_copyFrom_18 : decode cX1_copyFrom 18 = .ok (.getfield 45, 3) := by decide +kernel
theorem dX1_copyFrom_21 : decode cX1_copyFrom 21 = .ok (.putfield 45, 3) := by decide +kernel
theorem dX1_copyFrom_24 : decode cX1_copyFrom 24 = .ok (.aload_n 0, 1) := by decide +kernel
theorem dX1_copyFrom_25 : decode cX1_copyFrom 25 = .ok (.aload_n 1, 1) := by decide +kernel
theorem dX1_copyFrom_26 : decode cX1_copyFrom 26 = .ok (.getfield 48, 3) := by decide +kernel
theorem dX1_copyFrom_29 : decode cX1_copyFrom 29 = .ok (.putfield 48, 3) := by decide +kernel
theorem dX1_copyFrom_32 : decode cX1_copyFrom 32 = .ok (.aload_n 0, 1) := by decide +kernel
theorem dX1_copyFrom_33 : decode cX1_copyFrom 33 = .ok (.aload_n 1, 1) := by decide +kernel
theorem dX1_copyFrom_34 : decode cX1_copyFrom 34 = .ok (.getfield 51, 3) := by decide +kernel
theorem dX1_copyFrom_37 : decode cX1_copyFrom 37 = .ok (.putfield 51, 3) := by decide +kernel
theorem dX1_copyFrom_40 : decode cX1_copyFrom 40 = .ok (.aload_n 0, 1) := by decide +kernel
theorem dX1_copyFrom_41 : decode cX1_copyFrom 41 = .ok (.aload_n 1, 1) := by decide +kernel
theorem dX1_copyFrom_42 : decode cX1_copyFrom 42 = .ok (.getfield 54, 3) := by decide +kernel
theorem dX1_copyFrom_45 : decode cX1_copyFrom 45 = .ok (.putfield 54, 3) := by decide +kernel
theorem dX1_copyFrom_48 : decode cX1_copyFrom 48 = .ok (.aload_n 0, 1) := by decide +kernel
theorem dX1_copyFrom_49 : decode cX1_copyFrom 49 = .ok (.aload_n 1, 1) := by decide +kernel
theorem dX1_copyFrom_50 : decode cX1_copyFrom 50 = .ok (.getfield 57, 3) := by decide +kernel
theorem dX1_copyFrom_53 : decode cX1_copyFrom 53 = .ok (.putfield 57, 3) := by decide +kernel
theorem dX1_copyFrom_56 : decode cX1_copyFrom 56 = .ok (.aload_n 0, 1) := by decide +kernel
theorem dX1_copyFrom_57 : decode cX1_copyFrom 57 = .ok (.aload_n 1, 1) := by decide +kernel
theorem dX1_copyFrom_58 : decode cX1_copyFrom 58 = .ok (.getfield 60, 3) := by decide +kernel
theorem dX1_copyFrom_61 : decode cX1_copyFrom 61 = .ok (.putfield 60, 3) := by decide +kernel
theorem dX1_copyFrom_64 : decode cX1_copyFrom 64 = .ok (.aload_n 1, 1) := by decide +kernel
theorem dX1_copyFrom_65 : decode cX1_copyFrom 65 = .ok (.getfield 29, 3) := by decide +kernel
theorem dX1_copyFrom_68 : decode cX1_copyFrom 68 = .ok (.iconst 0, 1) := by decide +kernel
theorem dX1_copyFrom_69 : decode cX1_copyFrom 69 = .ok (.aload_n 0, 1) := by decide +kernel
theorem dX1_copyFrom_70 : decode cX1_copyFrom 70 = .ok (.getfield 29, 3) := by decide +kernel
theorem dX1_copyFrom_73 : decode cX1_copyFrom 73 = .ok (.iconst 0, 1) := by decide +kernel
theorem dX1_copyFrom_74 : decode cX1_copyFrom 74 = .ok (.iconst 3, 1) := by decide +kernel
theorem dX1_copyFrom_75 : decode cX1_copyFrom 75 = .ok (.invokestatic 63, 3) := by decide +kernel
theorem dX1_copyFrom_78 : decode cX1_copyFrom 78 = .ok (.iconst 0, 1) := by decide +kernel
theorem dX1_copyFrom_79 : decode cX1_copyFrom 79 = .ok (.istore_n 2, 1) := by decide +kernel
theorem dX1_copyFrom_80 : decode cX1_copyFrom 80 = .ok (.iload_n 2, 1) := by decide +kernel
theorem dX1_copyFrom_81 : decode cX1_copyFrom 81 = .ok (.aload_n 0, 1) := by decide +kernel
theorem dX1_copyFrom_82 : decode cX1_copyFrom 82 = .ok (.getfield 38, 3) := by decide +kernel
theorem dX1_copyFrom_85 : decode cX1_copyFrom 85 = .ok (.if_icmp .ge 24, 3) := by decide +kernel
theorem dX1_copyFrom_88 : decode cX1_copyFrom 88 = .ok (.aload_n 0, 1) := by decide +kernel
theorem dX1_copyFrom_89 : decode cX1_copyFrom 89 = .ok (.getfield 11, 3) := by decide +kernel
theorem dX1_copyFrom_92 : decode cX1_copyFrom 92 = .ok (.iload_n 2, 1) := by decide +kernel
theorem dX1_copyFrom_93 : decode cX1_copyFrom 93 = .ok (.aaload, 1) := by decide +kernel
theorem dX1_copyFrom_94 : decode cX1_copyFrom 94 = .ok (.aload_n 1, 1) := by decide +kernel
theorem dX1_copyFrom_95 : decode cX1_copyFrom 95 = .ok (.getfield 11, 3) := by decide +kernel
theorem dX1_copyFrom_98 : decode cX1_copyFrom 98 = .ok (.iload_n 2, 1) := by decide +kernel
theorem dX1_copyFrom_99 : decode cX1_copyFrom 99 = .ok (.aaload, 1) := by decide +kernel
theorem dX1_copyFrom_100 : decode cX1_copyFrom 100 = .ok (.invokevirtual 69, 3) := by decide +kernel
theorem dX1_copyFrom_103 : decode cX1_copyFrom 103 = .ok (.iinc 2 1, 3) := by decide +kernel
theorem dX1_copyFrom_106 : decode cX1_copyFrom 106 = .ok (.goto (-26), 3) := by decide +kernel
theorem dX1_copyFrom_109 : decode cX1_copyFrom 109 = .ok (.iconst 0, 1) := by decide +kernel
theorem dX1_copyFrom_110 : decode cX1_copyFrom 110 = .ok (.istore_n 2, 1) := by decide +kernel
theorem dX1_copyFrom_111 : decode cX1_copyFrom 111 = .ok (.iload_n 2, 1) := by decide +kernel
theorem dX1_copyFrom_112 : decode cX1_copyFrom 112 = .ok (.aload_n 0, 1) := by decide +kernel
theorem dX1_copyFrom_113 : decode cX1_copyFrom 113 = .ok (.getfield 42, 3) := by decide +kernel
theorem dX1_copyFrom_116 : decode cX1_copyFrom 116 = .ok (.if_icmp .ge 24, 3) := by decide +kernel
theorem dX1_copyFrom_119 : decode cX1_copyFrom 119 = .ok (.aload_n 0, 1) := by decide +kernel
theorem dX1_copyFrom_120 : decode cX1_copyFrom 120 = .ok (.getfield 19, 3) := by decide +kernel
theorem dX1_copyFrom_123 : decode cX1_copyFrom 123 = .ok (.iload_n 2, 1) := by decide +kernel
theorem dX1_copyFrom_124 : decode cX1_copyFrom 124 = .ok (.aaload, 1) := by decide +kernel
theorem dX1_copyFrom_125 : decode cX1_copyFrom 125 = .ok (.aload_n 1, 1) := by decide +kernel
theorem dX1_copyFrom_126 : decode cX1_copyFrom 126 = .ok (.getfield 19, 3) := by decide +kernel
theorem dX1_copyFrom_129 : decode cX1_copyFrom 129 = .ok (.iload_n 2, 1) := by decide +kernel
theorem dX1_copyFrom_130 : decode cX1_copyFrom 130 = .ok (.aaload, 1) := by decide +kernel
theorem dX1_copyFrom_131 : decode cX1_copyFrom 131 = .ok (.invokevirtual 73, 3) := by decide +kernel
theorem dX1_copyFrom_134 : decode cX1_copyFrom 134 = .ok (.iinc 2 1, 3) := by decide +kernel
theorem dX1_copyFrom_137 : decode cX1_copyFrom 137 = .ok (.goto (-26), 3) := by decide +kernel
theorem dX1_copyFrom_140 : decode cX1_copyFrom 140 = .ok (.iconst 0, 1) := by decide +kernel
theorem dX1_copyFrom_141 : decode cX1_copyFrom 141 = .ok (.istore_n 2, 1) := by decide +kernel
theorem dX1_copyFrom_142 : decode cX1_copyFrom 142 = .ok (.iload_n 2, 1) := by decide +kernel
theorem dX1_copyFrom_143 : decode cX1_copyFrom 143 = .ok (.aload_n 0, 1) := by decide +kernel
theorem dX1_copyFrom_144 : decode cX1_copyFrom 144 = .ok (.getfield 45, 3) := by decide +kernel
theorem dX1_copyFrom_147 : decode cX1_copyFrom 147 = .ok (.if_icmp .ge 24, 3) := by decide +kernel
theorem dX1_copyFrom_150 : decode cX1_copyFrom 150 = .ok (.aload_n 0, 1) := by decide +kernel
theorem dX1_copyFrom_151 : decode cX1_copyFrom 151 = .ok (.getfield 25, 3) := by decide +kernel
theorem dX1_copyFrom_154 : decode cX1_copyFrom 154 = .ok (.iload_n 2, 1) := by decide +kernel
theorem dX1_copyFrom_155 : decode cX1_copyFrom 155 = .ok (.aaload, 1) := by decide +kernel
theorem dX1_copyFrom_156 : decode cX1_copyFrom 156 = .ok (.aload_n 1, 1) := by decide +kernel
theorem dX1_copyFrom_157 : decode cX1_copyFrom 157 = .ok (.getfield 25, 3) := by decide +kernel
theorem dX1_copyFrom_160 : decode cX1_copyFrom 160 = .ok (.iload_n 2, 1) := by decide +kernel
theorem dX1_copyFrom_161 : decode cX1_copyFrom 161 = .ok (.aaload, 1) := by decide +kernel
theorem dX1_copyFrom_162 : decode cX1_copyFrom 162 = .ok (.invokevirtual 76, 3) := by decide +kernel
theorem dX1_copyFrom_165 : decode cX1_copyFrom 165 = .ok (.iinc 2 1, 3) := by decide +kernel
theorem dX1_copyFrom_168 : decode cX1_copyFrom 168 = .ok (.goto (-26), 3) := by decide +kernel
theorem dX1_copyFrom_171 : decode cX1_copyFrom 171 = .ok (.return_, 1) := by decide +kernel
theorem dX1_consignmentAt_0 : decode cX1_consignmentAt 0 = .ok (.iload_n 1, 1) := by decide +kernel
theorem dX1_consignmentAt_1 : decode cX1_consignmentAt 1 = .ok (.ifCond .lt 17, 3) := by decide +kernel
theorem dX1_consignmentAt_4 : decode cX1_consignmentAt 4 = .ok (.iload_n 1, 1) := by decide +kernel
theorem dX1_consignmentAt_5 : decode cX1_consignmentAt 5 = .ok (.aload_n 0, 1) := by decide +kernel
theorem dX1_consignmentAt_6 : decode cX1_consignmentAt 6 = .ok (.getfield 38, 3) := by decide +kernel
theorem dX1_consignmentAt_9 : decode cX1_consignmentAt 9 = .ok (.if_icmp .ge 9, 3) := by decide +kernel
theorem dX1_consignmentAt_12 : decode cX1_consignmentAt 12 = .ok (.iload_n 1, 1) := by decide +kernel
theorem dX1_consignmentAt_13 : decode cX1_consignmentAt 13 = .ok (.bipush 16, 2) := by decide +kernel
theorem dX1_consignmentAt_15 : decode cX1_consignmentAt 15 = .ok (.if_icmp .lt 5, 3) := by decide +kernel
theorem dX1_consignmentAt_18 : decode cX1_consignmentAt 18 = .ok (.aconst_null, 1) := by decide +kernel
theorem dX1_consignmentAt_19 : decode cX1_consignmentAt 19 = .ok (.areturn, 1) := by decide +kernel
theorem dX1_consignmentAt_20 : decode cX1_consignmentAt 20 = .ok (.aload_n 0, 1) := by decide +kernel
theorem dX1_consignmentAt_21 : decode cX1_consignmentAt 21 = .ok (.getfield 11, 3) := by decide +kernel
theorem dX1_consignmentAt_24 : decode cX1_consignmentAt 24 = .ok (.iload_n 1, 1) := by decide +kernel
theorem dX1_consignmentAt_25 : decode cX1_consignmentAt 25 = .ok (.aaload, 1) := by decide +kernel
theorem dX1_consignmentAt_26 : decode cX1_consignmentAt 26 = .ok (.getfield 79, 3) := by decide +kernel
theorem dX1_consignmentAt_29 : decode cX1_consignmentAt 29 = .ok (.iconst 5, 1) := by decide +kernel
theorem dX1_consignmentAt_30 : decode cX1_consignmentAt 30 = .ok (.if_icmp .ne 7, 3) := by decide +kernel
theorem dX1_consignmentAt_33 : decode cX1_consignmentAt 33 = .ok (.aconst_null, 1) := by decide +kernel
theorem dX1_consignmentAt_34 : decode cX1_consignmentAt 34 = .ok (.goto 9, 3) := by decide +kernel
theorem dX1_consignmentAt_37 : decode cX1_consignmentAt 37 = .ok (.aload_n 0, 1) := by decide +kernel
theorem dX1_consignmentAt_38 : decode cX1_consignmentAt 38 = .ok (.getfield 11, 3) := by decide +kernel
theorem dX1_consignmentAt_41 : decode cX1_consignmentAt 41 = .ok (.iload_n 1, 1) := by decide +kernel
theorem dX1_consignmentAt_42 : decode cX1_consignmentAt 42 = .ok (.aaload, 1) := by decide +kernel
theorem dX1_consignmentAt_43 : decode cX1_consignmentAt 43 = .ok (.areturn, 1) := by decide +kernel
theorem dX1_vehicleAt_0 : decode cX1_vehicleAt 0 = .ok (.iload_n 1, 1) := by decide +kernel
theorem dX1_vehicleAt_1 : decode cX1_vehicleAt 1 = .ok (.ifCond .lt 16, 3) := by decide +kernel
theorem dX1_vehicleAt_4 : decode cX1_vehicleAt 4 = .ok (.iload_n 1, 1) := by decide +kernel
theorem dX1_vehicleAt_5 : decode cX1_vehicleAt 5 = .ok (.aload_n 0, 1) := by decide +kernel
theorem dX1_vehicleAt_6 : decode cX1_vehicleAt 6 = .ok (.getfield 42, 3) := by decide +kernel
theorem dX1_vehicleAt_9 : decode cX1_vehicleAt 9 = .ok (.if_icmp .ge 8, 3) := by decide +kernel
theorem dX1_vehicleAt_12 : decode cX1_vehicleAt 12 = .ok (.iload_n 1, 1) := by decide +kernel
theorem dX1_vehicleAt_13 : decode cX1_vehicleAt 13 = .ok (.iconst 4, 1) := by decide +kernel
theorem dX1_vehicleAt_14 : decode cX1_vehicleAt 14 = .ok (.if_icmp .lt 5, 3) := by decide +kernel
theorem dX1_vehicleAt_17 : decode cX1_vehicleAt 17 = .ok (.aconst_null, 1) := by decide +kernel
theorem dX1_vehicleAt_18 : decode cX1_vehicleAt 18 = .ok (.areturn, 1) := by decide +kernel
theorem dX1_vehicleAt_19 : decode cX1_vehicleAt 19 = .ok (.aload_n 0, 1) := by decide +kernel
theorem dX1_vehicleAt_20 : decode cX1_vehicleAt 20 = .ok (.getfield 19, 3) := by decide +kernel
theorem dX1_vehicleAt_23 : decode cX1_vehicleAt 23 = .ok (.iload_n 1, 1) := by decide +kernel
theorem dX1_vehicleAt_24 : decode cX1_vehicleAt 24 = .ok (.aaload, 1) := by decide +kernel
theorem dX1_vehicleAt_25 : decode cX1_vehicleAt 25 = .ok (.areturn, 1) := by decide +kernel
theorem dX1_makeConsignment_0 : decode cX1_makeConsignment 0 = .ok (.aload_n 0, 1) := by decide +kernel
theorem dX1_makeConsignment_1 : decode cX1_makeConsignment 1 = .ok (.getfield 38, 3) := by decide +kernel
theorem dX1_makeConsignment_4 : decode cX1_makeConsignment 4 = .ok (.bipush 16, 2) := by decide +kernel
theorem dX1_makeConsignment_6 : decode cX1_makeConsignment 6 = .ok (.if_icmp .lt 6, 3) := by decide +kernel
theorem dX1_makeConsignment_9 : decode cX1_makeConsignment 9 = .ok (.ldc 82, 2) := by decide +kernel
theorem dX1_makeConsignment_11 : decode cX1_makeConsignment 11 = .ok (.ireturn, 1) := by decide +kernel
theorem dX1_makeConsignment_12 : decode cX1_makeConsignment 12 = .ok (.aload_n 0, 1) := by decide +kernel
theorem dX1_makeConsignment_13 : decode cX1_makeConsignment 13 = .ok (.getfield 11, 3) := by decide +kernel
theorem dX1_makeConsignment_16 : decode cX1_makeConsignment 16 = .ok (.aload_n 0, 1) := by decide +kernel
theorem dX1_makeConsignment_17 : decode cX1_makeConsignment 17 = .ok (.getfield 38, 3) := by decide +kernel
theorem dX1_makeConsignment_20 : decode cX1_makeConsignment 20 = .ok (.aaload, 1) := by decide +kernel
theorem dX1_makeConsignment_21 : decode cX1_makeConsignment 21 = .ok (.astore 7, 2) := by decide +kernel
theorem dX1_makeConsignment_23 : decode cX1_makeConsignment 23 = .ok (.aload 7, 2) := by decide +kernel
theorem dX1_makeConsignment_25 : decode cX1_makeConsignment 25 = .ok (.iload_n 1, 1) := by decide +kernel
theorem dX1_makeConsignment_26 : decode cX1_makeConsignment 26 = .ok (.putfield 83, 3) := by decide +kernel
theorem dX1_makeConsignment_29 : decode cX1_makeConsignment 29 = .ok (.aload 7, 2) := by decide +kernel
theorem dX1_makeConsignment_31 : decode cX1_makeConsignment 31 = .ok (.iload_n 2, 1) := by decide +kernel
theorem dX1_makeConsignment_32 : decode cX1_makeConsignment 32 = .ok (.putfield 86, 3) := by decide +kernel
theorem dX1_makeConsignment_35 : decode cX1_makeConsignment 35 = .ok (.aload 7, 2) := by decide +kernel
theorem dX1_makeConsignment_37 : decode cX1_makeConsignment 37 = .ok (.iload_n 3, 1) := by decide +kernel
theorem dX1_makeConsignment_38 : decode cX1_makeConsignment 38 = .ok (.putfield 89, 3) := by decide +kernel
theorem dX1_makeConsignment_41 : decode cX1_makeConsignment 41 = .ok (.aload 7, 2) := by decide +kernel
theorem dX1_makeConsignment_43 : decode cX1_makeConsignment 43 = .ok (.iload 4, 2) := by decide +kernel
theorem dX1_makeConsignment_45 : decode cX1_makeConsignment 45 = .ok (.putfield 92, 3) := by decide +kernel
theorem dX1_makeConsignment_48 : decode cX1_makeConsignment 48 = .ok (.aload 7, 2) := by decide +kernel
theorem dX1_makeConsignment_50 : decode cX1_makeConsignment 50 = .ok (.iload 5, 2) := by decide +kernel
theorem dX1_makeConsignment_52 : decode cX1_makeConsignment 52 = .ok (.putfield 95, 3) := by decide +kernel
theorem dX1_makeConsignment_55 : decode cX1_makeConsignment 55 = .ok (.aload 7, 2) := by decide +kernel
theorem dX1_makeConsignment_57 : decode cX1_makeConsignment 57 = .ok (.iload 6, 2) := by decide +kernel
theorem dX1_makeConsignment_59 : decode cX1_makeConsignment 59 = .ok (.putfield 98, 3) := by decide +kernel
theorem dX1_makeConsignment_62 : decode cX1_makeConsignment 62 = .ok (.aload 7, 2) := by decide +kernel
theorem dX1_makeConsignment_64 : decode cX1_makeConsignment 64 = .ok (.aload_n 0, 1) := by decide +kernel
theorem dX1_makeConsignment_65 : decode cX1_makeConsignment 65 = .ok (.getfield 48, 3) := by decide +kernel
theorem dX1_makeConsignment_68 : decode cX1_makeConsignment 68 = .ok (.putfield 101, 3) := by decide +kernel
theorem dX1_makeConsignment_71 : decode cX1_makeConsignment 71 = .ok (.aload 7, 2) := by decide +kernel
theorem dX1_makeConsignment_73 : decode cX1_makeConsignment 73 = .ok (.aload 7, 2) := by decide +kernel
theorem dX1_makeConsignment_75 : decode cX1_makeConsignment 75 = .ok (.getfield 104, 3) := by decide +kernel
theorem dX1_makeConsignment_78 : decode cX1_makeConsignment 78 = .ok (.putfield 107, 3) := by decide +kernel
theorem dX1_makeConsignment_81 : decode cX1_makeConsignment 81 = .ok (.aload 7, 2) := by decide +kernel
theorem dX1_makeConsignment_83 : decode cX1_makeConsignment 83 = .ok (.invokevirtual 110, 3) := by decide +kernel
theorem dX1_makeConsignment_86 : decode cX1_makeConsignment 86 = .ok (.aload_n 0, 1) := by decide +kernel
theorem dX1_makeConsignment_87 : decode cX1_makeConsignment 87 = .ok (.dup, 1) := by decide +kernel
theorem dX1_makeConsignment_88 : decode cX1_makeConsignment 88 = .ok (.getfield 38, 3) := by decide +kernel
theorem dX1_makeConsignment_91 : decode cX1_makeConsignment 91 = .ok (.iconst 1, 1) := by decide +kernel
theorem dX1_makeConsignment_92 : decode cX1_makeConsignment 92 = .ok (.iadd, 1) := by decide +kernel
theorem dX1_makeConsignment_93 : decode cX1_makeConsignment 93 = .ok (.putfield 38, 3) := by decide +kernel
theorem dX1_makeConsignment_96 : decode cX1_makeConsignment 96 = .ok (.aload 7, 2) := by decide +kernel
theorem dX1_makeConsignment_98 : decode cX1_makeConsignment 98 = .ok (.getfield 104, 3) := by decide +kernel
theorem dX1_makeConsignment_101 : decode cX1_makeConsignment 101 = .ok (.ireturn, 1) := by decide +kernel
theorem dX1_splitOff_0 : decode cX1_splitOff 0 = .ok (.aload_n 0, 1) := by decide +kernel
theorem dX1_splitOff_1 : decode cX1_splitOff 1 = .ok (.iload_n 1, 1) := by decide +kernel
theorem dX1_splitOff_2 : decode cX1_splitOff 2 = .ok (.invokevirtual 113, 3) := by decide +kernel
theorem dX1_splitOff_5 : decode cX1_splitOff 5 = .ok (.astore 4, 2) := by decide +kernel
theorem dX1_splitOff_7 : decode cX1_splitOff 7 = .ok (.aload 4, 2) := by decide +kernel
theorem dX1_splitOff_9 : decode cX1_splitOff 9 = .ok (.ifnull 33, 3) := by decide +kernel
theorem dX1_splitOff_12 : decode cX1_splitOff 12 = .ok (.iload_n 2, 1) := by decide +kernel
theorem dX1_splitOff_13 : decode cX1_splitOff 13 = .ok (.iconst 1, 1) := by decide +kernel
theorem dX1_splitOff_14 : decode cX1_splitOff 14 = .ok (.aload 4, 2) := by decide +kernel
theorem dX1_splitOff_16 : decode cX1_splitOff 16 = .ok (.getfield 86, 3) := by decide +kernel
theorem dX1_splitOff_19 : decode cX1_splitOff 19 = .ok (.iconst 1, 1) := by decide +kernel
theorem dX1_splitOff_20 : decode cX1_splitOff 20 = .ok (.isub, 1) := by decide +kernel
theorem dX1_splitOff_21 : decode cX1_splitOff 21 = .ok (.invokestatic 117, 3) := by decide +kernel
theorem dX1_splitOff_24 : decode cX1_splitOff 24 = .ok (.ifCond .eq 18, 3) := by decide +kernel
theorem dX1_splitOff_27 : decode cX1_splitOff 27 = .ok (.iload_n 3, 1) := by decide +kernel
theorem dX1_splitOff_28 : decode cX1_splitOff 28 = .ok (.iconst 1, 1) := by decide +kernel
theorem dX1_splitOff_29 : decode cX1_splitOff 29 = .ok (.aload 4, 2) := by decide +kernel
theorem dX1_splitOff_31 : decode cX1_splitOff 31 = .ok (.getfield 89, 3) := by decide +kernel
theorem dX1_splitOff_34 : decode cX1_splitOff 34 = .ok (.iconst 1, 1) := by decide +kernel
theorem dX1_splitOff_35 : decode cX1_splitOff 35 = .ok (.isub, 1) := by decide +kernel
theorem dX1_splitOff_36 : decode cX1_splitOff 36 = .ok (.invokestatic 117, 3) := by decide +kernel
theorem dX1_splitOff_39 : decode cX1_splitOff 39 = .ok (.ifCond .ne 6, 3) := by decide +kernel
theorem dX1_splitOff_42 : decode cX1_splitOff 42 = .ok (.ldc 121, 2) := by decide +kernel
theorem dX1_splitOff_44 : decode cX1_splitOff 44 = .ok (.ireturn, 1) := by decide +kernel
theorem dX1_splitOff_45 : decode cX1_splitOff 45 = .ok (.aload 4, 2) := by decide +kernel
theorem dX1_splitOff_47 : decode cX1_splitOff 47 = .ok (.getfield 79, 3) := by decide +kernel
theorem dX1_splitOff_50 : decode cX1_splitOff 50 = .ok (.ifCond .eq 6, 3) := by decide +kernel
theorem dX1_splitOff_53 : decode cX1_splitOff 53 = .ok (.ldc 122, 2) := by decide +kernel
theorem dX1_splitOff_55 : decode cX1_splitOff 55 = .ok (.ireturn, 1) := by decide +kernel
theorem dX1_splitOff_56 : decode cX1_splitOff 56 = .ok (.aload_n 0, 1) := by decide +kernel
theorem dX1_splitOff_57 : decode cX1_splitOff 57 = .ok (.getfield 38, 3) := by decide +kernel
theorem dX1_splitOff_60 : decode cX1_splitOff 60 = .ok (.bipush 16, 2) := by decide +kernel
theorem dX1_splitOff_62 : decode cX1_splitOff 62 = .ok (.if_icmp .lt 6, 3) := by decide +kernel
theorem dX1_splitOff_65 : decode cX1_splitOff 65 = .ok (.ldc 82, 2) := by decide +kernel
theorem dX1_splitOff_67 : decode cX1_splitOff 67 = .ok (.ireturn, 1) := by decide +kernel
theorem dX1_splitOff_68 : decode cX1_splitOff 68 = .ok (.aload_n 0, 1) := by decide +kernel
theorem dX1_splitOff_69 : decode cX1_splitOff 69 = .ok (.getfield 11, 3) := by decide +kernel
theorem dX1_splitOff_72 : decode cX1_splitOff 72 = .ok (.aload_n 0, 1) := by decide +kernel
theorem dX1_splitOff_73 : decode cX1_splitOff 73 = .ok (.getfield 38, 3) := by decide +kernel
theorem dX1_splitOff_76 : decode cX1_splitOff 76 = .ok (.aaload, 1) := by decide +kernel
theorem dX1_splitOff_77 : decode cX1_splitOff 77 = .ok (.astore 5, 2) := by decide +kernel
theorem dX1_splitOff_79 : decode cX1_splitOff 79 = .ok (.aload 5, 2) := by decide +kernel
theorem dX1_splitOff_81 : decode cX1_splitOff 81 = .ok (.aload 4, 2) := by decide +kernel
theorem dX1_splitOff_83 : decode cX1_splitOff 83 = .ok (.invokevirtual 123, 3) := by decide +kernel
theorem dX1_splitOff_86 : decode cX1_splitOff 86 = .ok (.aload 5, 2) := by decide +kernel
theorem dX1_splitOff_88 : decode cX1_splitOff 88 = .ok (.invokevirtual 110, 3) := by decide +kernel
theorem dX1_splitOff_91 : decode cX1_splitOff 91 = .ok (.aload 5, 2) := by decide +kernel
theorem dX1_splitOff_93 : decode cX1_splitOff 93 = .ok (.iload_n 2, 1) := by decide +kernel
theorem dX1_splitOff_94 : decode cX1_splitOff 94 = .ok (.putfield 86, 3) := by decide +kernel
theorem dX1_splitOff_97 : decode cX1_splitOff 97 = .ok (.aload 5, 2) := by decide +kernel
theorem dX1_splitOff_99 : decode cX1_splitOff 99 = .ok (.iload_n 3, 1) := by decide +kernel
theorem dX1_splitOff_100 : decode cX1_splitOff 100 = .ok (.putfield 89, 3) := by decide +kernel
theorem dX1_splitOff_103 : decode cX1_splitOff 103 = .ok (.aload 5, 2) := by decide +kernel
theorem dX1_splitOff_105 : decode cX1_splitOff 105 = .ok (.aload 4, 2) := by decide +kernel
theorem dX1_splitOff_107 : decode cX1_splitOff 107 = .ok (.getfield 98, 3) := by decide +kernel
theorem dX1_splitOff_110 : decode cX1_splitOff 110 = .ok (.iload_n 2, 1) := by decide +kernel
theorem dX1_splitOff_111 : decode cX1_splitOff 111 = .ok (.imul, 1) := by decide +kernel
theorem dX1_splitOff_112 : decode cX1_splitOff 112 = .ok (.aload 4, 2) := by decide +kernel
theorem dX1_splitOff_114 : decode cX1_splitOff 114 = .ok (.getfield 86, 3) := by decide +kernel
theorem dX1_splitOff_117 : decode cX1_splitOff 117 = .ok (.idiv, 1) := by decide +kernel
theorem dX1_splitOff_118 : decode cX1_splitOff 118 = .ok (.putfield 98, 3) := by decide +kernel
theorem dX1_splitOff_121 : decode cX1_splitOff 121 = .ok (.aload 4, 2) := by decide +kernel
theorem dX1_splitOff_123 : decode cX1_splitOff 123 = .ok (.dup, 1) := by decide +kernel
theorem dX1_splitOff_124 : decode cX1_splitOff 124 = .ok (.getfield 86, 3) := by decide +kernel
theorem dX1_splitOff_127 : decode cX1_splitOff 127 = .ok (.iload_n 2, 1) := by decide +kernel
theorem dX1_splitOff_128 : decode cX1_splitOff 128 = .ok (.isub, 1) := by decide +kernel
theorem dX1_splitOff_129 : decode cX1_splitOff 129 = .ok (.putfield 86, 3) := by decide +kernel
theorem dX1_splitOff_132 : decode cX1_splitOff 132 = .ok (.aload 4, 2) := by decide +kernel
theorem dX1_splitOff_134 : decode cX1_splitOff 134 = .ok (.dup, 1) := by decide +kernel
theorem dX1_splitOff_135 : decode cX1_splitOff 135 = .ok (.getfield 89, 3) := by decide +kernel
theorem dX1_splitOff_138 : decode cX1_splitOff 138 = .ok (.iload_n 3, 1) := by decide +kernel
theorem dX1_splitOff_139 : decode cX1_splitOff 139 = .ok (.isub, 1) := by decide +kernel
theorem dX1_splitOff_140 : decode cX1_splitOff 140 = .ok (.putfield 89, 3) := by decide +kernel
theorem dX1_splitOff_143 : decode cX1_splitOff 143 = .ok (.aload 4, 2) := by decide +kernel
theorem dX1_splitOff_145 : decode cX1_splitOff 145 = .ok (.dup, 1) := by decide +kernel
theorem dX1_splitOff_146 : decode cX1_splitOff 146 = .ok (.getfield 98, 3) := by decide +kernel
theorem dX1_splitOff_149 : decode cX1_splitOff 149 = .ok (.aload 5, 2) := by decide +kernel
theorem dX1_splitOff_151 : decode cX1_splitOff 151 = .ok (.getfield 98, 3) := by decide +kernel
theorem dX1_splitOff_154 : decode cX1_splitOff 154 = .ok (.isub, 1) := by decide +kernel
theorem dX1_splitOff_155 : decode cX1_splitOff 155 = .ok (.putfield 98, 3) := by decide +kernel
theorem dX1_splitOff_158 : decode cX1_splitOff 158 = .ok (.aload_n 0, 1) := by decide +kernel
theorem dX1_splitOff_159 : decode cX1_splitOff 159 = .ok (.dup, 1) := by decide +kernel
theorem dX1_splitOff_160 : decode cX1_splitOff 160 = .ok (.getfield 38, 3) := by decide +kernel
theorem dX1_splitOff_163 : decode cX1_splitOff 163 = .ok (.iconst 1, 1) := by decide +kernel
theorem dX1_splitOff_164 : decode cX1_splitOff 164 = .ok (.iadd, 1) := by decide +kernel
theorem dX1_splitOff_165 : decode cX1_splitOff 165 = .ok (.putfield 38, 3) := by decide +kernel
theorem dX1_splitOff_168 : decode cX1_splitOff 168 = .ok (.aload 5, 2) := by decide +kernel
theorem dX1_splitOff_170 : decode cX1_splitOff 170 = .ok (.getfield 104, 3) := by decide +kernel
theorem dX1_splitOff_173 : decode cX1_splitOff 173 = .ok (.ireturn, 1) := by decide +kernel
theorem dX1_joinParts_0 : decode cX1_joinParts 0 = .ok (.aload_n 0, 1) := by decide +kernel
theorem dX1_joinParts_1 : decode cX1_joinParts 1 = .ok (.iload_n 1, 1) := by decide +kernel
theorem dX1_joinParts_2 : decode cX1_joinParts 2 = .ok (.iload_n 2, 1) := by decide +kernel
theorem dX1_joinParts_3 : decode cX1_joinParts 3 = .ok (.invokestatic 126, 3) := by decide +kernel
theorem dX1_joinParts_6 : decode cX1_joinParts 6 = .ok (.invokevirtual 113, 3) := by decide +kernel
theorem dX1_joinParts_9 : decode cX1_joinParts 9 = .ok (.astore_n 3, 1) := by decide +kernel
theorem dX1_joinParts_10 : decode cX1_joinParts 10 = .ok (.aload_n 0, 1) := by decide +kernel
theorem dX1_joinParts_11 : decode cX1_joinParts 11 = .ok (.iload_n 1, 1) := by decide +kernel
theorem dX1_joinParts_12 : decode cX1_joinParts 12 = .ok (.iload_n 2, 1) := by decide +kernel
theorem dX1_joinParts_13 : decode cX1_joinParts 13 = .ok (.invokestatic 132, 3) := by decide +kernel
theorem dX1_joinParts_16 : decode cX1_joinParts 16 = .ok (.invokevirtual 113, 3) := by decide +kernel
theorem dX1_joinParts_19 : decode cX1_joinParts 19 = .ok (.astore 4, 2) := by decide +kernel
theorem dX1_joinParts_21 : decode cX1_joinParts 21 = .ok (.aload_n 3, 1) := by decide +kernel
theorem dX1_joinParts_22 : decode cX1_joinParts 22 = .ok (.ifnull 13, 3) := by decide +kernel
theorem dX1_joinParts_25 : decode cX1_joinParts 25 = .ok (.aload 4, 2) := by decide +kernel
theorem dX1_joinParts_27 : decode cX1_joinParts 27 = .ok (.ifnull 8, 3) := by decide +kernel
theorem dX1_joinParts_30 : decode cX1_joinParts 30 = .ok (.iload_n 1, 1) := by decide +kernel
theorem dX1_joinParts_31 : decode cX1_joinParts 31 = .ok (.iload_n 2, 1) := by decide +kernel
theorem dX1_joinParts_32 : decode cX1_joinParts 32 = .ok (.if_icmp .ne 6, 3) := by decide +kernel
theorem dX1_joinParts_35 : decode cX1_joinParts 35 = .ok (.ldc 121, 2) := by decide +kernel
theorem dX1_joinParts_37 : decode cX1_joinParts 37 = .ok (.ireturn, 1) := by decide +kernel
theorem dX1_joinParts_38 : decode cX1_joinParts 38 = .ok (.aload_n 3, 1) := by decide +kernel
theorem dX1_joinParts_39 : decode cX1_joinParts 39 = .ok (.getfield 107, 3) := by decide +kernel
theorem dX1_joinParts_42 : decode cX1_joinParts 42 = .ok (.aload 4, 2) := by decide +kernel
theorem dX1_joinParts_44 : decode cX1_joinParts 44 = .ok (.getfield 107, 3) := by decide +kernel
theorem dX1_joinParts_47 : decode cX1_joinParts 47 = .ok (.if_icmp .ne 18, 3) := by decide +kernel
theorem dX1_joinParts_50 : decode cX1_joinParts 50 = .ok (.aload_n 3, 1) := by decide +kernel
theorem dX1_joinParts_51 : decode cX1_joinParts 51 = .ok (.getfield 79, 3) := by decide +kernel
theorem dX1_joinParts_54 : decode cX1_joinParts 54 = .ok (.ifCond .ne 11, 3) := by decide +kernel
theorem dX1_joinParts_57 : decode cX1_joinParts 57 = .ok (.aload 4, 2) := by decide +kernel
theorem dX1_joinParts_59 : decode cX1_joinParts 59 = .ok (.getfield 79, 3) := by decide +kernel
theorem dX1_joinParts_62 : decode cX1_joinParts 62 = .ok (.ifCond .eq 6, 3) := by decide +kernel
theorem dX1_joinParts_65 : decode cX1_joinParts 65 = .ok (.ldc 122, 2) := by decide +kernel
theorem dX1_joinParts_67 : decode cX1_joinParts 67 = .ok (.ireturn, 1) := by decide +kernel
theorem dX1_joinParts_68 : decode cX1_joinParts 68 = .ok (.aload_n 3, 1) := by decide +kernel
theorem dX1_joinParts_69 : decode cX1_joinParts 69 = .ok (.dup, 1) := by decide +kernel
theorem dX1_joinParts_70 : decode cX1_joinParts 70 = .ok (.getfield 86, 3) := by decide +kernel
theorem dX1_joinParts_73 : decode cX1_joinParts 73 = .ok (.aload 4, 2) := by decide +kernel
theorem dX1_joinParts_75 : decode cX1_joinParts 75 = .ok (.getfield 86, 3) := by decide +kernel
theorem dX1_joinParts_78 : decode cX1_joinParts 78 = .ok (.iadd, 1) := by decide +kernel
theorem dX1_joinParts_79 : decode cX1_joinParts 79 = .ok (.putfield 86, 3) := by decide +kernel
theorem dX1_joinParts_82 : decode cX1_joinParts 82 = .ok (.aload_n 3, 1) := by decide +kernel
theorem dX1_joinParts_83 : decode cX1_joinParts 83 = .ok (.dup, 1) := by decide +kernel
theorem dX1_joinParts_84 : decode cX1_joinParts 84 = .ok (.getfield 89, 3) := by decide +kernel
theorem dX1_joinParts_87 : decode cX1_joinParts 87 = .ok (.aload 4, 2) := by decide +kernel
theorem dX1_joinParts_89 : decode cX1_joinParts 89 = .ok (.getfield 89, 3) := by decide +kernel
theorem dX1_joinParts_92 : decode cX1_joinParts 92 = .ok (.iadd, 1) := by decide +kernel
theorem dX1_joinParts_93 : decode cX1_joinParts 93 = .ok (.putfield 89, 3) := by decide +kernel
theorem dX1_joinParts_96 : decode cX1_joinParts 96 = .ok (.aload_n 3, 1) := by decide +kernel
theorem dX1_joinParts_97 : decode cX1_joinParts 97 = .ok (.dup, 1) := by decide +kernel
theorem dX1_joinParts_98 : decode cX1_joinParts 98 = .ok (.getfield 98, 3) := by decide +kernel
theorem dX1_joinParts_101 : decode cX1_joinParts 101 = .ok (.aload 4, 2) := by decide +kernel
theorem dX1_joinParts_103 : decode cX1_joinParts 103 = .ok (.getfield 98, 3) := by decide +kernel
theorem dX1_joinParts_106 : decode cX1_joinParts 106 = .ok (.iadd, 1) := by decide +kernel
theorem dX1_joinParts_107 : decode cX1_joinParts 107 = .ok (.putfield 98, 3) := by decide +kernel
theorem dX1_joinParts_110 : decode cX1_joinParts 110 = .ok (.aload_n 3, 1) := by decide +kernel
theorem dX1_joinParts_111 : decode cX1_joinParts 111 = .ok (.aload_n 3, 1) := by decide +kernel
theorem dX1_joinParts_112 : decode cX1_joinParts 112 = .ok (.getfield 101, 3) := by decide +kernel
theorem dX1_joinParts_115 : decode cX1_joinParts 115 = .ok (.aload 4, 2) := by decide +kernel
theorem dX1_joinParts_117 : decode cX1_joinParts 117 = .ok (.getfield 101, 3) := by decide +kernel
theorem dX1_joinParts_120 : decode cX1_joinParts 120 = .ok (.invokestatic 126, 3) := by decide +kernel
theorem dX1_joinParts_123 : decode cX1_joinParts 123 = .ok (.putfield 101, 3) := by decide +kernel
theorem dX1_joinParts_126 : decode cX1_joinParts 126 = .ok (.aload 4, 2) := by decide +kernel
theorem dX1_joinParts_128 : decode cX1_joinParts 128 = .ok (.iconst 5, 1) := by decide +kernel
theorem dX1_joinParts_129 : decode cX1_joinParts 129 = .ok (.putfield 79, 3) := by decide +kernel
theorem dX1_joinParts_132 : decode cX1_joinParts 132 = .ok (.aload_n 3, 1) := by decide +kernel
theorem dX1_joinParts_133 : decode cX1_joinParts 133 = .ok (.getfield 104, 3) := by decide +kernel
theorem dX1_joinParts_136 : decode cX1_joinParts 136 = .ok (.ireturn, 1) := by decide +kernel
theorem dX1_addVehicle_0 : decode cX1_addVehicle 0 = .ok (.iload_n 1, 1) := by decide +kernel
theorem dX1_addVehicle_1 : decode cX1_addVehicle 1 = .ok (.iconst 1, 1) := by decide +kernel
theorem dX1_addVehicle_2 : decode cX1_addVehicle 2 = .ok (.sipush 200, 3) := by decide +kernel
theorem dX1_addVehicle_5 : decode cX1_addVehicle 5 = .ok (.invokestatic 117, 3) := by decide +kernel
theorem dX1_addVehicle_8 : decode cX1_addVehicle 8 = .ok (.ifCond .eq 14, 3) := by decide +kernel
theorem dX1_addVehicle_11 : decode cX1_addVehicle 11 = .ok (.iload_n 2, 1) := by decide +kernel
theorem dX1_addVehicle_12 : decode cX1_addVehicle 12 = .ok (.iconst 1, 1) := by decide +kernel
theorem dX1_addVehicle_13 : decode cX1_addVehicle 13 = .ok (.sipush 200, 3) := by decide +kernel
theorem dX1_addVehicle_16 : decode cX1_addVehicle 16 = .ok (.invokestatic 117, 3) := by decide +kernel
theorem dX1_addVehicle_19 : decode cX1_addVehicle 19 = .ok (.ifCond .ne 6, 3) := by decide +kernel
theorem dX1_addVehicle_22 : decode cX1_addVehicle 22 = .ok (.ldc 121, 2) := by decide +kernel
theorem dX1_addVehicle_24 : decode cX1_addVehicle 24 = .ok (.ireturn, 1) := by decide +kernel
theorem dX1_addVehicle_25 : decode cX1_addVehicle 25 = .ok (.aload_n 0, 1) := by decide +kernel
theorem dX1_addVehicle_26 : decode cX1_addVehicle 26 = .ok (.getfield 42, 3) := by decide +kernel
theorem dX1_addVehicle_29 : decode cX1_addVehicle 29 = .ok (.iconst 4, 1) := by decide +kernel
theorem dX1_addVehicle_30 : decode cX1_addVehicle 30 = .ok (.if_icmp .lt 6, 3) := by decide +kernel
theorem dX1_addVehicle_33 : decode cX1_addVehicle 33 = .ok (.ldc 82, 2) := by decide +kernel
theorem dX1_addVehicle_35 : decode cX1_addVehicle 35 = .ok (.ireturn, 1) := by decide +kernel
theorem dX1_addVehicle_36 : decode cX1_addVehicle 36 = .ok (.aload_n 0, 1) := by decide +kernel
theorem dX1_addVehicle_37 : decode cX1_addVehicle 37 = .ok (.getfield 19, 3) := by decide +kernel
theorem dX1_addVehicle_40 : decode cX1_addVehicle 40 = .ok (.aload_n 0, 1) := by decide +kernel
theorem dX1_addVehicle_41 : decode cX1_addVehicle 41 = .ok (.getfield 42, 3) := by decide +kernel
theorem dX1_addVehicle_44 : decode cX1_addVehicle 44 = .ok (.aaload, 1) := by decide +kernel
theorem dX1_addVehicle_45 : decode cX1_addVehicle 45 = .ok (.astore_n 3, 1) := by decide +kernel
theorem dX1_addVehicle_46 : decode cX1_addVehicle 46 = .ok (.aload_n 3, 1) := by decide +kernel
theorem dX1_addVehicle_47 : decode cX1_addVehicle 47 = .ok (.iload_n 1, 1) := by decide +kernel
theorem dX1_addVehicle_48 : decode cX1_addVehicle 48 = .ok (.putfield 135, 3) := by decide +kernel
theorem dX1_addVehicle_51 : decode cX1_addVehicle 51 = .ok (.aload_n 3, 1) := by decide +kernel
theorem dX1_addVehicle_52 : decode cX1_addVehicle 52 = .ok (.iload_n 2, 1) := by decide +kernel
theorem dX1_addVehicle_53 : decode cX1_addVehicle 53 = .ok (.putfield 138, 3) := by decide +kernel
theorem dX1_addVehicle_56 : decode cX1_addVehicle 56 = .ok (.aload_n 3, 1) := by decide +kernel
theorem dX1_addVehicle_57 : decode cX1_addVehicle 57 = .ok (.iconst 0, 1) := by decide +kernel
theorem dX1_addVehicle_58 : decode cX1_addVehicle 58 = .ok (.putfield 141, 3) := by decide +kernel
theorem dX1_addVehicle_61 : decode cX1_addVehicle 61 = .ok (.aload_n 3, 1) := by decide +kernel
theorem dX1_addVehicle_62 : decode cX1_addVehicle 62 = .ok (.iconst 0, 1) := by decide +kernel
theorem dX1_addVehicle_63 : decode cX1_addVehicle 63 = .ok (.putfield 142, 3) := by decide +kernel
theorem dX1_addVehicle_66 : decode cX1_addVehicle 66 = .ok (.aload_n 3, 1) := by decide +kernel
theorem dX1_addVehicle_67 : decode cX1_addVehicle 67 = .ok (.iconst 0, 1) := by decide +kernel
theorem dX1_addVehicle_68 : decode cX1_addVehicle 68 = .ok (.putfield 145, 3) := by decide +kernel
theorem dX1_addVehicle_71 : decode cX1_addVehicle 71 = .ok (.aload_n 0, 1) := by decide +kernel
theorem dX1_addVehicle_72 : decode cX1_addVehicle 72 = .ok (.dup, 1) := by decide +kernel
theorem dX1_addVehicle_73 : decode cX1_addVehicle 73 = .ok (.getfield 42, 3) := by decide +kernel
theorem dX1_addVehicle_76 : decode cX1_addVehicle 76 = .ok (.iconst 1, 1) := by decide +kernel
theorem dX1_addVehicle_77 : decode cX1_addVehicle 77 = .ok (.iadd, 1) := by decide +kernel
theorem dX1_addVehicle_78 : decode cX1_addVehicle 78 = .ok (.putfield 42, 3) := by decide +kernel
theorem dX1_addVehicle_81 : decode cX1_addVehicle 81 = .ok (.aload_n 3, 1) := by decide +kernel
theorem dX1_addVehicle_82 : decode cX1_addVehicle 82 = .ok (.getfield 148, 3) := by decide +kernel
theorem dX1_addVehicle_85 : decode cX1_addVehicle 85 = .ok (.ireturn, 1) := by decide +kernel
theorem dX1_putInto_0 : decode cX1_putInto 0 = .ok (.aload_n 0, 1) := by decide +kernel
theorem dX1_putInto_1 : decode cX1_putInto 1 = .ok (.iload_n 1, 1) := by decide +kernel
theorem dX1_putInto_2 : decode cX1_putInto 2 = .ok (.invokevirtual 113, 3) := by decide +kernel
theorem dX1_putInto_5 : decode cX1_putInto 5 = .ok (.astore_n 3, 1) := by decide +kernel
theorem dX1_putInto_6 : decode cX1_putInto 6 = .ok (.aload_n 0, 1) := by decide +kernel
theorem dX1_putInto_7 : decode cX1_putInto 7 = .ok (.iload_n 2, 1) := by decide +kernel
theorem dX1_putInto_8 : decode cX1_putInto 8 = .ok (.invokevirtual 149, 3) := by decide +kernel
theorem dX1_putInto_11 : decode cX1_putInto 11 = .ok (.astore 4, 2) := by decide +kernel
theorem dX1_putInto_13 : decode cX1_putInto 13 = .ok (.aload_n 3, 1) := by decide +kernel
theorem dX1_putInto_14 : decode cX1_putInto 14 = .ok (.ifnull 8, 3) := by decide +kernel
theorem dX1_putInto_17 : decode cX1_putInto 17 = .ok (.aload 4, 2) := by decide +kernel
theorem dX1_putInto_19 : decode cX1_putInto 19 = .ok (.ifnonnull 6, 3) := by decide +kernel
theorem dX1_putInto_22 : decode cX1_putInto 22 = .ok (.ldc 121, 2) := by decide +kernel
theorem dX1_putInto_24 : decode cX1_putInto 24 = .ok (.ireturn, 1) := by decide +kernel
theorem dX1_putInto_25 : decode cX1_putInto 25 = .ok (.aload_n 0, 1) := by decide +kernel
theorem dX1_putInto_26 : decode cX1_putInto 26 = .ok (.aload 4, 2) := by decide +kernel
theorem dX1_putInto_28 : decode cX1_putInto 28 = .ok (.aload_n 3, 1) := by decide +kernel
theorem dX1_putInto_29 : decode cX1_putInto 29 = .ok (.invokevirtual 153, 3) := by decide +kernel
theorem dX1_putInto_32 : decode cX1_putInto 32 = .ok (.ifCond .ne 6, 3) := by decide +kernel
theorem dX1_putInto_35 : decode cX1_putInto 35 = .ok (.ldc 122, 2) := by decide +kernel
theorem dX1_putInto_37 : decode cX1_putInto 37 = .ok (.ireturn, 1) := by decide +kernel
theorem dX1_putInto_38 : decode cX1_putInto 38 = .ok (.aload_n 3, 1) := by decide +kernel
theorem dX1_putInto_39 : decode cX1_putInto 39 = .ok (.iconst 1, 1) := by decide +kernel
theorem dX1_putInto_40 : decode cX1_putInto 40 = .ok (.putfield 79, 3) := by decide +kernel
theorem dX1_putInto_43 : decode cX1_putInto 43 = .ok (.aload_n 3, 1) := by decide +kernel
theorem dX1_putInto_44 : decode cX1_putInto 44 = .ok (.aload 4, 2) := by decide +kernel
theorem dX1_putInto_46 : decode cX1_putInto 46 = .ok (.getfield 148, 3) := by decide +kernel
theorem dX1_putInto_49 : decode cX1_putInto 49 = .ok (.putfield 157, 3) := by decide +kernel
theorem dX1_putInto_52 : decode cX1_putInto 52 = .ok (.aload 4, 2) := by decide +kernel
theorem dX1_putInto_54 : decode cX1_putInto 54 = .ok (.getfield 135, 3) := by decide +kernel
theorem dX1_putInto_57 : decode cX1_putInto 57 = .ok (.aload_n 0, 1) := by decide +kernel
theorem dX1_putInto_58 : decode cX1_putInto 58 = .ok (.aload 4, 2) := by decide +kernel
theorem dX1_putInto_60 : decode cX1_putInto 60 = .ok (.invokevirtual 160, 3) := by decide +kernel
theorem dX1_putInto_63 : decode cX1_putInto 63 = .ok (.isub, 1) := by decide +kernel
theorem dX1_putInto_64 : decode cX1_putInto 64 = .ok (.ireturn, 1) := by decide +kernel
theorem dX1_takeOut_0 : decode cX1_takeOut 0 = .ok (.aload_n 0, 1) := by decide +kernel
theorem dX1_takeOut_1 : decode cX1_takeOut 1 = .ok (.iload_n 1, 1) := by decide +kernel
theorem dX1_takeOut_2 : decode cX1_takeOut 2 = .ok (.invokevirtual 113, 3) := by decide +kernel
theorem dX1_takeOut_5 : decode cX1_takeOut 5 = .ok (.astore_n 2, 1) := by decide +kernel
theorem dX1_takeOut_6 : decode cX1_takeOut 6 = .ok (.aload_n 2, 1) := by decide +kernel
theorem dX1_takeOut_7 : decode cX1_takeOut 7 = .ok (.ifnonnull 6, 3) := by decide +kernel
theorem dX1_takeOut_10 : decode cX1_takeOut 10 = .ok (.ldc 121, 2) := by decide +kernel
theorem dX1_takeOut_12 : decode cX1_takeOut 12 = .ok (.ireturn, 1) := by decide +kernel
theorem dX1_takeOut_13 : decode cX1_takeOut 13 = .ok (.aload_n 2, 1) := by decide +kernel
theorem dX1_takeOut_14 : decode cX1_takeOut 14 = .ok (.getfield 79, 3) := by decide +kernel
theorem dX1_takeOut_17 : decode cX1_takeOut 17 = .ok (.iconst 1, 1) := by decide +kernel
theorem dX1_takeOut_18 : decode cX1_takeOut 18 = .ok (.if_icmp .eq 6, 3) := by decide +kernel
theorem dX1_takeOut_21 : decode cX1_takeOut 21 = .ok (.ldc 122, 2) := by decide +kernel
theorem dX1_takeOut_23 : decode cX1_takeOut 23 = .ok (.ireturn, 1) := by decide +kernel
theorem dX1_takeOut_24 : decode cX1_takeOut 24 = .ok (.aload_n 2, 1) := by decide +kernel
theorem dX1_takeOut_25 : decode cX1_takeOut 25 = .ok (.iconst 0, 1) := by decide +kernel
theorem dX1_takeOut_26 : decode cX1_takeOut 26 = .ok (.putfield 79, 3) := by decide +kernel
theorem dX1_takeOut_29 : decode cX1_takeOut 29 = .ok (.aload_n 2, 1) := by decide +kernel
theorem dX1_takeOut_30 : decode cX1_takeOut 30 = .ok (.getfield 157, 3) := by decide +kernel
theorem dX1_takeOut_33 : decode cX1_takeOut 33 = .ok (.ireturn, 1) := by decide +kernel
theorem dX1_loadByRule_0 : decode cX1_loadByRule 0 = .ok (.aload_n 0, 1) := by decide +kernel
theorem dX1_loadByRule_1 : decode cX1_loadByRule 1 = .ok (.iload_n 1, 1) := by decide +kernel
theorem dX1_loadByRule_2 : decode cX1_loadByRule 2 = .ok (.invokevirtual 149, 3) := by decide +kernel
theorem dX1_loadByRule_5 : decode cX1_loadByRule 5 = .ok (.astore 4, 2) := by decide +kernel
theorem dX1_loadByRule_7 : decode cX1_loadByRule 7 = .ok (.aload 4, 2) := by decide +kernel
theorem dX1_loadByRule_9 : decode cX1_loadByRule 9 = .ok (.ifnull 21, 3) := by decide +kernel
theorem dX1_loadByRule_12 : decode cX1_loadByRule 12 = .ok (.iload_n 2, 1) := by decide +kernel
theorem dX1_loadByRule_13 : decode cX1_loadByRule 13 = .ok (.iconst 1, 1) := by decide +kernel
theorem dX1_loadByRule_14 : decode cX1_loadByRule 14 = .ok (.iconst 4, 1) := by decide +kernel
theorem dX1_loadByRule_15 : decode cX1_loadByRule 15 = .ok (.invokestatic 117, 3) := by decide +kernel
theorem dX1_loadByRule_18 : decode cX1_loadByRule 18 = .ok (.ifCond .eq 12, 3) := by decide +kernel
theorem dX1_loadByRule_21 : decode cX1_loadByRule 21 = .ok (.iload_n 3, 1) := by decide +kernel
theorem dX1_loadByRule_22 : decode cX1_loadByRule 22 = .ok (.iconst 0, 1) := by decide +kernel
theorem dX1_loadByRule_23 : decode cX1_loadByRule 23 = .ok (.iconst 2, 1) := by decide +kernel
theorem dX1_loadByRule_24 : decode cX1_loadByRule 24 = .ok (.invokestatic 117, 3) := by decide +kernel
theorem dX1_loadByRule_27 : decode cX1_loadByRule 27 = .ok (.ifCond .ne 6, 3) := by decide +kernel
theorem dX1_loadByRule_30 : decode cX1_loadByRule 30 = .ok (.ldc 121, 2) := by decide +kernel
theorem dX1_loadByRule_32 : decode cX1_loadByRule 32 = .ok (.ireturn, 1) := by decide +kernel
theorem dX1_loadByRule_33 : decode cX1_loadByRule 33 = .ok (.aload 4, 2) := by decide +kernel
theorem dX1_loadByRule_35 : decode cX1_loadByRule 35 = .ok (.getfield 141, 3) := by decide +kernel
theorem dX1_loadByRule_38 : decode cX1_loadByRule 38 = .ok (.ifCond .eq 6, 3) := by decide +kernel
theorem dX1_loadByRule_41 : decode cX1_loadByRule 41 = .ok (.ldc 122, 2) := by decide +kernel
theorem dX1_loadByRule_43 : decode cX1_loadByRule 43 = .ok (.ireturn, 1) := by decide +kernel
theorem dX1_loadByRule_44 : decode cX1_loadByRule 44 = .ok (.iconst 0, 1) := by decide +kernel
theorem dX1_loadByRule_45 : decode cX1_loadByRule 45 = .ok (.istore 5, 2) := by decide +kernel
theorem dX1_loadByRule_47 : decode cX1_loadByRule 47 = .ok (.iconst 0, 1) := by decide +kernel
theorem dX1_loadByRule_48 : decode cX1_loadByRule 48 = .ok (.istore 6, 2) := by decide +kernel
theorem dX1_loadByRule_50 : decode cX1_loadByRule 50 = .ok (.iconst 0, 1) := by decide +kernel
theorem dX1_loadByRule_51 : decode cX1_loadByRule 51 = .ok (.istore 7, 2) := by decide +kernel
theorem dX1_loadByRule_53 : decode cX1_loadByRule 53 = .ok (.iload 7, 2) := by decide +kernel
theorem dX1_loadByRule_55 : decode cX1_loadByRule 55 = .ok (.aload_n 0, 1) := by decide +kernel
theorem dX1_loadByRule_56 : decode cX1_loadByRule 56 = .ok (.getfield 38, 3) := by decide +kernel
theorem dX1_loadByRule_59 : decode cX1_loadByRule 59 = .ok (.if_icmp .ge 78, 3) := by decide +kernel
theorem dX1_loadByRule_62 : decode cX1_loadByRule 62 = .ok (.aload_n 0, 1) := by decide +kernel
theorem dX1_loadByRule_63 : decode cX1_loadByRule 63 = .ok (.iload_n 2, 1) := by decide +kernel
theorem dX1_loadByRule_64 : decode cX1_loadByRule 64 = .ok (.iload_n 3, 1) := by decide +kernel
theorem dX1_loadByRule_65 : decode cX1_loadByRule 65 = .ok (.iload 6, 2) := by decide +kernel
theorem dX1_loadByRule_67 : decode cX1_loadByRule 67 = .ok (.invokevirtual 164, 3) := by decide +kernel
theorem dX1_loadByRule_70 : decode cX1_loadByRule 70 = .ok (.astore 8, 2) := by decide +kernel
theorem dX1_loadByRule_72 : decode cX1_loadByRule 72 = .ok (.aload 8, 2) := by decide +kernel
theorem dX1_loadByRule_74 : decode cX1_loadByRule 74 = .ok (.ifnonnull 6, 3) := by decide +kernel
theorem dX1_loadByRule_77 : decode cX1_loadByRule 77 = .ok (.goto 60, 3) := by decide +kernel
theorem dX1_loadByRule_80 : decode cX1_loadByRule 80 = .ok (.iload 6, 2) := by decide +kernel
theorem dX1_loadByRule_82 : decode cX1_loadByRule 82 = .ok (.iconst 1, 1) := by decide +kernel
theorem dX1_loadByRule_83 : decode cX1_loadByRule 83 = .ok (.aload 8, 2) := by decide +kernel
theorem dX1_loadByRule_85 : decode cX1_loadByRule 85 = .ok (.getfield 104, 3) := by decide +kernel
theorem dX1_loadByRule_88 : decode cX1_loadByRule 88 = .ok (.ishl, 1) := by decide +kernel
theorem dX1_loadByRule_89 : decode cX1_loadByRule 89 = .ok (.ior, 1) := by decide +kernel
theorem dX1_loadByRule_90 : decode cX1_loadByRule 90 = .ok (.istore 6, 2) := by decide +kernel
theorem dX1_loadByRule_92 : decode cX1_loadByRule 92 = .ok (.aload_n 0, 1) := by decide +kernel
theorem dX1_loadByRule_93 : decode cX1_loadByRule 93 = .ok (.aload 4, 2) := by decide +kernel
theorem dX1_loadByRule_95 : decode cX1_loadByRule 95 = .ok (.aload 8, 2) := by decide +kernel
theorem dX1_loadByRule_97 : decode cX1_loadByRule 97 = .ok (.invokevirtual 153, 3) := by decide +kernel
theorem dX1_loadByRule_100 : decode cX1_loadByRule 100 = .ok (.ifCond .eq 31, 3) := by decide +kernel
theorem dX1_loadByRule_103 : decode cX1_loadByRule 103 = .ok (.aload 8, 2) := by decide +kernel
theorem dX1_loadByRule_105 : decode cX1_loadByRule 105 = .ok (.iconst 1, 1) := by decide +kernel
theorem dX1_loadByRule_106 : decode cX1_loadByRule 106 = .ok (.putfield 79, 3) := by decide +kernel
theorem dX1_loadByRule_109 : decode cX1_loadByRule 109 = .ok (.aload 8, 2) := by decide +kernel
theorem dX1_loadByRule_111 : decode cX1_loadByRule 111 = .ok (.aload 4, 2) := by decide +kernel
theorem dX1_loadByRule_113 : decode cX1_loadByRule 113 = .ok (.getfield 148, 3) := by decide +kernel
theorem dX1_loadByRule_116 : decode cX1_loadByRule 116 = .ok (.putfield 157, 3) := by decide +kernel
theorem dX1_loadByRule_119 : decode cX1_loadByRule 119 = .ok (.iload 5, 2) := by decide +kernel
theorem dX1_loadByRule_121 : decode cX1_loadByRule 121 = .ok (.iconst 1, 1) := by decide +kernel
theorem dX1_loadByRule_122 : decode cX1_loadByRule 122 = .ok (.aload 8, 2) := by decide +kernel
theorem dX1_loadByRule_124 : decode cX1_loadByRule 124 = .ok (.getfield 104, 3) := by decide +kernel
theorem dX1_loadByRule_127 : decode cX1_loadByRule 127 = .ok (.ishl, 1) := by decide +kernel
theorem dX1_loadByRule_128 : decode cX1_loadByRule 128 = .ok (.ior, 1) := by decide +kernel
theorem dX1_loadByRule_129 : decode cX1_loadByRule 129 = .ok (.istore 5, 2) := by decide +kernel
theorem dX1_loadByRule_131 : decode cX1_loadByRule 131 = .ok (.iinc 7 1, 3) := by decide +kernel
theorem dX1_loadByRule_134 : decode cX1_loadByRule 134 = .ok (.goto (-81), 3) := by decide +kernel
theorem dX1_loadByRule_137 : decode cX1_loadByRule 137 = .ok (.iload 5, 2) := by decide +kernel
theorem dX1_loadByRule_139 : decode cX1_loadByRule 139 = .ok (.ireturn, 1) := by decide +kernel
theorem dX1_nextByRule_0 : decode cX1_nextByRule 0 = .ok (.aconst_null, 1) := by decide +kernel
theorem dX1_nextByRule_1 : decode cX1_nextByRule 1 = .ok (.astore 4, 2) := by decide +kernel
theorem dX1_nextByRule_3 : decode cX1_nextByRule 3 = .ok (.iconst 0, 1) := by decide +kernel
theorem dX1_nextByRule_4 : decode cX1_nextByRule 4 = .ok (.istore 5, 2) := by decide +kernel
theorem dX1_nextByRule_6 : decode cX1_nextByRule 6 = .ok (.iload 5, 2) := by decide +kernel
theorem dX1_nextByRule_8 : decode cX1_nextByRule 8 = .ok (.aload_n 0, 1) := by decide +kernel
theorem dX1_nextByRule_9 : decode cX1_nextByRule 9 = .ok (.getfield 38, 3) := by decide +kernel
theorem dX1_nextByRule_12 : decode cX1_nextByRule 12 = .ok (.if_icmp .ge 76, 3) := by decide +kernel
theorem dX1_nextByRule_15 : decode cX1_nextByRule 15 = .ok (.aload_n 0, 1) := by decide +kernel
theorem dX1_nextByRule_16 : decode cX1_nextByRule 16 = .ok (.getfield 11, 3) := by decide +kernel
theorem dX1_nextByRule_19 : decode cX1_nextByRule 19 = .ok (.iload 5, 2) := by decide +kernel
theorem dX1_nextByRule_21 : decode cX1_nextByRule 21 = .ok (.aaload, 1) := by decide +kernel
theorem dX1_nextByRule_22 : decode cX1_nextByRule 22 = .ok (.astore 6, 2) := by decide +kernel
theorem dX1_nextByRule_24 : decode cX1_nextByRule 24 = .ok (.aload 6, 2) := by decide +kernel
theorem dX1_nextByRule_26 : decode cX1_nextByRule 26 = .ok (.getfield 79, 3) := by decide +kernel
theorem dX1_nextByRule_29 : decode cX1_nextByRule 29 = .ok (.ifCond .ne 25, 3) := by decide +kernel
theorem dX1_nextByRule_32 : decode cX1_nextByRule 32 = .ok (.aload 6, 2) := by decide +kernel
theorem dX1_nextByRule_34 : decode cX1_nextByRule 34 = .ok (.getfield 83, 3) := by decide +kernel
theorem dX1_nextByRule_37 : decode cX1_nextByRule 37 = .ok (.iload_n 1, 1) := by decide +kernel
theorem dX1_nextByRule_38 : decode cX1_nextByRule 38 = .ok (.if_icmp .ne 16, 3) := by decide +kernel
theorem dX1_nextByRule_41 : decode cX1_nextByRule 41 = .ok (.iload_n 3, 1) := by decide +kernel
theorem dX1_nextByRule_42 : decode cX1_nextByRule 42 = .ok (.iload 5, 2) := by decide +kernel
theorem dX1_nextByRule_44 : decode cX1_nextByRule 44 = .ok (.ishr, 1) := by decide +kernel
theorem dX1_nextByRule_45 : decode cX1_nextByRule 45 = .ok (.iconst 1, 1) := by decide +kernel
theorem dX1_nextByRule_46 : decode cX1_nextByRule 46 = .ok (.iand, 1) := by decide +kernel
theorem dX1_nextByRule_47 : decode cX1_nextByRule 47 = .ok (.ifCond .ne 7, 3) := by decide +kernel
theorem dX1_nextByRule_50 : decode cX1_nextByRule 50 = .ok (.iconst 1, 1) := by decide +kernel
theorem dX1_nextByRule_51 : decode cX1_nextByRule 51 = .ok (.goto 4, 3) := by decide +kernel
theorem dX1_nextByRule_54 : decode cX1_nextByRule 54 = .ok (.iconst 0, 1) := by decide +kernel
theorem dX1_nextByRule_55 : decode cX1_nextByRule 55 = .ok (.istore 7, 2) := by decide +kernel
theorem dX1_nextByRule_57 : decode cX1_nextByRule 57 = .ok (.iload 7, 2) := by decide +kernel
theorem dX1_nextByRule_59 : decode cX1_nextByRule 59 = .ok (.ifCond .eq 23, 3) := by decide +kernel
theorem dX1_nextByRule_62 : decode cX1_nextByRule 62 = .ok (.aload 4, 2) := by decide +kernel
theorem dX1_nextByRule_64 : decode cX1_nextByRule 64 = .ok (.ifnull 14, 3) := by decide +kernel
theorem dX1_nextByRule_67 : decode cX1_nextByRule 67 = .ok (.aload 6, 2) := by decide +kernel
theorem dX1_nextByRule_69 : decode cX1_nextByRule 69 = .ok (.aload 4, 2) := by decide +kernel
theorem dX1_nextByRule_71 : decode cX1_nextByRule 71 = .ok (.iload_n 2, 1) := by decide +kernel
theorem dX1_nextByRule_72 : decode cX1_nextByRule 72 = .ok (.invokevirtual 168, 3) := by decide +kernel
theorem dX1_nextByRule_75 : decode cX1_nextByRule 75 = .ok (.ifCond .eq 7, 3) := by decide +kernel
theorem dX1_nextByRule_78 : decode cX1_nextByRule 78 = .ok (.aload 6, 2) := by decide +kernel
theorem dX1_nextByRule_80 : decode cX1_nextByRule 80 = .ok (.astore 4, 2) := by decide +kernel
theorem dX1_nextByRule_82 : decode cX1_nextByRule 82 = .ok (.iinc 5 1, 3) := by decide +kernel
theorem dX1_nextByRule_85 : decode cX1_nextByRule 85 = .ok (.goto (-79), 3) := by decide +kernel
theorem dX1_nextByRule_88 : decode cX1_nextByRule 88 = .ok (.aload 4, 2) := by decide +kernel
theorem dX1_nextByRule_90 : decode cX1_nextByRule 90 = .ok (.areturn, 1) := by decide +kernel
theorem dX1_sendOff_0 : decode cX1_sendOff 0 = .ok (.aload_n 0, 1) := by decide +kernel
theorem dX1_sendOff_1 : decode cX1_sendOff 1 = .ok (.iload_n 1, 1) := by decide +kernel
theorem dX1_sendOff_2 : decode cX1_sendOff 2 = .ok (.invokevirtual 149, 3) := by decide +kernel
theorem dX1_sendOff_5 : decode cX1_sendOff 5 = .ok (.astore_n 2, 1) := by decide +kernel
theorem dX1_sendOff_6 : decode cX1_sendOff 6 = .ok (.aload_n 2, 1) := by decide +kernel
theorem dX1_sendOff_7 : decode cX1_sendOff 7 = .ok (.ifnonnull 6, 3) := by decide +kernel
theorem dX1_sendOff_10 : decode cX1_sendOff 10 = .ok (.ldc 121, 2) := by decide +kernel
theorem dX1_sendOff_12 : decode cX1_sendOff 12 = .ok (.ireturn, 1) := by decide +kernel
theorem dX1_sendOff_13 : decode cX1_sendOff 13 = .ok (.aload_n 0, 1) := by decide +kernel
theorem dX1_sendOff_14 : decode cX1_sendOff 14 = .ok (.aload_n 2, 1) := by decide +kernel
theorem dX1_sendOff_15 : decode cX1_sendOff 15 = .ok (.invokevirtual 172, 3) := by decide +kernel
theorem dX1_sendOff_18 : decode cX1_sendOff 18 = .ok (.istore_n 3, 1) := by decide +kernel
theorem dX1_sendOff_19 : decode cX1_sendOff 19 = .ok (.aload_n 2, 1) := by decide +kernel
theorem dX1_sendOff_20 : decode cX1_sendOff 20 = .ok (.getfield 141, 3) := by decide +kernel
theorem dX1_sendOff_23 : decode cX1_sendOff 23 = .ok (.ifCond .ne 7, 3) := by decide +kernel
theorem dX1_sendOff_26 : decode cX1_sendOff 26 = .ok (.iload_n 3, 1) := by decide +kernel
theorem dX1_sendOff_27 : decode cX1_sendOff 27 = .ok (.ifCond .ne 6, 3) := by decide +kernel
theorem dX1_sendOff_30 : decode cX1_sendOff 30 = .ok (.ldc 122, 2) := by decide +kernel
theorem dX1_sendOff_32 : decode cX1_sendOff 32 = .ok (.ireturn, 1) := by decide +kernel
theorem dX1_sendOff_33 : decode cX1_sendOff 33 = .ok (.iconst 0, 1) := by decide +kernel
theorem dX1_sendOff_34 : decode cX1_sendOff 34 = .ok (.istore 4, 2) := by decide +kernel
theorem dX1_sendOff_36 : decode cX1_sendOff 36 = .ok (.iload 4, 2) := by decide +kernel
theorem dX1_sendOff_38 : decode cX1_sendOff 38 = .ok (.aload_n 0, 1) := by decide +kernel
theorem dX1_sendOff_39 : decode cX1_sendOff 39 = .ok (.getfield 38, 3) := by decide +kernel
theorem dX1_sendOff_42 : decode cX1_sendOff 42 = .ok (.if_icmp .ge 48, 3) := by decide +kernel
theorem dX1_sendOff_45 : decode cX1_sendOff 45 = .ok (.aload_n 0, 1) := by decide +kernel
theorem dX1_sendOff_46 : decode cX1_sendOff 46 = .ok (.getfield 11, 3) := by decide +kernel
theorem dX1_sendOff_49 : decode cX1_sendOff 49 = .ok (.iload 4, 2) := by decide +kernel
theorem dX1_sendOff_51 : decode cX1_sendOff 51 = .ok (.aaload, 1) := by decide +kernel
theorem dX1_sendOff_52 : decode cX1_sendOff 52 = .ok (.aload_n 2, 1) := by decide +kernel
theorem dX1_sendOff_53 : decode cX1_sendOff 53 = .ok (.invokevirtual 175, 3) := by decide +kernel
theorem dX1_sendOff_56 : decode cX1_sendOff 56 = .ok (.ifCond .eq 28, 3) := by decide +kernel
theorem dX1_sendOff_59 : decode cX1_sendOff 59 = .ok (.aload_n 0, 1) := by decide +kernel
theorem dX1_sendOff_60 : decode cX1_sendOff 60 = .ok (.getfield 11, 3) := by decide +kernel
theorem dX1_sendOff_63 : decode cX1_sendOff 63 = .ok (.iload 4, 2) := by decide +kernel
theorem dX1_sendOff_65 : decode cX1_sendOff 65 = .ok (.aaload, 1) := by decide +kernel
theorem dX1_sendOff_66 : decode cX1_sendOff 66 = .ok (.iconst 2, 1) := by decide +kernel
theorem dX1_sendOff_67 : decode cX1_sendOff 67 = .ok (.putfield 79, 3) := by decide +kernel
theorem dX1_sendOff_70 : decode cX1_sendOff 70 = .ok (.aload_n 0, 1) := by decide +kernel
theorem dX1_sendOff_71 : decode cX1_sendOff 71 = .ok (.getfield 11, 3) := by decide +kernel
theorem dX1_sendOff_74 : decode cX1_sendOff 74 = .ok (.iload 4, 2) := by decide +kernel
theorem dX1_sendOff_76 : decode cX1_sendOff 76 = .ok (.aaload, 1) := by decide +kernel
theorem dX1_sendOff_77 : decode cX1_sendOff 77 = .ok (.aload_n 0, 1) := by decide +kernel
theorem dX1_sendOff_78 : decode cX1_sendOff 78 = .ok (.getfield 48, 3) := by decide +kernel
theorem dX1_sendOff_81 : decode cX1_sendOff 81 = .ok (.putfield 179, 3) := by decide +kernel
theorem dX1_sendOff_84 : decode cX1_sendOff 84 = .ok (.iinc 4 1, 3) := by decide +kernel
theorem dX1_sendOff_87 : decode cX1_sendOff 87 = .ok (.goto (-51), 3) := by decide +kernel
theorem dX1_sendOff_90 : decode cX1_sendOff 90 = .ok (.aload_n 2, 1) := by decide +kernel
theorem dX1_sendOff_91 : decode cX1_sendOff 91 = .ok (.iconst 1, 1) := by decide +kernel
theorem dX1_sendOff_92 : decode cX1_sendOff 92 = .ok (.putfield 141, 3) := by decide +kernel
theorem dX1_sendOff_95 : decode cX1_sendOff 95 = .ok (.aload_n 2, 1) := by decide +kernel
theorem dX1_sendOff_96 : decode cX1_sendOff 96 = .ok (.iload_n 3, 1) := by decide +kernel
theorem dX1_sendOff_97 : decode cX1_sendOff 97 = .ok (.putfield 182, 3) := by decide +kernel
theorem dX1_sendOff_100 : decode cX1_sendOff 100 = .ok (.aload_n 2, 1) := by decide +kernel
theorem dX1_sendOff_101 : decode cX1_sendOff 101 = .ok (.iload_n 3, 1) := by decide +kernel
theorem dX1_sendOff_102 : decode cX1_sendOff 102 = .ok (.aload_n 0, 1) := by decide +kernel
theorem dX1_sendOff_103 : decode cX1_sendOff 103 = .ok (.getfield 29, 3) := by decide +kernel
theorem dX1_sendOff_106 : decode cX1_sendOff 106 = .ok (.iconst 0, 1) := by decide +kernel
theorem dX1_sendOff_107 : decode cX1_sendOff 107 = .ok (.iaload, 1) := by decide +kernel
theorem dX1_sendOff_108 : decode cX1_sendOff 108 = .ok (.imul, 1) := by decide +kernel
theorem dX1_sendOff_109 : decode cX1_sendOff 109 = .ok (.putfield 183, 3) := by decide +kernel
theorem dX1_sendOff_112 : decode cX1_sendOff 112 = .ok (.aload_n 2, 1) := by decide +kernel
theorem dX1_sendOff_113 : decode cX1_sendOff 113 = .ok (.aload_n 0, 1) := by decide +kernel
theorem dX1_sendOff_114 : decode cX1_sendOff 114 = .ok (.getfield 48, 3) := by decide +kernel
theorem dX1_sendOff_117 : decode cX1_sendOff 117 = .ok (.aload_n 2, 1) := by decide +kernel
theorem dX1_sendOff_118 : decode cX1_sendOff 118 = .ok (.getfield 183, 3) := by decide +kernel
theorem dX1_sendOff_121 : decode cX1_sendOff 121 = .ok (.iadd, 1) := by decide +kernel
theorem dX1_sendOff_122 : decode cX1_sendOff 122 = .ok (.putfield 186, 3) := by decide +kernel
theorem dX1_sendOff_125 : decode cX1_sendOff 125 = .ok (.aload_n 2, 1) := by decide +kernel
theorem dX1_sendOff_126 : decode cX1_sendOff 126 = .ok (.getfield 186, 3) := by decide +kernel
theorem dX1_sendOff_129 : decode cX1_sendOff 129 = .ok (.ireturn, 1) := by decide +kernel
theorem dX1_makeOffer_0 : decode cX1_makeOffer 0 = .ok (.iload_n 1, 1) := by decide +kernel
theorem dX1_makeOffer_1 : decode cX1_makeOffer 1 = .ok (.iconst 1, 1) := by decide +kernel
theorem dX1_makeOffer_2 : decode cX1_makeOffer 2 = .ok (.iconst 4, 1) := by decide +kernel
theorem dX1_makeOffer_3 : decode cX1_makeOffer 3 = .ok (.invokestatic 117, 3) := by decide +kernel
theorem dX1_makeOffer_6 : decode cX1_makeOffer 6 = .ok (.ifCond .eq 46, 3) := by decide +kernel
theorem dX1_makeOffer_9 : decode cX1_makeOffer 9 = .ok (.iload_n 2, 1) := by decide +kernel
theorem dX1_makeOffer_10 : decode cX1_makeOffer 10 = .ok (.iconst 1, 1) := by decide +kernel
theorem dX1_makeOffer_11 : decode cX1_makeOffer 11 = .ok (.bipush 99, 2) := by decide +kernel
theorem dX1_makeOffer_13 : decode cX1_makeOffer 13 = .ok (.invokestatic 117, 3) := by decide +kernel
theorem dX1_makeOffer_16 : decode cX1_makeOffer 16 = .ok (.ifCond .eq 36, 3) := by decide +kernel
theorem dX1_makeOffer_19 : decode cX1_makeOffer 19 = .ok (.iload_n 3, 1) := by decide +kernel
theorem dX1_makeOffer_20 : decode cX1_makeOffer 20 = .ok (.iconst 1, 1) := by decide +kernel
theorem dX1_makeOffer_21 : decode cX1_makeOffer 21 = .ok (.bipush 99, 2) := by decide +kernel
theorem dX1_makeOffer_23 : decode cX1_makeOffer 23 = .ok (.invokestatic 117, 3) := by decide +kernel
theorem dX1_makeOffer_26 : decode cX1_makeOffer 26 = .ok (.ifCond .eq 26, 3) := by decide +kernel
theorem dX1_makeOffer_29 : decode cX1_makeOffer 29 = .ok (.iload 4, 2) := by decide +kernel
theorem dX1_makeOffer_31 : decode cX1_makeOffer 31 = .ok (.iconst 0, 1) := by decide +kernel
theorem dX1_makeOffer_32 : decode cX1_makeOffer 32 = .ok (.sipush 999, 3) := by decide +kernel
theorem dX1_makeOffer_35 : decode cX1_makeOffer 35 = .ok (.invokestatic 117, 3) := by decide +kernel
theorem dX1_makeOffer_38 : decode cX1_makeOffer 38 = .ok (.ifCond .eq 14, 3) := by decide +kernel
theorem dX1_makeOffer_41 : decode cX1_makeOffer 41 = .ok (.iload 5, 2) := by decide +kernel
theorem dX1_makeOffer_43 : decode cX1_makeOffer 43 = .ok (.iconst 0, 1) := by decide +kernel
theorem dX1_makeOffer_44 : decode cX1_makeOffer 44 = .ok (.bipush 99, 2) := by decide +kernel
theorem dX1_makeOffer_46 : decode cX1_makeOffer 46 = .ok (.invokestatic 117, 3) := by decide +kernel
theorem dX1_makeOffer_49 : decode cX1_makeOffer 49 = .ok (.ifCond .ne 6, 3) := by decide +kernel
theorem dX1_makeOffer_52 : decode cX1_makeOffer 52 = .ok (.ldc 121, 2) := by decide +kernel
theorem dX1_makeOffer_54 : decode cX1_makeOffer 54 = .ok (.ireturn, 1) := by decide +kernel
theorem dX1_makeOffer_55 : decode cX1_makeOffer 55 = .ok (.aload_n 0, 1) := by decide +kernel
theorem dX1_makeOffer_56 : decode cX1_makeOffer 56 = .ok (.getfield 45, 3) := by decide +kernel
theorem dX1_makeOffer_59 : decode cX1_makeOffer 59 = .ok (.bipush 10, 2) := by decide +kernel
theorem dX1_makeOffer_61 : decode cX1_makeOffer 61 = .ok (.if_icmp .lt 6, 3) := by decide +kernel
theorem dX1_makeOffer_64 : decode cX1_makeOffer 64 = .ok (.ldc 82, 2) := by decide +kernel
theorem dX1_makeOffer_66 : decode cX1_makeOffer 66 = .ok (.ireturn, 1) := by decide +kernel
theorem dX1_makeOffer_67 : decode cX1_makeOffer 67 = .ok (.aload_n 0, 1) := by decide +kernel
theorem dX1_makeOffer_68 : decode cX1_makeOffer 68 = .ok (.getfield 25, 3) := by decide +kernel
theorem dX1_makeOffer_71 : decode cX1_makeOffer 71 = .ok (.aload_n 0, 1) := by decide +kernel
theorem dX1_makeOffer_72 : decode cX1_makeOffer 72 = .ok (.getfield 45, 3) := by decide +kernel
theorem dX1_makeOffer_75 : decode cX1_makeOffer 75 = .ok (.aaload, 1) := by decide +kernel
theorem dX1_makeOffer_76 : decode cX1_makeOffer 76 = .ok (.astore 6, 2) := by decide +kernel
theorem dX1_makeOffer_78 : decode cX1_makeOffer 78 = .ok (.aload 6, 2) := by decide +kernel
theorem dX1_makeOffer_80 : decode cX1_makeOffer 80 = .ok (.iload_n 1, 1) := by decide +kernel
theorem dX1_makeOffer_81 : decode cX1_makeOffer 81 = .ok (.putfield 189, 3) := by decide +kernel
theorem dX1_makeOffer_84 : decode cX1_makeOffer 84 = .ok (.aload 6, 2) := by decide +kernel
theorem dX1_makeOffer_86 : decode cX1_makeOffer 86 = .ok (.iload_n 2, 1) := by decide +kernel
theorem dX1_makeOffer_87 : decode cX1_makeOffer 87 = .ok (.putfield 190, 3) := by decide +kernel
theorem dX1_makeOffer_90 : decode cX1_makeOffer 90 = .ok (.aload 6, 2) := by decide +kernel
theorem dX1_makeOffer_92 : decode cX1_makeOffer 92 = .ok (.iload_n 3, 1) := by decide +kernel
theorem dX1_makeOffer_93 : decode cX1_makeOffer 93 = .ok (.putfield 191, 3) := by decide +kernel
theorem dX1_makeOffer_96 : decode cX1_makeOffer 96 = .ok (.aload 6, 2) := by decide +kernel
theorem dX1_makeOffer_98 : decode cX1_makeOffer 98 = .ok (.iload 4, 2) := by decide +kernel
theorem dX1_makeOffer_100 : decode cX1_makeOffer 100 = .ok (.putfield 192, 3) := by decide +kernel
theorem dX1_makeOffer_103 : decode cX1_makeOffer 103 = .ok (.aload 6, 2) := by decide +kernel
theorem dX1_makeOffer_105 : decode cX1_makeOffer 105 = .ok (.aload_n 0, 1) := by decide +kernel
theorem dX1_makeOffer_106 : decode cX1_makeOffer 106 = .ok (.getfield 48, 3) := by decide +kernel
theorem dX1_makeOffer_109 : decode cX1_makeOffer 109 = .ok (.iload 5, 2) := by decide +kernel
theorem dX1_makeOffer_111 : decode cX1_makeOffer 111 = .ok (.iadd, 1) := by decide +kernel
theorem dX1_makeOffer_112 : decode cX1_makeOffer 112 = .ok (.putfield 195, 3) := by decide +kernel
theorem dX1_makeOffer_115 : decode cX1_makeOffer 115 = .ok (.aload_n 0, 1) := by decide +kernel
theorem dX1_makeOffer_116 : decode cX1_makeOffer 116 = .ok (.dup, 1) := by decide +kernel
theorem dX1_makeOffer_117 : decode cX1_makeOffer 117 = .ok (.getfield 45, 3) := by decide +kernel
theorem dX1_makeOffer_120 : decode cX1_makeOffer 120 = .ok (.iconst 1, 1) := by decide +kernel
theorem dX1_makeOffer_121 : decode cX1_makeOffer 121 = .ok (.iadd, 1) := by decide +kernel
theorem dX1_makeOffer_122 : decode cX1_makeOffer 122 = .ok (.putfield 45, 3) := by decide +kernel
theorem dX1_makeOffer_125 : decode cX1_makeOffer 125 = .ok (.aload_n 0, 1) := by decide +kernel
theorem dX1_makeOffer_126 : decode cX1_makeOffer 126 = .ok (.getfield 45, 3) := by decide +kernel
theorem dX1_makeOffer_129 : decode cX1_makeOffer 129 = .ok (.ireturn, 1) := by decide +kernel
theorem dX1_letPass_0 : decode cX1_letPass 0 = .ok (.iload_n 1, 1) := by decide +kernel
theorem dX1_letPass_1 : decode cX1_letPass 1 = .ok (.iconst 1, 1) := by decide +kernel
theorem dX1_letPass_2 : decode cX1_letPass 2 = .ok (.bipush 99, 2) := by decide +kernel
theorem dX1_letPass_4 : decode cX1_letPass 4 = .ok (.invokestatic 117, 3) := by decide +kernel
theorem dX1_letPass_7 : decode cX1_letPass 7 = .ok (.ifCond .ne 6, 3) := by decide +kernel
theorem dX1_letPass_10 : decode cX1_letPass 10 = .ok (.ldc 121, 2) := by decide +kernel
theorem dX1_letPass_12 : decode cX1_letPass 12 = .ok (.ireturn, 1) := by decide +kernel
theorem dX1_letPass_13 : decode cX1_letPass 13 = .ok (.aload_n 0, 1) := by decide +kernel
theorem dX1_letPass_14 : decode cX1_letPass 14 = .ok (.getfield 48, 3) := by decide +kernel
theorem dX1_letPass_17 : decode cX1_letPass 17 = .ok (.iload_n 1, 1) := by decide +kernel
theorem dX1_letPass_18 : decode cX1_letPass 18 = .ok (.iadd, 1) := by decide +kernel
theorem dX1_letPass_19 : decode cX1_letPass 19 = .ok (.sipush 9000, 3) := by decide +kernel
theorem dX1_letPass_22 : decode cX1_letPass 22 = .ok (.if_icmp .le 6, 3) := by decide +kernel
theorem dX1_letPass_25 : decode cX1_letPass 25 = .ok (.ldc 82, 2) := by decide +kernel
theorem dX1_letPass_27 : decode cX1_letPass 27 = .ok (.ireturn, 1) := by decide +kernel
theorem dX1_letPass_28 : decode cX1_letPass 28 = .ok (.iconst 0, 1) := by decide +kernel
theorem dX1_letPass_29 : decode cX1_letPass 29 = .ok (.istore_n 2, 1) := by decide +kernel
theorem dX1_letPass_30 : decode cX1_letPass 30 = .ok (.iconst 0, 1) := by decide +kernel
theorem dX1_letPass_31 : decode cX1_letPass 31 = .ok (.istore_n 3, 1) := by decide +kernel
theorem dX1_letPass_32 : decode cX1_letPass 32 = .ok (.iload_n 3, 1) := by decide +kernel
theorem dX1_letPass_33 : decode cX1_letPass 33 = .ok (.iload_n 1, 1) := by decide +kernel
theorem dX1_letPass_34 : decode cX1_letPass 34 = .ok (.if_icmp .ge 34, 3) := by decide +kernel
theorem dX1_letPass_37 : decode cX1_letPass 37 = .ok (.aload_n 0, 1) := by decide +kernel
theorem dX1_letPass_38 : decode cX1_letPass 38 = .ok (.dup, 1) := by decide +kernel
theorem dX1_letPass_39 : decode cX1_letPass 39 = .ok (.getfield 48, 3) := by decide +kernel
theorem dX1_letPass_42 : decode cX1_letPass 42 = .ok (.iconst 1, 1) := by decide +kernel
theorem dX1_letPass_43 : decode cX1_letPass 43 = .ok (.iadd, 1) := by decide +kernel
theorem dX1_letPass_44 : decode cX1_letPass 44 = .ok (.putfield 48, 3) := by decide +kernel
theorem dX1_letPass_47 : decode cX1_letPass 47 = .ok (.iload_n 2, 1) := by decide +kernel
theorem dX1_letPass_48 : decode cX1_letPass 48 = .ok (.aload_n 0, 1) := by decide +kernel
theorem dX1_letPass_49 : decode cX1_letPass 49 = .ok (.invokevirtual 198, 3) := by decide +kernel
theorem dX1_letPass_52 : decode cX1_letPass 52 = .ok (.iadd, 1) := by decide +kernel
theorem dX1_letPass_53 : decode cX1_letPass 53 = .ok (.istore_n 2, 1) := by decide +kernel
theorem dX1_letPass_54 : decode cX1_letPass 54 = .ok (.aload_n 0, 1) := by decide +kernel
theorem dX1_letPass_55 : decode cX1_letPass 55 = .ok (.invokevirtual 202, 3) := by decide +kernel
theorem dX1_letPass_58 : decode cX1_letPass 58 = .ok (.aload_n 0, 1) := by decide +kernel
theorem dX1_letPass_59 : decode cX1_letPass 59 = .ok (.invokevirtual 205, 3) := by decide +kernel
theorem dX1_letPass_62 : decode cX1_letPass 62 = .ok (.iinc 3 1, 3) := by decide +kernel
theorem dX1_letPass_65 : decode cX1_letPass 65 = .ok (.goto (-33), 3) := by decide +kernel
theorem dX1_letPass_68 : decode cX1_letPass 68 = .ok (.iload_n 2, 1) := by decide +kernel
theorem dX1_letPass_69 : decode cX1_letPass 69 = .ok (.ireturn, 1) := by decide +kernel
theorem dX1_changeSetting_0 : decode cX1_changeSetting 0 = .ok (.iload_n 1, 1) := by decide +kernel
theorem dX1_changeSetting_1 : decode cX1_changeSetting 1 = .ok (.iconst 0, 1) := by decide +kernel
theorem dX1_changeSetting_2 : decode cX1_changeSetting 2 = .ok (.iconst 2, 1) := by decide +kernel
theorem dX1_changeSetting_3 : decode cX1_changeSetting 3 = .ok (.invokestatic 117, 3) := by decide +kernel
theorem dX1_changeSetting_6 : decode cX1_changeSetting 6 = .ok (.ifCond .eq 18, 3) := by decide +kernel
theorem dX1_changeSetting_9 : decode cX1_changeSetting 9 = .ok (.iload_n 2, 1) := by decide +kernel
theorem dX1_changeSetting_10 : decode cX1_changeSetting 10 = .ok (.iload_n 1, 1) := by decide +kernel
theorem dX1_changeSetting_11 : decode cX1_changeSetting 11 = .ok (.invokestatic 208, 3) := by decide +kernel
theorem dX1_changeSetting_14 : decode cX1_changeSetting 14 = .ok (.iload_n 1, 1) := by decide +kernel
theorem dX1_changeSetting_15 : decode cX1_changeSetting 15 = .ok (.invokestatic 212, 3) := by decide +kernel
theorem dX1_changeSetting_18 : decode cX1_changeSetting 18 = .ok (.invokestatic 117, 3) := by decide +kernel
theorem dX1_changeSetting_21 : decode cX1_changeSetting 21 = .ok (.ifCond .ne 6, 3) := by decide +kernel
theorem dX1_changeSetting_24 : decode cX1_changeSetting 24 = .ok (.ldc 121, 2) := by decide +kernel
theorem dX1_changeSetting_26 : decode cX1_changeSetting 26 = .ok (.ireturn, 1) := by decide +kernel
theorem dX1_changeSetting_27 : decode cX1_changeSetting 27 = .ok (.aload_n 0, 1) := by decide +kernel
theorem dX1_changeSetting_28 : decode cX1_changeSetting 28 = .ok (.getfield 29, 3) := by decide +kernel
theorem dX1_changeSetting_31 : decode cX1_changeSetting 31 = .ok (.iload_n 1, 1) := by decide +kernel
theorem dX1_changeSetting_32 : decode cX1_changeSetting 32 = .ok (.iaload, 1) := by decide +kernel
theorem dX1_changeSetting_33 : decode cX1_changeSetting 33 = .ok (.istore_n 3, 1) := by decide +kernel
theorem dX1_changeSetting_34 : decode cX1_changeSetting 34 = .ok (.aload_n 0, 1) := by decide +kernel
theorem dX1_changeSetting_35 : decode cX1_changeSetting 35 = .ok (.getfield 29, 3) := by decide +kernel
theorem dX1_changeSetting_38 : decode cX1_changeSetting 38 = .ok (.iload_n 1, 1) := by decide +kernel
theorem dX1_changeSetting_39 : decode cX1_changeSetting 39 = .ok (.iload_n 2, 1) := by decide +kernel
theorem dX1_changeSetting_40 : decode cX1_changeSetting 40 = .ok (.iastore, 1) := by decide +kernel
theorem dX1_changeSetting_41 : decode cX1_changeSetting 41 = .ok (.iload_n 3, 1) := by decide +kernel
theorem dX1_changeSetting_42 : decode cX1_changeSetting 42 = .ok (.ireturn, 1) := by decide +kernel
theorem dX1_leastOfSetting_0 : decode cX1_leastOfSetting 0 = .ok (.iload_n 0, 1) := by decide +kernel
theorem dX1_leastOfSetting_1 : decode cX1_leastOfSetting 1 = .ok (.ifCond .ne 7, 3) := by decide +kernel
theorem dX1_leastOfSetting_4 : decode cX1_leastOfSetting 4 = .ok (.iconst 1, 1) := by decide +kernel
theorem dX1_leastOfSetting_5 : decode cX1_leastOfSetting 5 = .ok (.goto 4, 3) := by decide +kernel
theorem dX1_leastOfSetting_8 : decode cX1_leastOfSetting 8 = .ok (.iconst 0, 1) := by decide +kernel
theorem dX1_leastOfSetting_9 : decode cX1_leastOfSetting 9 = .ok (.ireturn, 1) := by decide +kernel
theorem dX1_mostOfSetting_0 : decode cX1_mostOfSetting 0 = .ok (.iload_n 0, 1) := by decide +kernel
theorem dX1_mostOfSetting_1 : decode cX1_mostOfSetting 1 = .ok (.lookupswitch 33 #[(0, 27), (1, 30)], 27) := by decide +kernel
theorem dX1_mostOfSetting_28 : decode cX1_mostOfSetting 28 = .ok (.bipush 24, 2) := by decide +kernel
theorem dX1_mostOfSetting_30 : decode cX1_mostOfSetting 30 = .ok (.ireturn, 1) := by decide +kernel
theorem dX1_mostOfSetting_31 : decode cX1_mostOfSetting 31 = .ok (.bipush 99, 2) := by decide +kernel
theorem dX1_mostOfSetting_33 : decode cX1_mostOfSetting 33 = .ok (.ireturn, 1) := by decide +kernel
theorem dX1_mostOfSetting_34 : decode cX1_mostOfSetting 34 = .ok (.bipush 20, 2) := by decide +kernel
theorem dX1_mostOfSetting_36 : decode cX1_mostOfSetting 36 = .ok (.ireturn, 1) := by decide +kernel
theorem dX1_moveVehicles_0 : decode cX1_moveVehicles 0 = .ok (.iconst 0, 1) := by decide +kernel
theorem dX1_moveVehicles_1 : decode cX1_moveVehicles 1 = .ok (.istore_n 1, 1) := by decide +kernel
theorem dX1_moveVehicles_2 : decode cX1_moveVehicles 2 = .ok (.iconst 0, 1) := by decide +kernel
theorem dX1_moveVehicles_3 : decode cX1_moveVehicles 3 = .ok (.istore_n 2, 1) := by decide +kernel
theorem dX1_moveVehicles_4 : decode cX1_moveVehicles 4 = .ok (.iload_n 2, 1) := by decide +kernel
theorem dX1_moveVehicles_5 : decode cX1_moveVehicles 5 = .ok (.aload_n 0, 1) := by decide +kernel
theorem dX1_moveVehicles_6 : decode cX1_moveVehicles 6 = .ok (.getfield 42, 3) := by decide +kernel
theorem dX1_moveVehicles_9 : decode cX1_moveVehicles 9 = .ok (.if_icmp .ge 84, 3) := by decide +kernel
theorem dX1_moveVehicles_12 : decode cX1_moveVehicles 12 = .ok (.aload_n 0, 1) := by decide +kernel
theorem dX1_moveVehicles_13 : decode cX1_moveVehicles 13 = .ok (.getfield 19, 3) := by decide +kernel
theorem dX1_moveVehicles_16 : decode cX1_moveVehicles 16 = .ok (.iload_n 2, 1) := by decide +kernel
theorem dX1_moveVehicles_17 : decode cX1_moveVehicles 17 = .ok (.aaload, 1) := by decide +kernel
theorem dX1_moveVehicles_18 : decode cX1_moveVehicles 18 = .ok (.astore_n 3, 1) := by decide +kernel
theorem dX1_moveVehicles_19 : decode cX1_moveVehicles 19 = .ok (.aload_n 3, 1) := by decide +kernel
theorem dX1_moveVehicles_20 : decode cX1_moveVehicles 20 = .ok (.getfield 141, 3) := by decide +kernel
theorem dX1_moveVehicles_23 : decode cX1_moveVehicles 23 = .ok (.ifCond .eq 64, 3) := by decide +kernel
theorem dX1_moveVehicles_26 : decode cX1_moveVehicles 26 = .ok (.aload_n 3, 1) := by decide +kernel
theorem dX1_moveVehicles_27 : decode cX1_moveVehicles 27 = .ok (.getfield 186, 3) := by decide +kernel
theorem dX1_moveVehicles_30 : decode cX1_moveVehicles 30 = .ok (.aload_n 0, 1) := by decide +kernel
theorem dX1_moveVehicles_31 : decode cX1_moveVehicles 31 = .ok (.getfield 48, 3) := by decide +kernel
theorem dX1_moveVehicles_34 : decode cX1_moveVehicles 34 = .ok (.if_icmp .eq 6, 3) := by decide +kernel
theorem dX1_moveVehicles_37 : decode cX1_moveVehicles 37 = .ok (.goto 50, 3) := by decide +kernel
theorem dX1_moveVehicles_40 : decode cX1_moveVehicles 40 = .ok (.aload_n 3, 1) := by decide +kernel
theorem dX1_moveVehicles_41 : decode cX1_moveVehicles 41 = .ok (.getfield 141, 3) := by decide +kernel
theorem dX1_moveVehicles_44 : decode cX1_moveVehicles 44 = .ok (.iconst 1, 1) := by decide +kernel
theorem dX1_moveVehicles_45 : decode cX1_moveVehicles 45 = .ok (.if_icmp .ne 37, 3) := by decide +kernel
theorem dX1_moveVehicles_48 : decode cX1_moveVehicles 48 = .ok (.iload_n 1, 1) := by decide +kernel
theorem dX1_moveVehicles_49 : decode cX1_moveVehicles 49 = .ok (.aload_n 0, 1) := by decide +kernel
theorem dX1_moveVehicles_50 : decode cX1_moveVehicles 50 = .ok (.aload_n 3, 1) := by decide +kernel
theorem dX1_moveVehicles_51 : decode cX1_moveVehicles 51 = .ok (.invokevirtual 215, 3) := by decide +kernel
theorem dX1_moveVehicles_54 : decode cX1_moveVehicles 54 = .ok (.iadd, 1) := by decide +kernel
theorem dX1_moveVehicles_55 : decode cX1_moveVehicles 55 = .ok (.istore_n 1, 1) := by decide +kernel
theorem dX1_moveVehicles_56 : decode cX1_moveVehicles 56 = .ok (.aload_n 0, 1) := by decide +kernel
theorem dX1_moveVehicles_57 : decode cX1_moveVehicles 57 = .ok (.aload_n 3, 1) := by decide +kernel
theorem dX1_moveVehicles_58 : decode cX1_moveVehicles 58 = .ok (.invokevirtual 218, 3) := by decide +kernel
theorem dX1_moveVehicles_61 : decode cX1_moveVehicles 61 = .ok (.aload_n 3, 1) := by decide +kernel
theorem dX1_moveVehicles_62 : decode cX1_moveVehicles 62 = .ok (.iconst 2, 1) := by decide +kernel
theorem dX1_moveVehicles_63 : decode cX1_moveVehicles 63 = .ok (.putfield 141, 3) := by decide +kernel
theorem dX1_moveVehicles_66 : decode cX1_moveVehicles 66 = .ok (.aload_n 3, 1) := by decide +kernel
theorem dX1_moveVehicles_67 : decode cX1_moveVehicles 67 = .ok (.aload_n 0, 1) := by decide +kernel
theorem dX1_moveVehicles_68 : decode cX1_moveVehicles 68 = .ok (.getfield 48, 3) := by decide +kernel
theorem dX1_moveVehicles_71 : decode cX1_moveVehicles 71 = .ok (.aload_n 3, 1) := by decide +kernel
theorem dX1_moveVehicles_72 : decode cX1_moveVehicles 72 = .ok (.getfield 183, 3) := by decide +kernel
theorem dX1_moveVehicles_75 : decode cX1_moveVehicles 75 = .ok (.iadd, 1) := by decide +kernel
theorem dX1_moveVehicles_76 : decode cX1_moveVehicles 76 = .ok (.putfield 186, 3) := by decide +kernel
theorem dX1_moveVehicles_79 : decode cX1_moveVehicles 79 = .ok (.goto 8, 3) := by decide +kernel
theorem dX1_moveVehicles_82 : decode cX1_moveVehicles 82 = .ok (.aload_n 0, 1) := by decide +kernel
theorem dX1_moveVehicles_83 : decode cX1_moveVehicles 83 = .ok (.aload_n 3, 1) := by decide +kernel
theorem dX1_moveVehicles_84 : decode cX1_moveVehicles 84 = .ok (.invokevirtual 221, 3) := by decide +kernel
theorem dX1_moveVehicles_87 : decode cX1_moveVehicles 87 = .ok (.iinc 2 1, 3) := by decide +kernel
theorem dX1_moveVehicles_90 : decode cX1_moveVehicles 90 = .ok (.goto (-86), 3) := by decide +kernel
theorem dX1_moveVehicles_93 : decode cX1_moveVehicles 93 = .ok (.iload_n 1, 1) := by decide +kernel
theorem dX1_moveVehicles_94 : decode cX1_moveVehicles 94 = .ok (.ireturn, 1) := by decide +kernel
theorem dX1_deliverLoad_0 : decode cX1_deliverLoad 0 = .ok (.iconst 0, 1) := by decide +kernel
theorem dX1_deliverLoad_1 : decode cX1_deliverLoad 1 = .ok (.istore_n 2, 1) := by decide +kernel
theorem dX1_deliverLoad_2 : decode cX1_deliverLoad 2 = .ok (.iconst 0, 1) := by decide +kernel
theorem dX1_deliverLoad_3 : decode cX1_deliverLoad 3 = .ok (.istore_n 3, 1) := by decide +kernel
theorem dX1_deliverLoad_4 : decode cX1_deliverLoad 4 = .ok (.iload_n 3, 1) := by decide +kernel
theorem dX1_deliverLoad_5 : decode cX1_deliverLoad 5 = .ok (.aload_n 0, 1) := by decide +kernel
theorem dX1_deliverLoad_6 : decode cX1_deliverLoad 6 = .ok (.getfield 38, 3) := by decide +kernel
theorem dX1_deliverLoad_9 : decode cX1_deliverLoad 9 = .ok (.if_icmp .ge 113, 3) := by decide +kernel
theorem dX1_deliverLoad_12 : decode cX1_deliverLoad 12 = .ok (.aload_n 0, 1) := by decide +kernel
theorem dX1_deliverLoad_13 : decode cX1_deliverLoad 13 = .ok (.getfield 11, 3) := by decide +kernel
theorem dX1_deliverLoad_16 : decode cX1_deliverLoad 16 = .ok (.iload_n 3, 1) := by decide +kernel
theorem dX1_deliverLoad_17 : decode cX1_deliverLoad 17 = .ok (.aaload, 1) := by decide +kernel
theorem dX1_deliverLoad_18 : decode cX1_deliverLoad 18 = .ok (.astore 4, 2) := by decide +kernel
theorem dX1_deliverLoad_20 : decode cX1_deliverLoad 20 = .ok (.aload 4, 2) := by decide +kernel
theorem dX1_deliverLoad_22 : decode cX1_deliverLoad 22 = .ok (.aload_n 1, 1) := by decide +kernel
theorem dX1_deliverLoad_23 : decode cX1_deliverLoad 23 = .ok (.invokevirtual 175, 3) := by decide +kernel
theorem dX1_deliverLoad_26 : decode cX1_deliverLoad 26 = .ok (.ifCond .eq 90, 3) := by decide +kernel
theorem dX1_deliverLoad_29 : decode cX1_deliverLoad 29 = .ok (.aload 4, 2) := by decide +kernel
theorem dX1_deliverLoad_31 : decode cX1_deliverLoad 31 = .ok (.aload_n 0, 1) := by decide +kernel
theorem dX1_deliverLoad_32 : decode cX1_deliverLoad 32 = .ok (.getfield 48, 3) := by decide +kernel
theorem dX1_deliverLoad_35 : decode cX1_deliverLoad 35 = .ok (.putfield 224, 3) := by decide +kernel
theorem dX1_deliverLoad_38 : decode cX1_deliverLoad 38 = .ok (.aload 4, 2) := by decide +kernel
theorem dX1_deliverLoad_40 : decode cX1_deliverLoad 40 = .ok (.aload_n 0, 1) := by decide +kernel
theorem dX1_deliverLoad_41 : decode cX1_deliverLoad 41 = .ok (.getfield 48, 3) := by decide +kernel
theorem dX1_deliverLoad_44 : decode cX1_deliverLoad 44 = .ok (.aload 4, 2) := by decide +kernel
theorem dX1_deliverLoad_46 : decode cX1_deliverLoad 46 = .ok (.getfield 95, 3) := by decide +kernel
theorem dX1_deliverLoad_49 : decode cX1_deliverLoad 49 = .ok (.if_icmp .le 7, 3) := by decide +kernel
theorem dX1_deliverLoad_52 : decode cX1_deliverLoad 52 = .ok (.iconst 4, 1) := by decide +kernel
theorem dX1_deliverLoad_53 : decode cX1_deliverLoad 53 = .ok (.goto 4, 3) := by decide +kernel
theorem dX1_deliverLoad_56 : decode cX1_deliverLoad 56 = .ok (.iconst 3, 1) := by decide +kernel
theorem dX1_deliverLoad_57 : decode cX1_deliverLoad 57 = .ok (.putfield 79, 3) := by decide +kernel
theorem dX1_deliverLoad_60 : decode cX1_deliverLoad 60 = .ok (.aload 4, 2) := by decide +kernel
theorem dX1_deliverLoad_62 : decode cX1_deliverLoad 62 = .ok (.getfield 79, 3) := by decide +kernel
theorem dX1_deliverLoad_65 : decode cX1_deliverLoad 65 = .ok (.iconst 3, 1) := by decide +kernel
theorem dX1_deliverLoad_66 : decode cX1_deliverLoad 66 = .ok (.if_icmp .ne 47, 3) := by decide +kernel
theorem dX1_deliverLoad_69 : decode cX1_deliverLoad 69 = .ok (.aload_n 0, 1) := by decide +kernel
theorem dX1_deliverLoad_70 : decode cX1_deliverLoad 70 = .ok (.dup, 1) := by decide +kernel
theorem dX1_deliverLoad_71 : decode cX1_deliverLoad 71 = .ok (.getfield 51, 3) := by decide +kernel
theorem dX1_deliverLoad_74 : decode cX1_deliverLoad 74 = .ok (.aload 4, 2) := by decide +kernel
theorem dX1_deliverLoad_76 : decode cX1_deliverLoad 76 = .ok (.getfield 98, 3) := by decide +kernel
theorem dX1_deliverLoad_79 : decode cX1_deliverLoad 79 = .ok (.iadd, 1) := by decide +kernel
theorem dX1_deliverLoad_80 : decode cX1_deliverLoad 80 = .ok (.putfield 51, 3) := by decide +kernel
theorem dX1_deliverLoad_83 : decode cX1_deliverLoad 83 = .ok (.aload_n 0, 1) := by decide +kernel
theorem dX1_deliverLoad_84 : decode cX1_deliverLoad 84 = .ok (.dup, 1) := by decide +kernel
theorem dX1_deliverLoad_85 : decode cX1_deliverLoad 85 = .ok (.getfield 60, 3) := by decide +kernel
theorem dX1_deliverLoad_88 : decode cX1_deliverLoad 88 = .ok (.aload_n 0, 1) := by decide +kernel
theorem dX1_deliverLoad_89 : decode cX1_deliverLoad 89 = .ok (.getfield 29, 3) := by decide +kernel
theorem dX1_deliverLoad_92 : decode cX1_deliverLoad 92 = .ok (.iconst 2, 1) := by decide +kernel
theorem dX1_deliverLoad_93 : decode cX1_deliverLoad 93 = .ok (.iaload, 1) := by decide +kernel
theorem dX1_deliverLoad_94 : decode cX1_deliverLoad 94 = .ok (.iconst 0, 1) := by decide +kernel
theorem dX1_deliverLoad_95 : decode cX1_deliverLoad 95 = .ok (.aload 4, 2) := by decide +kernel
theorem dX1_deliverLoad_97 : decode cX1_deliverLoad 97 = .ok (.getfield 92, 3) := by decide +kernel
theorem dX1_deliverLoad_100 : decode cX1_deliverLoad 100 = .ok (.aload_n 0, 1) := by decide +kernel
theorem dX1_deliverLoad_101 : decode cX1_deliverLoad 101 = .ok (.getfield 48, 3) := by decide +kernel
theorem dX1_deliverLoad_104 : decode cX1_deliverLoad 104 = .ok (.isub, 1) := by decide +kernel
theorem dX1_deliverLoad_105 : decode cX1_deliverLoad 105 = .ok (.invokestatic 132, 3) := by decide +kernel
theorem dX1_deliverLoad_108 : decode cX1_deliverLoad 108 = .ok (.imul, 1) := by decide +kernel
theorem dX1_deliverLoad_109 : decode cX1_deliverLoad 109 = .ok (.iadd, 1) := by decide +kernel
theorem dX1_deliverLoad_110 : decode cX1_deliverLoad 110 = .ok (.putfield 60, 3) := by decide +kernel
theorem dX1_deliverLoad_113 : decode cX1_deliverLoad 113 = .ok (.iinc 2 1, 3) := by decide +kernel
theorem dX1_deliverLoad_116 : decode cX1_deliverLoad 116 = .ok (.iinc 3 1, 3) := by decide +kernel
theorem dX1_deliverLoad_119 : decode cX1_deliverLoad 119 = .ok (.goto (-115), 3) := by decide +kernel
theorem dX1_deliverLoad_122 : decode cX1_deliverLoad 122 = .ok (.iload_n 2, 1) := by decide +kernel
theorem dX1_deliverLoad_123 : decode cX1_deliverLoad 123 = .ok (.ireturn, 1) := by decide +kernel
theorem dX1_takeOffers_0 : decode cX1_takeOffers 0 = .ok (.aload_n 1, 1) := by decide +kernel
theorem dX1_takeOffers_1 : decode cX1_takeOffers 1 = .ok (.getfield 135, 3) := by decide +kernel
theorem dX1_takeOffers_4 : decode cX1_takeOffers 4 = .ok (.istore_n 2, 1) := by decide +kernel
theorem dX1_takeOffers_5 : decode cX1_takeOffers 5 = .ok (.aload_n 1, 1) := by decide +kernel
theorem dX1_takeOffers_6 : decode cX1_takeOffers 6 = .ok (.getfield 138, 3) := by decide +kernel
theorem dX1_takeOffers_9 : decode cX1_takeOffers 9 = .ok (.istore_n 3, 1) := by decide +kernel
theorem dX1_takeOffers_10 : decode cX1_takeOffers 10 = .ok (.iconst 0, 1) := by decide +kernel
theorem dX1_takeOffers_11 : decode cX1_takeOffers 11 = .ok (.istore 4, 2) := by decide +kernel
theorem dX1_takeOffers_13 : decode cX1_takeOffers 13 = .ok (.iload 4, 2) := by decide +kernel
theorem dX1_takeOffers_15 : decode cX1_takeOffers 15 = .ok (.bipush 10, 2) := by decide +kernel
theorem dX1_takeOffers_17 : decode cX1_takeOffers 17 = .ok (.if_icmp .ge 81, 3) := by decide +kernel
theorem dX1_takeOffers_20 : decode cX1_takeOffers 20 = .ok (.aload_n 0, 1) := by decide +kernel
theorem dX1_takeOffers_21 : decode cX1_takeOffers 21 = .ok (.aload_n 1, 1) := by decide +kernel
theorem dX1_takeOffers_22 : decode cX1_takeOffers 22 = .ok (.getfield 182, 3) := by decide +kernel
theorem dX1_takeOffers_25 : decode cX1_takeOffers 25 = .ok (.iload_n 2, 1) := by decide +kernel
theorem dX1_takeOffers_26 : decode cX1_takeOffers 26 = .ok (.iload_n 3, 1) := by decide +kernel
theorem dX1_takeOffers_27 : decode cX1_takeOffers 27 = .ok (.invokevirtual 227, 3) := by decide +kernel
theorem dX1_takeOffers_30 : decode cX1_takeOffers 30 = .ok (.istore 5, 2) := by decide +kernel
theorem dX1_takeOffers_32 : decode cX1_takeOffers 32 = .ok (.iload 5, 2) := by decide +kernel
theorem dX1_takeOffers_34 : decode cX1_takeOffers 34 = .ok (.iconst (-1), 1) := by decide +kernel
theorem dX1_takeOffers_35 : decode cX1_takeOffers 35 = .ok (.if_icmp .ne 6, 3) := by decide +kernel
theorem dX1_takeOffers_38 : decode cX1_takeOffers 38 = .ok (.goto 60, 3) := by decide +kernel
theorem dX1_takeOffers_41 : decode cX1_takeOffers 41 = .ok (.iload_n 2, 1) := by decide +kernel
theorem dX1_takeOffers_42 : decode cX1_takeOffers 42 = .ok (.aload_n 0, 1) := by decide +kernel
theorem dX1_takeOffers_43 : decode cX1_takeOffers 43 = .ok (.getfield 25, 3) := by decide +kernel
theorem dX1_takeOffers_46 : decode cX1_takeOffers 46 = .ok (.iload 5, 2) := by decide +kernel
theorem dX1_takeOffers_48 : decode cX1_takeOffers 48 = .ok (.aaload, 1) := by decide +kernel
theorem dX1_takeOffers_49 : decode cX1_takeOffers 49 = .ok (.getfield 190, 3) := by decide +kernel
theorem dX1_takeOffers_52 : decode cX1_takeOffers 52 = .ok (.isub, 1) := by decide +kernel
theorem dX1_takeOffers_53 : decode cX1_takeOffers 53 = .ok (.istore_n 2, 1) := by decide +kernel
theorem dX1_takeOffers_54 : decode cX1_takeOffers 54 = .ok (.iload_n 3, 1) := by decide +kernel
theorem dX1_takeOffers_55 : decode cX1_takeOffers 55 = .ok (.aload_n 0, 1) := by decide +kernel
theorem dX1_takeOffers_56 : decode cX1_takeOffers 56 = .ok (.getfield 25, 3) := by decide +kernel
theorem dX1_takeOffers_59 : decode cX1_takeOffers 59 = .ok (.iload 5, 2) := by decide +kernel
theorem dX1_takeOffers_61 : decode cX1_takeOffers 61 = .ok (.aaload, 1) := by decide +kernel
theorem dX1_takeOffers_62 : decode cX1_takeOffers 62 = .ok (.getfield 191, 3) := by decide +kernel
theorem dX1_takeOffers_65 : decode cX1_takeOffers 65 = .ok (.isub, 1) := by decide +kernel
theorem dX1_takeOffers_66 : decode cX1_takeOffers 66 = .ok (.istore_n 3, 1) := by decide +kernel
theorem dX1_takeOffers_67 : decode cX1_takeOffers 67 = .ok (.aload_n 1, 1) := by decide +kernel
theorem dX1_takeOffers_68 : decode cX1_takeOffers 68 = .ok (.dup, 1) := by decide +kernel
theorem dX1_takeOffers_69 : decode cX1_takeOffers 69 = .ok (.getfield 142, 3) := by decide +kernel
theorem dX1_takeOffers_72 : decode cX1_takeOffers 72 = .ok (.aload_n 0, 1) := by decide +kernel
theorem dX1_takeOffers_73 : decode cX1_takeOffers 73 = .ok (.getfield 25, 3) := by decide +kernel
theorem dX1_takeOffers_76 : decode cX1_takeOffers 76 = .ok (.iload 5, 2) := by decide +kernel
theorem dX1_takeOffers_78 : decode cX1_takeOffers 78 = .ok (.aaload, 1) := by decide +kernel
theorem dX1_takeOffers_79 : decode cX1_takeOffers 79 = .ok (.getfield 192, 3) := by decide +kernel
theorem dX1_takeOffers_82 : decode cX1_takeOffers 82 = .ok (.iadd, 1) := by decide +kernel
theorem dX1_takeOffers_83 : decode cX1_takeOffers 83 = .ok (.putfield 142, 3) := by decide +kernel
theorem dX1_takeOffers_86 : decode cX1_takeOffers 86 = .ok (.aload_n 0, 1) := by decide +kernel
theorem dX1_takeOffers_87 : decode cX1_takeOffers 87 = .ok (.iload 5, 2) := by decide +kernel
theorem dX1_takeOffers_89 : decode cX1_takeOffers 89 = .ok (.invokevirtual 231, 3) := by decide +kernel
theorem dX1_takeOffers_92 : decode cX1_takeOffers 92 = .ok (.iinc 4 1, 3) := by decide +kernel
theorem dX1_takeOffers_95 : decode cX1_takeOffers 95 = .ok (.goto (-82), 3) := by decide +kernel
theorem dX1_takeOffers_98 : decode cX1_takeOffers 98 = .ok (.return_, 1) := by decide +kernel
theorem dX1_bestOffer_0 : decode cX1_bestOffer 0 = .ok (.iconst (-1), 1) := by decide +kernel
theorem dX1_bestOffer_1 : decode cX1_bestOffer 1 = .ok (.istore 4, 2) := by decide +kernel
theorem dX1_bestOffer_3 : decode cX1_bestOffer 3 = .ok (.iconst (-1), 1) := by decide +kernel
theorem dX1_bestOffer_4 : decode cX1_bestOffer 4 = .ok (.istore 5, 2) := by decide +kernel
theorem dX1_bestOffer_6 : decode cX1_bestOffer 6 = .ok (.iconst 0, 1) := by decide +kernel
theorem dX1_bestOffer_7 : decode cX1_bestOffer 7 = .ok (.istore 6, 2) := by decide +kernel
theorem dX1_bestOffer_9 : decode cX1_bestOffer 9 = .ok (.iload 6, 2) := by decide +kernel
theorem dX1_bestOffer_11 : decode cX1_bestOffer 11 = .ok (.aload_n 0, 1) := by decide +kernel
theorem dX1_bestOffer_12 : decode cX1_bestOffer 12 = .ok (.getfield 45, 3) := by decide +kernel
theorem dX1_bestOffer_15 : decode cX1_bestOffer 15 = .ok (.if_icmp .ge 90, 3) := by decide +kernel
theorem dX1_bestOffer_18 : decode cX1_bestOffer 18 = .ok (.aload_n 0, 1) := by decide +kernel
theorem dX1_bestOffer_19 : decode cX1_bestOffer 19 = .ok (.getfield 25, 3) := by decide +kernel
theorem dX1_bestOffer_22 : decode cX1_bestOffer 22 = .ok (.iload 6, 2) := by decide +kernel
theorem dX1_bestOffer_24 : decode cX1_bestOffer 24 = .ok (.aaload, 1) := by decide +kernel
theorem dX1_bestOffer_25 : decode cX1_bestOffer 25 = .ok (.astore 7, 2) := by decide +kernel
theorem dX1_bestOffer_27 : decode cX1_bestOffer 27 = .ok (.aload 7, 2) := by decide +kernel
theorem dX1_bestOffer_29 : decode cX1_bestOffer 29 = .ok (.getfield 189, 3) := by decide +kernel
theorem dX1_bestOffer_32 : decode cX1_bestOffer 32 = .ok (.iload_n 1, 1) := by decide +kernel
theorem dX1_bestOffer_33 : decode cX1_bestOffer 33 = .ok (.if_icmp .ne 37, 3) := by decide +kernel
theorem dX1_bestOffer_36 : decode cX1_bestOffer 36 = .ok (.aload 7, 2) := by decide +kernel
theorem dX1_bestOffer_38 : decode cX1_bestOffer 38 = .ok (.getfield 195, 3) := by decide +kernel
theorem dX1_bestOffer_41 : decode cX1_bestOffer 41 = .ok (.aload_n 0, 1) := by decide +kernel
theorem dX1_bestOffer_42 : decode cX1_bestOffer 42 = .ok (.getfield 48, 3) := by decide +kernel
theorem dX1_bestOffer_45 : decode cX1_bestOffer 45 = .ok (.if_icmp .lt 25, 3) := by decide +kernel
theorem dX1_bestOffer_48 : decode cX1_bestOffer 48 = .ok (.aload 7, 2) := by decide +kernel
theorem dX1_bestOffer_50 : decode cX1_bestOffer 50 = .ok (.getfield 190, 3) := by decide +kernel
theorem dX1_bestOffer_53 : decode cX1_bestOffer 53 = .ok (.iload_n 2, 1) := by decide +kernel
theorem dX1_bestOffer_54 : decode cX1_bestOffer 54 = .ok (.if_icmp .gt 16, 3) := by decide +kernel
theorem dX1_bestOffer_57 : decode cX1_bestOffer 57 = .ok (.aload 7, 2) := by decide +kernel
theorem dX1_bestOffer_59 : decode cX1_bestOffer 59 = .ok (.getfield 191, 3) := by decide +kernel
theorem dX1_bestOffer_62 : decode cX1_bestOffer 62 = .ok (.iload_n 3, 1) := by decide +kernel
theorem dX1_bestOffer_63 : decode cX1_bestOffer 63 = .ok (.if_icmp .gt 7, 3) := by decide +kernel
theorem dX1_bestOffer_66 : decode cX1_bestOffer 66 = .ok (.iconst 1, 1) := by decide +kernel
theorem dX1_bestOffer_67 : decode cX1_bestOffer 67 = .ok (.goto 4, 3) := by decide +kernel
theorem dX1_bestOffer_70 : decode cX1_bestOffer 70 = .ok (.iconst 0, 1) := by decide +kernel
theorem dX1_bestOffer_71 : decode cX1_bestOffer 71 = .ok (.istore 8, 2) := by decide +kernel
theorem dX1_bestOffer_73 : decode cX1_bestOffer 73 = .ok (.iload 8, 2) := by decide +kernel
theorem dX1_bestOffer_75 : decode cX1_bestOffer 75 = .ok (.ifCond .eq 24, 3) := by decide +kernel
theorem dX1_bestOffer_78 : decode cX1_bestOffer 78 = .ok (.aload 7, 2) := by decide +kernel
theorem dX1_bestOffer_80 : decode cX1_bestOffer 80 = .ok (.getfield 192, 3) := by decide +kernel
theorem dX1_bestOffer_83 : decode cX1_bestOffer 83 = .ok (.iload 5, 2) := by decide +kernel
theorem dX1_bestOffer_85 : decode cX1_bestOffer 85 = .ok (.if_icmp .le 14, 3) := by decide +kernel
theorem dX1_bestOffer_88 : decode cX1_bestOffer 88 = .ok (.iload 6, 2) := by decide +kernel
theorem dX1_bestOffer_90 : decode cX1_bestOffer 90 = .ok (.istore 4, 2) := by decide +kernel
theorem dX1_bestOffer_92 : decode cX1_bestOffer 92 = .ok (.aload 7, 2) := by decide +kernel
theorem dX1_bestOffer_94 : decode cX1_bestOffer 94 = .ok (.getfield 192, 3) := by decide +kernel
theorem dX1_bestOffer_97 : decode cX1_bestOffer 97 = .ok (.istore 5, 2) := by decide +kernel
theorem dX1_bestOffer_99 : decode cX1_bestOffer 99 = .ok (.iinc 6 1, 3) := by decide +kernel
theorem dX1_bestOffer_102 : decode cX1_bestOffer 102 = .ok (.goto (-93), 3) := by decide +kernel
theorem dX1_bestOffer_105 : decode cX1_bestOffer 105 = .ok (.iload 4, 2) := by decide +kernel
theorem dX1_bestOffer_107 : decode cX1_bestOffer 107 = .ok (.ireturn, 1) := by decide +kernel
theorem dX1_comeBack_0 : decode cX1_comeBack 0 = .ok (.aload_n 1, 1) := by decide +kernel
theorem dX1_comeBack_1 : decode cX1_comeBack 1 = .ok (.iconst 0, 1) := by decide +kernel
theorem dX1_comeBack_2 : decode cX1_comeBack 2 = .ok (.putfield 141, 3) := by decide +kernel
theorem dX1_comeBack_5 : decode cX1_comeBack 5 = .ok (.aload_n 1, 1) := by decide +kernel
theorem dX1_comeBack_6 : decode cX1_comeBack 6 = .ok (.dup, 1) := by decide +kernel
theorem dX1_comeBack_7 : decode cX1_comeBack 7 = .ok (.getfield 145, 3) := by decide +kernel
theorem dX1_comeBack_10 : decode cX1_comeBack 10 = .ok (.iconst 1, 1) := by decide +kernel
theorem dX1_comeBack_11 : decode cX1_comeBack 11 = .ok (.iadd, 1) := by decide +kernel
theorem dX1_comeBack_12 : decode cX1_comeBack 12 = .ok (.putfield 145, 3) := by decide +kernel
theorem dX1_comeBack_15 : decode cX1_comeBack 15 = .ok (.aload_n 0, 1) := by decide +kernel
theorem dX1_comeBack_16 : decode cX1_comeBack 16 = .ok (.dup, 1) := by decide +kernel
theorem dX1_comeBack_17 : decode cX1_comeBack 17 = .ok (.getfield 54, 3) := by decide +kernel
theorem dX1_comeBack_20 : decode cX1_comeBack 20 = .ok (.aload_n 1, 1) := by decide +kernel
theorem dX1_comeBack_21 : decode cX1_comeBack 21 = .ok (.getfield 142, 3) := by decide +kernel
theorem dX1_comeBack_24 : decode cX1_comeBack 24 = .ok (.iadd, 1) := by decide +kernel
theorem dX1_comeBack_25 : decode cX1_comeBack 25 = .ok (.putfield 54, 3) := by decide +kernel
theorem dX1_comeBack_28 : decode cX1_comeBack 28 = .ok (.aload_n 1, 1) := by decide +kernel
theorem dX1_comeBack_29 : decode cX1_comeBack 29 = .ok (.iconst 0, 1) := by decide +kernel
theorem dX1_comeBack_30 : decode cX1_comeBack 30 = .ok (.putfield 142, 3) := by decide +kernel
theorem dX1_comeBack_33 : decode cX1_comeBack 33 = .ok (.return_, 1) := by decide +kernel
theorem dX1_dropOldOffers_0 : decode cX1_dropOldOffers 0 = .ok (.aload_n 0, 1) := by decide +kernel
theorem dX1_dropOldOffers_1 : decode cX1_dropOldOffers 1 = .ok (.getfield 45, 3) := by decide +kernel
theorem dX1_dropOldOffers_4 : decode cX1_dropOldOffers 4 = .ok (.iconst 1, 1) := by decide +kernel
theorem dX1_dropOldOffers_5 : decode cX1_dropOldOffers 5 = .ok (.isub, 1) := by decide +kernel
theorem dX1_dropOldOffers_6 : decode cX1_dropOldOffers 6 = .ok (.istore_n 1, 1) := by decide +kernel
theorem dX1_dropOldOffers_7 : decode cX1_dropOldOffers 7 = .ok (.iload_n 1, 1) := by decide +kernel
theorem dX1_dropOldOffers_8 : decode cX1_dropOldOffers 8 = .ok (.ifCond .lt 30, 3) := by decide +kernel
theorem dX1_dropOldOffers_11 : decode cX1_dropOldOffers 11 = .ok (.aload_n 0, 1) := by decide +kernel
theorem dX1_dropOldOffers_12 : decode cX1_dropOldOffers 12 = .ok (.getfield 25, 3) := by decide +kernel
theorem dX1_dropOldOffers_15 : decode cX1_dropOldOffers 15 = .ok (.iload_n 1, 1) := by decide +kernel
theorem dX1_dropOldOffers_16 : decode cX1_dropOldOffers 16 = .ok (.aaload, 1) := by decide +kernel
theorem dX1_dropOldOffers_17 : decode cX1_dropOldOffers 17 = .ok (.getfield 195, 3) := by decide +kernel
theorem dX1_dropOldOffers_20 : decode cX1_dropOldOffers 20 = .ok (.aload_n 0, 1) := by decide +kernel
theorem dX1_dropOldOffers_21 : decode cX1_dropOldOffers 21 = .ok (.getfield 48, 3) := by decide +kernel
theorem dX1_dropOldOffers_24 : decode cX1_dropOldOffers 24 = .ok (.if_icmp .ge 8, 3) := by decide +kernel
theorem dX1_dropOldOffers_27 : decode cX1_dropOldOffers 27 = .ok (.aload_n 0, 1) := by decide +kernel
theorem dX1_dropOldOffers_28 : decode cX1_dropOldOffers 28 = .ok (.iload_n 1, 1) := by decide +kernel
theorem dX1_dropOldOffers_29 : decode cX1_dropOldOffers 29 = .ok (.invokevirtual 231, 3) := by decide +kernel
theorem dX1_dropOldOffers_32 : decode cX1_dropOldOffers 32 = .ok (.iinc 1 (-1), 3) := by decide +kernel
theorem dX1_dropOldOffers_35 : decode cX1_dropOldOffers 35 = .ok (.goto (-28), 3) := by decide +kernel
theorem dX1_dropOldOffers_38 : decode cX1_dropOldOffers 38 = .ok (.return_, 1) := by decide +kernel
theorem dX1_removeOffer_0 : decode cX1_removeOffer 0 = .ok (.iload_n 1, 1) := by decide +kernel
theorem dX1_removeOffer_1 : decode cX1_removeOffer 1 = .ok (.ifCond .lt 20, 3) := by decide +kernel
theorem dX1_removeOffer_4 : decode cX1_removeOffer 4 = .ok (.iload_n 1, 1) := by decide +kernel
theorem dX1_removeOffer_5 : decode cX1_removeOffer 5 = .ok (.aload_n 0, 1) := by decide +kernel
theorem dX1_removeOffer_6 : decode cX1_removeOffer 6 = .ok (.getfield 45, 3) := by decide +kernel
theorem dX1_removeOffer_9 : decode cX1_removeOffer 9 = .ok (.if_icmp .ge 12, 3) := by decide +kernel
theorem dX1_removeOffer_12 : decode cX1_removeOffer 12 = .ok (.aload_n 0, 1) := by decide +kernel
theorem dX1_removeOffer_13 : decode cX1_removeOffer 13 = .ok (.getfield 45, 3) := by decide +kernel
theorem dX1_removeOffer_16 : decode cX1_removeOffer 16 = .ok (.bipush 10, 2) := by decide +kernel
theorem dX1_removeOffer_18 : decode cX1_removeOffer 18 = .ok (.if_icmp .le 4, 3) := by decide +kernel
theorem dX1_removeOffer_21 : decode cX1_removeOffer 21 = .ok (.return_, 1) := by decide +kernel
theorem dX1_removeOffer_22 : decode cX1_removeOffer 22 = .ok (.aload_n 0, 1) := by decide +kernel
theorem dX1_removeOffer_23 : decode cX1_removeOffer 23 = .ok (.getfield 25, 3) := by decide +kernel
theorem dX1_removeOffer_26 : decode cX1_removeOffer 26 = .ok (.iload_n 1, 1) := by decide +kernel
theorem dX1_removeOffer_27 : decode cX1_removeOffer 27 = .ok (.aaload, 1) := by decide +kernel
theorem dX1_removeOffer_28 : decode cX1_removeOffer 28 = .ok (.astore_n 2, 1) := by decide +kernel
theorem dX1_removeOffer_29 : decode cX1_removeOffer 29 = .ok (.iload_n 1, 1) := by decide +kernel
theorem dX1_removeOffer_30 : decode cX1_removeOffer 30 = .ok (.istore_n 3, 1) := by decide +kernel
theorem dX1_removeOffer_31 : decode cX1_removeOffer 31 = .ok (.iload_n 3, 1) := by decide +kernel
theorem dX1_removeOffer_32 : decode cX1_removeOffer 32 = .ok (.aload_n 0, 1) := by decide +kernel
theorem dX1_removeOffer_33 : decode cX1_removeOffer 33 = .ok (.getfield 45, 3) := by decide +kernel
theorem dX1_removeOffer_36 : decode cX1_removeOffer 36 = .ok (.iconst 1, 1) := by decide +kernel
theorem dX1_removeOffer_37 : decode cX1_removeOffer 37 = .ok (.isub, 1) := by decide +kernel
theorem dX1_removeOffer_38 : decode cX1_removeOffer 38 = .ok (.if_icmp .ge 23, 3) := by decide +kernel
theorem dX1_removeOffer_41 : decode cX1_removeOffer 41 = .ok (.aload_n 0, 1) := by decide +kernel
theorem dX1_removeOffer_42 : decode cX1_removeOffer 42 = .ok (.getfield 25, 3) := by decide +kernel
theorem dX1_removeOffer_45 : decode cX1_removeOffer 45 = .ok (.iload_n 3, 1) := by decide +kernel
theorem dX1_removeOffer_46 : decode cX1_removeOffer 46 = .ok (.aload_n 0, 1) := by decide +kernel
theorem dX1_removeOffer_47 : decode cX1_removeOffer 47 = .ok (.getfield 25, 3) := by decide +kernel
theorem dX1_removeOffer_50 : decode cX1_removeOffer 50 = .ok (.iload_n 3, 1) := by decide +kernel
theorem dX1_removeOffer_51 : decode cX1_removeOffer 51 = .ok (.iconst 1, 1) := by decide +kernel
theorem dX1_removeOffer_52 : decode cX1_removeOffer 52 = .ok (.iadd, 1) := by decide +kernel
theorem dX1_removeOffer_53 : decode cX1_removeOffer 53 = .ok (.aaload, 1) := by decide +kernel
theorem dX1_removeOffer_54 : decode cX1_removeOffer 54 = .ok (.aastore, 1) := by decide +kernel
theorem dX1_removeOffer_55 : decode cX1_removeOffer 55 = .ok (.iinc 3 1, 3) := by decide +kernel
theorem dX1_removeOffer_58 : decode cX1_removeOffer 58 = .ok (.goto (-27), 3) := by decide +kernel
theorem dX1_removeOffer_61 : decode cX1_removeOffer 61 = .ok (.aload_n 0, 1) := by decide +kernel
theorem dX1_removeOffer_62 : decode cX1_removeOffer 62 = .ok (.dup, 1) := by decide +kernel
theorem dX1_removeOffer_63 : decode cX1_removeOffer 63 = .ok (.getfield 45, 3) := by decide +kernel
theorem dX1_removeOffer_66 : decode cX1_removeOffer 66 = .ok (.iconst 1, 1) := by decide +kernel
theorem dX1_removeOffer_67 : decode cX1_removeOffer 67 = .ok (.isub, 1) := by decide +kernel
theorem dX1_removeOffer_68 : decode cX1_removeOffer 68 = .ok (.putfield 45, 3) := by decide +kernel
theorem dX1_removeOffer_71 : decode cX1_removeOffer 71 = .ok (.aload_n 0, 1) := by decide +kernel
theorem dX1_removeOffer_72 : decode cX1_removeOffer 72 = .ok (.getfield 25, 3) := by decide +kernel
theorem dX1_removeOffer_75 : decode cX1_removeOffer 75 = .ok (.aload_n 0, 1) := by decide +kernel
theorem dX1_removeOffer_76 : decode cX1_removeOffer 76 = .ok (.getfield 45, 3) := by decide +kernel
theorem dX1_removeOffer_79 : decode cX1_removeOffer 79 = .ok (.aload_n 2, 1) := by decide +kernel
theorem dX1_removeOffer_80 : decode cX1_removeOffer 80 = .ok (.aastore, 1) := by decide +kernel
theorem dX1_removeOffer_81 : decode cX1_removeOffer 81 = .ok (.return_, 1) := by decide +kernel
theorem dX1_payFees_0 : decode cX1_payFees 0 = .ok (.iconst 0, 1) := by decide +kernel
theorem dX1_payFees_1 : decode cX1_payFees 1 = .ok (.istore_n 1, 1) := by decide +kernel
theorem dX1_payFees_2 : decode cX1_payFees 2 = .ok (.iload_n 1, 1) := by decide +kernel
theorem dX1_payFees_3 : decode cX1_payFees 3 = .ok (.aload_n 0, 1) := by decide +kernel
theorem dX1_payFees_4 : decode cX1_payFees 4 = .ok (.getfield 38, 3) := by decide +kernel
theorem dX1_payFees_7 : decode cX1_payFees 7 = .ok (.if_icmp .ge 60, 3) := by decide +kernel
theorem dX1_payFees_10 : decode cX1_payFees 10 = .ok (.aload_n 0, 1) := by decide +kernel
theorem dX1_payFees_11 : decode cX1_payFees 11 = .ok (.getfield 11, 3) := by decide +kernel
theorem dX1_payFees_14 : decode cX1_payFees 14 = .ok (.iload_n 1, 1) := by decide +kernel
theorem dX1_payFees_15 : decode cX1_payFees 15 = .ok (.aaload, 1) := by decide +kernel
theorem dX1_payFees_16 : decode cX1_payFees 16 = .ok (.astore_n 2, 1) := by decide +kernel
theorem dX1_payFees_17 : decode cX1_payFees 17 = .ok (.aload_n 2, 1) := by decide +kernel
theorem dX1_payFees_18 : decode cX1_payFees 18 = .ok (.invokevirtual 234, 3) := by decide +kernel
theorem dX1_payFees_21 : decode cX1_payFees 21 = .ok (.ifCond .eq 40, 3) := by decide +kernel
theorem dX1_payFees_24 : decode cX1_payFees 24 = .ok (.aload_n 0, 1) := by decide +kernel
theorem dX1_payFees_25 : decode cX1_payFees 25 = .ok (.getfield 48, 3) := by decide +kernel
theorem dX1_payFees_28 : decode cX1_payFees 28 = .ok (.aload_n 2, 1) := by decide +kernel
theorem dX1_payFees_29 : decode cX1_payFees 29 = .ok (.getfield 101, 3) := by decide +kernel
theorem dX1_payFees_32 : decode cX1_payFees 32 = .ok (.isub, 1) := by decide +kernel
theorem dX1_payFees_33 : decode cX1_payFees 33 = .ok (.aload_n 0, 1) := by decide +kernel
theorem dX1_payFees_34 : decode cX1_payFees 34 = .ok (.getfield 29, 3) := by decide +kernel
theorem dX1_payFees_37 : decode cX1_payFees 37 = .ok (.iconst 1, 1) := by decide +kernel
theorem dX1_payFees_38 : decode cX1_payFees 38 = .ok (.iaload, 1) := by decide +kernel
theorem dX1_payFees_39 : decode cX1_payFees 39 = .ok (.if_icmp .le 22, 3) := by decide +kernel
theorem dX1_payFees_42 : decode cX1_payFees 42 = .ok (.aload_n 0, 1) := by decide +kernel
theorem dX1_payFees_43 : decode cX1_payFees 43 = .ok (.dup, 1) := by decide +kernel
theorem dX1_payFees_44 : decode cX1_payFees 44 = .ok (.getfield 57, 3) := by decide +kernel
theorem dX1_payFees_47 : decode cX1_payFees 47 = .ok (.aload_n 2, 1) := by decide +kernel
theorem dX1_payFees_48 : decode cX1_payFees 48 = .ok (.getfield 86, 3) := by decide +kernel
theorem dX1_payFees_51 : decode cX1_payFees 51 = .ok (.bipush 9, 2) := by decide +kernel
theorem dX1_payFees_53 : decode cX1_payFees 53 = .ok (.iadd, 1) := by decide +kernel
theorem dX1_payFees_54 : decode cX1_payFees 54 = .ok (.bipush 10, 2) := by decide +kernel
theorem dX1_payFees_56 : decode cX1_payFees 56 = .ok (.idiv, 1) := by decide +kernel
theorem dX1_payFees_57 : decode cX1_payFees 57 = .ok (.iadd, 1) := by decide +kernel
theorem dX1_payFees_58 : decode cX1_payFees 58 = .ok (.putfield 57, 3) := by decide +kernel
theorem dX1_payFees_61 : decode cX1_payFees 61 = .ok (.iinc 1 1, 3) := by decide +kernel
theorem dX1_payFees_64 : decode cX1_payFees 64 = .ok (.goto (-62), 3) := by decide +kernel
theorem dX1_payFees_67 : decode cX1_payFees 67 = .ok (.return_, 1) := by decide +kernel
theorem dX1_canTake_0 : decode cX1_canTake 0 = .ok (.aload_n 1, 1) := by decide +kernel
theorem dX1_canTake_1 : decode cX1_canTake 1 = .ok (.getfield 141, 3) := by decide +kernel
theorem dX1_canTake_4 : decode cX1_canTake 4 = .ok (.ifCond .ne 10, 3) := by decide +kernel
theorem dX1_canTake_7 : decode cX1_canTake 7 = .ok (.aload_n 2, 1) := by decide +kernel
theorem dX1_canTake_8 : decode cX1_canTake 8 = .ok (.getfield 79, 3) := by decide +kernel
theorem dX1_canTake_11 : decode cX1_canTake 11 = .ok (.ifCond .eq 5, 3) := by decide +kernel
theorem dX1_canTake_14 : decode cX1_canTake 14 = .ok (.iconst 0, 1) := by decide +kernel
theorem dX1_canTake_15 : decode cX1_canTake 15 = .ok (.ireturn, 1) := by decide +kernel
theorem dX1_canTake_16 : decode cX1_canTake 16 = .ok (.aload_n 0, 1) := by decide +kernel
theorem dX1_canTake_17 : decode cX1_canTake 17 = .ok (.aload_n 1, 1) := by decide +kernel
theorem dX1_canTake_18 : decode cX1_canTake 18 = .ok (.invokevirtual 172, 3) := by decide +kernel
theorem dX1_canTake_21 : decode cX1_canTake 21 = .ok (.istore_n 3, 1) := by decide +kernel
theorem dX1_canTake_22 : decode cX1_canTake 22 = .ok (.iload_n 3, 1) := by decide +kernel
theorem dX1_canTake_23 : decode cX1_canTake 23 = .ok (.ifCond .eq 11, 3) := by decide +kernel
theorem dX1_canTake_26 : decode cX1_canTake 26 = .ok (.iload_n 3, 1) := by decide +kernel
theorem dX1_canTake_27 : decode cX1_canTake 27 = .ok (.aload_n 2, 1) := by decide +kernel
theorem dX1_canTake_28 : decode cX1_canTake 28 = .ok (.getfield 83, 3) := by decide +kernel
theorem dX1_canTake_31 : decode cX1_canTake 31 = .ok (.if_icmp .ne 41, 3) := by decide +kernel
theorem dX1_canTake_34 : decode cX1_canTake 34 = .ok (.aload_n 0, 1) := by decide +kernel
theorem dX1_canTake_35 : decode cX1_canTake 35 = .ok (.aload_n 1, 1) := by decide +kernel
theorem dX1_canTake_36 : decode cX1_canTake 36 = .ok (.invokevirtual 160, 3) := by decide +kernel
theorem dX1_canTake_39 : decode cX1_canTake 39 = .ok (.aload_n 2, 1) := by decide +kernel
theorem dX1_canTake_40 : decode cX1_canTake 40 = .ok (.getfield 86, 3) := by decide +kernel
theorem dX1_canTake_43 : decode cX1_canTake 43 = .ok (.iadd, 1) := by decide +kernel
theorem dX1_canTake_44 : decode cX1_canTake 44 = .ok (.aload_n 1, 1) := by decide +kernel
theorem dX1_canTake_45 : decode cX1_canTake 45 = .ok (.getfield 135, 3) := by decide +kernel
theorem dX1_canTake_48 : decode cX1_canTake 48 = .ok (.if_icmp .gt 24, 3) := by decide +kernel
theorem dX1_canTake_51 : decode cX1_canTake 51 = .ok (.aload_n 0, 1) := by decide +kernel
theorem dX1_canTake_52 : decode cX1_canTake 52 = .ok (.aload_n 1, 1) := by decide +kernel
theorem dX1_canTake_53 : decode cX1_canTake 53 = .ok (.invokevirtual 238, 3) := by decide +kernel
theorem dX1_canTake_56 : decode cX1_canTake 56 = .ok (.aload_n 2, 1) := by decide +kernel
theorem dX1_canTake_57 : decode cX1_canTake 57 = .ok (.getfield 89, 3) := by decide +kernel
theorem dX1_canTake_60 : decode cX1_canTake 60 = .ok (.iadd, 1) := by decide +kernel
theorem dX1_canTake_61 : decode cX1_canTake 61 = .ok (.aload_n 1, 1) := by decide +kernel
theorem dX1_canTake_62 : decode cX1_canTake 62 = .ok (.getfield 138, 3) := by decide +kernel
theorem dX1_canTake_65 : decode cX1_canTake 65 = .ok (.if_icmp .gt 7, 3) := by decide +kernel
theorem dX1_canTake_68 : decode cX1_canTake 68 = .ok (.iconst 1, 1) := by decide +kernel
theorem dX1_canTake_69 : decode cX1_canTake 69 = .ok (.goto 4, 3) := by decide +kernel
theorem dX1_canTake_72 : decode cX1_canTake 72 = .ok (.iconst 0, 1) := by decide +kernel
theorem dX1_canTake_73 : decode cX1_canTake 73 = .ok (.ireturn, 1) := by decide +kernel
theorem dX1_loadSize_0 : decode cX1_loadSize 0 = .ok (.iconst 0, 1) := by decide +kernel
theorem dX1_loadSize_1 : decode cX1_loadSize 1 = .ok (.istore_n 2, 1) := by decide +kernel
theorem dX1_loadSize_2 : decode cX1_loadSize 2 = .ok (.iconst 0, 1) := by decide +kernel
theorem dX1_loadSize_3 : decode cX1_loadSize 3 = .ok (.istore_n 3, 1) := by decide +kernel
theorem dX1_loadSize_4 : decode cX1_loadSize 4 = .ok (.iload_n 3, 1) := by decide +kernel
theorem dX1_loadSize_5 : decode cX1_loadSize 5 = .ok (.aload_n 0, 1) := by decide +kernel
theorem dX1_loadSize_6 : decode cX1_loadSize 6 = .ok (.getfield 38, 3) := by decide +kernel
theorem dX1_loadSize_9 : decode cX1_loadSize 9 = .ok (.if_icmp .ge 38, 3) := by decide +kernel
theorem dX1_loadSize_12 : decode cX1_loadSize 12 = .ok (.iload_n 2, 1) := by decide +kernel
theorem dX1_loadSize_13 : decode cX1_loadSize 13 = .ok (.aload_n 0, 1) := by decide +kernel
theorem dX1_loadSize_14 : decode cX1_loadSize 14 = .ok (.getfield 11, 3) := by decide +kernel
theorem dX1_loadSize_17 : decode cX1_loadSize 17 = .ok (.iload_n 3, 1) := by decide +kernel
theorem dX1_loadSize_18 : decode cX1_loadSize 18 = .ok (.aaload, 1) := by decide +kernel
theorem dX1_loadSize_19 : decode cX1_loadSize 19 = .ok (.aload_n 1, 1) := by decide +kernel
theorem dX1_loadSize_20 : decode cX1_loadSize 20 = .ok (.invokevirtual 175, 3) := by decide +kernel
theorem dX1_loadSize_23 : decode cX1_loadSize 23 = .ok (.ifCond .eq 15, 3) := by decide +kernel
theorem dX1_loadSize_26 : decode cX1_loadSize 26 = .ok (.aload_n 0, 1) := by decide +kernel
theorem dX1_loadSize_27 : decode cX1_loadSize 27 = .ok (.getfield 11, 3) := by decide +kernel
theorem dX1_loadSize_30 : decode cX1_loadSize 30 = .ok (.iload_n 3, 1) := by decide +kernel
theorem dX1_loadSize_31 : decode cX1_loadSize 31 = .ok (.aaload, 1) := by decide +kernel
theorem dX1_loadSize_32 : decode cX1_loadSize 32 = .ok (.getfield 86, 3) := by decide +kernel
theorem dX1_loadSize_35 : decode cX1_loadSize 35 = .ok (.goto 4, 3) := by decide +kernel
theorem dX1_loadSize_38 : decode cX1_loadSize 38 = .ok (.iconst 0, 1) := by decide +kernel
theorem dX1_loadSize_39 : decode cX1_loadSize 39 = .ok (.iadd, 1) := by decide +kernel
theorem dX1_loadSize_40 : decode cX1_loadSize 40 = .ok (.istore_n 2, 1) := by decide +kernel
theorem dX1_loadSize_41 : decode cX1_loadSize 41 = .ok (.iinc 3 1, 3) := by decide +kernel
theorem dX1_loadSize_44 : decode cX1_loadSize 44 = .ok (.goto (-40), 3) := by decide +kernel
theorem dX1_loadSize_47 : decode cX1_loadSize 47 = .ok (.iload_n 2, 1) := by decide +kernel
theorem dX1_loadSize_48 : decode cX1_loadSize 48 = .ok (.ireturn, 1) := by decide +kernel
theorem dX1_loadWeight_0 : decode cX1_loadWeight 0 = .ok (.iconst 0, 1) := by decide +kernel
theorem dX1_loadWeight_1 : decode cX1_loadWeight 1 = .ok (.istore_n 2, 1) := by decide +kernel
theorem dX1_loadWeight_2 : decode cX1_loadWeight 2 = .ok (.iconst 0, 1) := by decide +kernel
theorem dX1_loadWeight_3 : decode cX1_loadWeight 3 = .ok (.istore_n 3, 1) := by decide +kernel
theorem dX1_loadWeight_4 : decode cX1_loadWeight 4 = .ok (.iload_n 3, 1) := by decide +kernel
theorem dX1_loadWeight_5 : decode cX1_loadWeight 5 = .ok (.aload_n 0, 1) := by decide +kernel
theorem dX1_loadWeight_6 : decode cX1_loadWeight 6 = .ok (.getfield 38, 3) := by decide +kernel
theorem dX1_loadWeight_9 : decode cX1_loadWeight 9 = .ok (.if_icmp .ge 38, 3) := by decide +kernel
theorem dX1_loadWeight_12 : decode cX1_loadWeight 12 = .ok (.iload_n 2, 1) := by decide +kernel
theorem dX1_loadWeight_13 : decode cX1_loadWeight 13 = .ok (.aload_n 0, 1) := by decide +kernel
theorem dX1_loadWeight_14 : decode cX1_loadWeight 14 = .ok (.getfield 11, 3) := by decide +kernel
theorem dX1_loadWeight_17 : decode cX1_loadWeight 17 = .ok (.iload_n 3, 1) := by decide +kernel
theorem dX1_loadWeight_18 : decode cX1_loadWeight 18 = .ok (.aaload, 1) := by decide +kernel
theorem dX1_loadWeight_19 : decode cX1_loadWeight 19 = .ok (.aload_n 1, 1) := by decide +kernel
theorem dX1_loadWeight_20 : decode cX1_loadWeight 20 = .ok (.invokevirtual 175, 3) := by decide +kernel
theorem dX1_loadWeight_23 : decode cX1_loadWeight 23 = .ok (.ifCond .eq 15, 3) := by decide +kernel
theorem dX1_loadWeight_26 : decode cX1_loadWeight 26 = .ok (.aload_n 0, 1) := by decide +kernel
theorem dX1_loadWeight_27 : decode cX1_loadWeight 27 = .ok (.getfield 11, 3) := by decide +kernel
theorem dX1_loadWeight_30 : decode cX1_loadWeight 30 = .ok (.iload_n 3, 1) := by decide +kernel
theorem dX1_loadWeight_31 : decode cX1_loadWeight 31 = .ok (.aaload, 1) := by decide +kernel
theorem dX1_loadWeight_32 : decode cX1_loadWeight 32 = .ok (.getfield 89, 3) := by decide +kernel
theorem dX1_loadWeight_35 : decode cX1_loadWeight 35 = .ok (.goto 4, 3) := by decide +kernel
theorem dX1_loadWeight_38 : decode cX1_loadWeight 38 = .ok (.iconst 0, 1) := by decide +kernel
theorem dX1_loadWeight_39 : decode cX1_loadWeight 39 = .ok (.iadd, 1) := by decide +kernel
theorem dX1_loadWeight_40 : decode cX1_loadWeight 40 = .ok (.istore_n 2, 1) := by decide +kernel
theorem dX1_loadWeight_41 : decode cX1_loadWeight 41 = .ok (.iinc 3 1, 3) := by decide +kernel
theorem dX1_loadWeight_44 : decode cX1_loadWeight 44 = .ok (.goto (-40), 3) := by decide +kernel
theorem dX1_loadWeight_47 : decode cX1_loadWeight 47 = .ok (.iload_n 2, 1) := by decide +kernel
theorem dX1_loadWeight_48 : decode cX1_loadWeight 48 = .ok (.ireturn, 1) := by decide +kernel
theorem dX1_loadSet_0 : decode cX1_loadSet 0 = .ok (.iconst 0, 1) := by decide +kernel
theorem dX1_loadSet_1 : decode cX1_loadSet 1 = .ok (.istore_n 2, 1) := by decide +kernel
theorem dX1_loadSet_2 : decode cX1_loadSet 2 = .ok (.iconst 0, 1) := by decide +kernel
theorem dX1_loadSet_3 : decode cX1_loadSet 3 = .ok (.istore_n 3, 1) := by decide +kernel
theorem dX1_loadSet_4 : decode cX1_loadSet 4 = .ok (.iload_n 3, 1) := by decide +kernel
theorem dX1_loadSet_5 : decode cX1_loadSet 5 = .ok (.aload_n 0, 1) := by decide +kernel
theorem dX1_loadSet_6 : decode cX1_loadSet 6 = .ok (.getfield 38, 3) := by decide +kernel
theorem dX1_loadSet_9 : decode cX1_loadSet 9 = .ok (.if_icmp .ge 32, 3) := by decide +kernel
theorem dX1_loadSet_12 : decode cX1_loadSet 12 = .ok (.iload_n 2, 1) := by decide +kernel
theorem dX1_loadSet_13 : decode cX1_loadSet 13 = .ok (.aload_n 0, 1) := by decide +kernel
theorem dX1_loadSet_14 : decode cX1_loadSet 14 = .ok (.getfield 11, 3) := by decide +kernel
theorem dX1_loadSet_17 : decode cX1_loadSet 17 = .ok (.iload_n 3, 1) := by decide +kernel
theorem dX1_loadSet_18 : decode cX1_loadSet 18 = .ok (.aaload, 1) := by decide +kernel
theorem dX1_loadSet_19 : decode cX1_loadSet 19 = .ok (.aload_n 1, 1) := by decide +kernel
theorem dX1_loadSet_20 : decode cX1_loadSet 20 = .ok (.invokevirtual 175, 3) := by decide +kernel
theorem dX1_loadSet_23 : decode cX1_loadSet 23 = .ok (.ifCond .eq 9, 3) := by decide +kernel
theorem dX1_loadSet_26 : decode cX1_loadSet 26 = .ok (.iconst 1, 1) := by decide +kernel
theorem dX1_loadSet_27 : decode cX1_loadSet 27 = .ok (.iload_n 3, 1) := by decide +kernel
theorem dX1_loadSet_28 : decode cX1_loadSet 28 = .ok (.ishl, 1) := by decide +kernel
theorem dX1_loadSet_29 : decode cX1_loadSet 29 = .ok (.goto 4, 3) := by decide +kernel
theorem dX1_loadSet_32 : decode cX1_loadSet 32 = .ok (.iconst 0, 1) := by decide +kernel
theorem dX1_loadSet_33 : decode cX1_loadSet 33 = .ok (.ior, 1) := by decide +kernel
theorem dX1_loadSet_34 : decode cX1_loadSet 34 = .ok (.istore_n 2, 1) := by decide +kernel
theorem dX1_loadSet_35 : decode cX1_loadSet 35 = .ok (.iinc 3 1, 3) := by decide +kernel
theorem dX1_loadSet_38 : decode cX1_loadSet 38 = .ok (.goto (-34), 3) := by decide +kernel
theorem dX1_loadSet_41 : decode cX1_loadSet 41 = .ok (.iload_n 2, 1) := by decide +kernel
theorem dX1_loadSet_42 : decode cX1_loadSet 42 = .ok (.ireturn, 1) := by decide +kernel
theorem dX1_loadPlace_0 : decode cX1_loadPlace 0 = .ok (.iconst 0, 1) := by decide +kernel
theorem dX1_loadPlace_1 : decode cX1_loadPlace 1 = .ok (.istore_n 2, 1) := by decide +kernel
theorem dX1_loadPlace_2 : decode cX1_loadPlace 2 = .ok (.iload_n 2, 1) := by decide +kernel
theorem dX1_loadPlace_3 : decode cX1_loadPlace 3 = .ok (.aload_n 0, 1) := by decide +kernel
theorem dX1_loadPlace_4 : decode cX1_loadPlace 4 = .ok (.getfield 38, 3) := by decide +kernel
theorem dX1_loadPlace_7 : decode cX1_loadPlace 7 = .ok (.if_icmp .ge 32, 3) := by decide +kernel
theorem dX1_loadPlace_10 : decode cX1_loadPlace 10 = .ok (.aload_n 0, 1) := by decide +kernel
theorem dX1_loadPlace_11 : decode cX1_loadPlace 11 = .ok (.getfield 11, 3) := by decide +kernel
theorem dX1_loadPlace_14 : decode cX1_loadPlace 14 = .ok (.iload_n 2, 1) := by decide +kernel
theorem dX1_loadPlace_15 : decode cX1_loadPlace 15 = .ok (.aaload, 1) := by decide +kernel
theorem dX1_loadPlace_16 : decode cX1_loadPlace 16 = .ok (.aload_n 1, 1) := by decide +kernel
theorem dX1_loadPlace_17 : decode cX1_loadPlace 17 = .ok (.invokevirtual 175, 3) := by decide +kernel
theorem dX1_loadPlace_20 : decode cX1_loadPlace 20 = .ok (.ifCond .eq 13, 3) := by decide +kernel
theorem dX1_loadPlace_23 : decode cX1_loadPlace 23 = .ok (.aload_n 0, 1) := by decide +kernel
theorem dX1_loadPlace_24 : decode cX1_loadPlace 24 = .ok (.getfield 11, 3) := by decide +kernel
theorem dX1_loadPlace_27 : decode cX1_loadPlace 27 = .ok (.iload_n 2, 1) := by decide +kernel
theorem dX1_loadPlace_28 : decode cX1_loadPlace 28 = .ok (.aaload, 1) := by decide +kernel
theorem dX1_loadPlace_29 : decode cX1_loadPlace 29 = .ok (.getfield 83, 3) := by decide +kernel
theorem dX1_loadPlace_32 : decode cX1_loadPlace 32 = .ok (.ireturn, 1) := by decide +kernel
theorem dX1_loadPlace_33 : decode cX1_loadPlace 33 = .ok (.iinc 2 1, 3) := by decide +kernel
theorem dX1_loadPlace_36 : decode cX1_loadPlace 36 = .ok (.goto (-34), 3) := by decide +kernel
theorem dX1_loadPlace_39 : decode cX1_loadPlace 39 = .ok (.iconst 0, 1) := by decide +kernel
theorem dX1_loadPlace_40 : decode cX1_loadPlace 40 = .ok (.ireturn, 1) := by decide +kernel
theorem dX1_partsOf_0 : decode cX1_partsOf 0 = .ok (.iconst 0, 1) := by decide +kernel
theorem dX1_partsOf_1 : decode cX1_partsOf 1 = .ok (.istore_n 2, 1) := by decide +kernel
theorem dX1_partsOf_2 : decode cX1_partsOf 2 = .ok (.iconst 0, 1) := by decide +kernel
theorem dX1_partsOf_3 : decode cX1_partsOf 3 = .ok (.istore_n 3, 1) := by decide +kernel
theorem dX1_partsOf_4 : decode cX1_partsOf 4 = .ok (.iload_n 3, 1) := by decide +kernel
theorem dX1_partsOf_5 : decode cX1_partsOf 5 = .ok (.aload_n 0, 1) := by decide +kernel
theorem dX1_partsOf_6 : decode cX1_partsOf 6 = .ok (.getfield 38, 3) := by decide +kernel
theorem dX1_partsOf_9 : decode cX1_partsOf 9 = .ok (.if_icmp .ge 57, 3) := by decide +kernel
theorem dX1_partsOf_12 : decode cX1_partsOf 12 = .ok (.aload_n 0, 1) := by decide +kernel
theorem dX1_partsOf_13 : decode cX1_partsOf 13 = .ok (.getfield 11, 3) := by decide +kernel
theorem dX1_partsOf_16 : decode cX1_partsOf 16 = .ok (.iload_n 3, 1) := by decide +kernel
theorem dX1_partsOf_17 : decode cX1_partsOf 17 = .ok (.aaload, 1) := by decide +kernel
theorem dX1_partsOf_18 : decode cX1_partsOf 18 = .ok (.getfield 107, 3) := by decide +kernel
theorem dX1_partsOf_21 : decode cX1_partsOf 21 = .ok (.iload_n 1, 1) := by decide +kernel
theorem dX1_partsOf_22 : decode cX1_partsOf 22 = .ok (.if_icmp .ne 20, 3) := by decide +kernel
theorem dX1_partsOf_25 : decode cX1_partsOf 25 = .ok (.aload_n 0, 1) := by decide +kernel
theorem dX1_partsOf_26 : decode cX1_partsOf 26 = .ok (.getfield 11, 3) := by decide +kernel
theorem dX1_partsOf_29 : decode cX1_partsOf 29 = .ok (.iload_n 3, 1) := by decide +kernel
theorem dX1_partsOf_30 : decode cX1_partsOf 30 = .ok (.aaload, 1) := by decide +kernel
theorem dX1_partsOf_31 : decode cX1_partsOf 31 = .ok (.getfield 79, 3) := by decide +kernel
theorem dX1_partsOf_34 : decode cX1_partsOf 34 = .ok (.iconst 5, 1) := by decide +kernel
theorem dX1_partsOf_35 : decode cX1_partsOf 35 = .ok (.if_icmp .eq 7, 3) := by decide +kernel
theorem dX1_partsOf_38 : decode cX1_partsOf 38 = .ok (.iconst 1, 1) := by decide +kernel
theorem dX1_partsOf_39 : decode cX1_partsOf 39 = .ok (.goto 4, 3) := by decide +kernel
theorem dX1_partsOf_42 : decode cX1_partsOf 42 = .ok (.iconst 0, 1) := by decide +kernel
theorem dX1_partsOf_43 : decode cX1_partsOf 43 = .ok (.istore 4, 2) := by decide +kernel
theorem dX1_partsOf_45 : decode cX1_partsOf 45 = .ok (.iload_n 2, 1) := by decide +kernel
theorem dX1_partsOf_46 : decode cX1_partsOf 46 = .ok (.iload 4, 2) := by decide +kernel
theorem dX1_partsOf_48 : decode cX1_partsOf 48 = .ok (.ifCond .eq 9, 3) := by decide +kernel
theorem dX1_partsOf_51 : decode cX1_partsOf 51 = .ok (.iconst 1, 1) := by decide +kernel
theorem dX1_partsOf_52 : decode cX1_partsOf 52 = .ok (.iload_n 3, 1) := by decide +kernel
theorem dX1_partsOf_53 : decode cX1_partsOf 53 = .ok (.ishl, 1) := by decide +kernel
theorem dX1_partsOf_54 : decode cX1_partsOf 54 = .ok (.goto 4, 3) := by decide +kernel
theorem dX1_partsOf_57 : decode cX1_partsOf 57 = .ok (.iconst 0, 1) := by decide +kernel
theorem dX1_partsOf_58 : decode cX1_partsOf 58 = .ok (.ior, 1) := by decide +kernel
theorem dX1_partsOf_59 : decode cX1_partsOf 59 = .ok (.istore_n 2, 1) := by decide +kernel
theorem dX1_partsOf_60 : decode cX1_partsOf 60 = .ok (.iinc 3 1, 3) := by decide +kernel
theorem dX1_partsOf_63 : decode cX1_partsOf 63 = .ok (.goto (-59), 3) := by decide +kernel
theorem dX1_partsOf_66 : decode cX1_partsOf 66 = .ok (.iload_n 2, 1) := by decide +kernel
theorem dX1_partsOf_67 : decode cX1_partsOf 67 = .ok (.ireturn, 1) := by decide +kernel
theorem dX1_hallSet_0 : decode cX1_hallSet 0 = .ok (.iconst 0, 1) := by decide +kernel
theorem dX1_hallSet_1 : decode cX1_hallSet 1 = .ok (.istore_n 1, 1) := by decide +kernel
theorem dX1_hallSet_2 : decode cX1_hallSet 2 = .ok (.iconst 0, 1) := by decide +kernel
theorem dX1_hallSet_3 : decode cX1_hallSet 3 = .ok (.istore_n 2, 1) := by decide +kernel
theorem dX1_hallSet_4 : decode cX1_hallSet 4 = .ok (.iload_n 2, 1) := by decide +kernel
theorem dX1_hallSet_5 : decode cX1_hallSet 5 = .ok (.aload_n 0, 1) := by decide +kernel
theorem dX1_hallSet_6 : decode cX1_hallSet 6 = .ok (.getfield 38, 3) := by decide +kernel
theorem dX1_hallSet_9 : decode cX1_hallSet 9 = .ok (.if_icmp .ge 31, 3) := by decide +kernel
theorem dX1_hallSet_12 : decode cX1_hallSet 12 = .ok (.iload_n 1, 1) := by decide +kernel
theorem dX1_hallSet_13 : decode cX1_hallSet 13 = .ok (.aload_n 0, 1) := by decide +kernel
theorem dX1_hallSet_14 : decode cX1_hallSet 14 = .ok (.getfield 11, 3) := by decide +kernel
theorem dX1_hallSet_17 : decode cX1_hallSet 17 = .ok (.iload_n 2, 1) := by decide +kernel
theorem dX1_hallSet_18 : decode cX1_hallSet 18 = .ok (.aaload, 1) := by decide +kernel
theorem dX1_hallSet_19 : decode cX1_hallSet 19 = .ok (.invokevirtual 234, 3) := by decide +kernel
theorem dX1_hallSet_22 : decode cX1_hallSet 22 = .ok (.ifCond .eq 9, 3) := by decide +kernel
theorem dX1_hallSet_25 : decode cX1_hallSet 25 = .ok (.iconst 1, 1) := by decide +kernel
theorem dX1_hallSet_26 : decode cX1_hallSet 26 = .ok (.iload_n 2, 1) := by decide +kernel
theorem dX1_hallSet_27 : decode cX1_hallSet 27 = .ok (.ishl, 1) := by decide +kernel
theorem dX1_hallSet_28 : decode cX1_hallSet 28 = .ok (.goto 4, 3) := by decide +kernel
theorem dX1_hallSet_31 : decode cX1_hallSet 31 = .ok (.iconst 0, 1) := by decide +kernel
theorem dX1_hallSet_32 : decode cX1_hallSet 32 = .ok (.ior, 1) := by decide +kernel
theorem dX1_hallSet_33 : decode cX1_hallSet 33 = .ok (.istore_n 1, 1) := by decide +kernel
theorem dX1_hallSet_34 : decode cX1_hallSet 34 = .ok (.iinc 2 1, 3) := by decide +kernel
theorem dX1_hallSet_37 : decode cX1_hallSet 37 = .ok (.goto (-33), 3) := by decide +kernel
theorem dX1_hallSet_40 : decode cX1_hallSet 40 = .ok (.iload_n 1, 1) := by decide +kernel
theorem dX1_hallSet_41 : decode cX1_hallSet 41 = .ok (.ireturn, 1) := by decide +kernel
theorem dX1_howManyAre_0 : decode cX1_howManyAre 0 = .ok (.iconst 0, 1) := by decide +kernel
theorem dX1_howManyAre_1 : decode cX1_howManyAre 1 = .ok (.istore_n 2, 1) := by decide +kernel
theorem dX1_howManyAre_2 : decode cX1_howManyAre 2 = .ok (.iconst 0, 1) := by decide +kernel
theorem dX1_howManyAre_3 : decode cX1_howManyAre 3 = .ok (.istore_n 3, 1) := by decide +kernel
theorem dX1_howManyAre_4 : decode cX1_howManyAre 4 = .ok (.iload_n 3, 1) := by decide +kernel
theorem dX1_howManyAre_5 : decode cX1_howManyAre 5 = .ok (.aload_n 0, 1) := by decide +kernel
theorem dX1_howManyAre_6 : decode cX1_howManyAre 6 = .ok (.getfield 38, 3) := by decide +kernel
theorem dX1_howManyAre_9 : decode cX1_howManyAre 9 = .ok (.if_icmp .ge 30, 3) := by decide +kernel
theorem dX1_howManyAre_12 : decode cX1_howManyAre 12 = .ok (.iload_n 2, 1) := by decide +kernel
theorem dX1_howManyAre_13 : decode cX1_howManyAre 13 = .ok (.aload_n 0, 1) := by decide +kernel
theorem dX1_howManyAre_14 : decode cX1_howManyAre 14 = .ok (.getfield 11, 3) := by decide +kernel
theorem dX1_howManyAre_17 : decode cX1_howManyAre 17 = .ok (.iload_n 3, 1) := by decide +kernel
theorem dX1_howManyAre_18 : decode cX1_howManyAre 18 = .ok (.aaload, 1) := by decide +kernel
theorem dX1_howManyAre_19 : decode cX1_howManyAre 19 = .ok (.getfield 79, 3) := by decide +kernel
theorem dX1_howManyAre_22 : decode cX1_howManyAre 22 = .ok (.iload_n 1, 1) := by decide +kernel
theorem dX1_howManyAre_23 : decode cX1_howManyAre 23 = .ok (.if_icmp .ne 7, 3) := by decide +kernel
theorem dX1_howManyAre_26 : decode cX1_howManyAre 26 = .ok (.iconst 1, 1) := by decide +kernel
theorem dX1_howManyAre_27 : decode cX1_howManyAre 27 = .ok (.goto 4, 3) := by decide +kernel
theorem dX1_howManyAre_30 : decode cX1_howManyAre 30 = .ok (.iconst 0, 1) := by decide +kernel
theorem dX1_howManyAre_31 : decode cX1_howManyAre 31 = .ok (.iadd, 1) := by decide +kernel
theorem dX1_howManyAre_32 : decode cX1_howManyAre 32 = .ok (.istore_n 2, 1) := by decide +kernel
theorem dX1_howManyAre_33 : decode cX1_howManyAre 33 = .ok (.iinc 3 1, 3) := by decide +kernel
theorem dX1_howManyAre_36 : decode cX1_howManyAre 36 = .ok (.goto (-32), 3) := by decide +kernel
theorem dX1_howManyAre_39 : decode cX1_howManyAre 39 = .ok (.iload_n 2, 1) := by decide +kernel
theorem dX1_howManyAre_40 : decode cX1_howManyAre 40 = .ok (.ireturn, 1) := by decide +kernel
theorem dX2_init_0 : decode cX2_init 0 = .ok (.aload_n 0, 1) := by decide +kernel
theorem dX2_init_1 : decode cX2_init 1 = .ok (.invokespecial 3, 3) := by decide +kernel
theorem dX2_init_4 : decode cX2_init 4 = .ok (.aload_n 0, 1) := by decide +kernel
theorem dX2_init_5 : decode cX2_init 5 = .ok (.iconst 5, 1) := by decide +kernel
theorem dX2_init_6 : decode cX2_init 6 = .ok (.anewarray 9, 3) := by decide +kernel
theorem dX2_init_9 : decode cX2_init 9 = .ok (.putfield 11, 3) := by decide +kernel
theorem dX2_init_12 : decode cX2_init 12 = .ok (.iconst 0, 1) := by decide +kernel
theorem dX2_init_13 : decode cX2_init 13 = .ok (.istore_n 1, 1) := by decide +kernel
theorem dX2_init_14 : decode cX2_init 14 = .ok (.iload_n 1, 1) := by decide +kernel
theorem dX2_init_15 : decode cX2_init 15 = .ok (.iconst 4, 1) := by decide +kernel
theorem dX2_init_16 : decode cX2_init 16 = .ok (.if_icmp .gt 22, 3) := by decide +kernel
theorem dX2_init_19 : decode cX2_init 19 = .ok (.aload_n 0, 1) := by decide +kernel
theorem dX2_init_20 : decode cX2_init 20 = .ok (.getfield 11, 3) := by decide +kernel
theorem dX2_init_23 : decode cX2_init 23 = .ok (.iload_n 1, 1) := by decide +kernel
theorem dX2_init_24 : decode cX2_init 24 = .ok (.new 9, 3) := by decide +kernel
theorem dX2_init_27 : decode cX2_init 27 = .ok (.dup, 1) := by decide +kernel
theorem dX2_init_28 : decode cX2_init 28 = .ok (.invokespecial 17, 3) := by decide +kernel
theorem dX2_init_31 : decode cX2_init 31 = .ok (.aastore, 1) := by decide +kernel
theorem dX2_init_32 : decode cX2_init 32 = .ok (.iinc 1 1, 3) := by decide +kernel
theorem dX2_init_35 : decode cX2_init 35 = .ok (.goto (-21), 3) := by decide +kernel
theorem dX2_init_38 : decode cX2_init 38 = .ok (.return_, 1) := by decide +kernel
theorem dX2_prepare_0 : decode cX2_prepare 0 = .ok (.aload_n 0, 1) := by decide +kernel
theorem dX2_prepare_1 : decode cX2_prepare 1 = .ok (.getfield 11, 3) := by decide +kernel
theorem dX2_prepare_4 : decode cX2_prepare 4 = .ok (.aload_n 0, 1) := by decide +kernel
theorem dX2_prepare_5 : decode cX2_prepare 5 = .ok (.getfield 18, 3) := by decide +kernel
theorem dX2_prepare_8 : decode cX2_prepare 8 = .ok (.aload_n 0, 1) := by decide +kernel
theorem dX2_prepare_9 : decode cX2_prepare 9 = .ok (.getfield 22, 3) := by decide +kernel
theorem dX2_prepare_12 : decode cX2_prepare 12 = .ok (.iadd, 1) := by decide +kernel
theorem dX2_prepare_13 : decode cX2_prepare 13 = .ok (.iconst 5, 1) := by decide +kernel
theorem dX2_prepare_14 : decode cX2_prepare 14 = .ok (.irem, 1) := by decide +kernel
theorem dX2_prepare_15 : decode cX2_prepare 15 = .ok (.aaload, 1) := by decide +kernel
theorem dX2_prepare_16 : decode cX2_prepare 16 = .ok (.aload_n 1, 1) := by decide +kernel
theorem dX2_prepare_17 : decode cX2_prepare 17 = .ok (.invokevirtual 25, 3) := by decide +kernel
theorem dX2_prepare_20 : decode cX2_prepare 20 = .ok (.return_, 1) := by decide +kernel
theorem dX2_keep_0 : decode cX2_keep 0 = .ok (.aload_n 0, 1) := by decide +kernel
theorem dX2_keep_1 : decode cX2_keep 1 = .ok (.getfield 22, 3) := by decide +kernel
theorem dX2_keep_4 : decode cX2_keep 4 = .ok (.iconst 4, 1) := by decide +kernel
theorem dX2_keep_5 : decode cX2_keep 5 = .ok (.if_icmp .ge 16, 3) := by decide +kernel
theorem dX2_keep_8 : decode cX2_keep 8 = .ok (.aload_n 0, 1) := by decide +kernel
theorem dX2_keep_9 : decode cX2_keep 9 = .ok (.dup, 1) := by decide +kernel
theorem dX2_keep_10 : decode cX2_keep 10 = .ok (.getfield 22, 3) := by decide +kernel
theorem dX2_keep_13 : decode cX2_keep 13 = .ok (.iconst 1, 1) := by decide +kernel
theorem dX2_keep_14 : decode cX2_keep 14 = .ok (.iadd, 1) := by decide +kernel
theorem dX2_keep_15 : decode cX2_keep 15 = .ok (.putfield 22, 3) := by decide +kernel
theorem dX2_keep_18 : decode cX2_keep 18 = .ok (.goto 15, 3) := by decide +kernel
theorem dX2_keep_21 : decode cX2_keep 21 = .ok (.aload_n 0, 1) := by decide +kernel
theorem dX2_keep_22 : decode cX2_keep 22 = .ok (.aload_n 0, 1) := by decide +kernel
theorem dX2_keep_23 : decode cX2_keep 23 = .ok (.getfield 18, 3) := by decide +kernel
theorem dX2_keep_26 : decode cX2_keep 26 = .ok (.iconst 1, 1) := by decide +kernel
theorem dX2_keep_27 : decode cX2_keep 27 = .ok (.iadd, 1) := by decide +kernel
theorem dX2_keep_28 : decode cX2_keep 28 = .ok (.iconst 5, 1) := by decide +kernel
theorem dX2_keep_29 : decode cX2_keep 29 = .ok (.irem, 1) := by decide +kernel
theorem dX2_keep_30 : decode cX2_keep 30 = .ok (.putfield 18, 3) := by decide +kernel
theorem dX2_keep_33 : decode cX2_keep 33 = .ok (.return_, 1) := by decide +kernel
theorem dX3_init_0 : decode cX3_init 0 = .ok (.aload_n 0, 1) := by decide +kernel
theorem dX3_init_1 : decode cX3_init 1 = .ok (.invokespecial 1, 3) := by decide +kernel
theorem dX3_init_4 : decode cX3_init 4 = .ok (.return_, 1) := by decide +kernel
theorem dX3_copyFrom_0 : decode cX3_copyFrom 0 = .ok (.aload_n 0, 1) := by decide +kernel
theorem dX3_copyFrom_1 : decode cX3_copyFrom 1 = .ok (.aload_n 1, 1) := by decide +kernel
theorem dX3_copyFrom_2 : decode cX3_copyFrom 2 = .ok (.getfield 7, 3) := by decide +kernel
theorem dX3_copyFrom_5 : decode cX3_copyFrom 5 = .ok (.putfield 7, 3) := by decide +kernel
theorem dX3_copyFrom_8 : decode cX3_copyFrom 8 = .ok (.aload_n 0, 1) := by decide +kernel
theorem dX3_copyFrom_9 : decode cX3_copyFrom 9 = .ok (.aload_n 1, 1) := by decide +kernel
theorem dX3_copyFrom_10 : decode cX3_copyFrom 10 = .ok (.getfield 13, 3) := by decide +kernel
theorem dX3_copyFrom_13 : decode cX3_copyFrom 13 = .ok (.putfield 13, 3) := by decide +kernel
theorem dX3_copyFrom_16 : decode cX3_copyFrom 16 = .ok (.aload_n 0, 1) := by decide +kernel
theorem dX3_copyFrom_17 : decode cX3_copyFrom 17 = .ok (.aload_n 1, 1) := by decide +kernel
theorem dX3_copyFrom_18 : decode cX3_copyFrom 18 = .ok (.getfield 16, 3) := by decide +kernel
theorem dX3_copyFrom_21 : decode cX3_copyFrom 21 = .ok (.putfield 16, 3) := by decide +kernel
theorem dX3_copyFrom_24 : decode cX3_copyFrom 24 = .ok (.aload_n 0, 1) := by decide +kernel
theorem dX3_copyFrom_25 : decode cX3_copyFrom 25 = .ok (.aload_n 1, 1) := by decide +kernel
theorem dX3_copyFrom_26 : decode cX3_copyFrom 26 = .ok (.getfield 19, 3) := by decide +kernel
theorem dX3_copyFrom_29 : decode cX3_copyFrom 29 = .ok (.putfield 19, 3) := by decide +kernel
theorem dX3_copyFrom_32 : decode cX3_copyFrom 32 = .ok (.aload_n 0, 1) := by decide +kernel
theorem dX3_copyFrom_33 : decode cX3_copyFrom 33 = .ok (.aload_n 1, 1) := by decide +kernel
theorem dX3_copyFrom_34 : decode cX3_copyFrom 34 = .ok (.getfield 22, 3) := by decide +kernel
theorem dX3_copyFrom_37 : decode cX3_copyFrom 37 = .ok (.putfield 22, 3) := by decide +kernel
theorem dX3_copyFrom_40 : decode cX3_copyFrom 40 = .ok (.return_, 1) := by decide +kernel
theorem dX4_init_0 : decode cX4_init 0 = .ok (.aload_n 0, 1) := by decide +kernel
theorem dX4_init_1 : decode cX4_init 1 = .ok (.invokespecial 3, 3) := by decide +kernel
theorem dX4_init_4 : decode cX4_init 4 = .ok (.aload_n 0, 1) := by decide +kernel
theorem dX4_init_5 : decode cX4_init 5 = .ok (.bipush 80, 2) := by decide +kernel
theorem dX4_init_7 : decode cX4_init 7 = .ok (.newarray .char, 2) := by decide +kernel
theorem dX4_init_9 : decode cX4_init 9 = .ok (.putfield 9, 3) := by decide +kernel
theorem dX4_init_12 : decode cX4_init 12 = .ok (.aload_n 0, 1) := by decide +kernel
theorem dX4_init_13 : decode cX4_init 13 = .ok (.iconst 5, 1) := by decide +kernel
theorem dX4_init_14 : decode cX4_init 14 = .ok (.newarray .int, 2) := by decide +kernel
theorem dX4_init_16 : decode cX4_init 16 = .ok (.putfield 15, 3) := by decide +kernel
theorem dX4_init_19 : decode cX4_init 19 = .ok (.return_, 1) := by decide +kernel
theorem dX5_init_0 : decode cX5_init 0 = .ok (.aload_n 0, 1) := by decide +kernel
theorem dX5_init_1 : decode cX5_init 1 = .ok (.invokespecial 1, 3) := by decide +kernel
theorem dX5_init_4 : decode cX5_init 4 = .ok (.aload_n 0, 1) := by decide +kernel
theorem dX5_init_5 : decode cX5_init 5 = .ok (.iload_n 1, 1) := by decide +kernel
theorem dX5_init_6 : decode cX5_init 6 = .ok (.putfield 7, 3) := by decide +kernel
theorem dX5_init_9 : decode cX5_init 9 = .ok (.return_, 1) := by decide +kernel
theorem dX5_copyFrom_0 : decode cX5_copyFrom 0 = .ok (.aload_n 0, 1) := by decide +kernel
theorem dX5_copyFrom_1 : decode cX5_copyFrom 1 = .ok (.aload_n 1, 1) := by decide +kernel
theorem dX5_copyFrom_2 : decode cX5_copyFrom 2 = .ok (.getfield 13, 3) := by decide +kernel
theorem dX5_copyFrom_5 : decode cX5_copyFrom 5 = .ok (.putfield 13, 3) := by decide +kernel
theorem dX5_copyFrom_8 : decode cX5_copyFrom 8 = .ok (.aload_n 0, 1) := by decide +kernel
theorem dX5_copyFrom_9 : decode cX5_copyFrom 9 = .ok (.aload_n 1, 1) := by decide +kernel
theorem dX5_copyFrom_10 : decode cX5_copyFrom 10 = .ok (.getfield 16, 3) := by decide +kernel
theorem dX5_copyFrom_13 : decode cX5_copyFrom 13 = .ok (.putfield 16, 3) := by decide +kernel
theorem dX5_copyFrom_16 : decode cX5_copyFrom 16 = .ok (.aload_n 0, 1) := by decide +kernel
theorem dX5_copyFrom_17 : decode cX5_copyFrom 17 = .ok (.aload_n 1, 1) := by decide +kernel
theorem dX5_copyFrom_18 : decode cX5_copyFrom 18 = .ok (.getfield 19, 3) := by decide +kernel
theorem dX5_copyFrom_21 : decode cX5_copyFrom 21 = .ok (.putfield 19, 3) := by decide +kernel
theorem dX5_copyFrom_24 : decode cX5_copyFrom 24 = .ok (.aload_n 0, 1) := by decide +kernel
theorem dX5_copyFrom_25 : decode cX5_copyFrom 25 = .ok (.aload_n 1, 1) := by decide +kernel
theorem dX5_copyFrom_26 : decode cX5_copyFrom 26 = .ok (.getfield 22, 3) := by decide +kernel
theorem dX5_copyFrom_29 : decode cX5_copyFrom 29 = .ok (.putfield 22, 3) := by decide +kernel
theorem dX5_copyFrom_32 : decode cX5_copyFrom 32 = .ok (.aload_n 0, 1) := by decide +kernel
theorem dX5_copyFrom_33 : decode cX5_copyFrom 33 = .ok (.aload_n 1, 1) := by decide +kernel
theorem dX5_copyFrom_34 : decode cX5_copyFrom 34 = .ok (.getfield 25, 3) := by decide +kernel
theorem dX5_copyFrom_37 : decode cX5_copyFrom 37 = .ok (.putfield 25, 3) := by decide +kernel
theorem dX5_copyFrom_40 : decode cX5_copyFrom 40 = .ok (.aload_n 0, 1) := by decide +kernel
theorem dX5_copyFrom_41 : decode cX5_copyFrom 41 = .ok (.aload_n 1, 1) := by decide +kernel
theorem dX5_copyFrom_42 : decode cX5_copyFrom 42 = .ok (.getfield 28, 3) := by decide +kernel
theorem dX5_copyFrom_45 : decode cX5_copyFrom 45 = .ok (.putfield 28, 3) := by decide +kernel
theorem dX5_copyFrom_48 : decode cX5_copyFrom 48 = .ok (.aload_n 0, 1) := by decide +kernel
theorem dX5_copyFrom_49 : decode cX5_copyFrom 49 = .ok (.aload_n 1, 1) := by decide +kernel
theorem dX5_copyFrom_50 : decode cX5_copyFrom 50 = .ok (.getfield 31, 3) := by decide +kernel
theorem dX5_copyFrom_53 : decode cX5_copyFrom 53 = .ok (.putfield 31, 3) := by decide +kernel
theorem dX5_copyFrom_56 : decode cX5_copyFrom 56 = .ok (.aload_n 0, 1) := by decide +kernel
theorem dX5_copyFrom_57 : decode cX5_copyFrom 57 = .ok (.aload_n 1, 1) := by decide +kernel
theorem dX5_copyFrom_58 : decode cX5_copyFrom 58 = .ok (.getfield 34, 3) := by decide +kernel
theorem dX5_copyFrom_61 : decode cX5_copyFrom 61 = .ok (.putfield 34, 3) := by decide +kernel
theorem dX5_copyFrom_64 : decode cX5_copyFrom 64 = .ok (.return_, 1) := by decide +kernel
theorem dX6_init_0 : decode cX6_init 0 = .ok (.aload_n 0, 1) := by decide +kernel
theorem dX6_init_1 : decode cX6_init 1 = .ok (.invokespecial 1, 3) := by decide +kernel
theorem dX6_init_4 : decode cX6_init 4 = .ok (.aload_n 0, 1) := by decide +kernel
theorem dX6_init_5 : decode cX6_init 5 = .ok (.new 7, 3) := by decide +kernel
theorem dX6_init_8 : decode cX6_init 8 = .ok (.dup, 1) := by decide +kernel
theorem dX6_init_9 : decode cX6_init 9 = .ok (.invokespecial 9, 3) := by decide +kernel
theorem dX6_init_12 : decode cX6_init 12 = .ok (.putfield 10, 3) := by decide +kernel
theorem dX6_init_15 : decode cX6_init 15 = .ok (.aload_n 0, 1) := by decide +kernel
theorem dX6_init_16 : decode cX6_init 16 = .ok (.new 7, 3) := by decide +kernel
theorem dX6_init_19 : decode cX6_init 19 = .ok (.dup, 1) := by decide +kernel
theorem dX6_init_20 : decode cX6_init 20 = .ok (.invokespecial 9, 3) := by decide +kernel
theorem dX6_init_23 : decode cX6_init 23 = .ok (.putfield 16, 3) := by decide +kernel
theorem dX6_init_26 : decode cX6_init 26 = .ok (.aload_n 0, 1) := by decide +kernel
theorem dX6_init_27 : decode cX6_init 27 = .ok (.new 19, 3) := by decide +kernel
theorem dX6_init_30 : decode cX6_init 30 = .ok (.dup, 1) := by decide +kernel
theorem dX6_init_31 : decode cX6_init 31 = .ok (.invokespecial 21, 3) := by decide +kernel
theorem dX6_init_34 : decode cX6_init 34 = .ok (.putfield 22, 3) := by decide +kernel
theorem dX6_init_37 : decode cX6_init 37 = .ok (.aload_n 0, 1) := by decide +kernel
theorem dX6_init_38 : decode cX6_init 38 = .ok (.new 26, 3) := by decide +kernel
theorem dX6_init_41 : decode cX6_init 41 = .ok (.dup, 1) := by decide +kernel
theorem dX6_init_42 : decode cX6_init 42 = .ok (.invokespecial 28, 3) := by decide +kernel
theorem dX6_init_45 : decode cX6_init 45 = .ok (.putfield 29, 3) := by decide +kernel
theorem dX6_init_48 : decode cX6_init 48 = .ok (.return_, 1) := by decide +kernel
theorem dX6_consign_0 : decode cX6_consign 0 = .ok (.iload_n 1, 1) := by decide +kernel
theorem dX6_consign_1 : decode cX6_consign 1 = .ok (.iconst 1, 1) := by decide +kernel
theorem dX6_consign_2 : decode cX6_consign 2 = .ok (.iconst 4, 1) := by decide +kernel
theorem dX6_consign_3 : decode cX6_consign 3 = .ok (.invokestatic 33, 3) := by decide +kernel
theorem dX6_consign_6 : decode cX6_consign 6 = .ok (.ifCond .eq 60, 3) := by decide +kernel
theorem dX6_consign_9 : decode cX6_consign 9 = .ok (.iload_n 2, 1) := by decide +kernel
theorem dX6_consign_10 : decode cX6_consign 10 = .ok (.iconst 1, 1) := by decide +kernel
theorem dX6_consign_11 : decode cX6_consign 11 = .ok (.bipush 99, 2) := by decide +kernel
theorem dX6_consign_13 : decode cX6_consign 13 = .ok (.invokestatic 33, 3) := by decide +kernel
theorem dX6_consign_16 : decode cX6_consign 16 = .ok (.ifCond .eq 50, 3) := by decide +kernel
theorem dX6_consign_19 : decode cX6_consign 19 = .ok (.iload_n 3, 1) := by decide +kernel
theorem dX6_consign_20 : decode cX6_consign 20 = .ok (.iconst 1, 1) := by decide +kernel
theorem dX6_consign_21 : decode cX6_consign 21 = .ok (.bipush 99, 2) := by decide +kernel
theorem dX6_consign_23 : decode cX6_consign 23 = .ok (.invokestatic 33, 3) := by decide +kernel
theorem dX6_consign_26 : decode cX6_consign 26 = .ok (.ifCond .eq 40, 3) := by decide +kernel
theorem dX6_consign_29 : decode cX6_consign 29 = .ok (.iload 4, 2) := by decide +kernel
theorem dX6_consign_31 : decode cX6_consign 31 = .ok (.iconst 0, 1) := by decide +kernel
theorem dX6_consign_32 : decode cX6_consign 32 = .ok (.sipush 9999, 3) := by decide +kernel
theorem dX6_consign_35 : decode cX6_consign 35 = .ok (.invokestatic 33, 3) := by decide +kernel
theorem dX6_consign_38 : decode cX6_consign 38 = .ok (.ifCond .eq 28, 3) := by decide +kernel
theorem dX6_consign_41 : decode cX6_consign 41 = .ok (.iload 5, 2) := by decide +kernel
theorem dX6_consign_43 : decode cX6_consign 43 = .ok (.iload 4, 2) := by decide +kernel
theorem dX6_consign_45 : decode cX6_consign 45 = .ok (.sipush 9999, 3) := by decide +kernel
theorem dX6_consign_48 : decode cX6_consign 48 = .ok (.invokestatic 33, 3) := by decide +kernel
theorem dX6_consign_51 : decode cX6_consign 51 = .ok (.ifCond .eq 15, 3) := by decide +kernel
theorem dX6_consign_54 : decode cX6_consign 54 = .ok (.iload 6, 2) := by decide +kernel
theorem dX6_consign_56 : decode cX6_consign 56 = .ok (.iconst 0, 1) := by decide +kernel
theorem dX6_consign_57 : decode cX6_consign 57 = .ok (.sipush 999, 3) := by decide +kernel
theorem dX6_consign_60 : decode cX6_consign 60 = .ok (.invokestatic 33, 3) := by decide +kernel
theorem dX6_consign_63 : decode cX6_consign 63 = .ok (.ifCond .ne 6, 3) := by decide +kernel
theorem dX6_consign_66 : decode cX6_consign 66 = .ok (.ldc 37, 2) := by decide +kernel
theorem dX6_consign_68 : decode cX6_consign 68 = .ok (.ireturn, 1) := by decide +kernel
theorem dX6_consign_69 : decode cX6_consign 69 = .ok (.aload_n 0, 1) := by decide +kernel
theorem dX6_consign_70 : decode cX6_consign 70 = .ok (.getfield 22, 3) := by decide +kernel
theorem dX6_consign_73 : decode cX6_consign 73 = .ok (.aload_n 0, 1) := by decide +kernel
theorem dX6_consign_74 : decode cX6_consign 74 = .ok (.getfield 10, 3) := by decide +kernel
theorem dX6_consign_77 : decode cX6_consign 77 = .ok (.invokevirtual 38, 3) := by decide +kernel
theorem dX6_consign_80 : decode cX6_consign 80 = .ok (.aload_n 0, 1) := by decide +kernel
theorem dX6_consign_81 : decode cX6_consign 81 = .ok (.aload_n 0, 1) := by decide +kernel
theorem dX6_consign_82 : decode cX6_consign 82 = .ok (.getfield 10, 3) := by decide +kernel
theorem dX6_consign_85 : decode cX6_consign 85 = .ok (.iload_n 1, 1) := by decide +kernel
theorem dX6_consign_86 : decode cX6_consign 86 = .ok (.iload_n 2, 1) := by decide +kernel
theorem dX6_consign_87 : decode cX6_consign 87 = .ok (.iload_n 3, 1) := by decide +kernel
theorem dX6_consign_88 : decode cX6_consign 88 = .ok (.iload 4, 2) := by decide +kernel
theorem dX6_consign_90 : decode cX6_consign 90 = .ok (.iload 5, 2) := by decide +kernel
theorem dX6_consign_92 : decode cX6_consign 92 = .ok (.iload 6, 2) := by decide +kernel
theorem dX6_consign_94 : decode cX6_consign 94 = .ok (.invokevirtual 42, 3) := by decide +kernel
theorem dX6_consign_97 : decode cX6_consign 97 = .ok (.invokevirtual 46, 3) := by decide +kernel
theorem dX6_consign_100 : decode cX6_consign 100 = .ok (.ireturn, 1) := by decide +kernel
theorem dX6_split_0 : decode cX6_split 0 = .ok (.aload_n 0, 1) := by decide +kernel
theorem dX6_split_1 : decode cX6_split 1 = .ok (.getfield 22, 3) := by decide +kernel
theorem dX6_split_4 : decode cX6_split 4 = .ok (.aload_n 0, 1) := by decide +kernel
theorem dX6_split_5 : decode cX6_split 5 = .ok (.getfield 10, 3) := by decide +kernel
theorem dX6_split_8 : decode cX6_split 8 = .ok (.invokevirtual 38, 3) := by decide +kernel
theorem dX6_split_11 : decode cX6_split 11 = .ok (.aload_n 0, 1) := by decide +kernel
theorem dX6_split_12 : decode cX6_split 12 = .ok (.aload_n 0, 1) := by decide +kernel
theorem dX6_split_13 : decode cX6_split 13 = .ok (.getfield 10, 3) := by decide +kernel
theorem dX6_split_16 : decode cX6_split 16 = .ok (.iload_n 1, 1) := by decide +kernel
theorem dX6_split_17 : decode cX6_split 17 = .ok (.iload_n 2, 1) := by decide +kernel
theorem dX6_split_18 : decode cX6_split 18 = .ok (.iload_n 3, 1) := by decide +kernel
theorem dX6_split_19 : decode cX6_split 19 = .ok (.invokevirtual 50, 3) := by decide +kernel
theorem dX6_split_22 : decode cX6_split 22 = .ok (.invokevirtual 46, 3) := by decide +kernel
theorem dX6_split_25 : decode cX6_split 25 = .ok (.ireturn, 1) := by decide +kernel
theorem dX6_join_0 : decode cX6_join 0 = .ok (.aload_n 0, 1) := by decide +kernel
theorem dX6_join_1 : decode cX6_join 1 = .ok (.getfield 22, 3) := by decide +kernel
theorem dX6_join_4 : decode cX6_join 4 = .ok (.aload_n 0, 1) := by decide +kernel
theorem dX6_join_5 : decode cX6_join 5 = .ok (.getfield 10, 3) := by decide +kernel
theorem dX6_join_8 : decode cX6_join 8 = .ok (.invokevirtual 38, 3) := by decide +kernel
theorem dX6_join_11 : decode cX6_join 11 = .ok (.aload_n 0, 1) := by decide +kernel
theorem dX6_join_12 : decode cX6_join 12 = .ok (.aload_n 0, 1) := by decide +kernel
theorem dX6_join_13 : decode cX6_join 13 = .ok (.getfield 10, 3) := by decide +kernel
theorem dX6_join_16 : decode cX6_join 16 = .ok (.iload_n 1, 1) := by decide +kernel
theorem dX6_join_17 : decode cX6_join 17 = .ok (.iload_n 2, 1) := by decide +kernel
theorem dX6_join_18 : decode cX6_join 18 = .ok (.invokevirtual 54, 3) := by decide +kernel
theorem dX6_join_21 : decode cX6_join 21 = .ok (.invokevirtual 46, 3) := by decide +kernel
theorem dX6_join_24 : decode cX6_join 24 = .ok (.ireturn, 1) := by decide +kernel
theorem dX6_vehicle_0 : decode cX6_vehicle 0 = .ok (.aload_n 0, 1) := by decide +kernel
theorem dX6_vehicle_1 : decode cX6_vehicle 1 = .ok (.getfield 22, 3) := by decide +kernel
theorem dX6_vehicle_4 : decode cX6_vehicle 4 = .ok (.aload_n 0, 1) := by decide +kernel
theorem dX6_vehicle_5 : decode cX6_vehicle 5 = .ok (.getfield 10, 3) := by decide +kernel
theorem dX6_vehicle_8 : decode cX6_vehicle 8 = .ok (.invokevirtual 38, 3) := by decide +kernel
theorem dX6_vehicle_11 : decode cX6_vehicle 11 = .ok (.aload_n 0, 1) := by decide +kernel
theorem dX6_vehicle_12 : decode cX6_vehicle 12 = .ok (.aload_n 0, 1) := by decide +kernel
theorem dX6_vehicle_13 : decode cX6_vehicle 13 = .ok (.getfield 10, 3) := by decide +kernel
theorem dX6_vehicle_16 : decode cX6_vehicle 16 = .ok (.iload_n 1, 1) := by decide +kernel
theorem dX6_vehicle_17 : decode cX6_vehicle 17 = .ok (.iload_n 2, 1) := by decide +kernel
theorem dX6_vehicle_18 : decode cX6_vehicle 18 = .ok (.invokevirtual 58, 3) := by decide +kernel
theorem dX6_vehicle_21 : decode cX6_vehicle 21 = .ok (.invokevirtual 46, 3) := by decide +kernel
theorem dX6_vehicle_24 : decode cX6_vehicle 24 = .ok (.ireturn, 1) := by decide +kernel
theorem dX6_load_0 : decode cX6_load 0 = .ok (.aload_n 0, 1) := by decide +kernel
theorem dX6_load_1 : decode cX6_load 1 = .ok (.getfield 22, 3) := by decide +kernel
theorem dX6_load_4 : decode cX6_load 4 = .ok (.aload_n 0, 1) := by decide +kernel
theorem dX6_load_5 : decode cX6_load 5 = .ok (.getfield 10, 3) := by decide +kernel
theorem dX6_load_8 : decode cX6_load 8 = .ok (.invokevirtual 38, 3) := by decide +kernel
theorem dX6_load_11 : decode cX6_load 11 = .ok (.aload_n 0, 1) := by decide +kernel
theorem dX6_load_12 : decode cX6_load 12 = .ok (.aload_n 0, 1) := by decide +kernel
theorem dX6_load_13 : decode cX6_load 13 = .ok (.getfield 10, 3) := by decide +kernel
theorem dX6_load_16 : decode cX6_load 16 = .ok (.iload_n 1, 1) := by decide +kernel
theorem dX6_load_17 : decode cX6_load 17 = .ok (.iload_n 2, 1) := by decide +kernel
theorem dX6_load_18 : decode cX6_load 18 = .ok (.invokevirtual 61, 3) := by decide +kernel
theorem dX6_load_21 : decode cX6_load 21 = .ok (.invokevirtual 46, 3) := by decide +kernel
theorem dX6_load_24 : decode cX6_load 24 = .ok (.ireturn, 1) := by decide +kernel
theorem dX6_unload_0 : decode cX6_unload 0 = .ok (.aload_n 0, 1) := by decide +kernel
theorem dX6_unload_1 : decode cX6_unload 1 = .ok (.getfield 22, 3) := by decide +kernel
theorem dX6_unload_4 : decode cX6_unload 4 = .ok (.aload_n 0, 1) := by decide +kernel
theorem dX6_unload_5 : decode cX6_unload 5 = .ok (.getfield 10, 3) := by decide +kernel
theorem dX6_unload_8 : decode cX6_unload 8 = .ok (.invokevirtual 38, 3) := by decide +kernel
theorem dX6_unload_11 : decode cX6_unload 11 = .ok (.aload_n 0, 1) := by decide +kernel
theorem dX6_unload_12 : decode cX6_unload 12 = .ok (.aload_n 0, 1) := by decide +kernel
theorem dX6_unload_13 : decode cX6_unload 13 = .ok (.getfield 10, 3) := by decide +kernel
theorem dX6_unload_16 : decode cX6_unload 16 = .ok (.iload_n 1, 1) := by decide +kernel
theorem dX6_unload_17 : decode cX6_unload 17 = .ok (.invokevirtual 64, 3) := by decide +kernel
theorem dX6_unload_20 : decode cX6_unload 20 = .ok (.invokevirtual 46, 3) := by decide +kernel
theorem dX6_unload_23 : decode cX6_unload 23 = .ok (.ireturn, 1) := by decide +kernel
theorem dX6_fill_0 : decode cX6_fill 0 = .ok (.aload_n 0, 1) := by decide +kernel
theorem dX6_fill_1 : decode cX6_fill 1 = .ok (.getfield 22, 3) := by decide +kernel
theorem dX6_fill_4 : decode cX6_fill 4 = .ok (.aload_n 0, 1) := by decide +kernel
theorem dX6_fill_5 : decode cX6_fill 5 = .ok (.getfield 10, 3) := by decide +kernel
theorem dX6_fill_8 : decode cX6_fill 8 = .ok (.invokevirtual 38, 3) := by decide +kernel
theorem dX6_fill_11 : decode cX6_fill 11 = .ok (.aload_n 0, 1) := by decide +kernel
theorem dX6_fill_12 : decode cX6_fill 12 = .ok (.aload_n 0, 1) := by decide +kernel
theorem dX6_fill_13 : decode cX6_fill 13 = .ok (.getfield 10, 3) := by decide +kernel
theorem dX6_fill_16 : decode cX6_fill 16 = .ok (.iload_n 1, 1) := by decide +kernel
theorem dX6_fill_17 : decode cX6_fill 17 = .ok (.iload_n 2, 1) := by decide +kernel
theorem dX6_fill_18 : decode cX6_fill 18 = .ok (.iload_n 3, 1) := by decide +kernel
theorem dX6_fill_19 : decode cX6_fill 19 = .ok (.invokevirtual 67, 3) := by decide +kernel
theorem dX6_fill_22 : decode cX6_fill 22 = .ok (.invokevirtual 46, 3) := by decide +kernel
theorem dX6_fill_25 : decode cX6_fill 25 = .ok (.istore 4, 2) := by decide +kernel
theorem dX6_fill_27 : decode cX6_fill 27 = .ok (.iload 4, 2) := by decide +kernel
theorem dX6_fill_29 : decode cX6_fill 29 = .ok (.ifCond .ge 8, 3) := by decide +kernel
theorem dX6_fill_32 : decode cX6_fill 32 = .ok (.iload 4, 2) := by decide +kernel
theorem dX6_fill_34 : decode cX6_fill 34 = .ok (.goto 8, 3) := by decide +kernel
theorem dX6_fill_37 : decode cX6_fill 37 = .ok (.iload 4, 2) := by decide +kernel
theorem dX6_fill_39 : decode cX6_fill 39 = .ok (.invokestatic 70, 3) := by decide +kernel
theorem dX6_fill_42 : decode cX6_fill 42 = .ok (.ireturn, 1) := by decide +kernel
theorem dX6_depart_0 : decode cX6_depart 0 = .ok (.aload_n 0, 1) := by decide +kernel
theorem dX6_depart_1 : decode cX6_depart 1 = .ok (.getfield 22, 3) := by decide +kernel
theorem dX6_depart_4 : decode cX6_depart 4 = .ok (.aload_n 0, 1) := by decide +kernel
theorem dX6_depart_5 : decode cX6_depart 5 = .ok (.getfield 10, 3) := by decide +kernel
theorem dX6_depart_8 : decode cX6_depart 8 = .ok (.invokevirtual 38, 3) := by decide +kernel
theorem dX6_depart_11 : decode cX6_depart 11 = .ok (.aload_n 0, 1) := by decide +kernel
theorem dX6_depart_12 : decode cX6_depart 12 = .ok (.aload_n 0, 1) := by decide +kernel
theorem dX6_depart_13 : decode cX6_depart 13 = .ok (.getfield 10, 3) := by decide +kernel
theorem dX6_depart_16 : decode cX6_depart 16 = .ok (.iload_n 1, 1) := by decide +kernel
theorem dX6_depart_17 : decode cX6_depart 17 = .ok (.invokevirtual 75, 3) := by decide +kernel
theorem dX6_depart_20 : decode cX6_depart 20 = .ok (.invokevirtual 46, 3) := by decide +kernel
theorem dX6_depart_23 : decode cX6_depart 23 = .ok (.ireturn, 1) := by decide +kernel
theorem dX6_offer_0 : decode cX6_offer 0 = .ok (.aload_n 0, 1) := by decide +kernel
theorem dX6_offer_1 : decode cX6_offer 1 = .ok (.getfield 22, 3) := by decide +kernel
theorem dX6_offer_4 : decode cX6_offer 4 = .ok (.aload_n 0, 1) := by decide +kernel
theorem dX6_offer_5 : decode cX6_offer 5 = .ok (.getfield 10, 3) := by decide +kernel
theorem dX6_offer_8 : decode cX6_offer 8 = .ok (.invokevirtual 38, 3) := by decide +kernel
theorem dX6_offer_11 : decode cX6_offer 11 = .ok (.aload_n 0, 1) := by decide +kernel
theorem dX6_offer_12 : decode cX6_offer 12 = .ok (.aload_n 0, 1) := by decide +kernel
theorem dX6_offer_13 : decode cX6_offer 13 = .ok (.getfield 10, 3) := by decide +kernel
theorem dX6_offer_16 : decode cX6_offer 16 = .ok (.iload_n 1, 1) := by decide +kernel
theorem dX6_offer_17 : decode cX6_offer 17 = .ok (.iload_n 2, 1) := by decide +kernel
theorem dX6_offer_18 : decode cX6_offer 18 = .ok (.iload_n 3, 1) := by decide +kernel
theorem dX6_offer_19 : decode cX6_offer 19 = .ok (.iload 4, 2) := by decide +kernel
theorem dX6_offer_21 : decode cX6_offer 21 = .ok (.iload 5, 2) := by decide +kernel
theorem dX6_offer_23 : decode cX6_offer 23 = .ok (.invokevirtual 78, 3) := by decide +kernel
theorem dX6_offer_26 : decode cX6_offer 26 = .ok (.invokevirtual 46, 3) := by decide +kernel
theorem dX6_offer_29 : decode cX6_offer 29 = .ok (.ireturn, 1) := by decide +kernel
theorem dX6_pass_0 : decode cX6_pass 0 = .ok (.aload_n 0, 1) := by decide +kernel
theorem dX6_pass_1 : decode cX6_pass 1 = .ok (.getfield 22, 3) := by decide +kernel
theorem dX6_pass_4 : decode cX6_pass 4 = .ok (.aload_n 0, 1) := by decide +kernel
theorem dX6_pass_5 : decode cX6_pass 5 = .ok (.getfield 10, 3) := by decide +kernel
theorem dX6_pass_8 : decode cX6_pass 8 = .ok (.invokevirtual 38, 3) := by decide +kernel
theorem dX6_pass_11 : decode cX6_pass 11 = .ok (.aload_n 0, 1) := by decide +kernel
theorem dX6_pass_12 : decode cX6_pass 12 = .ok (.aload_n 0, 1) := by decide +kernel
theorem dX6_pass_13 : decode cX6_pass 13 = .ok (.getfield 10, 3) := by decide +kernel
theorem dX6_pass_16 : decode cX6_pass 16 = .ok (.iload_n 1, 1) := by decide +kernel
theorem dX6_pass_17 : decode cX6_pass 17 = .ok (.invokevirtual 82, 3) := by decide +kernel
theorem dX6_pass_20 : decode cX6_pass 20 = .ok (.invokevirtual 46, 3) := by decide +kernel
theorem dX6_pass_23 : decode cX6_pass 23 = .ok (.ireturn, 1) := by decide +kernel
theorem dX6_set_0 : decode cX6_set 0 = .ok (.aload_n 0, 1) := by decide +kernel
theorem dX6_set_1 : decode cX6_set 1 = .ok (.getfield 22, 3) := by decide +kernel
theorem dX6_set_4 : decode cX6_set 4 = .ok (.aload_n 0, 1) := by decide +kernel
theorem dX6_set_5 : decode cX6_set 5 = .ok (.getfield 10, 3) := by decide +kernel
theorem dX6_set_8 : decode cX6_set 8 = .ok (.invokevirtual 38, 3) := by decide +kernel
theorem dX6_set_11 : decode cX6_set 11 = .ok (.aload_n 0, 1) := by decide +kernel
theorem dX6_set_12 : decode cX6_set 12 = .ok (.aload_n 0, 1) := by decide +kernel
theorem dX6_set_13 : decode cX6_set 13 = .ok (.getfield 10, 3) := by decide +kernel
theorem dX6_set_16 : decode cX6_set 16 = .ok (.iload_n 1, 1) := by decide +kernel
theorem dX6_set_17 : decode cX6_set 17 = .ok (.iload_n 2, 1) := by decide +kernel
theorem dX6_set_18 : decode cX6_set 18 = .ok (.invokevirtual 85, 3) := by decide +kernel
theorem dX6_set_21 : decode cX6_set 21 = .ok (.invokevirtual 46, 3) := by decide +kernel
theorem dX6_set_24 : decode cX6_set 24 = .ok (.ireturn, 1) := by decide +kernel
theorem dX6_consignmentOf_0 : decode cX6_consignmentOf 0 = .ok (.aload_n 0, 1) := by decide +kernel
theorem dX6_consignmentOf_1 : decode cX6_consignmentOf 1 = .ok (.getfield 10, 3) := by decide +kernel
theorem dX6_consignmentOf_4 : decode cX6_consignmentOf 4 = .ok (.iload_n 1, 1) := by decide +kernel
theorem dX6_consignmentOf_5 : decode cX6_consignmentOf 5 = .ok (.invokevirtual 88, 3) := by decide +kernel
theorem dX6_consignmentOf_8 : decode cX6_consignmentOf 8 = .ok (.astore_n 3, 1) := by decide +kernel
theorem dX6_consignmentOf_9 : decode cX6_consignmentOf 9 = .ok (.aload_n 3, 1) := by decide +kernel
theorem dX6_consignmentOf_10 : decode cX6_consignmentOf 10 = .ok (.ifnonnull 6, 3) := by decide +kernel
theorem dX6_consignmentOf_13 : decode cX6_consignmentOf 13 = .ok (.ldc 37, 2) := by decide +kernel
theorem dX6_consignmentOf_15 : decode cX6_consignmentOf 15 = .ok (.ireturn, 1) := by decide +kernel
theorem dX6_consignmentOf_16 : decode cX6_consignmentOf 16 = .ok (.iload_n 2, 1) := by decide +kernel
theorem dX6_consignmentOf_17 : decode cX6_consignmentOf 17 = .ok (.tableswitch 169 0 10 #[59, 64, 69, 74, 79, 84, 89, 94, 112, 130, 142], 59) := by decide +kernel
theorem dX6_consignmentOf_76 : decode cX6_consignmentOf 76 = .ok (.aload_n 3, 1) := by decide +kernel
theorem dX6_consignmentOf_77 : decode cX6_consignmentOf 77 = .ok (.getfield 92, 3) := by decide +kernel
theorem dX6_consignmentOf_80 : decode cX6_consignmentOf 80 = .ok (.ireturn, 1) := by decide +kernel
theorem dX6_consignmentOf_81 : decode cX6_consignmentOf 81 = .ok (.aload_n 3, 1) := by decide +kernel
theorem dX6_consignmentOf_82 : decode cX6_consignmentOf 82 = .ok (.getfield 98, 3) := by decide +kernel
theorem dX6_consignmentOf_85 : decode cX6_consignmentOf 85 = .ok (.ireturn, 1) := by decide +kernel
theorem dX6_consignmentOf_86 : decode cX6_consignmentOf 86 = .ok (.aload_n 3, 1) := by decide +kernel
theorem dX6_consignmentOf_87 : decode cX6_consignmentOf 87 = .ok (.getfield 101, 3) := by decide +kernel
theorem dX6_consignmentOf_90 : decode cX6_consignmentOf 90 = .ok (.ireturn, 1) := by decide +kernel
theorem dX6_consignmentOf_91 : decode cX6_consignmentOf 91 = .ok (.aload_n 3, 1) := by decide +kernel
theorem dX6_consignmentOf_92 : decode cX6_consignmentOf 92 = .ok (.getfield 104, 3) := by decide +kernel
theorem dX6_consignmentOf_95 : decode cX6_consignmentOf 95 = .ok (.ireturn, 1) := by decide +kernel
theorem dX6_consignmentOf_96 : decode cX6_consignmentOf 96 = .ok (.aload_n 3, 1) := by decide +kernel
theorem dX6_consignmentOf_97 : decode cX6_consignmentOf 97 = .ok (.getfield 107, 3) := by decide +kernel
theorem dX6_consignmentOf_100 : decode cX6_consignmentOf 100 = .ok (.ireturn, 1) := by decide +kernel
theorem dX6_consignmentOf_101 : decode cX6_consignmentOf 101 = .ok (.aload_n 3, 1) := by decide +kernel
theorem dX6_consignmentOf_102 : decode cX6_consignmentOf 102 = .ok (.getfield 110, 3) := by decide +kernel
theorem dX6_consignmentOf_105 : decode cX6_consignmentOf 105 = .ok (.ireturn, 1) := by decide +kernel
theorem dX6_consignmentOf_106 : decode cX6_consignmentOf 106 = .ok (.aload_n 3, 1) := by decide +kernel
theorem dX6_consignmentOf_107 : decode cX6_consignmentOf 107 = .ok (.getfield 113, 3) := by decide +kernel
theorem dX6_consignmentOf_110 : decode cX6_consignmentOf 110 = .ok (.ireturn, 1) := by decide +kernel
theorem dX6_consignmentOf_111 : decode cX6_consignmentOf 111 = .ok (.aload_n 3, 1) := by decide +kernel
theorem dX6_consignmentOf_112 : decode cX6_consignmentOf 112 = .ok (.getfield 116, 3) := by decide +kernel
theorem dX6_consignmentOf_115 : decode cX6_consignmentOf 115 = .ok (.iconst (-1), 1) := by decide +kernel
theorem dX6_consignmentOf_116 : decode cX6_consignmentOf 116 = .ok (.if_icmp .ne 8, 3) := by decide +kernel
theorem dX6_consignmentOf_119 : decode cX6_consignmentOf 119 = .ok (.ldc 119, 2) := by decide +kernel
theorem dX6_consignmentOf_121 : decode cX6_consignmentOf 121 = .ok (.goto 7, 3) := by decide +kernel
theorem dX6_consignmentOf_124 : decode cX6_consignmentOf 124 = .ok (.aload_n 3, 1) := by decide +kernel
theorem dX6_consignmentOf_125 : decode cX6_consignmentOf 125 = .ok (.getfield 116, 3) := by decide +kernel
theorem dX6_consignmentOf_128 : decode cX6_consignmentOf 128 = .ok (.ireturn, 1) := by decide +kernel
theorem dX6_consignmentOf_129 : decode cX6_consignmentOf 129 = .ok (.aload_n 3, 1) := by decide +kernel
theorem dX6_consignmentOf_130 : decode cX6_consignmentOf 130 = .ok (.getfield 120, 3) := by decide +kernel
theorem dX6_consignmentOf_133 : decode cX6_consignmentOf 133 = .ok (.iconst (-1), 1) := by decide +kernel
theorem dX6_consignmentOf_134 : decode cX6_consignmentOf 134 = .ok (.if_icmp .ne 8, 3) := by decide +kernel
theorem dX6_consignmentOf_137 : decode cX6_consignmentOf 137 = .ok (.ldc 119, 2) := by decide +kernel
theorem dX6_consignmentOf_139 : decode cX6_consignmentOf 139 = .ok (.goto 7, 3) := by decide +kernel
theorem dX6_consignmentOf_142 : decode cX6_consignmentOf 142 = .ok (.aload_n 3, 1) := by decide +kernel
theorem dX6_consignmentOf_143 : decode cX6_consignmentOf 143 = .ok (.getfield 120, 3) := by decide +kernel
theorem dX6_consignmentOf_146 : decode cX6_consignmentOf 146 = .ok (.ireturn, 1) := by decide +kernel
theorem dX6_consignmentOf_147 : decode cX6_consignmentOf 147 = .ok (.aload_n 0, 1) := by decide +kernel
theorem dX6_consignmentOf_148 : decode cX6_consignmentOf 148 = .ok (.getfield 10, 3) := by decide +kernel
theorem dX6_consignmentOf_151 : decode cX6_consignmentOf 151 = .ok (.aload_n 3, 1) := by decide +kernel
theorem dX6_consignmentOf_152 : decode cX6_consignmentOf 152 = .ok (.getfield 123, 3) := by decide +kernel
theorem dX6_consignmentOf_155 : decode cX6_consignmentOf 155 = .ok (.invokevirtual 126, 3) := by decide +kernel
theorem dX6_consignmentOf_158 : decode cX6_consignmentOf 158 = .ok (.ireturn, 1) := by decide +kernel
theorem dX6_consignmentOf_159 : decode cX6_consignmentOf 159 = .ok (.aload_n 3, 1) := by decide +kernel
theorem dX6_consignmentOf_160 : decode cX6_consignmentOf 160 = .ok (.invokevirtual 129, 3) := by decide +kernel
theorem dX6_consignmentOf_163 : decode cX6_consignmentOf 163 = .ok (.ifCond .eq 13, 3) := by decide +kernel
theorem dX6_consignmentOf_166 : decode cX6_consignmentOf 166 = .ok (.aload_n 0, 1) := by decide +kernel
theorem dX6_consignmentOf_167 : decode cX6_consignmentOf 167 = .ok (.getfield 10, 3) := by decide +kernel
theorem dX6_consignmentOf_170 : decode cX6_consignmentOf 170 = .ok (.getfield 133, 3) := by decide +kernel
theorem dX6_consignmentOf_173 : decode cX6_consignmentOf 173 = .ok (.goto 7, 3) := by decide +kernel
theorem dX6_consignmentOf_176 : decode cX6_consignmentOf 176 = .ok (.aload_n 3, 1) := by decide +kernel
theorem dX6_consignmentOf_177 : decode cX6_consignmentOf 177 = .ok (.getfield 136, 3) := by decide +kernel
theorem dX6_consignmentOf_180 : decode cX6_consignmentOf 180 = .ok (.aload_n 3, 1) := by decide +kernel
theorem dX6_consignmentOf_181 : decode cX6_consignmentOf 181 = .ok (.getfield 139, 3) := by decide +kernel
theorem dX6_consignmentOf_184 : decode cX6_consignmentOf 184 = .ok (.isub, 1) := by decide +kernel
theorem dX6_consignmentOf_185 : decode cX6_consignmentOf 185 = .ok (.ireturn, 1) := by decide +kernel
theorem dX6_consignmentOf_186 : decode cX6_consignmentOf 186 = .ok (.ldc 37, 2) := by decide +kernel
theorem dX6_consignmentOf_188 : decode cX6_consignmentOf 188 = .ok (.ireturn, 1) := by decide +kernel
theorem dX6_vehicleOf_0 : decode cX6_vehicleOf 0 = .ok (.aload_n 0, 1) := by decide +kernel
theorem dX6_vehicleOf_1 : decode cX6_vehicleOf 1 = .ok (.getfield 10, 3) := by decide +kernel
theorem dX6_vehicleOf_4 : decode cX6_vehicleOf 4 = .ok (.iload_n 1, 1) := by decide +kernel
theorem dX6_vehicleOf_5 : decode cX6_vehicleOf 5 = .ok (.invokevirtual 142, 3) := by decide +kernel
theorem dX6_vehicleOf_8 : decode cX6_vehicleOf 8 = .ok (.astore_n 3, 1) := by decide +kernel
theorem dX6_vehicleOf_9 : decode cX6_vehicleOf 9 = .ok (.aload_n 3, 1) := by decide +kernel
theorem dX6_vehicleOf_10 : decode cX6_vehicleOf 10 = .ok (.ifnonnull 6, 3) := by decide +kernel
theorem dX6_vehicleOf_13 : decode cX6_vehicleOf 13 = .ok (.ldc 37, 2) := by decide +kernel
theorem dX6_vehicleOf_15 : decode cX6_vehicleOf 15 = .ok (.ireturn, 1) := by decide +kernel
theorem dX6_vehicleOf_16 : decode cX6_vehicleOf 16 = .ok (.iload_n 2, 1) := by decide +kernel
theorem dX6_vehicleOf_17 : decode cX6_vehicleOf 17 = .ok (.tableswitch 130 0 9 #[55, 60, 65, 70, 79, 88, 97, 103, 120, 125], 55) := by decide +kernel
theorem dX6_vehicleOf_72 : decode cX6_vehicleOf 72 = .ok (.aload_n 3, 1) := by decide +kernel
theorem dX6_vehicleOf_73 : decode cX6_vehicleOf 73 = .ok (.getfield 146, 3) := by decide +kernel
theorem dX6_vehicleOf_76 : decode cX6_vehicleOf 76 = .ok (.ireturn, 1) := by decide +kernel
theorem dX6_vehicleOf_77 : decode cX6_vehicleOf 77 = .ok (.aload_n 3, 1) := by decide +kernel
theorem dX6_vehicleOf_78 : decode cX6_vehicleOf 78 = .ok (.getfield 151, 3) := by decide +kernel
theorem dX6_vehicleOf_81 : decode cX6_vehicleOf 81 = .ok (.ireturn, 1) := by decide +kernel
theorem dX6_vehicleOf_82 : decode cX6_vehicleOf 82 = .ok (.aload_n 3, 1) := by decide +kernel
theorem dX6_vehicleOf_83 : decode cX6_vehicleOf 83 = .ok (.getfield 154, 3) := by decide +kernel
theorem dX6_vehicleOf_86 : decode cX6_vehicleOf 86 = .ok (.ireturn, 1) := by decide +kernel
theorem dX6_vehicleOf_87 : decode cX6_vehicleOf 87 = .ok (.aload_n 0, 1) := by decide +kernel
theorem dX6_vehicleOf_88 : decode cX6_vehicleOf 88 = .ok (.getfield 10, 3) := by decide +kernel
theorem dX6_vehicleOf_91 : decode cX6_vehicleOf 91 = .ok (.aload_n 3, 1) := by decide +kernel
theorem dX6_vehicleOf_92 : decode cX6_vehicleOf 92 = .ok (.invokevirtual 155, 3) := by decide +kernel
theorem dX6_vehicleOf_95 : decode cX6_vehicleOf 95 = .ok (.ireturn, 1) := by decide +kernel
theorem dX6_vehicleOf_96 : decode cX6_vehicleOf 96 = .ok (.aload_n 0, 1) := by decide +kernel
theorem dX6_vehicleOf_97 : decode cX6_vehicleOf 97 = .ok (.getfield 10, 3) := by decide +kernel
theorem dX6_vehicleOf_100 : decode cX6_vehicleOf 100 = .ok (.aload_n 3, 1) := by decide +kernel
theorem dX6_vehicleOf_101 : decode cX6_vehicleOf 101 = .ok (.invokevirtual 159, 3) := by decide +kernel
theorem dX6_vehicleOf_104 : decode cX6_vehicleOf 104 = .ok (.ireturn, 1) := by decide +kernel
theorem dX6_vehicleOf_105 : decode cX6_vehicleOf 105 = .ok (.aload_n 0, 1) := by decide +kernel
theorem dX6_vehicleOf_106 : decode cX6_vehicleOf 106 = .ok (.getfield 10, 3) := by decide +kernel
theorem dX6_vehicleOf_109 : decode cX6_vehicleOf 109 = .ok (.aload_n 3, 1) := by decide +kernel
theorem dX6_vehicleOf_110 : decode cX6_vehicleOf 110 = .ok (.invokevirtual 162, 3) := by decide +kernel
theorem dX6_vehicleOf_113 : decode cX6_vehicleOf 113 = .ok (.ireturn, 1) := by decide +kernel
theorem dX6_vehicleOf_114 : decode cX6_vehicleOf 114 = .ok (.aload_n 0, 1) := by decide +kernel
theorem dX6_vehicleOf_115 : decode cX6_vehicleOf 115 = .ok (.aload_n 3, 1) := by decide +kernel
theorem dX6_vehicleOf_116 : decode cX6_vehicleOf 116 = .ok (.invokevirtual 165, 3) := by decide +kernel
theorem dX6_vehicleOf_119 : decode cX6_vehicleOf 119 = .ok (.ireturn, 1) := by decide +kernel
theorem dX6_vehicleOf_120 : decode cX6_vehicleOf 120 = .ok (.aload_n 3, 1) := by decide +kernel
theorem dX6_vehicleOf_121 : decode cX6_vehicleOf 121 = .ok (.getfield 154, 3) := by decide +kernel
theorem dX6_vehicleOf_124 : decode cX6_vehicleOf 124 = .ok (.ifCond .ne 8, 3) := by decide +kernel
theorem dX6_vehicleOf_127 : decode cX6_vehicleOf 127 = .ok (.ldc 119, 2) := by decide +kernel
theorem dX6_vehicleOf_129 : decode cX6_vehicleOf 129 = .ok (.goto 7, 3) := by decide +kernel
theorem dX6_vehicleOf_132 : decode cX6_vehicleOf 132 = .ok (.aload_n 3, 1) := by decide +kernel
theorem dX6_vehicleOf_133 : decode cX6_vehicleOf 133 = .ok (.getfield 168, 3) := by decide +kernel
theorem dX6_vehicleOf_136 : decode cX6_vehicleOf 136 = .ok (.ireturn, 1) := by decide +kernel
theorem dX6_vehicleOf_137 : decode cX6_vehicleOf 137 = .ok (.aload_n 3, 1) := by decide +kernel
theorem dX6_vehicleOf_138 : decode cX6_vehicleOf 138 = .ok (.getfield 171, 3) := by decide +kernel
theorem dX6_vehicleOf_141 : decode cX6_vehicleOf 141 = .ok (.ireturn, 1) := by decide +kernel
theorem dX6_vehicleOf_142 : decode cX6_vehicleOf 142 = .ok (.aload_n 3, 1) := by decide +kernel
theorem dX6_vehicleOf_143 : decode cX6_vehicleOf 143 = .ok (.getfield 174, 3) := by decide +kernel
theorem dX6_vehicleOf_146 : decode cX6_vehicleOf 146 = .ok (.ireturn, 1) := by decide +kernel
theorem dX6_vehicleOf_147 : decode cX6_vehicleOf 147 = .ok (.ldc 37, 2) := by decide +kernel
theorem dX6_vehicleOf_149 : decode cX6_vehicleOf 149 = .ok (.ireturn, 1) := by decide +kernel
theorem dX6_offerOf_0 : decode cX6_offerOf 0 = .ok (.iload_n 1, 1) := by decide +kernel
theorem dX6_offerOf_1 : decode cX6_offerOf 1 = .ok (.ifCond .lt 12, 3) := by decide +kernel
theorem dX6_offerOf_4 : decode cX6_offerOf 4 = .ok (.iload_n 2, 1) := by decide +kernel
theorem dX6_offerOf_5 : decode cX6_offerOf 5 = .ok (.iconst 0, 1) := by decide +kernel
theorem dX6_offerOf_6 : decode cX6_offerOf 6 = .ok (.iconst 4, 1) := by decide +kernel
theorem dX6_offerOf_7 : decode cX6_offerOf 7 = .ok (.invokestatic 33, 3) := by decide +kernel
theorem dX6_offerOf_10 : decode cX6_offerOf 10 = .ok (.ifCond .ne 6, 3) := by decide +kernel
theorem dX6_offerOf_13 : decode cX6_offerOf 13 = .ok (.ldc 37, 2) := by decide +kernel
theorem dX6_offerOf_15 : decode cX6_offerOf 15 = .ok (.ireturn, 1) := by decide +kernel
theorem dX6_offerOf_16 : decode cX6_offerOf 16 = .ok (.iload_n 1, 1) := by decide +kernel
theorem dX6_offerOf_17 : decode cX6_offerOf 17 = .ok (.aload_n 0, 1) := by decide +kernel
theorem dX6_offerOf_18 : decode cX6_offerOf 18 = .ok (.getfield 10, 3) := by decide +kernel
theorem dX6_offerOf_21 : decode cX6_offerOf 21 = .ok (.getfield 177, 3) := by decide +kernel
theorem dX6_offerOf_24 : decode cX6_offerOf 24 = .ok (.if_icmp .ge 9, 3) := by decide +kernel
theorem dX6_offerOf_27 : decode cX6_offerOf 27 = .ok (.iload_n 1, 1) := by decide +kernel
theorem dX6_offerOf_28 : decode cX6_offerOf 28 = .ok (.bipush 10, 2) := by decide +kernel
theorem dX6_offerOf_30 : decode cX6_offerOf 30 = .ok (.if_icmp .lt 6, 3) := by decide +kernel
theorem dX6_offerOf_33 : decode cX6_offerOf 33 = .ok (.ldc 119, 2) := by decide +kernel
theorem dX6_offerOf_35 : decode cX6_offerOf 35 = .ok (.ireturn, 1) := by decide +kernel
theorem dX6_offerOf_36 : decode cX6_offerOf 36 = .ok (.aload_n 0, 1) := by decide +kernel
theorem dX6_offerOf_37 : decode cX6_offerOf 37 = .ok (.getfield 10, 3) := by decide +kernel
theorem dX6_offerOf_40 : decode cX6_offerOf 40 = .ok (.getfield 180, 3) := by decide +kernel
theorem dX6_offerOf_43 : decode cX6_offerOf 43 = .ok (.iload_n 1, 1) := by decide +kernel
theorem dX6_offerOf_44 : decode cX6_offerOf 44 = .ok (.aaload, 1) := by decide +kernel
theorem dX6_offerOf_45 : decode cX6_offerOf 45 = .ok (.astore_n 3, 1) := by decide +kernel
theorem dX6_offerOf_46 : decode cX6_offerOf 46 = .ok (.iload_n 2, 1) := by decide +kernel
theorem dX6_offerOf_47 : decode cX6_offerOf 47 = .ok (.tableswitch 49 0 3 #[29, 34, 39, 44], 29) := by decide +kernel
theorem dX6_offerOf_76 : decode cX6_offerOf 76 = .ok (.aload_n 3, 1) := by decide +kernel
theorem dX6_offerOf_77 : decode cX6_offerOf 77 = .ok (.getfield 184, 3) := by decide +kernel
theorem dX6_offerOf_80 : decode cX6_offerOf 80 = .ok (.ireturn, 1) := by decide +kernel
theorem dX6_offerOf_81 : decode cX6_offerOf 81 = .ok (.aload_n 3, 1) := by decide +kernel
theorem dX6_offerOf_82 : decode cX6_offerOf 82 = .ok (.getfield 187, 3) := by decide +kernel
theorem dX6_offerOf_85 : decode cX6_offerOf 85 = .ok (.ireturn, 1) := by decide +kernel
theorem dX6_offerOf_86 : decode cX6_offerOf 86 = .ok (.aload_n 3, 1) := by decide +kernel
theorem dX6_offerOf_87 : decode cX6_offerOf 87 = .ok (.getfield 188, 3) := by decide +kernel
theorem dX6_offerOf_90 : decode cX6_offerOf 90 = .ok (.ireturn, 1) := by decide +kernel
theorem dX6_offerOf_91 : decode cX6_offerOf 91 = .ok (.aload_n 3, 1) := by decide +kernel
theorem dX6_offerOf_92 : decode cX6_offerOf 92 = .ok (.getfield 189, 3) := by decide +kernel
theorem dX6_offerOf_95 : decode cX6_offerOf 95 = .ok (.ireturn, 1) := by decide +kernel
theorem dX6_offerOf_96 : decode cX6_offerOf 96 = .ok (.aload_n 3, 1) := by decide +kernel
theorem dX6_offerOf_97 : decode cX6_offerOf 97 = .ok (.getfield 192, 3) := by decide +kernel
theorem dX6_offerOf_100 : decode cX6_offerOf 100 = .ok (.ireturn, 1) := by decide +kernel
theorem dX6_count_0 : decode cX6_count 0 = .ok (.iload_n 1, 1) := by decide +kernel
theorem dX6_count_1 : decode cX6_count 1 = .ok (.tableswitch 173 0 12 #[67, 75, 83, 91, 99, 108, 117, 125, 133, 141, 149, 157, 165], 67) := by decide +kernel
theorem dX6_count_68 : decode cX6_count 68 = .ok (.aload_n 0, 1) := by decide +kernel
theorem dX6_count_69 : decode cX6_count 69 = .ok (.getfield 10, 3) := by decide +kernel
theorem dX6_count_72 : decode cX6_count 72 = .ok (.getfield 195, 3) := by decide +kernel
theorem dX6_count_75 : decode cX6_count 75 = .ok (.ireturn, 1) := by decide +kernel
theorem dX6_count_76 : decode cX6_count 76 = .ok (.aload_n 0, 1) := by decide +kernel
theorem dX6_count_77 : decode cX6_count 77 = .ok (.getfield 10, 3) := by decide +kernel
theorem dX6_count_80 : decode cX6_count 80 = .ok (.getfield 198, 3) := by decide +kernel
theorem dX6_count_83 : decode cX6_count 83 = .ok (.ireturn, 1) := by decide +kernel
theorem dX6_count_84 : decode cX6_count 84 = .ok (.aload_n 0, 1) := by decide +kernel
theorem dX6_count_85 : decode cX6_count 85 = .ok (.getfield 10, 3) := by decide +kernel
theorem dX6_count_88 : decode cX6_count 88 = .ok (.getfield 133, 3) := by decide +kernel
theorem dX6_count_91 : decode cX6_count 91 = .ok (.ireturn, 1) := by decide +kernel
theorem dX6_count_92 : decode cX6_count 92 = .ok (.aload_n 0, 1) := by decide +kernel
theorem dX6_count_93 : decode cX6_count 93 = .ok (.getfield 10, 3) := by decide +kernel
theorem dX6_count_96 : decode cX6_count 96 = .ok (.invokevirtual 201, 3) := by decide +kernel
theorem dX6_count_99 : decode cX6_count 99 = .ok (.ireturn, 1) := by decide +kernel
theorem dX6_count_100 : decode cX6_count 100 = .ok (.aload_n 0, 1) := by decide +kernel
theorem dX6_count_101 : decode cX6_count 101 = .ok (.getfield 10, 3) := by decide +kernel
theorem dX6_count_104 : decode cX6_count 104 = .ok (.iconst 3, 1) := by decide +kernel
theorem dX6_count_105 : decode cX6_count 105 = .ok (.invokevirtual 205, 3) := by decide +kernel
theorem dX6_count_108 : decode cX6_count 108 = .ok (.ireturn, 1) := by decide +kernel
theorem dX6_count_109 : decode cX6_count 109 = .ok (.aload_n 0, 1) := by decide +kernel
theorem dX6_count_110 : decode cX6_count 110 = .ok (.getfield 10, 3) := by decide +kernel
theorem dX6_count_113 : decode cX6_count 113 = .ok (.iconst 4, 1) := by decide +kernel
theorem dX6_count_114 : decode cX6_count 114 = .ok (.invokevirtual 205, 3) := by decide +kernel
theorem dX6_count_117 : decode cX6_count 117 = .ok (.ireturn, 1) := by decide +kernel
theorem dX6_count_118 : decode cX6_count 118 = .ok (.aload_n 0, 1) := by decide +kernel
theorem dX6_count_119 : decode cX6_count 119 = .ok (.getfield 10, 3) := by decide +kernel
theorem dX6_count_122 : decode cX6_count 122 = .ok (.getfield 208, 3) := by decide +kernel
theorem dX6_count_125 : decode cX6_count 125 = .ok (.ireturn, 1) := by decide +kernel
theorem dX6_count_126 : decode cX6_count 126 = .ok (.aload_n 0, 1) := by decide +kernel
theorem dX6_count_127 : decode cX6_count 127 = .ok (.getfield 10, 3) := by decide +kernel
theorem dX6_count_130 : decode cX6_count 130 = .ok (.getfield 211, 3) := by decide +kernel
theorem dX6_count_133 : decode cX6_count 133 = .ok (.ireturn, 1) := by decide +kernel
theorem dX6_count_134 : decode cX6_count 134 = .ok (.aload_n 0, 1) := by decide +kernel
theorem dX6_count_135 : decode cX6_count 135 = .ok (.getfield 10, 3) := by decide +kernel
theorem dX6_count_138 : decode cX6_count 138 = .ok (.getfield 214, 3) := by decide +kernel
theorem dX6_count_141 : decode cX6_count 141 = .ok (.ireturn, 1) := by decide +kernel
theorem dX6_count_142 : decode cX6_count 142 = .ok (.aload_n 0, 1) := by decide +kernel
theorem dX6_count_143 : decode cX6_count 143 = .ok (.getfield 10, 3) := by decide +kernel
theorem dX6_count_146 : decode cX6_count 146 = .ok (.getfield 217, 3) := by decide +kernel
theorem dX6_count_149 : decode cX6_count 149 = .ok (.ireturn, 1) := by decide +kernel
theorem dX6_count_150 : decode cX6_count 150 = .ok (.aload_n 0, 1) := by decide +kernel
theorem dX6_count_151 : decode cX6_count 151 = .ok (.getfield 10, 3) := by decide +kernel
theorem dX6_count_154 : decode cX6_count 154 = .ok (.getfield 177, 3) := by decide +kernel
theorem dX6_count_157 : decode cX6_count 157 = .ok (.ireturn, 1) := by decide +kernel
theorem dX6_count_158 : decode cX6_count 158 = .ok (.aload_n 0, 1) := by decide +kernel
theorem dX6_count_159 : decode cX6_count 159 = .ok (.getfield 22, 3) := by decide +kernel
theorem dX6_count_162 : decode cX6_count 162 = .ok (.getfield 220, 3) := by decide +kernel
theorem dX6_count_165 : decode cX6_count 165 = .ok (.ireturn, 1) := by decide +kernel
theorem dX6_count_166 : decode cX6_count 166 = .ok (.aload_n 0, 1) := by decide +kernel
theorem dX6_count_167 : decode cX6_count 167 = .ok (.getfield 29, 3) := by decide +kernel
theorem dX6_count_170 : decode cX6_count 170 = .ok (.getfield 223, 3) := by decide +kernel
theorem dX6_count_173 : decode cX6_count 173 = .ok (.ireturn, 1) := by decide +kernel
theorem dX6_count_174 : decode cX6_count 174 = .ok (.aload_n 0, 1) := by decide +kernel
theorem dX6_count_175 : decode cX6_count 175 = .ok (.iload_n 1, 1) := by decide +kernel
theorem dX6_count_176 : decode cX6_count 176 = .ok (.invokevirtual 226, 3) := by decide +kernel
theorem dX6_count_179 : decode cX6_count 179 = .ok (.ireturn, 1) := by decide +kernel
theorem dX6_isWithin_0 : decode cX6_isWithin 0 = .ok (.iload_n 0, 1) := by decide +kernel
theorem dX6_isWithin_1 : decode cX6_isWithin 1 = .ok (.iload_n 1, 1) := by decide +kernel
theorem dX6_isWithin_2 : decode cX6_isWithin 2 = .ok (.if_icmp .lt 12, 3) := by decide +kernel
theorem dX6_isWithin_5 : decode cX6_isWithin 5 = .ok (.iload_n 0, 1) := by decide +kernel
theorem dX6_isWithin_6 : decode cX6_isWithin 6 = .ok (.iload_n 2, 1) := by decide +kernel
theorem dX6_isWithin_7 : decode cX6_isWithin 7 = .ok (.if_icmp .gt 7, 3) := by decide +kernel
theorem dX6_isWithin_10 : decode cX6_isWithin 10 = .ok (.iconst 1, 1) := by decide +kernel
theorem dX6_isWithin_11 : decode cX6_isWithin 11 = .ok (.goto 4, 3) := by decide +kernel
theorem dX6_isWithin_14 : decode cX6_isWithin 14 = .ok (.iconst 0, 1) := by decide +kernel
theorem dX6_isWithin_15 : decode cX6_isWithin 15 = .ok (.ireturn, 1) := by decide +kernel
theorem dX6_changed_0 : decode cX6_changed 0 = .ok (.iload_n 1, 1) := by decide +kernel
theorem dX6_changed_1 : decode cX6_changed 1 = .ok (.ifCond .lt 10, 3) := by decide +kernel
theorem dX6_changed_4 : decode cX6_changed 4 = .ok (.aload_n 0, 1) := by decide +kernel
theorem dX6_changed_5 : decode cX6_changed 5 = .ok (.getfield 22, 3) := by decide +kernel
theorem dX6_changed_8 : decode cX6_changed 8 = .ok (.invokevirtual 261, 3) := by decide +kernel
theorem dX6_changed_11 : decode cX6_changed 11 = .ok (.iload_n 1, 1) := by decide +kernel
theorem dX6_changed_12 : decode cX6_changed 12 = .ok (.ireturn, 1) := by decide +kernel
theorem dX6_placeOf_0 : decode cX6_placeOf 0 = .ok (.aload_n 1, 1) := by decide +kernel
theorem dX6_placeOf_1 : decode cX6_placeOf 1 = .ok (.getfield 154, 3) := by decide +kernel
theorem dX6_placeOf_4 : decode cX6_placeOf 4 = .ok (.ifCond .ne 14, 3) := by decide +kernel
theorem dX6_placeOf_7 : decode cX6_placeOf 7 = .ok (.aload_n 0, 1) := by decide +kernel
theorem dX6_placeOf_8 : decode cX6_placeOf 8 = .ok (.getfield 10, 3) := by decide +kernel
theorem dX6_placeOf_11 : decode cX6_placeOf 11 = .ok (.aload_n 1, 1) := by decide +kernel
theorem dX6_placeOf_12 : decode cX6_placeOf 12 = .ok (.invokevirtual 264, 3) := by decide +kernel
theorem dX6_placeOf_15 : decode cX6_placeOf 15 = .ok (.goto 7, 3) := by decide +kernel
theorem dX6_placeOf_18 : decode cX6_placeOf 18 = .ok (.aload_n 1, 1) := by decide +kernel
theorem dX6_placeOf_19 : decode cX6_placeOf 19 = .ok (.getfield 267, 3) := by decide +kernel
theorem dX6_placeOf_22 : decode cX6_placeOf 22 = .ok (.istore_n 2, 1) := by decide +kernel
theorem dX6_placeOf_23 : decode cX6_placeOf 23 = .ok (.iload_n 2, 1) := by decide +kernel
theorem dX6_placeOf_24 : decode cX6_placeOf 24 = .ok (.ifCond .ne 8, 3) := by decide +kernel
theorem dX6_placeOf_27 : decode cX6_placeOf 27 = .ok (.ldc 119, 2) := by decide +kernel
theorem dX6_placeOf_29 : decode cX6_placeOf 29 = .ok (.goto 4, 3) := by decide +kernel
theorem dX6_placeOf_32 : decode cX6_placeOf 32 = .ok (.iload_n 2, 1) := by decide +kernel
theorem dX6_placeOf_33 : decode cX6_placeOf 33 = .ok (.ireturn, 1) := by decide +kernel
theorem dX6_settingCount_0 : decode cX6_settingCount 0 = .ok (.iload_n 1, 1) := by decide +kernel
theorem dX6_settingCount_1 : decode cX6_settingCount 1 = .ok (.bipush 20, 2) := by decide +kernel
theorem dX6_settingCount_3 : decode cX6_settingCount 3 = .ok (.bipush 22, 2) := by decide +kernel
theorem dX6_settingCount_5 : decode cX6_settingCount 5 = .ok (.invokestatic 33, 3) := by decide +kernel
theorem dX6_settingCount_8 : decode cX6_settingCount 8 = .ok (.ifCond .ne 6, 3) := by decide +kernel
theorem dX6_settingCount_11 : decode cX6_settingCount 11 = .ok (.ldc 37, 2) := by decide +kernel
theorem dX6_settingCount_13 : decode cX6_settingCount 13 = .ok (.ireturn, 1) := by decide +kernel
theorem dX6_settingCount_14 : decode cX6_settingCount 14 = .ok (.aload_n 0, 1) := by decide +kernel
theorem dX6_settingCount_15 : decode cX6_settingCount 15 = .ok (.getfield 10, 3) := by decide +kernel
theorem dX6_settingCount_18 : decode cX6_settingCount 18 = .ok (.getfield 268, 3) := by decide +kernel
theorem dX6_settingCount_21 : decode cX6_settingCount 21 = .ok (.iload_n 1, 1) := by decide +kernel
theorem dX6_settingCount_22 : decode cX6_settingCount 22 = .ok (.bipush 20, 2) := by decide +kernel
theorem dX6_settingCount_24 : decode cX6_settingCount 24 = .ok (.isub, 1) := by decide +kernel
theorem dX6_settingCount_25 : decode cX6_settingCount 25 = .ok (.iaload, 1) := by decide +kernel
theorem dX6_settingCount_26 : decode cX6_settingCount 26 = .ok (.ireturn, 1) := by decide +kernel
end
section
theorem dL_cell_0 : decode cL_cell 0 = .ok (.iload_n 1, 1) := by decide +kernel
theorem dL_cell_1 : decode cL_cell 1 = .ok (.aload_n 0, 1) := by decide +kernel
theorem dL_cell_2 : decode cL_cell 2 = .ok (.arraylength, 1) := by decide +kernel
theorem dL_cell_3 : decode cL_cell 3 = .ok (.if_icmp .ge 9, 3) := by decide +kernel
theorem dL_cell_6 : decode cL_cell 6 = .ok (.aload_n 0, 1) := by decide +kernel
theorem dL_cell_7 : decode cL_cell 7 = .ok (.iload_n 1, 1) := by decide +kernel
theorem dL_cell_8 : decode cL_cell 8 = .ok (.iaload, 1) := by decide +kernel
theorem dL_cell_9 : decode cL_cell 9 = .ok (.goto 9, 3) := by decide +kernel
theorem dL_cell_12 : decode cL_cell 12 = .ok (.ldc 7, 2) := by decide +kernel
theorem dL_cell_14 : decode cL_cell 14 = .ok (.iload_n 1, 1) := by decide +kernel
theorem dL_cell_15 : decode cL_cell 15 = .ok (.iconst 3, 1) := by decide +kernel
theorem dL_cell_16 : decode cL_cell 16 = .ok (.iadd, 1) := by decide +kernel
theorem dL_cell_17 : decode cL_cell 17 = .ok (.imul, 1) := by decide +kernel
theorem dL_cell_18 : decode cL_cell 18 = .ok (.ireturn, 1) := by decide +kernel
theorem dL_low_0 : decode cL_low 0 = .ok (.iload_n 0, 1) := by decide +kernel
theorem dL_low_1 : decode cL_low 1 = .ok (.ldc 8, 2) := by decide +kernel
theorem dL_low_3 : decode cL_low 3 = .ok (.iand, 1) := by decide +kernel
theorem dL_low_4 : decode cL_low 4 = .ok (.iload_n 1, 1) := by decide +kernel
theorem dL_low_5 : decode cL_low 5 = .ok (.irem, 1) := by decide +kernel
theorem dL_low_6 : decode cL_low 6 = .ok (.ireturn, 1) := by decide +kernel
theorem dL_is_0 : decode cL_is 0 = .ok (.iload_n 2, 1) := by decide +kernel
theorem dL_is_1 : decode cL_is 1 = .ok (.ifCond .lt 25, 3) := by decide +kernel
theorem dL_is_4 : decode cL_is 4 = .ok (.iload_n 2, 1) := by decide +kernel
theorem dL_is_5 : decode cL_is 5 = .ok (.aload_n 0, 1) := by decide +kernel
theorem dL_is_6 : decode cL_is 6 = .ok (.iconst 3, 1) := by decide +kernel
theorem dL_is_7 : decode cL_is 7 = .ok (.iaload, 1) := by decide +kernel
theorem dL_is_8 : decode cL_is 8 = .ok (.if_icmp .ge 18, 3) := by decide +kernel
theorem dL_is_11 : decode cL_is 11 = .ok (.aload_n 1, 1) := by decide +kernel
theorem dL_is_12 : decode cL_is 12 = .ok (.iconst 4, 1) := by decide +kernel
theorem dL_is_13 : decode cL_is 13 = .ok (.iload_n 2, 1) := by decide +kernel
theorem dL_is_14 : decode cL_is 14 = .ok (.imul, 1) := by decide +kernel
theorem dL_is_15 : decode cL_is 15 = .ok (.iconst 2, 1) := by decide +kernel
theorem dL_is_16 : decode cL_is 16 = .ok (.iadd, 1) := by decide +kernel
theorem dL_is_17 : decode cL_is 17 = .ok (.iaload, 1) := by decide +kernel
theorem dL_is_18 : decode cL_is 18 = .ok (.iconst 5, 1) := by decide +kernel
theorem dL_is_19 : decode cL_is 19 = .ok (.if_icmp .ge 7, 3) := by decide +kernel
theorem dL_is_22 : decode cL_is 22 = .ok (.iconst 1, 1) := by decide +kernel
theorem dL_is_23 : decode cL_is 23 = .ok (.goto 4, 3) := by decide +kernel
theorem dL_is_26 : decode cL_is 26 = .ok (.iconst 0, 1) := by decide +kernel
theorem dL_is_27 : decode cL_is 27 = .ok (.ireturn, 1) := by decide +kernel
theorem dL_load_0 : decode cL_load 0 = .ok (.iconst 0, 1) := by decide +kernel
theorem dL_load_1 : decode cL_load 1 = .ok (.istore 5, 2) := by decide +kernel
theorem dL_load_3 : decode cL_load 3 = .ok (.iconst 0, 1) := by decide +kernel
theorem dL_load_4 : decode cL_load 4 = .ok (.istore 6, 2) := by decide +kernel
theorem dL_load_6 : decode cL_load 6 = .ok (.iload 6, 2) := by decide +kernel
theorem dL_load_8 : decode cL_load 8 = .ok (.aload_n 0, 1) := by decide +kernel
theorem dL_load_9 : decode cL_load 9 = .ok (.iconst 3, 1) := by decide +kernel
theorem dL_load_10 : decode cL_load 10 = .ok (.iaload, 1) := by decide +kernel
theorem dL_load_11 : decode cL_load 11 = .ok (.if_icmp .ge 87, 3) := by decide +kernel
theorem dL_load_14 : decode cL_load 14 = .ok (.aload_n 2, 1) := by decide +kernel
theorem dL_load_15 : decode cL_load 15 = .ok (.iconst 4, 1) := by decide +kernel
theorem dL_load_16 : decode cL_load 16 = .ok (.iload 6, 2) := by decide +kernel
theorem dL_load_18 : decode cL_load 18 = .ok (.imul, 1) := by decide +kernel
theorem dL_load_19 : decode cL_load 19 = .ok (.iconst 2, 1) := by decide +kernel
theorem dL_load_20 : decode cL_load 20 = .ok (.iadd, 1) := by decide +kernel
theorem dL_load_21 : decode cL_load 21 = .ok (.iaload, 1) := by decide +kernel
theorem dL_load_22 : decode cL_load 22 = .ok (.iconst 1, 1) := by decide +kernel
theorem dL_load_23 : decode cL_load 23 = .ok (.if_icmp .eq 15, 3) := by decide +kernel
theorem dL_load_26 : decode cL_load 26 = .ok (.aload_n 2, 1) := by decide +kernel
theorem dL_load_27 : decode cL_load 27 = .ok (.iconst 4, 1) := by decide +kernel
theorem dL_load_28 : decode cL_load 28 = .ok (.iload 6, 2) := by decide +kernel
theorem dL_load_30 : decode cL_load 30 = .ok (.imul, 1) := by decide +kernel
theorem dL_load_31 : decode cL_load 31 = .ok (.iconst 2, 1) := by decide +kernel
theorem dL_load_32 : decode cL_load 32 = .ok (.iadd, 1) := by decide +kernel
theorem dL_load_33 : decode cL_load 33 = .ok (.iaload, 1) := by decide +kernel
theorem dL_load_34 : decode cL_load 34 = .ok (.iconst 2, 1) := by decide +kernel
theorem dL_load_35 : decode cL_load 35 = .ok (.if_icmp .ne 19, 3) := by decide +kernel
theorem dL_load_38 : decode cL_load 38 = .ok (.aload_n 2, 1) := by decide +kernel
theorem dL_load_39 : decode cL_load 39 = .ok (.iconst 4, 1) := by decide +kernel
theorem dL_load_40 : decode cL_load 40 = .ok (.iload 6, 2) := by decide +kernel
theorem dL_load_42 : decode cL_load 42 = .ok (.imul, 1) := by decide +kernel
theorem dL_load_43 : decode cL_load 43 = .ok (.iconst 3, 1) := by decide +kernel
theorem dL_load_44 : decode cL_load 44 = .ok (.iadd, 1) := by decide +kernel
theorem dL_load_45 : decode cL_load 45 = .ok (.iaload, 1) := by decide +kernel
theorem dL_load_46 : decode cL_load 46 = .ok (.iload_n 3, 1) := by decide +kernel
theorem dL_load_47 : decode cL_load 47 = .ok (.if_icmp .ne 7, 3) := by decide +kernel
theorem dL_load_50 : decode cL_load 50 = .ok (.iconst 1, 1) := by decide +kernel
theorem dL_load_51 : decode cL_load 51 = .ok (.goto 4, 3) := by decide +kernel
theorem dL_load_54 : decode cL_load 54 = .ok (.iconst 0, 1) := by decide +kernel
theorem dL_load_55 : decode cL_load 55 = .ok (.istore 7, 2) := by decide +kernel
theorem dL_load_57 : decode cL_load 57 = .ok (.iload 5, 2) := by decide +kernel
theorem dL_load_59 : decode cL_load 59 = .ok (.iload 7, 2) := by decide +kernel
theorem dL_load_61 : decode cL_load 61 = .ok (.ifCond .ne 7, 3) := by decide +kernel
theorem dL_load_64 : decode cL_load 64 = .ok (.iconst 0, 1) := by decide +kernel
theorem dL_load_65 : decode cL_load 65 = .ok (.goto 24, 3) := by decide +kernel
theorem dL_load_68 : decode cL_load 68 = .ok (.iload 4, 2) := by decide +kernel
theorem dL_load_70 : decode cL_load 70 = .ok (.ifCond .ne 10, 3) := by decide +kernel
theorem dL_load_73 : decode cL_load 73 = .ok (.iconst 1, 1) := by decide +kernel
theorem dL_load_74 : decode cL_load 74 = .ok (.iload 6, 2) := by decide +kernel
theorem dL_load_76 : decode cL_load 76 = .ok (.ishl, 1) := by decide +kernel
theorem dL_load_77 : decode cL_load 77 = .ok (.goto 12, 3) := by decide +kernel
theorem dL_load_80 : decode cL_load 80 = .ok (.aload_n 1, 1) := by decide +kernel
theorem dL_load_81 : decode cL_load 81 = .ok (.iconst 4, 1) := by decide +kernel
theorem dL_load_82 : decode cL_load 82 = .ok (.iload 6, 2) := by decide +kernel
theorem dL_load_84 : decode cL_load 84 = .ok (.imul, 1) := by decide +kernel
theorem dL_load_85 : decode cL_load 85 = .ok (.iload 4, 2) := by decide +kernel
theorem dL_load_87 : decode cL_load 87 = .ok (.iadd, 1) := by decide +kernel
theorem dL_load_88 : decode cL_load 88 = .ok (.iaload, 1) := by decide +kernel
theorem dL_load_89 : decode cL_load 89 = .ok (.iadd, 1) := by decide +kernel
theorem dL_load_90 : decode cL_load 90 = .ok (.istore 5, 2) := by decide +kernel
theorem dL_load_92 : decode cL_load 92 = .ok (.iinc 6 1, 3) := by decide +kernel
theorem dL_load_95 : decode cL_load 95 = .ok (.goto (-89), 3) := by decide +kernel
theorem dL_load_98 : decode cL_load 98 = .ok (.iload 5, 2) := by decide +kernel
theorem dL_load_100 : decode cL_load 100 = .ok (.ireturn, 1) := by decide +kernel
theorem dL_goal_0 : decode cL_goal 0 = .ok (.aload_n 0, 1) := by decide +kernel
theorem dL_goal_1 : decode cL_goal 1 = .ok (.aload_n 1, 1) := by decide +kernel
theorem dL_goal_2 : decode cL_goal 2 = .ok (.aload_n 2, 1) := by decide +kernel
theorem dL_goal_3 : decode cL_goal 3 = .ok (.iload 4, 2) := by decide +kernel
theorem dL_goal_5 : decode cL_goal 5 = .ok (.iconst 0, 1) := by decide +kernel
theorem dL_goal_6 : decode cL_goal 6 = .ok (.invokestatic 9, 3) := by decide +kernel
theorem dL_goal_9 : decode cL_goal 9 = .ok (.istore 5, 2) := by decide +kernel
theorem dL_goal_11 : decode cL_goal 11 = .ok (.iconst 0, 1) := by decide +kernel
theorem dL_goal_12 : decode cL_goal 12 = .ok (.istore 6, 2) := by decide +kernel
theorem dL_goal_14 : decode cL_goal 14 = .ok (.iload 5, 2) := by decide +kernel
theorem dL_goal_16 : decode cL_goal 16 = .ok (.ifCond .le 19, 3) := by decide +kernel
theorem dL_goal_19 : decode cL_goal 19 = .ok (.iload 5, 2) := by decide +kernel
theorem dL_goal_21 : decode cL_goal 21 = .ok (.iload 6, 2) := by decide +kernel
theorem dL_goal_23 : decode cL_goal 23 = .ok (.ishr, 1) := by decide +kernel
theorem dL_goal_24 : decode cL_goal 24 = .ok (.iconst 1, 1) := by decide +kernel
theorem dL_goal_25 : decode cL_goal 25 = .ok (.iand, 1) := by decide +kernel
theorem dL_goal_26 : decode cL_goal 26 = .ok (.ifCond .ne 9, 3) := by decide +kernel
theorem dL_goal_29 : decode cL_goal 29 = .ok (.iinc 6 1, 3) := by decide +kernel
theorem dL_goal_32 : decode cL_goal 32 = .ok (.goto (-18), 3) := by decide +kernel
theorem dL_goal_35 : decode cL_goal 35 = .ok (.iload 5, 2) := by decide +kernel
theorem dL_goal_37 : decode cL_goal 37 = .ok (.ifCond .le 12, 3) := by decide +kernel
theorem dL_goal_40 : decode cL_goal 40 = .ok (.aload_n 1, 1) := by decide +kernel
theorem dL_goal_41 : decode cL_goal 41 = .ok (.iconst 4, 1) := by decide +kernel
theorem dL_goal_42 : decode cL_goal 42 = .ok (.iload 6, 2) := by decide +kernel
theorem dL_goal_44 : decode cL_goal 44 = .ok (.imul, 1) := by decide +kernel
theorem dL_goal_45 : decode cL_goal 45 = .ok (.iaload, 1) := by decide +kernel
theorem dL_goal_46 : decode cL_goal 46 = .ok (.goto 28, 3) := by decide +kernel
theorem dL_goal_49 : decode cL_goal 49 = .ok (.aload_n 3, 1) := by decide +kernel
theorem dL_goal_50 : decode cL_goal 50 = .ok (.bipush 8, 2) := by decide +kernel
theorem dL_goal_52 : decode cL_goal 52 = .ok (.iload 4, 2) := by decide +kernel
theorem dL_goal_54 : decode cL_goal 54 = .ok (.imul, 1) := by decide +kernel
theorem dL_goal_55 : decode cL_goal 55 = .ok (.iconst 2, 1) := by decide +kernel
theorem dL_goal_56 : decode cL_goal 56 = .ok (.iadd, 1) := by decide +kernel
theorem dL_goal_57 : decode cL_goal 57 = .ok (.iaload, 1) := by decide +kernel
theorem dL_goal_58 : decode cL_goal 58 = .ok (.ifCond .le 15, 3) := by decide +kernel
theorem dL_goal_61 : decode cL_goal 61 = .ok (.aload_n 3, 1) := by decide +kernel
theorem dL_goal_62 : decode cL_goal 62 = .ok (.bipush 8, 2) := by decide +kernel
theorem dL_goal_64 : decode cL_goal 64 = .ok (.iload 4, 2) := by decide +kernel
theorem dL_goal_66 : decode cL_goal 66 = .ok (.imul, 1) := by decide +kernel
theorem dL_goal_67 : decode cL_goal 67 = .ok (.iconst 3, 1) := by decide +kernel
theorem dL_goal_68 : decode cL_goal 68 = .ok (.iadd, 1) := by decide +kernel
theorem dL_goal_69 : decode cL_goal 69 = .ok (.iaload, 1) := by decide +kernel
theorem dL_goal_70 : decode cL_goal 70 = .ok (.goto 4, 3) := by decide +kernel
theorem dL_goal_73 : decode cL_goal 73 = .ok (.iconst (-1), 1) := by decide +kernel
theorem dL_goal_74 : decode cL_goal 74 = .ok (.ireturn, 1) := by decide +kernel
theorem dL_fits_0 : decode cL_fits 0 = .ok (.aload_n 0, 1) := by decide +kernel
theorem dL_fits_1 : decode cL_fits 1 = .ok (.aload_n 1, 1) := by decide +kernel
theorem dL_fits_2 : decode cL_fits 2 = .ok (.aload_n 2, 1) := by decide +kernel
theorem dL_fits_3 : decode cL_fits 3 = .ok (.aload_n 3, 1) := by decide +kernel
theorem dL_fits_4 : decode cL_fits 4 = .ok (.iload 5, 2) := by decide +kernel
theorem dL_fits_6 : decode cL_fits 6 = .ok (.invokestatic 15, 3) := by decide +kernel
theorem dL_fits_9 : decode cL_fits 9 = .ok (.istore 6, 2) := by decide +kernel
theorem dL_fits_11 : decode cL_fits 11 = .ok (.aload_n 2, 1) := by decide +kernel
theorem dL_fits_12 : decode cL_fits 12 = .ok (.iconst 4, 1) := by decide +kernel
theorem dL_fits_13 : decode cL_fits 13 = .ok (.iload 4, 2) := by decide +kernel
theorem dL_fits_15 : decode cL_fits 15 = .ok (.imul, 1) := by decide +kernel
theorem dL_fits_16 : decode cL_fits 16 = .ok (.iconst 2, 1) := by decide +kernel
theorem dL_fits_17 : decode cL_fits 17 = .ok (.iadd, 1) := by decide +kernel
theorem dL_fits_18 : decode cL_fits 18 = .ok (.iaload, 1) := by decide +kernel
theorem dL_fits_19 : decode cL_fits 19 = .ok (.ifCond .ne 35, 3) := by decide +kernel
theorem dL_fits_22 : decode cL_fits 22 = .ok (.aload_n 3, 1) := by decide +kernel
theorem dL_fits_23 : decode cL_fits 23 = .ok (.bipush 8, 2) := by decide +kernel
theorem dL_fits_25 : decode cL_fits 25 = .ok (.iload 5, 2) := by decide +kernel
theorem dL_fits_27 : decode cL_fits 27 = .ok (.imul, 1) := by decide +kernel
theorem dL_fits_28 : decode cL_fits 28 = .ok (.iconst 2, 1) := by decide +kernel
theorem dL_fits_29 : decode cL_fits 29 = .ok (.iadd, 1) := by decide +kernel
theorem dL_fits_30 : decode cL_fits 30 = .ok (.iaload, 1) := by decide +kernel
theorem dL_fits_31 : decode cL_fits 31 = .ok (.ifCond .ne 23, 3) := by decide +kernel
theorem dL_fits_34 : decode cL_fits 34 = .ok (.iload 6, 2) := by decide +kernel
theorem dL_fits_36 : decode cL_fits 36 = .ok (.ifCond .lt 14, 3) := by decide +kernel
theorem dL_fits_39 : decode cL_fits 39 = .ok (.iload 6, 2) := by decide +kernel
theorem dL_fits_41 : decode cL_fits 41 = .ok (.aload_n 1, 1) := by decide +kernel
theorem dL_fits_42 : decode cL_fits 42 = .ok (.iconst 4, 1) := by decide +kernel
theorem dL_fits_43 : decode cL_fits 43 = .ok (.iload 4, 2) := by decide +kernel
theorem dL_fits_45 : decode cL_fits 45 = .ok (.imul, 1) := by decide +kernel
theorem dL_fits_46 : decode cL_fits 46 = .ok (.iaload, 1) := by decide +kernel
theorem dL_fits_47 : decode cL_fits 47 = .ok (.if_icmp .ne 7, 3) := by decide +kernel
theorem dL_fits_50 : decode cL_fits 50 = .ok (.iconst 1, 1) := by decide +kernel
theorem dL_fits_51 : decode cL_fits 51 = .ok (.goto 4, 3) := by decide +kernel
theorem dL_fits_54 : decode cL_fits 54 = .ok (.iconst 0, 1) := by decide +kernel
theorem dL_fits_55 : decode cL_fits 55 = .ok (.istore 7, 2) := by decide +kernel
theorem dL_fits_57 : decode cL_fits 57 = .ok (.iload 7, 2) := by decide +kernel
theorem dL_fits_59 : decode cL_fits 59 = .ok (.ifCond .eq 65, 3) := by decide +kernel
theorem dL_fits_62 : decode cL_fits 62 = .ok (.aload_n 0, 1) := by decide +kernel
theorem dL_fits_63 : decode cL_fits 63 = .ok (.aload_n 1, 1) := by decide +kernel
theorem dL_fits_64 : decode cL_fits 64 = .ok (.aload_n 2, 1) := by decide +kernel
theorem dL_fits_65 : decode cL_fits 65 = .ok (.iload 5, 2) := by decide +kernel
theorem dL_fits_67 : decode cL_fits 67 = .ok (.iconst 1, 1) := by decide +kernel
theorem dL_fits_68 : decode cL_fits 68 = .ok (.invokestatic 9, 3) := by decide +kernel
theorem dL_fits_71 : decode cL_fits 71 = .ok (.aload_n 1, 1) := by decide +kernel
theorem dL_fits_72 : decode cL_fits 72 = .ok (.iconst 4, 1) := by decide +kernel
theorem dL_fits_73 : decode cL_fits 73 = .ok (.iload 4, 2) := by decide +kernel
theorem dL_fits_75 : decode cL_fits 75 = .ok (.imul, 1) := by decide +kernel
theorem dL_fits_76 : decode cL_fits 76 = .ok (.iconst 1, 1) := by decide +kernel
theorem dL_fits_77 : decode cL_fits 77 = .ok (.iadd, 1) := by decide +kernel
theorem dL_fits_78 : decode cL_fits 78 = .ok (.iaload, 1) := by decide +kernel
theorem dL_fits_79 : decode cL_fits 79 = .ok (.iadd, 1) := by decide +kernel
theorem dL_fits_80 : decode cL_fits 80 = .ok (.aload_n 3, 1) := by decide +kernel
theorem dL_fits_81 : decode cL_fits 81 = .ok (.bipush 8, 2) := by decide +kernel
theorem dL_fits_83 : decode cL_fits 83 = .ok (.iload 5, 2) := by decide +kernel
theorem dL_fits_85 : decode cL_fits 85 = .ok (.imul, 1) := by decide +kernel
theorem dL_fits_86 : decode cL_fits 86 = .ok (.iaload, 1) := by decide +kernel
theorem dL_fits_87 : decode cL_fits 87 = .ok (.if_icmp .gt 37, 3) := by decide +kernel
theorem dL_fits_90 : decode cL_fits 90 = .ok (.aload_n 0, 1) := by decide +kernel
theorem dL_fits_91 : decode cL_fits 91 = .ok (.aload_n 1, 1) := by decide +kernel
theorem dL_fits_92 : decode cL_fits 92 = .ok (.aload_n 2, 1) := by decide +kernel
theorem dL_fits_93 : decode cL_fits 93 = .ok (.iload 5, 2) := by decide +kernel
theorem dL_fits_95 : decode cL_fits 95 = .ok (.iconst 2, 1) := by decide +kernel
theorem dL_fits_96 : decode cL_fits 96 = .ok (.invokestatic 9, 3) := by decide +kernel
theorem dL_fits_99 : decode cL_fits 99 = .ok (.aload_n 1, 1) := by decide +kernel
theorem dL_fits_100 : decode cL_fits 100 = .ok (.iconst 4, 1) := by decide +kernel
theorem dL_fits_101 : decode cL_fits 101 = .ok (.iload 4, 2) := by decide +kernel
theorem dL_fits_103 : decode cL_fits 103 = .ok (.imul, 1) := by decide +kernel
theorem dL_fits_104 : decode cL_fits 104 = .ok (.iconst 2, 1) := by decide +kernel
theorem dL_fits_105 : decode cL_fits 105 = .ok (.iadd, 1) := by decide +kernel
theorem dL_fits_106 : decode cL_fits 106 = .ok (.iaload, 1) := by decide +kernel
theorem dL_fits_107 : decode cL_fits 107 = .ok (.iadd, 1) := by decide +kernel
theorem dL_fits_108 : decode cL_fits 108 = .ok (.aload_n 3, 1) := by decide +kernel
theorem dL_fits_109 : decode cL_fits 109 = .ok (.bipush 8, 2) := by decide +kernel
theorem dL_fits_111 : decode cL_fits 111 = .ok (.iload 5, 2) := by decide +kernel
theorem dL_fits_113 : decode cL_fits 113 = .ok (.imul, 1) := by decide +kernel
theorem dL_fits_114 : decode cL_fits 114 = .ok (.iconst 1, 1) := by decide +kernel
theorem dL_fits_115 : decode cL_fits 115 = .ok (.iadd, 1) := by decide +kernel
theorem dL_fits_116 : decode cL_fits 116 = .ok (.iaload, 1) := by decide +kernel
theorem dL_fits_117 : decode cL_fits 117 = .ok (.if_icmp .gt 7, 3) := by decide +kernel
theorem dL_fits_120 : decode cL_fits 120 = .ok (.iconst 1, 1) := by decide +kernel
theorem dL_fits_121 : decode cL_fits 121 = .ok (.goto 4, 3) := by decide +kernel
theorem dL_fits_124 : decode cL_fits 124 = .ok (.iconst 0, 1) := by decide +kernel
theorem dL_fits_125 : decode cL_fits 125 = .ok (.ireturn, 1) := by decide +kernel
theorem dL_put_0 : decode cL_put 0 = .ok (.aload_n 0, 1) := by decide +kernel
theorem dL_put_1 : decode cL_put 1 = .ok (.iconst 4, 1) := by decide +kernel
theorem dL_put_2 : decode cL_put 2 = .ok (.iload_n 1, 1) := by decide +kernel
theorem dL_put_3 : decode cL_put 3 = .ok (.imul, 1) := by decide +kernel
theorem dL_put_4 : decode cL_put 4 = .ok (.iconst 2, 1) := by decide +kernel
theorem dL_put_5 : decode cL_put 5 = .ok (.iadd, 1) := by decide +kernel
theorem dL_put_6 : decode cL_put 6 = .ok (.iconst 1, 1) := by decide +kernel
theorem dL_put_7 : decode cL_put 7 = .ok (.iastore, 1) := by decide +kernel
theorem dL_put_8 : decode cL_put 8 = .ok (.aload_n 0, 1) := by decide +kernel
theorem dL_put_9 : decode cL_put 9 = .ok (.iconst 4, 1) := by decide +kernel
theorem dL_put_10 : decode cL_put 10 = .ok (.iload_n 1, 1) := by decide +kernel
theorem dL_put_11 : decode cL_put 11 = .ok (.imul, 1) := by decide +kernel
theorem dL_put_12 : decode cL_put 12 = .ok (.iconst 3, 1) := by decide +kernel
theorem dL_put_13 : decode cL_put 13 = .ok (.iadd, 1) := by decide +kernel
theorem dL_put_14 : decode cL_put 14 = .ok (.iload_n 2, 1) := by decide +kernel
theorem dL_put_15 : decode cL_put 15 = .ok (.iastore, 1) := by decide +kernel
theorem dL_put_16 : decode cL_put 16 = .ok (.return_, 1) := by decide +kernel
theorem dL_fill_0 : decode cL_fill 0 = .ok (.iconst 0, 1) := by decide +kernel
theorem dL_fill_1 : decode cL_fill 1 = .ok (.istore 7, 2) := by decide +kernel
theorem dL_fill_3 : decode cL_fill 3 = .ok (.iconst 0, 1) := by decide +kernel
theorem dL_fill_4 : decode cL_fill 4 = .ok (.istore 8, 2) := by decide +kernel
theorem dL_fill_6 : decode cL_fill 6 = .ok (.iconst 0, 1) := by decide +kernel
theorem dL_fill_7 : decode cL_fill 7 = .ok (.istore 9, 2) := by decide +kernel
theorem dL_fill_9 : decode cL_fill 9 = .ok (.iload 9, 2) := by decide +kernel
theorem dL_fill_11 : decode cL_fill 11 = .ok (.bipush 16, 2) := by decide +kernel
theorem dL_fill_13 : decode cL_fill 13 = .ok (.if_icmp .ge 230, 3) := by decide +kernel
theorem dL_fill_16 : decode cL_fill 16 = .ok (.iconst (-1), 1) := by decide +kernel
theorem dL_fill_17 : decode cL_fill 17 = .ok (.istore 10, 2) := by decide +kernel
theorem dL_fill_19 : decode cL_fill 19 = .ok (.aload_n 0, 1) := by decide +kernel
theorem dL_fill_20 : decode cL_fill 20 = .ok (.iconst 3, 1) := by decide +kernel
theorem dL_fill_21 : decode cL_fill 21 = .ok (.iaload, 1) := by decide +kernel
theorem dL_fill_22 : decode cL_fill 22 = .ok (.iconst 1, 1) := by decide +kernel
theorem dL_fill_23 : decode cL_fill 23 = .ok (.isub, 1) := by decide +kernel
theorem dL_fill_24 : decode cL_fill 24 = .ok (.istore 11, 2) := by decide +kernel
theorem dL_fill_26 : decode cL_fill 26 = .ok (.iload 11, 2) := by decide +kernel
theorem dL_fill_28 : decode cL_fill 28 = .ok (.ifCond .lt 164, 3) := by decide +kernel
theorem dL_fill_31 : decode cL_fill 31 = .ok (.aload_n 2, 1) := by decide +kernel
theorem dL_fill_32 : decode cL_fill 32 = .ok (.iconst 4, 1) := by decide +kernel
theorem dL_fill_33 : decode cL_fill 33 = .ok (.iload 11, 2) := by decide +kernel
theorem dL_fill_35 : decode cL_fill 35 = .ok (.imul, 1) := by decide +kernel
theorem dL_fill_36 : decode cL_fill 36 = .ok (.iconst 2, 1) := by decide +kernel
theorem dL_fill_37 : decode cL_fill 37 = .ok (.iadd, 1) := by decide +kernel
theorem dL_fill_38 : decode cL_fill 38 = .ok (.iaload, 1) := by decide +kernel
theorem dL_fill_39 : decode cL_fill 39 = .ok (.ifCond .ne 28, 3) := by decide +kernel
theorem dL_fill_42 : decode cL_fill 42 = .ok (.aload_n 1, 1) := by decide +kernel
theorem dL_fill_43 : decode cL_fill 43 = .ok (.iconst 4, 1) := by decide +kernel
theorem dL_fill_44 : decode cL_fill 44 = .ok (.iload 11, 2) := by decide +kernel
theorem dL_fill_46 : decode cL_fill 46 = .ok (.imul, 1) := by decide +kernel
theorem dL_fill_47 : decode cL_fill 47 = .ok (.iaload, 1) := by decide +kernel
theorem dL_fill_48 : decode cL_fill 48 = .ok (.iload 5, 2) := by decide +kernel
theorem dL_fill_50 : decode cL_fill 50 = .ok (.if_icmp .ne 17, 3) := by decide +kernel
theorem dL_fill_53 : decode cL_fill 53 = .ok (.iload 8, 2) := by decide +kernel
theorem dL_fill_55 : decode cL_fill 55 = .ok (.iload 11, 2) := by decide +kernel
theorem dL_fill_57 : decode cL_fill 57 = .ok (.ishr, 1) := by decide +kernel
theorem dL_fill_58 : decode cL_fill 58 = .ok (.iconst 1, 1) := by decide +kernel
theorem dL_fill_59 : decode cL_fill 59 = .ok (.iand, 1) := by decide +kernel
theorem dL_fill_60 : decode cL_fill 60 = .ok (.ifCond .ne 7, 3) := by decide +kernel
theorem dL_fill_63 : decode cL_fill 63 = .ok (.iconst 1, 1) := by decide +kernel
theorem dL_fill_64 : decode cL_fill 64 = .ok (.goto 4, 3) := by decide +kernel
theorem dL_fill_67 : decode cL_fill 67 = .ok (.iconst 0, 1) := by decide +kernel
theorem dL_fill_68 : decode cL_fill 68 = .ok (.istore 12, 2) := by decide +kernel
theorem dL_fill_70 : decode cL_fill 70 = .ok (.iload 10, 2) := by decide +kernel
theorem dL_fill_72 : decode cL_fill 72 = .ok (.ifCond .ge 7, 3) := by decide +kernel
theorem dL_fill_75 : decode cL_fill 75 = .ok (.iconst 1, 1) := by decide +kernel
theorem dL_fill_76 : decode cL_fill 76 = .ok (.goto 89, 3) := by decide +kernel
theorem dL_fill_79 : decode cL_fill 79 = .ok (.iload 6, 2) := by decide +kernel
theorem dL_fill_81 : decode cL_fill 81 = .ok (.ifCond .ne 23, 3) := by decide +kernel
theorem dL_fill_84 : decode cL_fill 84 = .ok (.aload_n 2, 1) := by decide +kernel
theorem dL_fill_85 : decode cL_fill 85 = .ok (.iconst 4, 1) := by decide +kernel
theorem dL_fill_86 : decode cL_fill 86 = .ok (.iload 10, 2) := by decide +kernel
theorem dL_fill_88 : decode cL_fill 88 = .ok (.imul, 1) := by decide +kernel
theorem dL_fill_89 : decode cL_fill 89 = .ok (.iconst 1, 1) := by decide +kernel
theorem dL_fill_90 : decode cL_fill 90 = .ok (.iadd, 1) := by decide +kernel
theorem dL_fill_91 : decode cL_fill 91 = .ok (.iaload, 1) := by decide +kernel
theorem dL_fill_92 : decode cL_fill 92 = .ok (.aload_n 2, 1) := by decide +kernel
theorem dL_fill_93 : decode cL_fill 93 = .ok (.iconst 4, 1) := by decide +kernel
theorem dL_fill_94 : decode cL_fill 94 = .ok (.iload 11, 2) := by decide +kernel
theorem dL_fill_96 : decode cL_fill 96 = .ok (.imul, 1) := by decide +kernel
theorem dL_fill_97 : decode cL_fill 97 = .ok (.iconst 1, 1) := by decide +kernel
theorem dL_fill_98 : decode cL_fill 98 = .ok (.iadd, 1) := by decide +kernel
theorem dL_fill_99 : decode cL_fill 99 = .ok (.iaload, 1) := by decide +kernel
theorem dL_fill_100 : decode cL_fill 100 = .ok (.isub, 1) := by decide +kernel
theorem dL_fill_101 : decode cL_fill 101 = .ok (.goto 64, 3) := by decide +kernel
theorem dL_fill_104 : decode cL_fill 104 = .ok (.iload 6, 2) := by decide +kernel
theorem dL_fill_106 : decode cL_fill 106 = .ok (.iconst 1, 1) := by decide +kernel
theorem dL_fill_107 : decode cL_fill 107 = .ok (.if_icmp .ne 23, 3) := by decide +kernel
theorem dL_fill_110 : decode cL_fill 110 = .ok (.aload_n 1, 1) := by decide +kernel
theorem dL_fill_111 : decode cL_fill 111 = .ok (.iconst 4, 1) := by decide +kernel
theorem dL_fill_112 : decode cL_fill 112 = .ok (.iload 11, 2) := by decide +kernel
theorem dL_fill_114 : decode cL_fill 114 = .ok (.imul, 1) := by decide +kernel
theorem dL_fill_115 : decode cL_fill 115 = .ok (.iconst 3, 1) := by decide +kernel
theorem dL_fill_116 : decode cL_fill 116 = .ok (.iadd, 1) := by decide +kernel
theorem dL_fill_117 : decode cL_fill 117 = .ok (.iaload, 1) := by decide +kernel
theorem dL_fill_118 : decode cL_fill 118 = .ok (.aload_n 1, 1) := by decide +kernel
theorem dL_fill_119 : decode cL_fill 119 = .ok (.iconst 4, 1) := by decide +kernel
theorem dL_fill_120 : decode cL_fill 120 = .ok (.iload 10, 2) := by decide +kernel
theorem dL_fill_122 : decode cL_fill 122 = .ok (.imul, 1) := by decide +kernel
theorem dL_fill_123 : decode cL_fill 123 = .ok (.iconst 3, 1) := by decide +kernel
theorem dL_fill_124 : decode cL_fill 124 = .ok (.iadd, 1) := by decide +kernel
theorem dL_fill_125 : decode cL_fill 125 = .ok (.iaload, 1) := by decide +kernel
theorem dL_fill_126 : decode cL_fill 126 = .ok (.isub, 1) := by decide +kernel
theorem dL_fill_127 : decode cL_fill 127 = .ok (.goto 38, 3) := by decide +kernel
theorem dL_fill_130 : decode cL_fill 130 = .ok (.aload_n 1, 1) := by decide +kernel
theorem dL_fill_131 : decode cL_fill 131 = .ok (.iconst 4, 1) := by decide +kernel
theorem dL_fill_132 : decode cL_fill 132 = .ok (.iload 11, 2) := by decide +kernel
theorem dL_fill_134 : decode cL_fill 134 = .ok (.imul, 1) := by decide +kernel
theorem dL_fill_135 : decode cL_fill 135 = .ok (.iconst 3, 1) := by decide +kernel
theorem dL_fill_136 : decode cL_fill 136 = .ok (.iadd, 1) := by decide +kernel
theorem dL_fill_137 : decode cL_fill 137 = .ok (.iaload, 1) := by decide +kernel
theorem dL_fill_138 : decode cL_fill 138 = .ok (.aload_n 1, 1) := by decide +kernel
theorem dL_fill_139 : decode cL_fill 139 = .ok (.iconst 4, 1) := by decide +kernel
theorem dL_fill_140 : decode cL_fill 140 = .ok (.iload 10, 2) := by decide +kernel
theorem dL_fill_142 : decode cL_fill 142 = .ok (.imul, 1) := by decide +kernel
theorem dL_fill_143 : decode cL_fill 143 = .ok (.iconst 1, 1) := by decide +kernel
theorem dL_fill_144 : decode cL_fill 144 = .ok (.iadd, 1) := by decide +kernel
theorem dL_fill_145 : decode cL_fill 145 = .ok (.iaload, 1) := by decide +kernel
theorem dL_fill_146 : decode cL_fill 146 = .ok (.imul, 1) := by decide +kernel
theorem dL_fill_147 : decode cL_fill 147 = .ok (.aload_n 1, 1) := by decide +kernel
theorem dL_fill_148 : decode cL_fill 148 = .ok (.iconst 4, 1) := by decide +kernel
theorem dL_fill_149 : decode cL_fill 149 = .ok (.iload 10, 2) := by decide +kernel
theorem dL_fill_151 : decode cL_fill 151 = .ok (.imul, 1) := by decide +kernel
theorem dL_fill_152 : decode cL_fill 152 = .ok (.iconst 3, 1) := by decide +kernel
theorem dL_fill_153 : decode cL_fill 153 = .ok (.iadd, 1) := by decide +kernel
theorem dL_fill_154 : decode cL_fill 154 = .ok (.iaload, 1) := by decide +kernel
theorem dL_fill_155 : decode cL_fill 155 = .ok (.aload_n 1, 1) := by decide +kernel
theorem dL_fill_156 : decode cL_fill 156 = .ok (.iconst 4, 1) := by decide +kernel
theorem dL_fill_157 : decode cL_fill 157 = .ok (.iload 11, 2) := by decide +kernel
theorem dL_fill_159 : decode cL_fill 159 = .ok (.imul, 1) := by decide +kernel
theorem dL_fill_160 : decode cL_fill 160 = .ok (.iconst 1, 1) := by decide +kernel
theorem dL_fill_161 : decode cL_fill 161 = .ok (.iadd, 1) := by decide +kernel
theorem dL_fill_162 : decode cL_fill 162 = .ok (.iaload, 1) := by decide +kernel
theorem dL_fill_163 : decode cL_fill 163 = .ok (.imul, 1) := by decide +kernel
theorem dL_fill_164 : decode cL_fill 164 = .ok (.isub, 1) := by decide +kernel
theorem dL_fill_165 : decode cL_fill 165 = .ok (.istore 13, 2) := by decide +kernel
theorem dL_fill_167 : decode cL_fill 167 = .ok (.iload 12, 2) := by decide +kernel
theorem dL_fill_169 : decode cL_fill 169 = .ok (.ifCond .eq 13, 3) := by decide +kernel
theorem dL_fill_172 : decode cL_fill 172 = .ok (.iload 13, 2) := by decide +kernel
theorem dL_fill_174 : decode cL_fill 174 = .ok (.ifCond .lt 8, 3) := by decide +kernel
theorem dL_fill_177 : decode cL_fill 177 = .ok (.iload 11, 2) := by decide +kernel
theorem dL_fill_179 : decode cL_fill 179 = .ok (.goto 5, 3) := by decide +kernel
theorem dL_fill_182 : decode cL_fill 182 = .ok (.iload 10, 2) := by decide +kernel
theorem dL_fill_184 : decode cL_fill 184 = .ok (.istore 10, 2) := by decide +kernel
theorem dL_fill_186 : decode cL_fill 186 = .ok (.iinc 11 (-1), 3) := by decide +kernel
theorem dL_fill_189 : decode cL_fill 189 = .ok (.goto (-163), 3) := by decide +kernel
theorem dL_fill_192 : decode cL_fill 192 = .ok (.iload 10, 2) := by decide +kernel
theorem dL_fill_194 : decode cL_fill 194 = .ok (.ifCond .lt 43, 3) := by decide +kernel
theorem dL_fill_197 : decode cL_fill 197 = .ok (.iload 8, 2) := by decide +kernel
theorem dL_fill_199 : decode cL_fill 199 = .ok (.iconst 1, 1) := by decide +kernel
theorem dL_fill_200 : decode cL_fill 200 = .ok (.iload 10, 2) := by decide +kernel
theorem dL_fill_202 : decode cL_fill 202 = .ok (.ishl, 1) := by decide +kernel
theorem dL_fill_203 : decode cL_fill 203 = .ok (.iadd, 1) := by decide +kernel
theorem dL_fill_204 : decode cL_fill 204 = .ok (.istore 8, 2) := by decide +kernel
theorem dL_fill_206 : decode cL_fill 206 = .ok (.aload_n 0, 1) := by decide +kernel
theorem dL_fill_207 : decode cL_fill 207 = .ok (.aload_n 1, 1) := by decide +kernel
theorem dL_fill_208 : decode cL_fill 208 = .ok (.aload_n 2, 1) := by decide +kernel
theorem dL_fill_209 : decode cL_fill 209 = .ok (.aload_n 3, 1) := by decide +kernel
theorem dL_fill_210 : decode cL_fill 210 = .ok (.iload 10, 2) := by decide +kernel
theorem dL_fill_212 : decode cL_fill 212 = .ok (.iload 4, 2) := by decide +kernel
theorem dL_fill_214 : decode cL_fill 214 = .ok (.invokestatic 19, 3) := by decide +kernel
theorem dL_fill_217 : decode cL_fill 217 = .ok (.ifCond .eq 20, 3) := by decide +kernel
theorem dL_fill_220 : decode cL_fill 220 = .ok (.aload_n 2, 1) := by decide +kernel
theorem dL_fill_221 : decode cL_fill 221 = .ok (.iload 10, 2) := by decide +kernel
theorem dL_fill_223 : decode cL_fill 223 = .ok (.iload 4, 2) := by decide +kernel
theorem dL_fill_225 : decode cL_fill 225 = .ok (.invokestatic 23, 3) := by decide +kernel
theorem dL_fill_228 : decode cL_fill 228 = .ok (.iload 7, 2) := by decide +kernel
theorem dL_fill_230 : decode cL_fill 230 = .ok (.iconst 1, 1) := by decide +kernel
theorem dL_fill_231 : decode cL_fill 231 = .ok (.iload 10, 2) := by decide +kernel
theorem dL_fill_233 : decode cL_fill 233 = .ok (.ishl, 1) := by decide +kernel
theorem dL_fill_234 : decode cL_fill 234 = .ok (.iadd, 1) := by decide +kernel
theorem dL_fill_235 : decode cL_fill 235 = .ok (.istore 7, 2) := by decide +kernel
theorem dL_fill_237 : decode cL_fill 237 = .ok (.iinc 9 1, 3) := by decide +kernel
theorem dL_fill_240 : decode cL_fill 240 = .ok (.goto (-231), 3) := by decide +kernel
theorem dL_fill_243 : decode cL_fill 243 = .ok (.iload 7, 2) := by decide +kernel
theorem dL_fill_245 : decode cL_fill 245 = .ok (.ireturn, 1) := by decide +kernel
theorem dL_offers_0 : decode cL_offers 0 = .ok (.aload_n 1, 1) := by decide +kernel
theorem dL_offers_1 : decode cL_offers 1 = .ok (.bipush 8, 2) := by decide +kernel
theorem dL_offers_3 : decode cL_offers 3 = .ok (.iload_n 3, 1) := by decide +kernel
theorem dL_offers_4 : decode cL_offers 4 = .ok (.imul, 1) := by decide +kernel
theorem dL_offers_5 : decode cL_offers 5 = .ok (.iaload, 1) := by decide +kernel
theorem dL_offers_6 : decode cL_offers 6 = .ok (.istore 6, 2) := by decide +kernel
theorem dL_offers_8 : decode cL_offers 8 = .ok (.aload_n 1, 1) := by decide +kernel
theorem dL_offers_9 : decode cL_offers 9 = .ok (.bipush 8, 2) := by decide +kernel
theorem dL_offers_11 : decode cL_offers 11 = .ok (.iload_n 3, 1) := by decide +kernel
theorem dL_offers_12 : decode cL_offers 12 = .ok (.imul, 1) := by decide +kernel
theorem dL_offers_13 : decode cL_offers 13 = .ok (.iconst 1, 1) := by decide +kernel
theorem dL_offers_14 : decode cL_offers 14 = .ok (.iadd, 1) := by decide +kernel
theorem dL_offers_15 : decode cL_offers 15 = .ok (.iaload, 1) := by decide +kernel
theorem dL_offers_16 : decode cL_offers 16 = .ok (.istore 7, 2) := by decide +kernel
theorem dL_offers_18 : decode cL_offers 18 = .ok (.iconst 0, 1) := by decide +kernel
theorem dL_offers_19 : decode cL_offers 19 = .ok (.istore 8, 2) := by decide +kernel
theorem dL_offers_21 : decode cL_offers 21 = .ok (.iconst 0, 1) := by decide +kernel
theorem dL_offers_22 : decode cL_offers 22 = .ok (.istore 9, 2) := by decide +kernel
theorem dL_offers_24 : decode cL_offers 24 = .ok (.iload 9, 2) := by decide +kernel
theorem dL_offers_26 : decode cL_offers 26 = .ok (.bipush 10, 2) := by decide +kernel
theorem dL_offers_28 : decode cL_offers 28 = .ok (.if_icmp .ge 177, 3) := by decide +kernel
theorem dL_offers_31 : decode cL_offers 31 = .ok (.iconst (-1), 1) := by decide +kernel
theorem dL_offers_32 : decode cL_offers 32 = .ok (.istore 10, 2) := by decide +kernel
theorem dL_offers_34 : decode cL_offers 34 = .ok (.aload_n 0, 1) := by decide +kernel
theorem dL_offers_35 : decode cL_offers 35 = .ok (.bipush 6, 2) := by decide +kernel
theorem dL_offers_37 : decode cL_offers 37 = .ok (.iaload, 1) := by decide +kernel
theorem dL_offers_38 : decode cL_offers 38 = .ok (.iconst 1, 1) := by decide +kernel
theorem dL_offers_39 : decode cL_offers 39 = .ok (.isub, 1) := by decide +kernel
theorem dL_offers_40 : decode cL_offers 40 = .ok (.istore 11, 2) := by decide +kernel
theorem dL_offers_42 : decode cL_offers 42 = .ok (.iload 11, 2) := by decide +kernel
theorem dL_offers_44 : decode cL_offers 44 = .ok (.ifCond .lt 104, 3) := by decide +kernel
theorem dL_offers_47 : decode cL_offers 47 = .ok (.aload_n 2, 1) := by decide +kernel
theorem dL_offers_48 : decode cL_offers 48 = .ok (.iconst 5, 1) := by decide +kernel
theorem dL_offers_49 : decode cL_offers 49 = .ok (.iload 11, 2) := by decide +kernel
theorem dL_offers_51 : decode cL_offers 51 = .ok (.imul, 1) := by decide +kernel
theorem dL_offers_52 : decode cL_offers 52 = .ok (.iaload, 1) := by decide +kernel
theorem dL_offers_53 : decode cL_offers 53 = .ok (.iload 4, 2) := by decide +kernel
theorem dL_offers_55 : decode cL_offers 55 = .ok (.if_icmp .ne 46, 3) := by decide +kernel
theorem dL_offers_58 : decode cL_offers 58 = .ok (.aload_n 2, 1) := by decide +kernel
theorem dL_offers_59 : decode cL_offers 59 = .ok (.iconst 5, 1) := by decide +kernel
theorem dL_offers_60 : decode cL_offers 60 = .ok (.iload 11, 2) := by decide +kernel
theorem dL_offers_62 : decode cL_offers 62 = .ok (.imul, 1) := by decide +kernel
theorem dL_offers_63 : decode cL_offers 63 = .ok (.iconst 4, 1) := by decide +kernel
theorem dL_offers_64 : decode cL_offers 64 = .ok (.iadd, 1) := by decide +kernel
theorem dL_offers_65 : decode cL_offers 65 = .ok (.iaload, 1) := by decide +kernel
theorem dL_offers_66 : decode cL_offers 66 = .ok (.iload 5, 2) := by decide +kernel
theorem dL_offers_68 : decode cL_offers 68 = .ok (.if_icmp .lt 33, 3) := by decide +kernel
theorem dL_offers_71 : decode cL_offers 71 = .ok (.aload_n 2, 1) := by decide +kernel
theorem dL_offers_72 : decode cL_offers 72 = .ok (.iconst 5, 1) := by decide +kernel
theorem dL_offers_73 : decode cL_offers 73 = .ok (.iload 11, 2) := by decide +kernel
theorem dL_offers_75 : decode cL_offers 75 = .ok (.imul, 1) := by decide +kernel
theorem dL_offers_76 : decode cL_offers 76 = .ok (.iconst 1, 1) := by decide +kernel
theorem dL_offers_77 : decode cL_offers 77 = .ok (.iadd, 1) := by decide +kernel
theorem dL_offers_78 : decode cL_offers 78 = .ok (.iaload, 1) := by decide +kernel
theorem dL_offers_79 : decode cL_offers 79 = .ok (.iload 6, 2) := by decide +kernel
theorem dL_offers_81 : decode cL_offers 81 = .ok (.if_icmp .gt 20, 3) := by decide +kernel
theorem dL_offers_84 : decode cL_offers 84 = .ok (.aload_n 2, 1) := by decide +kernel
theorem dL_offers_85 : decode cL_offers 85 = .ok (.iconst 5, 1) := by decide +kernel
theorem dL_offers_86 : decode cL_offers 86 = .ok (.iload 11, 2) := by decide +kernel
theorem dL_offers_88 : decode cL_offers 88 = .ok (.imul, 1) := by decide +kernel
theorem dL_offers_89 : decode cL_offers 89 = .ok (.iconst 2, 1) := by decide +kernel
theorem dL_offers_90 : decode cL_offers 90 = .ok (.iadd, 1) := by decide +kernel
theorem dL_offers_91 : decode cL_offers 91 = .ok (.iaload, 1) := by decide +kernel
theorem dL_offers_92 : decode cL_offers 92 = .ok (.iload 7, 2) := by decide +kernel
theorem dL_offers_94 : decode cL_offers 94 = .ok (.if_icmp .gt 7, 3) := by decide +kernel
theorem dL_offers_97 : decode cL_offers 97 = .ok (.iconst 1, 1) := by decide +kernel
theorem dL_offers_98 : decode cL_offers 98 = .ok (.goto 4, 3) := by decide +kernel
theorem dL_offers_101 : decode cL_offers 101 = .ok (.iconst 0, 1) := by decide +kernel
theorem dL_offers_102 : decode cL_offers 102 = .ok (.istore 12, 2) := by decide +kernel
theorem dL_offers_104 : decode cL_offers 104 = .ok (.iload 12, 2) := by decide +kernel
theorem dL_offers_106 : decode cL_offers 106 = .ok (.ifCond .eq 32, 3) := by decide +kernel
theorem dL_offers_109 : decode cL_offers 109 = .ok (.iload 10, 2) := by decide +kernel
theorem dL_offers_111 : decode cL_offers 111 = .ok (.ifCond .lt 22, 3) := by decide +kernel
theorem dL_offers_114 : decode cL_offers 114 = .ok (.aload_n 2, 1) := by decide +kernel
theorem dL_offers_115 : decode cL_offers 115 = .ok (.iconst 5, 1) := by decide +kernel
theorem dL_offers_116 : decode cL_offers 116 = .ok (.iload 11, 2) := by decide +kernel
theorem dL_offers_118 : decode cL_offers 118 = .ok (.imul, 1) := by decide +kernel
theorem dL_offers_119 : decode cL_offers 119 = .ok (.iconst 3, 1) := by decide +kernel
theorem dL_offers_120 : decode cL_offers 120 = .ok (.iadd, 1) := by decide +kernel
theorem dL_offers_121 : decode cL_offers 121 = .ok (.iaload, 1) := by decide +kernel
theorem dL_offers_122 : decode cL_offers 122 = .ok (.aload_n 2, 1) := by decide +kernel
theorem dL_offers_123 : decode cL_offers 123 = .ok (.iconst 5, 1) := by decide +kernel
theorem dL_offers_124 : decode cL_offers 124 = .ok (.iload 10, 2) := by decide +kernel
theorem dL_offers_126 : decode cL_offers 126 = .ok (.imul, 1) := by decide +kernel
theorem dL_offers_127 : decode cL_offers 127 = .ok (.iconst 3, 1) := by decide +kernel
theorem dL_offers_128 : decode cL_offers 128 = .ok (.iadd, 1) := by decide +kernel
theorem dL_offers_129 : decode cL_offers 129 = .ok (.iaload, 1) := by decide +kernel
theorem dL_offers_130 : decode cL_offers 130 = .ok (.if_icmp .lt 8, 3) := by decide +kernel
theorem dL_offers_133 : decode cL_offers 133 = .ok (.iload 11, 2) := by decide +kernel
theorem dL_offers_135 : decode cL_offers 135 = .ok (.goto 5, 3) := by decide +kernel
theorem dL_offers_138 : decode cL_offers 138 = .ok (.iload 10, 2) := by decide +kernel
theorem dL_offers_140 : decode cL_offers 140 = .ok (.istore 10, 2) := by decide +kernel
theorem dL_offers_142 : decode cL_offers 142 = .ok (.iinc 11 (-1), 3) := by decide +kernel
theorem dL_offers_145 : decode cL_offers 145 = .ok (.goto (-103), 3) := by decide +kernel
theorem dL_offers_148 : decode cL_offers 148 = .ok (.iload 10, 2) := by decide +kernel
theorem dL_offers_150 : decode cL_offers 150 = .ok (.ifCond .lt 49, 3) := by decide +kernel
theorem dL_offers_153 : decode cL_offers 153 = .ok (.iload 6, 2) := by decide +kernel
theorem dL_offers_155 : decode cL_offers 155 = .ok (.aload_n 2, 1) := by decide +kernel
theorem dL_offers_156 : decode cL_offers 156 = .ok (.iconst 5, 1) := by decide +kernel
theorem dL_offers_157 : decode cL_offers 157 = .ok (.iload 10, 2) := by decide +kernel
theorem dL_offers_159 : decode cL_offers 159 = .ok (.imul, 1) := by decide +kernel
theorem dL_offers_160 : decode cL_offers 160 = .ok (.iconst 1, 1) := by decide +kernel
theorem dL_offers_161 : decode cL_offers 161 = .ok (.iadd, 1) := by decide +kernel
theorem dL_offers_162 : decode cL_offers 162 = .ok (.iaload, 1) := by decide +kernel
theorem dL_offers_163 : decode cL_offers 163 = .ok (.isub, 1) := by decide +kernel
theorem dL_offers_164 : decode cL_offers 164 = .ok (.istore 6, 2) := by decide +kernel
theorem dL_offers_166 : decode cL_offers 166 = .ok (.iload 7, 2) := by decide +kernel
theorem dL_offers_168 : decode cL_offers 168 = .ok (.aload_n 2, 1) := by decide +kernel
theorem dL_offers_169 : decode cL_offers 169 = .ok (.iconst 5, 1) := by decide +kernel
theorem dL_offers_170 : decode cL_offers 170 = .ok (.iload 10, 2) := by decide +kernel
theorem dL_offers_172 : decode cL_offers 172 = .ok (.imul, 1) := by decide +kernel
theorem dL_offers_173 : decode cL_offers 173 = .ok (.iconst 2, 1) := by decide +kernel
theorem dL_offers_174 : decode cL_offers 174 = .ok (.iadd, 1) := by decide +kernel
theorem dL_offers_175 : decode cL_offers 175 = .ok (.iaload, 1) := by decide +kernel
theorem dL_offers_176 : decode cL_offers 176 = .ok (.isub, 1) := by decide +kernel
theorem dL_offers_177 : decode cL_offers 177 = .ok (.istore 7, 2) := by decide +kernel
theorem dL_offers_179 : decode cL_offers 179 = .ok (.iload 8, 2) := by decide +kernel
theorem dL_offers_181 : decode cL_offers 181 = .ok (.aload_n 2, 1) := by decide +kernel
theorem dL_offers_182 : decode cL_offers 182 = .ok (.iconst 5, 1) := by decide +kernel
theorem dL_offers_183 : decode cL_offers 183 = .ok (.iload 10, 2) := by decide +kernel
theorem dL_offers_185 : decode cL_offers 185 = .ok (.imul, 1) := by decide +kernel
theorem dL_offers_186 : decode cL_offers 186 = .ok (.iconst 3, 1) := by decide +kernel
theorem dL_offers_187 : decode cL_offers 187 = .ok (.iadd, 1) := by decide +kernel
theorem dL_offers_188 : decode cL_offers 188 = .ok (.iaload, 1) := by decide +kernel
theorem dL_offers_189 : decode cL_offers 189 = .ok (.iadd, 1) := by decide +kernel
theorem dL_offers_190 : decode cL_offers 190 = .ok (.istore 8, 2) := by decide +kernel
theorem dL_offers_192 : decode cL_offers 192 = .ok (.aload_n 0, 1) := by decide +kernel
theorem dL_offers_193 : decode cL_offers 193 = .ok (.aload_n 2, 1) := by decide +kernel
theorem dL_offers_194 : decode cL_offers 194 = .ok (.iload 10, 2) := by decide +kernel
theorem dL_offers_196 : decode cL_offers 196 = .ok (.invokestatic 27, 3) := by decide +kernel
theorem dL_offers_199 : decode cL_offers 199 = .ok (.iinc 9 1, 3) := by decide +kernel
theorem dL_offers_202 : decode cL_offers 202 = .ok (.goto (-178), 3) := by decide +kernel
theorem dL_offers_205 : decode cL_offers 205 = .ok (.iload 8, 2) := by decide +kernel
theorem dL_offers_207 : decode cL_offers 207 = .ok (.ireturn, 1) := by decide +kernel
theorem dL_away_0 : decode cL_away 0 = .ok (.iconst 5, 1) := by decide +kernel
theorem dL_away_1 : decode cL_away 1 = .ok (.iload_n 2, 1) := by decide +kernel
theorem dL_away_2 : decode cL_away 2 = .ok (.imul, 1) := by decide +kernel
theorem dL_away_3 : decode cL_away 3 = .ok (.istore_n 3, 1) := by decide +kernel
theorem dL_away_4 : decode cL_away 4 = .ok (.iload_n 3, 1) := by decide +kernel
theorem dL_away_5 : decode cL_away 5 = .ok (.bipush 45, 2) := by decide +kernel
theorem dL_away_7 : decode cL_away 7 = .ok (.if_icmp .ge 17, 3) := by decide +kernel
theorem dL_away_10 : decode cL_away 10 = .ok (.aload_n 1, 1) := by decide +kernel
theorem dL_away_11 : decode cL_away 11 = .ok (.iload_n 3, 1) := by decide +kernel
theorem dL_away_12 : decode cL_away 12 = .ok (.aload_n 1, 1) := by decide +kernel
theorem dL_away_13 : decode cL_away 13 = .ok (.iload_n 3, 1) := by decide +kernel
theorem dL_away_14 : decode cL_away 14 = .ok (.iconst 5, 1) := by decide +kernel
theorem dL_away_15 : decode cL_away 15 = .ok (.iadd, 1) := by decide +kernel
theorem dL_away_16 : decode cL_away 16 = .ok (.iaload, 1) := by decide +kernel
theorem dL_away_17 : decode cL_away 17 = .ok (.iastore, 1) := by decide +kernel
theorem dL_away_18 : decode cL_away 18 = .ok (.iinc 3 1, 3) := by decide +kernel
theorem dL_away_21 : decode cL_away 21 = .ok (.goto (-17), 3) := by decide +kernel
theorem dL_away_24 : decode cL_away 24 = .ok (.aload_n 0, 1) := by decide +kernel
theorem dL_away_25 : decode cL_away 25 = .ok (.bipush 6, 2) := by decide +kernel
theorem dL_away_27 : decode cL_away 27 = .ok (.dup2, 1) := by decide +kernel
theorem dL_away_28 : decode cL_away 28 = .ok (.iaload, 1) := by decide +kernel
theorem dL_away_29 : decode cL_away 29 = .ok (.iconst 1, 1) := by decide +kernel
theorem dL_away_30 : decode cL_away 30 = .ok (.isub, 1) := by decide +kernel
theorem dL_away_31 : decode cL_away 31 = .ok (.iastore, 1) := by decide +kernel
theorem dL_away_32 : decode cL_away 32 = .ok (.return_, 1) := by decide +kernel
theorem dL_hour_0 : decode cL_hour 0 = .ok (.iconst 0, 1) := by decide +kernel
theorem dL_hour_1 : decode cL_hour 1 = .ok (.istore 6, 2) := by decide +kernel
theorem dL_hour_3 : decode cL_hour 3 = .ok (.aload_n 0, 1) := by decide +kernel
theorem dL_hour_4 : decode cL_hour 4 = .ok (.iconst 5, 1) := by decide +kernel
theorem dL_hour_5 : decode cL_hour 5 = .ok (.dup2, 1) := by decide +kernel
theorem dL_hour_6 : decode cL_hour 6 = .ok (.iaload, 1) := by decide +kernel
theorem dL_hour_7 : decode cL_hour 7 = .ok (.iconst 1, 1) := by decide +kernel
theorem dL_hour_8 : decode cL_hour 8 = .ok (.iadd, 1) := by decide +kernel
theorem dL_hour_9 : decode cL_hour 9 = .ok (.iastore, 1) := by decide +kernel
theorem dL_hour_10 : decode cL_hour 10 = .ok (.iconst 0, 1) := by decide +kernel
theorem dL_hour_11 : decode cL_hour 11 = .ok (.istore 7, 2) := by decide +kernel
theorem dL_hour_13 : decode cL_hour 13 = .ok (.iload 7, 2) := by decide +kernel
theorem dL_hour_15 : decode cL_hour 15 = .ok (.aload_n 0, 1) := by decide +kernel
theorem dL_hour_16 : decode cL_hour 16 = .ok (.iconst 4, 1) := by decide +kernel
theorem dL_hour_17 : decode cL_hour 17 = .ok (.iaload, 1) := by decide +kernel
theorem dL_hour_18 : decode cL_hour 18 = .ok (.if_icmp .ge 337, 3) := by decide +kernel
theorem dL_hour_21 : decode cL_hour 21 = .ok (.bipush 8, 2) := by decide +kernel
theorem dL_hour_23 : decode cL_hour 23 = .ok (.iload 7, 2) := by decide +kernel
theorem dL_hour_25 : decode cL_hour 25 = .ok (.imul, 1) := by decide +kernel
theorem dL_hour_26 : decode cL_hour 26 = .ok (.istore 8, 2) := by decide +kernel
theorem dL_hour_28 : decode cL_hour 28 = .ok (.aload 4, 2) := by decide +kernel
theorem dL_hour_30 : decode cL_hour 30 = .ok (.iload 8, 2) := by decide +kernel
theorem dL_hour_32 : decode cL_hour 32 = .ok (.iconst 2, 1) := by decide +kernel
theorem dL_hour_33 : decode cL_hour 33 = .ok (.iadd, 1) := by decide +kernel
theorem dL_hour_34 : decode cL_hour 34 = .ok (.iaload, 1) := by decide +kernel
theorem dL_hour_35 : decode cL_hour 35 = .ok (.iconst 2, 1) := by decide +kernel
theorem dL_hour_36 : decode cL_hour 36 = .ok (.if_icmp .ne 63, 3) := by decide +kernel
theorem dL_hour_39 : decode cL_hour 39 = .ok (.aload 4, 2) := by decide +kernel
theorem dL_hour_41 : decode cL_hour 41 = .ok (.iload 8, 2) := by decide +kernel
theorem dL_hour_43 : decode cL_hour 43 = .ok (.iconst 4, 1) := by decide +kernel
theorem dL_hour_44 : decode cL_hour 44 = .ok (.iadd, 1) := by decide +kernel
theorem dL_hour_45 : decode cL_hour 45 = .ok (.iaload, 1) := by decide +kernel
theorem dL_hour_46 : decode cL_hour 46 = .ok (.aload_n 0, 1) := by decide +kernel
theorem dL_hour_47 : decode cL_hour 47 = .ok (.iconst 5, 1) := by decide +kernel
theorem dL_hour_48 : decode cL_hour 48 = .ok (.iaload, 1) := by decide +kernel
theorem dL_hour_49 : decode cL_hour 49 = .ok (.if_icmp .ne 50, 3) := by decide +kernel
theorem dL_hour_52 : decode cL_hour 52 = .ok (.aload 4, 2) := by decide +kernel
theorem dL_hour_54 : decode cL_hour 54 = .ok (.iload 8, 2) := by decide +kernel
theorem dL_hour_56 : decode cL_hour 56 = .ok (.iconst 2, 1) := by decide +kernel
theorem dL_hour_57 : decode cL_hour 57 = .ok (.iadd, 1) := by decide +kernel
theorem dL_hour_58 : decode cL_hour 58 = .ok (.iconst 0, 1) := by decide +kernel
theorem dL_hour_59 : decode cL_hour 59 = .ok (.iastore, 1) := by decide +kernel
theorem dL_hour_60 : decode cL_hour 60 = .ok (.aload 4, 2) := by decide +kernel
theorem dL_hour_62 : decode cL_hour 62 = .ok (.iload 8, 2) := by decide +kernel
theorem dL_hour_64 : decode cL_hour 64 = .ok (.bipush 7, 2) := by decide +kernel
theorem dL_hour_66 : decode cL_hour 66 = .ok (.iadd, 1) := by decide +kernel
theorem dL_hour_67 : decode cL_hour 67 = .ok (.dup2, 1) := by decide +kernel
theorem dL_hour_68 : decode cL_hour 68 = .ok (.iaload, 1) := by decide +kernel
theorem dL_hour_69 : decode cL_hour 69 = .ok (.iconst 1, 1) := by decide +kernel
theorem dL_hour_70 : decode cL_hour 70 = .ok (.iadd, 1) := by decide +kernel
theorem dL_hour_71 : decode cL_hour 71 = .ok (.iastore, 1) := by decide +kernel
theorem dL_hour_72 : decode cL_hour 72 = .ok (.aload_n 0, 1) := by decide +kernel
theorem dL_hour_73 : decode cL_hour 73 = .ok (.bipush 10, 2) := by decide +kernel
theorem dL_hour_75 : decode cL_hour 75 = .ok (.dup2, 1) := by decide +kernel
theorem dL_hour_76 : decode cL_hour 76 = .ok (.iaload, 1) := by decide +kernel
theorem dL_hour_77 : decode cL_hour 77 = .ok (.aload 4, 2) := by decide +kernel
theorem dL_hour_79 : decode cL_hour 79 = .ok (.iload 8, 2) := by decide +kernel
theorem dL_hour_81 : decode cL_hour 81 = .ok (.bipush 6, 2) := by decide +kernel
theorem dL_hour_83 : decode cL_hour 83 = .ok (.iadd, 1) := by decide +kernel
theorem dL_hour_84 : decode cL_hour 84 = .ok (.iaload, 1) := by decide +kernel
theorem dL_hour_85 : decode cL_hour 85 = .ok (.iadd, 1) := by decide +kernel
theorem dL_hour_86 : decode cL_hour 86 = .ok (.iastore, 1) := by decide +kernel
theorem dL_hour_87 : decode cL_hour 87 = .ok (.aload 4, 2) := by decide +kernel
theorem dL_hour_89 : decode cL_hour 89 = .ok (.iload 8, 2) := by decide +kernel
theorem dL_hour_91 : decode cL_hour 91 = .ok (.bipush 6, 2) := by decide +kernel
theorem dL_hour_93 : decode cL_hour 93 = .ok (.iadd, 1) := by decide +kernel
theorem dL_hour_94 : decode cL_hour 94 = .ok (.iconst 0, 1) := by decide +kernel
theorem dL_hour_95 : decode cL_hour 95 = .ok (.iastore, 1) := by decide +kernel
theorem dL_hour_96 : decode cL_hour 96 = .ok (.goto 253, 3) := by decide +kernel
theorem dL_hour_99 : decode cL_hour 99 = .ok (.aload 4, 2) := by decide +kernel
theorem dL_hour_101 : decode cL_hour 101 = .ok (.iload 8, 2) := by decide +kernel
theorem dL_hour_103 : decode cL_hour 103 = .ok (.iconst 2, 1) := by decide +kernel
theorem dL_hour_104 : decode cL_hour 104 = .ok (.iadd, 1) := by decide +kernel
theorem dL_hour_105 : decode cL_hour 105 = .ok (.iaload, 1) := by decide +kernel
theorem dL_hour_106 : decode cL_hour 106 = .ok (.iconst 1, 1) := by decide +kernel
theorem dL_hour_107 : decode cL_hour 107 = .ok (.if_icmp .ne 242, 3) := by decide +kernel
theorem dL_hour_110 : decode cL_hour 110 = .ok (.aload 4, 2) := by decide +kernel
theorem dL_hour_112 : decode cL_hour 112 = .ok (.iload 8, 2) := by decide +kernel
theorem dL_hour_114 : decode cL_hour 114 = .ok (.iconst 4, 1) := by decide +kernel
theorem dL_hour_115 : decode cL_hour 115 = .ok (.iadd, 1) := by decide +kernel
theorem dL_hour_116 : decode cL_hour 116 = .ok (.iaload, 1) := by decide +kernel
theorem dL_hour_117 : decode cL_hour 117 = .ok (.aload_n 0, 1) := by decide +kernel
theorem dL_hour_118 : decode cL_hour 118 = .ok (.iconst 5, 1) := by decide +kernel
theorem dL_hour_119 : decode cL_hour 119 = .ok (.iaload, 1) := by decide +kernel
theorem dL_hour_120 : decode cL_hour 120 = .ok (.if_icmp .ne 229, 3) := by decide +kernel
theorem dL_hour_123 : decode cL_hour 123 = .ok (.iconst 0, 1) := by decide +kernel
theorem dL_hour_124 : decode cL_hour 124 = .ok (.istore 9, 2) := by decide +kernel
theorem dL_hour_126 : decode cL_hour 126 = .ok (.iload 9, 2) := by decide +kernel
theorem dL_hour_128 : decode cL_hour 128 = .ok (.aload_n 0, 1) := by decide +kernel
theorem dL_hour_129 : decode cL_hour 129 = .ok (.iconst 3, 1) := by decide +kernel
theorem dL_hour_130 : decode cL_hour 130 = .ok (.iaload, 1) := by decide +kernel
theorem dL_hour_131 : decode cL_hour 131 = .ok (.if_icmp .ge 164, 3) := by decide +kernel
theorem dL_hour_134 : decode cL_hour 134 = .ok (.aload_n 2, 1) := by decide +kernel
theorem dL_hour_135 : decode cL_hour 135 = .ok (.iconst 4, 1) := by decide +kernel
theorem dL_hour_136 : decode cL_hour 136 = .ok (.iload 9, 2) := by decide +kernel
theorem dL_hour_138 : decode cL_hour 138 = .ok (.imul, 1) := by decide +kernel
theorem dL_hour_139 : decode cL_hour 139 = .ok (.iconst 2, 1) := by decide +kernel
theorem dL_hour_140 : decode cL_hour 140 = .ok (.iadd, 1) := by decide +kernel
theorem dL_hour_141 : decode cL_hour 141 = .ok (.iaload, 1) := by decide +kernel
theorem dL_hour_142 : decode cL_hour 142 = .ok (.iconst 2, 1) := by decide +kernel
theorem dL_hour_143 : decode cL_hour 143 = .ok (.if_icmp .ne 146, 3) := by decide +kernel
theorem dL_hour_146 : decode cL_hour 146 = .ok (.aload_n 2, 1) := by decide +kernel
theorem dL_hour_147 : decode cL_hour 147 = .ok (.iconst 4, 1) := by decide +kernel
theorem dL_hour_148 : decode cL_hour 148 = .ok (.iload 9, 2) := by decide +kernel
theorem dL_hour_150 : decode cL_hour 150 = .ok (.imul, 1) := by decide +kernel
theorem dL_hour_151 : decode cL_hour 151 = .ok (.iconst 3, 1) := by decide +kernel
theorem dL_hour_152 : decode cL_hour 152 = .ok (.iadd, 1) := by decide +kernel
theorem dL_hour_153 : decode cL_hour 153 = .ok (.iaload, 1) := by decide +kernel
theorem dL_hour_154 : decode cL_hour 154 = .ok (.iload 7, 2) := by decide +kernel
theorem dL_hour_156 : decode cL_hour 156 = .ok (.if_icmp .ne 133, 3) := by decide +kernel
theorem dL_hour_159 : decode cL_hour 159 = .ok (.aload_n 2, 1) := by decide +kernel
theorem dL_hour_160 : decode cL_hour 160 = .ok (.iconst 4, 1) := by decide +kernel
theorem dL_hour_161 : decode cL_hour 161 = .ok (.iload 9, 2) := by decide +kernel
theorem dL_hour_163 : decode cL_hour 163 = .ok (.imul, 1) := by decide +kernel
theorem dL_hour_164 : decode cL_hour 164 = .ok (.iconst 1, 1) := by decide +kernel
theorem dL_hour_165 : decode cL_hour 165 = .ok (.iadd, 1) := by decide +kernel
theorem dL_hour_166 : decode cL_hour 166 = .ok (.iaload, 1) := by decide +kernel
theorem dL_hour_167 : decode cL_hour 167 = .ok (.aload_n 0, 1) := by decide +kernel
theorem dL_hour_168 : decode cL_hour 168 = .ok (.iconst 5, 1) := by decide +kernel
theorem dL_hour_169 : decode cL_hour 169 = .ok (.iaload, 1) := by decide +kernel
theorem dL_hour_170 : decode cL_hour 170 = .ok (.if_icmp .ge 7, 3) := by decide +kernel
theorem dL_hour_173 : decode cL_hour 173 = .ok (.iconst 1, 1) := by decide +kernel
theorem dL_hour_174 : decode cL_hour 174 = .ok (.goto 4, 3) := by decide +kernel
theorem dL_hour_177 : decode cL_hour 177 = .ok (.iconst 0, 1) := by decide +kernel
theorem dL_hour_178 : decode cL_hour 178 = .ok (.istore 10, 2) := by decide +kernel
theorem dL_hour_180 : decode cL_hour 180 = .ok (.aload_n 2, 1) := by decide +kernel
theorem dL_hour_181 : decode cL_hour 181 = .ok (.iconst 4, 1) := by decide +kernel
theorem dL_hour_182 : decode cL_hour 182 = .ok (.iload 9, 2) := by decide +kernel
theorem dL_hour_184 : decode cL_hour 184 = .ok (.imul, 1) := by decide +kernel
theorem dL_hour_185 : decode cL_hour 185 = .ok (.iconst 2, 1) := by decide +kernel
theorem dL_hour_186 : decode cL_hour 186 = .ok (.iadd, 1) := by decide +kernel
theorem dL_hour_187 : decode cL_hour 187 = .ok (.iload 10, 2) := by decide +kernel
theorem dL_hour_189 : decode cL_hour 189 = .ok (.ifCond .eq 7, 3) := by decide +kernel
theorem dL_hour_192 : decode cL_hour 192 = .ok (.iconst 4, 1) := by decide +kernel
theorem dL_hour_193 : decode cL_hour 193 = .ok (.goto 4, 3) := by decide +kernel
theorem dL_hour_196 : decode cL_hour 196 = .ok (.iconst 3, 1) := by decide +kernel
theorem dL_hour_197 : decode cL_hour 197 = .ok (.iastore, 1) := by decide +kernel
theorem dL_hour_198 : decode cL_hour 198 = .ok (.aload_n 3, 1) := by decide +kernel
theorem dL_hour_199 : decode cL_hour 199 = .ok (.iconst 4, 1) := by decide +kernel
theorem dL_hour_200 : decode cL_hour 200 = .ok (.iload 9, 2) := by decide +kernel
theorem dL_hour_202 : decode cL_hour 202 = .ok (.imul, 1) := by decide +kernel
theorem dL_hour_203 : decode cL_hour 203 = .ok (.aload_n 0, 1) := by decide +kernel
theorem dL_hour_204 : decode cL_hour 204 = .ok (.iconst 5, 1) := by decide +kernel
theorem dL_hour_205 : decode cL_hour 205 = .ok (.iaload, 1) := by decide +kernel
theorem dL_hour_206 : decode cL_hour 206 = .ok (.iastore, 1) := by decide +kernel
theorem dL_hour_207 : decode cL_hour 207 = .ok (.aload_n 0, 1) := by decide +kernel
theorem dL_hour_208 : decode cL_hour 208 = .ok (.iload 10, 2) := by decide +kernel
theorem dL_hour_210 : decode cL_hour 210 = .ok (.ifCond .eq 8, 3) := by decide +kernel
theorem dL_hour_213 : decode cL_hour 213 = .ok (.bipush 8, 2) := by decide +kernel
theorem dL_hour_215 : decode cL_hour 215 = .ok (.goto 5, 3) := by decide +kernel
theorem dL_hour_218 : decode cL_hour 218 = .ok (.bipush 7, 2) := by decide +kernel
theorem dL_hour_220 : decode cL_hour 220 = .ok (.dup2, 1) := by decide +kernel
theorem dL_hour_221 : decode cL_hour 221 = .ok (.iaload, 1) := by decide +kernel
theorem dL_hour_222 : decode cL_hour 222 = .ok (.iconst 1, 1) := by decide +kernel
theorem dL_hour_223 : decode cL_hour 223 = .ok (.iadd, 1) := by decide +kernel
theorem dL_hour_224 : decode cL_hour 224 = .ok (.iastore, 1) := by decide +kernel
theorem dL_hour_225 : decode cL_hour 225 = .ok (.aload_n 0, 1) := by decide +kernel
theorem dL_hour_226 : decode cL_hour 226 = .ok (.bipush 9, 2) := by decide +kernel
theorem dL_hour_228 : decode cL_hour 228 = .ok (.dup2, 1) := by decide +kernel
theorem dL_hour_229 : decode cL_hour 229 = .ok (.iaload, 1) := by decide +kernel
theorem dL_hour_230 : decode cL_hour 230 = .ok (.iload 10, 2) := by decide +kernel
theorem dL_hour_232 : decode cL_hour 232 = .ok (.ifCond .eq 7, 3) := by decide +kernel
theorem dL_hour_235 : decode cL_hour 235 = .ok (.iconst 0, 1) := by decide +kernel
theorem dL_hour_236 : decode cL_hour 236 = .ok (.goto 11, 3) := by decide +kernel
theorem dL_hour_239 : decode cL_hour 239 = .ok (.aload_n 1, 1) := by decide +kernel
theorem dL_hour_240 : decode cL_hour 240 = .ok (.iconst 4, 1) := by decide +kernel
theorem dL_hour_241 : decode cL_hour 241 = .ok (.iload 9, 2) := by decide +kernel
theorem dL_hour_243 : decode cL_hour 243 = .ok (.imul, 1) := by decide +kernel
theorem dL_hour_244 : decode cL_hour 244 = .ok (.iconst 3, 1) := by decide +kernel
theorem dL_hour_245 : decode cL_hour 245 = .ok (.iadd, 1) := by decide +kernel
theorem dL_hour_246 : decode cL_hour 246 = .ok (.iaload, 1) := by decide +kernel
theorem dL_hour_247 : decode cL_hour 247 = .ok (.iadd, 1) := by decide +kernel
theorem dL_hour_248 : decode cL_hour 248 = .ok (.iastore, 1) := by decide +kernel
theorem dL_hour_249 : decode cL_hour 249 = .ok (.aload_n 0, 1) := by decide +kernel
theorem dL_hour_250 : decode cL_hour 250 = .ok (.bipush 12, 2) := by decide +kernel
theorem dL_hour_252 : decode cL_hour 252 = .ok (.dup2, 1) := by decide +kernel
theorem dL_hour_253 : decode cL_hour 253 = .ok (.iaload, 1) := by decide +kernel
theorem dL_hour_254 : decode cL_hour 254 = .ok (.aload_n 2, 1) := by decide +kernel
theorem dL_hour_255 : decode cL_hour 255 = .ok (.iconst 4, 1) := by decide +kernel
theorem dL_hour_256 : decode cL_hour 256 = .ok (.iload 9, 2) := by decide +kernel
theorem dL_hour_258 : decode cL_hour 258 = .ok (.imul, 1) := by decide +kernel
theorem dL_hour_259 : decode cL_hour 259 = .ok (.iaload, 1) := by decide +kernel
theorem dL_hour_260 : decode cL_hour 260 = .ok (.aload_n 0, 1) := by decide +kernel
theorem dL_hour_261 : decode cL_hour 261 = .ok (.iconst 5, 1) := by decide +kernel
theorem dL_hour_262 : decode cL_hour 262 = .ok (.iaload, 1) := by decide +kernel
theorem dL_hour_263 : decode cL_hour 263 = .ok (.if_icmp .le 20, 3) := by decide +kernel
theorem dL_hour_266 : decode cL_hour 266 = .ok (.aload_n 0, 1) := by decide +kernel
theorem dL_hour_267 : decode cL_hour 267 = .ok (.iconst 2, 1) := by decide +kernel
theorem dL_hour_268 : decode cL_hour 268 = .ok (.iaload, 1) := by decide +kernel
theorem dL_hour_269 : decode cL_hour 269 = .ok (.aload_n 2, 1) := by decide +kernel
theorem dL_hour_270 : decode cL_hour 270 = .ok (.iconst 4, 1) := by decide +kernel
theorem dL_hour_271 : decode cL_hour 271 = .ok (.iload 9, 2) := by decide +kernel
theorem dL_hour_273 : decode cL_hour 273 = .ok (.imul, 1) := by decide +kernel
theorem dL_hour_274 : decode cL_hour 274 = .ok (.iaload, 1) := by decide +kernel
theorem dL_hour_275 : decode cL_hour 275 = .ok (.aload_n 0, 1) := by decide +kernel
theorem dL_hour_276 : decode cL_hour 276 = .ok (.iconst 5, 1) := by decide +kernel
theorem dL_hour_277 : decode cL_hour 277 = .ok (.iaload, 1) := by decide +kernel
theorem dL_hour_278 : decode cL_hour 278 = .ok (.isub, 1) := by decide +kernel
theorem dL_hour_279 : decode cL_hour 279 = .ok (.imul, 1) := by decide +kernel
theorem dL_hour_280 : decode cL_hour 280 = .ok (.goto 4, 3) := by decide +kernel
theorem dL_hour_283 : decode cL_hour 283 = .ok (.iconst 0, 1) := by decide +kernel
theorem dL_hour_284 : decode cL_hour 284 = .ok (.iadd, 1) := by decide +kernel
theorem dL_hour_285 : decode cL_hour 285 = .ok (.iastore, 1) := by decide +kernel
theorem dL_hour_286 : decode cL_hour 286 = .ok (.iinc 6 1, 3) := by decide +kernel
theorem dL_hour_289 : decode cL_hour 289 = .ok (.iinc 9 1, 3) := by decide +kernel
theorem dL_hour_292 : decode cL_hour 292 = .ok (.goto (-166), 3) := by decide +kernel
theorem dL_hour_295 : decode cL_hour 295 = .ok (.aload 4, 2) := by decide +kernel
theorem dL_hour_297 : decode cL_hour 297 = .ok (.iload 8, 2) := by decide +kernel
theorem dL_hour_299 : decode cL_hour 299 = .ok (.bipush 6, 2) := by decide +kernel
theorem dL_hour_301 : decode cL_hour 301 = .ok (.iadd, 1) := by decide +kernel
theorem dL_hour_302 : decode cL_hour 302 = .ok (.aload_n 0, 1) := by decide +kernel
theorem dL_hour_303 : decode cL_hour 303 = .ok (.aload 4, 2) := by decide +kernel
theorem dL_hour_305 : decode cL_hour 305 = .ok (.aload 5, 2) := by decide +kernel
theorem dL_hour_307 : decode cL_hour 307 = .ok (.iload 7, 2) := by decide +kernel
theorem dL_hour_309 : decode cL_hour 309 = .ok (.aload 4, 2) := by decide +kernel
theorem dL_hour_311 : decode cL_hour 311 = .ok (.iload 8, 2) := by decide +kernel
theorem dL_hour_313 : decode cL_hour 313 = .ok (.iconst 3, 1) := by decide +kernel
theorem dL_hour_314 : decode cL_hour 314 = .ok (.iadd, 1) := by decide +kernel
theorem dL_hour_315 : decode cL_hour 315 = .ok (.iaload, 1) := by decide +kernel
theorem dL_hour_316 : decode cL_hour 316 = .ok (.aload_n 0, 1) := by decide +kernel
theorem dL_hour_317 : decode cL_hour 317 = .ok (.iconst 5, 1) := by decide +kernel
theorem dL_hour_318 : decode cL_hour 318 = .ok (.iaload, 1) := by decide +kernel
theorem dL_hour_319 : decode cL_hour 319 = .ok (.invokestatic 31, 3) := by decide +kernel
theorem dL_hour_322 : decode cL_hour 322 = .ok (.iastore, 1) := by decide +kernel
theorem dL_hour_323 : decode cL_hour 323 = .ok (.aload 4, 2) := by decide +kernel
theorem dL_hour_325 : decode cL_hour 325 = .ok (.iload 8, 2) := by decide +kernel
theorem dL_hour_327 : decode cL_hour 327 = .ok (.iconst 2, 1) := by decide +kernel
theorem dL_hour_328 : decode cL_hour 328 = .ok (.iadd, 1) := by decide +kernel
theorem dL_hour_329 : decode cL_hour 329 = .ok (.iconst 2, 1) := by decide +kernel
theorem dL_hour_330 : decode cL_hour 330 = .ok (.iastore, 1) := by decide +kernel
theorem dL_hour_331 : decode cL_hour 331 = .ok (.aload 4, 2) := by decide +kernel
theorem dL_hour_333 : decode cL_hour 333 = .ok (.iload 8, 2) := by decide +kernel
theorem dL_hour_335 : decode cL_hour 335 = .ok (.iconst 4, 1) := by decide +kernel
theorem dL_hour_336 : decode cL_hour 336 = .ok (.iadd, 1) := by decide +kernel
theorem dL_hour_337 : decode cL_hour 337 = .ok (.aload_n 0, 1) := by decide +kernel
theorem dL_hour_338 : decode cL_hour 338 = .ok (.iconst 5, 1) := by decide +kernel
theorem dL_hour_339 : decode cL_hour 339 = .ok (.iaload, 1) := by decide +kernel
theorem dL_hour_340 : decode cL_hour 340 = .ok (.aload 4, 2) := by decide +kernel
theorem dL_hour_342 : decode cL_hour 342 = .ok (.iload 8, 2) := by decide +kernel
theorem dL_hour_344 : decode cL_hour 344 = .ok (.iconst 5, 1) := by decide +kernel
theorem dL_hour_345 : decode cL_hour 345 = .ok (.iadd, 1) := by decide +kernel
theorem dL_hour_346 : decode cL_hour 346 = .ok (.iaload, 1) := by decide +kernel
theorem dL_hour_347 : decode cL_hour 347 = .ok (.iadd, 1) := by decide +kernel
theorem dL_hour_348 : decode cL_hour 348 = .ok (.iastore, 1) := by decide +kernel
theorem dL_hour_349 : decode cL_hour 349 = .ok (.iinc 7 1, 3) := by decide +kernel
theorem dL_hour_352 : decode cL_hour 352 = .ok (.goto (-339), 3) := by decide +kernel
theorem dL_hour_355 : decode cL_hour 355 = .ok (.bipush 9, 2) := by decide +kernel
theorem dL_hour_357 : decode cL_hour 357 = .ok (.istore 7, 2) := by decide +kernel
theorem dL_hour_359 : decode cL_hour 359 = .ok (.iload 7, 2) := by decide +kernel
theorem dL_hour_361 : decode cL_hour 361 = .ok (.ifCond .lt 41, 3) := by decide +kernel
theorem dL_hour_364 : decode cL_hour 364 = .ok (.iload 7, 2) := by decide +kernel
theorem dL_hour_366 : decode cL_hour 366 = .ok (.aload_n 0, 1) := by decide +kernel
theorem dL_hour_367 : decode cL_hour 367 = .ok (.bipush 6, 2) := by decide +kernel
theorem dL_hour_369 : decode cL_hour 369 = .ok (.iaload, 1) := by decide +kernel
theorem dL_hour_370 : decode cL_hour 370 = .ok (.if_icmp .ge 26, 3) := by decide +kernel
theorem dL_hour_373 : decode cL_hour 373 = .ok (.aload 5, 2) := by decide +kernel
theorem dL_hour_375 : decode cL_hour 375 = .ok (.iconst 5, 1) := by decide +kernel
theorem dL_hour_376 : decode cL_hour 376 = .ok (.iload 7, 2) := by decide +kernel
theorem dL_hour_378 : decode cL_hour 378 = .ok (.imul, 1) := by decide +kernel
theorem dL_hour_379 : decode cL_hour 379 = .ok (.iconst 4, 1) := by decide +kernel
theorem dL_hour_380 : decode cL_hour 380 = .ok (.iadd, 1) := by decide +kernel
theorem dL_hour_381 : decode cL_hour 381 = .ok (.iaload, 1) := by decide +kernel
theorem dL_hour_382 : decode cL_hour 382 = .ok (.aload_n 0, 1) := by decide +kernel
theorem dL_hour_383 : decode cL_hour 383 = .ok (.iconst 5, 1) := by decide +kernel
theorem dL_hour_384 : decode cL_hour 384 = .ok (.iaload, 1) := by decide +kernel
theorem dL_hour_385 : decode cL_hour 385 = .ok (.if_icmp .ge 11, 3) := by decide +kernel
theorem dL_hour_388 : decode cL_hour 388 = .ok (.aload_n 0, 1) := by decide +kernel
theorem dL_hour_389 : decode cL_hour 389 = .ok (.aload 5, 2) := by decide +kernel
theorem dL_hour_391 : decode cL_hour 391 = .ok (.iload 7, 2) := by decide +kernel
theorem dL_hour_393 : decode cL_hour 393 = .ok (.invokestatic 27, 3) := by decide +kernel
theorem dL_hour_396 : decode cL_hour 396 = .ok (.iinc 7 (-1), 3) := by decide +kernel
theorem dL_hour_399 : decode cL_hour 399 = .ok (.goto (-40), 3) := by decide +kernel
theorem dL_hour_402 : decode cL_hour 402 = .ok (.iconst 0, 1) := by decide +kernel
theorem dL_hour_403 : decode cL_hour 403 = .ok (.istore 7, 2) := by decide +kernel
theorem dL_hour_405 : decode cL_hour 405 = .ok (.iload 7, 2) := by decide +kernel
theorem dL_hour_407 : decode cL_hour 407 = .ok (.aload_n 0, 1) := by decide +kernel
theorem dL_hour_408 : decode cL_hour 408 = .ok (.iconst 3, 1) := by decide +kernel
theorem dL_hour_409 : decode cL_hour 409 = .ok (.iaload, 1) := by decide +kernel
theorem dL_hour_410 : decode cL_hour 410 = .ok (.if_icmp .ge 64, 3) := by decide +kernel
theorem dL_hour_413 : decode cL_hour 413 = .ok (.aload_n 0, 1) := by decide +kernel
theorem dL_hour_414 : decode cL_hour 414 = .ok (.bipush 11, 2) := by decide +kernel
theorem dL_hour_416 : decode cL_hour 416 = .ok (.dup2, 1) := by decide +kernel
theorem dL_hour_417 : decode cL_hour 417 = .ok (.iaload, 1) := by decide +kernel
theorem dL_hour_418 : decode cL_hour 418 = .ok (.aload_n 2, 1) := by decide +kernel
theorem dL_hour_419 : decode cL_hour 419 = .ok (.iconst 4, 1) := by decide +kernel
theorem dL_hour_420 : decode cL_hour 420 = .ok (.iload 7, 2) := by decide +kernel
theorem dL_hour_422 : decode cL_hour 422 = .ok (.imul, 1) := by decide +kernel
theorem dL_hour_423 : decode cL_hour 423 = .ok (.iconst 2, 1) := by decide +kernel
theorem dL_hour_424 : decode cL_hour 424 = .ok (.iadd, 1) := by decide +kernel
theorem dL_hour_425 : decode cL_hour 425 = .ok (.iaload, 1) := by decide +kernel
theorem dL_hour_426 : decode cL_hour 426 = .ok (.iconst 2, 1) := by decide +kernel
theorem dL_hour_427 : decode cL_hour 427 = .ok (.if_icmp .ge 38, 3) := by decide +kernel
theorem dL_hour_430 : decode cL_hour 430 = .ok (.aload_n 0, 1) := by decide +kernel
theorem dL_hour_431 : decode cL_hour 431 = .ok (.iconst 5, 1) := by decide +kernel
theorem dL_hour_432 : decode cL_hour 432 = .ok (.iaload, 1) := by decide +kernel
theorem dL_hour_433 : decode cL_hour 433 = .ok (.aload_n 3, 1) := by decide +kernel
theorem dL_hour_434 : decode cL_hour 434 = .ok (.iconst 4, 1) := by decide +kernel
theorem dL_hour_435 : decode cL_hour 435 = .ok (.iload 7, 2) := by decide +kernel
theorem dL_hour_437 : decode cL_hour 437 = .ok (.imul, 1) := by decide +kernel
theorem dL_hour_438 : decode cL_hour 438 = .ok (.iconst 2, 1) := by decide +kernel
theorem dL_hour_439 : decode cL_hour 439 = .ok (.iadd, 1) := by decide +kernel
theorem dL_hour_440 : decode cL_hour 440 = .ok (.iaload, 1) := by decide +kernel
theorem dL_hour_441 : decode cL_hour 441 = .ok (.isub, 1) := by decide +kernel
theorem dL_hour_442 : decode cL_hour 442 = .ok (.aload_n 0, 1) := by decide +kernel
theorem dL_hour_443 : decode cL_hour 443 = .ok (.iconst 1, 1) := by decide +kernel
theorem dL_hour_444 : decode cL_hour 444 = .ok (.iaload, 1) := by decide +kernel
theorem dL_hour_445 : decode cL_hour 445 = .ok (.if_icmp .le 20, 3) := by decide +kernel
theorem dL_hour_448 : decode cL_hour 448 = .ok (.aload_n 1, 1) := by decide +kernel
theorem dL_hour_449 : decode cL_hour 449 = .ok (.iconst 4, 1) := by decide +kernel
theorem dL_hour_450 : decode cL_hour 450 = .ok (.iload 7, 2) := by decide +kernel
theorem dL_hour_452 : decode cL_hour 452 = .ok (.imul, 1) := by decide +kernel
theorem dL_hour_453 : decode cL_hour 453 = .ok (.iconst 1, 1) := by decide +kernel
theorem dL_hour_454 : decode cL_hour 454 = .ok (.iadd, 1) := by decide +kernel
theorem dL_hour_455 : decode cL_hour 455 = .ok (.iaload, 1) := by decide +kernel
theorem dL_hour_456 : decode cL_hour 456 = .ok (.bipush 9, 2) := by decide +kernel
theorem dL_hour_458 : decode cL_hour 458 = .ok (.iadd, 1) := by decide +kernel
theorem dL_hour_459 : decode cL_hour 459 = .ok (.bipush 10, 2) := by decide +kernel
theorem dL_hour_461 : decode cL_hour 461 = .ok (.idiv, 1) := by decide +kernel
theorem dL_hour_462 : decode cL_hour 462 = .ok (.goto 4, 3) := by decide +kernel
theorem dL_hour_465 : decode cL_hour 465 = .ok (.iconst 0, 1) := by decide +kernel
theorem dL_hour_466 : decode cL_hour 466 = .ok (.iadd, 1) := by decide +kernel
theorem dL_hour_467 : decode cL_hour 467 = .ok (.iastore, 1) := by decide +kernel
theorem dL_hour_468 : decode cL_hour 468 = .ok (.iinc 7 1, 3) := by decide +kernel
theorem dL_hour_471 : decode cL_hour 471 = .ok (.goto (-66), 3) := by decide +kernel
theorem dL_hour_474 : decode cL_hour 474 = .ok (.iload 6, 2) := by decide +kernel
theorem dL_hour_476 : decode cL_hour 476 = .ok (.ireturn, 1) := by decide +kernel
theorem dL_makes_0 : decode cL_makes 0 = .ok (.iconst 4, 1) := by decide +kernel
theorem dL_makes_1 : decode cL_makes 1 = .ok (.aload_n 0, 1) := by decide +kernel
theorem dL_makes_2 : decode cL_makes 2 = .ok (.iconst 3, 1) := by decide +kernel
theorem dL_makes_3 : decode cL_makes 3 = .ok (.iaload, 1) := by decide +kernel
theorem dL_makes_4 : decode cL_makes 4 = .ok (.imul, 1) := by decide +kernel
theorem dL_makes_5 : decode cL_makes 5 = .ok (.istore 8, 2) := by decide +kernel
theorem dL_makes_7 : decode cL_makes 7 = .ok (.aload_n 1, 1) := by decide +kernel
theorem dL_makes_8 : decode cL_makes 8 = .ok (.iload 8, 2) := by decide +kernel
theorem dL_makes_10 : decode cL_makes 10 = .ok (.iload 4, 2) := by decide +kernel
theorem dL_makes_12 : decode cL_makes 12 = .ok (.iastore, 1) := by decide +kernel
theorem dL_makes_13 : decode cL_makes 13 = .ok (.aload_n 1, 1) := by decide +kernel
theorem dL_makes_14 : decode cL_makes 14 = .ok (.iload 8, 2) := by decide +kernel
theorem dL_makes_16 : decode cL_makes 16 = .ok (.iconst 1, 1) := by decide +kernel
theorem dL_makes_17 : decode cL_makes 17 = .ok (.iadd, 1) := by decide +kernel
theorem dL_makes_18 : decode cL_makes 18 = .ok (.iload 5, 2) := by decide +kernel
theorem dL_makes_20 : decode cL_makes 20 = .ok (.iastore, 1) := by decide +kernel
theorem dL_makes_21 : decode cL_makes 21 = .ok (.aload_n 1, 1) := by decide +kernel
theorem dL_makes_22 : decode cL_makes 22 = .ok (.iload 8, 2) := by decide +kernel
theorem dL_makes_24 : decode cL_makes 24 = .ok (.iconst 2, 1) := by decide +kernel
theorem dL_makes_25 : decode cL_makes 25 = .ok (.iadd, 1) := by decide +kernel
theorem dL_makes_26 : decode cL_makes 26 = .ok (.iload 6, 2) := by decide +kernel
theorem dL_makes_28 : decode cL_makes 28 = .ok (.iastore, 1) := by decide +kernel
theorem dL_makes_29 : decode cL_makes 29 = .ok (.aload_n 1, 1) := by decide +kernel
theorem dL_makes_30 : decode cL_makes 30 = .ok (.iload 8, 2) := by decide +kernel
theorem dL_makes_32 : decode cL_makes 32 = .ok (.iconst 3, 1) := by decide +kernel
theorem dL_makes_33 : decode cL_makes 33 = .ok (.iadd, 1) := by decide +kernel
theorem dL_makes_34 : decode cL_makes 34 = .ok (.iload 7, 2) := by decide +kernel
theorem dL_makes_36 : decode cL_makes 36 = .ok (.iastore, 1) := by decide +kernel
theorem dL_makes_37 : decode cL_makes 37 = .ok (.aload_n 2, 1) := by decide +kernel
theorem dL_makes_38 : decode cL_makes 38 = .ok (.iload 8, 2) := by decide +kernel
theorem dL_makes_40 : decode cL_makes 40 = .ok (.iconst 2, 1) := by decide +kernel
theorem dL_makes_41 : decode cL_makes 41 = .ok (.iadd, 1) := by decide +kernel
theorem dL_makes_42 : decode cL_makes 42 = .ok (.iconst 0, 1) := by decide +kernel
theorem dL_makes_43 : decode cL_makes 43 = .ok (.iastore, 1) := by decide +kernel
theorem dL_makes_44 : decode cL_makes 44 = .ok (.aload_n 2, 1) := by decide +kernel
theorem dL_makes_45 : decode cL_makes 45 = .ok (.iload 8, 2) := by decide +kernel
theorem dL_makes_47 : decode cL_makes 47 = .ok (.iconst 3, 1) := by decide +kernel
theorem dL_makes_48 : decode cL_makes 48 = .ok (.iadd, 1) := by decide +kernel
theorem dL_makes_49 : decode cL_makes 49 = .ok (.iconst (-1), 1) := by decide +kernel
theorem dL_makes_50 : decode cL_makes 50 = .ok (.iastore, 1) := by decide +kernel
theorem dL_makes_51 : decode cL_makes 51 = .ok (.aload_n 3, 1) := by decide +kernel
theorem dL_makes_52 : decode cL_makes 52 = .ok (.iload 8, 2) := by decide +kernel
theorem dL_makes_54 : decode cL_makes 54 = .ok (.iconst (-1), 1) := by decide +kernel
theorem dL_makes_55 : decode cL_makes 55 = .ok (.iastore, 1) := by decide +kernel
theorem dL_makes_56 : decode cL_makes 56 = .ok (.aload_n 3, 1) := by decide +kernel
theorem dL_makes_57 : decode cL_makes 57 = .ok (.iload 8, 2) := by decide +kernel
theorem dL_makes_59 : decode cL_makes 59 = .ok (.iconst 1, 1) := by decide +kernel
theorem dL_makes_60 : decode cL_makes 60 = .ok (.iadd, 1) := by decide +kernel
theorem dL_makes_61 : decode cL_makes 61 = .ok (.aload_n 0, 1) := by decide +kernel
theorem dL_makes_62 : decode cL_makes 62 = .ok (.iconst 3, 1) := by decide +kernel
theorem dL_makes_63 : decode cL_makes 63 = .ok (.iaload, 1) := by decide +kernel
theorem dL_makes_64 : decode cL_makes 64 = .ok (.iastore, 1) := by decide +kernel
theorem dL_makes_65 : decode cL_makes 65 = .ok (.aload_n 3, 1) := by decide +kernel
theorem dL_makes_66 : decode cL_makes 66 = .ok (.iload 8, 2) := by decide +kernel
theorem dL_makes_68 : decode cL_makes 68 = .ok (.iconst 2, 1) := by decide +kernel
theorem dL_makes_69 : decode cL_makes 69 = .ok (.iadd, 1) := by decide +kernel
theorem dL_makes_70 : decode cL_makes 70 = .ok (.aload_n 0, 1) := by decide +kernel
theorem dL_makes_71 : decode cL_makes 71 = .ok (.iconst 5, 1) := by decide +kernel
theorem dL_makes_72 : decode cL_makes 72 = .ok (.iaload, 1) := by decide +kernel
theorem dL_makes_73 : decode cL_makes 73 = .ok (.iastore, 1) := by decide +kernel
theorem dL_makes_74 : decode cL_makes 74 = .ok (.aload_n 3, 1) := by decide +kernel
theorem dL_makes_75 : decode cL_makes 75 = .ok (.iload 8, 2) := by decide +kernel
theorem dL_makes_77 : decode cL_makes 77 = .ok (.iconst 3, 1) := by decide +kernel
theorem dL_makes_78 : decode cL_makes 78 = .ok (.iadd, 1) := by decide +kernel
theorem dL_makes_79 : decode cL_makes 79 = .ok (.iconst 0, 1) := by decide +kernel
theorem dL_makes_80 : decode cL_makes 80 = .ok (.iastore, 1) := by decide +kernel
theorem dL_makes_81 : decode cL_makes 81 = .ok (.aload_n 0, 1) := by decide +kernel
theorem dL_makes_82 : decode cL_makes 82 = .ok (.iconst 3, 1) := by decide +kernel
theorem dL_makes_83 : decode cL_makes 83 = .ok (.dup2, 1) := by decide +kernel
theorem dL_makes_84 : decode cL_makes 84 = .ok (.iaload, 1) := by decide +kernel
theorem dL_makes_85 : decode cL_makes 85 = .ok (.iconst 1, 1) := by decide +kernel
theorem dL_makes_86 : decode cL_makes 86 = .ok (.iadd, 1) := by decide +kernel
theorem dL_makes_87 : decode cL_makes 87 = .ok (.iastore, 1) := by decide +kernel
theorem dL_makes_88 : decode cL_makes 88 = .ok (.aload_n 0, 1) := by decide +kernel
theorem dL_makes_89 : decode cL_makes 89 = .ok (.iconst 3, 1) := by decide +kernel
theorem dL_makes_90 : decode cL_makes 90 = .ok (.iaload, 1) := by decide +kernel
theorem dL_makes_91 : decode cL_makes 91 = .ok (.iconst 1, 1) := by decide +kernel
theorem dL_makes_92 : decode cL_makes 92 = .ok (.isub, 1) := by decide +kernel
theorem dL_makes_93 : decode cL_makes 93 = .ok (.ireturn, 1) := by decide +kernel
theorem dL_some_0 : decode cL_some 0 = .ok (.aload_n 0, 1) := by decide +kernel
theorem dL_some_1 : decode cL_some 1 = .ok (.iconst 3, 1) := by decide +kernel
theorem dL_some_2 : decode cL_some 2 = .ok (.iaload, 1) := by decide +kernel
theorem dL_some_3 : decode cL_some 3 = .ok (.ifCond .ne 7, 3) := by decide +kernel
theorem dL_some_6 : decode cL_some 6 = .ok (.iconst 0, 1) := by decide +kernel
theorem dL_some_7 : decode cL_some 7 = .ok (.goto 8, 3) := by decide +kernel
theorem dL_some_10 : decode cL_some 10 = .ok (.iload_n 2, 1) := by decide +kernel
theorem dL_some_11 : decode cL_some 11 = .ok (.aload_n 0, 1) := by decide +kernel
theorem dL_some_12 : decode cL_some 12 = .ok (.iconst 3, 1) := by decide +kernel
theorem dL_some_13 : decode cL_some 13 = .ok (.iaload, 1) := by decide +kernel
theorem dL_some_14 : decode cL_some 14 = .ok (.irem, 1) := by decide +kernel
theorem dL_some_15 : decode cL_some 15 = .ok (.istore 4, 2) := by decide +kernel
theorem dL_some_17 : decode cL_some 17 = .ok (.iconst 0, 1) := by decide +kernel
theorem dL_some_18 : decode cL_some 18 = .ok (.istore 5, 2) := by decide +kernel
theorem dL_some_20 : decode cL_some 20 = .ok (.iload 5, 2) := by decide +kernel
theorem dL_some_22 : decode cL_some 22 = .ok (.bipush 16, 2) := by decide +kernel
theorem dL_some_24 : decode cL_some 24 = .ok (.if_icmp .ge 37, 3) := by decide +kernel
theorem dL_some_27 : decode cL_some 27 = .ok (.aload_n 0, 1) := by decide +kernel
theorem dL_some_28 : decode cL_some 28 = .ok (.iconst 3, 1) := by decide +kernel
theorem dL_some_29 : decode cL_some 29 = .ok (.iaload, 1) := by decide +kernel
theorem dL_some_30 : decode cL_some 30 = .ok (.ifCond .le 31, 3) := by decide +kernel
theorem dL_some_33 : decode cL_some 33 = .ok (.aload_n 1, 1) := by decide +kernel
theorem dL_some_34 : decode cL_some 34 = .ok (.iconst 4, 1) := by decide +kernel
theorem dL_some_35 : decode cL_some 35 = .ok (.iload 4, 2) := by decide +kernel
theorem dL_some_37 : decode cL_some 37 = .ok (.imul, 1) := by decide +kernel
theorem dL_some_38 : decode cL_some 38 = .ok (.iconst 2, 1) := by decide +kernel
theorem dL_some_39 : decode cL_some 39 = .ok (.iadd, 1) := by decide +kernel
theorem dL_some_40 : decode cL_some 40 = .ok (.iaload, 1) := by decide +kernel
theorem dL_some_41 : decode cL_some 41 = .ok (.iload_n 3, 1) := by decide +kernel
theorem dL_some_42 : decode cL_some 42 = .ok (.if_icmp .eq 19, 3) := by decide +kernel
theorem dL_some_45 : decode cL_some 45 = .ok (.iload 4, 2) := by decide +kernel
theorem dL_some_47 : decode cL_some 47 = .ok (.iconst 1, 1) := by decide +kernel
theorem dL_some_48 : decode cL_some 48 = .ok (.iadd, 1) := by decide +kernel
theorem dL_some_49 : decode cL_some 49 = .ok (.aload_n 0, 1) := by decide +kernel
theorem dL_some_50 : decode cL_some 50 = .ok (.iconst 3, 1) := by decide +kernel
theorem dL_some_51 : decode cL_some 51 = .ok (.iaload, 1) := by decide +kernel
theorem dL_some_52 : decode cL_some 52 = .ok (.irem, 1) := by decide +kernel
theorem dL_some_53 : decode cL_some 53 = .ok (.istore 4, 2) := by decide +kernel
theorem dL_some_55 : decode cL_some 55 = .ok (.iinc 5 1, 3) := by decide +kernel
theorem dL_some_58 : decode cL_some 58 = .ok (.goto (-38), 3) := by decide +kernel
theorem dL_some_61 : decode cL_some 61 = .ok (.iload 4, 2) := by decide +kernel
theorem dL_some_63 : decode cL_some 63 = .ok (.ireturn, 1) := by decide +kernel
theorem dL_goods_0 : decode cL_goods 0 = .ok (.iload 5, 2) := by decide +kernel
theorem dL_goods_2 : decode cL_goods 2 = .ok (.iconst 2, 1) := by decide +kernel
theorem dL_goods_3 : decode cL_goods 3 = .ok (.if_icmp .ge 194, 3) := by decide +kernel
theorem dL_goods_6 : decode cL_goods 6 = .ok (.iconst 1, 1) := by decide +kernel
theorem dL_goods_7 : decode cL_goods 7 = .ok (.iload 6, 2) := by decide +kernel
theorem dL_goods_9 : decode cL_goods 9 = .ok (.iconst 4, 1) := by decide +kernel
theorem dL_goods_10 : decode cL_goods 10 = .ok (.irem, 1) := by decide +kernel
theorem dL_goods_11 : decode cL_goods 11 = .ok (.iadd, 1) := by decide +kernel
theorem dL_goods_12 : decode cL_goods 12 = .ok (.istore 7, 2) := by decide +kernel
theorem dL_goods_14 : decode cL_goods 14 = .ok (.iconst 1, 1) := by decide +kernel
theorem dL_goods_15 : decode cL_goods 15 = .ok (.iload 6, 2) := by decide +kernel
theorem dL_goods_17 : decode cL_goods 17 = .ok (.iconst 4, 1) := by decide +kernel
theorem dL_goods_18 : decode cL_goods 18 = .ok (.idiv, 1) := by decide +kernel
theorem dL_goods_19 : decode cL_goods 19 = .ok (.iload 6, 2) := by decide +kernel
theorem dL_goods_21 : decode cL_goods 21 = .ok (.iconst 3, 1) := by decide +kernel
theorem dL_goods_22 : decode cL_goods 22 = .ok (.irem, 1) := by decide +kernel
theorem dL_goods_23 : decode cL_goods 23 = .ok (.ifCond .ne 8, 3) := by decide +kernel
theorem dL_goods_26 : decode cL_goods 26 = .ok (.bipush 99, 2) := by decide +kernel
theorem dL_goods_28 : decode cL_goods 28 = .ok (.goto 5, 3) := by decide +kernel
theorem dL_goods_31 : decode cL_goods 31 = .ok (.bipush 25, 2) := by decide +kernel
theorem dL_goods_33 : decode cL_goods 33 = .ok (.irem, 1) := by decide +kernel
theorem dL_goods_34 : decode cL_goods 34 = .ok (.iadd, 1) := by decide +kernel
theorem dL_goods_35 : decode cL_goods 35 = .ok (.istore 8, 2) := by decide +kernel
theorem dL_goods_37 : decode cL_goods 37 = .ok (.iconst 1, 1) := by decide +kernel
theorem dL_goods_38 : decode cL_goods 38 = .ok (.iload 6, 2) := by decide +kernel
theorem dL_goods_40 : decode cL_goods 40 = .ok (.bipush 7, 2) := by decide +kernel
theorem dL_goods_42 : decode cL_goods 42 = .ok (.idiv, 1) := by decide +kernel
theorem dL_goods_43 : decode cL_goods 43 = .ok (.iload 6, 2) := by decide +kernel
theorem dL_goods_45 : decode cL_goods 45 = .ok (.iconst 5, 1) := by decide +kernel
theorem dL_goods_46 : decode cL_goods 46 = .ok (.irem, 1) := by decide +kernel
theorem dL_goods_47 : decode cL_goods 47 = .ok (.ifCond .ne 8, 3) := by decide +kernel
theorem dL_goods_50 : decode cL_goods 50 = .ok (.bipush 99, 2) := by decide +kernel
theorem dL_goods_52 : decode cL_goods 52 = .ok (.goto 5, 3) := by decide +kernel
theorem dL_goods_55 : decode cL_goods 55 = .ok (.bipush 25, 2) := by decide +kernel
theorem dL_goods_57 : decode cL_goods 57 = .ok (.irem, 1) := by decide +kernel
theorem dL_goods_58 : decode cL_goods 58 = .ok (.iadd, 1) := by decide +kernel
theorem dL_goods_59 : decode cL_goods 59 = .ok (.istore 9, 2) := by decide +kernel
theorem dL_goods_61 : decode cL_goods 61 = .ok (.aload_n 1, 1) := by decide +kernel
theorem dL_goods_62 : decode cL_goods 62 = .ok (.iconst 5, 1) := by decide +kernel
theorem dL_goods_63 : decode cL_goods 63 = .ok (.iaload, 1) := by decide +kernel
theorem dL_goods_64 : decode cL_goods 64 = .ok (.iload 6, 2) := by decide +kernel
theorem dL_goods_66 : decode cL_goods 66 = .ok (.bipush 11, 2) := by decide +kernel
theorem dL_goods_68 : decode cL_goods 68 = .ok (.idiv, 1) := by decide +kernel
theorem dL_goods_69 : decode cL_goods 69 = .ok (.bipush 20, 2) := by decide +kernel
theorem dL_goods_71 : decode cL_goods 71 = .ok (.irem, 1) := by decide +kernel
theorem dL_goods_72 : decode cL_goods 72 = .ok (.iadd, 1) := by decide +kernel
theorem dL_goods_73 : decode cL_goods 73 = .ok (.istore 10, 2) := by decide +kernel
theorem dL_goods_75 : decode cL_goods 75 = .ok (.iload 10, 2) := by decide +kernel
theorem dL_goods_77 : decode cL_goods 77 = .ok (.iload 6, 2) := by decide +kernel
theorem dL_goods_79 : decode cL_goods 79 = .ok (.bipush 13, 2) := by decide +kernel
theorem dL_goods_81 : decode cL_goods 81 = .ok (.idiv, 1) := by decide +kernel
theorem dL_goods_82 : decode cL_goods 82 = .ok (.bipush 25, 2) := by decide +kernel
theorem dL_goods_84 : decode cL_goods 84 = .ok (.irem, 1) := by decide +kernel
theorem dL_goods_85 : decode cL_goods 85 = .ok (.iadd, 1) := by decide +kernel
theorem dL_goods_86 : decode cL_goods 86 = .ok (.istore 11, 2) := by decide +kernel
theorem dL_goods_88 : decode cL_goods 88 = .ok (.iload 6, 2) := by decide +kernel
theorem dL_goods_90 : decode cL_goods 90 = .ok (.bipush 17, 2) := by decide +kernel
theorem dL_goods_92 : decode cL_goods 92 = .ok (.idiv, 1) := by decide +kernel
theorem dL_goods_93 : decode cL_goods 93 = .ok (.sipush 200, 3) := by decide +kernel
theorem dL_goods_96 : decode cL_goods 96 = .ok (.irem, 1) := by decide +kernel
theorem dL_goods_97 : decode cL_goods 97 = .ok (.istore 12, 2) := by decide +kernel
theorem dL_goods_99 : decode cL_goods 99 = .ok (.aload_n 1, 1) := by decide +kernel
theorem dL_goods_100 : decode cL_goods 100 = .ok (.iconst 3, 1) := by decide +kernel
theorem dL_goods_101 : decode cL_goods 101 = .ok (.iaload, 1) := by decide +kernel
theorem dL_goods_102 : decode cL_goods 102 = .ok (.bipush 16, 2) := by decide +kernel
theorem dL_goods_104 : decode cL_goods 104 = .ok (.if_icmp .ne 30, 3) := by decide +kernel
theorem dL_goods_107 : decode cL_goods 107 = .ok (.aload_n 0, 1) := by decide +kernel
theorem dL_goods_108 : decode cL_goods 108 = .ok (.iload 7, 2) := by decide +kernel
theorem dL_goods_110 : decode cL_goods 110 = .ok (.iload 8, 2) := by decide +kernel
theorem dL_goods_112 : decode cL_goods 112 = .ok (.iload 9, 2) := by decide +kernel
theorem dL_goods_114 : decode cL_goods 114 = .ok (.iload 10, 2) := by decide +kernel
theorem dL_goods_116 : decode cL_goods 116 = .ok (.iload 11, 2) := by decide +kernel
theorem dL_goods_118 : decode cL_goods 118 = .ok (.iload 12, 2) := by decide +kernel
theorem dL_goods_120 : decode cL_goods 120 = .ok (.invokevirtual 35, 3) := by decide +kernel
theorem dL_goods_123 : decode cL_goods 123 = .ok (.ldc 41, 2) := by decide +kernel
theorem dL_goods_125 : decode cL_goods 125 = .ok (.if_icmp .ne 7, 3) := by decide +kernel
theorem dL_goods_128 : decode cL_goods 128 = .ok (.iconst 1, 1) := by decide +kernel
theorem dL_goods_129 : decode cL_goods 129 = .ok (.goto 4, 3) := by decide +kernel
theorem dL_goods_132 : decode cL_goods 132 = .ok (.iconst 0, 1) := by decide +kernel
theorem dL_goods_133 : decode cL_goods 133 = .ok (.ireturn, 1) := by decide +kernel
theorem dL_goods_134 : decode cL_goods 134 = .ok (.aload_n 1, 1) := by decide +kernel
theorem dL_goods_135 : decode cL_goods 135 = .ok (.aload_n 2, 1) := by decide +kernel
theorem dL_goods_136 : decode cL_goods 136 = .ok (.aload_n 3, 1) := by decide +kernel
theorem dL_goods_137 : decode cL_goods 137 = .ok (.aload 4, 2) := by decide +kernel
theorem dL_goods_139 : decode cL_goods 139 = .ok (.iload 7, 2) := by decide +kernel
theorem dL_goods_141 : decode cL_goods 141 = .ok (.iload 8, 2) := by decide +kernel
theorem dL_goods_143 : decode cL_goods 143 = .ok (.iload 9, 2) := by decide +kernel
theorem dL_goods_145 : decode cL_goods 145 = .ok (.iload 12, 2) := by decide +kernel
theorem dL_goods_147 : decode cL_goods 147 = .ok (.invokestatic 42, 3) := by decide +kernel
theorem dL_goods_150 : decode cL_goods 150 = .ok (.istore 13, 2) := by decide +kernel
theorem dL_goods_152 : decode cL_goods 152 = .ok (.aload_n 3, 1) := by decide +kernel
theorem dL_goods_153 : decode cL_goods 153 = .ok (.iconst 4, 1) := by decide +kernel
theorem dL_goods_154 : decode cL_goods 154 = .ok (.iload 13, 2) := by decide +kernel
theorem dL_goods_156 : decode cL_goods 156 = .ok (.imul, 1) := by decide +kernel
theorem dL_goods_157 : decode cL_goods 157 = .ok (.iload 10, 2) := by decide +kernel
theorem dL_goods_159 : decode cL_goods 159 = .ok (.iastore, 1) := by decide +kernel
theorem dL_goods_160 : decode cL_goods 160 = .ok (.aload_n 3, 1) := by decide +kernel
theorem dL_goods_161 : decode cL_goods 161 = .ok (.iconst 4, 1) := by decide +kernel
theorem dL_goods_162 : decode cL_goods 162 = .ok (.iload 13, 2) := by decide +kernel
theorem dL_goods_164 : decode cL_goods 164 = .ok (.imul, 1) := by decide +kernel
theorem dL_goods_165 : decode cL_goods 165 = .ok (.iconst 1, 1) := by decide +kernel
theorem dL_goods_166 : decode cL_goods 166 = .ok (.iadd, 1) := by decide +kernel
theorem dL_goods_167 : decode cL_goods 167 = .ok (.iload 11, 2) := by decide +kernel
theorem dL_goods_169 : decode cL_goods 169 = .ok (.iastore, 1) := by decide +kernel
theorem dL_goods_170 : decode cL_goods 170 = .ok (.aload_n 0, 1) := by decide +kernel
theorem dL_goods_171 : decode cL_goods 171 = .ok (.iload 7, 2) := by decide +kernel
theorem dL_goods_173 : decode cL_goods 173 = .ok (.iload 8, 2) := by decide +kernel
theorem dL_goods_175 : decode cL_goods 175 = .ok (.iload 9, 2) := by decide +kernel
theorem dL_goods_177 : decode cL_goods 177 = .ok (.iload 10, 2) := by decide +kernel
theorem dL_goods_179 : decode cL_goods 179 = .ok (.iload 11, 2) := by decide +kernel
theorem dL_goods_181 : decode cL_goods 181 = .ok (.iload 12, 2) := by decide +kernel
theorem dL_goods_183 : decode cL_goods 183 = .ok (.invokevirtual 35, 3) := by decide +kernel
theorem dL_goods_186 : decode cL_goods 186 = .ok (.iload 13, 2) := by decide +kernel
theorem dL_goods_188 : decode cL_goods 188 = .ok (.if_icmp .ne 7, 3) := by decide +kernel
theorem dL_goods_191 : decode cL_goods 191 = .ok (.iconst 1, 1) := by decide +kernel
theorem dL_goods_192 : decode cL_goods 192 = .ok (.goto 4, 3) := by decide +kernel
theorem dL_goods_195 : decode cL_goods 195 = .ok (.iconst 0, 1) := by decide +kernel
theorem dL_goods_196 : decode cL_goods 196 = .ok (.ireturn, 1) := by decide +kernel
theorem dL_goods_197 : decode cL_goods 197 = .ok (.aload_n 1, 1) := by decide +kernel
theorem dL_goods_198 : decode cL_goods 198 = .ok (.aload_n 3, 1) := by decide +kernel
theorem dL_goods_199 : decode cL_goods 199 = .ok (.iload 6, 2) := by decide +kernel
theorem dL_goods_201 : decode cL_goods 201 = .ok (.iconst 0, 1) := by decide +kernel
theorem dL_goods_202 : decode cL_goods 202 = .ok (.invokestatic 46, 3) := by decide +kernel
theorem dL_goods_205 : decode cL_goods 205 = .ok (.istore 7, 2) := by decide +kernel
theorem dL_goods_207 : decode cL_goods 207 = .ok (.iload 5, 2) := by decide +kernel
theorem dL_goods_209 : decode cL_goods 209 = .ok (.iconst 2, 1) := by decide +kernel
theorem dL_goods_210 : decode cL_goods 210 = .ok (.if_icmp .ne 305, 3) := by decide +kernel
theorem dL_goods_213 : decode cL_goods 213 = .ok (.aload_n 1, 1) := by decide +kernel
theorem dL_goods_214 : decode cL_goods 214 = .ok (.aload_n 3, 1) := by decide +kernel
theorem dL_goods_215 : decode cL_goods 215 = .ok (.iload 7, 2) := by decide +kernel
theorem dL_goods_217 : decode cL_goods 217 = .ok (.invokestatic 50, 3) := by decide +kernel
theorem dL_goods_220 : decode cL_goods 220 = .ok (.ifCond .ne 22, 3) := by decide +kernel
theorem dL_goods_223 : decode cL_goods 223 = .ok (.aload_n 0, 1) := by decide +kernel
theorem dL_goods_224 : decode cL_goods 224 = .ok (.iload 7, 2) := by decide +kernel
theorem dL_goods_226 : decode cL_goods 226 = .ok (.iconst 1, 1) := by decide +kernel
theorem dL_goods_227 : decode cL_goods 227 = .ok (.iconst 1, 1) := by decide +kernel
theorem dL_goods_228 : decode cL_goods 228 = .ok (.invokevirtual 54, 3) := by decide +kernel
theorem dL_goods_231 : decode cL_goods 231 = .ok (.ldc 58, 2) := by decide +kernel
theorem dL_goods_233 : decode cL_goods 233 = .ok (.if_icmp .ne 7, 3) := by decide +kernel
theorem dL_goods_236 : decode cL_goods 236 = .ok (.iconst 1, 1) := by decide +kernel
theorem dL_goods_237 : decode cL_goods 237 = .ok (.goto 4, 3) := by decide +kernel
theorem dL_goods_240 : decode cL_goods 240 = .ok (.iconst 0, 1) := by decide +kernel
theorem dL_goods_241 : decode cL_goods 241 = .ok (.ireturn, 1) := by decide +kernel
theorem dL_goods_242 : decode cL_goods 242 = .ok (.iconst 1, 1) := by decide +kernel
theorem dL_goods_243 : decode cL_goods 243 = .ok (.iload 6, 2) := by decide +kernel
theorem dL_goods_245 : decode cL_goods 245 = .ok (.bipush 16, 2) := by decide +kernel
theorem dL_goods_247 : decode cL_goods 247 = .ok (.idiv, 1) := by decide +kernel
theorem dL_goods_248 : decode cL_goods 248 = .ok (.bipush 20, 2) := by decide +kernel
theorem dL_goods_250 : decode cL_goods 250 = .ok (.irem, 1) := by decide +kernel
theorem dL_goods_251 : decode cL_goods 251 = .ok (.iadd, 1) := by decide +kernel
theorem dL_goods_252 : decode cL_goods 252 = .ok (.istore 8, 2) := by decide +kernel
theorem dL_goods_254 : decode cL_goods 254 = .ok (.iconst 1, 1) := by decide +kernel
theorem dL_goods_255 : decode cL_goods 255 = .ok (.iload 6, 2) := by decide +kernel
theorem dL_goods_257 : decode cL_goods 257 = .ok (.iconst 5, 1) := by decide +kernel
theorem dL_goods_258 : decode cL_goods 258 = .ok (.idiv, 1) := by decide +kernel
theorem dL_goods_259 : decode cL_goods 259 = .ok (.bipush 20, 2) := by decide +kernel
theorem dL_goods_261 : decode cL_goods 261 = .ok (.irem, 1) := by decide +kernel
theorem dL_goods_262 : decode cL_goods 262 = .ok (.iadd, 1) := by decide +kernel
theorem dL_goods_263 : decode cL_goods 263 = .ok (.istore 9, 2) := by decide +kernel
theorem dL_goods_265 : decode cL_goods 265 = .ok (.iconst 4, 1) := by decide +kernel
theorem dL_goods_266 : decode cL_goods 266 = .ok (.iload 7, 2) := by decide +kernel
theorem dL_goods_268 : decode cL_goods 268 = .ok (.imul, 1) := by decide +kernel
theorem dL_goods_269 : decode cL_goods 269 = .ok (.istore 10, 2) := by decide +kernel
theorem dL_goods_271 : decode cL_goods 271 = .ok (.iload 8, 2) := by decide +kernel
theorem dL_goods_273 : decode cL_goods 273 = .ok (.aload_n 2, 1) := by decide +kernel
theorem dL_goods_274 : decode cL_goods 274 = .ok (.iload 10, 2) := by decide +kernel
theorem dL_goods_276 : decode cL_goods 276 = .ok (.iconst 1, 1) := by decide +kernel
theorem dL_goods_277 : decode cL_goods 277 = .ok (.iadd, 1) := by decide +kernel
theorem dL_goods_278 : decode cL_goods 278 = .ok (.iaload, 1) := by decide +kernel
theorem dL_goods_279 : decode cL_goods 279 = .ok (.if_icmp .ge 14, 3) := by decide +kernel
theorem dL_goods_282 : decode cL_goods 282 = .ok (.iload 9, 2) := by decide +kernel
theorem dL_goods_284 : decode cL_goods 284 = .ok (.aload_n 2, 1) := by decide +kernel
theorem dL_goods_285 : decode cL_goods 285 = .ok (.iload 10, 2) := by decide +kernel
theorem dL_goods_287 : decode cL_goods 287 = .ok (.iconst 2, 1) := by decide +kernel
theorem dL_goods_288 : decode cL_goods 288 = .ok (.iadd, 1) := by decide +kernel
theorem dL_goods_289 : decode cL_goods 289 = .ok (.iaload, 1) := by decide +kernel
theorem dL_goods_290 : decode cL_goods 290 = .ok (.if_icmp .lt 7, 3) := by decide +kernel
theorem dL_goods_293 : decode cL_goods 293 = .ok (.iconst 1, 1) := by decide +kernel
theorem dL_goods_294 : decode cL_goods 294 = .ok (.goto 4, 3) := by decide +kernel
theorem dL_goods_297 : decode cL_goods 297 = .ok (.iconst 0, 1) := by decide +kernel
theorem dL_goods_298 : decode cL_goods 298 = .ok (.istore 11, 2) := by decide +kernel
theorem dL_goods_300 : decode cL_goods 300 = .ok (.iload 11, 2) := by decide +kernel
theorem dL_goods_302 : decode cL_goods 302 = .ok (.ifCond .ne 20, 3) := by decide +kernel
theorem dL_goods_305 : decode cL_goods 305 = .ok (.aload_n 3, 1) := by decide +kernel
theorem dL_goods_306 : decode cL_goods 306 = .ok (.iload 10, 2) := by decide +kernel
theorem dL_goods_308 : decode cL_goods 308 = .ok (.iconst 2, 1) := by decide +kernel
theorem dL_goods_309 : decode cL_goods 309 = .ok (.iadd, 1) := by decide +kernel
theorem dL_goods_310 : decode cL_goods 310 = .ok (.iaload, 1) := by decide +kernel
theorem dL_goods_311 : decode cL_goods 311 = .ok (.ifCond .ne 11, 3) := by decide +kernel
theorem dL_goods_314 : decode cL_goods 314 = .ok (.aload_n 1, 1) := by decide +kernel
theorem dL_goods_315 : decode cL_goods 315 = .ok (.iconst 3, 1) := by decide +kernel
theorem dL_goods_316 : decode cL_goods 316 = .ok (.iaload, 1) := by decide +kernel
theorem dL_goods_317 : decode cL_goods 317 = .ok (.bipush 16, 2) := by decide +kernel
theorem dL_goods_319 : decode cL_goods 319 = .ok (.if_icmp .ne 48, 3) := by decide +kernel
theorem dL_goods_322 : decode cL_goods 322 = .ok (.aload_n 0, 1) := by decide +kernel
theorem dL_goods_323 : decode cL_goods 323 = .ok (.iload 7, 2) := by decide +kernel
theorem dL_goods_325 : decode cL_goods 325 = .ok (.iload 8, 2) := by decide +kernel
theorem dL_goods_327 : decode cL_goods 327 = .ok (.iload 9, 2) := by decide +kernel
theorem dL_goods_329 : decode cL_goods 329 = .ok (.invokevirtual 54, 3) := by decide +kernel
theorem dL_goods_332 : decode cL_goods 332 = .ok (.iload 11, 2) := by decide +kernel
theorem dL_goods_334 : decode cL_goods 334 = .ok (.ifCond .eq 8, 3) := by decide +kernel
theorem dL_goods_337 : decode cL_goods 337 = .ok (.ldc 58, 2) := by decide +kernel
theorem dL_goods_339 : decode cL_goods 339 = .ok (.goto 19, 3) := by decide +kernel
theorem dL_goods_342 : decode cL_goods 342 = .ok (.aload_n 3, 1) := by decide +kernel
theorem dL_goods_343 : decode cL_goods 343 = .ok (.iload 10, 2) := by decide +kernel
theorem dL_goods_345 : decode cL_goods 345 = .ok (.iconst 2, 1) := by decide +kernel
theorem dL_goods_346 : decode cL_goods 346 = .ok (.iadd, 1) := by decide +kernel
theorem dL_goods_347 : decode cL_goods 347 = .ok (.iaload, 1) := by decide +kernel
theorem dL_goods_348 : decode cL_goods 348 = .ok (.ifCond .eq 8, 3) := by decide +kernel
theorem dL_goods_351 : decode cL_goods 351 = .ok (.ldc 59, 2) := by decide +kernel
theorem dL_goods_353 : decode cL_goods 353 = .ok (.goto 5, 3) := by decide +kernel
theorem dL_goods_356 : decode cL_goods 356 = .ok (.ldc 41, 2) := by decide +kernel
theorem dL_goods_358 : decode cL_goods 358 = .ok (.if_icmp .ne 7, 3) := by decide +kernel
theorem dL_goods_361 : decode cL_goods 361 = .ok (.iconst 1, 1) := by decide +kernel
theorem dL_goods_362 : decode cL_goods 362 = .ok (.goto 4, 3) := by decide +kernel
theorem dL_goods_365 : decode cL_goods 365 = .ok (.iconst 0, 1) := by decide +kernel
theorem dL_goods_366 : decode cL_goods 366 = .ok (.ireturn, 1) := by decide +kernel
theorem dL_goods_367 : decode cL_goods 367 = .ok (.iload 8, 2) := by decide +kernel
theorem dL_goods_369 : decode cL_goods 369 = .ok (.aload_n 2, 1) := by decide +kernel
theorem dL_goods_370 : decode cL_goods 370 = .ok (.iload 10, 2) := by decide +kernel
theorem dL_goods_372 : decode cL_goods 372 = .ok (.iconst 3, 1) := by decide +kernel
theorem dL_goods_373 : decode cL_goods 373 = .ok (.iadd, 1) := by decide +kernel
theorem dL_goods_374 : decode cL_goods 374 = .ok (.iaload, 1) := by decide +kernel
theorem dL_goods_375 : decode cL_goods 375 = .ok (.imul, 1) := by decide +kernel
theorem dL_goods_376 : decode cL_goods 376 = .ok (.aload_n 2, 1) := by decide +kernel
theorem dL_goods_377 : decode cL_goods 377 = .ok (.iload 10, 2) := by decide +kernel
theorem dL_goods_379 : decode cL_goods 379 = .ok (.iconst 1, 1) := by decide +kernel
theorem dL_goods_380 : decode cL_goods 380 = .ok (.iadd, 1) := by decide +kernel
theorem dL_goods_381 : decode cL_goods 381 = .ok (.iaload, 1) := by decide +kernel
theorem dL_goods_382 : decode cL_goods 382 = .ok (.idiv, 1) := by decide +kernel
theorem dL_goods_383 : decode cL_goods 383 = .ok (.istore 12, 2) := by decide +kernel
theorem dL_goods_385 : decode cL_goods 385 = .ok (.aload_n 1, 1) := by decide +kernel
theorem dL_goods_386 : decode cL_goods 386 = .ok (.aload_n 2, 1) := by decide +kernel
theorem dL_goods_387 : decode cL_goods 387 = .ok (.aload_n 3, 1) := by decide +kernel
theorem dL_goods_388 : decode cL_goods 388 = .ok (.aload 4, 2) := by decide +kernel
theorem dL_goods_390 : decode cL_goods 390 = .ok (.aload_n 2, 1) := by decide +kernel
theorem dL_goods_391 : decode cL_goods 391 = .ok (.iload 10, 2) := by decide +kernel
theorem dL_goods_393 : decode cL_goods 393 = .ok (.iaload, 1) := by decide +kernel
theorem dL_goods_394 : decode cL_goods 394 = .ok (.iload 8, 2) := by decide +kernel
theorem dL_goods_396 : decode cL_goods 396 = .ok (.iload 9, 2) := by decide +kernel
theorem dL_goods_398 : decode cL_goods 398 = .ok (.iload 12, 2) := by decide +kernel
theorem dL_goods_400 : decode cL_goods 400 = .ok (.invokestatic 42, 3) := by decide +kernel
theorem dL_goods_403 : decode cL_goods 403 = .ok (.istore 13, 2) := by decide +kernel
theorem dL_goods_405 : decode cL_goods 405 = .ok (.aload_n 3, 1) := by decide +kernel
theorem dL_goods_406 : decode cL_goods 406 = .ok (.iconst 4, 1) := by decide +kernel
theorem dL_goods_407 : decode cL_goods 407 = .ok (.iload 13, 2) := by decide +kernel
theorem dL_goods_409 : decode cL_goods 409 = .ok (.imul, 1) := by decide +kernel
theorem dL_goods_410 : decode cL_goods 410 = .ok (.aload_n 3, 1) := by decide +kernel
theorem dL_goods_411 : decode cL_goods 411 = .ok (.iload 10, 2) := by decide +kernel
theorem dL_goods_413 : decode cL_goods 413 = .ok (.iaload, 1) := by decide +kernel
theorem dL_goods_414 : decode cL_goods 414 = .ok (.iastore, 1) := by decide +kernel
theorem dL_goods_415 : decode cL_goods 415 = .ok (.aload_n 3, 1) := by decide +kernel
theorem dL_goods_416 : decode cL_goods 416 = .ok (.iconst 4, 1) := by decide +kernel
theorem dL_goods_417 : decode cL_goods 417 = .ok (.iload 13, 2) := by decide +kernel
theorem dL_goods_419 : decode cL_goods 419 = .ok (.imul, 1) := by decide +kernel
theorem dL_goods_420 : decode cL_goods 420 = .ok (.iconst 1, 1) := by decide +kernel
theorem dL_goods_421 : decode cL_goods 421 = .ok (.iadd, 1) := by decide +kernel
theorem dL_goods_422 : decode cL_goods 422 = .ok (.aload_n 3, 1) := by decide +kernel
theorem dL_goods_423 : decode cL_goods 423 = .ok (.iload 10, 2) := by decide +kernel
theorem dL_goods_425 : decode cL_goods 425 = .ok (.iconst 1, 1) := by decide +kernel
theorem dL_goods_426 : decode cL_goods 426 = .ok (.iadd, 1) := by decide +kernel
theorem dL_goods_427 : decode cL_goods 427 = .ok (.iaload, 1) := by decide +kernel
theorem dL_goods_428 : decode cL_goods 428 = .ok (.iastore, 1) := by decide +kernel
theorem dL_goods_429 : decode cL_goods 429 = .ok (.aload 4, 2) := by decide +kernel
theorem dL_goods_431 : decode cL_goods 431 = .ok (.iconst 4, 1) := by decide +kernel
theorem dL_goods_432 : decode cL_goods 432 = .ok (.iload 13, 2) := by decide +kernel
theorem dL_goods_434 : decode cL_goods 434 = .ok (.imul, 1) := by decide +kernel
theorem dL_goods_435 : decode cL_goods 435 = .ok (.iconst 1, 1) := by decide +kernel
theorem dL_goods_436 : decode cL_goods 436 = .ok (.iadd, 1) := by decide +kernel
theorem dL_goods_437 : decode cL_goods 437 = .ok (.aload 4, 2) := by decide +kernel
theorem dL_goods_439 : decode cL_goods 439 = .ok (.iload 10, 2) := by decide +kernel
theorem dL_goods_441 : decode cL_goods 441 = .ok (.iconst 1, 1) := by decide +kernel
theorem dL_goods_442 : decode cL_goods 442 = .ok (.iadd, 1) := by decide +kernel
theorem dL_goods_443 : decode cL_goods 443 = .ok (.iaload, 1) := by decide +kernel
theorem dL_goods_444 : decode cL_goods 444 = .ok (.iastore, 1) := by decide +kernel
theorem dL_goods_445 : decode cL_goods 445 = .ok (.aload 4, 2) := by decide +kernel
theorem dL_goods_447 : decode cL_goods 447 = .ok (.iconst 4, 1) := by decide +kernel
theorem dL_goods_448 : decode cL_goods 448 = .ok (.iload 13, 2) := by decide +kernel
theorem dL_goods_450 : decode cL_goods 450 = .ok (.imul, 1) := by decide +kernel
theorem dL_goods_451 : decode cL_goods 451 = .ok (.iconst 2, 1) := by decide +kernel
theorem dL_goods_452 : decode cL_goods 452 = .ok (.iadd, 1) := by decide +kernel
theorem dL_goods_453 : decode cL_goods 453 = .ok (.aload 4, 2) := by decide +kernel
theorem dL_goods_455 : decode cL_goods 455 = .ok (.iload 10, 2) := by decide +kernel
theorem dL_goods_457 : decode cL_goods 457 = .ok (.iconst 2, 1) := by decide +kernel
theorem dL_goods_458 : decode cL_goods 458 = .ok (.iadd, 1) := by decide +kernel
theorem dL_goods_459 : decode cL_goods 459 = .ok (.iaload, 1) := by decide +kernel
theorem dL_goods_460 : decode cL_goods 460 = .ok (.iastore, 1) := by decide +kernel
theorem dL_goods_461 : decode cL_goods 461 = .ok (.aload_n 2, 1) := by decide +kernel
theorem dL_goods_462 : decode cL_goods 462 = .ok (.iload 10, 2) := by decide +kernel
theorem dL_goods_464 : decode cL_goods 464 = .ok (.iconst 1, 1) := by decide +kernel
theorem dL_goods_465 : decode cL_goods 465 = .ok (.iadd, 1) := by decide +kernel
theorem dL_goods_466 : decode cL_goods 466 = .ok (.dup2, 1) := by decide +kernel
theorem dL_goods_467 : decode cL_goods 467 = .ok (.iaload, 1) := by decide +kernel
theorem dL_goods_468 : decode cL_goods 468 = .ok (.iload 8, 2) := by decide +kernel
theorem dL_goods_470 : decode cL_goods 470 = .ok (.isub, 1) := by decide +kernel
theorem dL_goods_471 : decode cL_goods 471 = .ok (.iastore, 1) := by decide +kernel
theorem dL_goods_472 : decode cL_goods 472 = .ok (.aload_n 2, 1) := by decide +kernel
theorem dL_goods_473 : decode cL_goods 473 = .ok (.iload 10, 2) := by decide +kernel
theorem dL_goods_475 : decode cL_goods 475 = .ok (.iconst 2, 1) := by decide +kernel
theorem dL_goods_476 : decode cL_goods 476 = .ok (.iadd, 1) := by decide +kernel
theorem dL_goods_477 : decode cL_goods 477 = .ok (.dup2, 1) := by decide +kernel
theorem dL_goods_478 : decode cL_goods 478 = .ok (.iaload, 1) := by decide +kernel
theorem dL_goods_479 : decode cL_goods 479 = .ok (.iload 9, 2) := by decide +kernel
theorem dL_goods_481 : decode cL_goods 481 = .ok (.isub, 1) := by decide +kernel
theorem dL_goods_482 : decode cL_goods 482 = .ok (.iastore, 1) := by decide +kernel
theorem dL_goods_483 : decode cL_goods 483 = .ok (.aload_n 2, 1) := by decide +kernel
theorem dL_goods_484 : decode cL_goods 484 = .ok (.iload 10, 2) := by decide +kernel
theorem dL_goods_486 : decode cL_goods 486 = .ok (.iconst 3, 1) := by decide +kernel
theorem dL_goods_487 : decode cL_goods 487 = .ok (.iadd, 1) := by decide +kernel
theorem dL_goods_488 : decode cL_goods 488 = .ok (.dup2, 1) := by decide +kernel
theorem dL_goods_489 : decode cL_goods 489 = .ok (.iaload, 1) := by decide +kernel
theorem dL_goods_490 : decode cL_goods 490 = .ok (.iload 12, 2) := by decide +kernel
theorem dL_goods_492 : decode cL_goods 492 = .ok (.isub, 1) := by decide +kernel
theorem dL_goods_493 : decode cL_goods 493 = .ok (.iastore, 1) := by decide +kernel
theorem dL_goods_494 : decode cL_goods 494 = .ok (.aload_n 0, 1) := by decide +kernel
theorem dL_goods_495 : decode cL_goods 495 = .ok (.iload 7, 2) := by decide +kernel
theorem dL_goods_497 : decode cL_goods 497 = .ok (.iload 8, 2) := by decide +kernel
theorem dL_goods_499 : decode cL_goods 499 = .ok (.iload 9, 2) := by decide +kernel
theorem dL_goods_501 : decode cL_goods 501 = .ok (.invokevirtual 54, 3) := by decide +kernel
theorem dL_goods_504 : decode cL_goods 504 = .ok (.iload 13, 2) := by decide +kernel
theorem dL_goods_506 : decode cL_goods 506 = .ok (.if_icmp .ne 7, 3) := by decide +kernel
theorem dL_goods_509 : decode cL_goods 509 = .ok (.iconst 1, 1) := by decide +kernel
theorem dL_goods_510 : decode cL_goods 510 = .ok (.goto 4, 3) := by decide +kernel
theorem dL_goods_513 : decode cL_goods 513 = .ok (.iconst 0, 1) := by decide +kernel
theorem dL_goods_514 : decode cL_goods 514 = .ok (.ireturn, 1) := by decide +kernel
theorem dL_goods_515 : decode cL_goods 515 = .ok (.aload_n 1, 1) := by decide +kernel
theorem dL_goods_516 : decode cL_goods 516 = .ok (.aload_n 3, 1) := by decide +kernel
theorem dL_goods_517 : decode cL_goods 517 = .ok (.iload 6, 2) := by decide +kernel
theorem dL_goods_519 : decode cL_goods 519 = .ok (.bipush 16, 2) := by decide +kernel
theorem dL_goods_521 : decode cL_goods 521 = .ok (.idiv, 1) := by decide +kernel
theorem dL_goods_522 : decode cL_goods 522 = .ok (.iconst 0, 1) := by decide +kernel
theorem dL_goods_523 : decode cL_goods 523 = .ok (.invokestatic 46, 3) := by decide +kernel
theorem dL_goods_526 : decode cL_goods 526 = .ok (.istore 8, 2) := by decide +kernel
theorem dL_goods_528 : decode cL_goods 528 = .ok (.iconst 0, 1) := by decide +kernel
theorem dL_goods_529 : decode cL_goods 529 = .ok (.istore 9, 2) := by decide +kernel
theorem dL_goods_531 : decode cL_goods 531 = .ok (.iload 9, 2) := by decide +kernel
theorem dL_goods_533 : decode cL_goods 533 = .ok (.bipush 16, 2) := by decide +kernel
theorem dL_goods_535 : decode cL_goods 535 = .ok (.if_icmp .ge 70, 3) := by decide +kernel
theorem dL_goods_538 : decode cL_goods 538 = .ok (.iload 6, 2) := by decide +kernel
theorem dL_goods_540 : decode cL_goods 540 = .ok (.iconst 4, 1) := by decide +kernel
theorem dL_goods_541 : decode cL_goods 541 = .ok (.irem, 1) := by decide +kernel
theorem dL_goods_542 : decode cL_goods 542 = .ok (.ifCond .le 63, 3) := by decide +kernel
theorem dL_goods_545 : decode cL_goods 545 = .ok (.aload_n 1, 1) := by decide +kernel
theorem dL_goods_546 : decode cL_goods 546 = .ok (.iconst 3, 1) := by decide +kernel
theorem dL_goods_547 : decode cL_goods 547 = .ok (.iaload, 1) := by decide +kernel
theorem dL_goods_548 : decode cL_goods 548 = .ok (.ifCond .le 57, 3) := by decide +kernel
theorem dL_goods_551 : decode cL_goods 551 = .ok (.iload 8, 2) := by decide +kernel
theorem dL_goods_553 : decode cL_goods 553 = .ok (.iload 7, 2) := by decide +kernel
theorem dL_goods_555 : decode cL_goods 555 = .ok (.if_icmp .eq 34, 3) := by decide +kernel
theorem dL_goods_558 : decode cL_goods 558 = .ok (.aload 4, 2) := by decide +kernel
theorem dL_goods_560 : decode cL_goods 560 = .ok (.iconst 4, 1) := by decide +kernel
theorem dL_goods_561 : decode cL_goods 561 = .ok (.iload 8, 2) := by decide +kernel
theorem dL_goods_563 : decode cL_goods 563 = .ok (.imul, 1) := by decide +kernel
theorem dL_goods_564 : decode cL_goods 564 = .ok (.iconst 1, 1) := by decide +kernel
theorem dL_goods_565 : decode cL_goods 565 = .ok (.iadd, 1) := by decide +kernel
theorem dL_goods_566 : decode cL_goods 566 = .ok (.iaload, 1) := by decide +kernel
theorem dL_goods_567 : decode cL_goods 567 = .ok (.aload 4, 2) := by decide +kernel
theorem dL_goods_569 : decode cL_goods 569 = .ok (.iconst 4, 1) := by decide +kernel
theorem dL_goods_570 : decode cL_goods 570 = .ok (.iload 7, 2) := by decide +kernel
theorem dL_goods_572 : decode cL_goods 572 = .ok (.imul, 1) := by decide +kernel
theorem dL_goods_573 : decode cL_goods 573 = .ok (.iconst 1, 1) := by decide +kernel
theorem dL_goods_574 : decode cL_goods 574 = .ok (.iadd, 1) := by decide +kernel
theorem dL_goods_575 : decode cL_goods 575 = .ok (.iaload, 1) := by decide +kernel
theorem dL_goods_576 : decode cL_goods 576 = .ok (.if_icmp .ne 13, 3) := by decide +kernel
theorem dL_goods_579 : decode cL_goods 579 = .ok (.aload_n 1, 1) := by decide +kernel
theorem dL_goods_580 : decode cL_goods 580 = .ok (.aload_n 3, 1) := by decide +kernel
theorem dL_goods_581 : decode cL_goods 581 = .ok (.iload 8, 2) := by decide +kernel
theorem dL_goods_583 : decode cL_goods 583 = .ok (.invokestatic 50, 3) := by decide +kernel
theorem dL_goods_586 : decode cL_goods 586 = .ok (.ifCond .ne 19, 3) := by decide +kernel
theorem dL_goods_589 : decode cL_goods 589 = .ok (.iload 8, 2) := by decide +kernel
theorem dL_goods_591 : decode cL_goods 591 = .ok (.iconst 1, 1) := by decide +kernel
theorem dL_goods_592 : decode cL_goods 592 = .ok (.iadd, 1) := by decide +kernel
theorem dL_goods_593 : decode cL_goods 593 = .ok (.aload_n 1, 1) := by decide +kernel
theorem dL_goods_594 : decode cL_goods 594 = .ok (.iconst 3, 1) := by decide +kernel
theorem dL_goods_595 : decode cL_goods 595 = .ok (.iaload, 1) := by decide +kernel
theorem dL_goods_596 : decode cL_goods 596 = .ok (.irem, 1) := by decide +kernel
theorem dL_goods_597 : decode cL_goods 597 = .ok (.istore 8, 2) := by decide +kernel
theorem dL_goods_599 : decode cL_goods 599 = .ok (.iinc 9 1, 3) := by decide +kernel
theorem dL_goods_602 : decode cL_goods 602 = .ok (.goto (-71), 3) := by decide +kernel
theorem dL_goods_605 : decode cL_goods 605 = .ok (.aload_n 1, 1) := by decide +kernel
theorem dL_goods_606 : decode cL_goods 606 = .ok (.aload_n 3, 1) := by decide +kernel
theorem dL_goods_607 : decode cL_goods 607 = .ok (.iload 7, 2) := by decide +kernel
theorem dL_goods_609 : decode cL_goods 609 = .ok (.invokestatic 50, 3) := by decide +kernel
theorem dL_goods_612 : decode cL_goods 612 = .ok (.ifCond .eq 20, 3) := by decide +kernel
theorem dL_goods_615 : decode cL_goods 615 = .ok (.aload_n 1, 1) := by decide +kernel
theorem dL_goods_616 : decode cL_goods 616 = .ok (.aload_n 3, 1) := by decide +kernel
theorem dL_goods_617 : decode cL_goods 617 = .ok (.iload 8, 2) := by decide +kernel
theorem dL_goods_619 : decode cL_goods 619 = .ok (.invokestatic 50, 3) := by decide +kernel
theorem dL_goods_622 : decode cL_goods 622 = .ok (.ifCond .eq 10, 3) := by decide +kernel
theorem dL_goods_625 : decode cL_goods 625 = .ok (.iload 7, 2) := by decide +kernel
theorem dL_goods_627 : decode cL_goods 627 = .ok (.iload 8, 2) := by decide +kernel
theorem dL_goods_629 : decode cL_goods 629 = .ok (.if_icmp .ne 22, 3) := by decide +kernel
theorem dL_goods_632 : decode cL_goods 632 = .ok (.aload_n 0, 1) := by decide +kernel
theorem dL_goods_633 : decode cL_goods 633 = .ok (.iload 7, 2) := by decide +kernel
theorem dL_goods_635 : decode cL_goods 635 = .ok (.iload 8, 2) := by decide +kernel
theorem dL_goods_637 : decode cL_goods 637 = .ok (.invokevirtual 60, 3) := by decide +kernel
theorem dL_goods_640 : decode cL_goods 640 = .ok (.ldc 58, 2) := by decide +kernel
theorem dL_goods_642 : decode cL_goods 642 = .ok (.if_icmp .ne 7, 3) := by decide +kernel
theorem dL_goods_645 : decode cL_goods 645 = .ok (.iconst 1, 1) := by decide +kernel
theorem dL_goods_646 : decode cL_goods 646 = .ok (.goto 4, 3) := by decide +kernel
theorem dL_goods_649 : decode cL_goods 649 = .ok (.iconst 0, 1) := by decide +kernel
theorem dL_goods_650 : decode cL_goods 650 = .ok (.ireturn, 1) := by decide +kernel
theorem dL_goods_651 : decode cL_goods 651 = .ok (.aload 4, 2) := by decide +kernel
theorem dL_goods_653 : decode cL_goods 653 = .ok (.iconst 4, 1) := by decide +kernel
theorem dL_goods_654 : decode cL_goods 654 = .ok (.iload 7, 2) := by decide +kernel
theorem dL_goods_656 : decode cL_goods 656 = .ok (.imul, 1) := by decide +kernel
theorem dL_goods_657 : decode cL_goods 657 = .ok (.iconst 1, 1) := by decide +kernel
theorem dL_goods_658 : decode cL_goods 658 = .ok (.iadd, 1) := by decide +kernel
theorem dL_goods_659 : decode cL_goods 659 = .ok (.iaload, 1) := by decide +kernel
theorem dL_goods_660 : decode cL_goods 660 = .ok (.aload 4, 2) := by decide +kernel
theorem dL_goods_662 : decode cL_goods 662 = .ok (.iconst 4, 1) := by decide +kernel
theorem dL_goods_663 : decode cL_goods 663 = .ok (.iload 8, 2) := by decide +kernel
theorem dL_goods_665 : decode cL_goods 665 = .ok (.imul, 1) := by decide +kernel
theorem dL_goods_666 : decode cL_goods 666 = .ok (.iconst 1, 1) := by decide +kernel
theorem dL_goods_667 : decode cL_goods 667 = .ok (.iadd, 1) := by decide +kernel
theorem dL_goods_668 : decode cL_goods 668 = .ok (.iaload, 1) := by decide +kernel
theorem dL_goods_669 : decode cL_goods 669 = .ok (.if_icmp .ne 23, 3) := by decide +kernel
theorem dL_goods_672 : decode cL_goods 672 = .ok (.aload_n 3, 1) := by decide +kernel
theorem dL_goods_673 : decode cL_goods 673 = .ok (.iconst 4, 1) := by decide +kernel
theorem dL_goods_674 : decode cL_goods 674 = .ok (.iload 7, 2) := by decide +kernel
theorem dL_goods_676 : decode cL_goods 676 = .ok (.imul, 1) := by decide +kernel
theorem dL_goods_677 : decode cL_goods 677 = .ok (.iconst 2, 1) := by decide +kernel
theorem dL_goods_678 : decode cL_goods 678 = .ok (.iadd, 1) := by decide +kernel
theorem dL_goods_679 : decode cL_goods 679 = .ok (.iaload, 1) := by decide +kernel
theorem dL_goods_680 : decode cL_goods 680 = .ok (.aload_n 3, 1) := by decide +kernel
theorem dL_goods_681 : decode cL_goods 681 = .ok (.iconst 4, 1) := by decide +kernel
theorem dL_goods_682 : decode cL_goods 682 = .ok (.iload 8, 2) := by decide +kernel
theorem dL_goods_684 : decode cL_goods 684 = .ok (.imul, 1) := by decide +kernel
theorem dL_goods_685 : decode cL_goods 685 = .ok (.iconst 2, 1) := by decide +kernel
theorem dL_goods_686 : decode cL_goods 686 = .ok (.iadd, 1) := by decide +kernel
theorem dL_goods_687 : decode cL_goods 687 = .ok (.iaload, 1) := by decide +kernel
theorem dL_goods_688 : decode cL_goods 688 = .ok (.iadd, 1) := by decide +kernel
theorem dL_goods_689 : decode cL_goods 689 = .ok (.ifCond .le 22, 3) := by decide +kernel
theorem dL_goods_692 : decode cL_goods 692 = .ok (.aload_n 0, 1) := by decide +kernel
theorem dL_goods_693 : decode cL_goods 693 = .ok (.iload 7, 2) := by decide +kernel
theorem dL_goods_695 : decode cL_goods 695 = .ok (.iload 8, 2) := by decide +kernel
theorem dL_goods_697 : decode cL_goods 697 = .ok (.invokevirtual 60, 3) := by decide +kernel
theorem dL_goods_700 : decode cL_goods 700 = .ok (.ldc 59, 2) := by decide +kernel
theorem dL_goods_702 : decode cL_goods 702 = .ok (.if_icmp .ne 7, 3) := by decide +kernel
theorem dL_goods_705 : decode cL_goods 705 = .ok (.iconst 1, 1) := by decide +kernel
theorem dL_goods_706 : decode cL_goods 706 = .ok (.goto 4, 3) := by decide +kernel
theorem dL_goods_709 : decode cL_goods 709 = .ok (.iconst 0, 1) := by decide +kernel
theorem dL_goods_710 : decode cL_goods 710 = .ok (.ireturn, 1) := by decide +kernel
theorem dL_goods_711 : decode cL_goods 711 = .ok (.iload 7, 2) := by decide +kernel
theorem dL_goods_713 : decode cL_goods 713 = .ok (.iload 8, 2) := by decide +kernel
theorem dL_goods_715 : decode cL_goods 715 = .ok (.if_icmp .ge 8, 3) := by decide +kernel
theorem dL_goods_718 : decode cL_goods 718 = .ok (.iload 7, 2) := by decide +kernel
theorem dL_goods_720 : decode cL_goods 720 = .ok (.goto 5, 3) := by decide +kernel
theorem dL_goods_723 : decode cL_goods 723 = .ok (.iload 8, 2) := by decide +kernel
theorem dL_goods_725 : decode cL_goods 725 = .ok (.istore 9, 2) := by decide +kernel
theorem dL_goods_727 : decode cL_goods 727 = .ok (.iload 7, 2) := by decide +kernel
theorem dL_goods_729 : decode cL_goods 729 = .ok (.iload 8, 2) := by decide +kernel
theorem dL_goods_731 : decode cL_goods 731 = .ok (.iadd, 1) := by decide +kernel
theorem dL_goods_732 : decode cL_goods 732 = .ok (.iload 9, 2) := by decide +kernel
theorem dL_goods_734 : decode cL_goods 734 = .ok (.isub, 1) := by decide +kernel
theorem dL_goods_735 : decode cL_goods 735 = .ok (.istore 10, 2) := by decide +kernel
theorem dL_goods_737 : decode cL_goods 737 = .ok (.iconst 1, 1) := by decide +kernel
theorem dL_goods_738 : decode cL_goods 738 = .ok (.istore 11, 2) := by decide +kernel
theorem dL_goods_740 : decode cL_goods 740 = .ok (.iload 11, 2) := by decide +kernel
theorem dL_goods_742 : decode cL_goods 742 = .ok (.iconst 4, 1) := by decide +kernel
theorem dL_goods_743 : decode cL_goods 743 = .ok (.if_icmp .ge 30, 3) := by decide +kernel
theorem dL_goods_746 : decode cL_goods 746 = .ok (.aload_n 2, 1) := by decide +kernel
theorem dL_goods_747 : decode cL_goods 747 = .ok (.iconst 4, 1) := by decide +kernel
theorem dL_goods_748 : decode cL_goods 748 = .ok (.iload 9, 2) := by decide +kernel
theorem dL_goods_750 : decode cL_goods 750 = .ok (.imul, 1) := by decide +kernel
theorem dL_goods_751 : decode cL_goods 751 = .ok (.iload 11, 2) := by decide +kernel
theorem dL_goods_753 : decode cL_goods 753 = .ok (.iadd, 1) := by decide +kernel
theorem dL_goods_754 : decode cL_goods 754 = .ok (.dup2, 1) := by decide +kernel
theorem dL_goods_755 : decode cL_goods 755 = .ok (.iaload, 1) := by decide +kernel
theorem dL_goods_756 : decode cL_goods 756 = .ok (.aload_n 2, 1) := by decide +kernel
theorem dL_goods_757 : decode cL_goods 757 = .ok (.iconst 4, 1) := by decide +kernel
theorem dL_goods_758 : decode cL_goods 758 = .ok (.iload 10, 2) := by decide +kernel
theorem dL_goods_760 : decode cL_goods 760 = .ok (.imul, 1) := by decide +kernel
theorem dL_goods_761 : decode cL_goods 761 = .ok (.iload 11, 2) := by decide +kernel
theorem dL_goods_763 : decode cL_goods 763 = .ok (.iadd, 1) := by decide +kernel
theorem dL_goods_764 : decode cL_goods 764 = .ok (.iaload, 1) := by decide +kernel
theorem dL_goods_765 : decode cL_goods 765 = .ok (.iadd, 1) := by decide +kernel
theorem dL_goods_766 : decode cL_goods 766 = .ok (.iastore, 1) := by decide +kernel
theorem dL_goods_767 : decode cL_goods 767 = .ok (.iinc 11 1, 3) := by decide +kernel
theorem dL_goods_770 : decode cL_goods 770 = .ok (.goto (-30), 3) := by decide +kernel
theorem dL_goods_773 : decode cL_goods 773 = .ok (.aload 4, 2) := by decide +kernel
theorem dL_goods_775 : decode cL_goods 775 = .ok (.iconst 4, 1) := by decide +kernel
theorem dL_goods_776 : decode cL_goods 776 = .ok (.iload 9, 2) := by decide +kernel
theorem dL_goods_778 : decode cL_goods 778 = .ok (.imul, 1) := by decide +kernel
theorem dL_goods_779 : decode cL_goods 779 = .ok (.iconst 2, 1) := by decide +kernel
theorem dL_goods_780 : decode cL_goods 780 = .ok (.iadd, 1) := by decide +kernel
theorem dL_goods_781 : decode cL_goods 781 = .ok (.aload 4, 2) := by decide +kernel
theorem dL_goods_783 : decode cL_goods 783 = .ok (.iconst 4, 1) := by decide +kernel
theorem dL_goods_784 : decode cL_goods 784 = .ok (.iload 10, 2) := by decide +kernel
theorem dL_goods_786 : decode cL_goods 786 = .ok (.imul, 1) := by decide +kernel
theorem dL_goods_787 : decode cL_goods 787 = .ok (.iconst 2, 1) := by decide +kernel
theorem dL_goods_788 : decode cL_goods 788 = .ok (.iadd, 1) := by decide +kernel
theorem dL_goods_789 : decode cL_goods 789 = .ok (.iaload, 1) := by decide +kernel
theorem dL_goods_790 : decode cL_goods 790 = .ok (.aload 4, 2) := by decide +kernel
theorem dL_goods_792 : decode cL_goods 792 = .ok (.iconst 4, 1) := by decide +kernel
theorem dL_goods_793 : decode cL_goods 793 = .ok (.iload 9, 2) := by decide +kernel
theorem dL_goods_795 : decode cL_goods 795 = .ok (.imul, 1) := by decide +kernel
theorem dL_goods_796 : decode cL_goods 796 = .ok (.iconst 2, 1) := by decide +kernel
theorem dL_goods_797 : decode cL_goods 797 = .ok (.iadd, 1) := by decide +kernel
theorem dL_goods_798 : decode cL_goods 798 = .ok (.iaload, 1) := by decide +kernel
theorem dL_goods_799 : decode cL_goods 799 = .ok (.if_icmp .ge 15, 3) := by decide +kernel
theorem dL_goods_802 : decode cL_goods 802 = .ok (.aload 4, 2) := by decide +kernel
theorem dL_goods_804 : decode cL_goods 804 = .ok (.iconst 4, 1) := by decide +kernel
theorem dL_goods_805 : decode cL_goods 805 = .ok (.iload 10, 2) := by decide +kernel
theorem dL_goods_807 : decode cL_goods 807 = .ok (.imul, 1) := by decide +kernel
theorem dL_goods_808 : decode cL_goods 808 = .ok (.iconst 2, 1) := by decide +kernel
theorem dL_goods_809 : decode cL_goods 809 = .ok (.iadd, 1) := by decide +kernel
theorem dL_goods_810 : decode cL_goods 810 = .ok (.iaload, 1) := by decide +kernel
theorem dL_goods_811 : decode cL_goods 811 = .ok (.goto 12, 3) := by decide +kernel
theorem dL_goods_814 : decode cL_goods 814 = .ok (.aload 4, 2) := by decide +kernel
theorem dL_goods_816 : decode cL_goods 816 = .ok (.iconst 4, 1) := by decide +kernel
theorem dL_goods_817 : decode cL_goods 817 = .ok (.iload 9, 2) := by decide +kernel
theorem dL_goods_819 : decode cL_goods 819 = .ok (.imul, 1) := by decide +kernel
theorem dL_goods_820 : decode cL_goods 820 = .ok (.iconst 2, 1) := by decide +kernel
theorem dL_goods_821 : decode cL_goods 821 = .ok (.iadd, 1) := by decide +kernel
theorem dL_goods_822 : decode cL_goods 822 = .ok (.iaload, 1) := by decide +kernel
theorem dL_goods_823 : decode cL_goods 823 = .ok (.iastore, 1) := by decide +kernel
theorem dL_goods_824 : decode cL_goods 824 = .ok (.aload_n 3, 1) := by decide +kernel
theorem dL_goods_825 : decode cL_goods 825 = .ok (.iconst 4, 1) := by decide +kernel
theorem dL_goods_826 : decode cL_goods 826 = .ok (.iload 10, 2) := by decide +kernel
theorem dL_goods_828 : decode cL_goods 828 = .ok (.imul, 1) := by decide +kernel
theorem dL_goods_829 : decode cL_goods 829 = .ok (.iconst 2, 1) := by decide +kernel
theorem dL_goods_830 : decode cL_goods 830 = .ok (.iadd, 1) := by decide +kernel
theorem dL_goods_831 : decode cL_goods 831 = .ok (.iconst 5, 1) := by decide +kernel
theorem dL_goods_832 : decode cL_goods 832 = .ok (.iastore, 1) := by decide +kernel
theorem dL_goods_833 : decode cL_goods 833 = .ok (.aload_n 0, 1) := by decide +kernel
theorem dL_goods_834 : decode cL_goods 834 = .ok (.iload 7, 2) := by decide +kernel
theorem dL_goods_836 : decode cL_goods 836 = .ok (.iload 8, 2) := by decide +kernel
theorem dL_goods_838 : decode cL_goods 838 = .ok (.invokevirtual 60, 3) := by decide +kernel
theorem dL_goods_841 : decode cL_goods 841 = .ok (.iload 9, 2) := by decide +kernel
theorem dL_goods_843 : decode cL_goods 843 = .ok (.if_icmp .ne 7, 3) := by decide +kernel
theorem dL_goods_846 : decode cL_goods 846 = .ok (.iconst 1, 1) := by decide +kernel
theorem dL_goods_847 : decode cL_goods 847 = .ok (.goto 4, 3) := by decide +kernel
theorem dL_goods_850 : decode cL_goods 850 = .ok (.iconst 0, 1) := by decide +kernel
theorem dL_goods_851 : decode cL_goods 851 = .ok (.ireturn, 1) := by decide +kernel
theorem dL_acts_0 : decode cL_acts 0 = .ok (.iload 7, 2) := by decide +kernel
theorem dL_acts_2 : decode cL_acts 2 = .ok (.iconst 5, 1) := by decide +kernel
theorem dL_acts_3 : decode cL_acts 3 = .ok (.ishr, 1) := by decide +kernel
theorem dL_acts_4 : decode cL_acts 4 = .ok (.ldc 64, 2) := by decide +kernel
theorem dL_acts_6 : decode cL_acts 6 = .ok (.invokestatic 65, 3) := by decide +kernel
theorem dL_acts_9 : decode cL_acts 9 = .ok (.istore 8, 2) := by decide +kernel
theorem dL_acts_11 : decode cL_acts 11 = .ok (.iload 7, 2) := by decide +kernel
theorem dL_acts_13 : decode cL_acts 13 = .ok (.bipush 26, 2) := by decide +kernel
theorem dL_acts_15 : decode cL_acts 15 = .ok (.invokestatic 65, 3) := by decide +kernel
theorem dL_acts_18 : decode cL_acts 18 = .ok (.istore 9, 2) := by decide +kernel
theorem dL_acts_20 : decode cL_acts 20 = .ok (.iload 9, 2) := by decide +kernel
theorem dL_acts_22 : decode cL_acts 22 = .ok (.bipush 6, 2) := by decide +kernel
theorem dL_acts_24 : decode cL_acts 24 = .ok (.if_icmp .ge 29, 3) := by decide +kernel
theorem dL_acts_27 : decode cL_acts 27 = .ok (.aload_n 0, 1) := by decide +kernel
theorem dL_acts_28 : decode cL_acts 28 = .ok (.aload_n 1, 1) := by decide +kernel
theorem dL_acts_29 : decode cL_acts 29 = .ok (.aload_n 2, 1) := by decide +kernel
theorem dL_acts_30 : decode cL_acts 30 = .ok (.aload_n 3, 1) := by decide +kernel
theorem dL_acts_31 : decode cL_acts 31 = .ok (.aload 4, 2) := by decide +kernel
theorem dL_acts_33 : decode cL_acts 33 = .ok (.iload 9, 2) := by decide +kernel
theorem dL_acts_35 : decode cL_acts 35 = .ok (.iconst 3, 1) := by decide +kernel
theorem dL_acts_36 : decode cL_acts 36 = .ok (.if_icmp .ge 7, 3) := by decide +kernel
theorem dL_acts_39 : decode cL_acts 39 = .ok (.iconst 0, 1) := by decide +kernel
theorem dL_acts_40 : decode cL_acts 40 = .ok (.goto 7, 3) := by decide +kernel
theorem dL_acts_43 : decode cL_acts 43 = .ok (.iload 9, 2) := by decide +kernel
theorem dL_acts_45 : decode cL_acts 45 = .ok (.iconst 2, 1) := by decide +kernel
theorem dL_acts_46 : decode cL_acts 46 = .ok (.isub, 1) := by decide +kernel
theorem dL_acts_47 : decode cL_acts 47 = .ok (.iload 8, 2) := by decide +kernel
theorem dL_acts_49 : decode cL_acts 49 = .ok (.invokestatic 68, 3) := by decide +kernel
theorem dL_acts_52 : decode cL_acts 52 = .ok (.ireturn, 1) := by decide +kernel
theorem dL_acts_53 : decode cL_acts 53 = .ok (.iload 9, 2) := by decide +kernel
theorem dL_acts_55 : decode cL_acts 55 = .ok (.bipush 6, 2) := by decide +kernel
theorem dL_acts_57 : decode cL_acts 57 = .ok (.if_icmp .eq 9, 3) := by decide +kernel
theorem dL_acts_60 : decode cL_acts 60 = .ok (.aload_n 1, 1) := by decide +kernel
theorem dL_acts_61 : decode cL_acts 61 = .ok (.iconst 4, 1) := by decide +kernel
theorem dL_acts_62 : decode cL_acts 62 = .ok (.iaload, 1) := by decide +kernel
theorem dL_acts_63 : decode cL_acts 63 = .ok (.ifCond .ne 155, 3) := by decide +kernel
theorem dL_acts_66 : decode cL_acts 66 = .ok (.iconst 1, 1) := by decide +kernel
theorem dL_acts_67 : decode cL_acts 67 = .ok (.iload 8, 2) := by decide +kernel
theorem dL_acts_69 : decode cL_acts 69 = .ok (.iload 8, 2) := by decide +kernel
theorem dL_acts_71 : decode cL_acts 71 = .ok (.iconst 3, 1) := by decide +kernel
theorem dL_acts_72 : decode cL_acts 72 = .ok (.irem, 1) := by decide +kernel
theorem dL_acts_73 : decode cL_acts 73 = .ok (.ifCond .ne 9, 3) := by decide +kernel
theorem dL_acts_76 : decode cL_acts 76 = .ok (.sipush 200, 3) := by decide +kernel
theorem dL_acts_79 : decode cL_acts 79 = .ok (.goto 5, 3) := by decide +kernel
theorem dL_acts_82 : decode cL_acts 82 = .ok (.bipush 60, 2) := by decide +kernel
theorem dL_acts_84 : decode cL_acts 84 = .ok (.irem, 1) := by decide +kernel
theorem dL_acts_85 : decode cL_acts 85 = .ok (.iadd, 1) := by decide +kernel
theorem dL_acts_86 : decode cL_acts 86 = .ok (.istore 10, 2) := by decide +kernel
theorem dL_acts_88 : decode cL_acts 88 = .ok (.iconst 1, 1) := by decide +kernel
theorem dL_acts_89 : decode cL_acts 89 = .ok (.iload 8, 2) := by decide +kernel
theorem dL_acts_91 : decode cL_acts 91 = .ok (.bipush 7, 2) := by decide +kernel
theorem dL_acts_93 : decode cL_acts 93 = .ok (.idiv, 1) := by decide +kernel
theorem dL_acts_94 : decode cL_acts 94 = .ok (.iload 8, 2) := by decide +kernel
theorem dL_acts_96 : decode cL_acts 96 = .ok (.iconst 5, 1) := by decide +kernel
theorem dL_acts_97 : decode cL_acts 97 = .ok (.irem, 1) := by decide +kernel
theorem dL_acts_98 : decode cL_acts 98 = .ok (.ifCond .ne 9, 3) := by decide +kernel
theorem dL_acts_101 : decode cL_acts 101 = .ok (.sipush 200, 3) := by decide +kernel
theorem dL_acts_104 : decode cL_acts 104 = .ok (.goto 5, 3) := by decide +kernel
theorem dL_acts_107 : decode cL_acts 107 = .ok (.bipush 80, 2) := by decide +kernel
theorem dL_acts_109 : decode cL_acts 109 = .ok (.irem, 1) := by decide +kernel
theorem dL_acts_110 : decode cL_acts 110 = .ok (.iadd, 1) := by decide +kernel
theorem dL_acts_111 : decode cL_acts 111 = .ok (.istore 11, 2) := by decide +kernel
theorem dL_acts_113 : decode cL_acts 113 = .ok (.aload_n 1, 1) := by decide +kernel
theorem dL_acts_114 : decode cL_acts 114 = .ok (.iconst 4, 1) := by decide +kernel
theorem dL_acts_115 : decode cL_acts 115 = .ok (.iaload, 1) := by decide +kernel
theorem dL_acts_116 : decode cL_acts 116 = .ok (.iconst 4, 1) := by decide +kernel
theorem dL_acts_117 : decode cL_acts 117 = .ok (.if_icmp .ne 22, 3) := by decide +kernel
theorem dL_acts_120 : decode cL_acts 120 = .ok (.aload_n 0, 1) := by decide +kernel
theorem dL_acts_121 : decode cL_acts 121 = .ok (.iload 10, 2) := by decide +kernel
theorem dL_acts_123 : decode cL_acts 123 = .ok (.iload 11, 2) := by decide +kernel
theorem dL_acts_125 : decode cL_acts 125 = .ok (.invokevirtual 72, 3) := by decide +kernel
theorem dL_acts_128 : decode cL_acts 128 = .ok (.ldc 41, 2) := by decide +kernel
theorem dL_acts_130 : decode cL_acts 130 = .ok (.if_icmp .ne 7, 3) := by decide +kernel
theorem dL_acts_133 : decode cL_acts 133 = .ok (.iconst 1, 1) := by decide +kernel
theorem dL_acts_134 : decode cL_acts 134 = .ok (.goto 4, 3) := by decide +kernel
theorem dL_acts_137 : decode cL_acts 137 = .ok (.iconst 0, 1) := by decide +kernel
theorem dL_acts_138 : decode cL_acts 138 = .ok (.ireturn, 1) := by decide +kernel
theorem dL_acts_139 : decode cL_acts 139 = .ok (.iconst 0, 1) := by decide +kernel
theorem dL_acts_140 : decode cL_acts 140 = .ok (.istore 12, 2) := by decide +kernel
theorem dL_acts_142 : decode cL_acts 142 = .ok (.iload 12, 2) := by decide +kernel
theorem dL_acts_144 : decode cL_acts 144 = .ok (.bipush 8, 2) := by decide +kernel
theorem dL_acts_146 : decode cL_acts 146 = .ok (.if_icmp .ge 43, 3) := by decide +kernel
theorem dL_acts_149 : decode cL_acts 149 = .ok (.aload 5, 2) := by decide +kernel
theorem dL_acts_151 : decode cL_acts 151 = .ok (.bipush 8, 2) := by decide +kernel
theorem dL_acts_153 : decode cL_acts 153 = .ok (.aload_n 1, 1) := by decide +kernel
theorem dL_acts_154 : decode cL_acts 154 = .ok (.iconst 4, 1) := by decide +kernel
theorem dL_acts_155 : decode cL_acts 155 = .ok (.iaload, 1) := by decide +kernel
theorem dL_acts_156 : decode cL_acts 156 = .ok (.imul, 1) := by decide +kernel
theorem dL_acts_157 : decode cL_acts 157 = .ok (.iload 12, 2) := by decide +kernel
theorem dL_acts_159 : decode cL_acts 159 = .ok (.iadd, 1) := by decide +kernel
theorem dL_acts_160 : decode cL_acts 160 = .ok (.iload 12, 2) := by decide +kernel
theorem dL_acts_162 : decode cL_acts 162 = .ok (.ifCond .ne 8, 3) := by decide +kernel
theorem dL_acts_165 : decode cL_acts 165 = .ok (.iload 10, 2) := by decide +kernel
theorem dL_acts_167 : decode cL_acts 167 = .ok (.goto 15, 3) := by decide +kernel
theorem dL_acts_170 : decode cL_acts 170 = .ok (.iload 12, 2) := by decide +kernel
theorem dL_acts_172 : decode cL_acts 172 = .ok (.iconst 1, 1) := by decide +kernel
theorem dL_acts_173 : decode cL_acts 173 = .ok (.if_icmp .ne 8, 3) := by decide +kernel
theorem dL_acts_176 : decode cL_acts 176 = .ok (.iload 11, 2) := by decide +kernel
theorem dL_acts_178 : decode cL_acts 178 = .ok (.goto 4, 3) := by decide +kernel
theorem dL_acts_181 : decode cL_acts 181 = .ok (.iconst 0, 1) := by decide +kernel
theorem dL_acts_182 : decode cL_acts 182 = .ok (.iastore, 1) := by decide +kernel
theorem dL_acts_183 : decode cL_acts 183 = .ok (.iinc 12 1, 3) := by decide +kernel
theorem dL_acts_186 : decode cL_acts 186 = .ok (.goto (-44), 3) := by decide +kernel
theorem dL_acts_189 : decode cL_acts 189 = .ok (.aload_n 1, 1) := by decide +kernel
theorem dL_acts_190 : decode cL_acts 190 = .ok (.iconst 4, 1) := by decide +kernel
theorem dL_acts_191 : decode cL_acts 191 = .ok (.dup2, 1) := by decide +kernel
theorem dL_acts_192 : decode cL_acts 192 = .ok (.iaload, 1) := by decide +kernel
theorem dL_acts_193 : decode cL_acts 193 = .ok (.iconst 1, 1) := by decide +kernel
theorem dL_acts_194 : decode cL_acts 194 = .ok (.iadd, 1) := by decide +kernel
theorem dL_acts_195 : decode cL_acts 195 = .ok (.iastore, 1) := by decide +kernel
theorem dL_acts_196 : decode cL_acts 196 = .ok (.aload_n 0, 1) := by decide +kernel
theorem dL_acts_197 : decode cL_acts 197 = .ok (.iload 10, 2) := by decide +kernel
theorem dL_acts_199 : decode cL_acts 199 = .ok (.iload 11, 2) := by decide +kernel
theorem dL_acts_201 : decode cL_acts 201 = .ok (.invokevirtual 72, 3) := by decide +kernel
theorem dL_acts_204 : decode cL_acts 204 = .ok (.aload_n 1, 1) := by decide +kernel
theorem dL_acts_205 : decode cL_acts 205 = .ok (.iconst 4, 1) := by decide +kernel
theorem dL_acts_206 : decode cL_acts 206 = .ok (.iaload, 1) := by decide +kernel
theorem dL_acts_207 : decode cL_acts 207 = .ok (.iconst 1, 1) := by decide +kernel
theorem dL_acts_208 : decode cL_acts 208 = .ok (.isub, 1) := by decide +kernel
theorem dL_acts_209 : decode cL_acts 209 = .ok (.if_icmp .ne 7, 3) := by decide +kernel
theorem dL_acts_212 : decode cL_acts 212 = .ok (.iconst 1, 1) := by decide +kernel
theorem dL_acts_213 : decode cL_acts 213 = .ok (.goto 4, 3) := by decide +kernel
theorem dL_acts_216 : decode cL_acts 216 = .ok (.iconst 0, 1) := by decide +kernel
theorem dL_acts_217 : decode cL_acts 217 = .ok (.ireturn, 1) := by decide +kernel
theorem dL_acts_218 : decode cL_acts 218 = .ok (.iload 8, 2) := by decide +kernel
theorem dL_acts_220 : decode cL_acts 220 = .ok (.aload_n 1, 1) := by decide +kernel
theorem dL_acts_221 : decode cL_acts 221 = .ok (.iconst 4, 1) := by decide +kernel
theorem dL_acts_222 : decode cL_acts 222 = .ok (.iaload, 1) := by decide +kernel
theorem dL_acts_223 : decode cL_acts 223 = .ok (.irem, 1) := by decide +kernel
theorem dL_acts_224 : decode cL_acts 224 = .ok (.istore 10, 2) := by decide +kernel
theorem dL_acts_226 : decode cL_acts 226 = .ok (.iload 9, 2) := by decide +kernel
theorem dL_acts_228 : decode cL_acts 228 = .ok (.bipush 10, 2) := by decide +kernel
theorem dL_acts_230 : decode cL_acts 230 = .ok (.if_icmp .ge 121, 3) := by decide +kernel
theorem dL_acts_233 : decode cL_acts 233 = .ok (.aload_n 1, 1) := by decide +kernel
theorem dL_acts_234 : decode cL_acts 234 = .ok (.aload_n 3, 1) := by decide +kernel
theorem dL_acts_235 : decode cL_acts 235 = .ok (.iload 8, 2) := by decide +kernel
theorem dL_acts_237 : decode cL_acts 237 = .ok (.iconst 4, 1) := by decide +kernel
theorem dL_acts_238 : decode cL_acts 238 = .ok (.idiv, 1) := by decide +kernel
theorem dL_acts_239 : decode cL_acts 239 = .ok (.iconst 0, 1) := by decide +kernel
theorem dL_acts_240 : decode cL_acts 240 = .ok (.invokestatic 46, 3) := by decide +kernel
theorem dL_acts_243 : decode cL_acts 243 = .ok (.istore 11, 2) := by decide +kernel
theorem dL_acts_245 : decode cL_acts 245 = .ok (.aload_n 1, 1) := by decide +kernel
theorem dL_acts_246 : decode cL_acts 246 = .ok (.aload_n 3, 1) := by decide +kernel
theorem dL_acts_247 : decode cL_acts 247 = .ok (.iload 11, 2) := by decide +kernel
theorem dL_acts_249 : decode cL_acts 249 = .ok (.invokestatic 50, 3) := by decide +kernel
theorem dL_acts_252 : decode cL_acts 252 = .ok (.ifCond .ne 22, 3) := by decide +kernel
theorem dL_acts_255 : decode cL_acts 255 = .ok (.aload_n 0, 1) := by decide +kernel
theorem dL_acts_256 : decode cL_acts 256 = .ok (.iload 11, 2) := by decide +kernel
theorem dL_acts_258 : decode cL_acts 258 = .ok (.iload 10, 2) := by decide +kernel
theorem dL_acts_260 : decode cL_acts 260 = .ok (.invokevirtual 75, 3) := by decide +kernel
theorem dL_acts_263 : decode cL_acts 263 = .ok (.ldc 58, 2) := by decide +kernel
theorem dL_acts_265 : decode cL_acts 265 = .ok (.if_icmp .ne 7, 3) := by decide +kernel
theorem dL_acts_268 : decode cL_acts 268 = .ok (.iconst 1, 1) := by decide +kernel
theorem dL_acts_269 : decode cL_acts 269 = .ok (.goto 4, 3) := by decide +kernel
theorem dL_acts_272 : decode cL_acts 272 = .ok (.iconst 0, 1) := by decide +kernel
theorem dL_acts_273 : decode cL_acts 273 = .ok (.ireturn, 1) := by decide +kernel
theorem dL_acts_274 : decode cL_acts 274 = .ok (.aload_n 1, 1) := by decide +kernel
theorem dL_acts_275 : decode cL_acts 275 = .ok (.aload_n 2, 1) := by decide +kernel
theorem dL_acts_276 : decode cL_acts 276 = .ok (.aload_n 3, 1) := by decide +kernel
theorem dL_acts_277 : decode cL_acts 277 = .ok (.aload 5, 2) := by decide +kernel
theorem dL_acts_279 : decode cL_acts 279 = .ok (.iload 11, 2) := by decide +kernel
theorem dL_acts_281 : decode cL_acts 281 = .ok (.iload 10, 2) := by decide +kernel
theorem dL_acts_283 : decode cL_acts 283 = .ok (.invokestatic 19, 3) := by decide +kernel
theorem dL_acts_286 : decode cL_acts 286 = .ok (.ifCond .ne 22, 3) := by decide +kernel
theorem dL_acts_289 : decode cL_acts 289 = .ok (.aload_n 0, 1) := by decide +kernel
theorem dL_acts_290 : decode cL_acts 290 = .ok (.iload 11, 2) := by decide +kernel
theorem dL_acts_292 : decode cL_acts 292 = .ok (.iload 10, 2) := by decide +kernel
theorem dL_acts_294 : decode cL_acts 294 = .ok (.invokevirtual 75, 3) := by decide +kernel
theorem dL_acts_297 : decode cL_acts 297 = .ok (.ldc 59, 2) := by decide +kernel
theorem dL_acts_299 : decode cL_acts 299 = .ok (.if_icmp .ne 7, 3) := by decide +kernel
theorem dL_acts_302 : decode cL_acts 302 = .ok (.iconst 1, 1) := by decide +kernel
theorem dL_acts_303 : decode cL_acts 303 = .ok (.goto 4, 3) := by decide +kernel
theorem dL_acts_306 : decode cL_acts 306 = .ok (.iconst 0, 1) := by decide +kernel
theorem dL_acts_307 : decode cL_acts 307 = .ok (.ireturn, 1) := by decide +kernel
theorem dL_acts_308 : decode cL_acts 308 = .ok (.aload_n 3, 1) := by decide +kernel
theorem dL_acts_309 : decode cL_acts 309 = .ok (.iload 11, 2) := by decide +kernel
theorem dL_acts_311 : decode cL_acts 311 = .ok (.iload 10, 2) := by decide +kernel
theorem dL_acts_313 : decode cL_acts 313 = .ok (.invokestatic 23, 3) := by decide +kernel
theorem dL_acts_316 : decode cL_acts 316 = .ok (.aload_n 0, 1) := by decide +kernel
theorem dL_acts_317 : decode cL_acts 317 = .ok (.iload 11, 2) := by decide +kernel
theorem dL_acts_319 : decode cL_acts 319 = .ok (.iload 10, 2) := by decide +kernel
theorem dL_acts_321 : decode cL_acts 321 = .ok (.invokevirtual 75, 3) := by decide +kernel
theorem dL_acts_324 : decode cL_acts 324 = .ok (.aload 5, 2) := by decide +kernel
theorem dL_acts_326 : decode cL_acts 326 = .ok (.bipush 8, 2) := by decide +kernel
theorem dL_acts_328 : decode cL_acts 328 = .ok (.iload 10, 2) := by decide +kernel
theorem dL_acts_330 : decode cL_acts 330 = .ok (.imul, 1) := by decide +kernel
theorem dL_acts_331 : decode cL_acts 331 = .ok (.iaload, 1) := by decide +kernel
theorem dL_acts_332 : decode cL_acts 332 = .ok (.aload_n 1, 1) := by decide +kernel
theorem dL_acts_333 : decode cL_acts 333 = .ok (.aload_n 2, 1) := by decide +kernel
theorem dL_acts_334 : decode cL_acts 334 = .ok (.aload_n 3, 1) := by decide +kernel
theorem dL_acts_335 : decode cL_acts 335 = .ok (.iload 10, 2) := by decide +kernel
theorem dL_acts_337 : decode cL_acts 337 = .ok (.iconst 1, 1) := by decide +kernel
theorem dL_acts_338 : decode cL_acts 338 = .ok (.invokestatic 9, 3) := by decide +kernel
theorem dL_acts_341 : decode cL_acts 341 = .ok (.isub, 1) := by decide +kernel
theorem dL_acts_342 : decode cL_acts 342 = .ok (.if_icmp .ne 7, 3) := by decide +kernel
theorem dL_acts_345 : decode cL_acts 345 = .ok (.iconst 1, 1) := by decide +kernel
theorem dL_acts_346 : decode cL_acts 346 = .ok (.goto 4, 3) := by decide +kernel
theorem dL_acts_349 : decode cL_acts 349 = .ok (.iconst 0, 1) := by decide +kernel
theorem dL_acts_350 : decode cL_acts 350 = .ok (.ireturn, 1) := by decide +kernel
theorem dL_acts_351 : decode cL_acts 351 = .ok (.iload 9, 2) := by decide +kernel
theorem dL_acts_353 : decode cL_acts 353 = .ok (.bipush 10, 2) := by decide +kernel
theorem dL_acts_355 : decode cL_acts 355 = .ok (.if_icmp .ne 101, 3) := by decide +kernel
theorem dL_acts_358 : decode cL_acts 358 = .ok (.aload_n 1, 1) := by decide +kernel
theorem dL_acts_359 : decode cL_acts 359 = .ok (.aload_n 3, 1) := by decide +kernel
theorem dL_acts_360 : decode cL_acts 360 = .ok (.iload 8, 2) := by decide +kernel
theorem dL_acts_362 : decode cL_acts 362 = .ok (.iconst 4, 1) := by decide +kernel
theorem dL_acts_363 : decode cL_acts 363 = .ok (.idiv, 1) := by decide +kernel
theorem dL_acts_364 : decode cL_acts 364 = .ok (.iconst 1, 1) := by decide +kernel
theorem dL_acts_365 : decode cL_acts 365 = .ok (.invokestatic 46, 3) := by decide +kernel
theorem dL_acts_368 : decode cL_acts 368 = .ok (.istore 11, 2) := by decide +kernel
theorem dL_acts_370 : decode cL_acts 370 = .ok (.aload_n 1, 1) := by decide +kernel
theorem dL_acts_371 : decode cL_acts 371 = .ok (.aload_n 3, 1) := by decide +kernel
theorem dL_acts_372 : decode cL_acts 372 = .ok (.iload 11, 2) := by decide +kernel
theorem dL_acts_374 : decode cL_acts 374 = .ok (.invokestatic 50, 3) := by decide +kernel
theorem dL_acts_377 : decode cL_acts 377 = .ok (.ifCond .eq 15, 3) := by decide +kernel
theorem dL_acts_380 : decode cL_acts 380 = .ok (.aload_n 3, 1) := by decide +kernel
theorem dL_acts_381 : decode cL_acts 381 = .ok (.iconst 4, 1) := by decide +kernel
theorem dL_acts_382 : decode cL_acts 382 = .ok (.iload 11, 2) := by decide +kernel
theorem dL_acts_384 : decode cL_acts 384 = .ok (.imul, 1) := by decide +kernel
theorem dL_acts_385 : decode cL_acts 385 = .ok (.iconst 2, 1) := by decide +kernel
theorem dL_acts_386 : decode cL_acts 386 = .ok (.iadd, 1) := by decide +kernel
theorem dL_acts_387 : decode cL_acts 387 = .ok (.iaload, 1) := by decide +kernel
theorem dL_acts_388 : decode cL_acts 388 = .ok (.iconst 1, 1) := by decide +kernel
theorem dL_acts_389 : decode cL_acts 389 = .ok (.if_icmp .eq 35, 3) := by decide +kernel
theorem dL_acts_392 : decode cL_acts 392 = .ok (.aload_n 0, 1) := by decide +kernel
theorem dL_acts_393 : decode cL_acts 393 = .ok (.iload 11, 2) := by decide +kernel
theorem dL_acts_395 : decode cL_acts 395 = .ok (.invokevirtual 77, 3) := by decide +kernel
theorem dL_acts_398 : decode cL_acts 398 = .ok (.aload_n 1, 1) := by decide +kernel
theorem dL_acts_399 : decode cL_acts 399 = .ok (.aload_n 3, 1) := by decide +kernel
theorem dL_acts_400 : decode cL_acts 400 = .ok (.iload 11, 2) := by decide +kernel
theorem dL_acts_402 : decode cL_acts 402 = .ok (.invokestatic 50, 3) := by decide +kernel
theorem dL_acts_405 : decode cL_acts 405 = .ok (.ifCond .eq 8, 3) := by decide +kernel
theorem dL_acts_408 : decode cL_acts 408 = .ok (.ldc 59, 2) := by decide +kernel
theorem dL_acts_410 : decode cL_acts 410 = .ok (.goto 5, 3) := by decide +kernel
theorem dL_acts_413 : decode cL_acts 413 = .ok (.ldc 58, 2) := by decide +kernel
theorem dL_acts_415 : decode cL_acts 415 = .ok (.if_icmp .ne 7, 3) := by decide +kernel
theorem dL_acts_418 : decode cL_acts 418 = .ok (.iconst 1, 1) := by decide +kernel
theorem dL_acts_419 : decode cL_acts 419 = .ok (.goto 4, 3) := by decide +kernel
theorem dL_acts_422 : decode cL_acts 422 = .ok (.iconst 0, 1) := by decide +kernel
theorem dL_acts_423 : decode cL_acts 423 = .ok (.ireturn, 1) := by decide +kernel
theorem dL_acts_424 : decode cL_acts 424 = .ok (.aload_n 3, 1) := by decide +kernel
theorem dL_acts_425 : decode cL_acts 425 = .ok (.iconst 4, 1) := by decide +kernel
theorem dL_acts_426 : decode cL_acts 426 = .ok (.iload 11, 2) := by decide +kernel
theorem dL_acts_428 : decode cL_acts 428 = .ok (.imul, 1) := by decide +kernel
theorem dL_acts_429 : decode cL_acts 429 = .ok (.iconst 2, 1) := by decide +kernel
theorem dL_acts_430 : decode cL_acts 430 = .ok (.iadd, 1) := by decide +kernel
theorem dL_acts_431 : decode cL_acts 431 = .ok (.iconst 0, 1) := by decide +kernel
theorem dL_acts_432 : decode cL_acts 432 = .ok (.iastore, 1) := by decide +kernel
theorem dL_acts_433 : decode cL_acts 433 = .ok (.aload_n 0, 1) := by decide +kernel
theorem dL_acts_434 : decode cL_acts 434 = .ok (.iload 11, 2) := by decide +kernel
theorem dL_acts_436 : decode cL_acts 436 = .ok (.invokevirtual 77, 3) := by decide +kernel
theorem dL_acts_439 : decode cL_acts 439 = .ok (.aload_n 3, 1) := by decide +kernel
theorem dL_acts_440 : decode cL_acts 440 = .ok (.iconst 4, 1) := by decide +kernel
theorem dL_acts_441 : decode cL_acts 441 = .ok (.iload 11, 2) := by decide +kernel
theorem dL_acts_443 : decode cL_acts 443 = .ok (.imul, 1) := by decide +kernel
theorem dL_acts_444 : decode cL_acts 444 = .ok (.iconst 3, 1) := by decide +kernel
theorem dL_acts_445 : decode cL_acts 445 = .ok (.iadd, 1) := by decide +kernel
theorem dL_acts_446 : decode cL_acts 446 = .ok (.iaload, 1) := by decide +kernel
theorem dL_acts_447 : decode cL_acts 447 = .ok (.if_icmp .ne 7, 3) := by decide +kernel
theorem dL_acts_450 : decode cL_acts 450 = .ok (.iconst 1, 1) := by decide +kernel
theorem dL_acts_451 : decode cL_acts 451 = .ok (.goto 4, 3) := by decide +kernel
theorem dL_acts_454 : decode cL_acts 454 = .ok (.iconst 0, 1) := by decide +kernel
theorem dL_acts_455 : decode cL_acts 455 = .ok (.ireturn, 1) := by decide +kernel
theorem dL_acts_456 : decode cL_acts 456 = .ok (.iload 9, 2) := by decide +kernel
theorem dL_acts_458 : decode cL_acts 458 = .ok (.bipush 13, 2) := by decide +kernel
theorem dL_acts_460 : decode cL_acts 460 = .ok (.if_icmp .ge 116, 3) := by decide +kernel
theorem dL_acts_463 : decode cL_acts 463 = .ok (.iconst 1, 1) := by decide +kernel
theorem dL_acts_464 : decode cL_acts 464 = .ok (.iload 8, 2) := by decide +kernel
theorem dL_acts_466 : decode cL_acts 466 = .ok (.iconst 4, 1) := by decide +kernel
theorem dL_acts_467 : decode cL_acts 467 = .ok (.idiv, 1) := by decide +kernel
theorem dL_acts_468 : decode cL_acts 468 = .ok (.iconst 4, 1) := by decide +kernel
theorem dL_acts_469 : decode cL_acts 469 = .ok (.irem, 1) := by decide +kernel
theorem dL_acts_470 : decode cL_acts 470 = .ok (.iadd, 1) := by decide +kernel
theorem dL_acts_471 : decode cL_acts 471 = .ok (.istore 11, 2) := by decide +kernel
theorem dL_acts_473 : decode cL_acts 473 = .ok (.iload 8, 2) := by decide +kernel
theorem dL_acts_475 : decode cL_acts 475 = .ok (.bipush 16, 2) := by decide +kernel
theorem dL_acts_477 : decode cL_acts 477 = .ok (.idiv, 1) := by decide +kernel
theorem dL_acts_478 : decode cL_acts 478 = .ok (.iconst 3, 1) := by decide +kernel
theorem dL_acts_479 : decode cL_acts 479 = .ok (.irem, 1) := by decide +kernel
theorem dL_acts_480 : decode cL_acts 480 = .ok (.istore 12, 2) := by decide +kernel
theorem dL_acts_482 : decode cL_acts 482 = .ok (.aload 5, 2) := by decide +kernel
theorem dL_acts_484 : decode cL_acts 484 = .ok (.bipush 8, 2) := by decide +kernel
theorem dL_acts_486 : decode cL_acts 486 = .ok (.iload 10, 2) := by decide +kernel
theorem dL_acts_488 : decode cL_acts 488 = .ok (.imul, 1) := by decide +kernel
theorem dL_acts_489 : decode cL_acts 489 = .ok (.iconst 2, 1) := by decide +kernel
theorem dL_acts_490 : decode cL_acts 490 = .ok (.iadd, 1) := by decide +kernel
theorem dL_acts_491 : decode cL_acts 491 = .ok (.iaload, 1) := by decide +kernel
theorem dL_acts_492 : decode cL_acts 492 = .ok (.ifCond .le 24, 3) := by decide +kernel
theorem dL_acts_495 : decode cL_acts 495 = .ok (.aload_n 0, 1) := by decide +kernel
theorem dL_acts_496 : decode cL_acts 496 = .ok (.iload 10, 2) := by decide +kernel
theorem dL_acts_498 : decode cL_acts 498 = .ok (.iload 11, 2) := by decide +kernel
theorem dL_acts_500 : decode cL_acts 500 = .ok (.iload 12, 2) := by decide +kernel
theorem dL_acts_502 : decode cL_acts 502 = .ok (.invokevirtual 81, 3) := by decide +kernel
theorem dL_acts_505 : decode cL_acts 505 = .ok (.ldc 59, 2) := by decide +kernel
theorem dL_acts_507 : decode cL_acts 507 = .ok (.if_icmp .ne 7, 3) := by decide +kernel
theorem dL_acts_510 : decode cL_acts 510 = .ok (.iconst 1, 1) := by decide +kernel
theorem dL_acts_511 : decode cL_acts 511 = .ok (.goto 4, 3) := by decide +kernel
theorem dL_acts_514 : decode cL_acts 514 = .ok (.iconst 0, 1) := by decide +kernel
theorem dL_acts_515 : decode cL_acts 515 = .ok (.ireturn, 1) := by decide +kernel
theorem dL_acts_516 : decode cL_acts 516 = .ok (.iconst 0, 1) := by decide +kernel
theorem dL_acts_517 : decode cL_acts 517 = .ok (.istore 13, 2) := by decide +kernel
theorem dL_acts_519 : decode cL_acts 519 = .ok (.aload_n 1, 1) := by decide +kernel
theorem dL_acts_520 : decode cL_acts 520 = .ok (.aload_n 2, 1) := by decide +kernel
theorem dL_acts_521 : decode cL_acts 521 = .ok (.aload_n 3, 1) := by decide +kernel
theorem dL_acts_522 : decode cL_acts 522 = .ok (.aload 5, 2) := by decide +kernel
theorem dL_acts_524 : decode cL_acts 524 = .ok (.iload 10, 2) := by decide +kernel
theorem dL_acts_526 : decode cL_acts 526 = .ok (.iload 11, 2) := by decide +kernel
theorem dL_acts_528 : decode cL_acts 528 = .ok (.iload 12, 2) := by decide +kernel
theorem dL_acts_530 : decode cL_acts 530 = .ok (.invokestatic 84, 3) := by decide +kernel
theorem dL_acts_533 : decode cL_acts 533 = .ok (.istore 14, 2) := by decide +kernel
theorem dL_acts_535 : decode cL_acts 535 = .ok (.iload 14, 2) := by decide +kernel
theorem dL_acts_537 : decode cL_acts 537 = .ok (.ifCond .le 18, 3) := by decide +kernel
theorem dL_acts_540 : decode cL_acts 540 = .ok (.iinc 13 1, 3) := by decide +kernel
theorem dL_acts_543 : decode cL_acts 543 = .ok (.iload 14, 2) := by decide +kernel
theorem dL_acts_545 : decode cL_acts 545 = .ok (.iload 14, 2) := by decide +kernel
theorem dL_acts_547 : decode cL_acts 547 = .ok (.iconst 1, 1) := by decide +kernel
theorem dL_acts_548 : decode cL_acts 548 = .ok (.isub, 1) := by decide +kernel
theorem dL_acts_549 : decode cL_acts 549 = .ok (.iand, 1) := by decide +kernel
theorem dL_acts_550 : decode cL_acts 550 = .ok (.istore 14, 2) := by decide +kernel
theorem dL_acts_552 : decode cL_acts 552 = .ok (.goto (-17), 3) := by decide +kernel
theorem dL_acts_555 : decode cL_acts 555 = .ok (.aload_n 0, 1) := by decide +kernel
theorem dL_acts_556 : decode cL_acts 556 = .ok (.iload 10, 2) := by decide +kernel
theorem dL_acts_558 : decode cL_acts 558 = .ok (.iload 11, 2) := by decide +kernel
theorem dL_acts_560 : decode cL_acts 560 = .ok (.iload 12, 2) := by decide +kernel
theorem dL_acts_562 : decode cL_acts 562 = .ok (.invokevirtual 81, 3) := by decide +kernel
theorem dL_acts_565 : decode cL_acts 565 = .ok (.iload 13, 2) := by decide +kernel
theorem dL_acts_567 : decode cL_acts 567 = .ok (.if_icmp .ne 7, 3) := by decide +kernel
theorem dL_acts_570 : decode cL_acts 570 = .ok (.iconst 1, 1) := by decide +kernel
theorem dL_acts_571 : decode cL_acts 571 = .ok (.goto 4, 3) := by decide +kernel
theorem dL_acts_574 : decode cL_acts 574 = .ok (.iconst 0, 1) := by decide +kernel
theorem dL_acts_575 : decode cL_acts 575 = .ok (.ireturn, 1) := by decide +kernel
theorem dL_acts_576 : decode cL_acts 576 = .ok (.iload 9, 2) := by decide +kernel
theorem dL_acts_578 : decode cL_acts 578 = .ok (.bipush 17, 2) := by decide +kernel
theorem dL_acts_580 : decode cL_acts 580 = .ok (.if_icmp .ge 195, 3) := by decide +kernel
theorem dL_acts_583 : decode cL_acts 583 = .ok (.bipush 8, 2) := by decide +kernel
theorem dL_acts_585 : decode cL_acts 585 = .ok (.iload 10, 2) := by decide +kernel
theorem dL_acts_587 : decode cL_acts 587 = .ok (.imul, 1) := by decide +kernel
theorem dL_acts_588 : decode cL_acts 588 = .ok (.istore 11, 2) := by decide +kernel
theorem dL_acts_590 : decode cL_acts 590 = .ok (.aload 5, 2) := by decide +kernel
theorem dL_acts_592 : decode cL_acts 592 = .ok (.iload 11, 2) := by decide +kernel
theorem dL_acts_594 : decode cL_acts 594 = .ok (.iconst 2, 1) := by decide +kernel
theorem dL_acts_595 : decode cL_acts 595 = .ok (.iadd, 1) := by decide +kernel
theorem dL_acts_596 : decode cL_acts 596 = .ok (.iaload, 1) := by decide +kernel
theorem dL_acts_597 : decode cL_acts 597 = .ok (.ifCond .gt 15, 3) := by decide +kernel
theorem dL_acts_600 : decode cL_acts 600 = .ok (.aload_n 1, 1) := by decide +kernel
theorem dL_acts_601 : decode cL_acts 601 = .ok (.aload_n 2, 1) := by decide +kernel
theorem dL_acts_602 : decode cL_acts 602 = .ok (.aload_n 3, 1) := by decide +kernel
theorem dL_acts_603 : decode cL_acts 603 = .ok (.iload 10, 2) := by decide +kernel
theorem dL_acts_605 : decode cL_acts 605 = .ok (.iconst 0, 1) := by decide +kernel
theorem dL_acts_606 : decode cL_acts 606 = .ok (.invokestatic 9, 3) := by decide +kernel
theorem dL_acts_609 : decode cL_acts 609 = .ok (.ifCond .ne 20, 3) := by decide +kernel
theorem dL_acts_612 : decode cL_acts 612 = .ok (.aload_n 0, 1) := by decide +kernel
theorem dL_acts_613 : decode cL_acts 613 = .ok (.iload 10, 2) := by decide +kernel
theorem dL_acts_615 : decode cL_acts 615 = .ok (.invokevirtual 87, 3) := by decide +kernel
theorem dL_acts_618 : decode cL_acts 618 = .ok (.ldc 59, 2) := by decide +kernel
theorem dL_acts_620 : decode cL_acts 620 = .ok (.if_icmp .ne 7, 3) := by decide +kernel
theorem dL_acts_623 : decode cL_acts 623 = .ok (.iconst 1, 1) := by decide +kernel
theorem dL_acts_624 : decode cL_acts 624 = .ok (.goto 4, 3) := by decide +kernel
theorem dL_acts_627 : decode cL_acts 627 = .ok (.iconst 0, 1) := by decide +kernel
theorem dL_acts_628 : decode cL_acts 628 = .ok (.ireturn, 1) := by decide +kernel
theorem dL_acts_629 : decode cL_acts 629 = .ok (.aload 5, 2) := by decide +kernel
theorem dL_acts_631 : decode cL_acts 631 = .ok (.iload 11, 2) := by decide +kernel
theorem dL_acts_633 : decode cL_acts 633 = .ok (.iconst 3, 1) := by decide +kernel
theorem dL_acts_634 : decode cL_acts 634 = .ok (.iadd, 1) := by decide +kernel
theorem dL_acts_635 : decode cL_acts 635 = .ok (.aload_n 1, 1) := by decide +kernel
theorem dL_acts_636 : decode cL_acts 636 = .ok (.aload_n 2, 1) := by decide +kernel
theorem dL_acts_637 : decode cL_acts 637 = .ok (.aload_n 3, 1) := by decide +kernel
theorem dL_acts_638 : decode cL_acts 638 = .ok (.aload 5, 2) := by decide +kernel
theorem dL_acts_640 : decode cL_acts 640 = .ok (.iload 10, 2) := by decide +kernel
theorem dL_acts_642 : decode cL_acts 642 = .ok (.invokestatic 15, 3) := by decide +kernel
theorem dL_acts_645 : decode cL_acts 645 = .ok (.iastore, 1) := by decide +kernel
theorem dL_acts_646 : decode cL_acts 646 = .ok (.aload 5, 2) := by decide +kernel
theorem dL_acts_648 : decode cL_acts 648 = .ok (.iload 11, 2) := by decide +kernel
theorem dL_acts_650 : decode cL_acts 650 = .ok (.iconst 2, 1) := by decide +kernel
theorem dL_acts_651 : decode cL_acts 651 = .ok (.iadd, 1) := by decide +kernel
theorem dL_acts_652 : decode cL_acts 652 = .ok (.iconst 1, 1) := by decide +kernel
theorem dL_acts_653 : decode cL_acts 653 = .ok (.iastore, 1) := by decide +kernel
theorem dL_acts_654 : decode cL_acts 654 = .ok (.aload 5, 2) := by decide +kernel
theorem dL_acts_656 : decode cL_acts 656 = .ok (.iload 11, 2) := by decide +kernel
theorem dL_acts_658 : decode cL_acts 658 = .ok (.iconst 5, 1) := by decide +kernel
theorem dL_acts_659 : decode cL_acts 659 = .ok (.iadd, 1) := by decide +kernel
theorem dL_acts_660 : decode cL_acts 660 = .ok (.aload 5, 2) := by decide +kernel
theorem dL_acts_662 : decode cL_acts 662 = .ok (.iload 11, 2) := by decide +kernel
theorem dL_acts_664 : decode cL_acts 664 = .ok (.iconst 3, 1) := by decide +kernel
theorem dL_acts_665 : decode cL_acts 665 = .ok (.iadd, 1) := by decide +kernel
theorem dL_acts_666 : decode cL_acts 666 = .ok (.iaload, 1) := by decide +kernel
theorem dL_acts_667 : decode cL_acts 667 = .ok (.aload_n 1, 1) := by decide +kernel
theorem dL_acts_668 : decode cL_acts 668 = .ok (.iconst 0, 1) := by decide +kernel
theorem dL_acts_669 : decode cL_acts 669 = .ok (.iaload, 1) := by decide +kernel
theorem dL_acts_670 : decode cL_acts 670 = .ok (.imul, 1) := by decide +kernel
theorem dL_acts_671 : decode cL_acts 671 = .ok (.iastore, 1) := by decide +kernel
theorem dL_acts_672 : decode cL_acts 672 = .ok (.aload 5, 2) := by decide +kernel
theorem dL_acts_674 : decode cL_acts 674 = .ok (.iload 11, 2) := by decide +kernel
theorem dL_acts_676 : decode cL_acts 676 = .ok (.iconst 4, 1) := by decide +kernel
theorem dL_acts_677 : decode cL_acts 677 = .ok (.iadd, 1) := by decide +kernel
theorem dL_acts_678 : decode cL_acts 678 = .ok (.aload_n 1, 1) := by decide +kernel
theorem dL_acts_679 : decode cL_acts 679 = .ok (.iconst 5, 1) := by decide +kernel
theorem dL_acts_680 : decode cL_acts 680 = .ok (.iaload, 1) := by decide +kernel
theorem dL_acts_681 : decode cL_acts 681 = .ok (.aload 5, 2) := by decide +kernel
theorem dL_acts_683 : decode cL_acts 683 = .ok (.iload 11, 2) := by decide +kernel
theorem dL_acts_685 : decode cL_acts 685 = .ok (.iconst 5, 1) := by decide +kernel
theorem dL_acts_686 : decode cL_acts 686 = .ok (.iadd, 1) := by decide +kernel
theorem dL_acts_687 : decode cL_acts 687 = .ok (.iaload, 1) := by decide +kernel
theorem dL_acts_688 : decode cL_acts 688 = .ok (.iadd, 1) := by decide +kernel
theorem dL_acts_689 : decode cL_acts 689 = .ok (.iastore, 1) := by decide +kernel
theorem dL_acts_690 : decode cL_acts 690 = .ok (.iconst 0, 1) := by decide +kernel
theorem dL_acts_691 : decode cL_acts 691 = .ok (.istore 12, 2) := by decide +kernel
theorem dL_acts_693 : decode cL_acts 693 = .ok (.iload 12, 2) := by decide +kernel
theorem dL_acts_695 : decode cL_acts 695 = .ok (.aload_n 1, 1) := by decide +kernel
theorem dL_acts_696 : decode cL_acts 696 = .ok (.iconst 3, 1) := by decide +kernel
theorem dL_acts_697 : decode cL_acts 697 = .ok (.iaload, 1) := by decide +kernel
theorem dL_acts_698 : decode cL_acts 698 = .ok (.if_icmp .ge 55, 3) := by decide +kernel
theorem dL_acts_701 : decode cL_acts 701 = .ok (.aload_n 3, 1) := by decide +kernel
theorem dL_acts_702 : decode cL_acts 702 = .ok (.iconst 4, 1) := by decide +kernel
theorem dL_acts_703 : decode cL_acts 703 = .ok (.iload 12, 2) := by decide +kernel
theorem dL_acts_705 : decode cL_acts 705 = .ok (.imul, 1) := by decide +kernel
theorem dL_acts_706 : decode cL_acts 706 = .ok (.iconst 2, 1) := by decide +kernel
theorem dL_acts_707 : decode cL_acts 707 = .ok (.iadd, 1) := by decide +kernel
theorem dL_acts_708 : decode cL_acts 708 = .ok (.iaload, 1) := by decide +kernel
theorem dL_acts_709 : decode cL_acts 709 = .ok (.iconst 1, 1) := by decide +kernel
theorem dL_acts_710 : decode cL_acts 710 = .ok (.if_icmp .ne 37, 3) := by decide +kernel
theorem dL_acts_713 : decode cL_acts 713 = .ok (.aload_n 3, 1) := by decide +kernel
theorem dL_acts_714 : decode cL_acts 714 = .ok (.iconst 4, 1) := by decide +kernel
theorem dL_acts_715 : decode cL_acts 715 = .ok (.iload 12, 2) := by decide +kernel
theorem dL_acts_717 : decode cL_acts 717 = .ok (.imul, 1) := by decide +kernel
theorem dL_acts_718 : decode cL_acts 718 = .ok (.iconst 3, 1) := by decide +kernel
theorem dL_acts_719 : decode cL_acts 719 = .ok (.iadd, 1) := by decide +kernel
theorem dL_acts_720 : decode cL_acts 720 = .ok (.iaload, 1) := by decide +kernel
theorem dL_acts_721 : decode cL_acts 721 = .ok (.iload 10, 2) := by decide +kernel
theorem dL_acts_723 : decode cL_acts 723 = .ok (.if_icmp .ne 24, 3) := by decide +kernel
theorem dL_acts_726 : decode cL_acts 726 = .ok (.aload_n 3, 1) := by decide +kernel
theorem dL_acts_727 : decode cL_acts 727 = .ok (.iconst 4, 1) := by decide +kernel
theorem dL_acts_728 : decode cL_acts 728 = .ok (.iload 12, 2) := by decide +kernel
theorem dL_acts_730 : decode cL_acts 730 = .ok (.imul, 1) := by decide +kernel
theorem dL_acts_731 : decode cL_acts 731 = .ok (.iconst 2, 1) := by decide +kernel
theorem dL_acts_732 : decode cL_acts 732 = .ok (.iadd, 1) := by decide +kernel
theorem dL_acts_733 : decode cL_acts 733 = .ok (.iconst 2, 1) := by decide +kernel
theorem dL_acts_734 : decode cL_acts 734 = .ok (.iastore, 1) := by decide +kernel
theorem dL_acts_735 : decode cL_acts 735 = .ok (.aload 4, 2) := by decide +kernel
theorem dL_acts_737 : decode cL_acts 737 = .ok (.iconst 4, 1) := by decide +kernel
theorem dL_acts_738 : decode cL_acts 738 = .ok (.iload 12, 2) := by decide +kernel
theorem dL_acts_740 : decode cL_acts 740 = .ok (.imul, 1) := by decide +kernel
theorem dL_acts_741 : decode cL_acts 741 = .ok (.iconst 3, 1) := by decide +kernel
theorem dL_acts_742 : decode cL_acts 742 = .ok (.iadd, 1) := by decide +kernel
theorem dL_acts_743 : decode cL_acts 743 = .ok (.aload_n 1, 1) := by decide +kernel
theorem dL_acts_744 : decode cL_acts 744 = .ok (.iconst 5, 1) := by decide +kernel
theorem dL_acts_745 : decode cL_acts 745 = .ok (.iaload, 1) := by decide +kernel
theorem dL_acts_746 : decode cL_acts 746 = .ok (.iastore, 1) := by decide +kernel
theorem dL_acts_747 : decode cL_acts 747 = .ok (.iinc 12 1, 3) := by decide +kernel
theorem dL_acts_750 : decode cL_acts 750 = .ok (.goto (-57), 3) := by decide +kernel
theorem dL_acts_753 : decode cL_acts 753 = .ok (.aload_n 0, 1) := by decide +kernel
theorem dL_acts_754 : decode cL_acts 754 = .ok (.iload 10, 2) := by decide +kernel
theorem dL_acts_756 : decode cL_acts 756 = .ok (.invokevirtual 87, 3) := by decide +kernel
theorem dL_acts_759 : decode cL_acts 759 = .ok (.aload 5, 2) := by decide +kernel
theorem dL_acts_761 : decode cL_acts 761 = .ok (.iload 11, 2) := by decide +kernel
theorem dL_acts_763 : decode cL_acts 763 = .ok (.iconst 4, 1) := by decide +kernel
theorem dL_acts_764 : decode cL_acts 764 = .ok (.iadd, 1) := by decide +kernel
theorem dL_acts_765 : decode cL_acts 765 = .ok (.iaload, 1) := by decide +kernel
theorem dL_acts_766 : decode cL_acts 766 = .ok (.if_icmp .ne 7, 3) := by decide +kernel
theorem dL_acts_769 : decode cL_acts 769 = .ok (.iconst 1, 1) := by decide +kernel
theorem dL_acts_770 : decode cL_acts 770 = .ok (.goto 4, 3) := by decide +kernel
theorem dL_acts_773 : decode cL_acts 773 = .ok (.iconst 0, 1) := by decide +kernel
theorem dL_acts_774 : decode cL_acts 774 = .ok (.ireturn, 1) := by decide +kernel
theorem dL_acts_775 : decode cL_acts 775 = .ok (.iload 9, 2) := by decide +kernel
theorem dL_acts_777 : decode cL_acts 777 = .ok (.bipush 20, 2) := by decide +kernel
theorem dL_acts_779 : decode cL_acts 779 = .ok (.if_icmp .ge 205, 3) := by decide +kernel
theorem dL_acts_782 : decode cL_acts 782 = .ok (.iload 8, 2) := by decide +kernel
theorem dL_acts_784 : decode cL_acts 784 = .ok (.iconst 5, 1) := by decide +kernel
theorem dL_acts_785 : decode cL_acts 785 = .ok (.idiv, 1) := by decide +kernel
theorem dL_acts_786 : decode cL_acts 786 = .ok (.iload 8, 2) := by decide +kernel
theorem dL_acts_788 : decode cL_acts 788 = .ok (.iconst 2, 1) := by decide +kernel
theorem dL_acts_789 : decode cL_acts 789 = .ok (.irem, 1) := by decide +kernel
theorem dL_acts_790 : decode cL_acts 790 = .ok (.ifCond .ne 9, 3) := by decide +kernel
theorem dL_acts_793 : decode cL_acts 793 = .ok (.sipush 1000, 3) := by decide +kernel
theorem dL_acts_796 : decode cL_acts 796 = .ok (.goto 4, 3) := by decide +kernel
theorem dL_acts_799 : decode cL_acts 799 = .ok (.iconst 3, 1) := by decide +kernel
theorem dL_acts_800 : decode cL_acts 800 = .ok (.irem, 1) := by decide +kernel
theorem dL_acts_801 : decode cL_acts 801 = .ok (.istore 11, 2) := by decide +kernel
theorem dL_acts_803 : decode cL_acts 803 = .ok (.iload 8, 2) := by decide +kernel
theorem dL_acts_805 : decode cL_acts 805 = .ok (.bipush 9, 2) := by decide +kernel
theorem dL_acts_807 : decode cL_acts 807 = .ok (.idiv, 1) := by decide +kernel
theorem dL_acts_808 : decode cL_acts 808 = .ok (.iload 8, 2) := by decide +kernel
theorem dL_acts_810 : decode cL_acts 810 = .ok (.iconst 4, 1) := by decide +kernel
theorem dL_acts_811 : decode cL_acts 811 = .ok (.irem, 1) := by decide +kernel
theorem dL_acts_812 : decode cL_acts 812 = .ok (.ifCond .ne 8, 3) := by decide +kernel
theorem dL_acts_815 : decode cL_acts 815 = .ok (.bipush 100, 2) := by decide +kernel
theorem dL_acts_817 : decode cL_acts 817 = .ok (.goto 5, 3) := by decide +kernel
theorem dL_acts_820 : decode cL_acts 820 = .ok (.bipush 15, 2) := by decide +kernel
theorem dL_acts_822 : decode cL_acts 822 = .ok (.irem, 1) := by decide +kernel
theorem dL_acts_823 : decode cL_acts 823 = .ok (.istore 12, 2) := by decide +kernel
theorem dL_acts_825 : decode cL_acts 825 = .ok (.iconst 1, 1) := by decide +kernel
theorem dL_acts_826 : decode cL_acts 826 = .ok (.iload 8, 2) := by decide +kernel
theorem dL_acts_828 : decode cL_acts 828 = .ok (.bipush 11, 2) := by decide +kernel
theorem dL_acts_830 : decode cL_acts 830 = .ok (.idiv, 1) := by decide +kernel
theorem dL_acts_831 : decode cL_acts 831 = .ok (.bipush 30, 2) := by decide +kernel
theorem dL_acts_833 : decode cL_acts 833 = .ok (.irem, 1) := by decide +kernel
theorem dL_acts_834 : decode cL_acts 834 = .ok (.iadd, 1) := by decide +kernel
theorem dL_acts_835 : decode cL_acts 835 = .ok (.istore 13, 2) := by decide +kernel
theorem dL_acts_837 : decode cL_acts 837 = .ok (.iconst 1, 1) := by decide +kernel
theorem dL_acts_838 : decode cL_acts 838 = .ok (.iload 8, 2) := by decide +kernel
theorem dL_acts_840 : decode cL_acts 840 = .ok (.bipush 13, 2) := by decide +kernel
theorem dL_acts_842 : decode cL_acts 842 = .ok (.idiv, 1) := by decide +kernel
theorem dL_acts_843 : decode cL_acts 843 = .ok (.bipush 30, 2) := by decide +kernel
theorem dL_acts_845 : decode cL_acts 845 = .ok (.irem, 1) := by decide +kernel
theorem dL_acts_846 : decode cL_acts 846 = .ok (.iadd, 1) := by decide +kernel
theorem dL_acts_847 : decode cL_acts 847 = .ok (.istore 14, 2) := by decide +kernel
theorem dL_acts_849 : decode cL_acts 849 = .ok (.aload_n 1, 1) := by decide +kernel
theorem dL_acts_850 : decode cL_acts 850 = .ok (.bipush 6, 2) := by decide +kernel
theorem dL_acts_852 : decode cL_acts 852 = .ok (.iaload, 1) := by decide +kernel
theorem dL_acts_853 : decode cL_acts 853 = .ok (.bipush 10, 2) := by decide +kernel
theorem dL_acts_855 : decode cL_acts 855 = .ok (.if_icmp .ne 32, 3) := by decide +kernel
theorem dL_acts_858 : decode cL_acts 858 = .ok (.aload_n 0, 1) := by decide +kernel
theorem dL_acts_859 : decode cL_acts 859 = .ok (.iconst 1, 1) := by decide +kernel
theorem dL_acts_860 : decode cL_acts 860 = .ok (.iload 8, 2) := by decide +kernel
theorem dL_acts_862 : decode cL_acts 862 = .ok (.iconst 4, 1) := by decide +kernel
theorem dL_acts_863 : decode cL_acts 863 = .ok (.irem, 1) := by decide +kernel
theorem dL_acts_864 : decode cL_acts 864 = .ok (.iadd, 1) := by decide +kernel
theorem dL_acts_865 : decode cL_acts 865 = .ok (.iload 13, 2) := by decide +kernel
theorem dL_acts_867 : decode cL_acts 867 = .ok (.iload 14, 2) := by decide +kernel
theorem dL_acts_869 : decode cL_acts 869 = .ok (.iload 11, 2) := by decide +kernel
theorem dL_acts_871 : decode cL_acts 871 = .ok (.iload 12, 2) := by decide +kernel
theorem dL_acts_873 : decode cL_acts 873 = .ok (.invokevirtual 90, 3) := by decide +kernel
theorem dL_acts_876 : decode cL_acts 876 = .ok (.ldc 41, 2) := by decide +kernel
theorem dL_acts_878 : decode cL_acts 878 = .ok (.if_icmp .ne 7, 3) := by decide +kernel
theorem dL_acts_881 : decode cL_acts 881 = .ok (.iconst 1, 1) := by decide +kernel
theorem dL_acts_882 : decode cL_acts 882 = .ok (.goto 4, 3) := by decide +kernel
theorem dL_acts_885 : decode cL_acts 885 = .ok (.iconst 0, 1) := by decide +kernel
theorem dL_acts_886 : decode cL_acts 886 = .ok (.ireturn, 1) := by decide +kernel
theorem dL_acts_887 : decode cL_acts 887 = .ok (.iconst 5, 1) := by decide +kernel
theorem dL_acts_888 : decode cL_acts 888 = .ok (.aload_n 1, 1) := by decide +kernel
theorem dL_acts_889 : decode cL_acts 889 = .ok (.bipush 6, 2) := by decide +kernel
theorem dL_acts_891 : decode cL_acts 891 = .ok (.iaload, 1) := by decide +kernel
theorem dL_acts_892 : decode cL_acts 892 = .ok (.imul, 1) := by decide +kernel
theorem dL_acts_893 : decode cL_acts 893 = .ok (.istore 15, 2) := by decide +kernel
theorem dL_acts_895 : decode cL_acts 895 = .ok (.aload 6, 2) := by decide +kernel
theorem dL_acts_897 : decode cL_acts 897 = .ok (.iload 15, 2) := by decide +kernel
theorem dL_acts_899 : decode cL_acts 899 = .ok (.iconst 1, 1) := by decide +kernel
theorem dL_acts_900 : decode cL_acts 900 = .ok (.iload 8, 2) := by decide +kernel
theorem dL_acts_902 : decode cL_acts 902 = .ok (.iconst 4, 1) := by decide +kernel
theorem dL_acts_903 : decode cL_acts 903 = .ok (.irem, 1) := by decide +kernel
theorem dL_acts_904 : decode cL_acts 904 = .ok (.iadd, 1) := by decide +kernel
theorem dL_acts_905 : decode cL_acts 905 = .ok (.iastore, 1) := by decide +kernel
theorem dL_acts_906 : decode cL_acts 906 = .ok (.aload 6, 2) := by decide +kernel
theorem dL_acts_908 : decode cL_acts 908 = .ok (.iload 15, 2) := by decide +kernel
theorem dL_acts_910 : decode cL_acts 910 = .ok (.iconst 1, 1) := by decide +kernel
theorem dL_acts_911 : decode cL_acts 911 = .ok (.iadd, 1) := by decide +kernel
theorem dL_acts_912 : decode cL_acts 912 = .ok (.iload 13, 2) := by decide +kernel
theorem dL_acts_914 : decode cL_acts 914 = .ok (.iastore, 1) := by decide +kernel
theorem dL_acts_915 : decode cL_acts 915 = .ok (.aload 6, 2) := by decide +kernel
theorem dL_acts_917 : decode cL_acts 917 = .ok (.iload 15, 2) := by decide +kernel
theorem dL_acts_919 : decode cL_acts 919 = .ok (.iconst 2, 1) := by decide +kernel
theorem dL_acts_920 : decode cL_acts 920 = .ok (.iadd, 1) := by decide +kernel
theorem dL_acts_921 : decode cL_acts 921 = .ok (.iload 14, 2) := by decide +kernel
theorem dL_acts_923 : decode cL_acts 923 = .ok (.iastore, 1) := by decide +kernel
theorem dL_acts_924 : decode cL_acts 924 = .ok (.aload 6, 2) := by decide +kernel
theorem dL_acts_926 : decode cL_acts 926 = .ok (.iload 15, 2) := by decide +kernel
theorem dL_acts_928 : decode cL_acts 928 = .ok (.iconst 3, 1) := by decide +kernel
theorem dL_acts_929 : decode cL_acts 929 = .ok (.iadd, 1) := by decide +kernel
theorem dL_acts_930 : decode cL_acts 930 = .ok (.iload 11, 2) := by decide +kernel
theorem dL_acts_932 : decode cL_acts 932 = .ok (.iastore, 1) := by decide +kernel
theorem dL_acts_933 : decode cL_acts 933 = .ok (.aload 6, 2) := by decide +kernel
theorem dL_acts_935 : decode cL_acts 935 = .ok (.iload 15, 2) := by decide +kernel
theorem dL_acts_937 : decode cL_acts 937 = .ok (.iconst 4, 1) := by decide +kernel
theorem dL_acts_938 : decode cL_acts 938 = .ok (.iadd, 1) := by decide +kernel
theorem dL_acts_939 : decode cL_acts 939 = .ok (.aload_n 1, 1) := by decide +kernel
theorem dL_acts_940 : decode cL_acts 940 = .ok (.iconst 5, 1) := by decide +kernel
theorem dL_acts_941 : decode cL_acts 941 = .ok (.iaload, 1) := by decide +kernel
theorem dL_acts_942 : decode cL_acts 942 = .ok (.iload 12, 2) := by decide +kernel
theorem dL_acts_944 : decode cL_acts 944 = .ok (.iadd, 1) := by decide +kernel
theorem dL_acts_945 : decode cL_acts 945 = .ok (.iastore, 1) := by decide +kernel
theorem dL_acts_946 : decode cL_acts 946 = .ok (.aload_n 1, 1) := by decide +kernel
theorem dL_acts_947 : decode cL_acts 947 = .ok (.bipush 6, 2) := by decide +kernel
theorem dL_acts_949 : decode cL_acts 949 = .ok (.dup2, 1) := by decide +kernel
theorem dL_acts_950 : decode cL_acts 950 = .ok (.iaload, 1) := by decide +kernel
theorem dL_acts_951 : decode cL_acts 951 = .ok (.iconst 1, 1) := by decide +kernel
theorem dL_acts_952 : decode cL_acts 952 = .ok (.iadd, 1) := by decide +kernel
theorem dL_acts_953 : decode cL_acts 953 = .ok (.iastore, 1) := by decide +kernel
theorem dL_acts_954 : decode cL_acts 954 = .ok (.aload_n 0, 1) := by decide +kernel
theorem dL_acts_955 : decode cL_acts 955 = .ok (.aload 6, 2) := by decide +kernel
theorem dL_acts_957 : decode cL_acts 957 = .ok (.iload 15, 2) := by decide +kernel
theorem dL_acts_959 : decode cL_acts 959 = .ok (.iaload, 1) := by decide +kernel
theorem dL_acts_960 : decode cL_acts 960 = .ok (.iload 13, 2) := by decide +kernel
theorem dL_acts_962 : decode cL_acts 962 = .ok (.iload 14, 2) := by decide +kernel
theorem dL_acts_964 : decode cL_acts 964 = .ok (.iload 11, 2) := by decide +kernel
theorem dL_acts_966 : decode cL_acts 966 = .ok (.iload 12, 2) := by decide +kernel
theorem dL_acts_968 : decode cL_acts 968 = .ok (.invokevirtual 90, 3) := by decide +kernel
theorem dL_acts_971 : decode cL_acts 971 = .ok (.aload_n 1, 1) := by decide +kernel
theorem dL_acts_972 : decode cL_acts 972 = .ok (.bipush 6, 2) := by decide +kernel
theorem dL_acts_974 : decode cL_acts 974 = .ok (.iaload, 1) := by decide +kernel
theorem dL_acts_975 : decode cL_acts 975 = .ok (.if_icmp .ne 7, 3) := by decide +kernel
theorem dL_acts_978 : decode cL_acts 978 = .ok (.iconst 1, 1) := by decide +kernel
theorem dL_acts_979 : decode cL_acts 979 = .ok (.goto 4, 3) := by decide +kernel
theorem dL_acts_982 : decode cL_acts 982 = .ok (.iconst 0, 1) := by decide +kernel
theorem dL_acts_983 : decode cL_acts 983 = .ok (.ireturn, 1) := by decide +kernel
theorem dL_acts_984 : decode cL_acts 984 = .ok (.iload 9, 2) := by decide +kernel
theorem dL_acts_986 : decode cL_acts 986 = .ok (.bipush 25, 2) := by decide +kernel
theorem dL_acts_988 : decode cL_acts 988 = .ok (.if_icmp .ge 76, 3) := by decide +kernel
theorem dL_acts_991 : decode cL_acts 991 = .ok (.iconst 1, 1) := by decide +kernel
theorem dL_acts_992 : decode cL_acts 992 = .ok (.iload 8, 2) := by decide +kernel
theorem dL_acts_994 : decode cL_acts 994 = .ok (.iload 8, 2) := by decide +kernel
theorem dL_acts_996 : decode cL_acts 996 = .ok (.iconst 5, 1) := by decide +kernel
theorem dL_acts_997 : decode cL_acts 997 = .ok (.irem, 1) := by decide +kernel
theorem dL_acts_998 : decode cL_acts 998 = .ok (.ifCond .ne 8, 3) := by decide +kernel
theorem dL_acts_1001 : decode cL_acts 1001 = .ok (.bipush 30, 2) := by decide +kernel
theorem dL_acts_1003 : decode cL_acts 1003 = .ok (.goto 4, 3) := by decide +kernel
theorem dL_acts_1006 : decode cL_acts 1006 = .ok (.iconst 5, 1) := by decide +kernel
theorem dL_acts_1007 : decode cL_acts 1007 = .ok (.irem, 1) := by decide +kernel
theorem dL_acts_1008 : decode cL_acts 1008 = .ok (.iadd, 1) := by decide +kernel
theorem dL_acts_1009 : decode cL_acts 1009 = .ok (.istore 11, 2) := by decide +kernel
theorem dL_acts_1011 : decode cL_acts 1011 = .ok (.iconst 0, 1) := by decide +kernel
theorem dL_acts_1012 : decode cL_acts 1012 = .ok (.istore 12, 2) := by decide +kernel
theorem dL_acts_1014 : decode cL_acts 1014 = .ok (.iconst 0, 1) := by decide +kernel
theorem dL_acts_1015 : decode cL_acts 1015 = .ok (.istore 13, 2) := by decide +kernel
theorem dL_acts_1017 : decode cL_acts 1017 = .ok (.iload 13, 2) := by decide +kernel
theorem dL_acts_1019 : decode cL_acts 1019 = .ok (.iload 11, 2) := by decide +kernel
theorem dL_acts_1021 : decode cL_acts 1021 = .ok (.if_icmp .ge 26, 3) := by decide +kernel
theorem dL_acts_1024 : decode cL_acts 1024 = .ok (.iload 12, 2) := by decide +kernel
theorem dL_acts_1026 : decode cL_acts 1026 = .ok (.aload_n 1, 1) := by decide +kernel
theorem dL_acts_1027 : decode cL_acts 1027 = .ok (.aload_n 2, 1) := by decide +kernel
theorem dL_acts_1028 : decode cL_acts 1028 = .ok (.aload_n 3, 1) := by decide +kernel
theorem dL_acts_1029 : decode cL_acts 1029 = .ok (.aload 4, 2) := by decide +kernel
theorem dL_acts_1031 : decode cL_acts 1031 = .ok (.aload 5, 2) := by decide +kernel
theorem dL_acts_1033 : decode cL_acts 1033 = .ok (.aload 6, 2) := by decide +kernel
theorem dL_acts_1035 : decode cL_acts 1035 = .ok (.invokestatic 94, 3) := by decide +kernel
theorem dL_acts_1038 : decode cL_acts 1038 = .ok (.iadd, 1) := by decide +kernel
theorem dL_acts_1039 : decode cL_acts 1039 = .ok (.istore 12, 2) := by decide +kernel
theorem dL_acts_1041 : decode cL_acts 1041 = .ok (.iinc 13 1, 3) := by decide +kernel
theorem dL_acts_1044 : decode cL_acts 1044 = .ok (.goto (-27), 3) := by decide +kernel
theorem dL_acts_1047 : decode cL_acts 1047 = .ok (.aload_n 0, 1) := by decide +kernel
theorem dL_acts_1048 : decode cL_acts 1048 = .ok (.iload 11, 2) := by decide +kernel
theorem dL_acts_1050 : decode cL_acts 1050 = .ok (.invokevirtual 98, 3) := by decide +kernel
theorem dL_acts_1053 : decode cL_acts 1053 = .ok (.iload 12, 2) := by decide +kernel
theorem dL_acts_1055 : decode cL_acts 1055 = .ok (.if_icmp .ne 7, 3) := by decide +kernel
theorem dL_acts_1058 : decode cL_acts 1058 = .ok (.iconst 1, 1) := by decide +kernel
theorem dL_acts_1059 : decode cL_acts 1059 = .ok (.goto 4, 3) := by decide +kernel
theorem dL_acts_1062 : decode cL_acts 1062 = .ok (.iconst 0, 1) := by decide +kernel
theorem dL_acts_1063 : decode cL_acts 1063 = .ok (.ireturn, 1) := by decide +kernel
theorem dL_acts_1064 : decode cL_acts 1064 = .ok (.iload 8, 2) := by decide +kernel
theorem dL_acts_1066 : decode cL_acts 1066 = .ok (.iconst 3, 1) := by decide +kernel
theorem dL_acts_1067 : decode cL_acts 1067 = .ok (.irem, 1) := by decide +kernel
theorem dL_acts_1068 : decode cL_acts 1068 = .ok (.istore 11, 2) := by decide +kernel
theorem dL_acts_1070 : decode cL_acts 1070 = .ok (.aload_n 1, 1) := by decide +kernel
theorem dL_acts_1071 : decode cL_acts 1071 = .ok (.iload 11, 2) := by decide +kernel
theorem dL_acts_1073 : decode cL_acts 1073 = .ok (.iaload, 1) := by decide +kernel
theorem dL_acts_1074 : decode cL_acts 1074 = .ok (.istore 12, 2) := by decide +kernel
theorem dL_acts_1076 : decode cL_acts 1076 = .ok (.aload_n 1, 1) := by decide +kernel
theorem dL_acts_1077 : decode cL_acts 1077 = .ok (.iload 11, 2) := by decide +kernel
theorem dL_acts_1079 : decode cL_acts 1079 = .ok (.iload 11, 2) := by decide +kernel
theorem dL_acts_1081 : decode cL_acts 1081 = .ok (.ifCond .ne 15, 3) := by decide +kernel
theorem dL_acts_1084 : decode cL_acts 1084 = .ok (.iconst 1, 1) := by decide +kernel
theorem dL_acts_1085 : decode cL_acts 1085 = .ok (.iload 8, 2) := by decide +kernel
theorem dL_acts_1087 : decode cL_acts 1087 = .ok (.iconst 3, 1) := by decide +kernel
theorem dL_acts_1088 : decode cL_acts 1088 = .ok (.idiv, 1) := by decide +kernel
theorem dL_acts_1089 : decode cL_acts 1089 = .ok (.bipush 6, 2) := by decide +kernel
theorem dL_acts_1091 : decode cL_acts 1091 = .ok (.irem, 1) := by decide +kernel
theorem dL_acts_1092 : decode cL_acts 1092 = .ok (.iadd, 1) := by decide +kernel
theorem dL_acts_1093 : decode cL_acts 1093 = .ok (.goto 26, 3) := by decide +kernel
theorem dL_acts_1096 : decode cL_acts 1096 = .ok (.iload 11, 2) := by decide +kernel
theorem dL_acts_1098 : decode cL_acts 1098 = .ok (.iconst 1, 1) := by decide +kernel
theorem dL_acts_1099 : decode cL_acts 1099 = .ok (.if_icmp .ne 13, 3) := by decide +kernel
theorem dL_acts_1102 : decode cL_acts 1102 = .ok (.iload 8, 2) := by decide +kernel
theorem dL_acts_1104 : decode cL_acts 1104 = .ok (.iconst 3, 1) := by decide +kernel
theorem dL_acts_1105 : decode cL_acts 1105 = .ok (.idiv, 1) := by decide +kernel
theorem dL_acts_1106 : decode cL_acts 1106 = .ok (.bipush 20, 2) := by decide +kernel
theorem dL_acts_1108 : decode cL_acts 1108 = .ok (.irem, 1) := by decide +kernel
theorem dL_acts_1109 : decode cL_acts 1109 = .ok (.goto 10, 3) := by decide +kernel
theorem dL_acts_1112 : decode cL_acts 1112 = .ok (.iload 8, 2) := by decide +kernel
theorem dL_acts_1114 : decode cL_acts 1114 = .ok (.iconst 3, 1) := by decide +kernel
theorem dL_acts_1115 : decode cL_acts 1115 = .ok (.idiv, 1) := by decide +kernel
theorem dL_acts_1116 : decode cL_acts 1116 = .ok (.bipush 21, 2) := by decide +kernel
theorem dL_acts_1118 : decode cL_acts 1118 = .ok (.irem, 1) := by decide +kernel
theorem dL_acts_1119 : decode cL_acts 1119 = .ok (.iastore, 1) := by decide +kernel
theorem dL_acts_1120 : decode cL_acts 1120 = .ok (.aload_n 0, 1) := by decide +kernel
theorem dL_acts_1121 : decode cL_acts 1121 = .ok (.iload 11, 2) := by decide +kernel
theorem dL_acts_1123 : decode cL_acts 1123 = .ok (.aload_n 1, 1) := by decide +kernel
theorem dL_acts_1124 : decode cL_acts 1124 = .ok (.iload 11, 2) := by decide +kernel
theorem dL_acts_1126 : decode cL_acts 1126 = .ok (.iaload, 1) := by decide +kernel
theorem dL_acts_1127 : decode cL_acts 1127 = .ok (.invokevirtual 101, 3) := by decide +kernel
theorem dL_acts_1130 : decode cL_acts 1130 = .ok (.iload 12, 2) := by decide +kernel
theorem dL_acts_1132 : decode cL_acts 1132 = .ok (.if_icmp .ne 7, 3) := by decide +kernel
theorem dL_acts_1135 : decode cL_acts 1135 = .ok (.iconst 1, 1) := by decide +kernel
theorem dL_acts_1136 : decode cL_acts 1136 = .ok (.goto 4, 3) := by decide +kernel
theorem dL_acts_1139 : decode cL_acts 1139 = .ok (.iconst 0, 1) := by decide +kernel
theorem dL_acts_1140 : decode cL_acts 1140 = .ok (.ireturn, 1) := by decide +kernel
theorem dL_areGoods_0 : decode cL_areGoods 0 = .ok (.iconst 1, 1) := by decide +kernel
theorem dL_areGoods_1 : decode cL_areGoods 1 = .ok (.istore 5, 2) := by decide +kernel
theorem dL_areGoods_3 : decode cL_areGoods 3 = .ok (.iconst 0, 1) := by decide +kernel
theorem dL_areGoods_4 : decode cL_areGoods 4 = .ok (.istore 6, 2) := by decide +kernel
theorem dL_areGoods_6 : decode cL_areGoods 6 = .ok (.iload 6, 2) := by decide +kernel
theorem dL_areGoods_8 : decode cL_areGoods 8 = .ok (.bipush 16, 2) := by decide +kernel
theorem dL_areGoods_10 : decode cL_areGoods 10 = .ok (.if_icmp .ge 362, 3) := by decide +kernel
theorem dL_areGoods_13 : decode cL_areGoods 13 = .ok (.iload 5, 2) := by decide +kernel
theorem dL_areGoods_15 : decode cL_areGoods 15 = .ok (.ifCond .eq 357, 3) := by decide +kernel
theorem dL_areGoods_18 : decode cL_areGoods 18 = .ok (.iconst 4, 1) := by decide +kernel
theorem dL_areGoods_19 : decode cL_areGoods 19 = .ok (.iload 6, 2) := by decide +kernel
theorem dL_areGoods_21 : decode cL_areGoods 21 = .ok (.imul, 1) := by decide +kernel
theorem dL_areGoods_22 : decode cL_areGoods 22 = .ok (.istore 7, 2) := by decide +kernel
theorem dL_areGoods_24 : decode cL_areGoods 24 = .ok (.aload_n 1, 1) := by decide +kernel
theorem dL_areGoods_25 : decode cL_areGoods 25 = .ok (.aload_n 3, 1) := by decide +kernel
theorem dL_areGoods_26 : decode cL_areGoods 26 = .ok (.iload 6, 2) := by decide +kernel
theorem dL_areGoods_28 : decode cL_areGoods 28 = .ok (.invokestatic 50, 3) := by decide +kernel
theorem dL_areGoods_31 : decode cL_areGoods 31 = .ok (.ifCond .ne 25, 3) := by decide +kernel
theorem dL_areGoods_34 : decode cL_areGoods 34 = .ok (.aload_n 0, 1) := by decide +kernel
theorem dL_areGoods_35 : decode cL_areGoods 35 = .ok (.iload 6, 2) := by decide +kernel
theorem dL_areGoods_37 : decode cL_areGoods 37 = .ok (.iconst 0, 1) := by decide +kernel
theorem dL_areGoods_38 : decode cL_areGoods 38 = .ok (.invokevirtual 104, 3) := by decide +kernel
theorem dL_areGoods_41 : decode cL_areGoods 41 = .ok (.ldc 58, 2) := by decide +kernel
theorem dL_areGoods_43 : decode cL_areGoods 43 = .ok (.if_icmp .ne 7, 3) := by decide +kernel
theorem dL_areGoods_46 : decode cL_areGoods 46 = .ok (.iconst 1, 1) := by decide +kernel
theorem dL_areGoods_47 : decode cL_areGoods 47 = .ok (.goto 4, 3) := by decide +kernel
theorem dL_areGoods_50 : decode cL_areGoods 50 = .ok (.iconst 0, 1) := by decide +kernel
theorem dL_areGoods_51 : decode cL_areGoods 51 = .ok (.istore 5, 2) := by decide +kernel
theorem dL_areGoods_53 : decode cL_areGoods 53 = .ok (.goto 313, 3) := by decide +kernel
theorem dL_areGoods_56 : decode cL_areGoods 56 = .ok (.iconst 0, 1) := by decide +kernel
theorem dL_areGoods_57 : decode cL_areGoods 57 = .ok (.istore 8, 2) := by decide +kernel
theorem dL_areGoods_59 : decode cL_areGoods 59 = .ok (.iconst 0, 1) := by decide +kernel
theorem dL_areGoods_60 : decode cL_areGoods 60 = .ok (.istore 9, 2) := by decide +kernel
theorem dL_areGoods_62 : decode cL_areGoods 62 = .ok (.iload 9, 2) := by decide +kernel
theorem dL_areGoods_64 : decode cL_areGoods 64 = .ok (.aload_n 1, 1) := by decide +kernel
theorem dL_areGoods_65 : decode cL_areGoods 65 = .ok (.iconst 3, 1) := by decide +kernel
theorem dL_areGoods_66 : decode cL_areGoods 66 = .ok (.iaload, 1) := by decide +kernel
theorem dL_areGoods_67 : decode cL_areGoods 67 = .ok (.if_icmp .ge 51, 3) := by decide +kernel
theorem dL_areGoods_70 : decode cL_areGoods 70 = .ok (.iload 8, 2) := by decide +kernel
theorem dL_areGoods_72 : decode cL_areGoods 72 = .ok (.aload_n 1, 1) := by decide +kernel
theorem dL_areGoods_73 : decode cL_areGoods 73 = .ok (.aload_n 3, 1) := by decide +kernel
theorem dL_areGoods_74 : decode cL_areGoods 74 = .ok (.iload 9, 2) := by decide +kernel
theorem dL_areGoods_76 : decode cL_areGoods 76 = .ok (.invokestatic 50, 3) := by decide +kernel
theorem dL_areGoods_79 : decode cL_areGoods 79 = .ok (.ifCond .eq 29, 3) := by decide +kernel
theorem dL_areGoods_82 : decode cL_areGoods 82 = .ok (.aload 4, 2) := by decide +kernel
theorem dL_areGoods_84 : decode cL_areGoods 84 = .ok (.iconst 4, 1) := by decide +kernel
theorem dL_areGoods_85 : decode cL_areGoods 85 = .ok (.iload 9, 2) := by decide +kernel
theorem dL_areGoods_87 : decode cL_areGoods 87 = .ok (.imul, 1) := by decide +kernel
theorem dL_areGoods_88 : decode cL_areGoods 88 = .ok (.iconst 1, 1) := by decide +kernel
theorem dL_areGoods_89 : decode cL_areGoods 89 = .ok (.iadd, 1) := by decide +kernel
theorem dL_areGoods_90 : decode cL_areGoods 90 = .ok (.iaload, 1) := by decide +kernel
theorem dL_areGoods_91 : decode cL_areGoods 91 = .ok (.aload 4, 2) := by decide +kernel
theorem dL_areGoods_93 : decode cL_areGoods 93 = .ok (.iload 7, 2) := by decide +kernel
theorem dL_areGoods_95 : decode cL_areGoods 95 = .ok (.iconst 1, 1) := by decide +kernel
theorem dL_areGoods_96 : decode cL_areGoods 96 = .ok (.iadd, 1) := by decide +kernel
theorem dL_areGoods_97 : decode cL_areGoods 97 = .ok (.iaload, 1) := by decide +kernel
theorem dL_areGoods_98 : decode cL_areGoods 98 = .ok (.if_icmp .ne 10, 3) := by decide +kernel
theorem dL_areGoods_101 : decode cL_areGoods 101 = .ok (.iconst 1, 1) := by decide +kernel
theorem dL_areGoods_102 : decode cL_areGoods 102 = .ok (.iload 9, 2) := by decide +kernel
theorem dL_areGoods_104 : decode cL_areGoods 104 = .ok (.ishl, 1) := by decide +kernel
theorem dL_areGoods_105 : decode cL_areGoods 105 = .ok (.goto 4, 3) := by decide +kernel
theorem dL_areGoods_108 : decode cL_areGoods 108 = .ok (.iconst 0, 1) := by decide +kernel
theorem dL_areGoods_109 : decode cL_areGoods 109 = .ok (.iadd, 1) := by decide +kernel
theorem dL_areGoods_110 : decode cL_areGoods 110 = .ok (.istore 8, 2) := by decide +kernel
theorem dL_areGoods_112 : decode cL_areGoods 112 = .ok (.iinc 9 1, 3) := by decide +kernel
theorem dL_areGoods_115 : decode cL_areGoods 115 = .ok (.goto (-53), 3) := by decide +kernel
theorem dL_areGoods_118 : decode cL_areGoods 118 = .ok (.aload_n 3, 1) := by decide +kernel
theorem dL_areGoods_119 : decode cL_areGoods 119 = .ok (.iload 7, 2) := by decide +kernel
theorem dL_areGoods_121 : decode cL_areGoods 121 = .ok (.iconst 2, 1) := by decide +kernel
theorem dL_areGoods_122 : decode cL_areGoods 122 = .ok (.iadd, 1) := by decide +kernel
theorem dL_areGoods_123 : decode cL_areGoods 123 = .ok (.iaload, 1) := by decide +kernel
theorem dL_areGoods_124 : decode cL_areGoods 124 = .ok (.iconst 2, 1) := by decide +kernel
theorem dL_areGoods_125 : decode cL_areGoods 125 = .ok (.if_icmp .ge 9, 3) := by decide +kernel
theorem dL_areGoods_128 : decode cL_areGoods 128 = .ok (.aload_n 1, 1) := by decide +kernel
theorem dL_areGoods_129 : decode cL_areGoods 129 = .ok (.iconst 5, 1) := by decide +kernel
theorem dL_areGoods_130 : decode cL_areGoods 130 = .ok (.iaload, 1) := by decide +kernel
theorem dL_areGoods_131 : decode cL_areGoods 131 = .ok (.goto 10, 3) := by decide +kernel
theorem dL_areGoods_134 : decode cL_areGoods 134 = .ok (.aload 4, 2) := by decide +kernel
theorem dL_areGoods_136 : decode cL_areGoods 136 = .ok (.iload 7, 2) := by decide +kernel
theorem dL_areGoods_138 : decode cL_areGoods 138 = .ok (.iconst 3, 1) := by decide +kernel
theorem dL_areGoods_139 : decode cL_areGoods 139 = .ok (.iadd, 1) := by decide +kernel
theorem dL_areGoods_140 : decode cL_areGoods 140 = .ok (.iaload, 1) := by decide +kernel
theorem dL_areGoods_141 : decode cL_areGoods 141 = .ok (.aload 4, 2) := by decide +kernel
theorem dL_areGoods_143 : decode cL_areGoods 143 = .ok (.iload 7, 2) := by decide +kernel
theorem dL_areGoods_145 : decode cL_areGoods 145 = .ok (.iconst 2, 1) := by decide +kernel
theorem dL_areGoods_146 : decode cL_areGoods 146 = .ok (.iadd, 1) := by decide +kernel
theorem dL_areGoods_147 : decode cL_areGoods 147 = .ok (.iaload, 1) := by decide +kernel
theorem dL_areGoods_148 : decode cL_areGoods 148 = .ok (.isub, 1) := by decide +kernel
theorem dL_areGoods_149 : decode cL_areGoods 149 = .ok (.istore 9, 2) := by decide +kernel
theorem dL_areGoods_151 : decode cL_areGoods 151 = .ok (.aload_n 0, 1) := by decide +kernel
theorem dL_areGoods_152 : decode cL_areGoods 152 = .ok (.iload 6, 2) := by decide +kernel
theorem dL_areGoods_154 : decode cL_areGoods 154 = .ok (.iconst 0, 1) := by decide +kernel
theorem dL_areGoods_155 : decode cL_areGoods 155 = .ok (.invokevirtual 104, 3) := by decide +kernel
theorem dL_areGoods_158 : decode cL_areGoods 158 = .ok (.aload_n 2, 1) := by decide +kernel
theorem dL_areGoods_159 : decode cL_areGoods 159 = .ok (.iload 7, 2) := by decide +kernel
theorem dL_areGoods_161 : decode cL_areGoods 161 = .ok (.iaload, 1) := by decide +kernel
theorem dL_areGoods_162 : decode cL_areGoods 162 = .ok (.if_icmp .ne 201, 3) := by decide +kernel
theorem dL_areGoods_165 : decode cL_areGoods 165 = .ok (.aload_n 0, 1) := by decide +kernel
theorem dL_areGoods_166 : decode cL_areGoods 166 = .ok (.iload 6, 2) := by decide +kernel
theorem dL_areGoods_168 : decode cL_areGoods 168 = .ok (.iconst 1, 1) := by decide +kernel
theorem dL_areGoods_169 : decode cL_areGoods 169 = .ok (.invokevirtual 104, 3) := by decide +kernel
theorem dL_areGoods_172 : decode cL_areGoods 172 = .ok (.aload_n 2, 1) := by decide +kernel
theorem dL_areGoods_173 : decode cL_areGoods 173 = .ok (.iload 7, 2) := by decide +kernel
theorem dL_areGoods_175 : decode cL_areGoods 175 = .ok (.iconst 1, 1) := by decide +kernel
theorem dL_areGoods_176 : decode cL_areGoods 176 = .ok (.iadd, 1) := by decide +kernel
theorem dL_areGoods_177 : decode cL_areGoods 177 = .ok (.iaload, 1) := by decide +kernel
theorem dL_areGoods_178 : decode cL_areGoods 178 = .ok (.if_icmp .ne 185, 3) := by decide +kernel
theorem dL_areGoods_181 : decode cL_areGoods 181 = .ok (.aload_n 0, 1) := by decide +kernel
theorem dL_areGoods_182 : decode cL_areGoods 182 = .ok (.iload 6, 2) := by decide +kernel
theorem dL_areGoods_184 : decode cL_areGoods 184 = .ok (.iconst 2, 1) := by decide +kernel
theorem dL_areGoods_185 : decode cL_areGoods 185 = .ok (.invokevirtual 104, 3) := by decide +kernel
theorem dL_areGoods_188 : decode cL_areGoods 188 = .ok (.aload_n 2, 1) := by decide +kernel
theorem dL_areGoods_189 : decode cL_areGoods 189 = .ok (.iload 7, 2) := by decide +kernel
theorem dL_areGoods_191 : decode cL_areGoods 191 = .ok (.iconst 2, 1) := by decide +kernel
theorem dL_areGoods_192 : decode cL_areGoods 192 = .ok (.iadd, 1) := by decide +kernel
theorem dL_areGoods_193 : decode cL_areGoods 193 = .ok (.iaload, 1) := by decide +kernel
theorem dL_areGoods_194 : decode cL_areGoods 194 = .ok (.if_icmp .ne 169, 3) := by decide +kernel
theorem dL_areGoods_197 : decode cL_areGoods 197 = .ok (.aload_n 0, 1) := by decide +kernel
theorem dL_areGoods_198 : decode cL_areGoods 198 = .ok (.iload 6, 2) := by decide +kernel
theorem dL_areGoods_200 : decode cL_areGoods 200 = .ok (.iconst 3, 1) := by decide +kernel
theorem dL_areGoods_201 : decode cL_areGoods 201 = .ok (.invokevirtual 104, 3) := by decide +kernel
theorem dL_areGoods_204 : decode cL_areGoods 204 = .ok (.aload_n 3, 1) := by decide +kernel
theorem dL_areGoods_205 : decode cL_areGoods 205 = .ok (.iload 7, 2) := by decide +kernel
theorem dL_areGoods_207 : decode cL_areGoods 207 = .ok (.iaload, 1) := by decide +kernel
theorem dL_areGoods_208 : decode cL_areGoods 208 = .ok (.if_icmp .ne 155, 3) := by decide +kernel
theorem dL_areGoods_211 : decode cL_areGoods 211 = .ok (.aload_n 0, 1) := by decide +kernel
theorem dL_areGoods_212 : decode cL_areGoods 212 = .ok (.iload 6, 2) := by decide +kernel
theorem dL_areGoods_214 : decode cL_areGoods 214 = .ok (.iconst 4, 1) := by decide +kernel
theorem dL_areGoods_215 : decode cL_areGoods 215 = .ok (.invokevirtual 104, 3) := by decide +kernel
theorem dL_areGoods_218 : decode cL_areGoods 218 = .ok (.aload_n 3, 1) := by decide +kernel
theorem dL_areGoods_219 : decode cL_areGoods 219 = .ok (.iload 7, 2) := by decide +kernel
theorem dL_areGoods_221 : decode cL_areGoods 221 = .ok (.iconst 1, 1) := by decide +kernel
theorem dL_areGoods_222 : decode cL_areGoods 222 = .ok (.iadd, 1) := by decide +kernel
theorem dL_areGoods_223 : decode cL_areGoods 223 = .ok (.iaload, 1) := by decide +kernel
theorem dL_areGoods_224 : decode cL_areGoods 224 = .ok (.if_icmp .ne 139, 3) := by decide +kernel
theorem dL_areGoods_227 : decode cL_areGoods 227 = .ok (.aload_n 0, 1) := by decide +kernel
theorem dL_areGoods_228 : decode cL_areGoods 228 = .ok (.iload 6, 2) := by decide +kernel
theorem dL_areGoods_230 : decode cL_areGoods 230 = .ok (.iconst 5, 1) := by decide +kernel
theorem dL_areGoods_231 : decode cL_areGoods 231 = .ok (.invokevirtual 104, 3) := by decide +kernel
theorem dL_areGoods_234 : decode cL_areGoods 234 = .ok (.aload_n 2, 1) := by decide +kernel
theorem dL_areGoods_235 : decode cL_areGoods 235 = .ok (.iload 7, 2) := by decide +kernel
theorem dL_areGoods_237 : decode cL_areGoods 237 = .ok (.iconst 3, 1) := by decide +kernel
theorem dL_areGoods_238 : decode cL_areGoods 238 = .ok (.iadd, 1) := by decide +kernel
theorem dL_areGoods_239 : decode cL_areGoods 239 = .ok (.iaload, 1) := by decide +kernel
theorem dL_areGoods_240 : decode cL_areGoods 240 = .ok (.if_icmp .ne 123, 3) := by decide +kernel
theorem dL_areGoods_243 : decode cL_areGoods 243 = .ok (.aload_n 0, 1) := by decide +kernel
theorem dL_areGoods_244 : decode cL_areGoods 244 = .ok (.iload 6, 2) := by decide +kernel
theorem dL_areGoods_246 : decode cL_areGoods 246 = .ok (.bipush 6, 2) := by decide +kernel
theorem dL_areGoods_248 : decode cL_areGoods 248 = .ok (.invokevirtual 104, 3) := by decide +kernel
theorem dL_areGoods_251 : decode cL_areGoods 251 = .ok (.aload_n 3, 1) := by decide +kernel
theorem dL_areGoods_252 : decode cL_areGoods 252 = .ok (.iload 7, 2) := by decide +kernel
theorem dL_areGoods_254 : decode cL_areGoods 254 = .ok (.iconst 2, 1) := by decide +kernel
theorem dL_areGoods_255 : decode cL_areGoods 255 = .ok (.iadd, 1) := by decide +kernel
theorem dL_areGoods_256 : decode cL_areGoods 256 = .ok (.iaload, 1) := by decide +kernel
theorem dL_areGoods_257 : decode cL_areGoods 257 = .ok (.if_icmp .ne 106, 3) := by decide +kernel
theorem dL_areGoods_260 : decode cL_areGoods 260 = .ok (.aload_n 0, 1) := by decide +kernel
theorem dL_areGoods_261 : decode cL_areGoods 261 = .ok (.iload 6, 2) := by decide +kernel
theorem dL_areGoods_263 : decode cL_areGoods 263 = .ok (.bipush 7, 2) := by decide +kernel
theorem dL_areGoods_265 : decode cL_areGoods 265 = .ok (.invokevirtual 104, 3) := by decide +kernel
theorem dL_areGoods_268 : decode cL_areGoods 268 = .ok (.aload_n 3, 1) := by decide +kernel
theorem dL_areGoods_269 : decode cL_areGoods 269 = .ok (.iload 7, 2) := by decide +kernel
theorem dL_areGoods_271 : decode cL_areGoods 271 = .ok (.iconst 3, 1) := by decide +kernel
theorem dL_areGoods_272 : decode cL_areGoods 272 = .ok (.iadd, 1) := by decide +kernel
theorem dL_areGoods_273 : decode cL_areGoods 273 = .ok (.iaload, 1) := by decide +kernel
theorem dL_areGoods_274 : decode cL_areGoods 274 = .ok (.ifCond .ge 8, 3) := by decide +kernel
theorem dL_areGoods_277 : decode cL_areGoods 277 = .ok (.ldc 107, 2) := by decide +kernel
theorem dL_areGoods_279 : decode cL_areGoods 279 = .ok (.goto 9, 3) := by decide +kernel
theorem dL_areGoods_282 : decode cL_areGoods 282 = .ok (.aload_n 3, 1) := by decide +kernel
theorem dL_areGoods_283 : decode cL_areGoods 283 = .ok (.iload 7, 2) := by decide +kernel
theorem dL_areGoods_285 : decode cL_areGoods 285 = .ok (.iconst 3, 1) := by decide +kernel
theorem dL_areGoods_286 : decode cL_areGoods 286 = .ok (.iadd, 1) := by decide +kernel
theorem dL_areGoods_287 : decode cL_areGoods 287 = .ok (.iaload, 1) := by decide +kernel
theorem dL_areGoods_288 : decode cL_areGoods 288 = .ok (.if_icmp .ne 75, 3) := by decide +kernel
theorem dL_areGoods_291 : decode cL_areGoods 291 = .ok (.aload_n 0, 1) := by decide +kernel
theorem dL_areGoods_292 : decode cL_areGoods 292 = .ok (.iload 6, 2) := by decide +kernel
theorem dL_areGoods_294 : decode cL_areGoods 294 = .ok (.bipush 8, 2) := by decide +kernel
theorem dL_areGoods_296 : decode cL_areGoods 296 = .ok (.invokevirtual 104, 3) := by decide +kernel
theorem dL_areGoods_299 : decode cL_areGoods 299 = .ok (.aload 4, 2) := by decide +kernel
theorem dL_areGoods_301 : decode cL_areGoods 301 = .ok (.iload 7, 2) := by decide +kernel
theorem dL_areGoods_303 : decode cL_areGoods 303 = .ok (.iaload, 1) := by decide +kernel
theorem dL_areGoods_304 : decode cL_areGoods 304 = .ok (.ifCond .ge 8, 3) := by decide +kernel
theorem dL_areGoods_307 : decode cL_areGoods 307 = .ok (.ldc 107, 2) := by decide +kernel
theorem dL_areGoods_309 : decode cL_areGoods 309 = .ok (.goto 8, 3) := by decide +kernel
theorem dL_areGoods_312 : decode cL_areGoods 312 = .ok (.aload 4, 2) := by decide +kernel
theorem dL_areGoods_314 : decode cL_areGoods 314 = .ok (.iload 7, 2) := by decide +kernel
theorem dL_areGoods_316 : decode cL_areGoods 316 = .ok (.iaload, 1) := by decide +kernel
theorem dL_areGoods_317 : decode cL_areGoods 317 = .ok (.if_icmp .ne 46, 3) := by decide +kernel
theorem dL_areGoods_320 : decode cL_areGoods 320 = .ok (.aload_n 0, 1) := by decide +kernel
theorem dL_areGoods_321 : decode cL_areGoods 321 = .ok (.iload 6, 2) := by decide +kernel
theorem dL_areGoods_323 : decode cL_areGoods 323 = .ok (.bipush 9, 2) := by decide +kernel
theorem dL_areGoods_325 : decode cL_areGoods 325 = .ok (.invokevirtual 104, 3) := by decide +kernel
theorem dL_areGoods_328 : decode cL_areGoods 328 = .ok (.iload 8, 2) := by decide +kernel
theorem dL_areGoods_330 : decode cL_areGoods 330 = .ok (.if_icmp .ne 33, 3) := by decide +kernel
theorem dL_areGoods_333 : decode cL_areGoods 333 = .ok (.aload_n 0, 1) := by decide +kernel
theorem dL_areGoods_334 : decode cL_areGoods 334 = .ok (.iload 6, 2) := by decide +kernel
theorem dL_areGoods_336 : decode cL_areGoods 336 = .ok (.bipush 10, 2) := by decide +kernel
theorem dL_areGoods_338 : decode cL_areGoods 338 = .ok (.invokevirtual 104, 3) := by decide +kernel
theorem dL_areGoods_341 : decode cL_areGoods 341 = .ok (.iload 9, 2) := by decide +kernel
theorem dL_areGoods_343 : decode cL_areGoods 343 = .ok (.if_icmp .ne 20, 3) := by decide +kernel
theorem dL_areGoods_346 : decode cL_areGoods 346 = .ok (.aload_n 0, 1) := by decide +kernel
theorem dL_areGoods_347 : decode cL_areGoods 347 = .ok (.iload 6, 2) := by decide +kernel
theorem dL_areGoods_349 : decode cL_areGoods 349 = .ok (.bipush 11, 2) := by decide +kernel
theorem dL_areGoods_351 : decode cL_areGoods 351 = .ok (.invokevirtual 104, 3) := by decide +kernel
theorem dL_areGoods_354 : decode cL_areGoods 354 = .ok (.ldc 58, 2) := by decide +kernel
theorem dL_areGoods_356 : decode cL_areGoods 356 = .ok (.if_icmp .ne 7, 3) := by decide +kernel
theorem dL_areGoods_359 : decode cL_areGoods 359 = .ok (.iconst 1, 1) := by decide +kernel
theorem dL_areGoods_360 : decode cL_areGoods 360 = .ok (.goto 4, 3) := by decide +kernel
theorem dL_areGoods_363 : decode cL_areGoods 363 = .ok (.iconst 0, 1) := by decide +kernel
theorem dL_areGoods_364 : decode cL_areGoods 364 = .ok (.istore 5, 2) := by decide +kernel
theorem dL_areGoods_366 : decode cL_areGoods 366 = .ok (.iinc 6 1, 3) := by decide +kernel
theorem dL_areGoods_369 : decode cL_areGoods 369 = .ok (.goto (-363), 3) := by decide +kernel
theorem dL_areGoods_372 : decode cL_areGoods 372 = .ok (.iload 5, 2) := by decide +kernel
theorem dL_areGoods_374 : decode cL_areGoods 374 = .ok (.ireturn, 1) := by decide +kernel
theorem dL_isSo_0 : decode cL_isSo 0 = .ok (.aload_n 0, 1) := by decide +kernel
theorem dL_isSo_1 : decode cL_isSo 1 = .ok (.aload_n 1, 1) := by decide +kernel
theorem dL_isSo_2 : decode cL_isSo 2 = .ok (.aload_n 2, 1) := by decide +kernel
theorem dL_isSo_3 : decode cL_isSo 3 = .ok (.aload_n 3, 1) := by decide +kernel
theorem dL_isSo_4 : decode cL_isSo 4 = .ok (.aload 4, 2) := by decide +kernel
theorem dL_isSo_6 : decode cL_isSo 6 = .ok (.invokestatic 108, 3) := by decide +kernel
theorem dL_isSo_9 : decode cL_isSo 9 = .ok (.istore 7, 2) := by decide +kernel
theorem dL_isSo_11 : decode cL_isSo 11 = .ok (.iconst 0, 1) := by decide +kernel
theorem dL_isSo_12 : decode cL_isSo 12 = .ok (.istore 8, 2) := by decide +kernel
theorem dL_isSo_14 : decode cL_isSo 14 = .ok (.iload 8, 2) := by decide +kernel
theorem dL_isSo_16 : decode cL_isSo 16 = .ok (.aload_n 1, 1) := by decide +kernel
theorem dL_isSo_17 : decode cL_isSo 17 = .ok (.iconst 4, 1) := by decide +kernel
theorem dL_isSo_18 : decode cL_isSo 18 = .ok (.iaload, 1) := by decide +kernel
theorem dL_isSo_19 : decode cL_isSo 19 = .ok (.if_icmp .ge 299, 3) := by decide +kernel
theorem dL_isSo_22 : decode cL_isSo 22 = .ok (.iload 7, 2) := by decide +kernel
theorem dL_isSo_24 : decode cL_isSo 24 = .ok (.ifCond .eq 294, 3) := by decide +kernel
theorem dL_isSo_27 : decode cL_isSo 27 = .ok (.bipush 8, 2) := by decide +kernel
theorem dL_isSo_29 : decode cL_isSo 29 = .ok (.iload 8, 2) := by decide +kernel
theorem dL_isSo_31 : decode cL_isSo 31 = .ok (.imul, 1) := by decide +kernel
theorem dL_isSo_32 : decode cL_isSo 32 = .ok (.istore 9, 2) := by decide +kernel
theorem dL_isSo_34 : decode cL_isSo 34 = .ok (.aload_n 1, 1) := by decide +kernel
theorem dL_isSo_35 : decode cL_isSo 35 = .ok (.aload_n 2, 1) := by decide +kernel
theorem dL_isSo_36 : decode cL_isSo 36 = .ok (.aload_n 3, 1) := by decide +kernel
theorem dL_isSo_37 : decode cL_isSo 37 = .ok (.aload 5, 2) := by decide +kernel
theorem dL_isSo_39 : decode cL_isSo 39 = .ok (.iload 8, 2) := by decide +kernel
theorem dL_isSo_41 : decode cL_isSo 41 = .ok (.invokestatic 15, 3) := by decide +kernel
theorem dL_isSo_44 : decode cL_isSo 44 = .ok (.istore 10, 2) := by decide +kernel
theorem dL_isSo_46 : decode cL_isSo 46 = .ok (.aload_n 0, 1) := by decide +kernel
theorem dL_isSo_47 : decode cL_isSo 47 = .ok (.iload 8, 2) := by decide +kernel
theorem dL_isSo_49 : decode cL_isSo 49 = .ok (.iconst 0, 1) := by decide +kernel
theorem dL_isSo_50 : decode cL_isSo 50 = .ok (.invokevirtual 112, 3) := by decide +kernel
theorem dL_isSo_53 : decode cL_isSo 53 = .ok (.aload 5, 2) := by decide +kernel
theorem dL_isSo_55 : decode cL_isSo 55 = .ok (.iload 9, 2) := by decide +kernel
theorem dL_isSo_57 : decode cL_isSo 57 = .ok (.iaload, 1) := by decide +kernel
theorem dL_isSo_58 : decode cL_isSo 58 = .ok (.if_icmp .ne 205, 3) := by decide +kernel
theorem dL_isSo_61 : decode cL_isSo 61 = .ok (.aload_n 0, 1) := by decide +kernel
theorem dL_isSo_62 : decode cL_isSo 62 = .ok (.iload 8, 2) := by decide +kernel
theorem dL_isSo_64 : decode cL_isSo 64 = .ok (.iconst 1, 1) := by decide +kernel
theorem dL_isSo_65 : decode cL_isSo 65 = .ok (.invokevirtual 112, 3) := by decide +kernel
theorem dL_isSo_68 : decode cL_isSo 68 = .ok (.aload 5, 2) := by decide +kernel
theorem dL_isSo_70 : decode cL_isSo 70 = .ok (.iload 9, 2) := by decide +kernel
theorem dL_isSo_72 : decode cL_isSo 72 = .ok (.iconst 1, 1) := by decide +kernel
theorem dL_isSo_73 : decode cL_isSo 73 = .ok (.iadd, 1) := by decide +kernel
theorem dL_isSo_74 : decode cL_isSo 74 = .ok (.iaload, 1) := by decide +kernel
theorem dL_isSo_75 : decode cL_isSo 75 = .ok (.if_icmp .ne 188, 3) := by decide +kernel
theorem dL_isSo_78 : decode cL_isSo 78 = .ok (.aload_n 0, 1) := by decide +kernel
theorem dL_isSo_79 : decode cL_isSo 79 = .ok (.iload 8, 2) := by decide +kernel
theorem dL_isSo_81 : decode cL_isSo 81 = .ok (.iconst 2, 1) := by decide +kernel
theorem dL_isSo_82 : decode cL_isSo 82 = .ok (.invokevirtual 112, 3) := by decide +kernel
theorem dL_isSo_85 : decode cL_isSo 85 = .ok (.aload 5, 2) := by decide +kernel
theorem dL_isSo_87 : decode cL_isSo 87 = .ok (.iload 9, 2) := by decide +kernel
theorem dL_isSo_89 : decode cL_isSo 89 = .ok (.iconst 2, 1) := by decide +kernel
theorem dL_isSo_90 : decode cL_isSo 90 = .ok (.iadd, 1) := by decide +kernel
theorem dL_isSo_91 : decode cL_isSo 91 = .ok (.iaload, 1) := by decide +kernel
theorem dL_isSo_92 : decode cL_isSo 92 = .ok (.if_icmp .ne 171, 3) := by decide +kernel
theorem dL_isSo_95 : decode cL_isSo 95 = .ok (.aload_n 0, 1) := by decide +kernel
theorem dL_isSo_96 : decode cL_isSo 96 = .ok (.iload 8, 2) := by decide +kernel
theorem dL_isSo_98 : decode cL_isSo 98 = .ok (.iconst 3, 1) := by decide +kernel
theorem dL_isSo_99 : decode cL_isSo 99 = .ok (.invokevirtual 112, 3) := by decide +kernel
theorem dL_isSo_102 : decode cL_isSo 102 = .ok (.aload_n 1, 1) := by decide +kernel
theorem dL_isSo_103 : decode cL_isSo 103 = .ok (.aload_n 2, 1) := by decide +kernel
theorem dL_isSo_104 : decode cL_isSo 104 = .ok (.aload_n 3, 1) := by decide +kernel
theorem dL_isSo_105 : decode cL_isSo 105 = .ok (.iload 8, 2) := by decide +kernel
theorem dL_isSo_107 : decode cL_isSo 107 = .ok (.iconst 1, 1) := by decide +kernel
theorem dL_isSo_108 : decode cL_isSo 108 = .ok (.invokestatic 9, 3) := by decide +kernel
theorem dL_isSo_111 : decode cL_isSo 111 = .ok (.if_icmp .ne 152, 3) := by decide +kernel
theorem dL_isSo_114 : decode cL_isSo 114 = .ok (.aload_n 0, 1) := by decide +kernel
theorem dL_isSo_115 : decode cL_isSo 115 = .ok (.iload 8, 2) := by decide +kernel
theorem dL_isSo_117 : decode cL_isSo 117 = .ok (.iconst 4, 1) := by decide +kernel
theorem dL_isSo_118 : decode cL_isSo 118 = .ok (.invokevirtual 112, 3) := by decide +kernel
theorem dL_isSo_121 : decode cL_isSo 121 = .ok (.aload_n 1, 1) := by decide +kernel
theorem dL_isSo_122 : decode cL_isSo 122 = .ok (.aload_n 2, 1) := by decide +kernel
theorem dL_isSo_123 : decode cL_isSo 123 = .ok (.aload_n 3, 1) := by decide +kernel
theorem dL_isSo_124 : decode cL_isSo 124 = .ok (.iload 8, 2) := by decide +kernel
theorem dL_isSo_126 : decode cL_isSo 126 = .ok (.iconst 2, 1) := by decide +kernel
theorem dL_isSo_127 : decode cL_isSo 127 = .ok (.invokestatic 9, 3) := by decide +kernel
theorem dL_isSo_130 : decode cL_isSo 130 = .ok (.if_icmp .ne 133, 3) := by decide +kernel
theorem dL_isSo_133 : decode cL_isSo 133 = .ok (.aload_n 0, 1) := by decide +kernel
theorem dL_isSo_134 : decode cL_isSo 134 = .ok (.iload 8, 2) := by decide +kernel
theorem dL_isSo_136 : decode cL_isSo 136 = .ok (.iconst 5, 1) := by decide +kernel
theorem dL_isSo_137 : decode cL_isSo 137 = .ok (.invokevirtual 112, 3) := by decide +kernel
theorem dL_isSo_140 : decode cL_isSo 140 = .ok (.aload_n 1, 1) := by decide +kernel
theorem dL_isSo_141 : decode cL_isSo 141 = .ok (.aload_n 2, 1) := by decide +kernel
theorem dL_isSo_142 : decode cL_isSo 142 = .ok (.aload_n 3, 1) := by decide +kernel
theorem dL_isSo_143 : decode cL_isSo 143 = .ok (.iload 8, 2) := by decide +kernel
theorem dL_isSo_145 : decode cL_isSo 145 = .ok (.iconst 0, 1) := by decide +kernel
theorem dL_isSo_146 : decode cL_isSo 146 = .ok (.invokestatic 9, 3) := by decide +kernel
theorem dL_isSo_149 : decode cL_isSo 149 = .ok (.if_icmp .ne 114, 3) := by decide +kernel
theorem dL_isSo_152 : decode cL_isSo 152 = .ok (.aload_n 0, 1) := by decide +kernel
theorem dL_isSo_153 : decode cL_isSo 153 = .ok (.iload 8, 2) := by decide +kernel
theorem dL_isSo_155 : decode cL_isSo 155 = .ok (.bipush 6, 2) := by decide +kernel
theorem dL_isSo_157 : decode cL_isSo 157 = .ok (.invokevirtual 112, 3) := by decide +kernel
theorem dL_isSo_160 : decode cL_isSo 160 = .ok (.iload 10, 2) := by decide +kernel
theorem dL_isSo_162 : decode cL_isSo 162 = .ok (.ifCond .ge 8, 3) := by decide +kernel
theorem dL_isSo_165 : decode cL_isSo 165 = .ok (.ldc 107, 2) := by decide +kernel
theorem dL_isSo_167 : decode cL_isSo 167 = .ok (.goto 5, 3) := by decide +kernel
theorem dL_isSo_170 : decode cL_isSo 170 = .ok (.iload 10, 2) := by decide +kernel
theorem dL_isSo_172 : decode cL_isSo 172 = .ok (.if_icmp .ne 91, 3) := by decide +kernel
theorem dL_isSo_175 : decode cL_isSo 175 = .ok (.aload_n 0, 1) := by decide +kernel
theorem dL_isSo_176 : decode cL_isSo 176 = .ok (.iload 8, 2) := by decide +kernel
theorem dL_isSo_178 : decode cL_isSo 178 = .ok (.bipush 7, 2) := by decide +kernel
theorem dL_isSo_180 : decode cL_isSo 180 = .ok (.invokevirtual 112, 3) := by decide +kernel
theorem dL_isSo_183 : decode cL_isSo 183 = .ok (.aload 5, 2) := by decide +kernel
theorem dL_isSo_185 : decode cL_isSo 185 = .ok (.iload 9, 2) := by decide +kernel
theorem dL_isSo_187 : decode cL_isSo 187 = .ok (.iconst 2, 1) := by decide +kernel
theorem dL_isSo_188 : decode cL_isSo 188 = .ok (.iadd, 1) := by decide +kernel
theorem dL_isSo_189 : decode cL_isSo 189 = .ok (.iaload, 1) := by decide +kernel
theorem dL_isSo_190 : decode cL_isSo 190 = .ok (.ifCond .ne 8, 3) := by decide +kernel
theorem dL_isSo_193 : decode cL_isSo 193 = .ok (.ldc 107, 2) := by decide +kernel
theorem dL_isSo_195 : decode cL_isSo 195 = .ok (.goto 10, 3) := by decide +kernel
theorem dL_isSo_198 : decode cL_isSo 198 = .ok (.aload 5, 2) := by decide +kernel
theorem dL_isSo_200 : decode cL_isSo 200 = .ok (.iload 9, 2) := by decide +kernel
theorem dL_isSo_202 : decode cL_isSo 202 = .ok (.iconst 4, 1) := by decide +kernel
theorem dL_isSo_203 : decode cL_isSo 203 = .ok (.iadd, 1) := by decide +kernel
theorem dL_isSo_204 : decode cL_isSo 204 = .ok (.iaload, 1) := by decide +kernel
theorem dL_isSo_205 : decode cL_isSo 205 = .ok (.if_icmp .ne 58, 3) := by decide +kernel
theorem dL_isSo_208 : decode cL_isSo 208 = .ok (.aload_n 0, 1) := by decide +kernel
theorem dL_isSo_209 : decode cL_isSo 209 = .ok (.iload 8, 2) := by decide +kernel
theorem dL_isSo_211 : decode cL_isSo 211 = .ok (.bipush 8, 2) := by decide +kernel
theorem dL_isSo_213 : decode cL_isSo 213 = .ok (.invokevirtual 112, 3) := by decide +kernel
theorem dL_isSo_216 : decode cL_isSo 216 = .ok (.aload 5, 2) := by decide +kernel
theorem dL_isSo_218 : decode cL_isSo 218 = .ok (.iload 9, 2) := by decide +kernel
theorem dL_isSo_220 : decode cL_isSo 220 = .ok (.bipush 6, 2) := by decide +kernel
theorem dL_isSo_222 : decode cL_isSo 222 = .ok (.iadd, 1) := by decide +kernel
theorem dL_isSo_223 : decode cL_isSo 223 = .ok (.iaload, 1) := by decide +kernel
theorem dL_isSo_224 : decode cL_isSo 224 = .ok (.if_icmp .ne 39, 3) := by decide +kernel
theorem dL_isSo_227 : decode cL_isSo 227 = .ok (.aload_n 0, 1) := by decide +kernel
theorem dL_isSo_228 : decode cL_isSo 228 = .ok (.iload 8, 2) := by decide +kernel
theorem dL_isSo_230 : decode cL_isSo 230 = .ok (.bipush 9, 2) := by decide +kernel
theorem dL_isSo_232 : decode cL_isSo 232 = .ok (.invokevirtual 112, 3) := by decide +kernel
theorem dL_isSo_235 : decode cL_isSo 235 = .ok (.aload 5, 2) := by decide +kernel
theorem dL_isSo_237 : decode cL_isSo 237 = .ok (.iload 9, 2) := by decide +kernel
theorem dL_isSo_239 : decode cL_isSo 239 = .ok (.bipush 7, 2) := by decide +kernel
theorem dL_isSo_241 : decode cL_isSo 241 = .ok (.iadd, 1) := by decide +kernel
theorem dL_isSo_242 : decode cL_isSo 242 = .ok (.iaload, 1) := by decide +kernel
theorem dL_isSo_243 : decode cL_isSo 243 = .ok (.if_icmp .ne 20, 3) := by decide +kernel
theorem dL_isSo_246 : decode cL_isSo 246 = .ok (.aload_n 0, 1) := by decide +kernel
theorem dL_isSo_247 : decode cL_isSo 247 = .ok (.iload 8, 2) := by decide +kernel
theorem dL_isSo_249 : decode cL_isSo 249 = .ok (.bipush 10, 2) := by decide +kernel
theorem dL_isSo_251 : decode cL_isSo 251 = .ok (.invokevirtual 112, 3) := by decide +kernel
theorem dL_isSo_254 : decode cL_isSo 254 = .ok (.ldc 58, 2) := by decide +kernel
theorem dL_isSo_256 : decode cL_isSo 256 = .ok (.if_icmp .ne 7, 3) := by decide +kernel
theorem dL_isSo_259 : decode cL_isSo 259 = .ok (.iconst 1, 1) := by decide +kernel
theorem dL_isSo_260 : decode cL_isSo 260 = .ok (.goto 4, 3) := by decide +kernel
theorem dL_isSo_263 : decode cL_isSo 263 = .ok (.iconst 0, 1) := by decide +kernel
theorem dL_isSo_264 : decode cL_isSo 264 = .ok (.istore 7, 2) := by decide +kernel
theorem dL_isSo_266 : decode cL_isSo 266 = .ok (.iload 7, 2) := by decide +kernel
theorem dL_isSo_268 : decode cL_isSo 268 = .ok (.ifCond .eq 41, 3) := by decide +kernel
theorem dL_isSo_271 : decode cL_isSo 271 = .ok (.aload_n 0, 1) := by decide +kernel
theorem dL_isSo_272 : decode cL_isSo 272 = .ok (.iload 8, 2) := by decide +kernel
theorem dL_isSo_274 : decode cL_isSo 274 = .ok (.iconst 3, 1) := by decide +kernel
theorem dL_isSo_275 : decode cL_isSo 275 = .ok (.invokevirtual 112, 3) := by decide +kernel
theorem dL_isSo_278 : decode cL_isSo 278 = .ok (.aload_n 0, 1) := by decide +kernel
theorem dL_isSo_279 : decode cL_isSo 279 = .ok (.iload 8, 2) := by decide +kernel
theorem dL_isSo_281 : decode cL_isSo 281 = .ok (.iconst 0, 1) := by decide +kernel
theorem dL_isSo_282 : decode cL_isSo 282 = .ok (.invokevirtual 112, 3) := by decide +kernel
theorem dL_isSo_285 : decode cL_isSo 285 = .ok (.if_icmp .gt 24, 3) := by decide +kernel
theorem dL_isSo_288 : decode cL_isSo 288 = .ok (.aload_n 0, 1) := by decide +kernel
theorem dL_isSo_289 : decode cL_isSo 289 = .ok (.iload 8, 2) := by decide +kernel
theorem dL_isSo_291 : decode cL_isSo 291 = .ok (.iconst 4, 1) := by decide +kernel
theorem dL_isSo_292 : decode cL_isSo 292 = .ok (.invokevirtual 112, 3) := by decide +kernel
theorem dL_isSo_295 : decode cL_isSo 295 = .ok (.aload_n 0, 1) := by decide +kernel
theorem dL_isSo_296 : decode cL_isSo 296 = .ok (.iload 8, 2) := by decide +kernel
theorem dL_isSo_298 : decode cL_isSo 298 = .ok (.iconst 1, 1) := by decide +kernel
theorem dL_isSo_299 : decode cL_isSo 299 = .ok (.invokevirtual 112, 3) := by decide +kernel
theorem dL_isSo_302 : decode cL_isSo 302 = .ok (.if_icmp .gt 7, 3) := by decide +kernel
theorem dL_isSo_305 : decode cL_isSo 305 = .ok (.iconst 1, 1) := by decide +kernel
theorem dL_isSo_306 : decode cL_isSo 306 = .ok (.goto 4, 3) := by decide +kernel
theorem dL_isSo_309 : decode cL_isSo 309 = .ok (.iconst 0, 1) := by decide +kernel
theorem dL_isSo_310 : decode cL_isSo 310 = .ok (.istore 7, 2) := by decide +kernel
theorem dL_isSo_312 : decode cL_isSo 312 = .ok (.iinc 8 1, 3) := by decide +kernel
theorem dL_isSo_315 : decode cL_isSo 315 = .ok (.goto (-301), 3) := by decide +kernel
theorem dL_isSo_318 : decode cL_isSo 318 = .ok (.iconst 0, 1) := by decide +kernel
theorem dL_isSo_319 : decode cL_isSo 319 = .ok (.istore 8, 2) := by decide +kernel
theorem dL_isSo_321 : decode cL_isSo 321 = .ok (.iload 8, 2) := by decide +kernel
theorem dL_isSo_323 : decode cL_isSo 323 = .ok (.bipush 50, 2) := by decide +kernel
theorem dL_isSo_325 : decode cL_isSo 325 = .ok (.if_icmp .ge 57, 3) := by decide +kernel
theorem dL_isSo_328 : decode cL_isSo 328 = .ok (.iload 7, 2) := by decide +kernel
theorem dL_isSo_330 : decode cL_isSo 330 = .ok (.ifCond .eq 52, 3) := by decide +kernel
theorem dL_isSo_333 : decode cL_isSo 333 = .ok (.aload_n 0, 1) := by decide +kernel
theorem dL_isSo_334 : decode cL_isSo 334 = .ok (.iload 8, 2) := by decide +kernel
theorem dL_isSo_336 : decode cL_isSo 336 = .ok (.iconst 5, 1) := by decide +kernel
theorem dL_isSo_337 : decode cL_isSo 337 = .ok (.idiv, 1) := by decide +kernel
theorem dL_isSo_338 : decode cL_isSo 338 = .ok (.iload 8, 2) := by decide +kernel
theorem dL_isSo_340 : decode cL_isSo 340 = .ok (.iconst 5, 1) := by decide +kernel
theorem dL_isSo_341 : decode cL_isSo 341 = .ok (.irem, 1) := by decide +kernel
theorem dL_isSo_342 : decode cL_isSo 342 = .ok (.invokevirtual 115, 3) := by decide +kernel
theorem dL_isSo_345 : decode cL_isSo 345 = .ok (.iload 8, 2) := by decide +kernel
theorem dL_isSo_347 : decode cL_isSo 347 = .ok (.iconst 5, 1) := by decide +kernel
theorem dL_isSo_348 : decode cL_isSo 348 = .ok (.idiv, 1) := by decide +kernel
theorem dL_isSo_349 : decode cL_isSo 349 = .ok (.aload_n 1, 1) := by decide +kernel
theorem dL_isSo_350 : decode cL_isSo 350 = .ok (.bipush 6, 2) := by decide +kernel
theorem dL_isSo_352 : decode cL_isSo 352 = .ok (.iaload, 1) := by decide +kernel
theorem dL_isSo_353 : decode cL_isSo 353 = .ok (.if_icmp .ge 11, 3) := by decide +kernel
theorem dL_isSo_356 : decode cL_isSo 356 = .ok (.aload 6, 2) := by decide +kernel
theorem dL_isSo_358 : decode cL_isSo 358 = .ok (.iload 8, 2) := by decide +kernel
theorem dL_isSo_360 : decode cL_isSo 360 = .ok (.iaload, 1) := by decide +kernel
theorem dL_isSo_361 : decode cL_isSo 361 = .ok (.goto 5, 3) := by decide +kernel
theorem dL_isSo_364 : decode cL_isSo 364 = .ok (.ldc 107, 2) := by decide +kernel
theorem dL_isSo_366 : decode cL_isSo 366 = .ok (.if_icmp .ne 7, 3) := by decide +kernel
theorem dL_isSo_369 : decode cL_isSo 369 = .ok (.iconst 1, 1) := by decide +kernel
theorem dL_isSo_370 : decode cL_isSo 370 = .ok (.goto 4, 3) := by decide +kernel
theorem dL_isSo_373 : decode cL_isSo 373 = .ok (.iconst 0, 1) := by decide +kernel
theorem dL_isSo_374 : decode cL_isSo 374 = .ok (.istore 7, 2) := by decide +kernel
theorem dL_isSo_376 : decode cL_isSo 376 = .ok (.iinc 8 1, 3) := by decide +kernel
theorem dL_isSo_379 : decode cL_isSo 379 = .ok (.goto (-58), 3) := by decide +kernel
theorem dL_isSo_382 : decode cL_isSo 382 = .ok (.iconst 0, 1) := by decide +kernel
theorem dL_isSo_383 : decode cL_isSo 383 = .ok (.istore 8, 2) := by decide +kernel
theorem dL_isSo_385 : decode cL_isSo 385 = .ok (.iconst 0, 1) := by decide +kernel
theorem dL_isSo_386 : decode cL_isSo 386 = .ok (.istore 9, 2) := by decide +kernel
theorem dL_isSo_388 : decode cL_isSo 388 = .ok (.iconst 0, 1) := by decide +kernel
theorem dL_isSo_389 : decode cL_isSo 389 = .ok (.istore 10, 2) := by decide +kernel
theorem dL_isSo_391 : decode cL_isSo 391 = .ok (.iload 10, 2) := by decide +kernel
theorem dL_isSo_393 : decode cL_isSo 393 = .ok (.aload_n 1, 1) := by decide +kernel
theorem dL_isSo_394 : decode cL_isSo 394 = .ok (.iconst 3, 1) := by decide +kernel
theorem dL_isSo_395 : decode cL_isSo 395 = .ok (.iaload, 1) := by decide +kernel
theorem dL_isSo_396 : decode cL_isSo 396 = .ok (.if_icmp .ge 78, 3) := by decide +kernel
theorem dL_isSo_399 : decode cL_isSo 399 = .ok (.iload 8, 2) := by decide +kernel
theorem dL_isSo_401 : decode cL_isSo 401 = .ok (.aload_n 1, 1) := by decide +kernel
theorem dL_isSo_402 : decode cL_isSo 402 = .ok (.aload_n 3, 1) := by decide +kernel
theorem dL_isSo_403 : decode cL_isSo 403 = .ok (.iload 10, 2) := by decide +kernel
theorem dL_isSo_405 : decode cL_isSo 405 = .ok (.invokestatic 50, 3) := by decide +kernel
theorem dL_isSo_408 : decode cL_isSo 408 = .ok (.ifCond .eq 22, 3) := by decide +kernel
theorem dL_isSo_411 : decode cL_isSo 411 = .ok (.aload_n 3, 1) := by decide +kernel
theorem dL_isSo_412 : decode cL_isSo 412 = .ok (.iconst 4, 1) := by decide +kernel
theorem dL_isSo_413 : decode cL_isSo 413 = .ok (.iload 10, 2) := by decide +kernel
theorem dL_isSo_415 : decode cL_isSo 415 = .ok (.imul, 1) := by decide +kernel
theorem dL_isSo_416 : decode cL_isSo 416 = .ok (.iconst 2, 1) := by decide +kernel
theorem dL_isSo_417 : decode cL_isSo 417 = .ok (.iadd, 1) := by decide +kernel
theorem dL_isSo_418 : decode cL_isSo 418 = .ok (.iaload, 1) := by decide +kernel
theorem dL_isSo_419 : decode cL_isSo 419 = .ok (.iconst 2, 1) := by decide +kernel
theorem dL_isSo_420 : decode cL_isSo 420 = .ok (.if_icmp .ge 10, 3) := by decide +kernel
theorem dL_isSo_423 : decode cL_isSo 423 = .ok (.iconst 1, 1) := by decide +kernel
theorem dL_isSo_424 : decode cL_isSo 424 = .ok (.iload 10, 2) := by decide +kernel
theorem dL_isSo_426 : decode cL_isSo 426 = .ok (.ishl, 1) := by decide +kernel
theorem dL_isSo_427 : decode cL_isSo 427 = .ok (.goto 4, 3) := by decide +kernel
theorem dL_isSo_430 : decode cL_isSo 430 = .ok (.iconst 0, 1) := by decide +kernel
theorem dL_isSo_431 : decode cL_isSo 431 = .ok (.iadd, 1) := by decide +kernel
theorem dL_isSo_432 : decode cL_isSo 432 = .ok (.istore 8, 2) := by decide +kernel
theorem dL_isSo_434 : decode cL_isSo 434 = .ok (.iload 9, 2) := by decide +kernel
theorem dL_isSo_436 : decode cL_isSo 436 = .ok (.aload_n 3, 1) := by decide +kernel
theorem dL_isSo_437 : decode cL_isSo 437 = .ok (.iconst 4, 1) := by decide +kernel
theorem dL_isSo_438 : decode cL_isSo 438 = .ok (.iload 10, 2) := by decide +kernel
theorem dL_isSo_440 : decode cL_isSo 440 = .ok (.imul, 1) := by decide +kernel
theorem dL_isSo_441 : decode cL_isSo 441 = .ok (.iconst 2, 1) := by decide +kernel
theorem dL_isSo_442 : decode cL_isSo 442 = .ok (.iadd, 1) := by decide +kernel
theorem dL_isSo_443 : decode cL_isSo 443 = .ok (.iaload, 1) := by decide +kernel
theorem dL_isSo_444 : decode cL_isSo 444 = .ok (.iconst 3, 1) := by decide +kernel
theorem dL_isSo_445 : decode cL_isSo 445 = .ok (.if_icmp .eq 15, 3) := by decide +kernel
theorem dL_isSo_448 : decode cL_isSo 448 = .ok (.aload_n 3, 1) := by decide +kernel
theorem dL_isSo_449 : decode cL_isSo 449 = .ok (.iconst 4, 1) := by decide +kernel
theorem dL_isSo_450 : decode cL_isSo 450 = .ok (.iload 10, 2) := by decide +kernel
theorem dL_isSo_452 : decode cL_isSo 452 = .ok (.imul, 1) := by decide +kernel
theorem dL_isSo_453 : decode cL_isSo 453 = .ok (.iconst 2, 1) := by decide +kernel
theorem dL_isSo_454 : decode cL_isSo 454 = .ok (.iadd, 1) := by decide +kernel
theorem dL_isSo_455 : decode cL_isSo 455 = .ok (.iaload, 1) := by decide +kernel
theorem dL_isSo_456 : decode cL_isSo 456 = .ok (.iconst 4, 1) := by decide +kernel
theorem dL_isSo_457 : decode cL_isSo 457 = .ok (.if_icmp .ne 7, 3) := by decide +kernel
theorem dL_isSo_460 : decode cL_isSo 460 = .ok (.iconst 1, 1) := by decide +kernel
theorem dL_isSo_461 : decode cL_isSo 461 = .ok (.goto 4, 3) := by decide +kernel
theorem dL_isSo_464 : decode cL_isSo 464 = .ok (.iconst 0, 1) := by decide +kernel
theorem dL_isSo_465 : decode cL_isSo 465 = .ok (.iadd, 1) := by decide +kernel
theorem dL_isSo_466 : decode cL_isSo 466 = .ok (.istore 9, 2) := by decide +kernel
theorem dL_isSo_468 : decode cL_isSo 468 = .ok (.iinc 10 1, 3) := by decide +kernel
theorem dL_isSo_471 : decode cL_isSo 471 = .ok (.goto (-80), 3) := by decide +kernel
theorem dL_isSo_474 : decode cL_isSo 474 = .ok (.iload 7, 2) := by decide +kernel
theorem dL_isSo_476 : decode cL_isSo 476 = .ok (.ifCond .eq 155, 3) := by decide +kernel
theorem dL_isSo_479 : decode cL_isSo 479 = .ok (.aload_n 0, 1) := by decide +kernel
theorem dL_isSo_480 : decode cL_isSo 480 = .ok (.iconst 0, 1) := by decide +kernel
theorem dL_isSo_481 : decode cL_isSo 481 = .ok (.invokevirtual 118, 3) := by decide +kernel
theorem dL_isSo_484 : decode cL_isSo 484 = .ok (.aload_n 1, 1) := by decide +kernel
theorem dL_isSo_485 : decode cL_isSo 485 = .ok (.iconst 3, 1) := by decide +kernel
theorem dL_isSo_486 : decode cL_isSo 486 = .ok (.iaload, 1) := by decide +kernel
theorem dL_isSo_487 : decode cL_isSo 487 = .ok (.if_icmp .ne 144, 3) := by decide +kernel
theorem dL_isSo_490 : decode cL_isSo 490 = .ok (.aload_n 0, 1) := by decide +kernel
theorem dL_isSo_491 : decode cL_isSo 491 = .ok (.iconst 1, 1) := by decide +kernel
theorem dL_isSo_492 : decode cL_isSo 492 = .ok (.invokevirtual 118, 3) := by decide +kernel
theorem dL_isSo_495 : decode cL_isSo 495 = .ok (.aload_n 1, 1) := by decide +kernel
theorem dL_isSo_496 : decode cL_isSo 496 = .ok (.iconst 4, 1) := by decide +kernel
theorem dL_isSo_497 : decode cL_isSo 497 = .ok (.iaload, 1) := by decide +kernel
theorem dL_isSo_498 : decode cL_isSo 498 = .ok (.if_icmp .ne 133, 3) := by decide +kernel
theorem dL_isSo_501 : decode cL_isSo 501 = .ok (.aload_n 0, 1) := by decide +kernel
theorem dL_isSo_502 : decode cL_isSo 502 = .ok (.iconst 2, 1) := by decide +kernel
theorem dL_isSo_503 : decode cL_isSo 503 = .ok (.invokevirtual 118, 3) := by decide +kernel
theorem dL_isSo_506 : decode cL_isSo 506 = .ok (.aload_n 1, 1) := by decide +kernel
theorem dL_isSo_507 : decode cL_isSo 507 = .ok (.iconst 5, 1) := by decide +kernel
theorem dL_isSo_508 : decode cL_isSo 508 = .ok (.iaload, 1) := by decide +kernel
theorem dL_isSo_509 : decode cL_isSo 509 = .ok (.if_icmp .ne 122, 3) := by decide +kernel
theorem dL_isSo_512 : decode cL_isSo 512 = .ok (.aload_n 0, 1) := by decide +kernel
theorem dL_isSo_513 : decode cL_isSo 513 = .ok (.iconst 3, 1) := by decide +kernel
theorem dL_isSo_514 : decode cL_isSo 514 = .ok (.invokevirtual 118, 3) := by decide +kernel
theorem dL_isSo_517 : decode cL_isSo 517 = .ok (.iload 8, 2) := by decide +kernel
theorem dL_isSo_519 : decode cL_isSo 519 = .ok (.if_icmp .ne 112, 3) := by decide +kernel
theorem dL_isSo_522 : decode cL_isSo 522 = .ok (.aload_n 0, 1) := by decide +kernel
theorem dL_isSo_523 : decode cL_isSo 523 = .ok (.iconst 4, 1) := by decide +kernel
theorem dL_isSo_524 : decode cL_isSo 524 = .ok (.invokevirtual 118, 3) := by decide +kernel
theorem dL_isSo_527 : decode cL_isSo 527 = .ok (.aload_n 1, 1) := by decide +kernel
theorem dL_isSo_528 : decode cL_isSo 528 = .ok (.bipush 7, 2) := by decide +kernel
theorem dL_isSo_530 : decode cL_isSo 530 = .ok (.iaload, 1) := by decide +kernel
theorem dL_isSo_531 : decode cL_isSo 531 = .ok (.if_icmp .ne 100, 3) := by decide +kernel
theorem dL_isSo_534 : decode cL_isSo 534 = .ok (.aload_n 0, 1) := by decide +kernel
theorem dL_isSo_535 : decode cL_isSo 535 = .ok (.iconst 5, 1) := by decide +kernel
theorem dL_isSo_536 : decode cL_isSo 536 = .ok (.invokevirtual 118, 3) := by decide +kernel
theorem dL_isSo_539 : decode cL_isSo 539 = .ok (.aload_n 1, 1) := by decide +kernel
theorem dL_isSo_540 : decode cL_isSo 540 = .ok (.bipush 8, 2) := by decide +kernel
theorem dL_isSo_542 : decode cL_isSo 542 = .ok (.iaload, 1) := by decide +kernel
theorem dL_isSo_543 : decode cL_isSo 543 = .ok (.if_icmp .ne 88, 3) := by decide +kernel
theorem dL_isSo_546 : decode cL_isSo 546 = .ok (.aload_n 0, 1) := by decide +kernel
theorem dL_isSo_547 : decode cL_isSo 547 = .ok (.iconst 4, 1) := by decide +kernel
theorem dL_isSo_548 : decode cL_isSo 548 = .ok (.invokevirtual 118, 3) := by decide +kernel
theorem dL_isSo_551 : decode cL_isSo 551 = .ok (.aload_n 0, 1) := by decide +kernel
theorem dL_isSo_552 : decode cL_isSo 552 = .ok (.iconst 5, 1) := by decide +kernel
theorem dL_isSo_553 : decode cL_isSo 553 = .ok (.invokevirtual 118, 3) := by decide +kernel
theorem dL_isSo_556 : decode cL_isSo 556 = .ok (.iadd, 1) := by decide +kernel
theorem dL_isSo_557 : decode cL_isSo 557 = .ok (.iload 9, 2) := by decide +kernel
theorem dL_isSo_559 : decode cL_isSo 559 = .ok (.if_icmp .ne 72, 3) := by decide +kernel
theorem dL_isSo_562 : decode cL_isSo 562 = .ok (.aload_n 0, 1) := by decide +kernel
theorem dL_isSo_563 : decode cL_isSo 563 = .ok (.bipush 6, 2) := by decide +kernel
theorem dL_isSo_565 : decode cL_isSo 565 = .ok (.invokevirtual 118, 3) := by decide +kernel
theorem dL_isSo_568 : decode cL_isSo 568 = .ok (.aload_n 1, 1) := by decide +kernel
theorem dL_isSo_569 : decode cL_isSo 569 = .ok (.bipush 9, 2) := by decide +kernel
theorem dL_isSo_571 : decode cL_isSo 571 = .ok (.iaload, 1) := by decide +kernel
theorem dL_isSo_572 : decode cL_isSo 572 = .ok (.if_icmp .ne 59, 3) := by decide +kernel
theorem dL_isSo_575 : decode cL_isSo 575 = .ok (.aload_n 0, 1) := by decide +kernel
theorem dL_isSo_576 : decode cL_isSo 576 = .ok (.bipush 7, 2) := by decide +kernel
theorem dL_isSo_578 : decode cL_isSo 578 = .ok (.invokevirtual 118, 3) := by decide +kernel
theorem dL_isSo_581 : decode cL_isSo 581 = .ok (.aload_n 1, 1) := by decide +kernel
theorem dL_isSo_582 : decode cL_isSo 582 = .ok (.bipush 10, 2) := by decide +kernel
theorem dL_isSo_584 : decode cL_isSo 584 = .ok (.iaload, 1) := by decide +kernel
theorem dL_isSo_585 : decode cL_isSo 585 = .ok (.if_icmp .ne 46, 3) := by decide +kernel
theorem dL_isSo_588 : decode cL_isSo 588 = .ok (.aload_n 0, 1) := by decide +kernel
theorem dL_isSo_589 : decode cL_isSo 589 = .ok (.bipush 8, 2) := by decide +kernel
theorem dL_isSo_591 : decode cL_isSo 591 = .ok (.invokevirtual 118, 3) := by decide +kernel
theorem dL_isSo_594 : decode cL_isSo 594 = .ok (.aload_n 1, 1) := by decide +kernel
theorem dL_isSo_595 : decode cL_isSo 595 = .ok (.bipush 11, 2) := by decide +kernel
theorem dL_isSo_597 : decode cL_isSo 597 = .ok (.iaload, 1) := by decide +kernel
theorem dL_isSo_598 : decode cL_isSo 598 = .ok (.if_icmp .ne 33, 3) := by decide +kernel
theorem dL_isSo_601 : decode cL_isSo 601 = .ok (.aload_n 0, 1) := by decide +kernel
theorem dL_isSo_602 : decode cL_isSo 602 = .ok (.bipush 9, 2) := by decide +kernel
theorem dL_isSo_604 : decode cL_isSo 604 = .ok (.invokevirtual 118, 3) := by decide +kernel
theorem dL_isSo_607 : decode cL_isSo 607 = .ok (.aload_n 1, 1) := by decide +kernel
theorem dL_isSo_608 : decode cL_isSo 608 = .ok (.bipush 12, 2) := by decide +kernel
theorem dL_isSo_610 : decode cL_isSo 610 = .ok (.iaload, 1) := by decide +kernel
theorem dL_isSo_611 : decode cL_isSo 611 = .ok (.if_icmp .ne 20, 3) := by decide +kernel
theorem dL_isSo_614 : decode cL_isSo 614 = .ok (.aload_n 0, 1) := by decide +kernel
theorem dL_isSo_615 : decode cL_isSo 615 = .ok (.bipush 10, 2) := by decide +kernel
theorem dL_isSo_617 : decode cL_isSo 617 = .ok (.invokevirtual 118, 3) := by decide +kernel
theorem dL_isSo_620 : decode cL_isSo 620 = .ok (.aload_n 1, 1) := by decide +kernel
theorem dL_isSo_621 : decode cL_isSo 621 = .ok (.bipush 6, 2) := by decide +kernel
theorem dL_isSo_623 : decode cL_isSo 623 = .ok (.iaload, 1) := by decide +kernel
theorem dL_isSo_624 : decode cL_isSo 624 = .ok (.if_icmp .ne 7, 3) := by decide +kernel
theorem dL_isSo_627 : decode cL_isSo 627 = .ok (.iconst 1, 1) := by decide +kernel
theorem dL_isSo_628 : decode cL_isSo 628 = .ok (.goto 4, 3) := by decide +kernel
theorem dL_isSo_631 : decode cL_isSo 631 = .ok (.iconst 0, 1) := by decide +kernel
theorem dL_isSo_632 : decode cL_isSo 632 = .ok (.istore 7, 2) := by decide +kernel
theorem dL_isSo_634 : decode cL_isSo 634 = .ok (.iload 7, 2) := by decide +kernel
theorem dL_isSo_636 : decode cL_isSo 636 = .ok (.ifCond .eq 65, 3) := by decide +kernel
theorem dL_isSo_639 : decode cL_isSo 639 = .ok (.aload_n 0, 1) := by decide +kernel
theorem dL_isSo_640 : decode cL_isSo 640 = .ok (.bipush 12, 2) := by decide +kernel
theorem dL_isSo_642 : decode cL_isSo 642 = .ok (.invokevirtual 118, 3) := by decide +kernel
theorem dL_isSo_645 : decode cL_isSo 645 = .ok (.ifCond .ne 56, 3) := by decide +kernel
theorem dL_isSo_648 : decode cL_isSo 648 = .ok (.aload_n 0, 1) := by decide +kernel
theorem dL_isSo_649 : decode cL_isSo 649 = .ok (.bipush 20, 2) := by decide +kernel
theorem dL_isSo_651 : decode cL_isSo 651 = .ok (.invokevirtual 118, 3) := by decide +kernel
theorem dL_isSo_654 : decode cL_isSo 654 = .ok (.aload_n 1, 1) := by decide +kernel
theorem dL_isSo_655 : decode cL_isSo 655 = .ok (.iconst 0, 1) := by decide +kernel
theorem dL_isSo_656 : decode cL_isSo 656 = .ok (.iaload, 1) := by decide +kernel
theorem dL_isSo_657 : decode cL_isSo 657 = .ok (.if_icmp .ne 44, 3) := by decide +kernel
theorem dL_isSo_660 : decode cL_isSo 660 = .ok (.aload_n 0, 1) := by decide +kernel
theorem dL_isSo_661 : decode cL_isSo 661 = .ok (.bipush 21, 2) := by decide +kernel
theorem dL_isSo_663 : decode cL_isSo 663 = .ok (.invokevirtual 118, 3) := by decide +kernel
theorem dL_isSo_666 : decode cL_isSo 666 = .ok (.aload_n 1, 1) := by decide +kernel
theorem dL_isSo_667 : decode cL_isSo 667 = .ok (.iconst 1, 1) := by decide +kernel
theorem dL_isSo_668 : decode cL_isSo 668 = .ok (.iaload, 1) := by decide +kernel
theorem dL_isSo_669 : decode cL_isSo 669 = .ok (.if_icmp .ne 32, 3) := by decide +kernel
theorem dL_isSo_672 : decode cL_isSo 672 = .ok (.aload_n 0, 1) := by decide +kernel
theorem dL_isSo_673 : decode cL_isSo 673 = .ok (.bipush 22, 2) := by decide +kernel
theorem dL_isSo_675 : decode cL_isSo 675 = .ok (.invokevirtual 118, 3) := by decide +kernel
theorem dL_isSo_678 : decode cL_isSo 678 = .ok (.aload_n 1, 1) := by decide +kernel
theorem dL_isSo_679 : decode cL_isSo 679 = .ok (.iconst 2, 1) := by decide +kernel
theorem dL_isSo_680 : decode cL_isSo 680 = .ok (.iaload, 1) := by decide +kernel
theorem dL_isSo_681 : decode cL_isSo 681 = .ok (.if_icmp .ne 20, 3) := by decide +kernel
theorem dL_isSo_684 : decode cL_isSo 684 = .ok (.aload_n 0, 1) := by decide +kernel
theorem dL_isSo_685 : decode cL_isSo 685 = .ok (.aload_n 1, 1) := by decide +kernel
theorem dL_isSo_686 : decode cL_isSo 686 = .ok (.iconst 4, 1) := by decide +kernel
theorem dL_isSo_687 : decode cL_isSo 687 = .ok (.iaload, 1) := by decide +kernel
theorem dL_isSo_688 : decode cL_isSo 688 = .ok (.iconst 0, 1) := by decide +kernel
theorem dL_isSo_689 : decode cL_isSo 689 = .ok (.invokevirtual 112, 3) := by decide +kernel
theorem dL_isSo_692 : decode cL_isSo 692 = .ok (.ldc 58, 2) := by decide +kernel
theorem dL_isSo_694 : decode cL_isSo 694 = .ok (.if_icmp .ne 7, 3) := by decide +kernel
theorem dL_isSo_697 : decode cL_isSo 697 = .ok (.iconst 1, 1) := by decide +kernel
theorem dL_isSo_698 : decode cL_isSo 698 = .ok (.goto 4, 3) := by decide +kernel
theorem dL_isSo_701 : decode cL_isSo 701 = .ok (.iconst 0, 1) := by decide +kernel
theorem dL_isSo_702 : decode cL_isSo 702 = .ok (.ireturn, 1) := by decide +kernel
theorem dL_law_0 : decode cL_law 0 = .ok (.new 36, 3) := by decide +kernel
theorem dL_law_3 : decode cL_law 3 = .ok (.dup, 1) := by decide +kernel
theorem dL_law_4 : decode cL_law 4 = .ok (.invokespecial 121, 3) := by decide +kernel
theorem dL_law_7 : decode cL_law 7 = .ok (.astore_n 1, 1) := by decide +kernel
theorem dL_law_8 : decode cL_law 8 = .ok (.bipush 13, 2) := by decide +kernel
theorem dL_law_10 : decode cL_law 10 = .ok (.newarray .int, 2) := by decide +kernel
theorem dL_law_12 : decode cL_law 12 = .ok (.astore_n 2, 1) := by decide +kernel
theorem dL_law_13 : decode cL_law 13 = .ok (.bipush 64, 2) := by decide +kernel
theorem dL_law_15 : decode cL_law 15 = .ok (.newarray .int, 2) := by decide +kernel
theorem dL_law_17 : decode cL_law 17 = .ok (.astore_n 3, 1) := by decide +kernel
theorem dL_law_18 : decode cL_law 18 = .ok (.bipush 64, 2) := by decide +kernel
theorem dL_law_20 : decode cL_law 20 = .ok (.newarray .int, 2) := by decide +kernel
theorem dL_law_22 : decode cL_law 22 = .ok (.astore 4, 2) := by decide +kernel
theorem dL_law_24 : decode cL_law 24 = .ok (.bipush 64, 2) := by decide +kernel
theorem dL_law_26 : decode cL_law 26 = .ok (.newarray .int, 2) := by decide +kernel
theorem dL_law_28 : decode cL_law 28 = .ok (.astore 5, 2) := by decide +kernel
theorem dL_law_30 : decode cL_law 30 = .ok (.bipush 32, 2) := by decide +kernel
theorem dL_law_32 : decode cL_law 32 = .ok (.newarray .int, 2) := by decide +kernel
theorem dL_law_34 : decode cL_law 34 = .ok (.astore 6, 2) := by decide +kernel
theorem dL_law_36 : decode cL_law 36 = .ok (.bipush 50, 2) := by decide +kernel
theorem dL_law_38 : decode cL_law 38 = .ok (.newarray .int, 2) := by decide +kernel
theorem dL_law_40 : decode cL_law 40 = .ok (.astore 7, 2) := by decide +kernel
theorem dL_law_42 : decode cL_law 42 = .ok (.aload_n 2, 1) := by decide +kernel
theorem dL_law_43 : decode cL_law 43 = .ok (.iconst 0, 1) := by decide +kernel
theorem dL_law_44 : decode cL_law 44 = .ok (.iconst 3, 1) := by decide +kernel
theorem dL_law_45 : decode cL_law 45 = .ok (.iastore, 1) := by decide +kernel
theorem dL_law_46 : decode cL_law 46 = .ok (.aload_n 2, 1) := by decide +kernel
theorem dL_law_47 : decode cL_law 47 = .ok (.iconst 1, 1) := by decide +kernel
theorem dL_law_48 : decode cL_law 48 = .ok (.bipush 8, 2) := by decide +kernel
theorem dL_law_50 : decode cL_law 50 = .ok (.iastore, 1) := by decide +kernel
theorem dL_law_51 : decode cL_law 51 = .ok (.aload_n 2, 1) := by decide +kernel
theorem dL_law_52 : decode cL_law 52 = .ok (.iconst 2, 1) := by decide +kernel
theorem dL_law_53 : decode cL_law 53 = .ok (.iconst 1, 1) := by decide +kernel
theorem dL_law_54 : decode cL_law 54 = .ok (.iastore, 1) := by decide +kernel
theorem dL_law_55 : decode cL_law 55 = .ok (.aload_n 1, 1) := by decide +kernel
theorem dL_law_56 : decode cL_law 56 = .ok (.aload_n 2, 1) := by decide +kernel
theorem dL_law_57 : decode cL_law 57 = .ok (.aload_n 3, 1) := by decide +kernel
theorem dL_law_58 : decode cL_law 58 = .ok (.aload 4, 2) := by decide +kernel
theorem dL_law_60 : decode cL_law 60 = .ok (.aload 5, 2) := by decide +kernel
theorem dL_law_62 : decode cL_law 62 = .ok (.aload 6, 2) := by decide +kernel
theorem dL_law_64 : decode cL_law 64 = .ok (.aload 7, 2) := by decide +kernel
theorem dL_law_66 : decode cL_law 66 = .ok (.invokestatic 122, 3) := by decide +kernel
theorem dL_law_69 : decode cL_law 69 = .ok (.istore 8, 2) := by decide +kernel
theorem dL_law_71 : decode cL_law 71 = .ok (.iconst 0, 1) := by decide +kernel
theorem dL_law_72 : decode cL_law 72 = .ok (.istore 9, 2) := by decide +kernel
theorem dL_law_74 : decode cL_law 74 = .ok (.iload 9, 2) := by decide +kernel
theorem dL_law_76 : decode cL_law 76 = .ok (.iconst 5, 1) := by decide +kernel
theorem dL_law_77 : decode cL_law 77 = .ok (.if_icmp .ge 62, 3) := by decide +kernel
theorem dL_law_80 : decode cL_law 80 = .ok (.iload 8, 2) := by decide +kernel
theorem dL_law_82 : decode cL_law 82 = .ok (.ifCond .eq 57, 3) := by decide +kernel
theorem dL_law_85 : decode cL_law 85 = .ok (.aload_n 1, 1) := by decide +kernel
theorem dL_law_86 : decode cL_law 86 = .ok (.aload_n 2, 1) := by decide +kernel
theorem dL_law_87 : decode cL_law 87 = .ok (.aload_n 3, 1) := by decide +kernel
theorem dL_law_88 : decode cL_law 88 = .ok (.aload 4, 2) := by decide +kernel
theorem dL_law_90 : decode cL_law 90 = .ok (.aload 5, 2) := by decide +kernel
theorem dL_law_92 : decode cL_law 92 = .ok (.aload 6, 2) := by decide +kernel
theorem dL_law_94 : decode cL_law 94 = .ok (.aload 7, 2) := by decide +kernel
theorem dL_law_96 : decode cL_law 96 = .ok (.aload_n 0, 1) := by decide +kernel
theorem dL_law_97 : decode cL_law 97 = .ok (.iconst 1, 1) := by decide +kernel
theorem dL_law_98 : decode cL_law 98 = .ok (.iload 9, 2) := by decide +kernel
theorem dL_law_100 : decode cL_law 100 = .ok (.iadd, 1) := by decide +kernel
theorem dL_law_101 : decode cL_law 101 = .ok (.invokestatic 126, 3) := by decide +kernel
theorem dL_law_104 : decode cL_law 104 = .ok (.ldc 8, 2) := by decide +kernel
theorem dL_law_106 : decode cL_law 106 = .ok (.iand, 1) := by decide +kernel
theorem dL_law_107 : decode cL_law 107 = .ok (.sipush 832, 3) := by decide +kernel
theorem dL_law_110 : decode cL_law 110 = .ok (.idiv, 1) := by decide +kernel
theorem dL_law_111 : decode cL_law 111 = .ok (.sipush 832, 3) := by decide +kernel
theorem dL_law_114 : decode cL_law 114 = .ok (.imul, 1) := by decide +kernel
theorem dL_law_115 : decode cL_law 115 = .ok (.iload 9, 2) := by decide +kernel
theorem dL_law_117 : decode cL_law 117 = .ok (.iconst 2, 1) := by decide +kernel
theorem dL_law_118 : decode cL_law 118 = .ok (.if_icmp .ge 8, 3) := by decide +kernel
theorem dL_law_121 : decode cL_law 121 = .ok (.bipush 6, 2) := by decide +kernel
theorem dL_law_123 : decode cL_law 123 = .ok (.goto 4, 3) := by decide +kernel
theorem dL_law_126 : decode cL_law 126 = .ok (.iconst 0, 1) := by decide +kernel
theorem dL_law_127 : decode cL_law 127 = .ok (.iadd, 1) := by decide +kernel
theorem dL_law_128 : decode cL_law 128 = .ok (.invokestatic 130, 3) := by decide +kernel
theorem dL_law_131 : decode cL_law 131 = .ok (.istore 8, 2) := by decide +kernel
theorem dL_law_133 : decode cL_law 133 = .ok (.iinc 9 1, 3) := by decide +kernel
theorem dL_law_136 : decode cL_law 136 = .ok (.goto (-62), 3) := by decide +kernel
theorem dL_law_139 : decode cL_law 139 = .ok (.bipush 12, 2) := by decide +kernel
theorem dL_law_141 : decode cL_law 141 = .ok (.aload_n 0, 1) := by decide +kernel
theorem dL_law_142 : decode cL_law 142 = .ok (.iconst 0, 1) := by decide +kernel
theorem dL_law_143 : decode cL_law 143 = .ok (.invokestatic 126, 3) := by decide +kernel
theorem dL_law_146 : decode cL_law 146 = .ok (.bipush 48, 2) := by decide +kernel
theorem dL_law_148 : decode cL_law 148 = .ok (.invokestatic 65, 3) := by decide +kernel
theorem dL_law_151 : decode cL_law 151 = .ok (.iadd, 1) := by decide +kernel
theorem dL_law_152 : decode cL_law 152 = .ok (.istore 9, 2) := by decide +kernel
theorem dL_law_154 : decode cL_law 154 = .ok (.iconst 0, 1) := by decide +kernel
theorem dL_law_155 : decode cL_law 155 = .ok (.istore 10, 2) := by decide +kernel
theorem dL_law_157 : decode cL_law 157 = .ok (.iload 10, 2) := by decide +kernel
theorem dL_law_159 : decode cL_law 159 = .ok (.iload 9, 2) := by decide +kernel
theorem dL_law_161 : decode cL_law 161 = .ok (.if_icmp .ge 71, 3) := by decide +kernel
theorem dL_law_164 : decode cL_law 164 = .ok (.iload 8, 2) := by decide +kernel
theorem dL_law_166 : decode cL_law 166 = .ok (.ifCond .eq 66, 3) := by decide +kernel
theorem dL_law_169 : decode cL_law 169 = .ok (.aload_n 1, 1) := by decide +kernel
theorem dL_law_170 : decode cL_law 170 = .ok (.aload_n 2, 1) := by decide +kernel
theorem dL_law_171 : decode cL_law 171 = .ok (.aload_n 3, 1) := by decide +kernel
theorem dL_law_172 : decode cL_law 172 = .ok (.aload 4, 2) := by decide +kernel
theorem dL_law_174 : decode cL_law 174 = .ok (.aload 5, 2) := by decide +kernel
theorem dL_law_176 : decode cL_law 176 = .ok (.aload 6, 2) := by decide +kernel
theorem dL_law_178 : decode cL_law 178 = .ok (.aload 7, 2) := by decide +kernel
theorem dL_law_180 : decode cL_law 180 = .ok (.aload_n 0, 1) := by decide +kernel
theorem dL_law_181 : decode cL_law 181 = .ok (.bipush 6, 2) := by decide +kernel
theorem dL_law_183 : decode cL_law 183 = .ok (.iload 10, 2) := by decide +kernel
theorem dL_law_185 : decode cL_law 185 = .ok (.iadd, 1) := by decide +kernel
theorem dL_law_186 : decode cL_law 186 = .ok (.invokestatic 126, 3) := by decide +kernel
theorem dL_law_189 : decode cL_law 189 = .ok (.sipush 7919, 3) := by decide +kernel
theorem dL_law_192 : decode cL_law 192 = .ok (.iload 10, 2) := by decide +kernel
theorem dL_law_194 : decode cL_law 194 = .ok (.imul, 1) := by decide +kernel
theorem dL_law_195 : decode cL_law 195 = .ok (.ixor, 1) := by decide +kernel
theorem dL_law_196 : decode cL_law 196 = .ok (.invokestatic 130, 3) := by decide +kernel
theorem dL_law_199 : decode cL_law 199 = .ok (.ifCond .eq 24, 3) := by decide +kernel
theorem dL_law_202 : decode cL_law 202 = .ok (.aload_n 1, 1) := by decide +kernel
theorem dL_law_203 : decode cL_law 203 = .ok (.aload_n 2, 1) := by decide +kernel
theorem dL_law_204 : decode cL_law 204 = .ok (.aload_n 3, 1) := by decide +kernel
theorem dL_law_205 : decode cL_law 205 = .ok (.aload 4, 2) := by decide +kernel
theorem dL_law_207 : decode cL_law 207 = .ok (.aload 5, 2) := by decide +kernel
theorem dL_law_209 : decode cL_law 209 = .ok (.aload 6, 2) := by decide +kernel
theorem dL_law_211 : decode cL_law 211 = .ok (.aload 7, 2) := by decide +kernel
theorem dL_law_213 : decode cL_law 213 = .ok (.invokestatic 122, 3) := by decide +kernel
theorem dL_law_216 : decode cL_law 216 = .ok (.ifCond .eq 7, 3) := by decide +kernel
theorem dL_law_219 : decode cL_law 219 = .ok (.iconst 1, 1) := by decide +kernel
theorem dL_law_220 : decode cL_law 220 = .ok (.goto 4, 3) := by decide +kernel
theorem dL_law_223 : decode cL_law 223 = .ok (.iconst 0, 1) := by decide +kernel
theorem dL_law_224 : decode cL_law 224 = .ok (.istore 8, 2) := by decide +kernel
theorem dL_law_226 : decode cL_law 226 = .ok (.iinc 10 1, 3) := by decide +kernel
theorem dL_law_229 : decode cL_law 229 = .ok (.goto (-72), 3) := by decide +kernel
theorem dL_law_232 : decode cL_law 232 = .ok (.iload 8, 2) := by decide +kernel
theorem dL_law_234 : decode cL_law 234 = .ok (.ifCond .eq 51, 3) := by decide +kernel
theorem dL_law_237 : decode cL_law 237 = .ok (.aload_n 1, 1) := by decide +kernel
theorem dL_law_238 : decode cL_law 238 = .ok (.bipush 13, 2) := by decide +kernel
theorem dL_law_240 : decode cL_law 240 = .ok (.invokevirtual 118, 3) := by decide +kernel
theorem dL_law_243 : decode cL_law 243 = .ok (.ldc 58, 2) := by decide +kernel
theorem dL_law_245 : decode cL_law 245 = .ok (.if_icmp .ne 40, 3) := by decide +kernel
theorem dL_law_248 : decode cL_law 248 = .ok (.aload_n 1, 1) := by decide +kernel
theorem dL_law_249 : decode cL_law 249 = .ok (.bipush 23, 2) := by decide +kernel
theorem dL_law_251 : decode cL_law 251 = .ok (.invokevirtual 118, 3) := by decide +kernel
theorem dL_law_254 : decode cL_law 254 = .ok (.ldc 58, 2) := by decide +kernel
theorem dL_law_256 : decode cL_law 256 = .ok (.if_icmp .ne 29, 3) := by decide +kernel
theorem dL_law_259 : decode cL_law 259 = .ok (.aload_n 1, 1) := by decide +kernel
theorem dL_law_260 : decode cL_law 260 = .ok (.iconst (-1), 1) := by decide +kernel
theorem dL_law_261 : decode cL_law 261 = .ok (.iconst 0, 1) := by decide +kernel
theorem dL_law_262 : decode cL_law 262 = .ok (.invokevirtual 115, 3) := by decide +kernel
theorem dL_law_265 : decode cL_law 265 = .ok (.ldc 58, 2) := by decide +kernel
theorem dL_law_267 : decode cL_law 267 = .ok (.if_icmp .ne 18, 3) := by decide +kernel
theorem dL_law_270 : decode cL_law 270 = .ok (.aload_n 1, 1) := by decide +kernel
theorem dL_law_271 : decode cL_law 271 = .ok (.iconst 0, 1) := by decide +kernel
theorem dL_law_272 : decode cL_law 272 = .ok (.iconst 5, 1) := by decide +kernel
theorem dL_law_273 : decode cL_law 273 = .ok (.invokevirtual 115, 3) := by decide +kernel
theorem dL_law_276 : decode cL_law 276 = .ok (.ldc 58, 2) := by decide +kernel
theorem dL_law_278 : decode cL_law 278 = .ok (.if_icmp .ne 7, 3) := by decide +kernel
theorem dL_law_281 : decode cL_law 281 = .ok (.iconst 1, 1) := by decide +kernel
theorem dL_law_282 : decode cL_law 282 = .ok (.goto 4, 3) := by decide +kernel
theorem dL_law_285 : decode cL_law 285 = .ok (.iconst 0, 1) := by decide +kernel
theorem dL_law_286 : decode cL_law 286 = .ok (.ireturn, 1) := by decide +kernel
theorem dJ6_bitCount_0f7a4_0 : decode cJ6_bitCount_0f7a4 0 = .ok (.iload_n 0, 1) := by decide +kernel
theorem dJ6_bitCount_0f7a4_1 : decode cJ6_bitCount_0f7a4 1 = .ok (.iload_n 0, 1) := by decide +kernel
theorem dJ6_bitCount_0f7a4_2 : decode cJ6_bitCount_0f7a4 2 = .ok (.iconst 1, 1) := by decide +kernel
theorem dJ6_bitCount_0f7a4_3 : decode cJ6_bitCount_0f7a4 3 = .ok (.iushr, 1) := by decide +kernel
theorem dJ6_bitCount_0f7a4_4 : decode cJ6_bitCount_0f7a4 4 = .ok (.ldc_w 265, 3) := by decide +kernel
theorem dJ6_bitCount_0f7a4_7 : decode cJ6_bitCount_0f7a4 7 = .ok (.iand, 1) := by decide +kernel
theorem dJ6_bitCount_0f7a4_8 : decode cJ6_bitCount_0f7a4 8 = .ok (.isub, 1) := by decide +kernel
theorem dJ6_bitCount_0f7a4_9 : decode cJ6_bitCount_0f7a4 9 = .ok (.istore_n 0, 1) := by decide +kernel
theorem dJ6_bitCount_0f7a4_10 : decode cJ6_bitCount_0f7a4 10 = .ok (.iload_n 0, 1) := by decide +kernel
theorem dJ6_bitCount_0f7a4_11 : decode cJ6_bitCount_0f7a4 11 = .ok (.ldc_w 266, 3) := by decide +kernel
theorem dJ6_bitCount_0f7a4_14 : decode cJ6_bitCount_0f7a4 14 = .ok (.iand, 1) := by decide +kernel
theorem dJ6_bitCount_0f7a4_15 : decode cJ6_bitCount_0f7a4 15 = .ok (.iload_n 0, 1) := by decide +kernel
theorem dJ6_bitCount_0f7a4_16 : decode cJ6_bitCount_0f7a4 16 = .ok (.iconst 2, 1) := by decide +kernel
theorem dJ6_bitCount_0f7a4_17 : decode cJ6_bitCount_0f7a4 17 = .ok (.iushr, 1) := by decide +kernel
theorem dJ6_bitCount_0f7a4_18 : decode cJ6_bitCount_0f7a4 18 = .ok (.ldc_w 266, 3) := by decide +kernel
theorem dJ6_bitCount_0f7a4_21 : decode cJ6_bitCount_0f7a4 21 = .ok (.iand, 1) := by decide +kernel
theorem dJ6_bitCount_0f7a4_22 : decode cJ6_bitCount_0f7a4 22 = .ok (.iadd, 1) := by decide +kernel
theorem dJ6_bitCount_0f7a4_23 : decode cJ6_bitCount_0f7a4 23 = .ok (.istore_n 0, 1) := by decide +kernel
theorem dJ6_bitCount_0f7a4_24 : decode cJ6_bitCount_0f7a4 24 = .ok (.iload_n 0, 1) := by decide +kernel
theorem dJ6_bitCount_0f7a4_25 : decode cJ6_bitCount_0f7a4 25 = .ok (.iload_n 0, 1) := by decide +kernel
theorem dJ6_bitCount_0f7a4_26 : decode cJ6_bitCount_0f7a4 26 = .ok (.iconst 4, 1) := by decide +kernel
theorem dJ6_bitCount_0f7a4_27 : decode cJ6_bitCount_0f7a4 27 = .ok (.iushr, 1) := by decide +kernel
theorem dJ6_bitCount_0f7a4_28 : decode cJ6_bitCount_0f7a4 28 = .ok (.iadd, 1) := by decide +kernel
theorem dJ6_bitCount_0f7a4_29 : decode cJ6_bitCount_0f7a4 29 = .ok (.ldc_w 267, 3) := by decide +kernel
theorem dJ6_bitCount_0f7a4_32 : decode cJ6_bitCount_0f7a4 32 = .ok (.iand, 1) := by decide +kernel
theorem dJ6_bitCount_0f7a4_33 : decode cJ6_bitCount_0f7a4 33 = .ok (.istore_n 0, 1) := by decide +kernel
theorem dJ6_bitCount_0f7a4_34 : decode cJ6_bitCount_0f7a4 34 = .ok (.iload_n 0, 1) := by decide +kernel
theorem dJ6_bitCount_0f7a4_35 : decode cJ6_bitCount_0f7a4 35 = .ok (.iload_n 0, 1) := by decide +kernel
theorem dJ6_bitCount_0f7a4_36 : decode cJ6_bitCount_0f7a4 36 = .ok (.bipush 8, 2) := by decide +kernel
theorem dJ6_bitCount_0f7a4_38 : decode cJ6_bitCount_0f7a4 38 = .ok (.iushr, 1) := by decide +kernel
theorem dJ6_bitCount_0f7a4_39 : decode cJ6_bitCount_0f7a4 39 = .ok (.iadd, 1) := by decide +kernel
theorem dJ6_bitCount_0f7a4_40 : decode cJ6_bitCount_0f7a4 40 = .ok (.istore_n 0, 1) := by decide +kernel
theorem dJ6_bitCount_0f7a4_41 : decode cJ6_bitCount_0f7a4 41 = .ok (.iload_n 0, 1) := by decide +kernel
theorem dJ6_bitCount_0f7a4_42 : decode cJ6_bitCount_0f7a4 42 = .ok (.iload_n 0, 1) := by decide +kernel
theorem dJ6_bitCount_0f7a4_43 : decode cJ6_bitCount_0f7a4 43 = .ok (.bipush 16, 2) := by decide +kernel
theorem dJ6_bitCount_0f7a4_45 : decode cJ6_bitCount_0f7a4 45 = .ok (.iushr, 1) := by decide +kernel
theorem dJ6_bitCount_0f7a4_46 : decode cJ6_bitCount_0f7a4 46 = .ok (.iadd, 1) := by decide +kernel
theorem dJ6_bitCount_0f7a4_47 : decode cJ6_bitCount_0f7a4 47 = .ok (.istore_n 0, 1) := by decide +kernel
theorem dJ6_bitCount_0f7a4_48 : decode cJ6_bitCount_0f7a4 48 = .ok (.iload_n 0, 1) := by decide +kernel
theorem dJ6_bitCount_0f7a4_49 : decode cJ6_bitCount_0f7a4 49 = .ok (.bipush 63, 2) := by decide +kernel
theorem dJ6_bitCount_0f7a4_51 : decode cJ6_bitCount_0f7a4 51 = .ok (.iand, 1) := by decide +kernel
theorem dJ6_bitCount_0f7a4_52 : decode cJ6_bitCount_0f7a4 52 = .ok (.ireturn, 1) := by decide +kernel
theorem dJ9_max_7cf53_0 : decode cJ9_max_7cf53 0 = .ok (.iload_n 0, 1) := by decide +kernel
theorem dJ9_max_7cf53_1 : decode cJ9_max_7cf53 1 = .ok (.iload_n 1, 1) := by decide +kernel
theorem dJ9_max_7cf53_2 : decode cJ9_max_7cf53 2 = .ok (.if_icmp .lt 7, 3) := by decide +kernel
theorem dJ9_max_7cf53_5 : decode cJ9_max_7cf53 5 = .ok (.iload_n 0, 1) := by decide +kernel
theorem dJ9_max_7cf53_6 : decode cJ9_max_7cf53 6 = .ok (.goto 4, 3) := by decide +kernel
theorem dJ9_max_7cf53_9 : decode cJ9_max_7cf53 9 = .ok (.iload_n 1, 1) := by decide +kernel
theorem dJ9_max_7cf53_10 : decode cJ9_max_7cf53 10 = .ok (.ireturn, 1) := by decide +kernel
theorem dJ9_min_7cf53_0 : decode cJ9_min_7cf53 0 = .ok (.iload_n 0, 1) := by decide +kernel
theorem dJ9_min_7cf53_1 : decode cJ9_min_7cf53 1 = .ok (.iload_n 1, 1) := by decide +kernel
theorem dJ9_min_7cf53_2 : decode cJ9_min_7cf53 2 = .ok (.if_icmp .gt 7, 3) := by decide +kernel
theorem dJ9_min_7cf53_5 : decode cJ9_min_7cf53 5 = .ok (.iload_n 0, 1) := by decide +kernel
theorem dJ9_min_7cf53_6 : decode cJ9_min_7cf53 6 = .ok (.goto 4, 3) := by decide +kernel
theorem dJ9_min_7cf53_9 : decode cJ9_min_7cf53 9 = .ok (.iload_n 1, 1) := by decide +kernel
theorem dJ9_min_7cf53_10 : decode cJ9_min_7cf53 10 = .ok (.ireturn, 1) := by decide +kernel
end
section
def zgw : List Cond := lw_tbl.filter goodWord
theorem zgw_at (i : Nat) {w : Cond} (h : lw_tbl[i]? = some w) (g : goodWord w = true) : w ∈ zgw := List.mem_filter.mpr ⟨List.mem_of_getElem? h, g⟩
theorem zgw_good : ∀ w ∈ zgw, goodWord w = true := fun _ h => (List.mem_filter.mp h).2
theorem zw_0 : (Jvm.Cond.selects "FreightSplits" (⟨"FreightSplits", "settingCount", "(I)I"⟩ : Jvm.MethodName) (⟨"FreightSplits", "settingCount", "(I)I"⟩ : Jvm.MethodName)) ∈ zgw := zgw_at 0 (by decide +kernel) (by decide +kernel)
theorem zw_1 : (Jvm.Cond.selects "FreightSplits" (⟨"FreightSplits", "changed", "(I)I"⟩ : Jvm.MethodName) (⟨"FreightSplits", "changed", "(I)I"⟩ : Jvm.MethodName)) ∈ zgw := zgw_at 1 (by decide +kernel) (by decide +kernel)
theorem zw_2 : (Jvm.Cond.selects "FreightSplits" (⟨"FreightSplits", "placeOf", "(LFreightSplits$Vehicle;)I"⟩ : Jvm.MethodName) (⟨"FreightSplits", "placeOf", "(LFreightSplits$Vehicle;)I"⟩ : Jvm.MethodName)) ∈ zgw := zgw_at 2 (by decide +kernel) (by decide +kernel)
theorem zw_3 : (Jvm.Cond.initialized "FreightSplitsLaw") ∈ zgw := zgw_at 3 (by decide +kernel) (by decide +kernel)
theorem zw_4 : (Jvm.Cond.initialized "FreightSplits") ∈ zgw := zgw_at 4 (by decide +kernel) (by decide +kernel)
theorem zw_5 : (Jvm.Cond.initialized "FreightSplits$Hall") ∈ zgw := zgw_at 5 (by decide +kernel) (by decide +kernel)
theorem zw_6 : (Jvm.Cond.initialized "FreightSplits$Consignment") ∈ zgw := zgw_at 6 (by decide +kernel) (by decide +kernel)
theorem zw_7 : (Jvm.Cond.initialized "FreightSplits$Vehicle") ∈ zgw := zgw_at 7 (by decide +kernel) (by decide +kernel)
theorem zw_8 : (Jvm.Cond.initialized "FreightSplits$Offer") ∈ zgw := zgw_at 8 (by decide +kernel) (by decide +kernel)
theorem zw_9 : (Jvm.Cond.initialized "FreightSplits$History") ∈ zgw := zgw_at 9 (by decide +kernel) (by decide +kernel)
theorem zw_10 : (Jvm.Cond.initialized "FreightSplits$Script") ∈ zgw := zgw_at 10 (by decide +kernel) (by decide +kernel)
theorem zw_11 : (Jvm.Cond.initialized "java/lang/System") ∈ zgw := zgw_at 11 (by decide +kernel) (by decide +kernel)
theorem zw_12 : (Jvm.Cond.initialized "java/lang/Math") ∈ zgw := zgw_at 12 (by decide +kernel) (by decide +kernel)
theorem zw_13 : (Jvm.Cond.initialized "java/lang/Integer") ∈ zgw := zgw_at 13 (by decide +kernel) (by decide +kernel)
theorem zw_14 : (Jvm.Cond.classLink "FreightSplitsLaw" (36 : Nat) "FreightSplits") ∈ zgw := zgw_at 14 (by decide +kernel) (by decide +kernel)
theorem zw_15 : (Jvm.Cond.instantiable "FreightSplits" (6 : Nat)) ∈ zgw := zgw_at 15 (by decide +kernel) (by decide +kernel)
theorem zw_16 : (Jvm.Cond.methodLink "FreightSplitsLaw" (121 : Nat) ({ cls := "FreightSplits", name := "<init>", desc := "()V" } : Jvm.MethodName)) ∈ zgw := zgw_at 16 (by decide +kernel) (by decide +kernel)
theorem zw_17 : (Jvm.Cond.instanceMethod ({ cls := "FreightSplits", name := "<init>", desc := "()V" } : Jvm.MethodName)) ∈ zgw := zgw_at 17 (by decide +kernel) (by decide +kernel)
theorem zw_18 : (Jvm.Cond.code ({ cls := "FreightSplits", name := "<init>", desc := "()V" } : Jvm.MethodName) prog_1_method_1_code (1 : Nat) (Option.none : Option Jvm.ClassFile.FieldType)) ∈ zgw := zgw_at 18 (by decide +kernel) (by decide +kernel)
theorem zw_19 : (Jvm.Cond.methodLink "FreightSplits" (1 : Nat) ({ cls := "java/lang/Object", name := "<init>", desc := "()V" } : Jvm.MethodName)) ∈ zgw := zgw_at 19 (by decide +kernel) (by decide +kernel)
theorem zw_20 : (Jvm.Cond.instanceMethod ({ cls := "java/lang/Object", name := "<init>", desc := "()V" } : Jvm.MethodName)) ∈ zgw := zgw_at 20 (by decide +kernel) (by decide +kernel)
theorem zw_21 : (Jvm.Cond.code ({ cls := "java/lang/Object", name := "<init>", desc := "()V" } : Jvm.MethodName) object_method_1_code (1 : Nat) (Option.none : Option Jvm.ClassFile.FieldType)) ∈ zgw := zgw_at 21 (by decide +kernel) (by decide +kernel)
theorem zw_22 : (Jvm.Cond.classLink "FreightSplits" (7 : Nat) "FreightSplits$Hall") ∈ zgw := zgw_at 22 (by decide +kernel) (by decide +kernel)
theorem zw_23 : (Jvm.Cond.instantiable "FreightSplits$Hall" (12 : Nat)) ∈ zgw := zgw_at 23 (by decide +kernel) (by decide +kernel)
theorem zw_24 : (Jvm.Cond.methodLink "FreightSplits" (9 : Nat) ({ cls := "FreightSplits$Hall", name := "<init>", desc := "()V" } : Jvm.MethodName)) ∈ zgw := zgw_at 24 (by decide +kernel) (by decide +kernel)
theorem zw_25 : (Jvm.Cond.instanceMethod ({ cls := "FreightSplits$Hall", name := "<init>", desc := "()V" } : Jvm.MethodName)) ∈ zgw := zgw_at 25 (by decide +kernel) (by decide +kernel)
theorem zw_26 : (Jvm.Cond.code ({ cls := "FreightSplits$Hall", name := "<init>", desc := "()V" } : Jvm.MethodName) prog_3_method_1_code (2 : Nat) (Option.none : Option Jvm.ClassFile.FieldType)) ∈ zgw := zgw_at 26 (by decide +kernel) (by decide +kernel)
theorem zw_27 : (Jvm.Cond.methodLink "FreightSplits$Hall" (3 : Nat) ({ cls := "java/lang/Object", name := "<init>", desc := "()V" } : Jvm.MethodName)) ∈ zgw := zgw_at 27 (by decide +kernel) (by decide +kernel)
theorem zw_28 : (Jvm.Cond.classLink "FreightSplits$Hall" (9 : Nat) "FreightSplits$Consignment") ∈ zgw := zgw_at 28 (by decide +kernel) (by decide +kernel)
theorem zw_30 : (Jvm.Cond.classLink "FreightSplits$Hall" (17 : Nat) "FreightSplits$Vehicle") ∈ zgw := zgw_at 30 (by decide +kernel) (by decide +kernel)
theorem zw_32 : (Jvm.Cond.classLink "FreightSplits$Hall" (23 : Nat) "FreightSplits$Offer") ∈ zgw := zgw_at 32 (by decide +kernel) (by decide +kernel)
theorem zw_34 : (Jvm.Cond.instantiable "FreightSplits$Consignment" (13 : Nat)) ∈ zgw := zgw_at 34 (by decide +kernel) (by decide +kernel)
theorem zw_35 : (Jvm.Cond.methodLink "FreightSplits$Hall" (33 : Nat) ({ cls := "FreightSplits$Consignment", name := "<init>", desc := "(I)V" } : Jvm.MethodName)) ∈ zgw := zgw_at 35 (by decide +kernel) (by decide +kernel)
theorem zw_36 : (Jvm.Cond.instanceMethod ({ cls := "FreightSplits$Consignment", name := "<init>", desc := "(I)V" } : Jvm.MethodName)) ∈ zgw := zgw_at 36 (by decide +kernel) (by decide +kernel)
theorem zw_37 : (Jvm.Cond.code ({ cls := "FreightSplits$Consignment", name := "<init>", desc := "(I)V" } : Jvm.MethodName) prog_2_method_1_code (2 : Nat) (Option.none : Option Jvm.ClassFile.FieldType)) ∈ zgw := zgw_at 37 (by decide +kernel) (by decide +kernel)
theorem zw_38 : (Jvm.Cond.methodLink "FreightSplits$Consignment" (3 : Nat) ({ cls := "java/lang/Object", name := "<init>", desc := "()V" } : Jvm.MethodName)) ∈ zgw := zgw_at 38 (by decide +kernel) (by decide +kernel)
theorem zw_39 : (Jvm.Cond.fieldLink "FreightSplits$Consignment" (9 : Nat) "FreightSplits$Consignment" "number" "I") ∈ zgw := zgw_at 39 (by decide +kernel) (by decide +kernel)
theorem zw_40 : (Jvm.Cond.fieldLink "FreightSplits$Hall" (104 : Nat) "FreightSplits$Consignment" "number" "I") ∈ zgw := zgw_at 40 (by decide +kernel) (by decide +kernel)
theorem zw_41 : (Jvm.Cond.fieldLink "FreightSplits$Consignment" (31 : Nat) "FreightSplits$Consignment" "place" "I") ∈ zgw := zgw_at 41 (by decide +kernel) (by decide +kernel)
theorem zw_42 : (Jvm.Cond.fieldLink "FreightSplits$Hall" (83 : Nat) "FreightSplits$Consignment" "place" "I") ∈ zgw := zgw_at 42 (by decide +kernel) (by decide +kernel)
theorem zw_43 : (Jvm.Cond.fieldLink "FreightSplits" (92 : Nat) "FreightSplits$Consignment" "place" "I") ∈ zgw := zgw_at 43 (by decide +kernel) (by decide +kernel)
theorem zw_44 : (Jvm.Cond.fieldLink "FreightSplits$Consignment" (34 : Nat) "FreightSplits$Consignment" "size" "I") ∈ zgw := zgw_at 44 (by decide +kernel) (by decide +kernel)
theorem zw_45 : (Jvm.Cond.fieldLink "FreightSplits$Hall" (86 : Nat) "FreightSplits$Consignment" "size" "I") ∈ zgw := zgw_at 45 (by decide +kernel) (by decide +kernel)
theorem zw_46 : (Jvm.Cond.fieldLink "FreightSplits" (98 : Nat) "FreightSplits$Consignment" "size" "I") ∈ zgw := zgw_at 46 (by decide +kernel) (by decide +kernel)
theorem zw_47 : (Jvm.Cond.fieldLink "FreightSplits$Consignment" (37 : Nat) "FreightSplits$Consignment" "weight" "I") ∈ zgw := zgw_at 47 (by decide +kernel) (by decide +kernel)
theorem zw_48 : (Jvm.Cond.fieldLink "FreightSplits$Hall" (89 : Nat) "FreightSplits$Consignment" "weight" "I") ∈ zgw := zgw_at 48 (by decide +kernel) (by decide +kernel)
theorem zw_49 : (Jvm.Cond.fieldLink "FreightSplits" (101 : Nat) "FreightSplits$Consignment" "weight" "I") ∈ zgw := zgw_at 49 (by decide +kernel) (by decide +kernel)
theorem zw_50 : (Jvm.Cond.fieldLink "FreightSplits$Consignment" (40 : Nat) "FreightSplits$Consignment" "from" "I") ∈ zgw := zgw_at 50 (by decide +kernel) (by decide +kernel)
theorem zw_51 : (Jvm.Cond.fieldLink "FreightSplits$Hall" (92 : Nat) "FreightSplits$Consignment" "from" "I") ∈ zgw := zgw_at 51 (by decide +kernel) (by decide +kernel)
theorem zw_52 : (Jvm.Cond.fieldLink "FreightSplits" (104 : Nat) "FreightSplits$Consignment" "from" "I") ∈ zgw := zgw_at 52 (by decide +kernel) (by decide +kernel)
theorem zw_53 : (Jvm.Cond.fieldLink "FreightSplits$Consignment" (43 : Nat) "FreightSplits$Consignment" "to" "I") ∈ zgw := zgw_at 53 (by decide +kernel) (by decide +kernel)
theorem zw_54 : (Jvm.Cond.fieldLink "FreightSplits$Hall" (95 : Nat) "FreightSplits$Consignment" "to" "I") ∈ zgw := zgw_at 54 (by decide +kernel) (by decide +kernel)
theorem zw_55 : (Jvm.Cond.fieldLink "FreightSplits" (107 : Nat) "FreightSplits$Consignment" "to" "I") ∈ zgw := zgw_at 55 (by decide +kernel) (by decide +kernel)
theorem zw_56 : (Jvm.Cond.fieldLink "FreightSplits$Consignment" (46 : Nat) "FreightSplits$Consignment" "worth" "I") ∈ zgw := zgw_at 56 (by decide +kernel) (by decide +kernel)
theorem zw_57 : (Jvm.Cond.fieldLink "FreightSplits$Hall" (98 : Nat) "FreightSplits$Consignment" "worth" "I") ∈ zgw := zgw_at 57 (by decide +kernel) (by decide +kernel)
theorem zw_58 : (Jvm.Cond.fieldLink "FreightSplits" (110 : Nat) "FreightSplits$Consignment" "worth" "I") ∈ zgw := zgw_at 58 (by decide +kernel) (by decide +kernel)
theorem zw_59 : (Jvm.Cond.fieldLink "FreightSplits$Consignment" (19 : Nat) "FreightSplits$Consignment" "state" "I") ∈ zgw := zgw_at 59 (by decide +kernel) (by decide +kernel)
theorem zw_60 : (Jvm.Cond.fieldLink "FreightSplits$Hall" (79 : Nat) "FreightSplits$Consignment" "state" "I") ∈ zgw := zgw_at 60 (by decide +kernel) (by decide +kernel)
theorem zw_61 : (Jvm.Cond.fieldLink "FreightSplits" (113 : Nat) "FreightSplits$Consignment" "state" "I") ∈ zgw := zgw_at 61 (by decide +kernel) (by decide +kernel)
theorem zw_62 : (Jvm.Cond.fieldLink "FreightSplits$Consignment" (49 : Nat) "FreightSplits$Consignment" "since" "I") ∈ zgw := zgw_at 62 (by decide +kernel) (by decide +kernel)
theorem zw_63 : (Jvm.Cond.fieldLink "FreightSplits$Hall" (101 : Nat) "FreightSplits$Consignment" "since" "I") ∈ zgw := zgw_at 63 (by decide +kernel) (by decide +kernel)
theorem zw_64 : (Jvm.Cond.fieldLink "FreightSplits" (139 : Nat) "FreightSplits$Consignment" "since" "I") ∈ zgw := zgw_at 64 (by decide +kernel) (by decide +kernel)
theorem zw_65 : (Jvm.Cond.fieldLink "FreightSplits$Consignment" (52 : Nat) "FreightSplits$Consignment" "whole" "I") ∈ zgw := zgw_at 65 (by decide +kernel) (by decide +kernel)
theorem zw_66 : (Jvm.Cond.fieldLink "FreightSplits$Hall" (107 : Nat) "FreightSplits$Consignment" "whole" "I") ∈ zgw := zgw_at 66 (by decide +kernel) (by decide +kernel)
theorem zw_67 : (Jvm.Cond.fieldLink "FreightSplits" (123 : Nat) "FreightSplits$Consignment" "whole" "I") ∈ zgw := zgw_at 67 (by decide +kernel) (by decide +kernel)
theorem zw_68 : (Jvm.Cond.fieldLink "FreightSplits$Consignment" (22 : Nat) "FreightSplits$Consignment" "vehicle" "I") ∈ zgw := zgw_at 68 (by decide +kernel) (by decide +kernel)
theorem zw_69 : (Jvm.Cond.fieldLink "FreightSplits$Hall" (157 : Nat) "FreightSplits$Consignment" "vehicle" "I") ∈ zgw := zgw_at 69 (by decide +kernel) (by decide +kernel)
theorem zw_70 : (Jvm.Cond.fieldLink "FreightSplits" (116 : Nat) "FreightSplits$Consignment" "vehicle" "I") ∈ zgw := zgw_at 70 (by decide +kernel) (by decide +kernel)
theorem zw_71 : (Jvm.Cond.fieldLink "FreightSplits$Consignment" (25 : Nat) "FreightSplits$Consignment" "departed" "I") ∈ zgw := zgw_at 71 (by decide +kernel) (by decide +kernel)
theorem zw_72 : (Jvm.Cond.fieldLink "FreightSplits$Hall" (179 : Nat) "FreightSplits$Consignment" "departed" "I") ∈ zgw := zgw_at 72 (by decide +kernel) (by decide +kernel)
theorem zw_73 : (Jvm.Cond.fieldLink "FreightSplits" (136 : Nat) "FreightSplits$Consignment" "departed" "I") ∈ zgw := zgw_at 73 (by decide +kernel) (by decide +kernel)
theorem zw_74 : (Jvm.Cond.fieldLink "FreightSplits$Consignment" (28 : Nat) "FreightSplits$Consignment" "delivered" "I") ∈ zgw := zgw_at 74 (by decide +kernel) (by decide +kernel)
theorem zw_75 : (Jvm.Cond.fieldLink "FreightSplits" (120 : Nat) "FreightSplits$Consignment" "delivered" "I") ∈ zgw := zgw_at 75 (by decide +kernel) (by decide +kernel)
theorem zw_76 : (Jvm.Cond.fieldLink "FreightSplits$Hall" (224 : Nat) "FreightSplits$Consignment" "delivered" "I") ∈ zgw := zgw_at 76 (by decide +kernel) (by decide +kernel)
theorem zw_77 : (Jvm.Cond.laysFinal "FreightSplits$Consignment" "FreightSplits$Consignment" "number" "I") ∈ zgw := zgw_at 77 (by decide +kernel) (by decide +kernel)
theorem zw_79 : (Jvm.Cond.lays "FreightSplits$Consignment" "FreightSplits$Consignment" "place" "I") ∈ zgw := zgw_at 79 (by decide +kernel) (by decide +kernel)
theorem zw_81 : (Jvm.Cond.lays "FreightSplits$Consignment" "FreightSplits$Consignment" "size" "I") ∈ zgw := zgw_at 81 (by decide +kernel) (by decide +kernel)
theorem zw_83 : (Jvm.Cond.lays "FreightSplits$Consignment" "FreightSplits$Consignment" "weight" "I") ∈ zgw := zgw_at 83 (by decide +kernel) (by decide +kernel)
theorem zw_85 : (Jvm.Cond.lays "FreightSplits$Consignment" "FreightSplits$Consignment" "from" "I") ∈ zgw := zgw_at 85 (by decide +kernel) (by decide +kernel)
theorem zw_87 : (Jvm.Cond.lays "FreightSplits$Consignment" "FreightSplits$Consignment" "to" "I") ∈ zgw := zgw_at 87 (by decide +kernel) (by decide +kernel)
theorem zw_89 : (Jvm.Cond.lays "FreightSplits$Consignment" "FreightSplits$Consignment" "worth" "I") ∈ zgw := zgw_at 89 (by decide +kernel) (by decide +kernel)
theorem zw_91 : (Jvm.Cond.lays "FreightSplits$Consignment" "FreightSplits$Consignment" "state" "I") ∈ zgw := zgw_at 91 (by decide +kernel) (by decide +kernel)
theorem zw_93 : (Jvm.Cond.lays "FreightSplits$Consignment" "FreightSplits$Consignment" "since" "I") ∈ zgw := zgw_at 93 (by decide +kernel) (by decide +kernel)
theorem zw_95 : (Jvm.Cond.lays "FreightSplits$Consignment" "FreightSplits$Consignment" "whole" "I") ∈ zgw := zgw_at 95 (by decide +kernel) (by decide +kernel)
theorem zw_97 : (Jvm.Cond.lays "FreightSplits$Consignment" "FreightSplits$Consignment" "vehicle" "I") ∈ zgw := zgw_at 97 (by decide +kernel) (by decide +kernel)
theorem zw_99 : (Jvm.Cond.lays "FreightSplits$Consignment" "FreightSplits$Consignment" "departed" "I") ∈ zgw := zgw_at 99 (by decide +kernel) (by decide +kernel)
theorem zw_101 : (Jvm.Cond.lays "FreightSplits$Consignment" "FreightSplits$Consignment" "delivered" "I") ∈ zgw := zgw_at 101 (by decide +kernel) (by decide +kernel)
theorem zw_104 : (Jvm.Cond.arrayClass Jvm.ClassFile.FieldType.int) ∈ zgw := zgw_at 104 (by decide +kernel) (by decide +kernel)
theorem zw_105 : (Jvm.Cond.instantiable "FreightSplits$Vehicle" (9 : Nat)) ∈ zgw := zgw_at 105 (by decide +kernel) (by decide +kernel)
theorem zw_106 : (Jvm.Cond.methodLink "FreightSplits$Hall" (36 : Nat) ({ cls := "FreightSplits$Vehicle", name := "<init>", desc := "(I)V" } : Jvm.MethodName)) ∈ zgw := zgw_at 106 (by decide +kernel) (by decide +kernel)
theorem zw_107 : (Jvm.Cond.instanceMethod ({ cls := "FreightSplits$Vehicle", name := "<init>", desc := "(I)V" } : Jvm.MethodName)) ∈ zgw := zgw_at 107 (by decide +kernel) (by decide +kernel)
theorem zw_108 : (Jvm.Cond.code ({ cls := "FreightSplits$Vehicle", name := "<init>", desc := "(I)V" } : Jvm.MethodName) prog_7_method_1_code (2 : Nat) (Option.none : Option Jvm.ClassFile.FieldType)) ∈ zgw := zgw_at 108 (by decide +kernel) (by decide +kernel)
theorem zw_109 : (Jvm.Cond.methodLink "FreightSplits$Vehicle" (1 : Nat) ({ cls := "java/lang/Object", name := "<init>", desc := "()V" } : Jvm.MethodName)) ∈ zgw := zgw_at 109 (by decide +kernel) (by decide +kernel)
theorem zw_110 : (Jvm.Cond.fieldLink "FreightSplits$Vehicle" (7 : Nat) "FreightSplits$Vehicle" "number" "I") ∈ zgw := zgw_at 110 (by decide +kernel) (by decide +kernel)
theorem zw_111 : (Jvm.Cond.fieldLink "FreightSplits$Consignment" (55 : Nat) "FreightSplits$Vehicle" "number" "I") ∈ zgw := zgw_at 111 (by decide +kernel) (by decide +kernel)
theorem zw_112 : (Jvm.Cond.fieldLink "FreightSplits$Hall" (148 : Nat) "FreightSplits$Vehicle" "number" "I") ∈ zgw := zgw_at 112 (by decide +kernel) (by decide +kernel)
theorem zw_113 : (Jvm.Cond.fieldLink "FreightSplits$Vehicle" (13 : Nat) "FreightSplits$Vehicle" "room" "I") ∈ zgw := zgw_at 113 (by decide +kernel) (by decide +kernel)
theorem zw_114 : (Jvm.Cond.fieldLink "FreightSplits$Hall" (135 : Nat) "FreightSplits$Vehicle" "room" "I") ∈ zgw := zgw_at 114 (by decide +kernel) (by decide +kernel)
theorem zw_115 : (Jvm.Cond.fieldLink "FreightSplits" (146 : Nat) "FreightSplits$Vehicle" "room" "I") ∈ zgw := zgw_at 115 (by decide +kernel) (by decide +kernel)
theorem zw_116 : (Jvm.Cond.fieldLink "FreightSplits$Vehicle" (16 : Nat) "FreightSplits$Vehicle" "bound" "I") ∈ zgw := zgw_at 116 (by decide +kernel) (by decide +kernel)
theorem zw_117 : (Jvm.Cond.fieldLink "FreightSplits$Hall" (138 : Nat) "FreightSplits$Vehicle" "bound" "I") ∈ zgw := zgw_at 117 (by decide +kernel) (by decide +kernel)
theorem zw_118 : (Jvm.Cond.fieldLink "FreightSplits" (151 : Nat) "FreightSplits$Vehicle" "bound" "I") ∈ zgw := zgw_at 118 (by decide +kernel) (by decide +kernel)
theorem zw_119 : (Jvm.Cond.fieldLink "FreightSplits$Vehicle" (19 : Nat) "FreightSplits$Vehicle" "state" "I") ∈ zgw := zgw_at 119 (by decide +kernel) (by decide +kernel)
theorem zw_120 : (Jvm.Cond.fieldLink "FreightSplits$Hall" (141 : Nat) "FreightSplits$Vehicle" "state" "I") ∈ zgw := zgw_at 120 (by decide +kernel) (by decide +kernel)
theorem zw_121 : (Jvm.Cond.fieldLink "FreightSplits" (154 : Nat) "FreightSplits$Vehicle" "state" "I") ∈ zgw := zgw_at 121 (by decide +kernel) (by decide +kernel)
theorem zw_122 : (Jvm.Cond.fieldLink "FreightSplits$Vehicle" (22 : Nat) "FreightSplits$Vehicle" "place" "I") ∈ zgw := zgw_at 122 (by decide +kernel) (by decide +kernel)
theorem zw_123 : (Jvm.Cond.fieldLink "FreightSplits$Hall" (182 : Nat) "FreightSplits$Vehicle" "place" "I") ∈ zgw := zgw_at 123 (by decide +kernel) (by decide +kernel)
theorem zw_124 : (Jvm.Cond.fieldLink "FreightSplits" (267 : Nat) "FreightSplits$Vehicle" "place" "I") ∈ zgw := zgw_at 124 (by decide +kernel) (by decide +kernel)
theorem zw_125 : (Jvm.Cond.fieldLink "FreightSplits$Vehicle" (25 : Nat) "FreightSplits$Vehicle" "way" "I") ∈ zgw := zgw_at 125 (by decide +kernel) (by decide +kernel)
theorem zw_126 : (Jvm.Cond.fieldLink "FreightSplits$Hall" (183 : Nat) "FreightSplits$Vehicle" "way" "I") ∈ zgw := zgw_at 126 (by decide +kernel) (by decide +kernel)
theorem zw_127 : (Jvm.Cond.fieldLink "FreightSplits$Vehicle" (28 : Nat) "FreightSplits$Vehicle" "hour" "I") ∈ zgw := zgw_at 127 (by decide +kernel) (by decide +kernel)
theorem zw_128 : (Jvm.Cond.fieldLink "FreightSplits$Hall" (186 : Nat) "FreightSplits$Vehicle" "hour" "I") ∈ zgw := zgw_at 128 (by decide +kernel) (by decide +kernel)
theorem zw_129 : (Jvm.Cond.fieldLink "FreightSplits" (168 : Nat) "FreightSplits$Vehicle" "hour" "I") ∈ zgw := zgw_at 129 (by decide +kernel) (by decide +kernel)
theorem zw_130 : (Jvm.Cond.fieldLink "FreightSplits$Vehicle" (31 : Nat) "FreightSplits$Vehicle" "brings" "I") ∈ zgw := zgw_at 130 (by decide +kernel) (by decide +kernel)
theorem zw_131 : (Jvm.Cond.fieldLink "FreightSplits$Hall" (142 : Nat) "FreightSplits$Vehicle" "brings" "I") ∈ zgw := zgw_at 131 (by decide +kernel) (by decide +kernel)
theorem zw_132 : (Jvm.Cond.fieldLink "FreightSplits" (171 : Nat) "FreightSplits$Vehicle" "brings" "I") ∈ zgw := zgw_at 132 (by decide +kernel) (by decide +kernel)
theorem zw_133 : (Jvm.Cond.fieldLink "FreightSplits$Vehicle" (34 : Nat) "FreightSplits$Vehicle" "trips" "I") ∈ zgw := zgw_at 133 (by decide +kernel) (by decide +kernel)
theorem zw_134 : (Jvm.Cond.fieldLink "FreightSplits$Hall" (145 : Nat) "FreightSplits$Vehicle" "trips" "I") ∈ zgw := zgw_at 134 (by decide +kernel) (by decide +kernel)
theorem zw_135 : (Jvm.Cond.fieldLink "FreightSplits" (174 : Nat) "FreightSplits$Vehicle" "trips" "I") ∈ zgw := zgw_at 135 (by decide +kernel) (by decide +kernel)
theorem zw_136 : (Jvm.Cond.laysFinal "FreightSplits$Vehicle" "FreightSplits$Vehicle" "number" "I") ∈ zgw := zgw_at 136 (by decide +kernel) (by decide +kernel)
theorem zw_138 : (Jvm.Cond.lays "FreightSplits$Vehicle" "FreightSplits$Vehicle" "room" "I") ∈ zgw := zgw_at 138 (by decide +kernel) (by decide +kernel)
theorem zw_140 : (Jvm.Cond.lays "FreightSplits$Vehicle" "FreightSplits$Vehicle" "bound" "I") ∈ zgw := zgw_at 140 (by decide +kernel) (by decide +kernel)
theorem zw_142 : (Jvm.Cond.lays "FreightSplits$Vehicle" "FreightSplits$Vehicle" "state" "I") ∈ zgw := zgw_at 142 (by decide +kernel) (by decide +kernel)
theorem zw_144 : (Jvm.Cond.lays "FreightSplits$Vehicle" "FreightSplits$Vehicle" "place" "I") ∈ zgw := zgw_at 144 (by decide +kernel) (by decide +kernel)
theorem zw_146 : (Jvm.Cond.lays "FreightSplits$Vehicle" "FreightSplits$Vehicle" "way" "I") ∈ zgw := zgw_at 146 (by decide +kernel) (by decide +kernel)
theorem zw_148 : (Jvm.Cond.lays "FreightSplits$Vehicle" "FreightSplits$Vehicle" "hour" "I") ∈ zgw := zgw_at 148 (by decide +kernel) (by decide +kernel)
theorem zw_150 : (Jvm.Cond.lays "FreightSplits$Vehicle" "FreightSplits$Vehicle" "brings" "I") ∈ zgw := zgw_at 150 (by decide +kernel) (by decide +kernel)
theorem zw_152 : (Jvm.Cond.lays "FreightSplits$Vehicle" "FreightSplits$Vehicle" "trips" "I") ∈ zgw := zgw_at 152 (by decide +kernel) (by decide +kernel)
theorem zw_155 : (Jvm.Cond.instantiable "FreightSplits$Offer" (5 : Nat)) ∈ zgw := zgw_at 155 (by decide +kernel) (by decide +kernel)
theorem zw_157 : (Jvm.Cond.instanceMethod ({ cls := "FreightSplits$Offer", name := "<init>", desc := "()V" } : Jvm.MethodName)) ∈ zgw := zgw_at 157 (by decide +kernel) (by decide +kernel)
theorem zw_158 : (Jvm.Cond.code ({ cls := "FreightSplits$Offer", name := "<init>", desc := "()V" } : Jvm.MethodName) prog_5_method_1_code (1 : Nat) (Option.none : Option Jvm.ClassFile.FieldType)) ∈ zgw := zgw_at 158 (by decide +kernel) (by decide +kernel)
theorem zw_159 : (Jvm.Cond.methodLink "FreightSplits$Offer" (1 : Nat) ({ cls := "java/lang/Object", name := "<init>", desc := "()V" } : Jvm.MethodName)) ∈ zgw := zgw_at 159 (by decide +kernel) (by decide +kernel)
theorem zw_160 : (Jvm.Cond.fieldLink "FreightSplits$Offer" (7 : Nat) "FreightSplits$Offer" "place" "I") ∈ zgw := zgw_at 160 (by decide +kernel) (by decide +kernel)
theorem zw_161 : (Jvm.Cond.fieldLink "FreightSplits$Hall" (189 : Nat) "FreightSplits$Offer" "place" "I") ∈ zgw := zgw_at 161 (by decide +kernel) (by decide +kernel)
theorem zw_162 : (Jvm.Cond.fieldLink "FreightSplits" (184 : Nat) "FreightSplits$Offer" "place" "I") ∈ zgw := zgw_at 162 (by decide +kernel) (by decide +kernel)
theorem zw_163 : (Jvm.Cond.fieldLink "FreightSplits$Offer" (13 : Nat) "FreightSplits$Offer" "size" "I") ∈ zgw := zgw_at 163 (by decide +kernel) (by decide +kernel)
theorem zw_164 : (Jvm.Cond.fieldLink "FreightSplits$Hall" (190 : Nat) "FreightSplits$Offer" "size" "I") ∈ zgw := zgw_at 164 (by decide +kernel) (by decide +kernel)
theorem zw_165 : (Jvm.Cond.fieldLink "FreightSplits" (187 : Nat) "FreightSplits$Offer" "size" "I") ∈ zgw := zgw_at 165 (by decide +kernel) (by decide +kernel)
theorem zw_166 : (Jvm.Cond.fieldLink "FreightSplits$Offer" (16 : Nat) "FreightSplits$Offer" "weight" "I") ∈ zgw := zgw_at 166 (by decide +kernel) (by decide +kernel)
theorem zw_167 : (Jvm.Cond.fieldLink "FreightSplits$Hall" (191 : Nat) "FreightSplits$Offer" "weight" "I") ∈ zgw := zgw_at 167 (by decide +kernel) (by decide +kernel)
theorem zw_168 : (Jvm.Cond.fieldLink "FreightSplits" (188 : Nat) "FreightSplits$Offer" "weight" "I") ∈ zgw := zgw_at 168 (by decide +kernel) (by decide +kernel)
theorem zw_169 : (Jvm.Cond.fieldLink "FreightSplits$Offer" (19 : Nat) "FreightSplits$Offer" "price" "I") ∈ zgw := zgw_at 169 (by decide +kernel) (by decide +kernel)
theorem zw_170 : (Jvm.Cond.fieldLink "FreightSplits$Hall" (192 : Nat) "FreightSplits$Offer" "price" "I") ∈ zgw := zgw_at 170 (by decide +kernel) (by decide +kernel)
theorem zw_171 : (Jvm.Cond.fieldLink "FreightSplits" (189 : Nat) "FreightSplits$Offer" "price" "I") ∈ zgw := zgw_at 171 (by decide +kernel) (by decide +kernel)
theorem zw_172 : (Jvm.Cond.fieldLink "FreightSplits$Offer" (22 : Nat) "FreightSplits$Offer" "until" "I") ∈ zgw := zgw_at 172 (by decide +kernel) (by decide +kernel)
theorem zw_173 : (Jvm.Cond.fieldLink "FreightSplits$Hall" (195 : Nat) "FreightSplits$Offer" "until" "I") ∈ zgw := zgw_at 173 (by decide +kernel) (by decide +kernel)
theorem zw_174 : (Jvm.Cond.fieldLink "FreightSplits" (192 : Nat) "FreightSplits$Offer" "until" "I") ∈ zgw := zgw_at 174 (by decide +kernel) (by decide +kernel)
theorem zw_175 : (Jvm.Cond.lays "FreightSplits$Offer" "FreightSplits$Offer" "place" "I") ∈ zgw := zgw_at 175 (by decide +kernel) (by decide +kernel)
theorem zw_177 : (Jvm.Cond.lays "FreightSplits$Offer" "FreightSplits$Offer" "size" "I") ∈ zgw := zgw_at 177 (by decide +kernel) (by decide +kernel)
theorem zw_179 : (Jvm.Cond.lays "FreightSplits$Offer" "FreightSplits$Offer" "weight" "I") ∈ zgw := zgw_at 179 (by decide +kernel) (by decide +kernel)
theorem zw_181 : (Jvm.Cond.lays "FreightSplits$Offer" "FreightSplits$Offer" "price" "I") ∈ zgw := zgw_at 181 (by decide +kernel) (by decide +kernel)
theorem zw_183 : (Jvm.Cond.lays "FreightSplits$Offer" "FreightSplits$Offer" "until" "I") ∈ zgw := zgw_at 183 (by decide +kernel) (by decide +kernel)
theorem zw_186 : (Jvm.Cond.fieldLink "FreightSplits$Hall" (11 : Nat) "FreightSplits$Hall" "consignments" "[LFreightSplits$Consignment;") ∈ zgw := zgw_at 186 (by decide +kernel) (by decide +kernel)
theorem zw_187 : (Jvm.Cond.fieldLink "FreightSplits$Hall" (19 : Nat) "FreightSplits$Hall" "vehicles" "[LFreightSplits$Vehicle;") ∈ zgw := zgw_at 187 (by decide +kernel) (by decide +kernel)
theorem zw_188 : (Jvm.Cond.fieldLink "FreightSplits$Hall" (25 : Nat) "FreightSplits$Hall" "offers" "[LFreightSplits$Offer;") ∈ zgw := zgw_at 188 (by decide +kernel) (by decide +kernel)
theorem zw_189 : (Jvm.Cond.fieldLink "FreightSplits" (180 : Nat) "FreightSplits$Hall" "offers" "[LFreightSplits$Offer;") ∈ zgw := zgw_at 189 (by decide +kernel) (by decide +kernel)
theorem zw_190 : (Jvm.Cond.fieldLink "FreightSplits$Hall" (29 : Nat) "FreightSplits$Hall" "settings" "[I") ∈ zgw := zgw_at 190 (by decide +kernel) (by decide +kernel)
theorem zw_191 : (Jvm.Cond.fieldLink "FreightSplits" (268 : Nat) "FreightSplits$Hall" "settings" "[I") ∈ zgw := zgw_at 191 (by decide +kernel) (by decide +kernel)
theorem zw_192 : (Jvm.Cond.fieldLink "FreightSplits$Hall" (38 : Nat) "FreightSplits$Hall" "made" "I") ∈ zgw := zgw_at 192 (by decide +kernel) (by decide +kernel)
theorem zw_193 : (Jvm.Cond.fieldLink "FreightSplits" (195 : Nat) "FreightSplits$Hall" "made" "I") ∈ zgw := zgw_at 193 (by decide +kernel) (by decide +kernel)
theorem zw_194 : (Jvm.Cond.fieldLink "FreightSplits$Hall" (42 : Nat) "FreightSplits$Hall" "vehicleCount" "I") ∈ zgw := zgw_at 194 (by decide +kernel) (by decide +kernel)
theorem zw_195 : (Jvm.Cond.fieldLink "FreightSplits" (198 : Nat) "FreightSplits$Hall" "vehicleCount" "I") ∈ zgw := zgw_at 195 (by decide +kernel) (by decide +kernel)
theorem zw_196 : (Jvm.Cond.fieldLink "FreightSplits$Hall" (45 : Nat) "FreightSplits$Hall" "offerCount" "I") ∈ zgw := zgw_at 196 (by decide +kernel) (by decide +kernel)
theorem zw_197 : (Jvm.Cond.fieldLink "FreightSplits" (177 : Nat) "FreightSplits$Hall" "offerCount" "I") ∈ zgw := zgw_at 197 (by decide +kernel) (by decide +kernel)
theorem zw_198 : (Jvm.Cond.fieldLink "FreightSplits$Hall" (48 : Nat) "FreightSplits$Hall" "time" "I") ∈ zgw := zgw_at 198 (by decide +kernel) (by decide +kernel)
theorem zw_199 : (Jvm.Cond.fieldLink "FreightSplits" (133 : Nat) "FreightSplits$Hall" "time" "I") ∈ zgw := zgw_at 199 (by decide +kernel) (by decide +kernel)
theorem zw_200 : (Jvm.Cond.fieldLink "FreightSplits$Hall" (51 : Nat) "FreightSplits$Hall" "earned" "I") ∈ zgw := zgw_at 200 (by decide +kernel) (by decide +kernel)
theorem zw_201 : (Jvm.Cond.fieldLink "FreightSplits" (208 : Nat) "FreightSplits$Hall" "earned" "I") ∈ zgw := zgw_at 201 (by decide +kernel) (by decide +kernel)
theorem zw_202 : (Jvm.Cond.fieldLink "FreightSplits$Hall" (54 : Nat) "FreightSplits$Hall" "offersEarned" "I") ∈ zgw := zgw_at 202 (by decide +kernel) (by decide +kernel)
theorem zw_203 : (Jvm.Cond.fieldLink "FreightSplits" (211 : Nat) "FreightSplits$Hall" "offersEarned" "I") ∈ zgw := zgw_at 203 (by decide +kernel) (by decide +kernel)
theorem zw_204 : (Jvm.Cond.fieldLink "FreightSplits$Hall" (57 : Nat) "FreightSplits$Hall" "feesPaid" "I") ∈ zgw := zgw_at 204 (by decide +kernel) (by decide +kernel)
theorem zw_205 : (Jvm.Cond.fieldLink "FreightSplits" (214 : Nat) "FreightSplits$Hall" "feesPaid" "I") ∈ zgw := zgw_at 205 (by decide +kernel) (by decide +kernel)
theorem zw_206 : (Jvm.Cond.fieldLink "FreightSplits$Hall" (60 : Nat) "FreightSplits$Hall" "earlyPaid" "I") ∈ zgw := zgw_at 206 (by decide +kernel) (by decide +kernel)
theorem zw_207 : (Jvm.Cond.fieldLink "FreightSplits" (217 : Nat) "FreightSplits$Hall" "earlyPaid" "I") ∈ zgw := zgw_at 207 (by decide +kernel) (by decide +kernel)
theorem zw_208 : (Jvm.Cond.laysFinal "FreightSplits$Hall" "FreightSplits$Hall" "consignments" "[LFreightSplits$Consignment;") ∈ zgw := zgw_at 208 (by decide +kernel) (by decide +kernel)
theorem zw_210 : (Jvm.Cond.laysFinal "FreightSplits$Hall" "FreightSplits$Hall" "vehicles" "[LFreightSplits$Vehicle;") ∈ zgw := zgw_at 210 (by decide +kernel) (by decide +kernel)
theorem zw_212 : (Jvm.Cond.laysFinal "FreightSplits$Hall" "FreightSplits$Hall" "offers" "[LFreightSplits$Offer;") ∈ zgw := zgw_at 212 (by decide +kernel) (by decide +kernel)
theorem zw_214 : (Jvm.Cond.laysFinal "FreightSplits$Hall" "FreightSplits$Hall" "settings" "[I") ∈ zgw := zgw_at 214 (by decide +kernel) (by decide +kernel)
theorem zw_216 : (Jvm.Cond.lays "FreightSplits$Hall" "FreightSplits$Hall" "made" "I") ∈ zgw := zgw_at 216 (by decide +kernel) (by decide +kernel)
theorem zw_218 : (Jvm.Cond.lays "FreightSplits$Hall" "FreightSplits$Hall" "vehicleCount" "I") ∈ zgw := zgw_at 218 (by decide +kernel) (by decide +kernel)
theorem zw_220 : (Jvm.Cond.lays "FreightSplits$Hall" "FreightSplits$Hall" "offerCount" "I") ∈ zgw := zgw_at 220 (by decide +kernel) (by decide +kernel)
theorem zw_222 : (Jvm.Cond.lays "FreightSplits$Hall" "FreightSplits$Hall" "time" "I") ∈ zgw := zgw_at 222 (by decide +kernel) (by decide +kernel)
theorem zw_224 : (Jvm.Cond.lays "FreightSplits$Hall" "FreightSplits$Hall" "earned" "I") ∈ zgw := zgw_at 224 (by decide +kernel) (by decide +kernel)
theorem zw_226 : (Jvm.Cond.lays "FreightSplits$Hall" "FreightSplits$Hall" "offersEarned" "I") ∈ zgw := zgw_at 226 (by decide +kernel) (by decide +kernel)
theorem zw_228 : (Jvm.Cond.lays "FreightSplits$Hall" "FreightSplits$Hall" "feesPaid" "I") ∈ zgw := zgw_at 228 (by decide +kernel) (by decide +kernel)
theorem zw_230 : (Jvm.Cond.lays "FreightSplits$Hall" "FreightSplits$Hall" "earlyPaid" "I") ∈ zgw := zgw_at 230 (by decide +kernel) (by decide +kernel)
theorem zw_233 : (Jvm.Cond.classLink "FreightSplits" (19 : Nat) "FreightSplits$History") ∈ zgw := zgw_at 233 (by decide +kernel) (by decide +kernel)
theorem zw_234 : (Jvm.Cond.instantiable "FreightSplits$History" (3 : Nat)) ∈ zgw := zgw_at 234 (by decide +kernel) (by decide +kernel)
theorem zw_235 : (Jvm.Cond.methodLink "FreightSplits" (21 : Nat) ({ cls := "FreightSplits$History", name := "<init>", desc := "()V" } : Jvm.MethodName)) ∈ zgw := zgw_at 235 (by decide +kernel) (by decide +kernel)
theorem zw_236 : (Jvm.Cond.instanceMethod ({ cls := "FreightSplits$History", name := "<init>", desc := "()V" } : Jvm.MethodName)) ∈ zgw := zgw_at 236 (by decide +kernel) (by decide +kernel)
theorem zw_237 : (Jvm.Cond.code ({ cls := "FreightSplits$History", name := "<init>", desc := "()V" } : Jvm.MethodName) prog_4_method_1_code (2 : Nat) (Option.none : Option Jvm.ClassFile.FieldType)) ∈ zgw := zgw_at 237 (by decide +kernel) (by decide +kernel)
theorem zw_238 : (Jvm.Cond.methodLink "FreightSplits$History" (3 : Nat) ({ cls := "java/lang/Object", name := "<init>", desc := "()V" } : Jvm.MethodName)) ∈ zgw := zgw_at 238 (by decide +kernel) (by decide +kernel)
theorem zw_239 : (Jvm.Cond.classLink "FreightSplits$History" (9 : Nat) "FreightSplits$Hall") ∈ zgw := zgw_at 239 (by decide +kernel) (by decide +kernel)
theorem zw_241 : (Jvm.Cond.methodLink "FreightSplits$History" (17 : Nat) ({ cls := "FreightSplits$Hall", name := "<init>", desc := "()V" } : Jvm.MethodName)) ∈ zgw := zgw_at 241 (by decide +kernel) (by decide +kernel)
theorem zw_242 : (Jvm.Cond.fieldLink "FreightSplits$History" (11 : Nat) "FreightSplits$History" "states" "[LFreightSplits$Hall;") ∈ zgw := zgw_at 242 (by decide +kernel) (by decide +kernel)
theorem zw_243 : (Jvm.Cond.fieldLink "FreightSplits$History" (18 : Nat) "FreightSplits$History" "oldest" "I") ∈ zgw := zgw_at 243 (by decide +kernel) (by decide +kernel)
theorem zw_244 : (Jvm.Cond.fieldLink "FreightSplits$History" (22 : Nat) "FreightSplits$History" "kept" "I") ∈ zgw := zgw_at 244 (by decide +kernel) (by decide +kernel)
theorem zw_245 : (Jvm.Cond.fieldLink "FreightSplits" (220 : Nat) "FreightSplits$History" "kept" "I") ∈ zgw := zgw_at 245 (by decide +kernel) (by decide +kernel)
theorem zw_246 : (Jvm.Cond.laysFinal "FreightSplits$History" "FreightSplits$History" "states" "[LFreightSplits$Hall;") ∈ zgw := zgw_at 246 (by decide +kernel) (by decide +kernel)
theorem zw_248 : (Jvm.Cond.lays "FreightSplits$History" "FreightSplits$History" "oldest" "I") ∈ zgw := zgw_at 248 (by decide +kernel) (by decide +kernel)
theorem zw_250 : (Jvm.Cond.lays "FreightSplits$History" "FreightSplits$History" "kept" "I") ∈ zgw := zgw_at 250 (by decide +kernel) (by decide +kernel)
theorem zw_253 : (Jvm.Cond.classLink "FreightSplits" (26 : Nat) "FreightSplits$Script") ∈ zgw := zgw_at 253 (by decide +kernel) (by decide +kernel)
theorem zw_254 : (Jvm.Cond.instantiable "FreightSplits$Script" (5 : Nat)) ∈ zgw := zgw_at 254 (by decide +kernel) (by decide +kernel)
theorem zw_256 : (Jvm.Cond.instanceMethod ({ cls := "FreightSplits$Script", name := "<init>", desc := "()V" } : Jvm.MethodName)) ∈ zgw := zgw_at 256 (by decide +kernel) (by decide +kernel)
theorem zw_257 : (Jvm.Cond.code ({ cls := "FreightSplits$Script", name := "<init>", desc := "()V" } : Jvm.MethodName) prog_6_method_1_code (1 : Nat) (Option.none : Option Jvm.ClassFile.FieldType)) ∈ zgw := zgw_at 257 (by decide +kernel) (by decide +kernel)
theorem zw_258 : (Jvm.Cond.methodLink "FreightSplits$Script" (3 : Nat) ({ cls := "java/lang/Object", name := "<init>", desc := "()V" } : Jvm.MethodName)) ∈ zgw := zgw_at 258 (by decide +kernel) (by decide +kernel)
theorem zw_259 : (Jvm.Cond.fieldLink "FreightSplits$Script" (9 : Nat) "FreightSplits$Script" "characters" "[C") ∈ zgw := zgw_at 259 (by decide +kernel) (by decide +kernel)
theorem zw_260 : (Jvm.Cond.fieldLink "FreightSplits$Script" (15 : Nat) "FreightSplits$Script" "numbers" "[I") ∈ zgw := zgw_at 260 (by decide +kernel) (by decide +kernel)
theorem zw_261 : (Jvm.Cond.fieldLink "FreightSplits" (223 : Nat) "FreightSplits$Script" "length" "I") ∈ zgw := zgw_at 261 (by decide +kernel) (by decide +kernel)
theorem zw_262 : (Jvm.Cond.laysFinal "FreightSplits$Script" "FreightSplits$Script" "characters" "[C") ∈ zgw := zgw_at 262 (by decide +kernel) (by decide +kernel)
theorem zw_264 : (Jvm.Cond.laysFinal "FreightSplits$Script" "FreightSplits$Script" "numbers" "[I") ∈ zgw := zgw_at 264 (by decide +kernel) (by decide +kernel)
theorem zw_266 : (Jvm.Cond.lays "FreightSplits$Script" "FreightSplits$Script" "length" "I") ∈ zgw := zgw_at 266 (by decide +kernel) (by decide +kernel)
theorem zw_268 : (Jvm.Cond.lays "FreightSplits$Script" "FreightSplits$Script" "verb" "I") ∈ zgw := zgw_at 268 (by decide +kernel) (by decide +kernel)
theorem zw_270 : (Jvm.Cond.lays "FreightSplits$Script" "FreightSplits$Script" "next" "I") ∈ zgw := zgw_at 270 (by decide +kernel) (by decide +kernel)
theorem zw_273 : (Jvm.Cond.arrayClass Jvm.ClassFile.FieldType.char) ∈ zgw := zgw_at 273 (by decide +kernel) (by decide +kernel)
theorem zw_274 : (Jvm.Cond.fieldLink "FreightSplits" (10 : Nat) "FreightSplits" "hall" "LFreightSplits$Hall;") ∈ zgw := zgw_at 274 (by decide +kernel) (by decide +kernel)
theorem zw_275 : (Jvm.Cond.fieldLink "FreightSplits" (16 : Nat) "FreightSplits" "trial" "LFreightSplits$Hall;") ∈ zgw := zgw_at 275 (by decide +kernel) (by decide +kernel)
theorem zw_276 : (Jvm.Cond.fieldLink "FreightSplits" (22 : Nat) "FreightSplits" "history" "LFreightSplits$History;") ∈ zgw := zgw_at 276 (by decide +kernel) (by decide +kernel)
theorem zw_277 : (Jvm.Cond.fieldLink "FreightSplits" (29 : Nat) "FreightSplits" "script" "LFreightSplits$Script;") ∈ zgw := zgw_at 277 (by decide +kernel) (by decide +kernel)
theorem zw_278 : (Jvm.Cond.laysFinal "FreightSplits" "FreightSplits" "hall" "LFreightSplits$Hall;") ∈ zgw := zgw_at 278 (by decide +kernel) (by decide +kernel)
theorem zw_280 : (Jvm.Cond.laysFinal "FreightSplits" "FreightSplits" "trial" "LFreightSplits$Hall;") ∈ zgw := zgw_at 280 (by decide +kernel) (by decide +kernel)
theorem zw_282 : (Jvm.Cond.laysFinal "FreightSplits" "FreightSplits" "history" "LFreightSplits$History;") ∈ zgw := zgw_at 282 (by decide +kernel) (by decide +kernel)
theorem zw_284 : (Jvm.Cond.laysFinal "FreightSplits" "FreightSplits" "script" "LFreightSplits$Script;") ∈ zgw := zgw_at 284 (by decide +kernel) (by decide +kernel)
theorem zw_286 : (Jvm.Cond.lays "FreightSplits" "FreightSplits" "faultPosition" "I") ∈ zgw := zgw_at 286 (by decide +kernel) (by decide +kernel)
theorem zw_288 : (Jvm.Cond.lays "FreightSplits" "FreightSplits" "faultReason" "I") ∈ zgw := zgw_at 288 (by decide +kernel) (by decide +kernel)
theorem zw_291 : (Jvm.Cond.methodLink "FreightSplitsLaw" (115 : Nat) ({ cls := "FreightSplits", name := "offerOf", desc := "(II)I" } : Jvm.MethodName)) ∈ zgw := zgw_at 291 (by decide +kernel) (by decide +kernel)
theorem zw_292 : (Jvm.Cond.instanceMethod ({ cls := "FreightSplits", name := "offerOf", desc := "(II)I" } : Jvm.MethodName)) ∈ zgw := zgw_at 292 (by decide +kernel) (by decide +kernel)
theorem zw_293 : (Jvm.Cond.selects "FreightSplits" ({ cls := "FreightSplits", name := "offerOf", desc := "(II)I" } : Jvm.MethodName) ({ cls := "FreightSplits", name := "offerOf", desc := "(II)I" } : Jvm.MethodName)) ∈ zgw := zgw_at 293 (by decide +kernel) (by decide +kernel)
theorem zw_294 : (Jvm.Cond.code ({ cls := "FreightSplits", name := "offerOf", desc := "(II)I" } : Jvm.MethodName) prog_1_method_15_code (4 : Nat) (Option.some Jvm.ClassFile.FieldType.int)) ∈ zgw := zgw_at 294 (by decide +kernel) (by decide +kernel)
theorem zw_295 : (Jvm.Cond.methodLink "FreightSplits" (33 : Nat) ({ cls := "FreightSplits", name := "isWithin", desc := "(III)Z" } : Jvm.MethodName)) ∈ zgw := zgw_at 295 (by decide +kernel) (by decide +kernel)
theorem zw_296 : (Jvm.Cond.static ({ cls := "FreightSplits", name := "isWithin", desc := "(III)Z" } : Jvm.MethodName)) ∈ zgw := zgw_at 296 (by decide +kernel) (by decide +kernel)
theorem zw_297 : (Jvm.Cond.code ({ cls := "FreightSplits", name := "isWithin", desc := "(III)Z" } : Jvm.MethodName) prog_1_method_25_code (3 : Nat) (Option.some Jvm.ClassFile.FieldType.boolean)) ∈ zgw := zgw_at 297 (by decide +kernel) (by decide +kernel)
theorem zw_298 : (Jvm.Cond.constant "FreightSplits" (37 : Nat) (-1000001 : Int32)) ∈ zgw := zgw_at 298 (by decide +kernel) (by decide +kernel)
theorem zw_299 : (Jvm.Cond.constant "FreightSplits" (119 : Nat) (-1000004 : Int32)) ∈ zgw := zgw_at 299 (by decide +kernel) (by decide +kernel)
theorem zw_300 : (Jvm.Cond.methodLink "FreightSplitsLaw" (118 : Nat) ({ cls := "FreightSplits", name := "count", desc := "(I)I" } : Jvm.MethodName)) ∈ zgw := zgw_at 300 (by decide +kernel) (by decide +kernel)
theorem zw_301 : (Jvm.Cond.instanceMethod ({ cls := "FreightSplits", name := "count", desc := "(I)I" } : Jvm.MethodName)) ∈ zgw := zgw_at 301 (by decide +kernel) (by decide +kernel)
theorem zw_302 : (Jvm.Cond.selects "FreightSplits" ({ cls := "FreightSplits", name := "count", desc := "(I)I" } : Jvm.MethodName) ({ cls := "FreightSplits", name := "count", desc := "(I)I" } : Jvm.MethodName)) ∈ zgw := zgw_at 302 (by decide +kernel) (by decide +kernel)
theorem zw_303 : (Jvm.Cond.code ({ cls := "FreightSplits", name := "count", desc := "(I)I" } : Jvm.MethodName) prog_1_method_16_code (2 : Nat) (Option.some Jvm.ClassFile.FieldType.int)) ∈ zgw := zgw_at 303 (by decide +kernel) (by decide +kernel)
theorem zw_304 : (Jvm.Cond.methodLink "FreightSplits" (201 : Nat) ({ cls := "FreightSplits$Hall", name := "hallSet", desc := "()I" } : Jvm.MethodName)) ∈ zgw := zgw_at 304 (by decide +kernel) (by decide +kernel)
theorem zw_305 : (Jvm.Cond.instanceMethod ({ cls := "FreightSplits$Hall", name := "hallSet", desc := "()I" } : Jvm.MethodName)) ∈ zgw := zgw_at 305 (by decide +kernel) (by decide +kernel)
theorem zw_306 : (Jvm.Cond.selects "FreightSplits$Hall" ({ cls := "FreightSplits$Hall", name := "hallSet", desc := "()I" } : Jvm.MethodName) ({ cls := "FreightSplits$Hall", name := "hallSet", desc := "()I" } : Jvm.MethodName)) ∈ zgw := zgw_at 306 (by decide +kernel) (by decide +kernel)
theorem zw_307 : (Jvm.Cond.code ({ cls := "FreightSplits$Hall", name := "hallSet", desc := "()I" } : Jvm.MethodName) prog_3_method_33_code (3 : Nat) (Option.some Jvm.ClassFile.FieldType.int)) ∈ zgw := zgw_at 307 (by decide +kernel) (by decide +kernel)
theorem zw_308 : (Jvm.Cond.methodLink "FreightSplits$Hall" (234 : Nat) ({ cls := "FreightSplits$Consignment", name := "isInHall", desc := "()Z" } : Jvm.MethodName)) ∈ zgw := zgw_at 308 (by decide +kernel) (by decide +kernel)
theorem zw_309 : (Jvm.Cond.instanceMethod ({ cls := "FreightSplits$Consignment", name := "isInHall", desc := "()Z" } : Jvm.MethodName)) ∈ zgw := zgw_at 309 (by decide +kernel) (by decide +kernel)
theorem zw_310 : (Jvm.Cond.selects "FreightSplits$Consignment" ({ cls := "FreightSplits$Consignment", name := "isInHall", desc := "()Z" } : Jvm.MethodName) ({ cls := "FreightSplits$Consignment", name := "isInHall", desc := "()Z" } : Jvm.MethodName)) ∈ zgw := zgw_at 310 (by decide +kernel) (by decide +kernel)
theorem zw_311 : (Jvm.Cond.code ({ cls := "FreightSplits$Consignment", name := "isInHall", desc := "()Z" } : Jvm.MethodName) prog_2_method_5_code (1 : Nat) (Option.some Jvm.ClassFile.FieldType.boolean)) ∈ zgw := zgw_at 311 (by decide +kernel) (by decide +kernel)
theorem zw_312 : (Jvm.Cond.methodLink "FreightSplits" (205 : Nat) ({ cls := "FreightSplits$Hall", name := "howManyAre", desc := "(I)I" } : Jvm.MethodName)) ∈ zgw := zgw_at 312 (by decide +kernel) (by decide +kernel)
theorem zw_313 : (Jvm.Cond.instanceMethod ({ cls := "FreightSplits$Hall", name := "howManyAre", desc := "(I)I" } : Jvm.MethodName)) ∈ zgw := zgw_at 313 (by decide +kernel) (by decide +kernel)
theorem zw_314 : (Jvm.Cond.selects "FreightSplits$Hall" ({ cls := "FreightSplits$Hall", name := "howManyAre", desc := "(I)I" } : Jvm.MethodName) ({ cls := "FreightSplits$Hall", name := "howManyAre", desc := "(I)I" } : Jvm.MethodName)) ∈ zgw := zgw_at 314 (by decide +kernel) (by decide +kernel)
theorem zw_315 : (Jvm.Cond.code ({ cls := "FreightSplits$Hall", name := "howManyAre", desc := "(I)I" } : Jvm.MethodName) prog_3_method_35_code (4 : Nat) (Option.some Jvm.ClassFile.FieldType.int)) ∈ zgw := zgw_at 315 (by decide +kernel) (by decide +kernel)
theorem zw_316 : (Jvm.Cond.methodLink "FreightSplits" (226 : Nat) ({ cls := "FreightSplits", name := "settingCount", desc := "(I)I" } : Jvm.MethodName)) ∈ zgw := zgw_at 316 (by decide +kernel) (by decide +kernel)
theorem zw_318 : (Jvm.Cond.instanceMethod ({ cls := "FreightSplits", name := "settingCount", desc := "(I)I" } : Jvm.MethodName)) ∈ zgw := zgw_at 318 (by decide +kernel) (by decide +kernel)
theorem zw_319 : (Jvm.Cond.code ({ cls := "FreightSplits", name := "settingCount", desc := "(I)I" } : Jvm.MethodName) prog_1_method_28_code (2 : Nat) (Option.some Jvm.ClassFile.FieldType.int)) ∈ zgw := zgw_at 319 (by decide +kernel) (by decide +kernel)
theorem zw_320 : (Jvm.Cond.methodLink "FreightSplitsLaw" (126 : Nat) ({ cls := "FreightSplitsLaw", name := "cell", desc := "([II)I" } : Jvm.MethodName)) ∈ zgw := zgw_at 320 (by decide +kernel) (by decide +kernel)
theorem zw_321 : (Jvm.Cond.static ({ cls := "FreightSplitsLaw", name := "cell", desc := "([II)I" } : Jvm.MethodName)) ∈ zgw := zgw_at 321 (by decide +kernel) (by decide +kernel)
theorem zw_322 : (Jvm.Cond.code ({ cls := "FreightSplitsLaw", name := "cell", desc := "([II)I" } : Jvm.MethodName) method_2_code (2 : Nat) (Option.some Jvm.ClassFile.FieldType.int)) ∈ zgw := zgw_at 322 (by decide +kernel) (by decide +kernel)
theorem zw_323 : (Jvm.Cond.constant "FreightSplitsLaw" (7 : Nat) (40503 : Int32)) ∈ zgw := zgw_at 323 (by decide +kernel) (by decide +kernel)
theorem zw_324 : (Jvm.Cond.methodLink "FreightSplitsLaw" (65 : Nat) ({ cls := "FreightSplitsLaw", name := "low", desc := "(II)I" } : Jvm.MethodName)) ∈ zgw := zgw_at 324 (by decide +kernel) (by decide +kernel)
theorem zw_325 : (Jvm.Cond.static ({ cls := "FreightSplitsLaw", name := "low", desc := "(II)I" } : Jvm.MethodName)) ∈ zgw := zgw_at 325 (by decide +kernel) (by decide +kernel)
theorem zw_326 : (Jvm.Cond.code ({ cls := "FreightSplitsLaw", name := "low", desc := "(II)I" } : Jvm.MethodName) method_3_code (2 : Nat) (Option.some Jvm.ClassFile.FieldType.int)) ∈ zgw := zgw_at 326 (by decide +kernel) (by decide +kernel)
theorem zw_327 : (Jvm.Cond.constant "FreightSplitsLaw" (8 : Nat) (2147483647 : Int32)) ∈ zgw := zgw_at 327 (by decide +kernel) (by decide +kernel)
theorem zw_328 : (Jvm.Cond.methodLink "FreightSplitsLaw" (130 : Nat) ({ cls := "FreightSplitsLaw", name := "acts", desc := "(LFreightSplits;[I[I[I[I[I[II)Z" } : Jvm.MethodName)) ∈ zgw := zgw_at 328 (by decide +kernel) (by decide +kernel)
theorem zw_329 : (Jvm.Cond.static ({ cls := "FreightSplitsLaw", name := "acts", desc := "(LFreightSplits;[I[I[I[I[I[II)Z" } : Jvm.MethodName)) ∈ zgw := zgw_at 329 (by decide +kernel) (by decide +kernel)
set_option maxRecDepth 100000 in
theorem zw_330 : (Jvm.Cond.code ({ cls := "FreightSplitsLaw", name := "acts", desc := "(LFreightSplits;[I[I[I[I[I[II)Z" } : Jvm.MethodName) method_16_code (16 : Nat) (Option.some Jvm.ClassFile.FieldType.boolean)) ∈ zgw := zgw_at 330 rfl (by decide +kernel)
theorem zw_331 : (Jvm.Cond.constant "FreightSplitsLaw" (64 : Nat) (10000000 : Int32)) ∈ zgw := zgw_at 331 (by decide +kernel) (by decide +kernel)
theorem zw_332 : (Jvm.Cond.methodLink "FreightSplitsLaw" (68 : Nat) ({ cls := "FreightSplitsLaw", name := "goods", desc := "(LFreightSplits;[I[I[I[III)Z" } : Jvm.MethodName)) ∈ zgw := zgw_at 332 (by decide +kernel) (by decide +kernel)
theorem zw_333 : (Jvm.Cond.static ({ cls := "FreightSplitsLaw", name := "goods", desc := "(LFreightSplits;[I[I[I[III)Z" } : Jvm.MethodName)) ∈ zgw := zgw_at 333 (by decide +kernel) (by decide +kernel)
set_option maxRecDepth 100000 in
theorem zw_334 : (Jvm.Cond.code ({ cls := "FreightSplitsLaw", name := "goods", desc := "(LFreightSplits;[I[I[I[III)Z" } : Jvm.MethodName) method_15_code (14 : Nat) (Option.some Jvm.ClassFile.FieldType.boolean)) ∈ zgw := zgw_at 334 rfl (by decide +kernel)
theorem zw_335 : (Jvm.Cond.methodLink "FreightSplitsLaw" (35 : Nat) ({ cls := "FreightSplits", name := "consign", desc := "(IIIIII)I" } : Jvm.MethodName)) ∈ zgw := zgw_at 335 (by decide +kernel) (by decide +kernel)
theorem zw_336 : (Jvm.Cond.instanceMethod ({ cls := "FreightSplits", name := "consign", desc := "(IIIIII)I" } : Jvm.MethodName)) ∈ zgw := zgw_at 336 (by decide +kernel) (by decide +kernel)
theorem zw_337 : (Jvm.Cond.selects "FreightSplits" ({ cls := "FreightSplits", name := "consign", desc := "(IIIIII)I" } : Jvm.MethodName) ({ cls := "FreightSplits", name := "consign", desc := "(IIIIII)I" } : Jvm.MethodName)) ∈ zgw := zgw_at 337 (by decide +kernel) (by decide +kernel)
theorem zw_338 : (Jvm.Cond.code ({ cls := "FreightSplits", name := "consign", desc := "(IIIIII)I" } : Jvm.MethodName) prog_1_method_2_code (7 : Nat) (Option.some Jvm.ClassFile.FieldType.int)) ∈ zgw := zgw_at 338 (by decide +kernel) (by decide +kernel)
theorem zw_339 : (Jvm.Cond.methodLink "FreightSplits" (38 : Nat) ({ cls := "FreightSplits$History", name := "prepare", desc := "(LFreightSplits$Hall;)V" } : Jvm.MethodName)) ∈ zgw := zgw_at 339 (by decide +kernel) (by decide +kernel)
theorem zw_340 : (Jvm.Cond.instanceMethod ({ cls := "FreightSplits$History", name := "prepare", desc := "(LFreightSplits$Hall;)V" } : Jvm.MethodName)) ∈ zgw := zgw_at 340 (by decide +kernel) (by decide +kernel)
theorem zw_341 : (Jvm.Cond.selects "FreightSplits$History" ({ cls := "FreightSplits$History", name := "prepare", desc := "(LFreightSplits$Hall;)V" } : Jvm.MethodName) ({ cls := "FreightSplits$History", name := "prepare", desc := "(LFreightSplits$Hall;)V" } : Jvm.MethodName)) ∈ zgw := zgw_at 341 (by decide +kernel) (by decide +kernel)
theorem zw_342 : (Jvm.Cond.code ({ cls := "FreightSplits$History", name := "prepare", desc := "(LFreightSplits$Hall;)V" } : Jvm.MethodName) prog_4_method_2_code (2 : Nat) (Option.none : Option Jvm.ClassFile.FieldType)) ∈ zgw := zgw_at 342 (by decide +kernel) (by decide +kernel)
theorem zw_343 : (Jvm.Cond.methodLink "FreightSplits$History" (25 : Nat) ({ cls := "FreightSplits$Hall", name := "copyFrom", desc := "(LFreightSplits$Hall;)V" } : Jvm.MethodName)) ∈ zgw := zgw_at 343 (by decide +kernel) (by decide +kernel)
theorem zw_344 : (Jvm.Cond.instanceMethod ({ cls := "FreightSplits$Hall", name := "copyFrom", desc := "(LFreightSplits$Hall;)V" } : Jvm.MethodName)) ∈ zgw := zgw_at 344 (by decide +kernel) (by decide +kernel)
theorem zw_345 : (Jvm.Cond.selects "FreightSplits$Hall" ({ cls := "FreightSplits$Hall", name := "copyFrom", desc := "(LFreightSplits$Hall;)V" } : Jvm.MethodName) ({ cls := "FreightSplits$Hall", name := "copyFrom", desc := "(LFreightSplits$Hall;)V" } : Jvm.MethodName)) ∈ zgw := zgw_at 345 (by decide +kernel) (by decide +kernel)
theorem zw_346 : (Jvm.Cond.code ({ cls := "FreightSplits$Hall", name := "copyFrom", desc := "(LFreightSplits$Hall;)V" } : Jvm.MethodName) prog_3_method_2_code (3 : Nat) (Option.none : Option Jvm.ClassFile.FieldType)) ∈ zgw := zgw_at 346 (by decide +kernel) (by decide +kernel)
theorem zw_347 : (Jvm.Cond.methodLink "FreightSplits$Hall" (63 : Nat) ({ cls := "java/lang/System", name := "arraycopy", desc := "(Ljava/lang/Object;ILjava/lang/Object;II)V" } : Jvm.MethodName)) ∈ zgw := zgw_at 347 (by decide +kernel) (by decide +kernel)
theorem zw_348 : (Jvm.Cond.static ({ cls := "java/lang/System", name := "arraycopy", desc := "(Ljava/lang/Object;ILjava/lang/Object;II)V" } : Jvm.MethodName)) ∈ zgw := zgw_at 348 (by decide +kernel) (by decide +kernel)
theorem zw_349 : (Jvm.Cond.native ({ cls := "java/lang/System", name := "arraycopy", desc := "(Ljava/lang/Object;ILjava/lang/Object;II)V" } : Jvm.MethodName)) ∈ zgw := zgw_at 349 (by decide +kernel) (by decide +kernel)
theorem zw_350 : (Jvm.Cond.methodLink "FreightSplits$Hall" (69 : Nat) ({ cls := "FreightSplits$Consignment", name := "copyFrom", desc := "(LFreightSplits$Consignment;)V" } : Jvm.MethodName)) ∈ zgw := zgw_at 350 (by decide +kernel) (by decide +kernel)
theorem zw_351 : (Jvm.Cond.instanceMethod ({ cls := "FreightSplits$Consignment", name := "copyFrom", desc := "(LFreightSplits$Consignment;)V" } : Jvm.MethodName)) ∈ zgw := zgw_at 351 (by decide +kernel) (by decide +kernel)
theorem zw_352 : (Jvm.Cond.selects "FreightSplits$Consignment" ({ cls := "FreightSplits$Consignment", name := "copyFrom", desc := "(LFreightSplits$Consignment;)V" } : Jvm.MethodName) ({ cls := "FreightSplits$Consignment", name := "copyFrom", desc := "(LFreightSplits$Consignment;)V" } : Jvm.MethodName)) ∈ zgw := zgw_at 352 (by decide +kernel) (by decide +kernel)
theorem zw_353 : (Jvm.Cond.code ({ cls := "FreightSplits$Consignment", name := "copyFrom", desc := "(LFreightSplits$Consignment;)V" } : Jvm.MethodName) prog_2_method_2_code (2 : Nat) (Option.none : Option Jvm.ClassFile.FieldType)) ∈ zgw := zgw_at 353 (by decide +kernel) (by decide +kernel)
theorem zw_354 : (Jvm.Cond.methodLink "FreightSplits$Consignment" (15 : Nat) ({ cls := "FreightSplits$Consignment", name := "copyFreight", desc := "(LFreightSplits$Consignment;)V" } : Jvm.MethodName)) ∈ zgw := zgw_at 354 (by decide +kernel) (by decide +kernel)
theorem zw_355 : (Jvm.Cond.instanceMethod ({ cls := "FreightSplits$Consignment", name := "copyFreight", desc := "(LFreightSplits$Consignment;)V" } : Jvm.MethodName)) ∈ zgw := zgw_at 355 (by decide +kernel) (by decide +kernel)
theorem zw_356 : (Jvm.Cond.selects "FreightSplits$Consignment" ({ cls := "FreightSplits$Consignment", name := "copyFreight", desc := "(LFreightSplits$Consignment;)V" } : Jvm.MethodName) ({ cls := "FreightSplits$Consignment", name := "copyFreight", desc := "(LFreightSplits$Consignment;)V" } : Jvm.MethodName)) ∈ zgw := zgw_at 356 (by decide +kernel) (by decide +kernel)
theorem zw_357 : (Jvm.Cond.code ({ cls := "FreightSplits$Consignment", name := "copyFreight", desc := "(LFreightSplits$Consignment;)V" } : Jvm.MethodName) prog_2_method_3_code (2 : Nat) (Option.none : Option Jvm.ClassFile.FieldType)) ∈ zgw := zgw_at 357 (by decide +kernel) (by decide +kernel)
theorem zw_358 : (Jvm.Cond.methodLink "FreightSplits$Hall" (73 : Nat) ({ cls := "FreightSplits$Vehicle", name := "copyFrom", desc := "(LFreightSplits$Vehicle;)V" } : Jvm.MethodName)) ∈ zgw := zgw_at 358 (by decide +kernel) (by decide +kernel)
theorem zw_359 : (Jvm.Cond.instanceMethod ({ cls := "FreightSplits$Vehicle", name := "copyFrom", desc := "(LFreightSplits$Vehicle;)V" } : Jvm.MethodName)) ∈ zgw := zgw_at 359 (by decide +kernel) (by decide +kernel)
theorem zw_360 : (Jvm.Cond.selects "FreightSplits$Vehicle" ({ cls := "FreightSplits$Vehicle", name := "copyFrom", desc := "(LFreightSplits$Vehicle;)V" } : Jvm.MethodName) ({ cls := "FreightSplits$Vehicle", name := "copyFrom", desc := "(LFreightSplits$Vehicle;)V" } : Jvm.MethodName)) ∈ zgw := zgw_at 360 (by decide +kernel) (by decide +kernel)
theorem zw_361 : (Jvm.Cond.code ({ cls := "FreightSplits$Vehicle", name := "copyFrom", desc := "(LFreightSplits$Vehicle;)V" } : Jvm.MethodName) prog_7_method_2_code (2 : Nat) (Option.none : Option Jvm.ClassFile.FieldType)) ∈ zgw := zgw_at 361 (by decide +kernel) (by decide +kernel)
theorem zw_362 : (Jvm.Cond.methodLink "FreightSplits$Hall" (76 : Nat) ({ cls := "FreightSplits$Offer", name := "copyFrom", desc := "(LFreightSplits$Offer;)V" } : Jvm.MethodName)) ∈ zgw := zgw_at 362 (by decide +kernel) (by decide +kernel)
theorem zw_363 : (Jvm.Cond.instanceMethod ({ cls := "FreightSplits$Offer", name := "copyFrom", desc := "(LFreightSplits$Offer;)V" } : Jvm.MethodName)) ∈ zgw := zgw_at 363 (by decide +kernel) (by decide +kernel)
theorem zw_364 : (Jvm.Cond.selects "FreightSplits$Offer" ({ cls := "FreightSplits$Offer", name := "copyFrom", desc := "(LFreightSplits$Offer;)V" } : Jvm.MethodName) ({ cls := "FreightSplits$Offer", name := "copyFrom", desc := "(LFreightSplits$Offer;)V" } : Jvm.MethodName)) ∈ zgw := zgw_at 364 (by decide +kernel) (by decide +kernel)
theorem zw_365 : (Jvm.Cond.code ({ cls := "FreightSplits$Offer", name := "copyFrom", desc := "(LFreightSplits$Offer;)V" } : Jvm.MethodName) prog_5_method_2_code (2 : Nat) (Option.none : Option Jvm.ClassFile.FieldType)) ∈ zgw := zgw_at 365 (by decide +kernel) (by decide +kernel)
theorem zw_366 : (Jvm.Cond.methodLink "FreightSplits" (42 : Nat) ({ cls := "FreightSplits$Hall", name := "makeConsignment", desc := "(IIIIII)I" } : Jvm.MethodName)) ∈ zgw := zgw_at 366 (by decide +kernel) (by decide +kernel)
theorem zw_367 : (Jvm.Cond.instanceMethod ({ cls := "FreightSplits$Hall", name := "makeConsignment", desc := "(IIIIII)I" } : Jvm.MethodName)) ∈ zgw := zgw_at 367 (by decide +kernel) (by decide +kernel)
theorem zw_368 : (Jvm.Cond.selects "FreightSplits$Hall" ({ cls := "FreightSplits$Hall", name := "makeConsignment", desc := "(IIIIII)I" } : Jvm.MethodName) ({ cls := "FreightSplits$Hall", name := "makeConsignment", desc := "(IIIIII)I" } : Jvm.MethodName)) ∈ zgw := zgw_at 368 (by decide +kernel) (by decide +kernel)
theorem zw_369 : (Jvm.Cond.code ({ cls := "FreightSplits$Hall", name := "makeConsignment", desc := "(IIIIII)I" } : Jvm.MethodName) prog_3_method_5_code (8 : Nat) (Option.some Jvm.ClassFile.FieldType.int)) ∈ zgw := zgw_at 369 (by decide +kernel) (by decide +kernel)
theorem zw_370 : (Jvm.Cond.constant "FreightSplits$Hall" (82 : Nat) (-1000003 : Int32)) ∈ zgw := zgw_at 370 (by decide +kernel) (by decide +kernel)
theorem zw_371 : (Jvm.Cond.methodLink "FreightSplits$Hall" (110 : Nat) ({ cls := "FreightSplits$Consignment", name := "startInHall", desc := "()V" } : Jvm.MethodName)) ∈ zgw := zgw_at 371 (by decide +kernel) (by decide +kernel)
theorem zw_372 : (Jvm.Cond.instanceMethod ({ cls := "FreightSplits$Consignment", name := "startInHall", desc := "()V" } : Jvm.MethodName)) ∈ zgw := zgw_at 372 (by decide +kernel) (by decide +kernel)
theorem zw_373 : (Jvm.Cond.selects "FreightSplits$Consignment" ({ cls := "FreightSplits$Consignment", name := "startInHall", desc := "()V" } : Jvm.MethodName) ({ cls := "FreightSplits$Consignment", name := "startInHall", desc := "()V" } : Jvm.MethodName)) ∈ zgw := zgw_at 373 (by decide +kernel) (by decide +kernel)
theorem zw_374 : (Jvm.Cond.code ({ cls := "FreightSplits$Consignment", name := "startInHall", desc := "()V" } : Jvm.MethodName) prog_2_method_4_code (1 : Nat) (Option.none : Option Jvm.ClassFile.FieldType)) ∈ zgw := zgw_at 374 (by decide +kernel) (by decide +kernel)
theorem zw_375 : (Jvm.Cond.methodLink "FreightSplits" (46 : Nat) ({ cls := "FreightSplits", name := "changed", desc := "(I)I" } : Jvm.MethodName)) ∈ zgw := zgw_at 375 (by decide +kernel) (by decide +kernel)
theorem zw_377 : (Jvm.Cond.instanceMethod ({ cls := "FreightSplits", name := "changed", desc := "(I)I" } : Jvm.MethodName)) ∈ zgw := zgw_at 377 (by decide +kernel) (by decide +kernel)
theorem zw_378 : (Jvm.Cond.code ({ cls := "FreightSplits", name := "changed", desc := "(I)I" } : Jvm.MethodName) prog_1_method_26_code (2 : Nat) (Option.some Jvm.ClassFile.FieldType.int)) ∈ zgw := zgw_at 378 (by decide +kernel) (by decide +kernel)
theorem zw_379 : (Jvm.Cond.methodLink "FreightSplits" (261 : Nat) ({ cls := "FreightSplits$History", name := "keep", desc := "()V" } : Jvm.MethodName)) ∈ zgw := zgw_at 379 (by decide +kernel) (by decide +kernel)
theorem zw_380 : (Jvm.Cond.instanceMethod ({ cls := "FreightSplits$History", name := "keep", desc := "()V" } : Jvm.MethodName)) ∈ zgw := zgw_at 380 (by decide +kernel) (by decide +kernel)
theorem zw_381 : (Jvm.Cond.selects "FreightSplits$History" ({ cls := "FreightSplits$History", name := "keep", desc := "()V" } : Jvm.MethodName) ({ cls := "FreightSplits$History", name := "keep", desc := "()V" } : Jvm.MethodName)) ∈ zgw := zgw_at 381 (by decide +kernel) (by decide +kernel)
theorem zw_382 : (Jvm.Cond.code ({ cls := "FreightSplits$History", name := "keep", desc := "()V" } : Jvm.MethodName) prog_4_method_3_code (1 : Nat) (Option.none : Option Jvm.ClassFile.FieldType)) ∈ zgw := zgw_at 382 (by decide +kernel) (by decide +kernel)
theorem zw_383 : (Jvm.Cond.constant "FreightSplitsLaw" (41 : Nat) (-1000003 : Int32)) ∈ zgw := zgw_at 383 (by decide +kernel) (by decide +kernel)
theorem zw_384 : (Jvm.Cond.methodLink "FreightSplitsLaw" (42 : Nat) ({ cls := "FreightSplitsLaw", name := "makes", desc := "([I[I[I[IIIII)I" } : Jvm.MethodName)) ∈ zgw := zgw_at 384 (by decide +kernel) (by decide +kernel)
theorem zw_385 : (Jvm.Cond.static ({ cls := "FreightSplitsLaw", name := "makes", desc := "([I[I[I[IIIII)I" } : Jvm.MethodName)) ∈ zgw := zgw_at 385 (by decide +kernel) (by decide +kernel)
theorem zw_386 : (Jvm.Cond.code ({ cls := "FreightSplitsLaw", name := "makes", desc := "([I[I[I[IIIII)I" } : Jvm.MethodName) method_13_code (9 : Nat) (Option.some Jvm.ClassFile.FieldType.int)) ∈ zgw := zgw_at 386 (by decide +kernel) (by decide +kernel)
theorem zw_387 : (Jvm.Cond.methodLink "FreightSplitsLaw" (46 : Nat) ({ cls := "FreightSplitsLaw", name := "some", desc := "([I[III)I" } : Jvm.MethodName)) ∈ zgw := zgw_at 387 (by decide +kernel) (by decide +kernel)
theorem zw_388 : (Jvm.Cond.static ({ cls := "FreightSplitsLaw", name := "some", desc := "([I[III)I" } : Jvm.MethodName)) ∈ zgw := zgw_at 388 (by decide +kernel) (by decide +kernel)
theorem zw_389 : (Jvm.Cond.code ({ cls := "FreightSplitsLaw", name := "some", desc := "([I[III)I" } : Jvm.MethodName) method_14_code (6 : Nat) (Option.some Jvm.ClassFile.FieldType.int)) ∈ zgw := zgw_at 389 (by decide +kernel) (by decide +kernel)
theorem zw_390 : (Jvm.Cond.methodLink "FreightSplitsLaw" (50 : Nat) ({ cls := "FreightSplitsLaw", name := "is", desc := "([I[II)Z" } : Jvm.MethodName)) ∈ zgw := zgw_at 390 (by decide +kernel) (by decide +kernel)
theorem zw_391 : (Jvm.Cond.static ({ cls := "FreightSplitsLaw", name := "is", desc := "([I[II)Z" } : Jvm.MethodName)) ∈ zgw := zgw_at 391 (by decide +kernel) (by decide +kernel)
theorem zw_392 : (Jvm.Cond.code ({ cls := "FreightSplitsLaw", name := "is", desc := "([I[II)Z" } : Jvm.MethodName) method_4_code (3 : Nat) (Option.some Jvm.ClassFile.FieldType.boolean)) ∈ zgw := zgw_at 392 (by decide +kernel) (by decide +kernel)
theorem zw_393 : (Jvm.Cond.methodLink "FreightSplitsLaw" (54 : Nat) ({ cls := "FreightSplits", name := "split", desc := "(III)I" } : Jvm.MethodName)) ∈ zgw := zgw_at 393 (by decide +kernel) (by decide +kernel)
theorem zw_394 : (Jvm.Cond.instanceMethod ({ cls := "FreightSplits", name := "split", desc := "(III)I" } : Jvm.MethodName)) ∈ zgw := zgw_at 394 (by decide +kernel) (by decide +kernel)
theorem zw_395 : (Jvm.Cond.selects "FreightSplits" ({ cls := "FreightSplits", name := "split", desc := "(III)I" } : Jvm.MethodName) ({ cls := "FreightSplits", name := "split", desc := "(III)I" } : Jvm.MethodName)) ∈ zgw := zgw_at 395 (by decide +kernel) (by decide +kernel)
theorem zw_396 : (Jvm.Cond.code ({ cls := "FreightSplits", name := "split", desc := "(III)I" } : Jvm.MethodName) prog_1_method_3_code (4 : Nat) (Option.some Jvm.ClassFile.FieldType.int)) ∈ zgw := zgw_at 396 (by decide +kernel) (by decide +kernel)
theorem zw_397 : (Jvm.Cond.methodLink "FreightSplits" (50 : Nat) ({ cls := "FreightSplits$Hall", name := "splitOff", desc := "(III)I" } : Jvm.MethodName)) ∈ zgw := zgw_at 397 (by decide +kernel) (by decide +kernel)
theorem zw_398 : (Jvm.Cond.instanceMethod ({ cls := "FreightSplits$Hall", name := "splitOff", desc := "(III)I" } : Jvm.MethodName)) ∈ zgw := zgw_at 398 (by decide +kernel) (by decide +kernel)
theorem zw_399 : (Jvm.Cond.selects "FreightSplits$Hall" ({ cls := "FreightSplits$Hall", name := "splitOff", desc := "(III)I" } : Jvm.MethodName) ({ cls := "FreightSplits$Hall", name := "splitOff", desc := "(III)I" } : Jvm.MethodName)) ∈ zgw := zgw_at 399 (by decide +kernel) (by decide +kernel)
theorem zw_400 : (Jvm.Cond.code ({ cls := "FreightSplits$Hall", name := "splitOff", desc := "(III)I" } : Jvm.MethodName) prog_3_method_6_code (6 : Nat) (Option.some Jvm.ClassFile.FieldType.int)) ∈ zgw := zgw_at 400 (by decide +kernel) (by decide +kernel)
theorem zw_401 : (Jvm.Cond.methodLink "FreightSplits$Hall" (113 : Nat) ({ cls := "FreightSplits$Hall", name := "consignmentAt", desc := "(I)LFreightSplits$Consignment;" } : Jvm.MethodName)) ∈ zgw := zgw_at 401 (by decide +kernel) (by decide +kernel)
theorem zw_402 : (Jvm.Cond.instanceMethod ({ cls := "FreightSplits$Hall", name := "consignmentAt", desc := "(I)LFreightSplits$Consignment;" } : Jvm.MethodName)) ∈ zgw := zgw_at 402 (by decide +kernel) (by decide +kernel)
theorem zw_403 : (Jvm.Cond.selects "FreightSplits$Hall" ({ cls := "FreightSplits$Hall", name := "consignmentAt", desc := "(I)LFreightSplits$Consignment;" } : Jvm.MethodName) ({ cls := "FreightSplits$Hall", name := "consignmentAt", desc := "(I)LFreightSplits$Consignment;" } : Jvm.MethodName)) ∈ zgw := zgw_at 403 (by decide +kernel) (by decide +kernel)
theorem zw_404 : (Jvm.Cond.code ({ cls := "FreightSplits$Hall", name := "consignmentAt", desc := "(I)LFreightSplits$Consignment;" } : Jvm.MethodName) prog_3_method_3_code (2 : Nat) (Option.some (Jvm.ClassFile.FieldType.object "FreightSplits$Consignment"))) ∈ zgw := zgw_at 404 (by decide +kernel) (by decide +kernel)
theorem zw_406 : (Jvm.Cond.constant "FreightSplits$Hall" (121 : Nat) (-1000001 : Int32)) ∈ zgw := zgw_at 406 (by decide +kernel) (by decide +kernel)
theorem zw_407 : (Jvm.Cond.constant "FreightSplits$Hall" (122 : Nat) (-1000002 : Int32)) ∈ zgw := zgw_at 407 (by decide +kernel) (by decide +kernel)
theorem zw_408 : (Jvm.Cond.methodLink "FreightSplits$Hall" (123 : Nat) ({ cls := "FreightSplits$Consignment", name := "copyFreight", desc := "(LFreightSplits$Consignment;)V" } : Jvm.MethodName)) ∈ zgw := zgw_at 408 (by decide +kernel) (by decide +kernel)
theorem zw_409 : (Jvm.Cond.constant "FreightSplitsLaw" (58 : Nat) (-1000001 : Int32)) ∈ zgw := zgw_at 409 (by decide +kernel) (by decide +kernel)
theorem zw_410 : (Jvm.Cond.constant "FreightSplitsLaw" (59 : Nat) (-1000002 : Int32)) ∈ zgw := zgw_at 410 (by decide +kernel) (by decide +kernel)
theorem zw_411 : (Jvm.Cond.methodLink "FreightSplitsLaw" (60 : Nat) ({ cls := "FreightSplits", name := "join", desc := "(II)I" } : Jvm.MethodName)) ∈ zgw := zgw_at 411 (by decide +kernel) (by decide +kernel)
theorem zw_412 : (Jvm.Cond.instanceMethod ({ cls := "FreightSplits", name := "join", desc := "(II)I" } : Jvm.MethodName)) ∈ zgw := zgw_at 412 (by decide +kernel) (by decide +kernel)
theorem zw_413 : (Jvm.Cond.selects "FreightSplits" ({ cls := "FreightSplits", name := "join", desc := "(II)I" } : Jvm.MethodName) ({ cls := "FreightSplits", name := "join", desc := "(II)I" } : Jvm.MethodName)) ∈ zgw := zgw_at 413 (by decide +kernel) (by decide +kernel)
theorem zw_414 : (Jvm.Cond.code ({ cls := "FreightSplits", name := "join", desc := "(II)I" } : Jvm.MethodName) prog_1_method_4_code (3 : Nat) (Option.some Jvm.ClassFile.FieldType.int)) ∈ zgw := zgw_at 414 (by decide +kernel) (by decide +kernel)
theorem zw_415 : (Jvm.Cond.methodLink "FreightSplits" (54 : Nat) ({ cls := "FreightSplits$Hall", name := "joinParts", desc := "(II)I" } : Jvm.MethodName)) ∈ zgw := zgw_at 415 (by decide +kernel) (by decide +kernel)
theorem zw_416 : (Jvm.Cond.instanceMethod ({ cls := "FreightSplits$Hall", name := "joinParts", desc := "(II)I" } : Jvm.MethodName)) ∈ zgw := zgw_at 416 (by decide +kernel) (by decide +kernel)
theorem zw_417 : (Jvm.Cond.selects "FreightSplits$Hall" ({ cls := "FreightSplits$Hall", name := "joinParts", desc := "(II)I" } : Jvm.MethodName) ({ cls := "FreightSplits$Hall", name := "joinParts", desc := "(II)I" } : Jvm.MethodName)) ∈ zgw := zgw_at 417 (by decide +kernel) (by decide +kernel)
theorem zw_418 : (Jvm.Cond.code ({ cls := "FreightSplits$Hall", name := "joinParts", desc := "(II)I" } : Jvm.MethodName) prog_3_method_7_code (5 : Nat) (Option.some Jvm.ClassFile.FieldType.int)) ∈ zgw := zgw_at 418 (by decide +kernel) (by decide +kernel)
theorem zw_419 : (Jvm.Cond.methodLink "FreightSplits$Hall" (126 : Nat) ({ cls := "java/lang/Math", name := "min", desc := "(II)I" } : Jvm.MethodName)) ∈ zgw := zgw_at 419 (by decide +kernel) (by decide +kernel)
theorem zw_420 : (Jvm.Cond.static ({ cls := "java/lang/Math", name := "min", desc := "(II)I" } : Jvm.MethodName)) ∈ zgw := zgw_at 420 (by decide +kernel) (by decide +kernel)
theorem zw_421 : (Jvm.Cond.code ({ cls := "java/lang/Math", name := "min", desc := "(II)I" } : Jvm.MethodName) prog_11_method_69_code (2 : Nat) (Option.some Jvm.ClassFile.FieldType.int)) ∈ zgw := zgw_at 421 (by decide +kernel) (by decide +kernel)
theorem zw_422 : (Jvm.Cond.methodLink "FreightSplits$Hall" (132 : Nat) ({ cls := "java/lang/Math", name := "max", desc := "(II)I" } : Jvm.MethodName)) ∈ zgw := zgw_at 422 (by decide +kernel) (by decide +kernel)
theorem zw_423 : (Jvm.Cond.static ({ cls := "java/lang/Math", name := "max", desc := "(II)I" } : Jvm.MethodName)) ∈ zgw := zgw_at 423 (by decide +kernel) (by decide +kernel)
theorem zw_424 : (Jvm.Cond.code ({ cls := "java/lang/Math", name := "max", desc := "(II)I" } : Jvm.MethodName) prog_11_method_65_code (2 : Nat) (Option.some Jvm.ClassFile.FieldType.int)) ∈ zgw := zgw_at 424 (by decide +kernel) (by decide +kernel)
theorem zw_425 : (Jvm.Cond.methodLink "FreightSplitsLaw" (72 : Nat) ({ cls := "FreightSplits", name := "vehicle", desc := "(II)I" } : Jvm.MethodName)) ∈ zgw := zgw_at 425 (by decide +kernel) (by decide +kernel)
theorem zw_426 : (Jvm.Cond.instanceMethod ({ cls := "FreightSplits", name := "vehicle", desc := "(II)I" } : Jvm.MethodName)) ∈ zgw := zgw_at 426 (by decide +kernel) (by decide +kernel)
theorem zw_427 : (Jvm.Cond.selects "FreightSplits" ({ cls := "FreightSplits", name := "vehicle", desc := "(II)I" } : Jvm.MethodName) ({ cls := "FreightSplits", name := "vehicle", desc := "(II)I" } : Jvm.MethodName)) ∈ zgw := zgw_at 427 (by decide +kernel) (by decide +kernel)
theorem zw_428 : (Jvm.Cond.code ({ cls := "FreightSplits", name := "vehicle", desc := "(II)I" } : Jvm.MethodName) prog_1_method_5_code (3 : Nat) (Option.some Jvm.ClassFile.FieldType.int)) ∈ zgw := zgw_at 428 (by decide +kernel) (by decide +kernel)
theorem zw_429 : (Jvm.Cond.methodLink "FreightSplits" (58 : Nat) ({ cls := "FreightSplits$Hall", name := "addVehicle", desc := "(II)I" } : Jvm.MethodName)) ∈ zgw := zgw_at 429 (by decide +kernel) (by decide +kernel)
theorem zw_430 : (Jvm.Cond.instanceMethod ({ cls := "FreightSplits$Hall", name := "addVehicle", desc := "(II)I" } : Jvm.MethodName)) ∈ zgw := zgw_at 430 (by decide +kernel) (by decide +kernel)
theorem zw_431 : (Jvm.Cond.selects "FreightSplits$Hall" ({ cls := "FreightSplits$Hall", name := "addVehicle", desc := "(II)I" } : Jvm.MethodName) ({ cls := "FreightSplits$Hall", name := "addVehicle", desc := "(II)I" } : Jvm.MethodName)) ∈ zgw := zgw_at 431 (by decide +kernel) (by decide +kernel)
theorem zw_432 : (Jvm.Cond.code ({ cls := "FreightSplits$Hall", name := "addVehicle", desc := "(II)I" } : Jvm.MethodName) prog_3_method_8_code (4 : Nat) (Option.some Jvm.ClassFile.FieldType.int)) ∈ zgw := zgw_at 432 (by decide +kernel) (by decide +kernel)
theorem zw_433 : (Jvm.Cond.methodLink "FreightSplitsLaw" (75 : Nat) ({ cls := "FreightSplits", name := "load", desc := "(II)I" } : Jvm.MethodName)) ∈ zgw := zgw_at 433 (by decide +kernel) (by decide +kernel)
theorem zw_434 : (Jvm.Cond.instanceMethod ({ cls := "FreightSplits", name := "load", desc := "(II)I" } : Jvm.MethodName)) ∈ zgw := zgw_at 434 (by decide +kernel) (by decide +kernel)
theorem zw_435 : (Jvm.Cond.selects "FreightSplits" ({ cls := "FreightSplits", name := "load", desc := "(II)I" } : Jvm.MethodName) ({ cls := "FreightSplits", name := "load", desc := "(II)I" } : Jvm.MethodName)) ∈ zgw := zgw_at 435 (by decide +kernel) (by decide +kernel)
theorem zw_436 : (Jvm.Cond.code ({ cls := "FreightSplits", name := "load", desc := "(II)I" } : Jvm.MethodName) prog_1_method_6_code (3 : Nat) (Option.some Jvm.ClassFile.FieldType.int)) ∈ zgw := zgw_at 436 (by decide +kernel) (by decide +kernel)
theorem zw_437 : (Jvm.Cond.methodLink "FreightSplits" (61 : Nat) ({ cls := "FreightSplits$Hall", name := "putInto", desc := "(II)I" } : Jvm.MethodName)) ∈ zgw := zgw_at 437 (by decide +kernel) (by decide +kernel)
theorem zw_438 : (Jvm.Cond.instanceMethod ({ cls := "FreightSplits$Hall", name := "putInto", desc := "(II)I" } : Jvm.MethodName)) ∈ zgw := zgw_at 438 (by decide +kernel) (by decide +kernel)
theorem zw_439 : (Jvm.Cond.selects "FreightSplits$Hall" ({ cls := "FreightSplits$Hall", name := "putInto", desc := "(II)I" } : Jvm.MethodName) ({ cls := "FreightSplits$Hall", name := "putInto", desc := "(II)I" } : Jvm.MethodName)) ∈ zgw := zgw_at 439 (by decide +kernel) (by decide +kernel)
theorem zw_440 : (Jvm.Cond.code ({ cls := "FreightSplits$Hall", name := "putInto", desc := "(II)I" } : Jvm.MethodName) prog_3_method_9_code (5 : Nat) (Option.some Jvm.ClassFile.FieldType.int)) ∈ zgw := zgw_at 440 (by decide +kernel) (by decide +kernel)
theorem zw_441 : (Jvm.Cond.methodLink "FreightSplits$Hall" (149 : Nat) ({ cls := "FreightSplits$Hall", name := "vehicleAt", desc := "(I)LFreightSplits$Vehicle;" } : Jvm.MethodName)) ∈ zgw := zgw_at 441 (by decide +kernel) (by decide +kernel)
theorem zw_442 : (Jvm.Cond.instanceMethod ({ cls := "FreightSplits$Hall", name := "vehicleAt", desc := "(I)LFreightSplits$Vehicle;" } : Jvm.MethodName)) ∈ zgw := zgw_at 442 (by decide +kernel) (by decide +kernel)
theorem zw_443 : (Jvm.Cond.selects "FreightSplits$Hall" ({ cls := "FreightSplits$Hall", name := "vehicleAt", desc := "(I)LFreightSplits$Vehicle;" } : Jvm.MethodName) ({ cls := "FreightSplits$Hall", name := "vehicleAt", desc := "(I)LFreightSplits$Vehicle;" } : Jvm.MethodName)) ∈ zgw := zgw_at 443 (by decide +kernel) (by decide +kernel)
theorem zw_444 : (Jvm.Cond.code ({ cls := "FreightSplits$Hall", name := "vehicleAt", desc := "(I)LFreightSplits$Vehicle;" } : Jvm.MethodName) prog_3_method_4_code (2 : Nat) (Option.some (Jvm.ClassFile.FieldType.object "FreightSplits$Vehicle"))) ∈ zgw := zgw_at 444 (by decide +kernel) (by decide +kernel)
theorem zw_445 : (Jvm.Cond.methodLink "FreightSplits$Hall" (153 : Nat) ({ cls := "FreightSplits$Hall", name := "canTake", desc := "(LFreightSplits$Vehicle;LFreightSplits$Consignment;)Z" } : Jvm.MethodName)) ∈ zgw := zgw_at 445 (by decide +kernel) (by decide +kernel)
theorem zw_446 : (Jvm.Cond.instanceMethod ({ cls := "FreightSplits$Hall", name := "canTake", desc := "(LFreightSplits$Vehicle;LFreightSplits$Consignment;)Z" } : Jvm.MethodName)) ∈ zgw := zgw_at 446 (by decide +kernel) (by decide +kernel)
theorem zw_447 : (Jvm.Cond.selects "FreightSplits$Hall" ({ cls := "FreightSplits$Hall", name := "canTake", desc := "(LFreightSplits$Vehicle;LFreightSplits$Consignment;)Z" } : Jvm.MethodName) ({ cls := "FreightSplits$Hall", name := "canTake", desc := "(LFreightSplits$Vehicle;LFreightSplits$Consignment;)Z" } : Jvm.MethodName)) ∈ zgw := zgw_at 447 (by decide +kernel) (by decide +kernel)
theorem zw_448 : (Jvm.Cond.code ({ cls := "FreightSplits$Hall", name := "canTake", desc := "(LFreightSplits$Vehicle;LFreightSplits$Consignment;)Z" } : Jvm.MethodName) prog_3_method_27_code (4 : Nat) (Option.some Jvm.ClassFile.FieldType.boolean)) ∈ zgw := zgw_at 448 (by decide +kernel) (by decide +kernel)
theorem zw_449 : (Jvm.Cond.methodLink "FreightSplits$Hall" (172 : Nat) ({ cls := "FreightSplits$Hall", name := "loadPlace", desc := "(LFreightSplits$Vehicle;)I" } : Jvm.MethodName)) ∈ zgw := zgw_at 449 (by decide +kernel) (by decide +kernel)
theorem zw_450 : (Jvm.Cond.instanceMethod ({ cls := "FreightSplits$Hall", name := "loadPlace", desc := "(LFreightSplits$Vehicle;)I" } : Jvm.MethodName)) ∈ zgw := zgw_at 450 (by decide +kernel) (by decide +kernel)
theorem zw_451 : (Jvm.Cond.selects "FreightSplits$Hall" ({ cls := "FreightSplits$Hall", name := "loadPlace", desc := "(LFreightSplits$Vehicle;)I" } : Jvm.MethodName) ({ cls := "FreightSplits$Hall", name := "loadPlace", desc := "(LFreightSplits$Vehicle;)I" } : Jvm.MethodName)) ∈ zgw := zgw_at 451 (by decide +kernel) (by decide +kernel)
theorem zw_452 : (Jvm.Cond.code ({ cls := "FreightSplits$Hall", name := "loadPlace", desc := "(LFreightSplits$Vehicle;)I" } : Jvm.MethodName) prog_3_method_31_code (3 : Nat) (Option.some Jvm.ClassFile.FieldType.int)) ∈ zgw := zgw_at 452 (by decide +kernel) (by decide +kernel)
theorem zw_453 : (Jvm.Cond.methodLink "FreightSplits$Hall" (175 : Nat) ({ cls := "FreightSplits$Consignment", name := "isIn", desc := "(LFreightSplits$Vehicle;)Z" } : Jvm.MethodName)) ∈ zgw := zgw_at 453 (by decide +kernel) (by decide +kernel)
theorem zw_454 : (Jvm.Cond.instanceMethod ({ cls := "FreightSplits$Consignment", name := "isIn", desc := "(LFreightSplits$Vehicle;)Z" } : Jvm.MethodName)) ∈ zgw := zgw_at 454 (by decide +kernel) (by decide +kernel)
theorem zw_455 : (Jvm.Cond.selects "FreightSplits$Consignment" ({ cls := "FreightSplits$Consignment", name := "isIn", desc := "(LFreightSplits$Vehicle;)Z" } : Jvm.MethodName) ({ cls := "FreightSplits$Consignment", name := "isIn", desc := "(LFreightSplits$Vehicle;)Z" } : Jvm.MethodName)) ∈ zgw := zgw_at 455 (by decide +kernel) (by decide +kernel)
theorem zw_456 : (Jvm.Cond.code ({ cls := "FreightSplits$Consignment", name := "isIn", desc := "(LFreightSplits$Vehicle;)Z" } : Jvm.MethodName) prog_2_method_6_code (2 : Nat) (Option.some Jvm.ClassFile.FieldType.boolean)) ∈ zgw := zgw_at 456 (by decide +kernel) (by decide +kernel)
theorem zw_457 : (Jvm.Cond.methodLink "FreightSplits$Hall" (160 : Nat) ({ cls := "FreightSplits$Hall", name := "loadSize", desc := "(LFreightSplits$Vehicle;)I" } : Jvm.MethodName)) ∈ zgw := zgw_at 457 (by decide +kernel) (by decide +kernel)
theorem zw_458 : (Jvm.Cond.instanceMethod ({ cls := "FreightSplits$Hall", name := "loadSize", desc := "(LFreightSplits$Vehicle;)I" } : Jvm.MethodName)) ∈ zgw := zgw_at 458 (by decide +kernel) (by decide +kernel)
theorem zw_459 : (Jvm.Cond.selects "FreightSplits$Hall" ({ cls := "FreightSplits$Hall", name := "loadSize", desc := "(LFreightSplits$Vehicle;)I" } : Jvm.MethodName) ({ cls := "FreightSplits$Hall", name := "loadSize", desc := "(LFreightSplits$Vehicle;)I" } : Jvm.MethodName)) ∈ zgw := zgw_at 459 (by decide +kernel) (by decide +kernel)
theorem zw_460 : (Jvm.Cond.code ({ cls := "FreightSplits$Hall", name := "loadSize", desc := "(LFreightSplits$Vehicle;)I" } : Jvm.MethodName) prog_3_method_28_code (4 : Nat) (Option.some Jvm.ClassFile.FieldType.int)) ∈ zgw := zgw_at 460 (by decide +kernel) (by decide +kernel)
theorem zw_461 : (Jvm.Cond.methodLink "FreightSplits$Hall" (238 : Nat) ({ cls := "FreightSplits$Hall", name := "loadWeight", desc := "(LFreightSplits$Vehicle;)I" } : Jvm.MethodName)) ∈ zgw := zgw_at 461 (by decide +kernel) (by decide +kernel)
theorem zw_462 : (Jvm.Cond.instanceMethod ({ cls := "FreightSplits$Hall", name := "loadWeight", desc := "(LFreightSplits$Vehicle;)I" } : Jvm.MethodName)) ∈ zgw := zgw_at 462 (by decide +kernel) (by decide +kernel)
theorem zw_463 : (Jvm.Cond.selects "FreightSplits$Hall" ({ cls := "FreightSplits$Hall", name := "loadWeight", desc := "(LFreightSplits$Vehicle;)I" } : Jvm.MethodName) ({ cls := "FreightSplits$Hall", name := "loadWeight", desc := "(LFreightSplits$Vehicle;)I" } : Jvm.MethodName)) ∈ zgw := zgw_at 463 (by decide +kernel) (by decide +kernel)
theorem zw_464 : (Jvm.Cond.code ({ cls := "FreightSplits$Hall", name := "loadWeight", desc := "(LFreightSplits$Vehicle;)I" } : Jvm.MethodName) prog_3_method_29_code (4 : Nat) (Option.some Jvm.ClassFile.FieldType.int)) ∈ zgw := zgw_at 464 (by decide +kernel) (by decide +kernel)
theorem zw_465 : (Jvm.Cond.methodLink "FreightSplitsLaw" (19 : Nat) ({ cls := "FreightSplitsLaw", name := "fits", desc := "([I[I[I[III)Z" } : Jvm.MethodName)) ∈ zgw := zgw_at 465 (by decide +kernel) (by decide +kernel)
theorem zw_466 : (Jvm.Cond.static ({ cls := "FreightSplitsLaw", name := "fits", desc := "([I[I[I[III)Z" } : Jvm.MethodName)) ∈ zgw := zgw_at 466 (by decide +kernel) (by decide +kernel)
theorem zw_467 : (Jvm.Cond.code ({ cls := "FreightSplitsLaw", name := "fits", desc := "([I[I[I[III)Z" } : Jvm.MethodName) method_7_code (8 : Nat) (Option.some Jvm.ClassFile.FieldType.boolean)) ∈ zgw := zgw_at 467 (by decide +kernel) (by decide +kernel)
theorem zw_468 : (Jvm.Cond.methodLink "FreightSplitsLaw" (15 : Nat) ({ cls := "FreightSplitsLaw", name := "goal", desc := "([I[I[I[II)I" } : Jvm.MethodName)) ∈ zgw := zgw_at 468 (by decide +kernel) (by decide +kernel)
theorem zw_469 : (Jvm.Cond.static ({ cls := "FreightSplitsLaw", name := "goal", desc := "([I[I[I[II)I" } : Jvm.MethodName)) ∈ zgw := zgw_at 469 (by decide +kernel) (by decide +kernel)
theorem zw_470 : (Jvm.Cond.code ({ cls := "FreightSplitsLaw", name := "goal", desc := "([I[I[I[II)I" } : Jvm.MethodName) method_6_code (7 : Nat) (Option.some Jvm.ClassFile.FieldType.int)) ∈ zgw := zgw_at 470 (by decide +kernel) (by decide +kernel)
theorem zw_471 : (Jvm.Cond.methodLink "FreightSplitsLaw" (9 : Nat) ({ cls := "FreightSplitsLaw", name := "load", desc := "([I[I[III)I" } : Jvm.MethodName)) ∈ zgw := zgw_at 471 (by decide +kernel) (by decide +kernel)
theorem zw_472 : (Jvm.Cond.static ({ cls := "FreightSplitsLaw", name := "load", desc := "([I[I[III)I" } : Jvm.MethodName)) ∈ zgw := zgw_at 472 (by decide +kernel) (by decide +kernel)
theorem zw_473 : (Jvm.Cond.code ({ cls := "FreightSplitsLaw", name := "load", desc := "([I[I[III)I" } : Jvm.MethodName) method_5_code (8 : Nat) (Option.some Jvm.ClassFile.FieldType.int)) ∈ zgw := zgw_at 473 (by decide +kernel) (by decide +kernel)
theorem zw_474 : (Jvm.Cond.methodLink "FreightSplitsLaw" (23 : Nat) ({ cls := "FreightSplitsLaw", name := "put", desc := "([III)V" } : Jvm.MethodName)) ∈ zgw := zgw_at 474 (by decide +kernel) (by decide +kernel)
theorem zw_475 : (Jvm.Cond.static ({ cls := "FreightSplitsLaw", name := "put", desc := "([III)V" } : Jvm.MethodName)) ∈ zgw := zgw_at 475 (by decide +kernel) (by decide +kernel)
theorem zw_476 : (Jvm.Cond.code ({ cls := "FreightSplitsLaw", name := "put", desc := "([III)V" } : Jvm.MethodName) method_8_code (3 : Nat) (Option.none : Option Jvm.ClassFile.FieldType)) ∈ zgw := zgw_at 476 (by decide +kernel) (by decide +kernel)
theorem zw_477 : (Jvm.Cond.methodLink "FreightSplitsLaw" (77 : Nat) ({ cls := "FreightSplits", name := "unload", desc := "(I)I" } : Jvm.MethodName)) ∈ zgw := zgw_at 477 (by decide +kernel) (by decide +kernel)
theorem zw_478 : (Jvm.Cond.instanceMethod ({ cls := "FreightSplits", name := "unload", desc := "(I)I" } : Jvm.MethodName)) ∈ zgw := zgw_at 478 (by decide +kernel) (by decide +kernel)
theorem zw_479 : (Jvm.Cond.selects "FreightSplits" ({ cls := "FreightSplits", name := "unload", desc := "(I)I" } : Jvm.MethodName) ({ cls := "FreightSplits", name := "unload", desc := "(I)I" } : Jvm.MethodName)) ∈ zgw := zgw_at 479 (by decide +kernel) (by decide +kernel)
theorem zw_480 : (Jvm.Cond.code ({ cls := "FreightSplits", name := "unload", desc := "(I)I" } : Jvm.MethodName) prog_1_method_7_code (2 : Nat) (Option.some Jvm.ClassFile.FieldType.int)) ∈ zgw := zgw_at 480 (by decide +kernel) (by decide +kernel)
theorem zw_481 : (Jvm.Cond.methodLink "FreightSplits" (64 : Nat) ({ cls := "FreightSplits$Hall", name := "takeOut", desc := "(I)I" } : Jvm.MethodName)) ∈ zgw := zgw_at 481 (by decide +kernel) (by decide +kernel)
theorem zw_482 : (Jvm.Cond.instanceMethod ({ cls := "FreightSplits$Hall", name := "takeOut", desc := "(I)I" } : Jvm.MethodName)) ∈ zgw := zgw_at 482 (by decide +kernel) (by decide +kernel)
theorem zw_483 : (Jvm.Cond.selects "FreightSplits$Hall" ({ cls := "FreightSplits$Hall", name := "takeOut", desc := "(I)I" } : Jvm.MethodName) ({ cls := "FreightSplits$Hall", name := "takeOut", desc := "(I)I" } : Jvm.MethodName)) ∈ zgw := zgw_at 483 (by decide +kernel) (by decide +kernel)
theorem zw_484 : (Jvm.Cond.code ({ cls := "FreightSplits$Hall", name := "takeOut", desc := "(I)I" } : Jvm.MethodName) prog_3_method_10_code (3 : Nat) (Option.some Jvm.ClassFile.FieldType.int)) ∈ zgw := zgw_at 484 (by decide +kernel) (by decide +kernel)
theorem zw_485 : (Jvm.Cond.methodLink "FreightSplitsLaw" (81 : Nat) ({ cls := "FreightSplits", name := "fill", desc := "(III)I" } : Jvm.MethodName)) ∈ zgw := zgw_at 485 (by decide +kernel) (by decide +kernel)
theorem zw_486 : (Jvm.Cond.instanceMethod ({ cls := "FreightSplits", name := "fill", desc := "(III)I" } : Jvm.MethodName)) ∈ zgw := zgw_at 486 (by decide +kernel) (by decide +kernel)
theorem zw_487 : (Jvm.Cond.selects "FreightSplits" ({ cls := "FreightSplits", name := "fill", desc := "(III)I" } : Jvm.MethodName) ({ cls := "FreightSplits", name := "fill", desc := "(III)I" } : Jvm.MethodName)) ∈ zgw := zgw_at 487 (by decide +kernel) (by decide +kernel)
theorem zw_488 : (Jvm.Cond.code ({ cls := "FreightSplits", name := "fill", desc := "(III)I" } : Jvm.MethodName) prog_1_method_8_code (5 : Nat) (Option.some Jvm.ClassFile.FieldType.int)) ∈ zgw := zgw_at 488 (by decide +kernel) (by decide +kernel)
theorem zw_489 : (Jvm.Cond.methodLink "FreightSplits" (67 : Nat) ({ cls := "FreightSplits$Hall", name := "loadByRule", desc := "(III)I" } : Jvm.MethodName)) ∈ zgw := zgw_at 489 (by decide +kernel) (by decide +kernel)
theorem zw_490 : (Jvm.Cond.instanceMethod ({ cls := "FreightSplits$Hall", name := "loadByRule", desc := "(III)I" } : Jvm.MethodName)) ∈ zgw := zgw_at 490 (by decide +kernel) (by decide +kernel)
theorem zw_491 : (Jvm.Cond.selects "FreightSplits$Hall" ({ cls := "FreightSplits$Hall", name := "loadByRule", desc := "(III)I" } : Jvm.MethodName) ({ cls := "FreightSplits$Hall", name := "loadByRule", desc := "(III)I" } : Jvm.MethodName)) ∈ zgw := zgw_at 491 (by decide +kernel) (by decide +kernel)
theorem zw_492 : (Jvm.Cond.code ({ cls := "FreightSplits$Hall", name := "loadByRule", desc := "(III)I" } : Jvm.MethodName) prog_3_method_11_code (9 : Nat) (Option.some Jvm.ClassFile.FieldType.int)) ∈ zgw := zgw_at 492 (by decide +kernel) (by decide +kernel)
theorem zw_493 : (Jvm.Cond.methodLink "FreightSplits$Hall" (164 : Nat) ({ cls := "FreightSplits$Hall", name := "nextByRule", desc := "(III)LFreightSplits$Consignment;" } : Jvm.MethodName)) ∈ zgw := zgw_at 493 (by decide +kernel) (by decide +kernel)
theorem zw_494 : (Jvm.Cond.instanceMethod ({ cls := "FreightSplits$Hall", name := "nextByRule", desc := "(III)LFreightSplits$Consignment;" } : Jvm.MethodName)) ∈ zgw := zgw_at 494 (by decide +kernel) (by decide +kernel)
theorem zw_495 : (Jvm.Cond.selects "FreightSplits$Hall" ({ cls := "FreightSplits$Hall", name := "nextByRule", desc := "(III)LFreightSplits$Consignment;" } : Jvm.MethodName) ({ cls := "FreightSplits$Hall", name := "nextByRule", desc := "(III)LFreightSplits$Consignment;" } : Jvm.MethodName)) ∈ zgw := zgw_at 495 (by decide +kernel) (by decide +kernel)
theorem zw_496 : (Jvm.Cond.code ({ cls := "FreightSplits$Hall", name := "nextByRule", desc := "(III)LFreightSplits$Consignment;" } : Jvm.MethodName) prog_3_method_12_code (8 : Nat) (Option.some (Jvm.ClassFile.FieldType.object "FreightSplits$Consignment"))) ∈ zgw := zgw_at 496 (by decide +kernel) (by decide +kernel)
theorem zw_497 : (Jvm.Cond.methodLink "FreightSplits$Hall" (168 : Nat) ({ cls := "FreightSplits$Consignment", name := "comesAheadOf", desc := "(LFreightSplits$Consignment;I)Z" } : Jvm.MethodName)) ∈ zgw := zgw_at 497 (by decide +kernel) (by decide +kernel)
theorem zw_498 : (Jvm.Cond.instanceMethod ({ cls := "FreightSplits$Consignment", name := "comesAheadOf", desc := "(LFreightSplits$Consignment;I)Z" } : Jvm.MethodName)) ∈ zgw := zgw_at 498 (by decide +kernel) (by decide +kernel)
theorem zw_499 : (Jvm.Cond.selects "FreightSplits$Consignment" ({ cls := "FreightSplits$Consignment", name := "comesAheadOf", desc := "(LFreightSplits$Consignment;I)Z" } : Jvm.MethodName) ({ cls := "FreightSplits$Consignment", name := "comesAheadOf", desc := "(LFreightSplits$Consignment;I)Z" } : Jvm.MethodName)) ∈ zgw := zgw_at 499 (by decide +kernel) (by decide +kernel)
theorem zw_500 : (Jvm.Cond.code ({ cls := "FreightSplits$Consignment", name := "comesAheadOf", desc := "(LFreightSplits$Consignment;I)Z" } : Jvm.MethodName) prog_2_method_7_code (3 : Nat) (Option.some Jvm.ClassFile.FieldType.boolean)) ∈ zgw := zgw_at 500 (by decide +kernel) (by decide +kernel)
theorem zw_501 : (Jvm.Cond.methodLink "FreightSplits" (70 : Nat) ({ cls := "java/lang/Integer", name := "bitCount", desc := "(I)I" } : Jvm.MethodName)) ∈ zgw := zgw_at 501 (by decide +kernel) (by decide +kernel)
theorem zw_502 : (Jvm.Cond.static ({ cls := "java/lang/Integer", name := "bitCount", desc := "(I)I" } : Jvm.MethodName)) ∈ zgw := zgw_at 502 (by decide +kernel) (by decide +kernel)
theorem zw_503 : (Jvm.Cond.code ({ cls := "java/lang/Integer", name := "bitCount", desc := "(I)I" } : Jvm.MethodName) prog_10_method_49_code (1 : Nat) (Option.some Jvm.ClassFile.FieldType.int)) ∈ zgw := zgw_at 503 (by decide +kernel) (by decide +kernel)
theorem zw_504 : (Jvm.Cond.constant "java/lang/Integer" (265 : Nat) (1431655765 : Int32)) ∈ zgw := zgw_at 504 (by decide +kernel) (by decide +kernel)
theorem zw_505 : (Jvm.Cond.constant "java/lang/Integer" (266 : Nat) (858993459 : Int32)) ∈ zgw := zgw_at 505 (by decide +kernel) (by decide +kernel)
theorem zw_506 : (Jvm.Cond.constant "java/lang/Integer" (267 : Nat) (252645135 : Int32)) ∈ zgw := zgw_at 506 (by decide +kernel) (by decide +kernel)
theorem zw_507 : (Jvm.Cond.methodLink "FreightSplitsLaw" (84 : Nat) ({ cls := "FreightSplitsLaw", name := "fill", desc := "([I[I[I[IIII)I" } : Jvm.MethodName)) ∈ zgw := zgw_at 507 (by decide +kernel) (by decide +kernel)
theorem zw_508 : (Jvm.Cond.static ({ cls := "FreightSplitsLaw", name := "fill", desc := "([I[I[I[IIII)I" } : Jvm.MethodName)) ∈ zgw := zgw_at 508 (by decide +kernel) (by decide +kernel)
theorem zw_509 : (Jvm.Cond.code ({ cls := "FreightSplitsLaw", name := "fill", desc := "([I[I[I[IIII)I" } : Jvm.MethodName) method_9_code (14 : Nat) (Option.some Jvm.ClassFile.FieldType.int)) ∈ zgw := zgw_at 509 (by decide +kernel) (by decide +kernel)
theorem zw_510 : (Jvm.Cond.methodLink "FreightSplitsLaw" (87 : Nat) ({ cls := "FreightSplits", name := "depart", desc := "(I)I" } : Jvm.MethodName)) ∈ zgw := zgw_at 510 (by decide +kernel) (by decide +kernel)
theorem zw_511 : (Jvm.Cond.instanceMethod ({ cls := "FreightSplits", name := "depart", desc := "(I)I" } : Jvm.MethodName)) ∈ zgw := zgw_at 511 (by decide +kernel) (by decide +kernel)
theorem zw_512 : (Jvm.Cond.selects "FreightSplits" ({ cls := "FreightSplits", name := "depart", desc := "(I)I" } : Jvm.MethodName) ({ cls := "FreightSplits", name := "depart", desc := "(I)I" } : Jvm.MethodName)) ∈ zgw := zgw_at 512 (by decide +kernel) (by decide +kernel)
theorem zw_513 : (Jvm.Cond.code ({ cls := "FreightSplits", name := "depart", desc := "(I)I" } : Jvm.MethodName) prog_1_method_9_code (2 : Nat) (Option.some Jvm.ClassFile.FieldType.int)) ∈ zgw := zgw_at 513 (by decide +kernel) (by decide +kernel)
theorem zw_514 : (Jvm.Cond.methodLink "FreightSplits" (75 : Nat) ({ cls := "FreightSplits$Hall", name := "sendOff", desc := "(I)I" } : Jvm.MethodName)) ∈ zgw := zgw_at 514 (by decide +kernel) (by decide +kernel)
theorem zw_515 : (Jvm.Cond.instanceMethod ({ cls := "FreightSplits$Hall", name := "sendOff", desc := "(I)I" } : Jvm.MethodName)) ∈ zgw := zgw_at 515 (by decide +kernel) (by decide +kernel)
theorem zw_516 : (Jvm.Cond.selects "FreightSplits$Hall" ({ cls := "FreightSplits$Hall", name := "sendOff", desc := "(I)I" } : Jvm.MethodName) ({ cls := "FreightSplits$Hall", name := "sendOff", desc := "(I)I" } : Jvm.MethodName)) ∈ zgw := zgw_at 516 (by decide +kernel) (by decide +kernel)
theorem zw_517 : (Jvm.Cond.code ({ cls := "FreightSplits$Hall", name := "sendOff", desc := "(I)I" } : Jvm.MethodName) prog_3_method_13_code (5 : Nat) (Option.some Jvm.ClassFile.FieldType.int)) ∈ zgw := zgw_at 517 (by decide +kernel) (by decide +kernel)
theorem zw_518 : (Jvm.Cond.methodLink "FreightSplitsLaw" (90 : Nat) ({ cls := "FreightSplits", name := "offer", desc := "(IIIII)I" } : Jvm.MethodName)) ∈ zgw := zgw_at 518 (by decide +kernel) (by decide +kernel)
theorem zw_519 : (Jvm.Cond.instanceMethod ({ cls := "FreightSplits", name := "offer", desc := "(IIIII)I" } : Jvm.MethodName)) ∈ zgw := zgw_at 519 (by decide +kernel) (by decide +kernel)
theorem zw_520 : (Jvm.Cond.selects "FreightSplits" ({ cls := "FreightSplits", name := "offer", desc := "(IIIII)I" } : Jvm.MethodName) ({ cls := "FreightSplits", name := "offer", desc := "(IIIII)I" } : Jvm.MethodName)) ∈ zgw := zgw_at 520 (by decide +kernel) (by decide +kernel)
theorem zw_521 : (Jvm.Cond.code ({ cls := "FreightSplits", name := "offer", desc := "(IIIII)I" } : Jvm.MethodName) prog_1_method_10_code (6 : Nat) (Option.some Jvm.ClassFile.FieldType.int)) ∈ zgw := zgw_at 521 (by decide +kernel) (by decide +kernel)
theorem zw_522 : (Jvm.Cond.methodLink "FreightSplits" (78 : Nat) ({ cls := "FreightSplits$Hall", name := "makeOffer", desc := "(IIIII)I" } : Jvm.MethodName)) ∈ zgw := zgw_at 522 (by decide +kernel) (by decide +kernel)
theorem zw_523 : (Jvm.Cond.instanceMethod ({ cls := "FreightSplits$Hall", name := "makeOffer", desc := "(IIIII)I" } : Jvm.MethodName)) ∈ zgw := zgw_at 523 (by decide +kernel) (by decide +kernel)
theorem zw_524 : (Jvm.Cond.selects "FreightSplits$Hall" ({ cls := "FreightSplits$Hall", name := "makeOffer", desc := "(IIIII)I" } : Jvm.MethodName) ({ cls := "FreightSplits$Hall", name := "makeOffer", desc := "(IIIII)I" } : Jvm.MethodName)) ∈ zgw := zgw_at 524 (by decide +kernel) (by decide +kernel)
theorem zw_525 : (Jvm.Cond.code ({ cls := "FreightSplits$Hall", name := "makeOffer", desc := "(IIIII)I" } : Jvm.MethodName) prog_3_method_14_code (7 : Nat) (Option.some Jvm.ClassFile.FieldType.int)) ∈ zgw := zgw_at 525 (by decide +kernel) (by decide +kernel)
theorem zw_526 : (Jvm.Cond.methodLink "FreightSplitsLaw" (94 : Nat) ({ cls := "FreightSplitsLaw", name := "hour", desc := "([I[I[I[I[I[I)I" } : Jvm.MethodName)) ∈ zgw := zgw_at 526 (by decide +kernel) (by decide +kernel)
theorem zw_527 : (Jvm.Cond.static ({ cls := "FreightSplitsLaw", name := "hour", desc := "([I[I[I[I[I[I)I" } : Jvm.MethodName)) ∈ zgw := zgw_at 527 (by decide +kernel) (by decide +kernel)
set_option maxRecDepth 100000 in
theorem zw_528 : (Jvm.Cond.code ({ cls := "FreightSplitsLaw", name := "hour", desc := "([I[I[I[I[I[I)I" } : Jvm.MethodName) method_12_code (11 : Nat) (Option.some Jvm.ClassFile.FieldType.int)) ∈ zgw := zgw_at 528 rfl (by decide +kernel)
theorem zw_529 : (Jvm.Cond.methodLink "FreightSplitsLaw" (31 : Nat) ({ cls := "FreightSplitsLaw", name := "offers", desc := "([I[I[IIII)I" } : Jvm.MethodName)) ∈ zgw := zgw_at 529 (by decide +kernel) (by decide +kernel)
theorem zw_530 : (Jvm.Cond.static ({ cls := "FreightSplitsLaw", name := "offers", desc := "([I[I[IIII)I" } : Jvm.MethodName)) ∈ zgw := zgw_at 530 (by decide +kernel) (by decide +kernel)
theorem zw_531 : (Jvm.Cond.code ({ cls := "FreightSplitsLaw", name := "offers", desc := "([I[I[IIII)I" } : Jvm.MethodName) method_10_code (13 : Nat) (Option.some Jvm.ClassFile.FieldType.int)) ∈ zgw := zgw_at 531 (by decide +kernel) (by decide +kernel)
theorem zw_532 : (Jvm.Cond.methodLink "FreightSplitsLaw" (27 : Nat) ({ cls := "FreightSplitsLaw", name := "away", desc := "([I[II)V" } : Jvm.MethodName)) ∈ zgw := zgw_at 532 (by decide +kernel) (by decide +kernel)
theorem zw_533 : (Jvm.Cond.static ({ cls := "FreightSplitsLaw", name := "away", desc := "([I[II)V" } : Jvm.MethodName)) ∈ zgw := zgw_at 533 (by decide +kernel) (by decide +kernel)
theorem zw_534 : (Jvm.Cond.code ({ cls := "FreightSplitsLaw", name := "away", desc := "([I[II)V" } : Jvm.MethodName) method_11_code (4 : Nat) (Option.none : Option Jvm.ClassFile.FieldType)) ∈ zgw := zgw_at 534 (by decide +kernel) (by decide +kernel)
theorem zw_535 : (Jvm.Cond.methodLink "FreightSplitsLaw" (98 : Nat) ({ cls := "FreightSplits", name := "pass", desc := "(I)I" } : Jvm.MethodName)) ∈ zgw := zgw_at 535 (by decide +kernel) (by decide +kernel)
theorem zw_536 : (Jvm.Cond.instanceMethod ({ cls := "FreightSplits", name := "pass", desc := "(I)I" } : Jvm.MethodName)) ∈ zgw := zgw_at 536 (by decide +kernel) (by decide +kernel)
theorem zw_537 : (Jvm.Cond.selects "FreightSplits" ({ cls := "FreightSplits", name := "pass", desc := "(I)I" } : Jvm.MethodName) ({ cls := "FreightSplits", name := "pass", desc := "(I)I" } : Jvm.MethodName)) ∈ zgw := zgw_at 537 (by decide +kernel) (by decide +kernel)
theorem zw_538 : (Jvm.Cond.code ({ cls := "FreightSplits", name := "pass", desc := "(I)I" } : Jvm.MethodName) prog_1_method_11_code (2 : Nat) (Option.some Jvm.ClassFile.FieldType.int)) ∈ zgw := zgw_at 538 (by decide +kernel) (by decide +kernel)
theorem zw_539 : (Jvm.Cond.methodLink "FreightSplits" (82 : Nat) ({ cls := "FreightSplits$Hall", name := "letPass", desc := "(I)I" } : Jvm.MethodName)) ∈ zgw := zgw_at 539 (by decide +kernel) (by decide +kernel)
theorem zw_540 : (Jvm.Cond.instanceMethod ({ cls := "FreightSplits$Hall", name := "letPass", desc := "(I)I" } : Jvm.MethodName)) ∈ zgw := zgw_at 540 (by decide +kernel) (by decide +kernel)
theorem zw_541 : (Jvm.Cond.selects "FreightSplits$Hall" ({ cls := "FreightSplits$Hall", name := "letPass", desc := "(I)I" } : Jvm.MethodName) ({ cls := "FreightSplits$Hall", name := "letPass", desc := "(I)I" } : Jvm.MethodName)) ∈ zgw := zgw_at 541 (by decide +kernel) (by decide +kernel)
theorem zw_542 : (Jvm.Cond.code ({ cls := "FreightSplits$Hall", name := "letPass", desc := "(I)I" } : Jvm.MethodName) prog_3_method_15_code (4 : Nat) (Option.some Jvm.ClassFile.FieldType.int)) ∈ zgw := zgw_at 542 (by decide +kernel) (by decide +kernel)
theorem zw_543 : (Jvm.Cond.methodLink "FreightSplits$Hall" (198 : Nat) ({ cls := "FreightSplits$Hall", name := "moveVehicles", desc := "()I" } : Jvm.MethodName)) ∈ zgw := zgw_at 543 (by decide +kernel) (by decide +kernel)
theorem zw_544 : (Jvm.Cond.instanceMethod ({ cls := "FreightSplits$Hall", name := "moveVehicles", desc := "()I" } : Jvm.MethodName)) ∈ zgw := zgw_at 544 (by decide +kernel) (by decide +kernel)
theorem zw_545 : (Jvm.Cond.selects "FreightSplits$Hall" ({ cls := "FreightSplits$Hall", name := "moveVehicles", desc := "()I" } : Jvm.MethodName) ({ cls := "FreightSplits$Hall", name := "moveVehicles", desc := "()I" } : Jvm.MethodName)) ∈ zgw := zgw_at 545 (by decide +kernel) (by decide +kernel)
theorem zw_546 : (Jvm.Cond.code ({ cls := "FreightSplits$Hall", name := "moveVehicles", desc := "()I" } : Jvm.MethodName) prog_3_method_19_code (4 : Nat) (Option.some Jvm.ClassFile.FieldType.int)) ∈ zgw := zgw_at 546 (by decide +kernel) (by decide +kernel)
theorem zw_547 : (Jvm.Cond.methodLink "FreightSplits$Hall" (215 : Nat) ({ cls := "FreightSplits$Hall", name := "deliverLoad", desc := "(LFreightSplits$Vehicle;)I" } : Jvm.MethodName)) ∈ zgw := zgw_at 547 (by decide +kernel) (by decide +kernel)
theorem zw_548 : (Jvm.Cond.instanceMethod ({ cls := "FreightSplits$Hall", name := "deliverLoad", desc := "(LFreightSplits$Vehicle;)I" } : Jvm.MethodName)) ∈ zgw := zgw_at 548 (by decide +kernel) (by decide +kernel)
theorem zw_549 : (Jvm.Cond.selects "FreightSplits$Hall" ({ cls := "FreightSplits$Hall", name := "deliverLoad", desc := "(LFreightSplits$Vehicle;)I" } : Jvm.MethodName) ({ cls := "FreightSplits$Hall", name := "deliverLoad", desc := "(LFreightSplits$Vehicle;)I" } : Jvm.MethodName)) ∈ zgw := zgw_at 549 (by decide +kernel) (by decide +kernel)
theorem zw_550 : (Jvm.Cond.code ({ cls := "FreightSplits$Hall", name := "deliverLoad", desc := "(LFreightSplits$Vehicle;)I" } : Jvm.MethodName) prog_3_method_20_code (5 : Nat) (Option.some Jvm.ClassFile.FieldType.int)) ∈ zgw := zgw_at 550 (by decide +kernel) (by decide +kernel)
theorem zw_551 : (Jvm.Cond.methodLink "FreightSplits$Hall" (218 : Nat) ({ cls := "FreightSplits$Hall", name := "takeOffers", desc := "(LFreightSplits$Vehicle;)V" } : Jvm.MethodName)) ∈ zgw := zgw_at 551 (by decide +kernel) (by decide +kernel)
theorem zw_552 : (Jvm.Cond.instanceMethod ({ cls := "FreightSplits$Hall", name := "takeOffers", desc := "(LFreightSplits$Vehicle;)V" } : Jvm.MethodName)) ∈ zgw := zgw_at 552 (by decide +kernel) (by decide +kernel)
theorem zw_553 : (Jvm.Cond.selects "FreightSplits$Hall" ({ cls := "FreightSplits$Hall", name := "takeOffers", desc := "(LFreightSplits$Vehicle;)V" } : Jvm.MethodName) ({ cls := "FreightSplits$Hall", name := "takeOffers", desc := "(LFreightSplits$Vehicle;)V" } : Jvm.MethodName)) ∈ zgw := zgw_at 553 (by decide +kernel) (by decide +kernel)
theorem zw_554 : (Jvm.Cond.code ({ cls := "FreightSplits$Hall", name := "takeOffers", desc := "(LFreightSplits$Vehicle;)V" } : Jvm.MethodName) prog_3_method_21_code (6 : Nat) (Option.none : Option Jvm.ClassFile.FieldType)) ∈ zgw := zgw_at 554 (by decide +kernel) (by decide +kernel)
theorem zw_555 : (Jvm.Cond.methodLink "FreightSplits$Hall" (227 : Nat) ({ cls := "FreightSplits$Hall", name := "bestOffer", desc := "(III)I" } : Jvm.MethodName)) ∈ zgw := zgw_at 555 (by decide +kernel) (by decide +kernel)
theorem zw_556 : (Jvm.Cond.instanceMethod ({ cls := "FreightSplits$Hall", name := "bestOffer", desc := "(III)I" } : Jvm.MethodName)) ∈ zgw := zgw_at 556 (by decide +kernel) (by decide +kernel)
theorem zw_557 : (Jvm.Cond.selects "FreightSplits$Hall" ({ cls := "FreightSplits$Hall", name := "bestOffer", desc := "(III)I" } : Jvm.MethodName) ({ cls := "FreightSplits$Hall", name := "bestOffer", desc := "(III)I" } : Jvm.MethodName)) ∈ zgw := zgw_at 557 (by decide +kernel) (by decide +kernel)
theorem zw_558 : (Jvm.Cond.code ({ cls := "FreightSplits$Hall", name := "bestOffer", desc := "(III)I" } : Jvm.MethodName) prog_3_method_22_code (9 : Nat) (Option.some Jvm.ClassFile.FieldType.int)) ∈ zgw := zgw_at 558 (by decide +kernel) (by decide +kernel)
theorem zw_559 : (Jvm.Cond.methodLink "FreightSplits$Hall" (231 : Nat) ({ cls := "FreightSplits$Hall", name := "removeOffer", desc := "(I)V" } : Jvm.MethodName)) ∈ zgw := zgw_at 559 (by decide +kernel) (by decide +kernel)
theorem zw_560 : (Jvm.Cond.instanceMethod ({ cls := "FreightSplits$Hall", name := "removeOffer", desc := "(I)V" } : Jvm.MethodName)) ∈ zgw := zgw_at 560 (by decide +kernel) (by decide +kernel)
theorem zw_561 : (Jvm.Cond.selects "FreightSplits$Hall" ({ cls := "FreightSplits$Hall", name := "removeOffer", desc := "(I)V" } : Jvm.MethodName) ({ cls := "FreightSplits$Hall", name := "removeOffer", desc := "(I)V" } : Jvm.MethodName)) ∈ zgw := zgw_at 561 (by decide +kernel) (by decide +kernel)
theorem zw_562 : (Jvm.Cond.code ({ cls := "FreightSplits$Hall", name := "removeOffer", desc := "(I)V" } : Jvm.MethodName) prog_3_method_25_code (4 : Nat) (Option.none : Option Jvm.ClassFile.FieldType)) ∈ zgw := zgw_at 562 (by decide +kernel) (by decide +kernel)
theorem zw_563 : (Jvm.Cond.methodLink "FreightSplits$Hall" (221 : Nat) ({ cls := "FreightSplits$Hall", name := "comeBack", desc := "(LFreightSplits$Vehicle;)V" } : Jvm.MethodName)) ∈ zgw := zgw_at 563 (by decide +kernel) (by decide +kernel)
theorem zw_564 : (Jvm.Cond.instanceMethod ({ cls := "FreightSplits$Hall", name := "comeBack", desc := "(LFreightSplits$Vehicle;)V" } : Jvm.MethodName)) ∈ zgw := zgw_at 564 (by decide +kernel) (by decide +kernel)
theorem zw_565 : (Jvm.Cond.selects "FreightSplits$Hall" ({ cls := "FreightSplits$Hall", name := "comeBack", desc := "(LFreightSplits$Vehicle;)V" } : Jvm.MethodName) ({ cls := "FreightSplits$Hall", name := "comeBack", desc := "(LFreightSplits$Vehicle;)V" } : Jvm.MethodName)) ∈ zgw := zgw_at 565 (by decide +kernel) (by decide +kernel)
theorem zw_566 : (Jvm.Cond.code ({ cls := "FreightSplits$Hall", name := "comeBack", desc := "(LFreightSplits$Vehicle;)V" } : Jvm.MethodName) prog_3_method_23_code (2 : Nat) (Option.none : Option Jvm.ClassFile.FieldType)) ∈ zgw := zgw_at 566 (by decide +kernel) (by decide +kernel)
theorem zw_567 : (Jvm.Cond.methodLink "FreightSplits$Hall" (202 : Nat) ({ cls := "FreightSplits$Hall", name := "dropOldOffers", desc := "()V" } : Jvm.MethodName)) ∈ zgw := zgw_at 567 (by decide +kernel) (by decide +kernel)
theorem zw_568 : (Jvm.Cond.instanceMethod ({ cls := "FreightSplits$Hall", name := "dropOldOffers", desc := "()V" } : Jvm.MethodName)) ∈ zgw := zgw_at 568 (by decide +kernel) (by decide +kernel)
theorem zw_569 : (Jvm.Cond.selects "FreightSplits$Hall" ({ cls := "FreightSplits$Hall", name := "dropOldOffers", desc := "()V" } : Jvm.MethodName) ({ cls := "FreightSplits$Hall", name := "dropOldOffers", desc := "()V" } : Jvm.MethodName)) ∈ zgw := zgw_at 569 (by decide +kernel) (by decide +kernel)
theorem zw_570 : (Jvm.Cond.code ({ cls := "FreightSplits$Hall", name := "dropOldOffers", desc := "()V" } : Jvm.MethodName) prog_3_method_24_code (2 : Nat) (Option.none : Option Jvm.ClassFile.FieldType)) ∈ zgw := zgw_at 570 (by decide +kernel) (by decide +kernel)
theorem zw_571 : (Jvm.Cond.methodLink "FreightSplits$Hall" (205 : Nat) ({ cls := "FreightSplits$Hall", name := "payFees", desc := "()V" } : Jvm.MethodName)) ∈ zgw := zgw_at 571 (by decide +kernel) (by decide +kernel)
theorem zw_572 : (Jvm.Cond.instanceMethod ({ cls := "FreightSplits$Hall", name := "payFees", desc := "()V" } : Jvm.MethodName)) ∈ zgw := zgw_at 572 (by decide +kernel) (by decide +kernel)
theorem zw_573 : (Jvm.Cond.selects "FreightSplits$Hall" ({ cls := "FreightSplits$Hall", name := "payFees", desc := "()V" } : Jvm.MethodName) ({ cls := "FreightSplits$Hall", name := "payFees", desc := "()V" } : Jvm.MethodName)) ∈ zgw := zgw_at 573 (by decide +kernel) (by decide +kernel)
theorem zw_574 : (Jvm.Cond.code ({ cls := "FreightSplits$Hall", name := "payFees", desc := "()V" } : Jvm.MethodName) prog_3_method_26_code (3 : Nat) (Option.none : Option Jvm.ClassFile.FieldType)) ∈ zgw := zgw_at 574 (by decide +kernel) (by decide +kernel)
theorem zw_575 : (Jvm.Cond.methodLink "FreightSplitsLaw" (101 : Nat) ({ cls := "FreightSplits", name := "set", desc := "(II)I" } : Jvm.MethodName)) ∈ zgw := zgw_at 575 (by decide +kernel) (by decide +kernel)
theorem zw_576 : (Jvm.Cond.instanceMethod ({ cls := "FreightSplits", name := "set", desc := "(II)I" } : Jvm.MethodName)) ∈ zgw := zgw_at 576 (by decide +kernel) (by decide +kernel)
theorem zw_577 : (Jvm.Cond.selects "FreightSplits" ({ cls := "FreightSplits", name := "set", desc := "(II)I" } : Jvm.MethodName) ({ cls := "FreightSplits", name := "set", desc := "(II)I" } : Jvm.MethodName)) ∈ zgw := zgw_at 577 (by decide +kernel) (by decide +kernel)
theorem zw_578 : (Jvm.Cond.code ({ cls := "FreightSplits", name := "set", desc := "(II)I" } : Jvm.MethodName) prog_1_method_12_code (3 : Nat) (Option.some Jvm.ClassFile.FieldType.int)) ∈ zgw := zgw_at 578 (by decide +kernel) (by decide +kernel)
theorem zw_579 : (Jvm.Cond.methodLink "FreightSplits" (85 : Nat) ({ cls := "FreightSplits$Hall", name := "changeSetting", desc := "(II)I" } : Jvm.MethodName)) ∈ zgw := zgw_at 579 (by decide +kernel) (by decide +kernel)
theorem zw_580 : (Jvm.Cond.instanceMethod ({ cls := "FreightSplits$Hall", name := "changeSetting", desc := "(II)I" } : Jvm.MethodName)) ∈ zgw := zgw_at 580 (by decide +kernel) (by decide +kernel)
theorem zw_581 : (Jvm.Cond.selects "FreightSplits$Hall" ({ cls := "FreightSplits$Hall", name := "changeSetting", desc := "(II)I" } : Jvm.MethodName) ({ cls := "FreightSplits$Hall", name := "changeSetting", desc := "(II)I" } : Jvm.MethodName)) ∈ zgw := zgw_at 581 (by decide +kernel) (by decide +kernel)
theorem zw_582 : (Jvm.Cond.code ({ cls := "FreightSplits$Hall", name := "changeSetting", desc := "(II)I" } : Jvm.MethodName) prog_3_method_16_code (4 : Nat) (Option.some Jvm.ClassFile.FieldType.int)) ∈ zgw := zgw_at 582 (by decide +kernel) (by decide +kernel)
theorem zw_583 : (Jvm.Cond.methodLink "FreightSplits$Hall" (208 : Nat) ({ cls := "FreightSplits$Hall", name := "leastOfSetting", desc := "(I)I" } : Jvm.MethodName)) ∈ zgw := zgw_at 583 (by decide +kernel) (by decide +kernel)
theorem zw_584 : (Jvm.Cond.static ({ cls := "FreightSplits$Hall", name := "leastOfSetting", desc := "(I)I" } : Jvm.MethodName)) ∈ zgw := zgw_at 584 (by decide +kernel) (by decide +kernel)
theorem zw_585 : (Jvm.Cond.code ({ cls := "FreightSplits$Hall", name := "leastOfSetting", desc := "(I)I" } : Jvm.MethodName) prog_3_method_17_code (1 : Nat) (Option.some Jvm.ClassFile.FieldType.int)) ∈ zgw := zgw_at 585 (by decide +kernel) (by decide +kernel)
theorem zw_586 : (Jvm.Cond.methodLink "FreightSplits$Hall" (212 : Nat) ({ cls := "FreightSplits$Hall", name := "mostOfSetting", desc := "(I)I" } : Jvm.MethodName)) ∈ zgw := zgw_at 586 (by decide +kernel) (by decide +kernel)
theorem zw_587 : (Jvm.Cond.static ({ cls := "FreightSplits$Hall", name := "mostOfSetting", desc := "(I)I" } : Jvm.MethodName)) ∈ zgw := zgw_at 587 (by decide +kernel) (by decide +kernel)
theorem zw_588 : (Jvm.Cond.code ({ cls := "FreightSplits$Hall", name := "mostOfSetting", desc := "(I)I" } : Jvm.MethodName) prog_3_method_18_code (1 : Nat) (Option.some Jvm.ClassFile.FieldType.int)) ∈ zgw := zgw_at 588 (by decide +kernel) (by decide +kernel)
theorem zw_589 : (Jvm.Cond.methodLink "FreightSplitsLaw" (122 : Nat) ({ cls := "FreightSplitsLaw", name := "isSo", desc := "(LFreightSplits;[I[I[I[I[I[I)Z" } : Jvm.MethodName)) ∈ zgw := zgw_at 589 (by decide +kernel) (by decide +kernel)
theorem zw_590 : (Jvm.Cond.static ({ cls := "FreightSplitsLaw", name := "isSo", desc := "(LFreightSplits;[I[I[I[I[I[I)Z" } : Jvm.MethodName)) ∈ zgw := zgw_at 590 (by decide +kernel) (by decide +kernel)
set_option maxRecDepth 100000 in
theorem zw_591 : (Jvm.Cond.code ({ cls := "FreightSplitsLaw", name := "isSo", desc := "(LFreightSplits;[I[I[I[I[I[I)Z" } : Jvm.MethodName) method_18_code (11 : Nat) (Option.some Jvm.ClassFile.FieldType.boolean)) ∈ zgw := zgw_at 591 rfl (by decide +kernel)
theorem zw_592 : (Jvm.Cond.methodLink "FreightSplitsLaw" (108 : Nat) ({ cls := "FreightSplitsLaw", name := "areGoods", desc := "(LFreightSplits;[I[I[I[I)Z" } : Jvm.MethodName)) ∈ zgw := zgw_at 592 (by decide +kernel) (by decide +kernel)
theorem zw_593 : (Jvm.Cond.static ({ cls := "FreightSplitsLaw", name := "areGoods", desc := "(LFreightSplits;[I[I[I[I)Z" } : Jvm.MethodName)) ∈ zgw := zgw_at 593 (by decide +kernel) (by decide +kernel)
set_option maxRecDepth 100000 in
theorem zw_594 : (Jvm.Cond.code ({ cls := "FreightSplitsLaw", name := "areGoods", desc := "(LFreightSplits;[I[I[I[I)Z" } : Jvm.MethodName) method_17_code (10 : Nat) (Option.some Jvm.ClassFile.FieldType.boolean)) ∈ zgw := zgw_at 594 rfl (by decide +kernel)
theorem zw_595 : (Jvm.Cond.methodLink "FreightSplitsLaw" (104 : Nat) ({ cls := "FreightSplits", name := "consignmentOf", desc := "(II)I" } : Jvm.MethodName)) ∈ zgw := zgw_at 595 (by decide +kernel) (by decide +kernel)
theorem zw_596 : (Jvm.Cond.instanceMethod ({ cls := "FreightSplits", name := "consignmentOf", desc := "(II)I" } : Jvm.MethodName)) ∈ zgw := zgw_at 596 (by decide +kernel) (by decide +kernel)
theorem zw_597 : (Jvm.Cond.selects "FreightSplits" ({ cls := "FreightSplits", name := "consignmentOf", desc := "(II)I" } : Jvm.MethodName) ({ cls := "FreightSplits", name := "consignmentOf", desc := "(II)I" } : Jvm.MethodName)) ∈ zgw := zgw_at 597 (by decide +kernel) (by decide +kernel)
theorem zw_598 : (Jvm.Cond.code ({ cls := "FreightSplits", name := "consignmentOf", desc := "(II)I" } : Jvm.MethodName) prog_1_method_13_code (4 : Nat) (Option.some Jvm.ClassFile.FieldType.int)) ∈ zgw := zgw_at 598 (by decide +kernel) (by decide +kernel)
theorem zw_599 : (Jvm.Cond.methodLink "FreightSplits" (88 : Nat) ({ cls := "FreightSplits$Hall", name := "consignmentAt", desc := "(I)LFreightSplits$Consignment;" } : Jvm.MethodName)) ∈ zgw := zgw_at 599 (by decide +kernel) (by decide +kernel)
theorem zw_600 : (Jvm.Cond.methodLink "FreightSplits" (126 : Nat) ({ cls := "FreightSplits$Hall", name := "partsOf", desc := "(I)I" } : Jvm.MethodName)) ∈ zgw := zgw_at 600 (by decide +kernel) (by decide +kernel)
theorem zw_601 : (Jvm.Cond.instanceMethod ({ cls := "FreightSplits$Hall", name := "partsOf", desc := "(I)I" } : Jvm.MethodName)) ∈ zgw := zgw_at 601 (by decide +kernel) (by decide +kernel)
theorem zw_602 : (Jvm.Cond.selects "FreightSplits$Hall" ({ cls := "FreightSplits$Hall", name := "partsOf", desc := "(I)I" } : Jvm.MethodName) ({ cls := "FreightSplits$Hall", name := "partsOf", desc := "(I)I" } : Jvm.MethodName)) ∈ zgw := zgw_at 602 (by decide +kernel) (by decide +kernel)
theorem zw_603 : (Jvm.Cond.code ({ cls := "FreightSplits$Hall", name := "partsOf", desc := "(I)I" } : Jvm.MethodName) prog_3_method_32_code (5 : Nat) (Option.some Jvm.ClassFile.FieldType.int)) ∈ zgw := zgw_at 603 (by decide +kernel) (by decide +kernel)
theorem zw_604 : (Jvm.Cond.methodLink "FreightSplits" (129 : Nat) ({ cls := "FreightSplits$Consignment", name := "isInHall", desc := "()Z" } : Jvm.MethodName)) ∈ zgw := zgw_at 604 (by decide +kernel) (by decide +kernel)
theorem zw_605 : (Jvm.Cond.constant "FreightSplitsLaw" (107 : Nat) (-1000004 : Int32)) ∈ zgw := zgw_at 605 (by decide +kernel) (by decide +kernel)
theorem zw_606 : (Jvm.Cond.methodLink "FreightSplitsLaw" (112 : Nat) ({ cls := "FreightSplits", name := "vehicleOf", desc := "(II)I" } : Jvm.MethodName)) ∈ zgw := zgw_at 606 (by decide +kernel) (by decide +kernel)
theorem zw_607 : (Jvm.Cond.instanceMethod ({ cls := "FreightSplits", name := "vehicleOf", desc := "(II)I" } : Jvm.MethodName)) ∈ zgw := zgw_at 607 (by decide +kernel) (by decide +kernel)
theorem zw_608 : (Jvm.Cond.selects "FreightSplits" ({ cls := "FreightSplits", name := "vehicleOf", desc := "(II)I" } : Jvm.MethodName) ({ cls := "FreightSplits", name := "vehicleOf", desc := "(II)I" } : Jvm.MethodName)) ∈ zgw := zgw_at 608 (by decide +kernel) (by decide +kernel)
theorem zw_609 : (Jvm.Cond.code ({ cls := "FreightSplits", name := "vehicleOf", desc := "(II)I" } : Jvm.MethodName) prog_1_method_14_code (4 : Nat) (Option.some Jvm.ClassFile.FieldType.int)) ∈ zgw := zgw_at 609 (by decide +kernel) (by decide +kernel)
theorem zw_610 : (Jvm.Cond.methodLink "FreightSplits" (142 : Nat) ({ cls := "FreightSplits$Hall", name := "vehicleAt", desc := "(I)LFreightSplits$Vehicle;" } : Jvm.MethodName)) ∈ zgw := zgw_at 610 (by decide +kernel) (by decide +kernel)
theorem zw_611 : (Jvm.Cond.methodLink "FreightSplits" (155 : Nat) ({ cls := "FreightSplits$Hall", name := "loadSize", desc := "(LFreightSplits$Vehicle;)I" } : Jvm.MethodName)) ∈ zgw := zgw_at 611 (by decide +kernel) (by decide +kernel)
theorem zw_612 : (Jvm.Cond.methodLink "FreightSplits" (159 : Nat) ({ cls := "FreightSplits$Hall", name := "loadWeight", desc := "(LFreightSplits$Vehicle;)I" } : Jvm.MethodName)) ∈ zgw := zgw_at 612 (by decide +kernel) (by decide +kernel)
theorem zw_613 : (Jvm.Cond.methodLink "FreightSplits" (162 : Nat) ({ cls := "FreightSplits$Hall", name := "loadSet", desc := "(LFreightSplits$Vehicle;)I" } : Jvm.MethodName)) ∈ zgw := zgw_at 613 (by decide +kernel) (by decide +kernel)
theorem zw_614 : (Jvm.Cond.instanceMethod ({ cls := "FreightSplits$Hall", name := "loadSet", desc := "(LFreightSplits$Vehicle;)I" } : Jvm.MethodName)) ∈ zgw := zgw_at 614 (by decide +kernel) (by decide +kernel)
theorem zw_615 : (Jvm.Cond.selects "FreightSplits$Hall" ({ cls := "FreightSplits$Hall", name := "loadSet", desc := "(LFreightSplits$Vehicle;)I" } : Jvm.MethodName) ({ cls := "FreightSplits$Hall", name := "loadSet", desc := "(LFreightSplits$Vehicle;)I" } : Jvm.MethodName)) ∈ zgw := zgw_at 615 (by decide +kernel) (by decide +kernel)
theorem zw_616 : (Jvm.Cond.code ({ cls := "FreightSplits$Hall", name := "loadSet", desc := "(LFreightSplits$Vehicle;)I" } : Jvm.MethodName) prog_3_method_30_code (4 : Nat) (Option.some Jvm.ClassFile.FieldType.int)) ∈ zgw := zgw_at 616 (by decide +kernel) (by decide +kernel)
theorem zw_617 : (Jvm.Cond.methodLink "FreightSplits" (165 : Nat) ({ cls := "FreightSplits", name := "placeOf", desc := "(LFreightSplits$Vehicle;)I" } : Jvm.MethodName)) ∈ zgw := zgw_at 617 (by decide +kernel) (by decide +kernel)
theorem zw_619 : (Jvm.Cond.instanceMethod ({ cls := "FreightSplits", name := "placeOf", desc := "(LFreightSplits$Vehicle;)I" } : Jvm.MethodName)) ∈ zgw := zgw_at 619 (by decide +kernel) (by decide +kernel)
theorem zw_620 : (Jvm.Cond.code ({ cls := "FreightSplits", name := "placeOf", desc := "(LFreightSplits$Vehicle;)I" } : Jvm.MethodName) prog_1_method_27_code (3 : Nat) (Option.some Jvm.ClassFile.FieldType.int)) ∈ zgw := zgw_at 620 (by decide +kernel) (by decide +kernel)
theorem zw_621 : (Jvm.Cond.methodLink "FreightSplits" (264 : Nat) ({ cls := "FreightSplits$Hall", name := "loadPlace", desc := "(LFreightSplits$Vehicle;)I" } : Jvm.MethodName)) ∈ zgw := zgw_at 621 (by decide +kernel) (by decide +kernel)
end
