/-! ===== BEGIN printed: names, fields, word lists, decode rows ===== -/
def RX0 : String := "JointVenture$CashCall"
def TX0 : u_T := fun k => match k with
  | 0 => ("JointVenture$CashCall", "asked", "[I", true)
  | _ => ("JointVenture$CashCall", "paid", "[I", true)
def tyX0 : Nat → FieldType := fun k => match k with
  | 0 => .array .int
  | _ => .array .int
abbrev wsX00 : List Cond := u_ws RX0 TX0 2
theorem nmX0 : ∀ a, a < 2 → ∀ b, b < 2 → a ≠ b → (TX0 a).2.1 ≠ (TX0 b).2.1 := by decide +kernel
theorem tyX0_ok : ∀ k, k < 2 → parseFieldDescriptor (TX0 k).2.2.1 = some (tyX0 k) := by decide +kernel
abbrev cX0_init : ByteArray := prog_2_method_1_code
def yX0_init : MethodName := ⟨RX0, "<init>", "()V"⟩
abbrev cX0_hasPayer : ByteArray := prog_2_method_2_code
def yX0_hasPayer : MethodName := ⟨RX0, "hasPayer", "()Z"⟩
abbrev cX0_askedOfNonPayers : ByteArray := prog_2_method_3_code
def yX0_askedOfNonPayers : MethodName := ⟨RX0, "askedOfNonPayers", "()I"⟩
def RX1 : String := "JointVenture$Division"
def TX1 : u_T := fun k => match k with
  | _ => ("JointVenture$Division", "remainders", "[J", true)
def tyX1 : Nat → FieldType := fun k => match k with
  | _ => .array .long
abbrev wsX10 : List Cond := u_ws RX1 TX1 1
theorem nmX1 : ∀ a, a < 1 → ∀ b, b < 1 → a ≠ b → (TX1 a).2.1 ≠ (TX1 b).2.1 := by decide +kernel
theorem tyX1_ok : ∀ k, k < 1 → parseFieldDescriptor (TX1 k).2.2.1 = some (tyX1 k) := by decide +kernel
abbrev cX1_init : ByteArray := prog_3_method_1_code
def yX1_init : MethodName := ⟨RX1, "<init>", "()V"⟩
abbrev cX1_divide : ByteArray := prog_3_method_2_code
def yX1_divide : MethodName := ⟨RX1, "divide", "(I[I[I)V"⟩
abbrev cX1_firstWithGreatestRemainder : ByteArray := prog_3_method_3_code
def yX1_firstWithGreatestRemainder : MethodName := ⟨RX1, "firstWithGreatestRemainder", "()I"⟩
def RX2 : String := "JointVenture$Well"
def TX2 : u_T := fun k => match k with
  | 0 => ("JointVenture$Well", "penalty", "I", false)
  | 1 => ("JointVenture$Well", "hadVoucher", "Z", false)
  | 2 => ("JointVenture$Well", "electedOut", "[Z", true)
  | 3 => ("JointVenture$Well", "out", "[Z", true)
  | 4 => ("JointVenture$Well", "toEarn", "[J", true)
  | 5 => ("JointVenture$Well", "backAt", "[I", true)
  | 6 => ("JointVenture$Well", "charged", "[I", true)
  | _ => ("JointVenture$Well", "credited", "[I", true)
def tyX2 : Nat → FieldType := fun k => match k with
  | 0 => .int
  | 1 => .boolean
  | 2 => .array .boolean
  | 3 => .array .boolean
  | 4 => .array .long
  | 5 => .array .int
  | 6 => .array .int
  | _ => .array .int
abbrev wsX20 : List Cond := u_ws RX2 TX2 8
theorem nmX2 : ∀ a, a < 8 → ∀ b, b < 8 → a ≠ b → (TX2 a).2.1 ≠ (TX2 b).2.1 := by decide +kernel
theorem tyX2_ok : ∀ k, k < 8 → parseFieldDescriptor (TX2 k).2.2.1 = some (tyX2 k) := by decide +kernel
abbrev cX2_init : ByteArray := prog_4_method_1_code
def yX2_init : MethodName := ⟨RX2, "<init>", "()V"⟩
abbrev cX2_clearAccounts : ByteArray := prog_4_method_2_code
def yX2_clearAccounts : MethodName := ⟨RX2, "clearAccounts", "()V"⟩
abbrev cX2_takenOf : ByteArray := prog_4_method_3_code
def yX2_takenOf : MethodName := ⟨RX2, "takenOf", "(II)I"⟩
abbrev cX2_takeBack : ByteArray := prog_4_method_4_code
def yX2_takeBack : MethodName := ⟨RX2, "takeBack", "(I)V"⟩
def RX3 : String := "JointVenture"
def TX3 : u_T := fun k => match k with
  | 0 => ("JointVenture", "shares", "[I", true)
  | 1 => ("JointVenture", "newPenalty", "I", false)
  | 2 => ("JointVenture", "monthlyOverhead", "I", false)
  | 3 => ("JointVenture", "wells", "[LJointVenture$Well;", true)
  | 4 => ("JointVenture", "wellCount", "I", false)
  | 5 => ("JointVenture", "voucherWells", "[I", true)
  | 6 => ("JointVenture", "voucherAmounts", "[I", true)
  | 7 => ("JointVenture", "voucherCount", "I", false)
  | 8 => ("JointVenture", "cashCalls", "[LJointVenture$CashCall;", true)
  | 9 => ("JointVenture", "cashCallCount", "I", false)
  | 10 => ("JointVenture", "owed", "[I", true)
  | 11 => ("JointVenture", "division", "LJointVenture$Division;", true)
  | 12 => ("JointVenture", "ownParts", "[I", true)
  | 13 => ("JointVenture", "weights", "[I", true)
  | _ => ("JointVenture", "portions", "[I", true)
def tyX3 : Nat → FieldType := fun k => match k with
  | 0 => .array .int
  | 1 => .int
  | 2 => .int
  | 3 => .array (.object "JointVenture$Well")
  | 4 => .int
  | 5 => .array .int
  | 6 => .array .int
  | 7 => .int
  | 8 => .array (.object "JointVenture$CashCall")
  | 9 => .int
  | 10 => .array .int
  | 11 => .object "JointVenture$Division"
  | 12 => .array .int
  | 13 => .array .int
  | _ => .array .int
abbrev wsX30 : List Cond := u_ws RX3 TX3 15
theorem nmX3 : ∀ a, a < 15 → ∀ b, b < 15 → a ≠ b → (TX3 a).2.1 ≠ (TX3 b).2.1 := by decide +kernel
theorem tyX3_ok : ∀ k, k < 15 → parseFieldDescriptor (TX3 k).2.2.1 = some (tyX3 k) := by decide +kernel
abbrev cX3_init : ByteArray := prog_1_method_1_code
def yX3_init : MethodName := ⟨RX3, "<init>", "()V"⟩
abbrev cX3_setShares : ByteArray := prog_1_method_2_code
def yX3_setShares : MethodName := ⟨RX3, "setShares", "(IIIII)V"⟩
abbrev cX3_setPenalty : ByteArray := prog_1_method_3_code
def yX3_setPenalty : MethodName := ⟨RX3, "setPenalty", "(I)I"⟩
abbrev cX3_setOverhead : ByteArray := prog_1_method_4_code
def yX3_setOverhead : MethodName := ⟨RX3, "setOverhead", "(I)I"⟩
abbrev cX3_addWell : ByteArray := prog_1_method_5_code
def yX3_addWell : MethodName := ⟨RX3, "addWell", "()I"⟩
abbrev cX3_elect : ByteArray := prog_1_method_6_code
def yX3_elect : MethodName := ⟨RX3, "elect", "(IIZ)Z"⟩
abbrev cX3_cost : ByteArray := prog_1_method_7_code
def yX3_cost : MethodName := ⟨RX3, "cost", "(II)I"⟩
abbrev cX3_overhead : ByteArray := prog_1_method_8_code
def yX3_overhead : MethodName := ⟨RX3, "overhead", "(II)I"⟩
abbrev cX3_income : ByteArray := prog_1_method_9_code
def yX3_income : MethodName := ⟨RX3, "income", "(II)I"⟩
abbrev cX3_move : ByteArray := prog_1_method_10_code
def yX3_move : MethodName := ⟨RX3, "move", "(II)I"⟩
abbrev cX3_vouchers : ByteArray := prog_1_method_11_code
def yX3_vouchers : MethodName := ⟨RX3, "vouchers", "()I"⟩
abbrev cX3_wellOf : ByteArray := prog_1_method_12_code
def yX3_wellOf : MethodName := ⟨RX3, "wellOf", "(I)I"⟩
abbrev cX3_amountOf : ByteArray := prog_1_method_13_code
def yX3_amountOf : MethodName := ⟨RX3, "amountOf", "(I)I"⟩
abbrev cX3_isIn : ByteArray := prog_1_method_14_code
def yX3_isIn : MethodName := ⟨RX3, "isIn", "(II)Z"⟩
abbrev cX3_toEarn : ByteArray := prog_1_method_15_code
def yX3_toEarn : MethodName := ⟨RX3, "toEarn", "(II)J"⟩
abbrev cX3_backAt : ByteArray := prog_1_method_16_code
def yX3_backAt : MethodName := ⟨RX3, "backAt", "(II)I"⟩
abbrev cX3_charged : ByteArray := prog_1_method_17_code
def yX3_charged : MethodName := ⟨RX3, "charged", "(II)I"⟩
abbrev cX3_credited : ByteArray := prog_1_method_18_code
def yX3_credited : MethodName := ⟨RX3, "credited", "(II)I"⟩
abbrev cX3_weight : ByteArray := prog_1_method_19_code
def yX3_weight : MethodName := ⟨RX3, "weight", "(II)I"⟩
abbrev cX3_call : ByteArray := prog_1_method_20_code
def yX3_call : MethodName := ⟨RX3, "call", "(II)I"⟩
abbrev cX3_pay : ByteArray := prog_1_method_21_code
def yX3_pay : MethodName := ⟨RX3, "pay", "(II)I"⟩
abbrev cX3_shareOut : ByteArray := prog_1_method_22_code
def yX3_shareOut : MethodName := ⟨RX3, "shareOut", "(I)I"⟩
abbrev cX3_asked : ByteArray := prog_1_method_23_code
def yX3_asked : MethodName := ⟨RX3, "asked", "(II)I"⟩
abbrev cX3_paid : ByteArray := prog_1_method_24_code
def yX3_paid : MethodName := ⟨RX3, "paid", "(I)I"⟩
abbrev cX3_owes : ByteArray := prog_1_method_25_code
def yX3_owes : MethodName := ⟨RX3, "owes", "(I)I"⟩
abbrev cX3_balance : ByteArray := prog_1_method_26_code
def yX3_balance : MethodName := ⟨RX3, "balance", "(I)J"⟩
abbrev cX3_requireRange : ByteArray := prog_1_method_27_code
def yX3_requireRange : MethodName := ⟨RX3, "requireRange", "(III)V"⟩
abbrev cX3_requirePartner : ByteArray := prog_1_method_28_code
def yX3_requirePartner : MethodName := ⟨RX3, "requirePartner", "(I)V"⟩
abbrev cX3_requireWell : ByteArray := prog_1_method_29_code
def yX3_requireWell : MethodName := ⟨RX3, "requireWell", "(I)V"⟩
abbrev cX3_requireVoucher : ByteArray := prog_1_method_30_code
def yX3_requireVoucher : MethodName := ⟨RX3, "requireVoucher", "(I)V"⟩
abbrev cX3_requireCashCall : ByteArray := prog_1_method_31_code
def yX3_requireCashCall : MethodName := ⟨RX3, "requireCashCall", "(I)V"⟩
abbrev cX3_requireRoomForVoucher : ByteArray := prog_1_method_32_code
def yX3_requireRoomForVoucher : MethodName := ⟨RX3, "requireRoomForVoucher", "()V"⟩
abbrev cX3_addVoucher : ByteArray := prog_1_method_33_code
def yX3_addVoucher : MethodName := ⟨RX3, "addVoucher", "(II)I"⟩
abbrev cX3_accountAnew : ByteArray := prog_1_method_34_code
def yX3_accountAnew : MethodName := ⟨RX3, "accountAnew", "(I)V"⟩
abbrev cX3_account : ByteArray := prog_1_method_35_code
def yX3_account : MethodName := ⟨RX3, "account", "(I)V"⟩
abbrev cX3_accountCost : ByteArray := prog_1_method_36_code
def yX3_accountCost : MethodName := ⟨RX3, "accountCost", "(LJointVenture$Well;I)V"⟩
abbrev cX3_penaltyOn : ByteArray := prog_1_method_37_code
def yX3_penaltyOn : MethodName := ⟨RX3, "penaltyOn", "(II)J"⟩
abbrev cX3_divideCost : ByteArray := prog_1_method_38_code
def yX3_divideCost : MethodName := ⟨RX3, "divideCost", "(LJointVenture$Well;I)V"⟩
abbrev cX3_accountIncome : ByteArray := prog_1_method_39_code
def yX3_accountIncome : MethodName := ⟨RX3, "accountIncome", "(LJointVenture$Well;I)V"⟩
abbrev cX3_creditTaken : ByteArray := prog_1_method_40_code
def yX3_creditTaken : MethodName := ⟨RX3, "creditTaken", "(LJointVenture$Well;I)V"⟩
abbrev cX3_ownPartsOfThoseOut : ByteArray := prog_1_method_41_code
def yX3_ownPartsOfThoseOut : MethodName := ⟨RX3, "ownPartsOfThoseOut", "(LJointVenture$Well;)I"⟩
abbrev cX3_weighThoseIn : ByteArray := prog_1_method_42_code
def yX3_weighThoseIn : MethodName := ⟨RX3, "weighThoseIn", "(LJointVenture$Well;)V"⟩
abbrev cX3_shareIfIn : ByteArray := prog_1_method_43_code
def yX3_shareIfIn : MethodName := ⟨RX3, "shareIfIn", "(LJointVenture$Well;I)I"⟩
abbrev cX3_isAnotherIn : ByteArray := prog_1_method_44_code
def yX3_isAnotherIn : MethodName := ⟨RX3, "isAnotherIn", "(LJointVenture$Well;I)Z"⟩
abbrev cX3_moveToPayers : ByteArray := prog_1_method_45_code
def yX3_moveToPayers : MethodName := ⟨RX3, "moveToPayers", "(LJointVenture$CashCall;I)V"⟩
abbrev cX3_paidOfAllCalls : ByteArray := prog_1_method_46_code
def yX3_paidOfAllCalls : MethodName := ⟨RX3, "paidOfAllCalls", "(I)I"⟩
def RX4 : String := "JointVentureModel"
def TX4 : u_T := fun k => match k with
  | _ => ("", "", "", false)
def tyX4 : Nat → FieldType := fun k => match k with
  | _ => .int
abbrev wsX40 : List Cond := u_ws RX4 TX4 0
theorem nmX4 : ∀ a, a < 0 → ∀ b, b < 0 → a ≠ b → (TX4 a).2.1 ≠ (TX4 b).2.1 := by decide +kernel
theorem tyX4_ok : ∀ k, k < 0 → parseFieldDescriptor (TX4 k).2.2.1 = some (tyX4 k) := by decide +kernel
def RJx145de : String := "java/io/Serializable"
def TJx145de : u_T := fun k => match k with
  | _ => ("", "", "", false)
def tyJx145de : Nat → FieldType := fun k => match k with
  | _ => .int
abbrev wsJx145de0 : List Cond := u_ws RJx145de TJx145de 0
theorem nmJx145de : ∀ a, a < 0 → ∀ b, b < 0 → a ≠ b → (TJx145de a).2.1 ≠ (TJx145de b).2.1 := by decide +kernel
theorem tyJx145de_ok : ∀ k, k < 0 → parseFieldDescriptor (TJx145de k).2.2.1 = some (tyJx145de k) := by decide +kernel
def RJ9 : String := "java/lang/Math"
def TJ9 : u_T := fun k => match k with
  | _ => ("", "", "", false)
def tyJ9 : Nat → FieldType := fun k => match k with
  | _ => .int
abbrev wsJ90 : List Cond := u_ws RJ9 TJ9 0
theorem nmJ9 : ∀ a, a < 0 → ∀ b, b < 0 → a ≠ b → (TJ9 a).2.1 ≠ (TJ9 b).2.1 := by decide +kernel
theorem tyJ9_ok : ∀ k, k < 0 → parseFieldDescriptor (TJ9 k).2.2.1 = some (tyJ9 k) := by decide +kernel
abbrev cJ9_min_f86c9 : ByteArray := prog_11_method_70_code
def yJ9_min_f86c9 : MethodName := ⟨RJ9, "min", "(JJ)J"⟩
def RJ0 : String := "java/lang/String"
def TJ0 : u_T := fun k => match k with
  | _ => ("", "", "", false)
def tyJ0 : Nat → FieldType := fun k => match k with
  | _ => .int
abbrev wsJ00 : List Cond := u_ws RJ0 TJ0 0
theorem nmJ0 : ∀ a, a < 0 → ∀ b, b < 0 → a ≠ b → (TJ0 a).2.1 ≠ (TJ0 b).2.1 := by decide +kernel
theorem tyJ0_ok : ∀ k, k < 0 → parseFieldDescriptor (TJ0 k).2.2.1 = some (tyJ0 k) := by decide +kernel
def RJ7 : String := "java/util/Arrays"
def TJ7 : u_T := fun k => match k with
  | _ => ("", "", "", false)
def tyJ7 : Nat → FieldType := fun k => match k with
  | _ => .int
abbrev wsJ70 : List Cond := u_ws RJ7 TJ7 0
theorem nmJ7 : ∀ a, a < 0 → ∀ b, b < 0 → a ≠ b → (TJ7 a).2.1 ≠ (TJ7 b).2.1 := by decide +kernel
theorem tyJ7_ok : ∀ k, k < 0 → parseFieldDescriptor (TJ7 k).2.2.1 = some (tyJ7 k) := by decide +kernel
abbrev cJ7_fill_d0a16 : ByteArray := prog_15_method_101_code
def yJ7_fill_d0a16 : MethodName := ⟨RJ7, "fill", "([JJ)V"⟩
abbrev cJ7_fill_53178 : ByteArray := prog_15_method_103_code
def yJ7_fill_53178 : MethodName := ⟨RJ7, "fill", "([II)V"⟩
def RL : String := "JointVentureLaw"
abbrev cL_from : ByteArray := method_2_code
def yL_from : MethodName := ⟨RL, "from", "([III)I"⟩
abbrev cL_divide : ByteArray := method_3_code
def yL_divide : MethodName := ⟨RL, "divide", "(J[J[J)V"⟩
abbrev cL_enter : ByteArray := method_4_code
def yL_enter : MethodName := ⟨RL, "enter", "([II[JJZI)V"⟩
abbrev cL_account : ByteArray := method_5_code
def yL_account : MethodName := ⟨RL, "account", "([I[I[I[I[I[JI)V"⟩
abbrev cL_weigh : ByteArray := method_6_code
def yL_weigh : MethodName := ⟨RL, "weigh", "([I[I[I[I[I[JI)V"⟩
abbrev cL_isTold : ByteArray := method_7_code
def yL_isTold : MethodName := ⟨RL, "isTold", "(LJointVenture;[I[I[I[I[I[I[I[I)Z"⟩
abbrev cL_elected : ByteArray := method_8_code
def yL_elected : MethodName := ⟨RL, "elected", "(LJointVenture;IIZ)I"⟩
abbrev cL_entered : ByteArray := method_9_code
def yL_entered : MethodName := ⟨RL, "entered", "(LJointVenture;II)I"⟩
abbrev cL_moved : ByteArray := method_10_code
def yL_moved : MethodName := ⟨RL, "moved", "(LJointVenture;II)I"⟩
abbrev cL_paid : ByteArray := method_11_code
def yL_paid : MethodName := ⟨RL, "paid", "(LJointVenture;II)I"⟩
abbrev cL_shared : ByteArray := method_12_code
def yL_shared : MethodName := ⟨RL, "shared", "(LJointVenture;I)I"⟩
abbrev cL_isCash : ByteArray := method_13_code
def yL_isCash : MethodName := ⟨RL, "isCash", "(LJointVenture;[I[I[I[I[I[I[I[III)Z"⟩
abbrev cL_acts : ByteArray := method_14_code
def yL_acts : MethodName := ⟨RL, "acts", "(LJointVenture;[I[I[I[I[I[I[I[I[III)Z"⟩
abbrev cL_holds : ByteArray := method_15_code
def yL_holds : MethodName := ⟨RL, "holds", "([I)Z"⟩
abbrev cL_isHeld : ByteArray := method_16_code
def yL_isHeld : MethodName := ⟨RL, "isHeld", "([I)Z"⟩
abbrev cL_law : ByteArray := code
def yL_law : MethodName := ⟨RL, "law", "([I)Z"⟩
abbrev vwCl : List vw_C := [(RX0, TX0, 2), (RX1, TX1, 1), (RX2, TX2, 8), (RX3, TX3, 15)]
