section
/-- a private method of a class that the tables say can be made, by its rows of tables_1 -/
def lw_okq (q : MethodName × Nat) : Prop := (q.1.cls ≠ "java/lang/invoke/MethodHandle" ∧ q.1.cls ≠ "java/lang/invoke/VarHandle") ∧ Cond.instantiable q.1.cls q.2 ∈ tables_1 ∧ Cond.privateMethod q.1 ∈ tables_1 ∧ Cond.instanceMethod q.1 ∈ tables_1
theorem lw_p0 : lw_okq (⟨"JointVenture", "requireRange", "(III)V"⟩, 15) := ⟨⟨by decide +kernel, by decide +kernel⟩, List.mem_of_getElem? (i := 15) (by decide +kernel), List.mem_of_getElem? (i := 154) (by decide +kernel), List.mem_of_getElem? (i := 155) (by decide +kernel)⟩
theorem lw_p1 : lw_okq (⟨"java/lang/Throwable", "fillInStackTrace", "(I)Ljava/lang/Throwable;"⟩, 6) := ⟨⟨by decide +kernel, by decide +kernel⟩, List.mem_of_getElem? (i := 196) (by decide +kernel), List.mem_of_getElem? (i := 194) (by decide +kernel), List.mem_of_getElem? (i := 195) (by decide +kernel)⟩
theorem lw_p2 : lw_okq (⟨"JointVenture", "requireWell", "(I)V"⟩, 15) := ⟨⟨by decide +kernel, by decide +kernel⟩, List.mem_of_getElem? (i := 15) (by decide +kernel), List.mem_of_getElem? (i := 274) (by decide +kernel), List.mem_of_getElem? (i := 275) (by decide +kernel)⟩
theorem lw_p3 : lw_okq (⟨"JointVenture", "requirePartner", "(I)V"⟩, 15) := ⟨⟨by decide +kernel, by decide +kernel⟩, List.mem_of_getElem? (i := 15) (by decide +kernel), List.mem_of_getElem? (i := 294) (by decide +kernel), List.mem_of_getElem? (i := 295) (by decide +kernel)⟩
theorem lw_p4 : lw_okq (⟨"JointVenture", "isAnotherIn", "(LJointVenture$Well;I)Z"⟩, 15) := ⟨⟨by decide +kernel, by decide +kernel⟩, List.mem_of_getElem? (i := 15) (by decide +kernel), List.mem_of_getElem? (i := 301) (by decide +kernel), List.mem_of_getElem? (i := 302) (by decide +kernel)⟩
theorem lw_p5 : lw_okq (⟨"JointVenture", "shareIfIn", "(LJointVenture$Well;I)I"⟩, 15) := ⟨⟨by decide +kernel, by decide +kernel⟩, List.mem_of_getElem? (i := 15) (by decide +kernel), List.mem_of_getElem? (i := 305) (by decide +kernel), List.mem_of_getElem? (i := 306) (by decide +kernel)⟩
theorem lw_p6 : lw_okq (⟨"JointVenture", "requireRoomForVoucher", "()V"⟩, 15) := ⟨⟨by decide +kernel, by decide +kernel⟩, List.mem_of_getElem? (i := 15) (by decide +kernel), List.mem_of_getElem? (i := 318) (by decide +kernel), List.mem_of_getElem? (i := 319) (by decide +kernel)⟩
theorem lw_p7 : lw_okq (⟨"JointVenture", "addVoucher", "(II)I"⟩, 15) := ⟨⟨by decide +kernel, by decide +kernel⟩, List.mem_of_getElem? (i := 15) (by decide +kernel), List.mem_of_getElem? (i := 323) (by decide +kernel), List.mem_of_getElem? (i := 324) (by decide +kernel)⟩
theorem lw_p8 : lw_okq (⟨"JointVenture", "account", "(I)V"⟩, 15) := ⟨⟨by decide +kernel, by decide +kernel⟩, List.mem_of_getElem? (i := 15) (by decide +kernel), List.mem_of_getElem? (i := 327) (by decide +kernel), List.mem_of_getElem? (i := 328) (by decide +kernel)⟩
theorem lw_p9 : lw_okq (⟨"JointVenture", "accountCost", "(LJointVenture$Well;I)V"⟩, 15) := ⟨⟨by decide +kernel, by decide +kernel⟩, List.mem_of_getElem? (i := 15) (by decide +kernel), List.mem_of_getElem? (i := 331) (by decide +kernel), List.mem_of_getElem? (i := 332) (by decide +kernel)⟩
theorem lw_p10 : lw_okq (⟨"JointVenture", "divideCost", "(LJointVenture$Well;I)V"⟩, 15) := ⟨⟨by decide +kernel, by decide +kernel⟩, List.mem_of_getElem? (i := 15) (by decide +kernel), List.mem_of_getElem? (i := 335) (by decide +kernel), List.mem_of_getElem? (i := 336) (by decide +kernel)⟩
theorem lw_p11 : lw_okq (⟨"JointVenture$Division", "firstWithGreatestRemainder", "()I"⟩, 1) := ⟨⟨by decide +kernel, by decide +kernel⟩, List.mem_of_getElem? (i := 27) (by decide +kernel), List.mem_of_getElem? (i := 344) (by decide +kernel), List.mem_of_getElem? (i := 345) (by decide +kernel)⟩
theorem lw_p12 : lw_okq (⟨"JointVenture", "weighThoseIn", "(LJointVenture$Well;)V"⟩, 15) := ⟨⟨by decide +kernel, by decide +kernel⟩, List.mem_of_getElem? (i := 15) (by decide +kernel), List.mem_of_getElem? (i := 349) (by decide +kernel), List.mem_of_getElem? (i := 350) (by decide +kernel)⟩
theorem lw_p13 : lw_okq (⟨"JointVenture", "ownPartsOfThoseOut", "(LJointVenture$Well;)I"⟩, 15) := ⟨⟨by decide +kernel, by decide +kernel⟩, List.mem_of_getElem? (i := 15) (by decide +kernel), List.mem_of_getElem? (i := 353) (by decide +kernel), List.mem_of_getElem? (i := 354) (by decide +kernel)⟩
theorem lw_p14 : lw_okq (⟨"JointVenture", "penaltyOn", "(II)J"⟩, 15) := ⟨⟨by decide +kernel, by decide +kernel⟩, List.mem_of_getElem? (i := 15) (by decide +kernel), List.mem_of_getElem? (i := 357) (by decide +kernel), List.mem_of_getElem? (i := 358) (by decide +kernel)⟩
theorem lw_p15 : lw_okq (⟨"JointVenture", "accountIncome", "(LJointVenture$Well;I)V"⟩, 15) := ⟨⟨by decide +kernel, by decide +kernel⟩, List.mem_of_getElem? (i := 15) (by decide +kernel), List.mem_of_getElem? (i := 363) (by decide +kernel), List.mem_of_getElem? (i := 364) (by decide +kernel)⟩
def lw_privs_1 : List (MethodName × Nat) := [(⟨"JointVenture", "requireRange", "(III)V"⟩, 15), (⟨"java/lang/Throwable", "fillInStackTrace", "(I)Ljava/lang/Throwable;"⟩, 6), (⟨"JointVenture", "requireWell", "(I)V"⟩, 15), (⟨"JointVenture", "requirePartner", "(I)V"⟩, 15), (⟨"JointVenture", "isAnotherIn", "(LJointVenture$Well;I)Z"⟩, 15), (⟨"JointVenture", "shareIfIn", "(LJointVenture$Well;I)I"⟩, 15), (⟨"JointVenture", "requireRoomForVoucher", "()V"⟩, 15), (⟨"JointVenture", "addVoucher", "(II)I"⟩, 15), (⟨"JointVenture", "account", "(I)V"⟩, 15), (⟨"JointVenture", "accountCost", "(LJointVenture$Well;I)V"⟩, 15), (⟨"JointVenture", "divideCost", "(LJointVenture$Well;I)V"⟩, 15), (⟨"JointVenture$Division", "firstWithGreatestRemainder", "()I"⟩, 1), (⟨"JointVenture", "weighThoseIn", "(LJointVenture$Well;)V"⟩, 15), (⟨"JointVenture", "ownPartsOfThoseOut", "(LJointVenture$Well;)I"⟩, 15), (⟨"JointVenture", "penaltyOn", "(II)J"⟩, 15), (⟨"JointVenture", "accountIncome", "(LJointVenture$Well;I)V"⟩, 15)]
theorem lw_r1 : ∀ q ∈ lw_privs_1, lw_okq q := List.forall_mem_cons.mpr ⟨lw_p0, List.forall_mem_cons.mpr ⟨lw_p1, List.forall_mem_cons.mpr ⟨lw_p2, List.forall_mem_cons.mpr ⟨lw_p3, List.forall_mem_cons.mpr ⟨lw_p4, List.forall_mem_cons.mpr ⟨lw_p5, List.forall_mem_cons.mpr ⟨lw_p6, List.forall_mem_cons.mpr ⟨lw_p7, List.forall_mem_cons.mpr ⟨lw_p8, List.forall_mem_cons.mpr ⟨lw_p9, List.forall_mem_cons.mpr ⟨lw_p10, List.forall_mem_cons.mpr ⟨lw_p11, List.forall_mem_cons.mpr ⟨lw_p12, List.forall_mem_cons.mpr ⟨lw_p13, List.forall_mem_cons.mpr ⟨lw_p14, List.forall_mem_cons.mpr ⟨lw_p15, fun _ h => absurd h List.not_mem_nil⟩⟩⟩⟩⟩⟩⟩⟩⟩⟩⟩⟩⟩⟩⟩⟩
theorem lw_p16 : lw_okq (⟨"JointVenture", "creditTaken", "(LJointVenture$Well;I)V"⟩, 15) := ⟨⟨by decide +kernel, by decide +kernel⟩, List.mem_of_getElem? (i := 15) (by decide +kernel), List.mem_of_getElem? (i := 374) (by decide +kernel), List.mem_of_getElem? (i := 375) (by decide +kernel)⟩
theorem lw_p17 : lw_okq (⟨"JointVenture", "requireVoucher", "(I)V"⟩, 15) := ⟨⟨by decide +kernel, by decide +kernel⟩, List.mem_of_getElem? (i := 15) (by decide +kernel), List.mem_of_getElem? (i := 404) (by decide +kernel), List.mem_of_getElem? (i := 405) (by decide +kernel)⟩
theorem lw_p18 : lw_okq (⟨"JointVenture", "accountAnew", "(I)V"⟩, 15) := ⟨⟨by decide +kernel, by decide +kernel⟩, List.mem_of_getElem? (i := 15) (by decide +kernel), List.mem_of_getElem? (i := 410) (by decide +kernel), List.mem_of_getElem? (i := 411) (by decide +kernel)⟩
theorem lw_p19 : lw_okq (⟨"JointVenture", "requireCashCall", "(I)V"⟩, 15) := ⟨⟨by decide +kernel, by decide +kernel⟩, List.mem_of_getElem? (i := 15) (by decide +kernel), List.mem_of_getElem? (i := 492) (by decide +kernel), List.mem_of_getElem? (i := 493) (by decide +kernel)⟩
theorem lw_p20 : lw_okq (⟨"JointVenture", "moveToPayers", "(LJointVenture$CashCall;I)V"⟩, 15) := ⟨⟨by decide +kernel, by decide +kernel⟩, List.mem_of_getElem? (i := 15) (by decide +kernel), List.mem_of_getElem? (i := 515) (by decide +kernel), List.mem_of_getElem? (i := 516) (by decide +kernel)⟩
theorem lw_p21 : lw_okq (⟨"JointVenture", "paidOfAllCalls", "(I)I"⟩, 15) := ⟨⟨by decide +kernel, by decide +kernel⟩, List.mem_of_getElem? (i := 15) (by decide +kernel), List.mem_of_getElem? (i := 533) (by decide +kernel), List.mem_of_getElem? (i := 534) (by decide +kernel)⟩
theorem lw_p22 : lw_okq (⟨"JointVentureModel", "goes", "(ZZZ)Z"⟩, 25) := ⟨⟨by decide +kernel, by decide +kernel⟩, List.mem_of_getElem? (i := 551) (by decide +kernel), List.mem_of_getElem? (i := 647) (by decide +kernel), List.mem_of_getElem? (i := 648) (by decide +kernel)⟩
theorem lw_p23 : lw_okq (⟨"JointVentureModel", "isWell", "(I)Z"⟩, 25) := ⟨⟨by decide +kernel, by decide +kernel⟩, List.mem_of_getElem? (i := 551) (by decide +kernel), List.mem_of_getElem? (i := 668) (by decide +kernel), List.mem_of_getElem? (i := 669) (by decide +kernel)⟩
theorem lw_p24 : lw_okq (⟨"JointVentureModel", "hasOthers", "(II)Z"⟩, 25) := ⟨⟨by decide +kernel, by decide +kernel⟩, List.mem_of_getElem? (i := 551) (by decide +kernel), List.mem_of_getElem? (i := 675) (by decide +kernel), List.mem_of_getElem? (i := 676) (by decide +kernel)⟩
theorem lw_p25 : lw_okq (⟨"JointVentureModel", "enters", "(IIZ)I"⟩, 25) := ⟨⟨by decide +kernel, by decide +kernel⟩, List.mem_of_getElem? (i := 551) (by decide +kernel), List.mem_of_getElem? (i := 687) (by decide +kernel), List.mem_of_getElem? (i := 688) (by decide +kernel)⟩
theorem lw_p26 : lw_okq (⟨"JointVentureModel", "isVoucher", "(I)Z"⟩, 25) := ⟨⟨by decide +kernel, by decide +kernel⟩, List.mem_of_getElem? (i := 551) (by decide +kernel), List.mem_of_getElem? (i := 703) (by decide +kernel), List.mem_of_getElem? (i := 704) (by decide +kernel)⟩
theorem lw_p27 : lw_okq (⟨"JointVentureModel", "accounts", "(II)Z"⟩, 25) := ⟨⟨by decide +kernel, by decide +kernel⟩, List.mem_of_getElem? (i := 551) (by decide +kernel), List.mem_of_getElem? (i := 723) (by decide +kernel), List.mem_of_getElem? (i := 724) (by decide +kernel)⟩
theorem lw_p28 : lw_okq (⟨"JointVentureModel", "works", "(I)V"⟩, 25) := ⟨⟨by decide +kernel, by decide +kernel⟩, List.mem_of_getElem? (i := 551) (by decide +kernel), List.mem_of_getElem? (i := 727) (by decide +kernel), List.mem_of_getElem? (i := 728) (by decide +kernel)⟩
theorem lw_p29 : lw_okq (⟨"JointVentureModel", "brings", "(II)V"⟩, 25) := ⟨⟨by decide +kernel, by decide +kernel⟩, List.mem_of_getElem? (i := 551) (by decide +kernel), List.mem_of_getElem? (i := 731) (by decide +kernel), List.mem_of_getElem? (i := 732) (by decide +kernel)⟩
theorem lw_p30 : lw_okq (⟨"JointVentureModel", "owns", "(I)V"⟩, 25) := ⟨⟨by decide +kernel, by decide +kernel⟩, List.mem_of_getElem? (i := 551) (by decide +kernel), List.mem_of_getElem? (i := 735) (by decide +kernel), List.mem_of_getElem? (i := 736) (by decide +kernel)⟩
theorem lw_p31 : lw_okq (⟨"JointVentureModel", "divides", "(J)V"⟩, 25) := ⟨⟨by decide +kernel, by decide +kernel⟩, List.mem_of_getElem? (i := 551) (by decide +kernel), List.mem_of_getElem? (i := 739) (by decide +kernel), List.mem_of_getElem? (i := 740) (by decide +kernel)⟩
def lw_privs_2 : List (MethodName × Nat) := [(⟨"JointVenture", "creditTaken", "(LJointVenture$Well;I)V"⟩, 15), (⟨"JointVenture", "requireVoucher", "(I)V"⟩, 15), (⟨"JointVenture", "accountAnew", "(I)V"⟩, 15), (⟨"JointVenture", "requireCashCall", "(I)V"⟩, 15), (⟨"JointVenture", "moveToPayers", "(LJointVenture$CashCall;I)V"⟩, 15), (⟨"JointVenture", "paidOfAllCalls", "(I)I"⟩, 15), (⟨"JointVentureModel", "goes", "(ZZZ)Z"⟩, 25), (⟨"JointVentureModel", "isWell", "(I)Z"⟩, 25), (⟨"JointVentureModel", "hasOthers", "(II)Z"⟩, 25), (⟨"JointVentureModel", "enters", "(IIZ)I"⟩, 25), (⟨"JointVentureModel", "isVoucher", "(I)Z"⟩, 25), (⟨"JointVentureModel", "accounts", "(II)Z"⟩, 25), (⟨"JointVentureModel", "works", "(I)V"⟩, 25), (⟨"JointVentureModel", "brings", "(II)V"⟩, 25), (⟨"JointVentureModel", "owns", "(I)V"⟩, 25), (⟨"JointVentureModel", "divides", "(J)V"⟩, 25)]
theorem lw_r2 : ∀ q ∈ lw_privs_2, lw_okq q := List.forall_mem_cons.mpr ⟨lw_p16, List.forall_mem_cons.mpr ⟨lw_p17, List.forall_mem_cons.mpr ⟨lw_p18, List.forall_mem_cons.mpr ⟨lw_p19, List.forall_mem_cons.mpr ⟨lw_p20, List.forall_mem_cons.mpr ⟨lw_p21, List.forall_mem_cons.mpr ⟨lw_p22, List.forall_mem_cons.mpr ⟨lw_p23, List.forall_mem_cons.mpr ⟨lw_p24, List.forall_mem_cons.mpr ⟨lw_p25, List.forall_mem_cons.mpr ⟨lw_p26, List.forall_mem_cons.mpr ⟨lw_p27, List.forall_mem_cons.mpr ⟨lw_p28, List.forall_mem_cons.mpr ⟨lw_p29, List.forall_mem_cons.mpr ⟨lw_p30, List.forall_mem_cons.mpr ⟨lw_p31, fun _ h => absurd h List.not_mem_nil⟩⟩⟩⟩⟩⟩⟩⟩⟩⟩⟩⟩⟩⟩⟩⟩
theorem lw_p32 : lw_okq (⟨"JointVentureModel", "dividesAmongIn", "(J)V"⟩, 25) := ⟨⟨by decide +kernel, by decide +kernel⟩, List.mem_of_getElem? (i := 551) (by decide +kernel), List.mem_of_getElem? (i := 743) (by decide +kernel), List.mem_of_getElem? (i := 744) (by decide +kernel)⟩
theorem lw_p33 : lw_okq (⟨"JointVentureModel", "costs", "(II)V"⟩, 25) := ⟨⟨by decide +kernel, by decide +kernel⟩, List.mem_of_getElem? (i := 551) (by decide +kernel), List.mem_of_getElem? (i := 747) (by decide +kernel), List.mem_of_getElem? (i := 748) (by decide +kernel)⟩
theorem lw_p34 : lw_okq (⟨"JointVentureModel", "weighs", "(I)V"⟩, 25) := ⟨⟨by decide +kernel, by decide +kernel⟩, List.mem_of_getElem? (i := 551) (by decide +kernel), List.mem_of_getElem? (i := 773) (by decide +kernel), List.mem_of_getElem? (i := 774) (by decide +kernel)⟩
theorem lw_p35 : lw_okq (⟨"JointVentureModel", "isCall", "(I)Z"⟩, 25) := ⟨⟨by decide +kernel, by decide +kernel⟩, List.mem_of_getElem? (i := 551) (by decide +kernel), List.mem_of_getElem? (i := 785) (by decide +kernel), List.mem_of_getElem? (i := 786) (by decide +kernel)⟩
theorem lw_p36 : lw_okq (⟨"JointVentureModel", "allPaid", "(I)I"⟩, 25) := ⟨⟨by decide +kernel, by decide +kernel⟩, List.mem_of_getElem? (i := 551) (by decide +kernel), List.mem_of_getElem? (i := 801) (by decide +kernel), List.mem_of_getElem? (i := 802) (by decide +kernel)⟩
def lw_privs_3 : List (MethodName × Nat) := [(⟨"JointVentureModel", "dividesAmongIn", "(J)V"⟩, 25), (⟨"JointVentureModel", "costs", "(II)V"⟩, 25), (⟨"JointVentureModel", "weighs", "(I)V"⟩, 25), (⟨"JointVentureModel", "isCall", "(I)Z"⟩, 25), (⟨"JointVentureModel", "allPaid", "(I)I"⟩, 25)]
theorem lw_r3 : ∀ q ∈ lw_privs_3, lw_okq q := List.forall_mem_cons.mpr ⟨lw_p32, List.forall_mem_cons.mpr ⟨lw_p33, List.forall_mem_cons.mpr ⟨lw_p34, List.forall_mem_cons.mpr ⟨lw_p35, List.forall_mem_cons.mpr ⟨lw_p36, fun _ h => absurd h List.not_mem_nil⟩⟩⟩⟩⟩
def lw_privs : List (MethodName × Nat) := lw_privs_1 ++ (lw_privs_2 ++ (lw_privs_3))
def lw_tbl : List Cond := k2_sels lw_privs ++ tables_1
theorem lw_privs_ok : ∀ q ∈ lw_privs, lw_okq q := by
  show ∀ q ∈ lw_privs_1 ++ (lw_privs_2 ++ (lw_privs_3)), lw_okq q
  exact List.forall_mem_append.mpr ⟨lw_r1, List.forall_mem_append.mpr ⟨lw_r2, lw_r3⟩⟩
end
section
/-! ===== BEGIN words of one list among another's, by their places ===== -/
theorem goodIn_r {big : List Cond} (ws : List Cond) (ps : List Nat) (hp : ws = ps.filterMap (fun i => big[i]?)) (h : ws.all goodWord = true) : GoodIn big ws := by
  intro w hw
  have h1 := List.all_eq_true.mp h w hw
  rw [hp] at hw
  obtain ⟨i, -, hi⟩ := List.mem_filterMap.mp hw
  have hm : w ∈ big := by first | exact List.mem_of_getElem? hi | exact List.getElem?_mem hi
  exact ⟨hm, good_of_word h1⟩
theorem goodIn_app {big a b : List Cond} (ha : GoodIn big a) (hb : GoodIn big b) : GoodIn big (a ++ b) := fun w h => (List.mem_append.mp h).elim (ha w) (hb w)
theorem goodIn_ca {big a b : List Cond} {c : Cond} (ha : GoodIn big (c :: a)) (hb : GoodIn big b) : GoodIn big (c :: (a ++ b)) := fun w h => (List.mem_cons.mp h).elim (fun e => ha w (List.mem_cons.mpr (Or.inl e))) (fun h => (List.mem_append.mp h).elim (fun h => ha w (List.mem_cons.mpr (Or.inr h))) (hb w))
theorem goodIn_sub {big ws : List Cond} (hm : ∀ w ∈ ws, w ∈ big) (h : ws.all goodWord = true) : GoodIn big ws := fun w hw => ⟨hm w hw, good_of_word (List.all_eq_true.mp h w hw)⟩
/-! ===== END ===== -/

/-! ===== BEGIN exceptions that leave a method, and their catching by the caller (launches without stack traces) ===== -/
section VXA
/-! The laws vx_back, vx_callV, vx_callS, vx_callSW, vx_throw0, vx_throwS follow proofs of the library, with one case more: JvmDerived/Free/Laws.lean (Back.of_free), Shelf42/LK1.lean (callV, callS), Shelf/KitTraced.lean (throwNew0V, throwNewS). -/
/-- where a method has thrown q: the class by its name, the cell, what was written, the world -/
def vx_T (XC : String → State → State → Prop) (st : State) (q : Addr) (t : State) (mc ms : Nat) (free : Addr → Prop) : Prop :=
  ∃ (E : String) (ce : Cell) (L : List Loc), XC E st t ∧ t.heap[q]? = some ce ∧ ce.vm = .none ∧ st.vm.findClass E = some ce.cls ∧ st.WarmedH t.vm ∧ st.sameButNew ({ t with vm := st.vm } : State) L mc ms ∧ ∀ z ∈ L, free z.base
def vx_Q (Qc : Array Value → State → Outcome → State → Prop) (XC : String → State → State → Prop) (mc ms : Nat) (free : Addr → Prop) : Array Value → State → Outcome → State → Prop := fun a st o t =>
  (Qc a st o t ∧ ∃ L, FrameEnd st o t L mc ms ∧ ∀ q ∈ L, free q.base) ∨ ∃ q, o = .threw q ∧ vx_T XC st q t mc ms free
/-- a callee that returns or throws -/
def vx_Met (l : Launch) (y : MethodName) (ws : List Cond) (rm : Room) (Pc : Array Value → State → Prop) (Qc : Array Value → State → Outcome → State → Prop) (XC : String → State → State → Prop) (mc ms : Nat) (free : Addr → Prop) : Prop :=
  MetFree l y (headSpec ws rm) Pc (fun _ _ _ _ _ => True) (vx_Q Qc XC mc ms free)
def vx_Post (XC : String → State → State → Prop) (mc ms : Nat) (free : Addr → Prop) : Pt → Array Value → Addr → Pt → Prop := fun A a q B =>
  ∃ (g : JFrame) (mk : MethodId) (t : State) (L : List Loc) (E : String) (ce : Cell), B.U.heap = t.heap ∧ B.U.vm = t.vm ∧ XC E (A.U.calling g mk a) t ∧ t.heap[q]? = some ce ∧ ce.vm = .none ∧ A.U.vm.findClass E = some ce.cls ∧ B.locs = A.locs ++ L ∧ (∀ z ∈ L, free z.base) ∧ B.cells = A.cells + mc ∧ B.slots = A.slots + ms
def vx_Back (l : Launch) (R : Room) (p : Program) (e : Env) (below : List Frame) (s : State) (sargs : Array Value) (y : MethodName) (len W9 : Nat)
    (Pre : Pt → Array Value → Prop) (Post : Pt → Array Value → Option Value → Pt → Prop) (PostX : Pt → Array Value → Addr → Pt → Prop) : Prop :=
  ∀ (m : MethodId) (meth : Method) (c : Code) (A : Pt) (g : JFrame) (ig : Instr) (mk : MethodId) (a : Array Value),
    Stand p l e R s m sargs below meth c A.U A.locs A.cells A.slots → g.method = m → g.locals.size = c.maxLocals → decode c.code g.pc = .ok (ig, len) →
    2 * g.monitorRoom + (g.stack.map fun v => v.category).sum ≤ W9 → A.U.methodNamed? y = some mk → Pre A a →
    (∃ (v : Option Value) (B : Pt), Stand p l e R s m sargs below meth c B.U B.locs B.cells B.slots ∧ Post A a v B ∧
      Steps p.tables e below (doInvoke e (A.U.setTop g) [] mk a).1 (B.U.setTop { g with pc := g.pc + len, stack := v.toList ++ g.stack })) ∨
    (∃ (q : Addr) (B : Pt), Stand p l e R s m sargs below meth c B.U B.locs B.cells B.slots ∧ PostX A a q B ∧
      Steps p.tables e below (doInvoke e (A.U.setTop g) [] mk a).1 ((B.U.setTop g).pushFrame (.throwing q)))
section Payer
variable {l : Launch} {R : Room} {p : Program} {e : Env} {below : List Frame} {s : State} {sargs : Array Value} {y : MethodName} {len W9 : Nat}
theorem vx_back {ws : List Cond} {rm : Room} {Pc : Array Value → State → Prop} {Qc : Array Value → State → Outcome → State → Prop} {XC : String → State → State → Prop} {mc ms : Nat} {free : Addr → Prop} {bytes : ByteArray} {maxL : Nat} {ret : Option FieldType}
    (hM : vx_Met l y ws rm Pc Qc XC mc ms free) (hblind : FrameBlind Pc) (hrc : rm.cells = mc) (hrs : rm.slots = ms)
    (hframes : rm.frames + 1 ≤ R.frames) (hlocals : W9 + (maxL + 11) + rm.locals ≤ R.locals)
    (hws : ∀ w ∈ ws, ∀ a' U, s.WarmedH U.vm → w.before a' U = true) (hcode : Cond.code y bytes maxL ret ∈ ws) (hinit : ∀ a' U, s.WarmedH U.vm → (Cond.initialized y.cls).before a' U = true) :
    vx_Back l R p e below s sargs y len W9 (PreOf R mc ms Pc) (PostOf Qc mc ms free) (vx_Post XC mc ms free) := by
  intro m meth c A g ig mk a X hg hsize hdg hW hn hp
  have h1 : (headSpec ws rm).pre.before a A.U = true := atoms_intro fun w hw => hws w hw _ _ X.warmed
  have h2 : (Cond.code y bytes maxL ret).before a A.U = true := hws _ hcode _ _ X.warmed
  have h3 : (Cond.initialized y.cls).before a A.U = true := hinit _ _ X.warmed
  have h4 : A.cells + (headSpec ws rm).room.cells ≤ R.cells := by rw [show (headSpec ws rm).room.cells = mc from hrc]; exact hp.1
  have h5 : A.slots + (headSpec ws rm).room.slots ≤ R.slots := by rw [show (headSpec ws rm).room.slots = ms from hrs]; exact hp.2.1
  have hPc : Pc a (A.U.calling g mk a) := hblind _ _ _ _ hp.2.2
  obtain ⟨U, Ls, c0, s0⟩ := A
  dsimp only [Pt.U, Pt.locs, Pt.cells, Pt.slots] at h1 h2 h3 h4 h5 X hn hPc ⊢
  obtain ⟨methY, cY, hmY, hcY, -, hlY, -, -, -, -⟩ := Cond.code_spec hn h2
  obtain ⟨kY, hkY, -⟩ := className_of_methodNamed hn
  have hinitY : kY.init = .initialized := Cond.initialized_spec (findClass_of_methodNamed hn) hkY h3
  have h : At U g.method c below := by rw [hg]; exact X.here
  have hlocals9 : W9 + (maxL + 11) + (headSpec ws rm).room.locals ≤ R.locals := hlocals
  have happ : (headSpec ws rm).appliesLoose y e.platform (U.calling g mk a) = true :=
    Spec.appliesLoose_calling (g := g) h hdg hn hkY hinitY
      (X.room_calling (g := g) (R' := (headSpec ws rm).room) hsize hmY hcY hframes (by rw [hlY]; omega) h4 h5) h1
  obtain ⟨mid, hmid⟩ := h.above
  have hfr : (U.setTop g).frames = (.java g :: mid) ++ below := by rw [State.frames_setTop' g h.top, hmid]; rfl
  obtain ⟨o, s₂, hsteps, -, hend, hq⟩ := Steps.callFree hM p X.admits X.cas X.clock (acts := []) hfr happ hPc trivial
  have hq' : vx_Q Qc XC mc ms free a (U.calling g mk a) o s₂ := hq
  rw [State.frames_setTop' g h.top] at hend
  obtain ⟨g₀, hg0⟩ := Option.isSome_iff_exists.mp h.top
  obtain ⟨r, hr⟩ := State.topJava?_eq_some.mp hg0
  have hr' : (({ U with heap := s₂.heap, slotsUsed := s₂.slotsUsed } : State).setVm s₂.vm).frames = .java g₀ :: r := hr
  rcases hq' with ⟨hqc, L, hfe, hL⟩ | ⟨q, rfl, E, ce, L, hx, hce, hcv, hcl, hW₂, hsm, hL⟩
  · obtain ⟨⟨v, rfl⟩, hW₂, e2, q2, q3, q4, q5, q6⟩ := id hfe
    have e3 : s₂ = ({ (U.calling g mk a).setFrames s₂.frames with heap := s₂.heap, slotsUsed := s₂.slotsUsed } : State).setVm s₂.vm := by
      have : s₂ = ({ s₂ with vm := (U.calling g mk a).vm } : State).setVm s₂.vm := rfl
      rw [e2] at this
      exact this
    obtain ⟨c₂, i₂, len₂, hc₂, hd₂, hf₂⟩ := hend
    have hW' : U.WarmedH s₂.vm := hW₂
    have hcc : c₂ = c := by
      have h1 : s₂.code? g.method = U.code? g.method := by
        rw [State.code?_eq, State.code?_eq, hW'.alike.method?]
      exact Option.some.inj (hc₂.symm.trans (h1.trans h.code))
    subst hcc
    have hlen : len₂ = len := by rw [hdg] at hd₂; cases hd₂; rfl
    subst hlen
    have hs₂ : s₂ = (({ U with heap := s₂.heap, slotsUsed := s₂.slotsUsed } : State).setVm s₂.vm).setTop { g with pc := g.pc + len₂, stack := v.toList ++ g.stack } := by
      refine e3.trans ?_
      rw [hf₂, State.calling_eq h.top, State.setFrames_setFrames, State.setTop_of_frames _ hr', hr]
      rfl
    have hsame : U.sameButNew ({ U with heap := s₂.heap, slotsUsed := s₂.slotsUsed } : State) L mc ms := by
      refine ⟨?_, q2, q3, q4, q5, q6⟩
      obtain ⟨t, ht, -⟩ := State.frames_cons hr
      show ({ U with heap := s₂.heap, slotsUsed := s₂.slotsUsed } : State) = { U.setFrames U.frames with heap := s₂.heap, slotsUsed := s₂.slotsUsed }
      rw [State.setFrames_self ht]
    subst hg
    refine Or.inl ⟨v, ⟨(({ U with heap := s₂.heap, slotsUsed := s₂.slotsUsed } : State).setVm s₂.vm), Ls ++ L, c0 + mc, s0 + ms⟩,
      ⟨X.admits, X.cas, X.clock, X.frames, X.room, X.hears, X.method, X.code, (X.here.setHeapUsed s₂.heap s₂.slotsUsed).setVm hW'.alike, X.tail, State.WarmedH.trans X.warmed hW', X.limits, X.bytes, X.same.trans (hsame.setVm s.vm)⟩,
      ⟨g, mk, s₂, L, rfl, rfl, hqc, rfl, hL, rfl, rfl⟩, ?_⟩
    show Steps p.tables e below _ ((({ U with heap := s₂.heap, slotsUsed := s₂.slotsUsed } : State).setVm s₂.vm).setTop { g with pc := g.pc + len₂, stack := v.toList ++ g.stack })
    rw [← hs₂]
    exact hsteps
  · obtain ⟨e2, q2, q3, q4, q5, q6⟩ := id hsm
    have e3 : s₂ = ({ (U.calling g mk a).setFrames s₂.frames with heap := s₂.heap, slotsUsed := s₂.slotsUsed } : State).setVm s₂.vm := by
      have : s₂ = ({ s₂ with vm := (U.calling g mk a).vm } : State).setVm s₂.vm := rfl
      rw [e2] at this
      exact this
    have hf₂ : s₂.frames = .throwing q :: .java g :: U.frames.tail := hend
    have hW' : U.WarmedH s₂.vm := hW₂
    have hs₂ : s₂ = ((({ U with heap := s₂.heap, slotsUsed := s₂.slotsUsed } : State).setVm s₂.vm).setTop g).pushFrame (.throwing q) := by
      refine e3.trans ?_
      rw [hf₂, State.calling_eq h.top, State.setFrames_setFrames, State.pushFrame, State.frames_setTop _ hr', State.setTop_of_frames _ hr', State.setFrames_setFrames, hr]
      rfl
    have hsame : U.sameButNew ({ U with heap := s₂.heap, slotsUsed := s₂.slotsUsed } : State) L mc ms := by
      refine ⟨?_, q2, q3, q4, q5, q6⟩
      obtain ⟨t, ht, -⟩ := State.frames_cons hr
      show ({ U with heap := s₂.heap, slotsUsed := s₂.slotsUsed } : State) = { U.setFrames U.frames with heap := s₂.heap, slotsUsed := s₂.slotsUsed }
      rw [State.setFrames_self ht]
    subst hg
    refine Or.inr ⟨q, ⟨(({ U with heap := s₂.heap, slotsUsed := s₂.slotsUsed } : State).setVm s₂.vm), Ls ++ L, c0 + mc, s0 + ms⟩,
      ⟨X.admits, X.cas, X.clock, X.frames, X.room, X.hears, X.method, X.code, (X.here.setHeapUsed s₂.heap s₂.slotsUsed).setVm hW'.alike, X.tail, State.WarmedH.trans X.warmed hW', X.limits, X.bytes, X.same.trans (hsame.setVm s.vm)⟩,
      ⟨g, mk, s₂, L, E, ce, rfl, rfl, hx, hce, hcv, hcl, rfl, hL, rfl, rfl⟩, ?_⟩
    show Steps p.tables e below _ (((({ U with heap := s₂.heap, slotsUsed := s₂.slotsUsed } : State).setVm s₂.vm).setTop g).pushFrame (.throwing q))
    rw [← hs₂]
    exact hsteps
end Payer
section Calls
variable {p : Program} {l : Launch} {e : Env} {R : Room} {s : State} {m : MethodId} {args : Array Value} {below : List Frame} {meth : Method} {c : Code} {T : State} {locs : List Loc} {cells slots : Nat}
theorem vx_callV (X : Stand p l e R s m args below meth c T locs cells slots) (hexec : p.tables.exec = Jvm.exec) {own C : String} {index : Nat} {y : MethodName} {bytes : ByteArray} {maxL : Nat} {ret : Option FieldType}
    (hown : s.vm.findClass own = some m.cls) (hlink : (Cond.methodLink own index y).before args s = true) (hinst : (Cond.instanceMethod y).before args s = true) (hsel : (Cond.selects C y y).before args s = true)
    (hcode : (Cond.code y bytes maxL ret).before args s = true) (hy : y.cls ≠ "java/lang/invoke/MethodHandle" ∧ y.cls ≠ "java/lang/invoke/VarHandle")
    {W9 : Nat} {Pre : Pt → Array Value → Prop} {Post : Pt → Array Value → Option Value → Pt → Prop} {PostX : Pt → Array Value → Addr → Pt → Prop} (hK : vx_Back l R p e below s args y 3 W9 Pre Post PostX)
    {b : Addr} {cellB : Cell} (hcell : T.heap[b]? = some cellB) (hobj : cellB.vm.isStatics = false) (hcls : s.vm.findClass C = some cellB.cls)
    {g : JFrame} (hg : g.method = m) (hsize : g.locals.size = c.maxLocals) {argsL rest : List Value} (hlen : ∀ sig, parseMethodDescriptor y.desc = some sig → argsL.length = sig.parameters.length)
    (hstack : g.stack = argsL.reverse ++ .ref b :: rest) (hW : 2 * g.monitorRoom + (rest.map fun v => v.category).sum ≤ W9) (hdg : decode c.code g.pc = .ok (.invokevirtual index, 3))
    (hpre : ∀ vm₁, s.WarmedH vm₁ → Pre ⟨T.setVm vm₁, locs, cells, slots⟩ (Value.ref b :: argsL).toArray) :
    (∃ (v : Option Value) (vm₁ : Vm) (B : Pt), s.WarmedH vm₁ ∧ Stand p l e R s m args below meth c B.U B.locs B.cells B.slots ∧ Post ⟨T.setVm vm₁, locs, cells, slots⟩ (Value.ref b :: argsL).toArray v B ∧
      ∀ target, Steps p.tables e below (B.U.setTop { g with pc := g.pc + 3, stack := v.toList ++ rest }) target → Steps p.tables e below (T.setTop g) target) ∨
    (∃ (q : Addr) (vm₁ : Vm) (B : Pt), s.WarmedH vm₁ ∧ Stand p l e R s m args below meth c B.U B.locs B.cells B.slots ∧ PostX ⟨T.setVm vm₁, locs, cells, slots⟩ (Value.ref b :: argsL).toArray q B ∧
      Steps p.tables e below (T.setTop g) ((B.U.setTop { g with stack := rest }).pushFrame (.throwing q))) := by
  obtain ⟨mk, methM, hnamed, hmethM, hstM, habM⟩ := Cond.instanceMethod_spec hinst
  obtain ⟨methM', cM, hmethM', -, -, -, -, -, -, hsigM⟩ := Cond.code_spec hnamed hcode
  cases hmethM.symm.trans hmethM'
  obtain ⟨c2, r2, m2, q1, q2, q3, q4, kP, hkP, hkPi⟩ := Cond.selects_spec hsel
  cases hcls.symm.trans q1
  cases (State.methodFound?_of_named hnamed hy).symm.trans q2
  cases hnamed.symm.trans q3
  have hselP : selectMethod e.platform s.vm cellB.cls mk = .method mk := by rw [Launch.admits_selectMethod X.admits]; exact q4
  obtain ⟨vm₁, X₁, hstep₁⟩ := X.invokevirtual hexec hown hlink hnamed hmethM hstM hkP hkPi hy (a := b) (cell := cellB) hcell
    (fun z h => by rw [h] at hobj; cases hobj) hselP hmethM habM hkP hkPi (g := g) hg (argsL := argsL) (rest := rest) (hlen _ hsigM) hstack hdg
  rcases hK m meth c ⟨T.setVm vm₁, locs, cells, slots⟩ { g with stack := rest } (.invokevirtual index) mk (Value.ref b :: argsL).toArray X₁ hg hsize hdg hW (X₁.named hnamed) (hpre vm₁ X₁.warmed) with ⟨v, B, X', hpost, hsteps⟩ | ⟨q, B, X', hpost, hsteps⟩
  · exact Or.inl ⟨v, vm₁, B, X₁.warmed, X', hpost, fun target h => hstep₁ _ fun acts => by rw [doInvoke_state]; exact hsteps.trans h⟩
  · exact Or.inr ⟨q, vm₁, B, X₁.warmed, X', hpost, hstep₁ _ fun acts => by rw [doInvoke_state]; exact hsteps⟩
theorem vx_callS (X : Stand p l e R s m args below meth c T locs cells slots) (hexec : p.tables.exec = Jvm.exec) {own : String} {index : Nat} {y : MethodName} {bytes : ByteArray} {maxL : Nat} {ret : Option FieldType}
    (hown : s.vm.findClass own = some m.cls) (hlink : (Cond.methodLink own index y).before args s = true) (hstat : (Cond.static y).before args s = true) (hinit : (Cond.initialized y.cls).before args s = true)
    (hcode : (Cond.code y bytes maxL ret).before args s = true) (hy : y.cls ≠ "java/lang/invoke/MethodHandle" ∧ y.cls ≠ "java/lang/invoke/VarHandle")
    {W9 : Nat} {Pre : Pt → Array Value → Prop} {Post : Pt → Array Value → Option Value → Pt → Prop} {PostX : Pt → Array Value → Addr → Pt → Prop} (hK : vx_Back l R p e below s args y 3 W9 Pre Post PostX)
    {g : JFrame} (hg : g.method = m) (hsize : g.locals.size = c.maxLocals) {argsL rest : List Value} (hlen : ∀ sig, parseMethodDescriptor y.desc = some sig → argsL.length = sig.parameters.length)
    (hstack : g.stack = argsL.reverse ++ rest) (hW : 2 * g.monitorRoom + (rest.map fun v => v.category).sum ≤ W9) (hdg : decode c.code g.pc = .ok (.invokestatic index, 3))
    (hpre : ∀ vm₁, s.WarmedH vm₁ → Pre ⟨T.setVm vm₁, locs, cells, slots⟩ argsL.toArray) :
    (∃ (v : Option Value) (vm₁ : Vm) (B : Pt), s.WarmedH vm₁ ∧ Stand p l e R s m args below meth c B.U B.locs B.cells B.slots ∧ Post ⟨T.setVm vm₁, locs, cells, slots⟩ argsL.toArray v B ∧
      ∀ target, Steps p.tables e below (B.U.setTop { g with pc := g.pc + 3, stack := v.toList ++ rest }) target → Steps p.tables e below (T.setTop g) target) ∨
    (∃ (q : Addr) (vm₁ : Vm) (B : Pt), s.WarmedH vm₁ ∧ Stand p l e R s m args below meth c B.U B.locs B.cells B.slots ∧ PostX ⟨T.setVm vm₁, locs, cells, slots⟩ argsL.toArray q B ∧
      Steps p.tables e below (T.setTop g) ((B.U.setTop { g with stack := rest }).pushFrame (.throwing q))) := by
  obtain ⟨mk, hnamed⟩ := Cond.code_named hcode
  obtain ⟨methM, cM, hmethM, -, -, -, -, -, -, hsigM⟩ := Cond.code_spec hnamed hcode
  have hstatic : methM.isStatic = true := Cond.static_spec hnamed hmethM hstat
  obtain ⟨kP, hkP, -⟩ := className_of_methodNamed hnamed
  have hinitP : kP.init = .initialized := Cond.initialized_spec (findClass_of_methodNamed hnamed) hkP hinit
  obtain ⟨vm₁, X₁, hstep₁⟩ := X.invokestatic hexec hown hlink hnamed hmethM hstatic hkP hinitP hy (g := g) hg (argsL := argsL) (rest := rest) (hlen _ hsigM) hstack hdg
  rcases hK m meth c ⟨T.setVm vm₁, locs, cells, slots⟩ { g with stack := rest } (.invokestatic index) mk argsL.toArray X₁ hg hsize hdg hW (X₁.named hnamed) (hpre vm₁ X₁.warmed) with ⟨v, B, X', hpost, hsteps⟩ | ⟨q, B, X', hpost, hsteps⟩
  · exact Or.inl ⟨v, vm₁, B, X₁.warmed, X', hpost, fun target h => hstep₁ _ fun acts => by rw [doInvoke_state]; exact hsteps.trans h⟩
  · exact Or.inr ⟨q, vm₁, B, X₁.warmed, X', hpost, hstep₁ _ fun acts => by rw [doInvoke_state]; exact hsteps⟩
end Calls
theorem vx_cls {s : State} {T : State} {vm₁ : Vm} {E : String} {k : ClassId} (hW : s.WarmedH vm₁) (h : (T.setVm vm₁).vm.findClass E = some k) : s.vm.findClass E = some k := by
  have h1 : vm₁.findClass E = some k := h
  rw [hW.alike.findClass] at h1
  exact h1
/-- the method's frame g, with q thrown over it -/
def vx_W (p : Program) (l : Launch) (e : Env) (R : Room) (s : State) (m : MethodId) (args : Array Value) (below : List Frame) (meth : Method) (c : Code) (H : Heap) (locs : List Loc) (cells slots : Nat) (Q : State → Prop) (g : JFrame) (q : Addr) : Prop :=
  ∀ T : State, T.heap = H → Stand p l e R s m args below meth c T locs cells slots → ∃ t, Steps p.tables e below ((T.setTop g).pushFrame (.throwing q)) t ∧ Q t
def vx_Run (p : Program) (l : Launch) (e : Env) (R : Room) (s : State) (m : MethodId) (args : Array Value) (below : List Frame) (meth : Method) (c : Code) (H : Heap) (locs : List Loc) (cells slots mc ms : Nat) (g : JFrame) (rest : List Value) (Qa : State → Outcome → State → Prop) (XC : String → State → State → Prop) (free : Addr → Prop) : Prop :=
  ∀ T : State, T.heap = H → Stand p l e R s m args below meth c T locs cells slots →
    (∃ (v : Option Value) (st₀ t T' : State) (L : List Loc), st₀.heap = H ∧ Stand p l e R s m args below meth c T' (locs ++ L) (cells + mc) (slots + ms) ∧ (∀ q ∈ L, free q.base) ∧ T'.heap = t.heap ∧ T'.vm = t.vm ∧ Qa st₀ (.returned v) t ∧
      Goes p e below T g T' { g with pc := g.pc + 3, stack := v.toList ++ rest }) ∨
    (∃ (q : Addr) (st₀ t T' : State) (L : List Loc) (E : String) (ce : Cell), st₀.heap = H ∧ Stand p l e R s m args below meth c T' (locs ++ L) (cells + mc) (slots + ms) ∧ (∀ z ∈ L, free z.base) ∧ T'.heap = t.heap ∧ T'.vm = t.vm ∧ XC E st₀ t ∧ t.heap[q]? = some ce ∧ ce.vm = .none ∧ s.vm.findClass E = some ce.cls ∧
      Steps p.tables e below (T.setTop g) ((T'.setTop { g with stack := rest }).pushFrame (.throwing q)))
def vx_X {S : Type} (px : S → Prop) (B : String → S → State → Prop) (A : Nat → Prop) : String → State → State → Prop := fun E st t => ∃ u : S, px u ∧ B E u t ∧ va_F A st t
section Runs
variable {p : Program} {l : Launch} {e : Env} {R : Room} {s : State} {m : MethodId} {args : Array Value} {below : List Frame} {meth : Method} {c : Code} {H : Heap} {locs : List Loc} {cells slots : Nat}
variable {y : MethodName} {bytes cc : ByteArray} {maxL nL mc ms n index : Nat} {ret : Option FieldType} {ws : List Cond} {rm : Room} {Pc : Array Value → State → Prop} {Qc : Array Value → State → Outcome → State → Prop} {XC : String → State → State → Prop} {free : Addr → Prop} {Ts : List Cond} {own C : String} {b : Addr} {As rest : List Value} {g : JFrame}
theorem vx_callBack (cb : CallB R s args own index y bytes maxL ret ws rm mc ms n) (hM : vx_Met l y ws rm Pc Qc XC mc ms free) (hbl : FrameBlind Pc) : vx_Back l R p e below s args y 3 8 (PreOf R mc ms Pc) (PostOf Qc mc ms free) (vx_Post XC mc ms free) := by
  obtain ⟨hrc, hrs, hfr, hlo, hws, hcw, -, hini, -⟩ := cb
  exact vx_back (bytes := bytes) (maxL := maxL) (ret := ret) hM hbl hrc hrs hfr hlo hws hcw (fun a' U hW => word_at hW (Or.inl (by first | rfl | simp [Cond.onTables, Cond.keeps, Cond.steady])) hini)
theorem vx_runV (S : CallFix p m c cc nL s args Ts own) (hM : vx_Met l y ws rm Pc Qc XC mc ms free) (cw : CallW R s args own C index y bytes maxL ret ws rm mc ms n) (hp : PreV s H C b Pc As)
    (hg : g.method = m) (hn : As.length = n) (hsize : g.locals.size = nL) (hstack : g.stack = As.reverse ++ .ref b :: rest) (hW : 2 * g.monitorRoom + (rest.map fun v => v.category).sum ≤ 8) (hdg : decode cc g.pc = .ok (.invokevirtual index, 3)) (hf : cells + mc ≤ R.cells ∧ slots + ms ≤ R.slots) :
    vx_Run p l e R s m args below meth c H locs cells slots mc ms g rest (Qc (Value.ref b :: As).toArray) XC free := by
  have hK : vx_Back l R p e below s args y 3 8 (PreOf R mc ms Pc) (PostOf Qc mc ms free) (vx_Post XC mc ms free) := vx_callBack cw.1 hM hp.1
  obtain ⟨⟨-, -, -, -, -, -, hcode, -, hy, hlen, hl⟩, hin, hse⟩ := cw
  obtain ⟨hx, hb, hml, ho, -⟩ := S
  obtain ⟨-, ⟨cellB, hcB, hoB, hclB⟩, hPc⟩ := hp
  intro T hT X
  rcases vx_callV X hx (C := C) (bytes := bytes) (maxL := maxL) (ret := ret) ho hl hin hse hcode hy hK (by rw [hT]; exact hcB) hoB hclB hg (hsize.trans hml.symm) (argsL := As) (rest := rest) (fun sig h => hn.trans (hlen sig h)) hstack hW (by rw [hb]; exact hdg)
    (fun vm₁ hW₁ => ⟨hf.1, hf.2, hPc (T.setVm vm₁) hT hW₁⟩) with ⟨v, vm₁, ⟨U', l2, c2, s2⟩, hW₁, X', ⟨g', mk, t, L, e1, e2, hq, h1, hL, h2, h3⟩, st⟩ | ⟨q, vm₁, ⟨U', l2, c2, s2⟩, hW₁, X', ⟨g', mk, t, L, E, ce, e1, e2, hq, hce, hcv, hcl, h1, hL, h2, h3⟩, st⟩
  · dsimp only [Pt.U, Pt.locs, Pt.cells, Pt.slots] at X' e1 e2 h1 h2 h3 st
    subst h1; subst h2; subst h3
    exact Or.inl ⟨v, (T.setVm vm₁).calling g' mk (Value.ref b :: As).toArray, t, U', L, hT, X', hL, e1, e2, hq, st⟩
  · dsimp only [Pt.U, Pt.locs, Pt.cells, Pt.slots] at X' e1 e2 h1 h2 h3 st hcl
    subst h1; subst h2; subst h3
    exact Or.inr ⟨q, (T.setVm vm₁).calling g' mk (Value.ref b :: As).toArray, t, U', L, E, ce, hT, X', hL, e1, e2, hq, hce, hcv, vx_cls hW₁ hcl, st⟩
theorem vx_runS (S : CallFix p m c cc nL s args Ts own) (hM : vx_Met l y ws rm Pc Qc XC mc ms free) (cw : CallB R s args own index y bytes maxL ret ws rm mc ms n ∧ (Cond.static y).before args s = true) (hp : PreS s H Pc As)
    (hg : g.method = m) (hn : As.length = n) (hsize : g.locals.size = nL) (hstack : g.stack = As.reverse ++ rest) (hW : 2 * g.monitorRoom + (rest.map fun v => v.category).sum ≤ 8) (hdg : decode cc g.pc = .ok (.invokestatic index, 3)) (hf : cells + mc ≤ R.cells ∧ slots + ms ≤ R.slots) :
    vx_Run p l e R s m args below meth c H locs cells slots mc ms g rest (Qc As.toArray) XC free := by
  have hK : vx_Back l R p e below s args y 3 8 (PreOf R mc ms Pc) (PostOf Qc mc ms free) (vx_Post XC mc ms free) := vx_callBack cw.1 hM hp.1
  obtain ⟨⟨-, -, -, -, -, -, hcode, hini, hy, hlen, hl⟩, hstt⟩ := cw
  obtain ⟨hx, hb, hml, ho, -⟩ := S
  intro T hT X
  rcases vx_callS X hx (bytes := bytes) (maxL := maxL) (ret := ret) ho hl hstt hini hcode hy hK hg (hsize.trans hml.symm) (argsL := As) (rest := rest) (fun sig h => hn.trans (hlen sig h)) hstack hW (by rw [hb]; exact hdg)
    (fun vm₁ hW₁ => ⟨hf.1, hf.2, hp.2 (T.setVm vm₁) hT hW₁⟩) with ⟨v, vm₁, ⟨U', l2, c2, s2⟩, hW₁, X', ⟨g', mk, t, L, e1, e2, hq, h1, hL, h2, h3⟩, st⟩ | ⟨q, vm₁, ⟨U', l2, c2, s2⟩, hW₁, X', ⟨g', mk, t, L, E, ce, e1, e2, hq, hce, hcv, hcl, h1, hL, h2, h3⟩, st⟩
  · dsimp only [Pt.U, Pt.locs, Pt.cells, Pt.slots] at X' e1 e2 h1 h2 h3 st
    subst h1; subst h2; subst h3
    exact Or.inl ⟨v, (T.setVm vm₁).calling g' mk As.toArray, t, U', L, hT, X', hL, e1, e2, hq, st⟩
  · dsimp only [Pt.U, Pt.locs, Pt.cells, Pt.slots] at X' e1 e2 h1 h2 h3 st hcl
    subst h1; subst h2; subst h3
    exact Or.inr ⟨q, (T.setVm vm₁).calling g' mk As.toArray, t, U', L, E, ce, hT, X', hL, e1, e2, hq, hce, hcv, vx_cls hW₁ hcl, st⟩
end Runs
section Rows
variable {p : Program} {l : Launch} {e : Env} {R : Room} {s : State} {m : MethodId} {args : Array Value} {below : List Frame} {meth : Method} {c : Code} {H : Heap} {locs : List Loc} {cells slots : Nat} {Q : State → Prop}
variable {mc ms : Nat} {free : Addr → Prop} {A0 A1 : Nat → Prop} {H0 : Heap} {a : Array Value} {pc : Nat} {ls : Array Slot} {st0 rest : List Value}
theorem vx_keep {st₀ t T' : State} {L : List Loc} (h0 : st₀.heap = H) (e1 : T'.heap = t.heap) (hS : va_S A0 H0 H locs) (hA : ∀ q, q < H.size → A1 q → A0 q) (hf : ∀ q, free q → A0 q) (hL : ∀ q ∈ L, free q.base) (hF : va_F A1 st₀ t) :
    H.size ≤ T'.heap.size ∧ (∀ q : Nat, q < H.size → ¬ A1 q → T'.heap[q]? = H[q]?) ∧ va_S A0 H0 T'.heap (locs ++ L) := by
  obtain ⟨hz, hk⟩ := hF
  rw [h0] at hz hk
  exact ⟨by rw [e1]; exact hz, fun q h1 h2 => by rw [e1]; exact hk q h1 h2,
    ⟨Nat.le_trans hS.1 (by rw [e1]; exact hz), fun q h1 h2 => by rw [e1, hk q (Nat.lt_of_lt_of_le h1 hS.1) (fun z => h2 (hA q (Nat.lt_of_lt_of_le h1 hS.1) z))]; exact hS.2.1 q h1 h2, fun q hq => by
      rcases List.mem_append.mp hq with h | h
      · exact hS.2.2 q h
      · exact hf _ (hL q h)⟩⟩
theorem vx_calli {S SX : Type} {post : Int32 → S → Prop} {px : SX → Prop} {B : S → State → Prop} {BX : String → SX → State → Prop} {AX : Nat → Prop} (hr : vx_Run p l e R s m args below meth c H locs cells slots mc ms (F0 m pc ls st0) rest (va_Qi post B A1 a) (vx_X px BX AX) free) (hS : va_S A0 H0 H locs) (hA : ∀ q, q < H.size → A1 q → A0 q) (hf : ∀ q, free q → A0 q) (hAX : ∀ q, q < H.size → AX q → A0 q)
    (kx : ∀ (E : String) (ce : Cell) (q9 : Addr) (u : SX) (t : State) (H1 : Heap) (locs1 : List Loc), t.heap = H1 → s.vm.Alike t.vm → px u → BX E u t → H.size ≤ H1.size → (∀ q : Nat, q < H.size → ¬ AX q → H1[q]? = H[q]?) → va_S A0 H0 H1 locs1 → H1[q9]? = some ce → ce.vm = .none → s.vm.findClass E = some ce.cls → vx_W p l e R s m args below meth c H1 locs1 (cells + mc) (slots + ms) Q (F0 m pc ls rest) q9)
    (kk : ∀ (r : Int32) (u : S) (t : State) (H1 : Heap) (locs1 : List Loc), t.heap = H1 → s.vm.Alike t.vm → post r u → B u t → H.size ≤ H1.size → (∀ q : Nat, q < H.size → ¬ A1 q → H1[q]? = H[q]?) → va_S A0 H0 H1 locs1 → W p l e R s m args below meth c H1 locs1 (cells + mc) (slots + ms) Q (F0 m (pc + 3) ls (.int r :: rest))) : W p l e R s m args below meth c H locs cells slots Q (F0 m pc ls st0) := by
  intro T hT X
  rcases hr T hT X with ⟨v, st₀, t, T', L, h0, X', hL, e1, e2, ⟨⟨r, u, hv, hp, hb⟩, hF⟩, st⟩ | ⟨q, st₀, t, T', L, E, ce, h0, X', hL, e1, e2, ⟨u, hp, hb, hF⟩, hce, hcv, hcl, st⟩
  · cases hv
    obtain ⟨k1, k2, k3⟩ := vx_keep h0 e1 hS hA hf hL hF
    obtain ⟨t2, a1, b1⟩ := kk r u t T'.heap (locs ++ L) e1.symm (by rw [← e2]; exact X'.warmed.alike) hp hb k1 k2 k3 T' rfl X'
    exact ⟨t2, st t2 a1, b1⟩
  · obtain ⟨k1, k2, k3⟩ := vx_keep h0 e1 hS hAX hf hL hF
    obtain ⟨t2, a1, b1⟩ := kx E ce q u t T'.heap (locs ++ L) e1.symm (by rw [← e2]; exact X'.warmed.alike) hp hb k1 k2 k3 (by rw [e1]; exact hce) hcv hcl T' rfl X'
    exact ⟨t2, st.trans a1, b1⟩
theorem vx_calll {S SX : Type} {post : Int64 → S → Prop} {px : SX → Prop} {B : S → State → Prop} {BX : String → SX → State → Prop} {AX : Nat → Prop} (hr : vx_Run p l e R s m args below meth c H locs cells slots mc ms (F0 m pc ls st0) rest (va_Ql post B A1 a) (vx_X px BX AX) free) (hS : va_S A0 H0 H locs) (hA : ∀ q, q < H.size → A1 q → A0 q) (hf : ∀ q, free q → A0 q) (hAX : ∀ q, q < H.size → AX q → A0 q)
    (kx : ∀ (E : String) (ce : Cell) (q9 : Addr) (u : SX) (t : State) (H1 : Heap) (locs1 : List Loc), t.heap = H1 → s.vm.Alike t.vm → px u → BX E u t → H.size ≤ H1.size → (∀ q : Nat, q < H.size → ¬ AX q → H1[q]? = H[q]?) → va_S A0 H0 H1 locs1 → H1[q9]? = some ce → ce.vm = .none → s.vm.findClass E = some ce.cls → vx_W p l e R s m args below meth c H1 locs1 (cells + mc) (slots + ms) Q (F0 m pc ls rest) q9)
    (kk : ∀ (r : Int64) (u : S) (t : State) (H1 : Heap) (locs1 : List Loc), t.heap = H1 → s.vm.Alike t.vm → post r u → B u t → H.size ≤ H1.size → (∀ q : Nat, q < H.size → ¬ A1 q → H1[q]? = H[q]?) → va_S A0 H0 H1 locs1 → W p l e R s m args below meth c H1 locs1 (cells + mc) (slots + ms) Q (F0 m (pc + 3) ls (.long r :: rest))) : W p l e R s m args below meth c H locs cells slots Q (F0 m pc ls st0) := by
  intro T hT X
  rcases hr T hT X with ⟨v, st₀, t, T', L, h0, X', hL, e1, e2, ⟨⟨r, u, hv, hp, hb⟩, hF⟩, st⟩ | ⟨q, st₀, t, T', L, E, ce, h0, X', hL, e1, e2, ⟨u, hp, hb, hF⟩, hce, hcv, hcl, st⟩
  · cases hv
    obtain ⟨k1, k2, k3⟩ := vx_keep h0 e1 hS hA hf hL hF
    obtain ⟨t2, a1, b1⟩ := kk r u t T'.heap (locs ++ L) e1.symm (by rw [← e2]; exact X'.warmed.alike) hp hb k1 k2 k3 T' rfl X'
    exact ⟨t2, st t2 a1, b1⟩
  · obtain ⟨k1, k2, k3⟩ := vx_keep h0 e1 hS hAX hf hL hF
    obtain ⟨t2, a1, b1⟩ := kx E ce q u t T'.heap (locs ++ L) e1.symm (by rw [← e2]; exact X'.warmed.alike) hp hb k1 k2 k3 (by rw [e1]; exact hce) hcv hcl T' rfl X'
    exact ⟨t2, st.trans a1, b1⟩
theorem vx_callf {S SX : Type} {post : UInt32 → S → Prop} {px : SX → Prop} {B : S → State → Prop} {BX : String → SX → State → Prop} {AX : Nat → Prop} (hr : vx_Run p l e R s m args below meth c H locs cells slots mc ms (F0 m pc ls st0) rest (va_Qf post B A1 a) (vx_X px BX AX) free) (hS : va_S A0 H0 H locs) (hA : ∀ q, q < H.size → A1 q → A0 q) (hf : ∀ q, free q → A0 q) (hAX : ∀ q, q < H.size → AX q → A0 q)
    (kx : ∀ (E : String) (ce : Cell) (q9 : Addr) (u : SX) (t : State) (H1 : Heap) (locs1 : List Loc), t.heap = H1 → s.vm.Alike t.vm → px u → BX E u t → H.size ≤ H1.size → (∀ q : Nat, q < H.size → ¬ AX q → H1[q]? = H[q]?) → va_S A0 H0 H1 locs1 → H1[q9]? = some ce → ce.vm = .none → s.vm.findClass E = some ce.cls → vx_W p l e R s m args below meth c H1 locs1 (cells + mc) (slots + ms) Q (F0 m pc ls rest) q9)
    (kk : ∀ (r : UInt32) (u : S) (t : State) (H1 : Heap) (locs1 : List Loc), t.heap = H1 → s.vm.Alike t.vm → post r u → B u t → H.size ≤ H1.size → (∀ q : Nat, q < H.size → ¬ A1 q → H1[q]? = H[q]?) → va_S A0 H0 H1 locs1 → W p l e R s m args below meth c H1 locs1 (cells + mc) (slots + ms) Q (F0 m (pc + 3) ls (.float r :: rest))) : W p l e R s m args below meth c H locs cells slots Q (F0 m pc ls st0) := by
  intro T hT X
  rcases hr T hT X with ⟨v, st₀, t, T', L, h0, X', hL, e1, e2, ⟨⟨r, u, hv, hp, hb⟩, hF⟩, st⟩ | ⟨q, st₀, t, T', L, E, ce, h0, X', hL, e1, e2, ⟨u, hp, hb, hF⟩, hce, hcv, hcl, st⟩
  · cases hv
    obtain ⟨k1, k2, k3⟩ := vx_keep h0 e1 hS hA hf hL hF
    obtain ⟨t2, a1, b1⟩ := kk r u t T'.heap (locs ++ L) e1.symm (by rw [← e2]; exact X'.warmed.alike) hp hb k1 k2 k3 T' rfl X'
    exact ⟨t2, st t2 a1, b1⟩
  · obtain ⟨k1, k2, k3⟩ := vx_keep h0 e1 hS hAX hf hL hF
    obtain ⟨t2, a1, b1⟩ := kx E ce q u t T'.heap (locs ++ L) e1.symm (by rw [← e2]; exact X'.warmed.alike) hp hb k1 k2 k3 (by rw [e1]; exact hce) hcv hcl T' rfl X'
    exact ⟨t2, st.trans a1, b1⟩
theorem vx_calld {S SX : Type} {post : UInt64 → S → Prop} {px : SX → Prop} {B : S → State → Prop} {BX : String → SX → State → Prop} {AX : Nat → Prop} (hr : vx_Run p l e R s m args below meth c H locs cells slots mc ms (F0 m pc ls st0) rest (va_Qd post B A1 a) (vx_X px BX AX) free) (hS : va_S A0 H0 H locs) (hA : ∀ q, q < H.size → A1 q → A0 q) (hf : ∀ q, free q → A0 q) (hAX : ∀ q, q < H.size → AX q → A0 q)
    (kx : ∀ (E : String) (ce : Cell) (q9 : Addr) (u : SX) (t : State) (H1 : Heap) (locs1 : List Loc), t.heap = H1 → s.vm.Alike t.vm → px u → BX E u t → H.size ≤ H1.size → (∀ q : Nat, q < H.size → ¬ AX q → H1[q]? = H[q]?) → va_S A0 H0 H1 locs1 → H1[q9]? = some ce → ce.vm = .none → s.vm.findClass E = some ce.cls → vx_W p l e R s m args below meth c H1 locs1 (cells + mc) (slots + ms) Q (F0 m pc ls rest) q9)
    (kk : ∀ (r : UInt64) (u : S) (t : State) (H1 : Heap) (locs1 : List Loc), t.heap = H1 → s.vm.Alike t.vm → post r u → B u t → H.size ≤ H1.size → (∀ q : Nat, q < H.size → ¬ A1 q → H1[q]? = H[q]?) → va_S A0 H0 H1 locs1 → W p l e R s m args below meth c H1 locs1 (cells + mc) (slots + ms) Q (F0 m (pc + 3) ls (.double r :: rest))) : W p l e R s m args below meth c H locs cells slots Q (F0 m pc ls st0) := by
  intro T hT X
  rcases hr T hT X with ⟨v, st₀, t, T', L, h0, X', hL, e1, e2, ⟨⟨r, u, hv, hp, hb⟩, hF⟩, st⟩ | ⟨q, st₀, t, T', L, E, ce, h0, X', hL, e1, e2, ⟨u, hp, hb, hF⟩, hce, hcv, hcl, st⟩
  · cases hv
    obtain ⟨k1, k2, k3⟩ := vx_keep h0 e1 hS hA hf hL hF
    obtain ⟨t2, a1, b1⟩ := kk r u t T'.heap (locs ++ L) e1.symm (by rw [← e2]; exact X'.warmed.alike) hp hb k1 k2 k3 T' rfl X'
    exact ⟨t2, st t2 a1, b1⟩
  · obtain ⟨k1, k2, k3⟩ := vx_keep h0 e1 hS hAX hf hL hF
    obtain ⟨t2, a1, b1⟩ := kx E ce q u t T'.heap (locs ++ L) e1.symm (by rw [← e2]; exact X'.warmed.alike) hp hb k1 k2 k3 (by rw [e1]; exact hce) hcv hcl T' rfl X'
    exact ⟨t2, st.trans a1, b1⟩
theorem vx_callv {S SX : Type} {post : S → Prop} {px : SX → Prop} {B : S → State → Prop} {BX : String → SX → State → Prop} {AX : Nat → Prop} (hr : vx_Run p l e R s m args below meth c H locs cells slots mc ms (F0 m pc ls st0) rest (va_Qv post B A1 a) (vx_X px BX AX) free) (hS : va_S A0 H0 H locs) (hA : ∀ q, q < H.size → A1 q → A0 q) (hf : ∀ q, free q → A0 q) (hAX : ∀ q, q < H.size → AX q → A0 q)
    (kx : ∀ (E : String) (ce : Cell) (q9 : Addr) (u : SX) (t : State) (H1 : Heap) (locs1 : List Loc), t.heap = H1 → s.vm.Alike t.vm → px u → BX E u t → H.size ≤ H1.size → (∀ q : Nat, q < H.size → ¬ AX q → H1[q]? = H[q]?) → va_S A0 H0 H1 locs1 → H1[q9]? = some ce → ce.vm = .none → s.vm.findClass E = some ce.cls → vx_W p l e R s m args below meth c H1 locs1 (cells + mc) (slots + ms) Q (F0 m pc ls rest) q9)
    (kk : ∀ (u : S) (t : State) (H1 : Heap) (locs1 : List Loc), t.heap = H1 → s.vm.Alike t.vm → post u → B u t → H.size ≤ H1.size → (∀ q : Nat, q < H.size → ¬ A1 q → H1[q]? = H[q]?) → va_S A0 H0 H1 locs1 → W p l e R s m args below meth c H1 locs1 (cells + mc) (slots + ms) Q (F0 m (pc + 3) ls (rest))) : W p l e R s m args below meth c H locs cells slots Q (F0 m pc ls st0) := by
  intro T hT X
  rcases hr T hT X with ⟨v, st₀, t, T', L, h0, X', hL, e1, e2, ⟨⟨u, hv, hp, hb⟩, hF⟩, st⟩ | ⟨q, st₀, t, T', L, E, ce, h0, X', hL, e1, e2, ⟨u, hp, hb, hF⟩, hce, hcv, hcl, st⟩
  · cases hv
    obtain ⟨k1, k2, k3⟩ := vx_keep h0 e1 hS hA hf hL hF
    obtain ⟨t2, a1, b1⟩ := kk u t T'.heap (locs ++ L) e1.symm (by rw [← e2]; exact X'.warmed.alike) hp hb k1 k2 k3 T' rfl X'
    exact ⟨t2, st t2 a1, b1⟩
  · obtain ⟨k1, k2, k3⟩ := vx_keep h0 e1 hS hAX hf hL hF
    obtain ⟨t2, a1, b1⟩ := kx E ce q u t T'.heap (locs ++ L) e1.symm (by rw [← e2]; exact X'.warmed.alike) hp hb k1 k2 k3 (by rw [e1]; exact hce) hcv hcl T' rfl X'
    exact ⟨t2, st.trans a1, b1⟩
/-- caught by the row x of this method's table; the rows ahead don't take it -/
theorem vx_catch {own name : String} {E : String} {ce : Cell} {q : Addr} (hown : s.vm.findClass own = some m.cls) (pre : List ExceptionTableEntry) (x : ExceptionTableEntry) (suf : List ExceptionTableEntry) (hsplit : c.exceptionTable.toList = pre ++ x :: suf)
    (hpass : ∀ z ∈ pre, covers z pc = false ∨ (z.catchType ≠ 0 ∧ ∃ nm : String, (Cond.classLink own z.catchType nm).before args s = true ∧ va_Nc E nm s)) (hx : covers x pc = true) (h0 : x.catchType ≠ 0)
    (hlink : (Cond.classLink own x.catchType name).before args s = true) (hcast : (Cond.castable E name).before args s = true) (hcell : H[q]? = some ce) (hv : ce.vm = .none) (hcl : s.vm.findClass E = some ce.cls)
    (kk : W p l e R s m args below meth c H locs cells slots Q (F0 m x.handlerPc ls [.ref q])) : vx_W p l e R s m args below meth c H locs cells slots Q (F0 m pc ls rest) q := by
  intro T hT X
  have hpl : e.platform.magicAccessors = ({} : Platform).magicAccessors := by rw [X.admits.platform]
  obtain ⟨c3, c4, hc3, hc4, hasg⟩ := Cond.castable_spec hcast
  cases Option.some.inj (hc3.symm.trans hcl)
  obtain ⟨c5, hc5, hcl5⟩ := Cond.classLink_spec hown hlink e.platform hpl
  cases Option.some.inj (hc4.symm.trans hc5)
  obtain ⟨vm', X', st⟩ := X.thenCaughtThrough q (g := F0 m pc ls rest) rfl (Steps.refl _) (by rw [hT]; exact hcell) (by rw [hv]; rfl) (by obtain ⟨k9, h9, -⟩ := Vm.findClass_spec hcl; exact ⟨k9, h9⟩) pre x suf hsplit
    (fun z hz => by
      rcases hpass z hz with h | ⟨hz0, nm, hl1, hn1⟩
      · exact Or.inl h
      · obtain ⟨c6, hc6, hcl6⟩ := Cond.classLink_spec hown hl1 e.platform hpl
        obtain ⟨a8, b8, h1, h2, h3⟩ := hn1
        cases Option.some.inj (h1.symm.trans hcl)
        cases Option.some.inj (h2.symm.trans hc6)
        exact Or.inr ⟨hz0, _, hcl6, h3⟩) hx (Or.inr ⟨h0, c4, hcl5, hasg⟩)
  obtain ⟨t, a1, b1⟩ := kk (T.setVm vm') hT X'
  exact ⟨t, st.trans a1, b1⟩
end Rows
section Ends
variable {p : Program} {l : Launch} {e : Env} {R : Room} {s : State} {m : MethodId} {args : Array Value} {below : List Frame} {meth : Method} {c : Code} {H : Heap} {locs : List Loc} {cells slots : Nat} {Q : State → Prop}
variable {mc ms : Nat} {free : Addr → Prop} {A0 A1 : Nat → Prop} {H0 : Heap} {a : Array Value} {ls : Array Slot} {st0 rest : List Value}
variable {Qc : Array Value → State → Outcome → State → Prop} {XC : String → State → State → Prop}
/-- what a body that may throw owes at its end -/
def vx_MQ (below : List Frame) (Qc : Array Value → State → Outcome → State → Prop) (XC : String → State → State → Prop) (a : Array Value) (s : State) (mc ms : Nat) (free : Addr → Prop) : State → Prop := fun t =>
  ∃ o, t.status = .running ∧ Ended t below o ∧ vx_Q Qc XC mc ms free a s o t
theorem vx_ret {g : JFrame} {mc ms : Nat} (k : W p l e R s m args below meth c H locs cells slots (MQ below Qc args s mc ms free) g) : W p l e R s m args below meth c H locs cells slots (vx_MQ below Qc XC args s mc ms free) g := by
  intro T hT X
  obtain ⟨t, a1, o, b1, b2, b3, b4⟩ := k T hT X
  exact ⟨t, a1, o, b1, b2, Or.inl ⟨b3, b4⟩⟩
/-- not caught here: it goes on to the caller -/
theorem vx_widen {g : JFrame} {q : Addr} {k n : Nat} (h1 : cells ≤ k) (h2 : slots ≤ n) (kk : vx_W p l e R s m args below meth c H locs k n Q g q) : vx_W p l e R s m args below meth c H locs cells slots Q g q := fun T hT X => kk T hT (stand_widen X h1 h2)
theorem vx_out {pc : Nat} {E : String} {ce : Cell} {q : Addr} {mc ms : Nat} (hout : ∀ x ∈ c.exceptionTable.toList, covers x pc = false) (hlocks : meth.locks = false) (hcell : H[q]? = some ce) (hv : ce.vm = .none) (hcl : s.vm.findClass E = some ce.cls)
    (hx : ∀ t : State, t.heap = H → s.vm.Alike t.vm → XC E s t) (hf : ∀ z ∈ locs, free z.base) (hc : cells ≤ mc) (hs : slots ≤ ms) :
    vx_W p l e R s m args below meth c H locs cells slots (vx_MQ below Qc XC args s mc ms free) (F0 m pc ls rest) q := by
  intro T hT X
  obtain ⟨st1, hrun, hend, hW, hsm⟩ := X.leaveThrown q (g := F0 m pc ls rest) rfl rfl rfl hout hlocks
  have hcell9 : (T.setFrames (.throwing q :: below)).heap[q]? = some ce := by
    show T.heap[q]? = some ce
    rw [hT]; exact hcell
  exact ⟨_, st1, .threw q, hrun, hend, Or.inr ⟨q, rfl, E, ce, locs, hx _ hT hW.alike, hcell9, hv, hcl, hW, hsm.mono hc hs, hf⟩⟩
theorem vx_frame {U : State} {k n : Nat} (h : s.sameButNew ({ U with vm := s.vm } : State) locs k n) : s.heap.size ≤ U.heap.size ∧ ∀ q : Nat, q < s.heap.size → (∀ z ∈ locs, z.base ≠ q) → U.heap[q]? = s.heap[q]? := by
  obtain ⟨-, h2, -, -, -, h6⟩ := h
  refine ⟨h2, fun q hq hz => ?_⟩
  obtain ⟨c9, e1, e2, e3, e4⟩ := h6 q _ (Array.getElem?_eq_getElem hq)
  have hs : c9.slots = (s.heap[q]).slots := Array.ext_getElem? fun i => e4 i fun hm => hz _ hm rfl
  have h9 : c9 = s.heap[q] := by
    rw [hs] at e2
    exact e2
  have e5 : U.heap[q]? = some c9 := e1
  rw [e5, h9, Array.getElem?_eq_getElem hq]
/-- the words of a throw but the four that speak of the heap -/
def vx_no (w : Cond) : Bool := decide (w ≠ .isRef (.static Bundle.tN "UNASSIGNED_STACK" Bundle.steD)) && decide (w ≠ .isRef (.static Bundle.tN "SUPPRESSED_SENTINEL" Bundle.listD)) && decide (w ≠ .laysStatic Bundle.tN "UNASSIGNED_STACK" Bundle.steD) && decide (w ≠ .laysStatic Bundle.tN "SUPPRESSED_SENTINEL" Bundle.listD)
def vx_at0 (own : String) (ic : Nat) (X : String) (names : List String) : List Cond := (Bundle.ownAtoms0 own ic X names).filter vx_no
def vx_atS (own : String) (ic : Nat) (X : String) (names : List String) : List Cond := (Bundle.ownAtoms own ic X names).filter vx_no
/-- a word that the tables alone decide, or a good one -/
def vx_ot (w : Cond) : Bool := w.onTables || goodWord w
theorem vx_ot_at {args a' : Array Value} {s U : State} {w : Cond} (hW : s.WarmedH U.vm) (hvm : s.vm = U.vm) (hg : vx_ot w = true) (h : w.before args s = true) : w.before a' U = true := by
  simp only [vx_ot, Bool.or_eq_true] at hg
  rcases hg with hg | hg
  · exact va_tabs hg hvm h
  · exact word_at hW (good_of_word hg) h
/-- a list's words: the good ones out of the method's own list, the others by premises of their own -/
theorem vx_hat {args : Array Value} {s : State} {L B : List Cond} (h1 : ∀ w ∈ L.filter goodWord, w.before args s = true) (h2 : ∀ w ∈ L.filter (fun w => !goodWord w), w ∈ B) (h3 : ∀ w ∈ B, w.before args s = true) : ∀ w ∈ L, w.before args s = true := by
  intro w hw
  by_cases g : goodWord w = true
  · exact h1 w (List.mem_filter.mpr ⟨hw, g⟩)
  · refine h3 w (h2 w (List.mem_filter.mpr ⟨hw, ?_⟩))
    show (!goodWord w) = true
    cases hgw : goodWord w
    · rfl
    · exact absurd hgw g
theorem vx_c {args : Array Value} {s : State} {w : Cond} {B : List Cond} (h : w.before args s = true) (t : ∀ w ∈ B, w.before args s = true) : ∀ w' ∈ w :: B, w'.before args s = true := fun w' h' => (List.mem_cons.mp h').elim (fun e => by rw [e]; exact h) (t w')
theorem vx_n {args : Array Value} {s : State} : ∀ w ∈ ([] : List Cond), w.before args s = true := fun _ h => nomatch h
theorem vx_own {args : Array Value} {s : State} {L : List Cond} (h1 : ∀ w ∈ L.filter vx_no, w.before args s = true)
    (hU : (Cond.isRef (.static Bundle.tN "UNASSIGNED_STACK" Bundle.steD)).before args s = true) (hN : (Cond.isRef (.static Bundle.tN "SUPPRESSED_SENTINEL" Bundle.listD)).before args s = true)
    (lU : (Cond.laysStatic Bundle.tN "UNASSIGNED_STACK" Bundle.steD).before args s = true) (lN : (Cond.laysStatic Bundle.tN "SUPPRESSED_SENTINEL" Bundle.listD).before args s = true) : ∀ w ∈ L, w.before args s = true := by
  intro w hw
  by_cases e1 : w = .isRef (.static Bundle.tN "UNASSIGNED_STACK" Bundle.steD)
  · rw [e1]; exact hU
  · by_cases e2 : w = .isRef (.static Bundle.tN "SUPPRESSED_SENTINEL" Bundle.listD)
    · rw [e2]; exact hN
    · by_cases e3 : w = .laysStatic Bundle.tN "UNASSIGNED_STACK" Bundle.steD
      · rw [e3]; exact lU
      · by_cases e4 : w = .laysStatic Bundle.tN "SUPPRESSED_SENTINEL" Bundle.listD
        · rw [e4]; exact lN
        · exact h1 w (List.mem_filter.mpr ⟨hw, by unfold vx_no; rw [decide_eq_true e1, decide_eq_true e2, decide_eq_true e3, decide_eq_true e4]; rfl⟩)
/-- where a static field lies, its class's statics cell in H -/
def vx_L (C n d : String) (A : Nat → Prop) (U : State) (H : Heap) : Prop := ∃ (c : ClassId) (k : Class) (i : Nat) (f : Field) (a : Nat) (cell : Cell), U.vm.findClass C = some c ∧ U.fieldFound? C n d = some (c, k, i, f) ∧ f.isStatic = true ∧ k.statics = some a ∧ H[a]? = some cell ∧ cell.vm.isStatics = true ∧ cell.cls = c ∧ f.slot < cell.slots.size ∧ k.staticTypes[f.slot]? = some f.type ∧ ¬ A a
theorem vx_L.moved {C n d : String} {A : Nat → Prop} {u U : State} {H : Heap} (hvm : u.vm.Alike U.vm) (h : vx_L C n d A u H) : vx_L C n d A U H := by
  obtain ⟨c, k, i, f, a, cell, h1, h2, h3, h4, h5, h6, h7, h8, h9, h10⟩ := h
  obtain ⟨k', hi', he⟩ := State.fieldFound?_setVm hvm h2
  exact ⟨c, k', i, f, a, cell, by rw [hvm.findClass]; exact h1, hi', h3, by rw [he]; exact h4, h5, h6, h7, h8, by rw [he]; exact h9, h10⟩
theorem vx_L.kept {C n d : String} {A : Nat → Prop} {U : State} {H H1 : Heap} (h : vx_L C n d A U H) (hq : ∀ a : Nat, a < H.size → ¬ A a → H1[a]? = H[a]?) : vx_L C n d A U H1 := by
  obtain ⟨c, k, i, f, a, cell, h1, h2, h3, h4, h5, h6, h7, h8, h9, h10⟩ := h
  exact ⟨c, k, i, f, a, cell, h1, h2, h3, h4, by rw [hq a (Array.getElem?_eq_some_iff.mp h5).1 h10]; exact h5, h6, h7, h8, h9, h10⟩
theorem vx_L.narrow {C n d : String} {A B : Nat → Prop} {U : State} {H : Heap} (h : vx_L C n d A U H) (hAB : ∀ q, B q → A q) : vx_L C n d B U H := by
  obtain ⟨c, k, i, f, a, cell, h1, h2, h3, h4, h5, h6, h7, h8, h9, h10⟩ := h
  exact ⟨c, k, i, f, a, cell, h1, h2, h3, h4, h5, h6, h7, h8, h9, fun z => h10 (hAB _ z)⟩
theorem vx_L.word {C n d : String} {A : Nat → Prop} {s : State} {args : Array Value} (h : vx_L C n d A s s.heap) : (Cond.laysStatic C n d).before args s = true := by
  obtain ⟨c, k, i, f, a, cell, h1, h2, h3, h4, h5, h6, h7, h8, h9, -⟩ := h
  show (Cond.laysStatic C n d).holds args s none s [] = true
  exact Cond.laysStatic_of h1 h2 h3 h4 h5 h6 h7 h8 h9
/-- .. and what it holds: null or some reference -/
def vx_Zq (C n d : String) (A : Nat → Prop) (U : State) (H : Heap) : Prop := va_Zq C n d A U H ∧ vx_L C n d A U H
theorem vx_Zq.moved {C n d : String} {A : Nat → Prop} {u U : State} {H : Heap} (hvm : u.vm.Alike U.vm) (h : vx_Zq C n d A u H) : vx_Zq C n d A U H := ⟨va_Zq.moved hvm h.1, vx_L.moved hvm h.2⟩
theorem vx_Zq.kept {C n d : String} {A : Nat → Prop} {U : State} {H H1 : Heap} (h : vx_Zq C n d A U H) (hq : ∀ a : Nat, a < H.size → ¬ A a → H1[a]? = H[a]?) : vx_Zq C n d A U H1 := ⟨va_Zq.kept h.1 hq, vx_L.kept h.2 hq⟩
theorem vx_Zq.narrow {C n d : String} {A B : Nat → Prop} {U : State} {H : Heap} (h : vx_Zq C n d A U H) (hAB : ∀ q, B q → A q) : vx_Zq C n d B U H := ⟨va_Zq.narrow h.1 hAB, vx_L.narrow h.2 hAB⟩
theorem vx_Zqof {args : Array Value} {s : State} {C n d : String} {A : Nat → Prop} (hl : (Cond.laysStatic C n d).before args s = true) (hini : (Cond.initialized C).before args s = true) (h : (Cond.isRef (.static C n d)).before args s = true) (hA : ∀ a : Nat, a < s.heap.size → ¬ A a) : vx_Zq C n d A s s.heap := by
  refine ⟨va_Zqof hl hini h hA, ?_⟩
  obtain ⟨c, k, i, f, a, cell, h1, h2, h3, h4, h5, h6, h7, h8, h9⟩ := Cond.laysStatic_spec hl
  exact ⟨c, k, i, f, a, cell, h1, h2, h3, h4, h5, h6, h7, h8, h9, hA a (Array.getElem?_eq_some_iff.mp h5).1⟩
theorem vx_isRef {C n d : String} {v : Value} {A : Nat → Prop} {s : State} {args : Array Value} (h : va_Z C n d v A s s.heap) (hv : v.isRef = true) : (Cond.isRef (.static C n d)).before args s = true := by
  obtain ⟨cf, kf, fi, f, a, cell, h1, h2, h3, h4, h5, h6, h7, -⟩ := h
  have he : (Term.static C n d).eval args s none [] s = some v := by
    simp [Term.eval, State.fieldNamed?, h1, h2, h4, h5, h6, h7]
  simp only [Cond.before, Cond.holds, Cond.value, he]
  cases v <;> simp_all [Value.isRef]
theorem vx_isRefq {C n d : String} {A : Nat → Prop} {s : State} {args : Array Value} (h : va_Zq C n d A s s.heap) : (Cond.isRef (.static C n d)).before args s = true := by
  rcases h with h | ⟨t, h⟩
  · exact vx_isRef h rfl
  · exact vx_isRef h rfl
/-- the same frame, seen from here: as if the method were called anew in this heap -/
theorem vx_rebase {T : State} (X : Stand p l e R s m args below meth c T locs cells slots) {R' : Room} (hf : R'.frames ≤ R.frames) (hl : R'.locals ≤ R.locals) (hc : cells + R'.cells ≤ R.cells) (hs : slots + R'.slots ≤ R.slots) :
    Stand p l e R' ((T.setVm s.vm).setFrames (.invoking m args :: below)) m args below meth c T [] 0 0 := by
  have htop : (T.setVm s.vm).topJava?.isSome := X.here.top
  have hF : ((T.setVm s.vm).setFrames (.invoking m args :: below)).frames = .invoking m args :: below := State.frames_setFrames _ (State.cur_lt_of_top htop)
  obtain ⟨g₀, hg0⟩ := Option.isSome_iff_exists.mp htop
  obtain ⟨r, hr⟩ := State.topJava?_eq_some.mp hg0
  have hl9 : e.platform.stackLimits (T.setVm s.vm).me = e.platform.stackLimits s.me := X.limits
  have hb9 : (T.setVm s.vm).me.stackBytes = s.me.stackBytes := X.bytes
  refine ⟨X.admits, X.cas, X.clock, hF, ?_, X.hears, X.method, X.code, X.here, X.tail, X.warmed, ?_, ?_, ?_⟩
  · have h := X.room
    have hU : ((T.setVm s.vm).setFrames (.invoking m args :: below)).localsInUse = s.localsInUse := by
      rw [State.localsInUse_invoking hF (meth := meth) (c := c) X.method X.code, State.localsInUse_invoking X.frames X.method X.code]
    simp only [State.hasRoom, Bool.and_eq_true, decide_eq_true_eq] at h ⊢
    obtain ⟨⟨⟨⟨h1, h2, h3, h4, h5, h6⟩, h7⟩, h8⟩, h9⟩ := h
    rw [X.frames, List.length_cons] at h2 h3
    have q1 := X.heapSize
    have q2 := X.used
    simp only [hF, hU, List.length_cons, State.stackLimits_setFrames, State.stackBytes_setFrames, hl9, hb9]
    refine ⟨⟨⟨⟨by omega, by omega, by omega, by omega, by omega, h6⟩, ?_⟩, ?_⟩, X.book⟩
    · show T.heap.size + R'.cells ≤ e.platform.maxCells
      omega
    · show T.slotsUsed + R'.slots ≤ e.platform.maxSlots
      omega
  · rw [State.stackLimits_setFrames]; rfl
  · rw [State.stackBytes_setFrames]; rfl
  · refine ⟨?_, Nat.le_refl _, Nat.le_refl _, ?_, ?_, fun a c9 h9 => ⟨c9, h9, rfl, rfl, fun _ _ => rfl⟩⟩
    · obtain ⟨t, ht, -⟩ := State.frames_cons hr
      show T.setVm s.vm = { ((T.setVm s.vm).setFrames (.invoking m args :: below)).setFrames (T.setVm s.vm).frames with heap := T.heap, slotsUsed := T.slotsUsed }
      rw [State.setFrames_setFrames, State.setFrames_self ht]
      rfl
    · show T.slotsUsed = T.slotsUsed + ((T.heap.toList.drop T.heap.size).map (·.slots.size)).sum
      rw [List.drop_eq_nil_of_le (Nat.le_of_eq Array.length_toList)]
      rfl
    · show ((T.heap.toList.drop T.heap.size).map (·.slots.size)).sum ≤ 0
      rw [List.drop_eq_nil_of_le (Nat.le_of_eq Array.length_toList)]
      exact Nat.le_refl _
/-- 'throw new E()': new; dup; invokespecial; athrow -/
theorem vx_throw0 {cc : ByteArray} {pc : Nat} (hexec : p.tables.exec = Jvm.exec) (hb : c.code = cc) (hl : l.stackTraces = false) {own cls : String} {names : List String} {ik ic mc ms : Nat} {A : Nat → Prop}
    (hown : s.vm.findClass own = some m.cls) (hcls : Bundle.fit cls = true) (hnames : ∀ n ∈ names, Bundle.fit n = true)
    (hk : (Cond.classLink own ik cls).before args s = true) (hini : (Cond.initialized cls).before args s = true) (hat : ∀ w ∈ vx_at0 own ic cls names, w.before args s = true)
    (hgood : ∀ w ∈ Cond.classLink own ik cls :: Cond.initialized cls :: vx_at0 own ic cls names, vx_ot w = true)
    (hU : vx_Zq Bundle.tN "UNASSIGNED_STACK" Bundle.steD A s s.heap) (hN : vx_Zq Bundle.tN "SUPPRESSED_SENTINEL" Bundle.listD A s s.heap) (hS : va_S A s.heap H locs) (hsize : ls.size = c.maxLocals)
    (d0 : decode cc pc = .ok (.new ik, 3)) (d3 : decode cc (pc + 3) = .ok (.dup, 1)) (d4 : decode cc (pc + 4) = .ok (.invokespecial ic, 3)) (d7 : decode cc (pc + 7) = .ok (.athrow, 1))
    (hout : ∀ x ∈ c.exceptionTable.toList, covers x (pc + 7) = false)
    (hRframes : names.length + 3 < R.frames) (hRlocals : (rest.map fun v => v.category).sum + (13 * (names.length + 1) + 42) ≤ R.locals) (hRcells : cells + 1 ≤ R.cells) (hRslots : slots + 6 ≤ R.slots) (hlocks : meth.locks = false)
    (hx : ∀ t : State, s.vm.Alike t.vm → H.size ≤ t.heap.size → (∀ q : Nat, q < H.size → t.heap[q]? = H[q]?) → XC cls s t)
    (hf : ∀ z ∈ locs, free z.base) (hc : cells + 1 ≤ mc) (hs : slots + 6 ≤ ms) :
    W p l e R s m args below meth c H locs cells slots (vx_MQ below Qc XC args s mc ms free) (F0 m pc ls rest) := by
  intro T hT X
  have htr : e.platform.stackTraces = false := (show e.platform.stackTraces = l.stackTraces by rw [X.admits.platform]).trans hl
  have Y := vx_rebase X (R' := { frames := R.frames, locals := R.locals, cells := 1, slots := 6 }) (Nat.le_refl _) (Nat.le_refl _) hRcells hRslots
  obtain ⟨s', hA⟩ : ∃ z, z = (T.setVm s.vm).setFrames (.invoking m args :: below) := ⟨_, rfl⟩
  rw [← hA] at Y
  have hvm : s'.vm = s.vm := by rw [hA]; rfl
  have hhp : s'.heap = H := by rw [hA]; exact hT
  have hW0 : s.WarmedH s'.vm := by rw [hvm]; exact State.WarmedH.refl s
  have hat' : ∀ w ∈ vx_at0 own ic cls names, w.before args s' = true := fun w hw => vx_ot_at hW0 hvm.symm (hgood w (List.mem_cons_of_mem _ (List.mem_cons_of_mem _ hw))) (hat w hw)
  have hk' : (Cond.classLink own ik cls).before args s' = true := vx_ot_at hW0 hvm.symm (hgood _ List.mem_cons_self) hk
  have hini' : (Cond.initialized cls).before args s' = true := vx_ot_at hW0 hvm.symm (hgood _ (List.mem_cons_of_mem _ List.mem_cons_self)) hini
  have hU' : vx_Zq Bundle.tN "UNASSIGNED_STACK" Bundle.steD A s' s'.heap := by rw [hhp]; exact vx_Zq.moved hW0.alike (hU.kept hS.2.1)
  have hN' : vx_Zq Bundle.tN "SUPPRESSED_SENTINEL" Bundle.listD A s' s'.heap := by rw [hhp]; exact vx_Zq.moved hW0.alike (hN.kept hS.2.1)
  have h : ∀ w ∈ Bundle.ownAtoms0 own ic cls names, w.before args s' = true := vx_own hat' (vx_isRefq hU'.1) (vx_isRefq hN'.1) hU'.2.word hN'.2.word
  have hown' : s'.vm.findClass own = some m.cls := by rw [hvm]; exact hown
  have hins : (Cond.instantiable cls 6).before args s' = true := h _ (by simp [Bundle.ownAtoms0])
  obtain ⟨vm₁, cX, kX, hfX, hkX, -, -, X₁, st1⟩ := Y.newCold hexec (own := own) (C := cls) (index := ik) (n := 6) hown' hk' hins hini'
    (g := F0 m pc ls rest) rfl (by rw [hb]; exact d0) (Nat.le_refl _) (Nat.le_refl _)
  generalize hT1 : (T.setVm vm₁).pushCell { cls := cX, slots := kX.instanceTypes.map defaultValue, vm := .none } = T1 at X₁ st1
  have hcat : (Value.ref T.heap.size).category = 1 := rfl
  have hcellA : T1.heap[T.heap.size]? = some (freshCell cX kX) := by rw [← hT1]; exact State.heap_pushCell_size _ _
  have d3' : decode c.code (pc + 3) = .ok (.dup, 1) := by rw [hb]; exact d3
  obtain ⟨U, hsteps, hrun, hend, hW, hsame, ce, hce, hO⟩ := X₁.ctorThrow0 hexec htr (own := own) (cls := cls) (names := names) (ic := ic) hown' hcls hnames h (fun x hx => nomatch hx) hfX hkX hcellA (by rw [hhp, hT]; exact Nat.le_refl _)
    (g := { method := m, pc := pc + 4, locals := ls, stack := .ref T.heap.size :: .ref T.heap.size :: rest, locked := none }) rfl hsize rfl rfl (rest := rest) rfl
    (by rw [hb]; exact d4) (by rw [hb]; exact d7) hout hRframes (by simp only [List.map_cons, List.sum_cons, hcat]; omega) hlocks
  obtain ⟨f1, f2⟩ := vx_frame hsame
  rw [hhp] at f1 f2
  have hWs : s.WarmedH U.vm := State.WarmedH.trans hW0 hW
  have hcl : s.vm.findClass cls = some ce.cls := by
    have h9 := hO.cls
    rw [hvm] at h9
    exact h9
  have hall : s.sameButNew ({ U with vm := s.vm } : State) locs mc ms := by
    subst hA
    obtain ⟨e1, e2⟩ := hsame
    rw [State.setFrames_setFrames] at e1
    have h2 : (T.setVm s.vm).sameButNew ({ U with vm := s.vm } : State) [] (0 + 1) (0 + 6) := ⟨e1, e2⟩
    have h3 := X.same.trans h2
    rw [List.append_nil] at h3
    exact h3.mono hc hs
  refine ⟨U, ?_, .threw T.heap.size, hrun, hend, Or.inr ⟨T.heap.size, rfl, cls, ce, locs, hx U hWs.alike f1 (fun q hq => f2 q hq (fun z hz => nomatch hz)), hce, hO.vm, hcl, hWs, hall, hf⟩⟩
  refine st1 _ ?_
  show Steps p.tables e below (T1.setTop { method := m, pc := pc + 3, locals := ls, stack := .ref T.heap.size :: rest, locked := none }) _
  jvm_step X₁.here [X₁.here.top, hexec, d3', Value.category]
  exact hsteps
/-- 'throw new E("text")': new; dup; ldc; invokespecial; athrow -/
theorem vx_throwS {cc : ByteArray} {pc : Nat} (hexec : p.tables.exec = Jvm.exec) (hb : c.code = cc) (hl : l.stackTraces = false) {own cls text : String} {names : List String} {ik is ic mc ms sa : Nat} {A : Nat → Prop}
    (hown : s.vm.findClass own = some m.cls) (hcls : Bundle.fit cls = true) (hnames : ∀ n ∈ names, Bundle.fit n = true)
    (hk : (Cond.classLink own ik cls).before args s = true) (hini : (Cond.initialized cls).before args s = true) (hstr : vk_R own is text sa s) (hat : ∀ w ∈ vx_atS own ic cls names, w.before args s = true)
    (hgood : ∀ w ∈ Cond.classLink own ik cls :: Cond.initialized cls :: vx_atS own ic cls names, vx_ot w = true)
    (hU : vx_Zq Bundle.tN "UNASSIGNED_STACK" Bundle.steD A s s.heap) (hN : vx_Zq Bundle.tN "SUPPRESSED_SENTINEL" Bundle.listD A s s.heap) (hS : va_S A s.heap H locs) (hsize : ls.size = c.maxLocals)
    (d0 : decode cc pc = .ok (.new ik, 3)) (d3 : decode cc (pc + 3) = .ok (.dup, 1)) (d4 : decode cc (pc + 4) = .ok (.ldc is, 2)) (d6 : decode cc (pc + 6) = .ok (.invokespecial ic, 3)) (d9 : decode cc (pc + 9) = .ok (.athrow, 1))
    (hout : ∀ x ∈ c.exceptionTable.toList, covers x (pc + 9) = false)
    (hRframes : names.length + 3 < R.frames) (hRlocals : (rest.map fun v => v.category).sum + (13 * (names.length + 1) + 43) ≤ R.locals) (hRcells : cells + 1 ≤ R.cells) (hRslots : slots + 6 ≤ R.slots) (hlocks : meth.locks = false)
    (hx : ∀ t : State, s.vm.Alike t.vm → H.size ≤ t.heap.size → (∀ q : Nat, q < H.size → t.heap[q]? = H[q]?) → XC cls s t)
    (hf : ∀ z ∈ locs, free z.base) (hc : cells + 1 ≤ mc) (hs : slots + 6 ≤ ms) :
    W p l e R s m args below meth c H locs cells slots (vx_MQ below Qc XC args s mc ms free) (F0 m pc ls rest) := by
  intro T hT X
  have htr : e.platform.stackTraces = false := (show e.platform.stackTraces = l.stackTraces by rw [X.admits.platform]).trans hl
  have Y := vx_rebase X (R' := { frames := R.frames, locals := R.locals, cells := 1, slots := 6 }) (Nat.le_refl _) (Nat.le_refl _) hRcells hRslots
  obtain ⟨s', hA⟩ : ∃ z, z = (T.setVm s.vm).setFrames (.invoking m args :: below) := ⟨_, rfl⟩
  rw [← hA] at Y
  have hvm : s'.vm = s.vm := by rw [hA]; rfl
  have hhp : s'.heap = H := by rw [hA]; exact hT
  have hW0 : s.WarmedH s'.vm := by rw [hvm]; exact State.WarmedH.refl s
  have hat' : ∀ w ∈ vx_atS own ic cls names, w.before args s' = true := fun w hw => vx_ot_at hW0 hvm.symm (hgood w (List.mem_cons_of_mem _ (List.mem_cons_of_mem _ hw))) (hat w hw)
  have hk' : (Cond.classLink own ik cls).before args s' = true := vx_ot_at hW0 hvm.symm (hgood _ List.mem_cons_self) hk
  have hini' : (Cond.initialized cls).before args s' = true := vx_ot_at hW0 hvm.symm (hgood _ (List.mem_cons_of_mem _ List.mem_cons_self)) hini
  have hU' : vx_Zq Bundle.tN "UNASSIGNED_STACK" Bundle.steD A s' s'.heap := by rw [hhp]; exact vx_Zq.moved hW0.alike (hU.kept hS.2.1)
  have hN' : vx_Zq Bundle.tN "SUPPRESSED_SENTINEL" Bundle.listD A s' s'.heap := by rw [hhp]; exact vx_Zq.moved hW0.alike (hN.kept hS.2.1)
  have h : ∀ w ∈ Bundle.ownAtoms own ic cls names, w.before args s' = true := vx_own hat' (vx_isRefq hU'.1) (vx_isRefq hN'.1) hU'.2.word hN'.2.word
  have hown' : s'.vm.findClass own = some m.cls := by rw [hvm]; exact hown
  have hins : (Cond.instantiable cls 6).before args s' = true := h _ (by simp [Bundle.ownAtoms])
  obtain ⟨vm₁, cX, kX, hfX, hkX, -, -, X₁, st1⟩ := Y.newCold hexec (own := own) (C := cls) (index := ik) (n := 6) hown' hk' hins hini'
    (g := F0 m pc ls rest) rfl (by rw [hb]; exact d0) (Nat.le_refl _) (Nat.le_refl _)
  generalize hT1 : (T.setVm vm₁).pushCell { cls := cX, slots := kX.instanceTypes.map defaultValue, vm := .none } = T1 at X₁ st1
  have hcat : (Value.ref T.heap.size).category = 1 := rfl
  have hcellA : T1.heap[T.heap.size]? = some (freshCell cX kX) := by rw [← hT1]; exact State.heap_pushCell_size _ _
  have d3' : decode c.code (pc + 3) = .ok (.dup, 1) := by rw [hb]; exact d3
  have d4' : decode c.code (pc + 4) = .ok (.ldc is, 2) := by rw [hb]; exact d4
  have hstr' : vk_R own is text sa s' := vk_R.warm hW0 hstr
  obtain ⟨U, hsteps, hrun, hend, hW, hsame, ce, hce, hO⟩ := X₁.ctorThrowS hexec htr (own := own) (cls := cls) (names := names) (ic := ic) hown' hcls hnames h (fun x hx => nomatch hx) hfX hkX hcellA (by rw [hhp, hT]; exact Nat.le_refl _) (msg := .ref sa) rfl
    (g := { method := m, pc := pc + 6, locals := ls, stack := .ref sa :: .ref T.heap.size :: .ref T.heap.size :: rest, locked := none }) rfl hsize rfl rfl (rest := rest) rfl
    (by rw [hb]; exact d6) (by rw [hb]; exact d9) hout hRframes (by simp only [List.map_cons, List.sum_cons, hcat]; omega) hlocks
  obtain ⟨f1, f2⟩ := vx_frame hsame
  rw [hhp] at f1 f2
  have hWs : s.WarmedH U.vm := State.WarmedH.trans hW0 hW
  have hcl : s.vm.findClass cls = some ce.cls := by
    have h9 := hO.cls
    rw [hvm] at h9
    exact h9
  have hall : s.sameButNew ({ U with vm := s.vm } : State) locs mc ms := by
    subst hA
    obtain ⟨e1, e2⟩ := hsame
    rw [State.setFrames_setFrames] at e1
    have h2 : (T.setVm s.vm).sameButNew ({ U with vm := s.vm } : State) [] (0 + 1) (0 + 6) := ⟨e1, e2⟩
    have h3 := X.same.trans h2
    rw [List.append_nil] at h3
    exact h3.mono hc hs
  refine ⟨U, ?_, .threw T.heap.size, hrun, hend, Or.inr ⟨T.heap.size, rfl, cls, ce, locs, hx U hWs.alike f1 (fun q hq => f2 q hq (fun z hz => nomatch hz)), hce, hO.vm, hcl, hWs, hall, hf⟩⟩
  refine st1 _ ?_
  show Steps p.tables e below (T1.setTop { method := m, pc := pc + 3, locals := ls, stack := .ref T.heap.size :: rest, locked := none }) _
  jvm_step X₁.here [X₁.here.top, hexec, d3', Value.category]
  exact X₁.ldcString hexec (own := own) (text := text) (index := is) (a := sa) hown' hstr'.1 hstr'.2
    (g := { method := m, pc := pc + 4, locals := ls, stack := .ref T.heap.size :: .ref T.heap.size :: rest, locked := none }) rfl d4' _ hsteps
/-- 'throw new E("text")', the text by a wide index -/
theorem vx_throwSW {cc : ByteArray} {pc : Nat} (hexec : p.tables.exec = Jvm.exec) (hb : c.code = cc) (hl : l.stackTraces = false) {own cls text : String} {names : List String} {ik is ic mc ms sa : Nat} {A : Nat → Prop}
    (hown : s.vm.findClass own = some m.cls) (hcls : Bundle.fit cls = true) (hnames : ∀ n ∈ names, Bundle.fit n = true)
    (hk : (Cond.classLink own ik cls).before args s = true) (hini : (Cond.initialized cls).before args s = true) (hstr : vk_R own is text sa s) (hat : ∀ w ∈ vx_atS own ic cls names, w.before args s = true)
    (hgood : ∀ w ∈ Cond.classLink own ik cls :: Cond.initialized cls :: vx_atS own ic cls names, vx_ot w = true)
    (hU : vx_Zq Bundle.tN "UNASSIGNED_STACK" Bundle.steD A s s.heap) (hN : vx_Zq Bundle.tN "SUPPRESSED_SENTINEL" Bundle.listD A s s.heap) (hS : va_S A s.heap H locs) (hsize : ls.size = c.maxLocals)
    (d0 : decode cc pc = .ok (.new ik, 3)) (d3 : decode cc (pc + 3) = .ok (.dup, 1)) (d4 : decode cc (pc + 4) = .ok (.ldc_w is, 3)) (d7 : decode cc (pc + 7) = .ok (.invokespecial ic, 3)) (d10 : decode cc (pc + 10) = .ok (.athrow, 1))
    (hout : ∀ x ∈ c.exceptionTable.toList, covers x (pc + 10) = false)
    (hRframes : names.length + 3 < R.frames) (hRlocals : (rest.map fun v => v.category).sum + (13 * (names.length + 1) + 43) ≤ R.locals) (hRcells : cells + 1 ≤ R.cells) (hRslots : slots + 6 ≤ R.slots) (hlocks : meth.locks = false)
    (hx : ∀ t : State, s.vm.Alike t.vm → H.size ≤ t.heap.size → (∀ q : Nat, q < H.size → t.heap[q]? = H[q]?) → XC cls s t)
    (hf : ∀ z ∈ locs, free z.base) (hc : cells + 1 ≤ mc) (hs : slots + 6 ≤ ms) :
    W p l e R s m args below meth c H locs cells slots (vx_MQ below Qc XC args s mc ms free) (F0 m pc ls rest) := by
  intro T hT X
  have htr : e.platform.stackTraces = false := (show e.platform.stackTraces = l.stackTraces by rw [X.admits.platform]).trans hl
  have Y := vx_rebase X (R' := { frames := R.frames, locals := R.locals, cells := 1, slots := 6 }) (Nat.le_refl _) (Nat.le_refl _) hRcells hRslots
  obtain ⟨s', hA⟩ : ∃ z, z = (T.setVm s.vm).setFrames (.invoking m args :: below) := ⟨_, rfl⟩
  rw [← hA] at Y
  have hvm : s'.vm = s.vm := by rw [hA]; rfl
  have hhp : s'.heap = H := by rw [hA]; exact hT
  have hW0 : s.WarmedH s'.vm := by rw [hvm]; exact State.WarmedH.refl s
  have hat' : ∀ w ∈ vx_atS own ic cls names, w.before args s' = true := fun w hw => vx_ot_at hW0 hvm.symm (hgood w (List.mem_cons_of_mem _ (List.mem_cons_of_mem _ hw))) (hat w hw)
  have hk' : (Cond.classLink own ik cls).before args s' = true := vx_ot_at hW0 hvm.symm (hgood _ List.mem_cons_self) hk
  have hini' : (Cond.initialized cls).before args s' = true := vx_ot_at hW0 hvm.symm (hgood _ (List.mem_cons_of_mem _ List.mem_cons_self)) hini
  have hU' : vx_Zq Bundle.tN "UNASSIGNED_STACK" Bundle.steD A s' s'.heap := by rw [hhp]; exact vx_Zq.moved hW0.alike (hU.kept hS.2.1)
  have hN' : vx_Zq Bundle.tN "SUPPRESSED_SENTINEL" Bundle.listD A s' s'.heap := by rw [hhp]; exact vx_Zq.moved hW0.alike (hN.kept hS.2.1)
  have h : ∀ w ∈ Bundle.ownAtoms own ic cls names, w.before args s' = true := vx_own hat' (vx_isRefq hU'.1) (vx_isRefq hN'.1) hU'.2.word hN'.2.word
  have hown' : s'.vm.findClass own = some m.cls := by rw [hvm]; exact hown
  have hins : (Cond.instantiable cls 6).before args s' = true := h _ (by simp [Bundle.ownAtoms])
  obtain ⟨vm₁, cX, kX, hfX, hkX, -, -, X₁, st1⟩ := Y.newCold hexec (own := own) (C := cls) (index := ik) (n := 6) hown' hk' hins hini'
    (g := F0 m pc ls rest) rfl (by rw [hb]; exact d0) (Nat.le_refl _) (Nat.le_refl _)
  generalize hT1 : (T.setVm vm₁).pushCell { cls := cX, slots := kX.instanceTypes.map defaultValue, vm := .none } = T1 at X₁ st1
  have hcat : (Value.ref T.heap.size).category = 1 := rfl
  have hcellA : T1.heap[T.heap.size]? = some (freshCell cX kX) := by rw [← hT1]; exact State.heap_pushCell_size _ _
  have d3' : decode c.code (pc + 3) = .ok (.dup, 1) := by rw [hb]; exact d3
  have d4' : decode c.code (pc + 4) = .ok (.ldc_w is, 3) := by rw [hb]; exact d4
  have hstr' : vk_R own is text sa s' := vk_R.warm hW0 hstr
  obtain ⟨U, hsteps, hrun, hend, hW, hsame, ce, hce, hO⟩ := X₁.ctorThrowS hexec htr (own := own) (cls := cls) (names := names) (ic := ic) hown' hcls hnames h (fun x hx => nomatch hx) hfX hkX hcellA (by rw [hhp, hT]; exact Nat.le_refl _) (msg := .ref sa) rfl
    (g := { method := m, pc := pc + 7, locals := ls, stack := .ref sa :: .ref T.heap.size :: .ref T.heap.size :: rest, locked := none }) rfl hsize rfl rfl (rest := rest) rfl
    (by rw [hb]; exact d7) (by rw [hb]; exact d10) hout hRframes (by simp only [List.map_cons, List.sum_cons, hcat]; omega) hlocks
  obtain ⟨f1, f2⟩ := vx_frame hsame
  rw [hhp] at f1 f2
  have hWs : s.WarmedH U.vm := State.WarmedH.trans hW0 hW
  have hcl : s.vm.findClass cls = some ce.cls := by
    have h9 := hO.cls
    rw [hvm] at h9
    exact h9
  have hall : s.sameButNew ({ U with vm := s.vm } : State) locs mc ms := by
    subst hA
    obtain ⟨e1, e2⟩ := hsame
    rw [State.setFrames_setFrames] at e1
    have h2 : (T.setVm s.vm).sameButNew ({ U with vm := s.vm } : State) [] (0 + 1) (0 + 6) := ⟨e1, e2⟩
    have h3 := X.same.trans h2
    rw [List.append_nil] at h3
    exact h3.mono hc hs
  refine ⟨U, ?_, .threw T.heap.size, hrun, hend, Or.inr ⟨T.heap.size, rfl, cls, ce, locs, hx U hWs.alike f1 (fun q hq => f2 q hq (fun z hz => nomatch hz)), hce, hO.vm, hcl, hWs, hall, hf⟩⟩
  refine st1 _ ?_
  show Steps p.tables e below (T1.setTop { method := m, pc := pc + 3, locals := ls, stack := .ref T.heap.size :: rest, locked := none }) _
  jvm_step X₁.here [X₁.here.top, hexec, d3', Value.category]
  exact X₁.ldcStringW hexec (own := own) (text := text) (index := is) (a := sa) hown' hstr'.1 hstr'.2
    (g := { method := m, pc := pc + 4, locals := ls, stack := .ref T.heap.size :: .ref T.heap.size :: rest, locked := none }) rfl d4' _ hsteps
end Ends
section Bodies
variable {l : Launch}
theorem vx_ofW {y : MethodName} {ws ws' : List Cond} {rm : Room} {Pc : Array Value → State → Prop} {Qc : Array Value → State → Outcome → State → Prop} {XC : String → State → State → Prop} {mc ms : Nat} {free : Addr → Prop} {cc : ByteArray} {maxL : Nat} {ret : Option FieldType}
    (hy : plainName y.cls = true) (hw : ws = Cond.code y cc maxL ret :: ws')
    (body : ∀ p e s m args below meth c s₁, BodyLoose p l y (headSpec ws rm) cc maxL ret e s m args below meth c s₁ → c.maxLocals = maxL → (∀ x ∈ c.exceptionTable.toList, False) → Pc args s →
      W p l e (headSpec ws rm).room s m args below meth c s.heap [] 0 0 (vx_MQ below Qc XC args s mc ms free) (entryFrame m args maxL)) : vx_Met l y ws rm Pc Qc XC mc ms free := by
  refine MetFree.of_bodyS (code := cc) (maxLocals := maxL) (ret := ret) hy ?_ ?_
  · intro args s m h hn
    obtain ⟨meth, c, h1, h2, h3, h4, h5, h6, -, -⟩ := Cond.code_spec hn (atoms_spec (ws := ws) h _ (by rw [hw]; exact List.mem_cons_self))
    exact ⟨meth, c, h1, h2, h3, h4, h5, h6⟩
  · intro p e s m args below meth c s₁ B hml hP _
    have hh0 : s₁.heap = s.heap := by rw [B.state]; rfl
    have ht : ∀ x ∈ c.exceptionTable.toList, False := by
      obtain ⟨meth9, c9, h1, h2, -, -, -, -, h7, -⟩ := Cond.code_spec B.named (atoms_spec (ws := ws) B.pre _ (by rw [hw]; exact List.mem_cons_self))
      cases Option.some.inj (h1.symm.trans B.method)
      cases Option.some.inj (h2.symm.trans (Stand.of_body B).code)
      intro x hx
      rw [Array.isEmpty_iff.mp h7] at hx
      cases hx
    obtain ⟨t, a1, o, b1, b2, b3⟩ := body p e s m args below meth c s₁ B hml ht hP s₁ hh0 (Stand.of_body B)
    exact ⟨t, o, a1, b1, b2, b3⟩
/-- the table of a body with handlers -/
theorem vx_table {p : Program} {x y : MethodName} {S : Spec} {cc bytes : ByteArray} {maxL maxL' : Nat} {ret ret' : Option FieldType} {e : Env} {s s₁ : State} {m : MethodId} {args : Array Value} {below : List Frame} {meth : Method} {c : Code} {hh : List (Nat × Nat × Nat × Nat)}
    (B : BodyLoose p l y S cc maxL ret e s m args below meth c s₁) (h : (Cond.codeWith y bytes maxL' ret' hh).before args s = true) : c.exceptionTable.toList = tableOf hh := by
  obtain ⟨m9, meth9, c9, hn9, h1, h2, -, -, h6, -⟩ := Cond.codeWith_spec h
  cases Option.some.inj (hn9.symm.trans B.named)
  cases Option.some.inj (h1.symm.trans B.method)
  cases Option.some.inj (h2.symm.trans (Stand.of_body B).code)
  rw [← h6, table_eq]
end Bodies
end VXA
/-! ===== END ===== -/
/-! ===== BEGIN a static call of a method with an exception table ===== -/
section VXS
variable {p : Program} {l : Launch} {e : Env} {R : Room} {s : State} {m : MethodId} {args : Array Value} {below : List Frame} {meth : Method} {c : Code} {T : State} {H : Heap} {locs : List Loc} {cells slots : Nat}
abbrev vx_CSW (R : Room) (s : State) (args : Array Value) (own : String) (index : Nat) (y : MethodName) (bytes : ByteArray) (maxL : Nat) (ret : Option FieldType) (hh : List (Nat × Nat × Nat × Nat)) (ws : List Cond) (rm : Room) (mc ms n : Nat) : Prop :=
  (rm.cells = mc ∧ rm.slots = ms ∧ rm.frames + 1 ≤ R.frames ∧ 8 + (maxL + 11) + rm.locals ≤ R.locals ∧ (∀ w ∈ ws, ∀ (a' : Array Value) (U : State), s.WarmedH U.vm → w.before a' U = true) ∧ Cond.codeWith y bytes maxL ret hh ∈ ws) ∧
  (Cond.codeWith y bytes maxL ret hh).before args s = true ∧ (Cond.initialized y.cls).before args s = true ∧ (y.cls ≠ "java/lang/invoke/MethodHandle" ∧ y.cls ≠ "java/lang/invoke/VarHandle") ∧
  (∀ sig, parseMethodDescriptor y.desc = some sig → n = sig.parameters.length) ∧ (Cond.methodLink own index y).before args s = true ∧ (Cond.static y).before args s = true
theorem vx_cwSW {own : String} {index maxL mc ms : Nat} {y : MethodName} {bytes : ByteArray} {ret : Option FieldType} {hh : List (Nat × Nat × Nat × Nat)} {Ts ws ws' : List Cond} {rm : Room} (n : Nat) (ht : ∀ w ∈ Ts, w.before args s = true) (hT : GoodIn Ts (va_wsS own index y ws)) (hw : ws = Cond.codeWith y bytes maxL ret hh :: ws') (hrc : rm.cells = mc) (hrs : rm.slots = ms)
    (hd : y.cls ≠ "java/lang/invoke/MethodHandle" ∧ y.cls ≠ "java/lang/invoke/VarHandle" ∧ (parseMethodDescriptor y.desc).map (fun d => d.parameters.length) = some n) (hR : rm.frames + 1 ≤ R.frames ∧ 8 + (maxL + 11) + rm.locals ≤ R.locals) :
    vx_CSW R s args own index y bytes maxL ret hh ws rm mc ms n := by
  have ok : ∀ w ∈ va_wsS own index y ws, w.before args s = true := fun w h => ht w (hT w h).1
  have hG : GoodIn Ts ws := fun w h => hT w (by unfold va_wsS; exact List.mem_append_right _ h)
  have hc : Cond.codeWith y bytes maxL ret hh ∈ ws := by rw [hw]; exact List.mem_cons_self
  refine ⟨⟨hrc, hrs, hR.1, hR.2, pay_in ht hG, hc⟩, ht _ (hG _ hc).1, ok _ (by simp [va_wsS]), ⟨hd.1, hd.2.1⟩, fun sig h => ?_, ok _ (by simp [va_wsS]), ok _ (by simp [va_wsS])⟩
  have h2 := hd.2.2
  rw [h] at h2
  exact (Option.some.inj h2).symm
theorem vx_callSW (X : Stand p l e R s m args below meth c T locs cells slots) (hexec : p.tables.exec = Jvm.exec) {own : String} {index : Nat} {y : MethodName} {bytes : ByteArray} {maxL : Nat} {ret : Option FieldType} {hh : List (Nat × Nat × Nat × Nat)}
    (hown : s.vm.findClass own = some m.cls) (hlink : (Cond.methodLink own index y).before args s = true) (hstat : (Cond.static y).before args s = true) (hinit : (Cond.initialized y.cls).before args s = true)
    (hcode : (Cond.codeWith y bytes maxL ret hh).before args s = true) (hy : y.cls ≠ "java/lang/invoke/MethodHandle" ∧ y.cls ≠ "java/lang/invoke/VarHandle")
    {W9 : Nat} {Pre : Pt → Array Value → Prop} {Post : Pt → Array Value → Option Value → Pt → Prop} (hK : Back l R p e below s args y 3 W9 Pre Post)
    {g : JFrame} (hg : g.method = m) (hsize : g.locals.size = c.maxLocals) {argsL rest : List Value} (hlen : ∀ sig, parseMethodDescriptor y.desc = some sig → argsL.length = sig.parameters.length)
    (hstack : g.stack = argsL.reverse ++ rest) (hW : 2 * g.monitorRoom + (rest.map fun v => v.category).sum ≤ W9) (hdg : decode c.code g.pc = .ok (.invokestatic index, 3))
    (hpre : ∀ vm₁, s.WarmedH vm₁ → Pre ⟨T.setVm vm₁, locs, cells, slots⟩ argsL.toArray) :
    ∃ (v : Option Value) (vm₁ : Vm) (B : Pt), s.WarmedH vm₁ ∧ Stand p l e R s m args below meth c B.U B.locs B.cells B.slots ∧ Post ⟨T.setVm vm₁, locs, cells, slots⟩ argsL.toArray v B ∧
      ∀ target, Steps p.tables e below (B.U.setTop { g with pc := g.pc + 3, stack := v.toList ++ rest }) target → Steps p.tables e below (T.setTop g) target := by
  obtain ⟨mk, methM, cM, hnamed, hmethM, -, -, -, -, -, -, hsigM⟩ := Cond.codeWith_spec hcode
  have hstatic : methM.isStatic = true := Cond.static_spec hnamed hmethM hstat
  obtain ⟨kP, hkP, -⟩ := className_of_methodNamed hnamed
  have hinitP : kP.init = .initialized := Cond.initialized_spec (findClass_of_methodNamed hnamed) hkP hinit
  obtain ⟨vm₁, X₁, hstep₁⟩ := X.invokestatic hexec hown hlink hnamed hmethM hstatic hkP hinitP hy (g := g) hg (argsL := argsL) (rest := rest) (hlen _ hsigM) hstack hdg
  obtain ⟨v, B, X', hpost, hsteps⟩ := hK m meth c ⟨T.setVm vm₁, locs, cells, slots⟩ { g with stack := rest } (.invokestatic index) mk argsL.toArray X₁ hg hsize hdg hW (X₁.named hnamed) (hpre vm₁ X₁.warmed)
  exact ⟨v, vm₁, B, X₁.warmed, X', hpost, fun target h => hstep₁ _ fun acts => by rw [doInvoke_state]; exact hsteps.trans h⟩
theorem vx_runSW {y : MethodName} {bytes cc : ByteArray} {maxL nL mc ms n index : Nat} {ret : Option FieldType} {hh : List (Nat × Nat × Nat × Nat)} {ws : List Cond} {rm : Room} {Pc : Array Value → State → Prop} {Qc : Array Value → State → Outcome → State → Prop} {free : Addr → Prop} {Ts : List Cond} {own : String} {As rest : List Value} {g : JFrame}
    (S : CallFix p m c cc nL s args Ts own) (hM : Met l y ws rm Pc Qc mc ms free) (cw : vx_CSW R s args own index y bytes maxL ret hh ws rm mc ms n) (hp : PreS s H Pc As)
    (hg : g.method = m) (hn : As.length = n) (hsize : g.locals.size = nL) (hstack : g.stack = As.reverse ++ rest) (hW : 2 * g.monitorRoom + (rest.map fun v => v.category).sum ≤ 8) (hdg : decode cc g.pc = .ok (.invokestatic index, 3)) (hf : cells + mc ≤ R.cells ∧ slots + ms ≤ R.slots) :
    va_Run p l e R s m args below meth c H locs cells slots mc ms g rest (Qc As.toArray) (free) := by
  obtain ⟨⟨hrc, hrs, hfr, hlo, hws, hcw⟩, hcode, hini, hy, hlen, hl, hstt⟩ := cw
  have hK : Back l R p e below s args y 3 8 (PreOf R mc ms Pc) (PostOf Qc mc ms free) := va_backW (hh := hh) (bytes := bytes) (maxL := maxL) (ret := ret) hM hp.1 hrc hrs hfr hlo hws hcw (fun a' U hW => word_at hW (Or.inl (by first | rfl | simp [Cond.onTables, Cond.keeps, Cond.steady])) hini)
  obtain ⟨hx, hb, hml, ho, -⟩ := S
  intro T hT X
  obtain ⟨v, vm₁, ⟨U', l2, c2, s2⟩, hW₁, X', ⟨g', mk, t, L, e1, e2, hq, h1, hL, h2, h3⟩, st⟩ := vx_callSW X hx (hh := hh) (bytes := bytes) (maxL := maxL) (ret := ret) ho hl hstt hini hcode hy hK hg (hsize.trans hml.symm) (argsL := As) (rest := rest) (fun sig h => hn.trans (hlen sig h)) hstack hW (by rw [hb]; exact hdg)
    (fun vm₁ hW₁ => ⟨hf.1, hf.2, hp.2 (T.setVm vm₁) hT hW₁⟩)
  dsimp only [Pt.U, Pt.locs, Pt.cells, Pt.slots] at X' e1 e2 h1 h2 h3 st
  subst h1; subst h2; subst h3
  exact ⟨v, (T.setVm vm₁).calling g' mk As.toArray, t, U', L, hT, X', hL, e1, e2, hq, st⟩
/-- not caught here, past rows that name other classes: it goes on to the caller -/
theorem vx_outP {p : Program} {l : Launch} {e : Env} {R : Room} {s : State} {m : MethodId} {args : Array Value} {below : List Frame} {meth : Method} {c : Code} {H : Heap} {locs : List Loc} {cells slots : Nat} {free : Addr → Prop} {ls : Array Slot} {rest : List Value} {Qc : Array Value → State → Outcome → State → Prop} {XC : String → State → State → Prop}
    {pc : Nat} {own E : String} {ce : Cell} {q : Addr} {mc ms : Nat} (hown : s.vm.findClass own = some m.cls) (hlocks : meth.locks = false)
    (hpass : ∀ z ∈ c.exceptionTable.toList, covers z pc = false ∨ (z.catchType ≠ 0 ∧ ∃ nm : String, (Cond.classLink own z.catchType nm).before args s = true ∧ va_Nc E nm s)) (hcell : H[q]? = some ce) (hv : ce.vm = .none) (hcl : s.vm.findClass E = some ce.cls)
    (hx : ∀ t : State, t.heap = H → s.vm.Alike t.vm → XC E s t) (hf : ∀ z ∈ locs, free z.base) (hc : cells ≤ mc) (hs : slots ≤ ms) :
    vx_W p l e R s m args below meth c H locs cells slots (vx_MQ below Qc XC args s mc ms free) (F0 m pc ls rest) q := by
  intro T hT X
  have hpl : e.platform.magicAccessors = ({} : Platform).magicAccessors := by rw [X.admits.platform]
  obtain ⟨vm', hW', X', st⟩ := X.outThrough hlocks q (g := F0 m pc ls rest) rfl rfl rfl (cell := ce) (by rw [hT]; exact hcell) (by rw [hv]; rfl)
    (by obtain ⟨k9, h9, -⟩ := Vm.findClass_spec hcl; exact ⟨k9, h9⟩) (fun z hz => by
      rcases hpass z hz with h | ⟨hz0, nm, hl1, hn1⟩
      · exact Or.inl h
      · obtain ⟨c6, hc6, hcl6⟩ := Cond.classLink_spec hown hl1 e.platform hpl
        obtain ⟨a8, b8, h1, h2, h3⟩ := hn1
        cases Option.some.inj (h1.symm.trans hcl)
        cases Option.some.inj (h2.symm.trans hc6)
        exact Or.inr ⟨hz0, _, hcl6, h3⟩)
  obtain ⟨g₀, hfr⟩ := X'.frames_eq
  have hcell9 : ((T.setVm vm').setFrames (.throwing q :: below)).heap[q]? = some ce := by
    show T.heap[q]? = some ce
    rw [hT]; exact hcell
  have hend : Ended ((T.setVm vm').setFrames (.throwing q :: below)) below (.threw q) := State.frames_setFrames _ (State.cur_lt_of_frames hfr)
  refine ⟨(T.setVm vm').setFrames (.throwing q :: below), ?_, .threw q, X'.here.running, hend, Or.inr ⟨q, rfl, E, ce, locs, hx _ hT (X'.ends _).1.alike, hcell9, hv, hcl, (X'.ends _).1, (X'.ends _).2.mono hc hs, hf⟩⟩
  rw [X.pushThrowing_eq]
  exact st
/-- a thing of a world lies in the heap -/
theorem vx_lt {D : va_G} {cl : List vw_C} {ws : va_W} {H1 : Heap} (h : va_P D cl ws H1) {k : Nat} {q : Nat × va_E} (hk : ws[k]? = some q) : q.1 < H1.size := (h k q hk).lt
end VXS
/-! ===== END ===== -/
/-! ===== BEGIN methods with a table of their own: called by a name, returning or throwing ===== -/
section VXH
/-! vx_backW, vx_callVX, vx_callSX, vx_callVW, vx_runVW, vx_runVX, vx_runSX, vx_ofWH follow the same proofs as their sisters above (Free/Laws.lean, Shelf42/LK1.lean); vx_outP calls Shelf42/NT130.lean (outThrough). -/
section
variable {l : Launch} {R : Room} {p : Program} {e : Env} {below : List Frame} {s : State} {sargs : Array Value} {y : MethodName} {len W9 : Nat}
theorem vx_backW {ws : List Cond} {rm : Room} {Pc : Array Value → State → Prop} {Qc : Array Value → State → Outcome → State → Prop} {XC : String → State → State → Prop} {mc ms : Nat} {free : Addr → Prop} {bytes : ByteArray} {maxL : Nat} {ret : Option FieldType} {hh : List (Nat × Nat × Nat × Nat)}
    (hM : vx_Met l y ws rm Pc Qc XC mc ms free) (hblind : FrameBlind Pc) (hrc : rm.cells = mc) (hrs : rm.slots = ms)
    (hframes : rm.frames + 1 ≤ R.frames) (hlocals : W9 + (maxL + 11) + rm.locals ≤ R.locals)
    (hws : ∀ w ∈ ws, ∀ a' U, s.WarmedH U.vm → w.before a' U = true) (hcode : Cond.codeWith y bytes maxL ret hh ∈ ws) (hinit : ∀ a' U, s.WarmedH U.vm → (Cond.initialized y.cls).before a' U = true) :
    vx_Back l R p e below s sargs y len W9 (PreOf R mc ms Pc) (PostOf Qc mc ms free) (vx_Post XC mc ms free) := by
  intro m meth c A g ig mk a X hg hsize hdg hW hn hp
  have h1 : (headSpec ws rm).pre.before a A.U = true := atoms_intro fun w hw => hws w hw _ _ X.warmed
  have h2 : (Cond.codeWith y bytes maxL ret hh).before a A.U = true := hws _ hcode _ _ X.warmed
  have h3 : (Cond.initialized y.cls).before a A.U = true := hinit _ _ X.warmed
  have h4 : A.cells + (headSpec ws rm).room.cells ≤ R.cells := by rw [show (headSpec ws rm).room.cells = mc from hrc]; exact hp.1
  have h5 : A.slots + (headSpec ws rm).room.slots ≤ R.slots := by rw [show (headSpec ws rm).room.slots = ms from hrs]; exact hp.2.1
  have hPc : Pc a (A.U.calling g mk a) := hblind _ _ _ _ hp.2.2
  obtain ⟨U, Ls, c0, s0⟩ := A
  dsimp only [Pt.U, Pt.locs, Pt.cells, Pt.slots] at h1 h2 h3 h4 h5 X hn hPc ⊢
  obtain ⟨m9, methY, cY, hn9, hmY, hcY, -, hlY, -⟩ := Cond.codeWith_spec h2
  cases Option.some.inj (hn9.symm.trans hn)
  obtain ⟨kY, hkY, -⟩ := className_of_methodNamed hn
  have hinitY : kY.init = .initialized := Cond.initialized_spec (findClass_of_methodNamed hn) hkY h3
  have h : At U g.method c below := by rw [hg]; exact X.here
  have hlocals9 : W9 + (maxL + 11) + (headSpec ws rm).room.locals ≤ R.locals := hlocals
  have happ : (headSpec ws rm).appliesLoose y e.platform (U.calling g mk a) = true :=
    Spec.appliesLoose_calling (g := g) h hdg hn hkY hinitY
      (X.room_calling (g := g) (R' := (headSpec ws rm).room) hsize hmY hcY hframes (by rw [hlY]; omega) h4 h5) h1
  obtain ⟨mid, hmid⟩ := h.above
  have hfr : (U.setTop g).frames = (.java g :: mid) ++ below := by rw [State.frames_setTop' g h.top, hmid]; rfl
  obtain ⟨o, s₂, hsteps, -, hend, hq⟩ := Steps.callFree hM p X.admits X.cas X.clock (acts := []) hfr happ hPc trivial
  have hq' : vx_Q Qc XC mc ms free a (U.calling g mk a) o s₂ := hq
  rw [State.frames_setTop' g h.top] at hend
  obtain ⟨g₀, hg0⟩ := Option.isSome_iff_exists.mp h.top
  obtain ⟨r, hr⟩ := State.topJava?_eq_some.mp hg0
  have hr' : (({ U with heap := s₂.heap, slotsUsed := s₂.slotsUsed } : State).setVm s₂.vm).frames = .java g₀ :: r := hr
  rcases hq' with ⟨hqc, L, hfe, hL⟩ | ⟨q, rfl, E, ce, L, hx, hce, hcv, hcl, hW₂, hsm, hL⟩
  · obtain ⟨⟨v, rfl⟩, hW₂, e2, q2, q3, q4, q5, q6⟩ := id hfe
    have e3 : s₂ = ({ (U.calling g mk a).setFrames s₂.frames with heap := s₂.heap, slotsUsed := s₂.slotsUsed } : State).setVm s₂.vm := by
      have : s₂ = ({ s₂ with vm := (U.calling g mk a).vm } : State).setVm s₂.vm := rfl
      rw [e2] at this
      exact this
    obtain ⟨c₂, i₂, len₂, hc₂, hd₂, hf₂⟩ := hend
    have hW' : U.WarmedH s₂.vm := hW₂
    have hcc : c₂ = c := by
      have h1 : s₂.code? g.method = U.code? g.method := by
        rw [State.code?_eq, State.code?_eq, hW'.alike.method?]
      exact Option.some.inj (hc₂.symm.trans (h1.trans h.code))
    subst hcc
    have hlen : len₂ = len := by rw [hdg] at hd₂; cases hd₂; rfl
    subst hlen
    have hs₂ : s₂ = (({ U with heap := s₂.heap, slotsUsed := s₂.slotsUsed } : State).setVm s₂.vm).setTop { g with pc := g.pc + len₂, stack := v.toList ++ g.stack } := by
      refine e3.trans ?_
      rw [hf₂, State.calling_eq h.top, State.setFrames_setFrames, State.setTop_of_frames _ hr', hr]
      rfl
    have hsame : U.sameButNew ({ U with heap := s₂.heap, slotsUsed := s₂.slotsUsed } : State) L mc ms := by
      refine ⟨?_, q2, q3, q4, q5, q6⟩
      obtain ⟨t, ht, -⟩ := State.frames_cons hr
      show ({ U with heap := s₂.heap, slotsUsed := s₂.slotsUsed } : State) = { U.setFrames U.frames with heap := s₂.heap, slotsUsed := s₂.slotsUsed }
      rw [State.setFrames_self ht]
    subst hg
    refine Or.inl ⟨v, ⟨(({ U with heap := s₂.heap, slotsUsed := s₂.slotsUsed } : State).setVm s₂.vm), Ls ++ L, c0 + mc, s0 + ms⟩,
      ⟨X.admits, X.cas, X.clock, X.frames, X.room, X.hears, X.method, X.code, (X.here.setHeapUsed s₂.heap s₂.slotsUsed).setVm hW'.alike, X.tail, State.WarmedH.trans X.warmed hW', X.limits, X.bytes, X.same.trans (hsame.setVm s.vm)⟩,
      ⟨g, mk, s₂, L, rfl, rfl, hqc, rfl, hL, rfl, rfl⟩, ?_⟩
    show Steps p.tables e below _ ((({ U with heap := s₂.heap, slotsUsed := s₂.slotsUsed } : State).setVm s₂.vm).setTop { g with pc := g.pc + len₂, stack := v.toList ++ g.stack })
    rw [← hs₂]
    exact hsteps
  · obtain ⟨e2, q2, q3, q4, q5, q6⟩ := id hsm
    have e3 : s₂ = ({ (U.calling g mk a).setFrames s₂.frames with heap := s₂.heap, slotsUsed := s₂.slotsUsed } : State).setVm s₂.vm := by
      have : s₂ = ({ s₂ with vm := (U.calling g mk a).vm } : State).setVm s₂.vm := rfl
      rw [e2] at this
      exact this
    have hf₂ : s₂.frames = .throwing q :: .java g :: U.frames.tail := hend
    have hW' : U.WarmedH s₂.vm := hW₂
    have hs₂ : s₂ = ((({ U with heap := s₂.heap, slotsUsed := s₂.slotsUsed } : State).setVm s₂.vm).setTop g).pushFrame (.throwing q) := by
      refine e3.trans ?_
      rw [hf₂, State.calling_eq h.top, State.setFrames_setFrames, State.pushFrame, State.frames_setTop _ hr', State.setTop_of_frames _ hr', State.setFrames_setFrames, hr]
      rfl
    have hsame : U.sameButNew ({ U with heap := s₂.heap, slotsUsed := s₂.slotsUsed } : State) L mc ms := by
      refine ⟨?_, q2, q3, q4, q5, q6⟩
      obtain ⟨t, ht, -⟩ := State.frames_cons hr
      show ({ U with heap := s₂.heap, slotsUsed := s₂.slotsUsed } : State) = { U.setFrames U.frames with heap := s₂.heap, slotsUsed := s₂.slotsUsed }
      rw [State.setFrames_self ht]
    subst hg
    refine Or.inr ⟨q, ⟨(({ U with heap := s₂.heap, slotsUsed := s₂.slotsUsed } : State).setVm s₂.vm), Ls ++ L, c0 + mc, s0 + ms⟩,
      ⟨X.admits, X.cas, X.clock, X.frames, X.room, X.hears, X.method, X.code, (X.here.setHeapUsed s₂.heap s₂.slotsUsed).setVm hW'.alike, X.tail, State.WarmedH.trans X.warmed hW', X.limits, X.bytes, X.same.trans (hsame.setVm s.vm)⟩,
      ⟨g, mk, s₂, L, E, ce, rfl, rfl, hx, hce, hcv, hcl, rfl, hL, rfl, rfl⟩, ?_⟩
    show Steps p.tables e below _ (((({ U with heap := s₂.heap, slotsUsed := s₂.slotsUsed } : State).setVm s₂.vm).setTop g).pushFrame (.throwing q))
    rw [← hs₂]
    exact hsteps
end
variable {p : Program} {l : Launch} {e : Env} {R : Room} {s : State} {m : MethodId} {args : Array Value} {below : List Frame} {meth : Method} {c : Code} {T : State} {H : Heap} {locs : List Loc} {cells slots : Nat}
theorem vx_callVX (X : Stand p l e R s m args below meth c T locs cells slots) (hexec : p.tables.exec = Jvm.exec) {own C : String} {index : Nat} {y : MethodName} {bytes : ByteArray} {maxL : Nat} {ret : Option FieldType} {hh : List (Nat × Nat × Nat × Nat)}
    (hown : s.vm.findClass own = some m.cls) (hlink : (Cond.methodLink own index y).before args s = true) (hinst : (Cond.instanceMethod y).before args s = true) (hsel : (Cond.selects C y y).before args s = true)
    (hcode : (Cond.codeWith y bytes maxL ret hh).before args s = true) (hy : y.cls ≠ "java/lang/invoke/MethodHandle" ∧ y.cls ≠ "java/lang/invoke/VarHandle")
    {W9 : Nat} {Pre : Pt → Array Value → Prop} {Post : Pt → Array Value → Option Value → Pt → Prop} {PostX : Pt → Array Value → Addr → Pt → Prop} (hK : vx_Back l R p e below s args y 3 W9 Pre Post PostX)
    {b : Addr} {cellB : Cell} (hcell : T.heap[b]? = some cellB) (hobj : cellB.vm.isStatics = false) (hcls : s.vm.findClass C = some cellB.cls)
    {g : JFrame} (hg : g.method = m) (hsize : g.locals.size = c.maxLocals) {argsL rest : List Value} (hlen : ∀ sig, parseMethodDescriptor y.desc = some sig → argsL.length = sig.parameters.length)
    (hstack : g.stack = argsL.reverse ++ .ref b :: rest) (hW : 2 * g.monitorRoom + (rest.map fun v => v.category).sum ≤ W9) (hdg : decode c.code g.pc = .ok (.invokevirtual index, 3))
    (hpre : ∀ vm₁, s.WarmedH vm₁ → Pre ⟨T.setVm vm₁, locs, cells, slots⟩ (Value.ref b :: argsL).toArray) :
    (∃ (v : Option Value) (vm₁ : Vm) (B : Pt), s.WarmedH vm₁ ∧ Stand p l e R s m args below meth c B.U B.locs B.cells B.slots ∧ Post ⟨T.setVm vm₁, locs, cells, slots⟩ (Value.ref b :: argsL).toArray v B ∧
      ∀ target, Steps p.tables e below (B.U.setTop { g with pc := g.pc + 3, stack := v.toList ++ rest }) target → Steps p.tables e below (T.setTop g) target) ∨
    (∃ (q : Addr) (vm₁ : Vm) (B : Pt), s.WarmedH vm₁ ∧ Stand p l e R s m args below meth c B.U B.locs B.cells B.slots ∧ PostX ⟨T.setVm vm₁, locs, cells, slots⟩ (Value.ref b :: argsL).toArray q B ∧
      Steps p.tables e below (T.setTop g) ((B.U.setTop { g with stack := rest }).pushFrame (.throwing q))) := by
  obtain ⟨mk, methM, hnamed, hmethM, hstM, habM⟩ := Cond.instanceMethod_spec hinst
  obtain ⟨m8, methM', cM, hn8, hmethM', -, -, -, -, -, -, hsigM⟩ := Cond.codeWith_spec hcode
  cases Option.some.inj (hn8.symm.trans hnamed)
  cases hmethM.symm.trans hmethM'
  obtain ⟨c2, r2, m2, q1, q2, q3, q4, kP, hkP, hkPi⟩ := Cond.selects_spec hsel
  cases hcls.symm.trans q1
  cases (State.methodFound?_of_named hnamed hy).symm.trans q2
  cases hnamed.symm.trans q3
  have hselP : selectMethod e.platform s.vm cellB.cls mk = .method mk := by rw [Launch.admits_selectMethod X.admits]; exact q4
  obtain ⟨vm₁, X₁, hstep₁⟩ := X.invokevirtual hexec hown hlink hnamed hmethM hstM hkP hkPi hy (a := b) (cell := cellB) hcell
    (fun z h => by rw [h] at hobj; cases hobj) hselP hmethM habM hkP hkPi (g := g) hg (argsL := argsL) (rest := rest) (hlen _ hsigM) hstack hdg
  rcases hK m meth c ⟨T.setVm vm₁, locs, cells, slots⟩ { g with stack := rest } (.invokevirtual index) mk (Value.ref b :: argsL).toArray X₁ hg hsize hdg hW (X₁.named hnamed) (hpre vm₁ X₁.warmed) with ⟨v, B, X', hpost, hsteps⟩ | ⟨q, B, X', hpost, hsteps⟩
  · exact Or.inl ⟨v, vm₁, B, X₁.warmed, X', hpost, fun target h => hstep₁ _ fun acts => by rw [doInvoke_state]; exact hsteps.trans h⟩
  · exact Or.inr ⟨q, vm₁, B, X₁.warmed, X', hpost, hstep₁ _ fun acts => by rw [doInvoke_state]; exact hsteps⟩
theorem vx_callSX (X : Stand p l e R s m args below meth c T locs cells slots) (hexec : p.tables.exec = Jvm.exec) {own : String} {index : Nat} {y : MethodName} {bytes : ByteArray} {maxL : Nat} {ret : Option FieldType} {hh : List (Nat × Nat × Nat × Nat)}
    (hown : s.vm.findClass own = some m.cls) (hlink : (Cond.methodLink own index y).before args s = true) (hstat : (Cond.static y).before args s = true) (hinit : (Cond.initialized y.cls).before args s = true)
    (hcode : (Cond.codeWith y bytes maxL ret hh).before args s = true) (hy : y.cls ≠ "java/lang/invoke/MethodHandle" ∧ y.cls ≠ "java/lang/invoke/VarHandle")
    {W9 : Nat} {Pre : Pt → Array Value → Prop} {Post : Pt → Array Value → Option Value → Pt → Prop} {PostX : Pt → Array Value → Addr → Pt → Prop} (hK : vx_Back l R p e below s args y 3 W9 Pre Post PostX)
    {g : JFrame} (hg : g.method = m) (hsize : g.locals.size = c.maxLocals) {argsL rest : List Value} (hlen : ∀ sig, parseMethodDescriptor y.desc = some sig → argsL.length = sig.parameters.length)
    (hstack : g.stack = argsL.reverse ++ rest) (hW : 2 * g.monitorRoom + (rest.map fun v => v.category).sum ≤ W9) (hdg : decode c.code g.pc = .ok (.invokestatic index, 3))
    (hpre : ∀ vm₁, s.WarmedH vm₁ → Pre ⟨T.setVm vm₁, locs, cells, slots⟩ argsL.toArray) :
    (∃ (v : Option Value) (vm₁ : Vm) (B : Pt), s.WarmedH vm₁ ∧ Stand p l e R s m args below meth c B.U B.locs B.cells B.slots ∧ Post ⟨T.setVm vm₁, locs, cells, slots⟩ argsL.toArray v B ∧
      ∀ target, Steps p.tables e below (B.U.setTop { g with pc := g.pc + 3, stack := v.toList ++ rest }) target → Steps p.tables e below (T.setTop g) target) ∨
    (∃ (q : Addr) (vm₁ : Vm) (B : Pt), s.WarmedH vm₁ ∧ Stand p l e R s m args below meth c B.U B.locs B.cells B.slots ∧ PostX ⟨T.setVm vm₁, locs, cells, slots⟩ argsL.toArray q B ∧
      Steps p.tables e below (T.setTop g) ((B.U.setTop { g with stack := rest }).pushFrame (.throwing q))) := by
  obtain ⟨mk, methM, cM, hnamed, hmethM, -, -, -, -, -, -, hsigM⟩ := Cond.codeWith_spec hcode
  have hstatic : methM.isStatic = true := Cond.static_spec hnamed hmethM hstat
  obtain ⟨kP, hkP, -⟩ := className_of_methodNamed hnamed
  have hinitP : kP.init = .initialized := Cond.initialized_spec (findClass_of_methodNamed hnamed) hkP hinit
  obtain ⟨vm₁, X₁, hstep₁⟩ := X.invokestatic hexec hown hlink hnamed hmethM hstatic hkP hinitP hy (g := g) hg (argsL := argsL) (rest := rest) (hlen _ hsigM) hstack hdg
  rcases hK m meth c ⟨T.setVm vm₁, locs, cells, slots⟩ { g with stack := rest } (.invokestatic index) mk argsL.toArray X₁ hg hsize hdg hW (X₁.named hnamed) (hpre vm₁ X₁.warmed) with ⟨v, B, X', hpost, hsteps⟩ | ⟨q, B, X', hpost, hsteps⟩
  · exact Or.inl ⟨v, vm₁, B, X₁.warmed, X', hpost, fun target h => hstep₁ _ fun acts => by rw [doInvoke_state]; exact hsteps.trans h⟩
  · exact Or.inr ⟨q, vm₁, B, X₁.warmed, X', hpost, hstep₁ _ fun acts => by rw [doInvoke_state]; exact hsteps⟩
theorem vx_callVW (X : Stand p l e R s m args below meth c T locs cells slots) (hexec : p.tables.exec = Jvm.exec) {own C : String} {index : Nat} {y : MethodName} {bytes : ByteArray} {maxL : Nat} {ret : Option FieldType} {hh : List (Nat × Nat × Nat × Nat)}
    (hown : s.vm.findClass own = some m.cls) (hlink : (Cond.methodLink own index y).before args s = true) (hinst : (Cond.instanceMethod y).before args s = true) (hsel : (Cond.selects C y y).before args s = true)
    (hcode : (Cond.codeWith y bytes maxL ret hh).before args s = true) (hy : y.cls ≠ "java/lang/invoke/MethodHandle" ∧ y.cls ≠ "java/lang/invoke/VarHandle")
    {W9 : Nat} {Pre : Pt → Array Value → Prop} {Post : Pt → Array Value → Option Value → Pt → Prop} (hK : Back l R p e below s args y 3 W9 Pre Post)
    {b : Addr} {cellB : Cell} (hcell : T.heap[b]? = some cellB) (hobj : cellB.vm.isStatics = false) (hcls : s.vm.findClass C = some cellB.cls)
    {g : JFrame} (hg : g.method = m) (hsize : g.locals.size = c.maxLocals) {argsL rest : List Value} (hlen : ∀ sig, parseMethodDescriptor y.desc = some sig → argsL.length = sig.parameters.length)
    (hstack : g.stack = argsL.reverse ++ .ref b :: rest) (hW : 2 * g.monitorRoom + (rest.map fun v => v.category).sum ≤ W9) (hdg : decode c.code g.pc = .ok (.invokevirtual index, 3))
    (hpre : ∀ vm₁, s.WarmedH vm₁ → Pre ⟨T.setVm vm₁, locs, cells, slots⟩ (Value.ref b :: argsL).toArray) :
    ∃ (v : Option Value) (vm₁ : Vm) (B : Pt), s.WarmedH vm₁ ∧ Stand p l e R s m args below meth c B.U B.locs B.cells B.slots ∧ Post ⟨T.setVm vm₁, locs, cells, slots⟩ (Value.ref b :: argsL).toArray v B ∧
      ∀ target, Steps p.tables e below (B.U.setTop { g with pc := g.pc + 3, stack := v.toList ++ rest }) target → Steps p.tables e below (T.setTop g) target := by
  obtain ⟨mk, methM, hnamed, hmethM, hstM, habM⟩ := Cond.instanceMethod_spec hinst
  obtain ⟨m8, methM', cM, hn8, hmethM', -, -, -, -, -, -, hsigM⟩ := Cond.codeWith_spec hcode
  cases Option.some.inj (hn8.symm.trans hnamed)
  cases hmethM.symm.trans hmethM'
  obtain ⟨c2, r2, m2, q1, q2, q3, q4, kP, hkP, hkPi⟩ := Cond.selects_spec hsel
  cases hcls.symm.trans q1
  cases (State.methodFound?_of_named hnamed hy).symm.trans q2
  cases hnamed.symm.trans q3
  have hselP : selectMethod e.platform s.vm cellB.cls mk = .method mk := by rw [Launch.admits_selectMethod X.admits]; exact q4
  obtain ⟨vm₁, X₁, hstep₁⟩ := X.invokevirtual hexec hown hlink hnamed hmethM hstM hkP hkPi hy (a := b) (cell := cellB) hcell
    (fun z h => by rw [h] at hobj; cases hobj) hselP hmethM habM hkP hkPi (g := g) hg (argsL := argsL) (rest := rest) (hlen _ hsigM) hstack hdg
  obtain ⟨v, B, X', hpost, hsteps⟩ := hK m meth c ⟨T.setVm vm₁, locs, cells, slots⟩ { g with stack := rest } (.invokevirtual index) mk (Value.ref b :: argsL).toArray X₁ hg hsize hdg hW (X₁.named hnamed) (hpre vm₁ X₁.warmed)
  exact ⟨v, vm₁, B, X₁.warmed, X', hpost, fun target h => hstep₁ _ fun acts => by rw [doInvoke_state]; exact hsteps.trans h⟩
abbrev vx_CVW (R : Room) (s : State) (args : Array Value) (own C : String) (index : Nat) (y : MethodName) (bytes : ByteArray) (maxL : Nat) (ret : Option FieldType) (hh : List (Nat × Nat × Nat × Nat)) (ws : List Cond) (rm : Room) (mc ms n : Nat) : Prop :=
  (rm.cells = mc ∧ rm.slots = ms ∧ rm.frames + 1 ≤ R.frames ∧ 8 + (maxL + 11) + rm.locals ≤ R.locals ∧ (∀ w ∈ ws, ∀ (a' : Array Value) (U : State), s.WarmedH U.vm → w.before a' U = true) ∧ Cond.codeWith y bytes maxL ret hh ∈ ws) ∧
  (Cond.codeWith y bytes maxL ret hh).before args s = true ∧ (Cond.initialized y.cls).before args s = true ∧ (y.cls ≠ "java/lang/invoke/MethodHandle" ∧ y.cls ≠ "java/lang/invoke/VarHandle") ∧
  (∀ sig, parseMethodDescriptor y.desc = some sig → n = sig.parameters.length) ∧ (Cond.methodLink own index y).before args s = true ∧ (Cond.instanceMethod y).before args s = true ∧ (Cond.selects C y y).before args s = true
theorem vx_cwVW {own C : String} {index maxL mc ms : Nat} {y : MethodName} {bytes : ByteArray} {ret : Option FieldType} {hh : List (Nat × Nat × Nat × Nat)} {Ts ws ws' : List Cond} {rm : Room} (n : Nat) (ht : ∀ w ∈ Ts, w.before args s = true) (hT : GoodIn Ts (wsV own index C y ws)) (hw : ws = Cond.codeWith y bytes maxL ret hh :: ws') (hrc : rm.cells = mc) (hrs : rm.slots = ms)
    (hd : y.cls = C ∧ y.cls ≠ "java/lang/invoke/MethodHandle" ∧ y.cls ≠ "java/lang/invoke/VarHandle" ∧ (parseMethodDescriptor y.desc).map (fun d => d.parameters.length) = some n) (hR : rm.frames + 1 ≤ R.frames ∧ 8 + (maxL + 11) + rm.locals ≤ R.locals) :
    vx_CVW R s args own C index y bytes maxL ret hh ws rm mc ms n := by
  obtain ⟨hC, hd⟩ := hd
  subst hC
  have ok : ∀ w ∈ wsV own index y.cls y ws, w.before args s = true := fun w h => ht w (hT w h).1
  have hG : GoodIn Ts ws := fun w h => hT w (by unfold wsV; exact List.mem_append_right _ h)
  have hc : Cond.codeWith y bytes maxL ret hh ∈ ws := by rw [hw]; exact List.mem_cons_self
  refine ⟨⟨hrc, hrs, hR.1, hR.2, pay_in ht hG, hc⟩, ht _ (hG _ hc).1, ok _ (by simp [wsV]), ⟨hd.1, hd.2.1⟩, fun sig h => ?_, ok _ (by simp [wsV]), ok _ (by simp [wsV]), ok _ (by simp [wsV])⟩
  have h2 := hd.2.2
  rw [h] at h2
  exact (Option.some.inj h2).symm
theorem vx_runVW {y : MethodName} {bytes cc : ByteArray} {maxL nL mc ms n index : Nat} {ret : Option FieldType} {hh : List (Nat × Nat × Nat × Nat)} {ws : List Cond} {rm : Room} {Pc : Array Value → State → Prop} {Qc : Array Value → State → Outcome → State → Prop} {free : Addr → Prop} {Ts : List Cond} {own C : String} {b : Addr} {As rest : List Value} {g : JFrame}
    (S : CallFix p m c cc nL s args Ts own) (hM : Met l y ws rm Pc Qc mc ms free) (cw : vx_CVW R s args own C index y bytes maxL ret hh ws rm mc ms n) (hp : PreV s H C b Pc As)
    (hg : g.method = m) (hn : As.length = n) (hsize : g.locals.size = nL) (hstack : g.stack = As.reverse ++ .ref b :: rest) (hW : 2 * g.monitorRoom + (rest.map fun v => v.category).sum ≤ 8) (hdg : decode cc g.pc = .ok (.invokevirtual index, 3)) (hf : cells + mc ≤ R.cells ∧ slots + ms ≤ R.slots) :
    va_Run p l e R s m args below meth c H locs cells slots mc ms g rest (Qc (Value.ref b :: As).toArray) free := by
  obtain ⟨⟨hrc, hrs, hfr, hlo, hws, hcw⟩, hcode, hini, hy, hlen, hl, hin, hse⟩ := cw
  have hK : Back l R p e below s args y 3 8 (PreOf R mc ms Pc) (PostOf Qc mc ms free) := va_backW (hh := hh) (bytes := bytes) (maxL := maxL) (ret := ret) hM hp.1 hrc hrs hfr hlo hws hcw (fun a' U hW => word_at hW (Or.inl (by first | rfl | simp [Cond.onTables, Cond.keeps, Cond.steady])) hini)
  obtain ⟨hx, hb, hml, ho, -⟩ := S
  obtain ⟨-, ⟨cellB, hcB, hoB, hclB⟩, hPc⟩ := hp
  intro T hT X
  obtain ⟨v, vm₁, ⟨U', l2, c2, s2⟩, hW₁, X', ⟨g', mk, t, L, e1, e2, hq, h1, hL, h2, h3⟩, st⟩ := vx_callVW X hx (C := C) (hh := hh) (bytes := bytes) (maxL := maxL) (ret := ret) ho hl hin hse hcode hy hK (by rw [hT]; exact hcB) hoB hclB hg (hsize.trans hml.symm) (argsL := As) (rest := rest) (fun sig h => hn.trans (hlen sig h)) hstack hW (by rw [hb]; exact hdg)
    (fun vm₁ hW₁ => ⟨hf.1, hf.2, hPc (T.setVm vm₁) hT hW₁⟩)
  dsimp only [Pt.U, Pt.locs, Pt.cells, Pt.slots] at X' e1 e2 h1 h2 h3 st
  subst h1; subst h2; subst h3
  exact ⟨v, (T.setVm vm₁).calling g' mk (Value.ref b :: As).toArray, t, U', L, hT, X', hL, e1, e2, hq, st⟩
section
variable {y : MethodName} {bytes cc : ByteArray} {maxL nL mc ms n index : Nat} {ret : Option FieldType} {ws : List Cond} {rm : Room} {Pc : Array Value → State → Prop} {Qc : Array Value → State → Outcome → State → Prop} {XC : String → State → State → Prop} {free : Addr → Prop} {Ts : List Cond} {own C : String} {b : Addr} {As rest : List Value} {g : JFrame}
theorem vx_runVX {hh : List (Nat × Nat × Nat × Nat)} (S : CallFix p m c cc nL s args Ts own) (hM : vx_Met l y ws rm Pc Qc XC mc ms free) (cw : vx_CVW R s args own C index y bytes maxL ret hh ws rm mc ms n) (hp : PreV s H C b Pc As)
    (hg : g.method = m) (hn : As.length = n) (hsize : g.locals.size = nL) (hstack : g.stack = As.reverse ++ .ref b :: rest) (hW : 2 * g.monitorRoom + (rest.map fun v => v.category).sum ≤ 8) (hdg : decode cc g.pc = .ok (.invokevirtual index, 3)) (hf : cells + mc ≤ R.cells ∧ slots + ms ≤ R.slots) :
    vx_Run p l e R s m args below meth c H locs cells slots mc ms g rest (Qc (Value.ref b :: As).toArray) XC free := by
  obtain ⟨⟨hrc, hrs, hfr, hlo, hws, hcw⟩, hcode, hini, hy, hlen, hl, hin, hse⟩ := cw
  have hK : vx_Back l R p e below s args y 3 8 (PreOf R mc ms Pc) (PostOf Qc mc ms free) (vx_Post XC mc ms free) := vx_backW (hh := hh) (bytes := bytes) (maxL := maxL) (ret := ret) hM hp.1 hrc hrs hfr hlo hws hcw (fun a' U hW => word_at hW (Or.inl (by first | rfl | simp [Cond.onTables, Cond.keeps, Cond.steady])) hini)
  obtain ⟨hx, hb, hml, ho, -⟩ := S
  obtain ⟨-, ⟨cellB, hcB, hoB, hclB⟩, hPc⟩ := hp
  intro T hT X
  rcases vx_callVX X hx (C := C) (hh := hh) (bytes := bytes) (maxL := maxL) (ret := ret) ho hl hin hse hcode hy hK (by rw [hT]; exact hcB) hoB hclB hg (hsize.trans hml.symm) (argsL := As) (rest := rest) (fun sig h => hn.trans (hlen sig h)) hstack hW (by rw [hb]; exact hdg)
    (fun vm₁ hW₁ => ⟨hf.1, hf.2, hPc (T.setVm vm₁) hT hW₁⟩) with ⟨v, vm₁, ⟨U', l2, c2, s2⟩, hW₁, X', ⟨g', mk, t, L, e1, e2, hq, h1, hL, h2, h3⟩, st⟩ | ⟨q, vm₁, ⟨U', l2, c2, s2⟩, hW₁, X', ⟨g', mk, t, L, E, ce, e1, e2, hq, hce, hcv, hcl, h1, hL, h2, h3⟩, st⟩
  · dsimp only [Pt.U, Pt.locs, Pt.cells, Pt.slots] at X' e1 e2 h1 h2 h3 st
    subst h1; subst h2; subst h3
    exact Or.inl ⟨v, (T.setVm vm₁).calling g' mk (Value.ref b :: As).toArray, t, U', L, hT, X', hL, e1, e2, hq, st⟩
  · dsimp only [Pt.U, Pt.locs, Pt.cells, Pt.slots] at X' e1 e2 h1 h2 h3 st hcl
    subst h1; subst h2; subst h3
    exact Or.inr ⟨q, (T.setVm vm₁).calling g' mk (Value.ref b :: As).toArray, t, U', L, E, ce, hT, X', hL, e1, e2, hq, hce, hcv, vx_cls hW₁ hcl, st⟩
theorem vx_runSX {hh : List (Nat × Nat × Nat × Nat)} (S : CallFix p m c cc nL s args Ts own) (hM : vx_Met l y ws rm Pc Qc XC mc ms free) (cw : vx_CSW R s args own index y bytes maxL ret hh ws rm mc ms n) (hp : PreS s H Pc As)
    (hg : g.method = m) (hn : As.length = n) (hsize : g.locals.size = nL) (hstack : g.stack = As.reverse ++ rest) (hW : 2 * g.monitorRoom + (rest.map fun v => v.category).sum ≤ 8) (hdg : decode cc g.pc = .ok (.invokestatic index, 3)) (hf : cells + mc ≤ R.cells ∧ slots + ms ≤ R.slots) :
    vx_Run p l e R s m args below meth c H locs cells slots mc ms g rest (Qc As.toArray) XC free := by
  obtain ⟨⟨hrc, hrs, hfr, hlo, hws, hcw⟩, hcode, hini, hy, hlen, hl, hstt⟩ := cw
  have hK : vx_Back l R p e below s args y 3 8 (PreOf R mc ms Pc) (PostOf Qc mc ms free) (vx_Post XC mc ms free) := vx_backW (hh := hh) (bytes := bytes) (maxL := maxL) (ret := ret) hM hp.1 hrc hrs hfr hlo hws hcw (fun a' U hW => word_at hW (Or.inl (by first | rfl | simp [Cond.onTables, Cond.keeps, Cond.steady])) hini)
  obtain ⟨hx, hb, hml, ho, -⟩ := S
  intro T hT X
  rcases vx_callSX X hx (hh := hh) (bytes := bytes) (maxL := maxL) (ret := ret) ho hl hstt hini hcode hy hK hg (hsize.trans hml.symm) (argsL := As) (rest := rest) (fun sig h => hn.trans (hlen sig h)) hstack hW (by rw [hb]; exact hdg)
    (fun vm₁ hW₁ => ⟨hf.1, hf.2, hp.2 (T.setVm vm₁) hT hW₁⟩) with ⟨v, vm₁, ⟨U', l2, c2, s2⟩, hW₁, X', ⟨g', mk, t, L, e1, e2, hq, h1, hL, h2, h3⟩, st⟩ | ⟨q, vm₁, ⟨U', l2, c2, s2⟩, hW₁, X', ⟨g', mk, t, L, E, ce, e1, e2, hq, hce, hcv, hcl, h1, hL, h2, h3⟩, st⟩
  · dsimp only [Pt.U, Pt.locs, Pt.cells, Pt.slots] at X' e1 e2 h1 h2 h3 st
    subst h1; subst h2; subst h3
    exact Or.inl ⟨v, (T.setVm vm₁).calling g' mk As.toArray, t, U', L, hT, X', hL, e1, e2, hq, st⟩
  · dsimp only [Pt.U, Pt.locs, Pt.cells, Pt.slots] at X' e1 e2 h1 h2 h3 st hcl
    subst h1; subst h2; subst h3
    exact Or.inr ⟨q, (T.setVm vm₁).calling g' mk As.toArray, t, U', L, E, ce, hT, X', hL, e1, e2, hq, hce, hcv, vx_cls hW₁ hcl, st⟩
end
end VXH
theorem vx_ofWH {l : Launch} {y : MethodName} {ws ws' : List Cond} {rm : Room} {Pc : Array Value → State → Prop} {Qc : Array Value → State → Outcome → State → Prop} {XC : String → State → State → Prop} {mc ms : Nat} {free : Addr → Prop} {cc : ByteArray} {maxL : Nat} {ret : Option FieldType} {hh : List (Nat × Nat × Nat × Nat)}
    (hy : plainName y.cls = true) (hw : ws = Cond.codeWith y cc maxL ret hh :: ws')
    (body : ∀ p e s m args below meth c s₁, BodyLoose p l y (headSpec ws rm) cc maxL ret e s m args below meth c s₁ → c.maxLocals = maxL → Pc args s →
      W p l e (headSpec ws rm).room s m args below meth c s.heap [] 0 0 (vx_MQ below Qc XC args s mc ms free) (entryFrame m args maxL)) : vx_Met l y ws rm Pc Qc XC mc ms free := by
  refine MetFree.of_bodyS (code := cc) (maxLocals := maxL) (ret := ret) hy ?_ ?_
  · intro args s m h hn
    obtain ⟨m9, meth, c, hn9, h1, h2, h3, h4, -, h5, h6, -⟩ := Cond.codeWith_spec (atoms_spec (ws := ws) h _ (by rw [hw]; exact List.mem_cons_self))
    cases hn.symm.trans hn9
    exact ⟨meth, c, h1, h2, h3, h4, h5, h6⟩
  · intro p e s m args below meth c s₁ B hml hP _
    have hh0 : s₁.heap = s.heap := by rw [B.state]; rfl
    obtain ⟨t, a1, o, b1, b2, b3⟩ := body p e s m args below meth c s₁ B hml hP s₁ hh0 (Stand.of_body B)
    exact ⟨t, o, a1, b1, b2, b3⟩
/-! ===== END ===== -/
end
section
/-! ===== BEGIN printed: names, fields, word lists, decode rows ===== -/
def RX0 : String := "JointVenture$CashCall"
def TX0 : u_T := fun k => match k with
  | 0 => ("JointVenture$CashCall", "asked", "[I", true)
  | _ => ("JointVenture$CashCall", "paid", "[I", true)
def tyX0 : Nat → FieldType := fun k => match k with
  | 0 => .array .int
  | _ => .array .int
abbrev wsX00 : List Cond := u_ws RX0 TX0 2
theorem nmX0 : ∀ a, a < 2 → ∀ b, b < 2 → a ≠ b → (TX0 a).2.1 ≠ (TX0 b).2.1 := by decide +kernel
theorem tyX0_ok : ∀ k, k < 2 → parseFieldDescriptor (TX0 k).2.2.1 = some (tyX0 k) := by decide +kernel
abbrev cX0_init : ByteArray := prog_2_method_1_code
def yX0_init : MethodName := ⟨RX0, "<init>", "()V"⟩
abbrev cX0_hasPayer : ByteArray := prog_2_method_2_code
def yX0_hasPayer : MethodName := ⟨RX0, "hasPayer", "()Z"⟩
abbrev cX0_askedOfNonPayers : ByteArray := prog_2_method_3_code
def yX0_askedOfNonPayers : MethodName := ⟨RX0, "askedOfNonPayers", "()I"⟩
def RX1 : String := "JointVenture$Division"
def TX1 : u_T := fun k => match k with
  | _ => ("JointVenture$Division", "remainders", "[J", true)
def tyX1 : Nat → FieldType := fun k => match k with
  | _ => .array .long
abbrev wsX10 : List Cond := u_ws RX1 TX1 1
theorem nmX1 : ∀ a, a < 1 → ∀ b, b < 1 → a ≠ b → (TX1 a).2.1 ≠ (TX1 b).2.1 := by decide +kernel
theorem tyX1_ok : ∀ k, k < 1 → parseFieldDescriptor (TX1 k).2.2.1 = some (tyX1 k) := by decide +kernel
abbrev cX1_init : ByteArray := prog_3_method_1_code
def yX1_init : MethodName := ⟨RX1, "<init>", "()V"⟩
abbrev cX1_divide : ByteArray := prog_3_method_2_code
def yX1_divide : MethodName := ⟨RX1, "divide", "(I[I[I)V"⟩
abbrev cX1_firstWithGreatestRemainder : ByteArray := prog_3_method_3_code
def yX1_firstWithGreatestRemainder : MethodName := ⟨RX1, "firstWithGreatestRemainder", "()I"⟩
def RX2 : String := "JointVenture$Well"
def TX2 : u_T := fun k => match k with
  | 0 => ("JointVenture$Well", "penalty", "I", false)
  | 1 => ("JointVenture$Well", "hadVoucher", "Z", false)
  | 2 => ("JointVenture$Well", "electedOut", "[Z", true)
  | 3 => ("JointVenture$Well", "out", "[Z", true)
  | 4 => ("JointVenture$Well", "toEarn", "[J", true)
  | 5 => ("JointVenture$Well", "backAt", "[I", true)
  | 6 => ("JointVenture$Well", "charged", "[I", true)
  | _ => ("JointVenture$Well", "credited", "[I", true)
def tyX2 : Nat → FieldType := fun k => match k with
  | 0 => .int
  | 1 => .boolean
  | 2 => .array .boolean
  | 3 => .array .boolean
  | 4 => .array .long
  | 5 => .array .int
  | 6 => .array .int
  | _ => .array .int
abbrev wsX20 : List Cond := u_ws RX2 TX2 8
theorem nmX2 : ∀ a, a < 8 → ∀ b, b < 8 → a ≠ b → (TX2 a).2.1 ≠ (TX2 b).2.1 := by decide +kernel
theorem tyX2_ok : ∀ k, k < 8 → parseFieldDescriptor (TX2 k).2.2.1 = some (tyX2 k) := by decide +kernel
abbrev cX2_init : ByteArray := prog_4_method_1_code
def yX2_init : MethodName := ⟨RX2, "<init>", "()V"⟩
abbrev cX2_clearAccounts : ByteArray := prog_4_method_2_code
def yX2_clearAccounts : MethodName := ⟨RX2, "clearAccounts", "()V"⟩
abbrev cX2_takenOf : ByteArray := prog_4_method_3_code
def yX2_takenOf : MethodName := ⟨RX2, "takenOf", "(II)I"⟩
abbrev cX2_takeBack : ByteArray := prog_4_method_4_code
def yX2_takeBack : MethodName := ⟨RX2, "takeBack", "(I)V"⟩
def RX3 : String := "JointVenture"
def TX3 : u_T := fun k => match k with
  | 0 => ("JointVenture", "shares", "[I", true)
  | 1 => ("JointVenture", "newPenalty", "I", false)
  | 2 => ("JointVenture", "monthlyOverhead", "I", false)
  | 3 => ("JointVenture", "wells", "[LJointVenture$Well;", true)
  | 4 => ("JointVenture", "wellCount", "I", false)
  | 5 => ("JointVenture", "voucherWells", "[I", true)
  | 6 => ("JointVenture", "voucherAmounts", "[I", true)
  | 7 => ("JointVenture", "voucherCount", "I", false)
  | 8 => ("JointVenture", "cashCalls", "[LJointVenture$CashCall;", true)
  | 9 => ("JointVenture", "cashCallCount", "I", false)
  | 10 => ("JointVenture", "owed", "[I", true)
  | 11 => ("JointVenture", "division", "LJointVenture$Division;", true)
  | 12 => ("JointVenture", "ownParts", "[I", true)
  | 13 => ("JointVenture", "weights", "[I", true)
  | _ => ("JointVenture", "portions", "[I", true)
def tyX3 : Nat → FieldType := fun k => match k with
  | 0 => .array .int
  | 1 => .int
  | 2 => .int
  | 3 => .array (.object "JointVenture$Well")
  | 4 => .int
  | 5 => .array .int
  | 6 => .array .int
  | 7 => .int
  | 8 => .array (.object "JointVenture$CashCall")
  | 9 => .int
  | 10 => .array .int
  | 11 => .object "JointVenture$Division"
  | 12 => .array .int
  | 13 => .array .int
  | _ => .array .int
abbrev wsX30 : List Cond := u_ws RX3 TX3 15
theorem nmX3 : ∀ a, a < 15 → ∀ b, b < 15 → a ≠ b → (TX3 a).2.1 ≠ (TX3 b).2.1 := by decide +kernel
theorem tyX3_ok : ∀ k, k < 15 → parseFieldDescriptor (TX3 k).2.2.1 = some (tyX3 k) := by decide +kernel
abbrev cX3_init : ByteArray := prog_1_method_1_code
def yX3_init : MethodName := ⟨RX3, "<init>", "()V"⟩
abbrev cX3_setShares : ByteArray := prog_1_method_2_code
def yX3_setShares : MethodName := ⟨RX3, "setShares", "(IIIII)V"⟩
abbrev cX3_setPenalty : ByteArray := prog_1_method_3_code
def yX3_setPenalty : MethodName := ⟨RX3, "setPenalty", "(I)I"⟩
abbrev cX3_setOverhead : ByteArray := prog_1_method_4_code
def yX3_setOverhead : MethodName := ⟨RX3, "setOverhead", "(I)I"⟩
abbrev cX3_addWell : ByteArray := prog_1_method_5_code
def yX3_addWell : MethodName := ⟨RX3, "addWell", "()I"⟩
abbrev cX3_elect : ByteArray := prog_1_method_6_code
def yX3_elect : MethodName := ⟨RX3, "elect", "(IIZ)Z"⟩
abbrev cX3_cost : ByteArray := prog_1_method_7_code
def yX3_cost : MethodName := ⟨RX3, "cost", "(II)I"⟩
abbrev cX3_overhead : ByteArray := prog_1_method_8_code
def yX3_overhead : MethodName := ⟨RX3, "overhead", "(II)I"⟩
abbrev cX3_income : ByteArray := prog_1_method_9_code
def yX3_income : MethodName := ⟨RX3, "income", "(II)I"⟩
abbrev cX3_move : ByteArray := prog_1_method_10_code
def yX3_move : MethodName := ⟨RX3, "move", "(II)I"⟩
abbrev cX3_vouchers : ByteArray := prog_1_method_11_code
def yX3_vouchers : MethodName := ⟨RX3, "vouchers", "()I"⟩
abbrev cX3_wellOf : ByteArray := prog_1_method_12_code
def yX3_wellOf : MethodName := ⟨RX3, "wellOf", "(I)I"⟩
abbrev cX3_amountOf : ByteArray := prog_1_method_13_code
def yX3_amountOf : MethodName := ⟨RX3, "amountOf", "(I)I"⟩
abbrev cX3_isIn : ByteArray := prog_1_method_14_code
def yX3_isIn : MethodName := ⟨RX3, "isIn", "(II)Z"⟩
abbrev cX3_toEarn : ByteArray := prog_1_method_15_code
def yX3_toEarn : MethodName := ⟨RX3, "toEarn", "(II)J"⟩
abbrev cX3_backAt : ByteArray := prog_1_method_16_code
def yX3_backAt : MethodName := ⟨RX3, "backAt", "(II)I"⟩
abbrev cX3_charged : ByteArray := prog_1_method_17_code
def yX3_charged : MethodName := ⟨RX3, "charged", "(II)I"⟩
abbrev cX3_credited : ByteArray := prog_1_method_18_code
def yX3_credited : MethodName := ⟨RX3, "credited", "(II)I"⟩
abbrev cX3_weight : ByteArray := prog_1_method_19_code
def yX3_weight : MethodName := ⟨RX3, "weight", "(II)I"⟩
abbrev cX3_call : ByteArray := prog_1_method_20_code
def yX3_call : MethodName := ⟨RX3, "call", "(II)I"⟩
abbrev cX3_pay : ByteArray := prog_1_method_21_code
def yX3_pay : MethodName := ⟨RX3, "pay", "(II)I"⟩
abbrev cX3_shareOut : ByteArray := prog_1_method_22_code
def yX3_shareOut : MethodName := ⟨RX3, "shareOut", "(I)I"⟩
abbrev cX3_asked : ByteArray := prog_1_method_23_code
def yX3_asked : MethodName := ⟨RX3, "asked", "(II)I"⟩
abbrev cX3_paid : ByteArray := prog_1_method_24_code
def yX3_paid : MethodName := ⟨RX3, "paid", "(I)I"⟩
abbrev cX3_owes : ByteArray := prog_1_method_25_code
def yX3_owes : MethodName := ⟨RX3, "owes", "(I)I"⟩
abbrev cX3_balance : ByteArray := prog_1_method_26_code
def yX3_balance : MethodName := ⟨RX3, "balance", "(I)J"⟩
abbrev cX3_requireRange : ByteArray := prog_1_method_27_code
def yX3_requireRange : MethodName := ⟨RX3, "requireRange", "(III)V"⟩
abbrev cX3_requirePartner : ByteArray := prog_1_method_28_code
def yX3_requirePartner : MethodName := ⟨RX3, "requirePartner", "(I)V"⟩
abbrev cX3_requireWell : ByteArray := prog_1_method_29_code
def yX3_requireWell : MethodName := ⟨RX3, "requireWell", "(I)V"⟩
abbrev cX3_requireVoucher : ByteArray := prog_1_method_30_code
def yX3_requireVoucher : MethodName := ⟨RX3, "requireVoucher", "(I)V"⟩
abbrev cX3_requireCashCall : ByteArray := prog_1_method_31_code
def yX3_requireCashCall : MethodName := ⟨RX3, "requireCashCall", "(I)V"⟩
abbrev cX3_requireRoomForVoucher : ByteArray := prog_1_method_32_code
def yX3_requireRoomForVoucher : MethodName := ⟨RX3, "requireRoomForVoucher", "()V"⟩
abbrev cX3_addVoucher : ByteArray := prog_1_method_33_code
def yX3_addVoucher : MethodName := ⟨RX3, "addVoucher", "(II)I"⟩
abbrev cX3_accountAnew : ByteArray := prog_1_method_34_code
def yX3_accountAnew : MethodName := ⟨RX3, "accountAnew", "(I)V"⟩
abbrev cX3_account : ByteArray := prog_1_method_35_code
def yX3_account : MethodName := ⟨RX3, "account", "(I)V"⟩
abbrev cX3_accountCost : ByteArray := prog_1_method_36_code
def yX3_accountCost : MethodName := ⟨RX3, "accountCost", "(LJointVenture$Well;I)V"⟩
abbrev cX3_penaltyOn : ByteArray := prog_1_method_37_code
def yX3_penaltyOn : MethodName := ⟨RX3, "penaltyOn", "(II)J"⟩
abbrev cX3_divideCost : ByteArray := prog_1_method_38_code
def yX3_divideCost : MethodName := ⟨RX3, "divideCost", "(LJointVenture$Well;I)V"⟩
abbrev cX3_accountIncome : ByteArray := prog_1_method_39_code
def yX3_accountIncome : MethodName := ⟨RX3, "accountIncome", "(LJointVenture$Well;I)V"⟩
abbrev cX3_creditTaken : ByteArray := prog_1_method_40_code
def yX3_creditTaken : MethodName := ⟨RX3, "creditTaken", "(LJointVenture$Well;I)V"⟩
abbrev cX3_ownPartsOfThoseOut : ByteArray := prog_1_method_41_code
def yX3_ownPartsOfThoseOut : MethodName := ⟨RX3, "ownPartsOfThoseOut", "(LJointVenture$Well;)I"⟩
abbrev cX3_weighThoseIn : ByteArray := prog_1_method_42_code
def yX3_weighThoseIn : MethodName := ⟨RX3, "weighThoseIn", "(LJointVenture$Well;)V"⟩
abbrev cX3_shareIfIn : ByteArray := prog_1_method_43_code
def yX3_shareIfIn : MethodName := ⟨RX3, "shareIfIn", "(LJointVenture$Well;I)I"⟩
abbrev cX3_isAnotherIn : ByteArray := prog_1_method_44_code
def yX3_isAnotherIn : MethodName := ⟨RX3, "isAnotherIn", "(LJointVenture$Well;I)Z"⟩
abbrev cX3_moveToPayers : ByteArray := prog_1_method_45_code
def yX3_moveToPayers : MethodName := ⟨RX3, "moveToPayers", "(LJointVenture$CashCall;I)V"⟩
abbrev cX3_paidOfAllCalls : ByteArray := prog_1_method_46_code
def yX3_paidOfAllCalls : MethodName := ⟨RX3, "paidOfAllCalls", "(I)I"⟩
def RX4 : String := "JointVentureModel"
def TX4 : u_T := fun k => match k with
  | 0 => ("JointVentureModel", "shares", "[I", true)
  | 1 => ("JointVentureModel", "penalty", "I", false)
  | 2 => ("JointVentureModel", "overhead", "I", false)
  | 3 => ("JointVentureModel", "penalties", "[I", true)
  | 4 => ("JointVentureModel", "touched", "[Z", true)
  | 5 => ("JointVentureModel", "outs", "[Z", true)
  | 6 => ("JointVentureModel", "wells", "I", false)
  | 7 => ("JointVentureModel", "sites", "[I", true)
  | 8 => ("JointVentureModel", "amounts", "[I", true)
  | 9 => ("JointVentureModel", "incomes", "[Z", true)
  | 10 => ("JointVentureModel", "vouchers", "I", false)
  | 11 => ("JointVentureModel", "asks", "[I", true)
  | 12 => ("JointVentureModel", "pays", "[I", true)
  | 13 => ("JointVentureModel", "calls", "I", false)
  | 14 => ("JointVentureModel", "owed", "[I", true)
  | 15 => ("JointVentureModel", "in", "[Z", true)
  | 16 => ("JointVentureModel", "earns", "[J", true)
  | 17 => ("JointVentureModel", "backs", "[I", true)
  | 18 => ("JointVentureModel", "charges", "[I", true)
  | 19 => ("JointVentureModel", "credits", "[I", true)
  | 20 => ("JointVentureModel", "weights", "[I", true)
  | 21 => ("JointVentureModel", "parts", "[I", true)
  | 22 => ("JointVentureModel", "own", "[I", true)
  | 23 => ("JointVentureModel", "rests", "[J", true)
  | _ => ("JointVentureModel", "last", "I", false)
def tyX4 : Nat → FieldType := fun k => match k with
  | 0 => .array .int
  | 1 => .int
  | 2 => .int
  | 3 => .array .int
  | 4 => .array .boolean
  | 5 => .array .boolean
  | 6 => .int
  | 7 => .array .int
  | 8 => .array .int
  | 9 => .array .boolean
  | 10 => .int
  | 11 => .array .int
  | 12 => .array .int
  | 13 => .int
  | 14 => .array .int
  | 15 => .array .boolean
  | 16 => .array .long
  | 17 => .array .int
  | 18 => .array .int
  | 19 => .array .int
  | 20 => .array .int
  | 21 => .array .int
  | 22 => .array .int
  | 23 => .array .long
  | _ => .int
abbrev wsX40 : List Cond := u_ws RX4 TX4 25
theorem nmX4 : ∀ a, a < 25 → ∀ b, b < 25 → a ≠ b → (TX4 a).2.1 ≠ (TX4 b).2.1 := by decide +kernel
theorem tyX4_ok : ∀ k, k < 25 → parseFieldDescriptor (TX4 k).2.2.1 = some (tyX4 k) := by decide +kernel
abbrev cX4_init : ByteArray := prog_6_method_1_code
def yX4_init : MethodName := ⟨RX4, "<init>", "()V"⟩
abbrev cX4_thrown : ByteArray := prog_6_method_2_code
def yX4_thrown : MethodName := ⟨RX4, "thrown", "()I"⟩
abbrev cX4_within : ByteArray := prog_6_method_3_code
def yX4_within : MethodName := ⟨RX4, "within", "(III)Z"⟩
abbrev cX4_goes : ByteArray := prog_6_method_4_code
def yX4_goes : MethodName := ⟨RX4, "goes", "(ZZZ)Z"⟩
abbrev cX4_isPartner : ByteArray := prog_6_method_5_code
def yX4_isPartner : MethodName := ⟨RX4, "isPartner", "(I)Z"⟩
abbrev cX4_isWell : ByteArray := prog_6_method_6_code
def yX4_isWell : MethodName := ⟨RX4, "isWell", "(I)Z"⟩
abbrev cX4_isVoucher : ByteArray := prog_6_method_7_code
def yX4_isVoucher : MethodName := ⟨RX4, "isVoucher", "(I)Z"⟩
abbrev cX4_isCall : ByteArray := prog_6_method_8_code
def yX4_isCall : MethodName := ⟨RX4, "isCall", "(I)Z"⟩
abbrev cX4_isAmount : ByteArray := prog_6_method_9_code
def yX4_isAmount : MethodName := ⟨RX4, "isAmount", "(I)Z"⟩
abbrev cX4_divides : ByteArray := prog_6_method_10_code
def yX4_divides : MethodName := ⟨RX4, "divides", "(J)V"⟩
abbrev cX4_owns : ByteArray := prog_6_method_11_code
def yX4_owns : MethodName := ⟨RX4, "owns", "(I)V"⟩
abbrev cX4_dividesAmongIn : ByteArray := prog_6_method_12_code
def yX4_dividesAmongIn : MethodName := ⟨RX4, "dividesAmongIn", "(J)V"⟩
abbrev cX4_costs : ByteArray := prog_6_method_13_code
def yX4_costs : MethodName := ⟨RX4, "costs", "(II)V"⟩
abbrev cX4_brings : ByteArray := prog_6_method_14_code
def yX4_brings : MethodName := ⟨RX4, "brings", "(II)V"⟩
abbrev cX4_works : ByteArray := prog_6_method_15_code
def yX4_works : MethodName := ⟨RX4, "works", "(I)V"⟩
abbrev cX4_isShare : ByteArray := prog_6_method_16_code
def yX4_isShare : MethodName := ⟨RX4, "isShare", "(I)Z"⟩
abbrev cX4_setShares : ByteArray := prog_6_method_17_code
def yX4_setShares : MethodName := ⟨RX4, "setShares", "(IIIII)V"⟩
abbrev cX4_setPenalty : ByteArray := prog_6_method_18_code
def yX4_setPenalty : MethodName := ⟨RX4, "setPenalty", "(I)I"⟩
abbrev cX4_setOverhead : ByteArray := prog_6_method_19_code
def yX4_setOverhead : MethodName := ⟨RX4, "setOverhead", "(I)I"⟩
abbrev cX4_addWell : ByteArray := prog_6_method_20_code
def yX4_addWell : MethodName := ⟨RX4, "addWell", "()I"⟩
abbrev cX4_hasOthers : ByteArray := prog_6_method_21_code
def yX4_hasOthers : MethodName := ⟨RX4, "hasOthers", "(II)Z"⟩
abbrev cX4_elect : ByteArray := prog_6_method_22_code
def yX4_elect : MethodName := ⟨RX4, "elect", "(IIZ)Z"⟩
abbrev cX4_enters : ByteArray := prog_6_method_23_code
def yX4_enters : MethodName := ⟨RX4, "enters", "(IIZ)I"⟩
abbrev cX4_cost : ByteArray := prog_6_method_24_code
def yX4_cost : MethodName := ⟨RX4, "cost", "(II)I"⟩
abbrev cX4_overhead : ByteArray := prog_6_method_25_code
def yX4_overhead : MethodName := ⟨RX4, "overhead", "(II)I"⟩
abbrev cX4_income : ByteArray := prog_6_method_26_code
def yX4_income : MethodName := ⟨RX4, "income", "(II)I"⟩
abbrev cX4_move : ByteArray := prog_6_method_27_code
def yX4_move : MethodName := ⟨RX4, "move", "(II)I"⟩
abbrev cX4_vouchers : ByteArray := prog_6_method_28_code
def yX4_vouchers : MethodName := ⟨RX4, "vouchers", "()I"⟩
abbrev cX4_wellOf : ByteArray := prog_6_method_29_code
def yX4_wellOf : MethodName := ⟨RX4, "wellOf", "(I)I"⟩
abbrev cX4_amountOf : ByteArray := prog_6_method_30_code
def yX4_amountOf : MethodName := ⟨RX4, "amountOf", "(I)I"⟩
abbrev cX4_accounts : ByteArray := prog_6_method_31_code
def yX4_accounts : MethodName := ⟨RX4, "accounts", "(II)Z"⟩
abbrev cX4_isIn : ByteArray := prog_6_method_32_code
def yX4_isIn : MethodName := ⟨RX4, "isIn", "(II)Z"⟩
abbrev cX4_toEarn : ByteArray := prog_6_method_33_code
def yX4_toEarn : MethodName := ⟨RX4, "toEarn", "(II)J"⟩
abbrev cX4_backAt : ByteArray := prog_6_method_34_code
def yX4_backAt : MethodName := ⟨RX4, "backAt", "(II)I"⟩
abbrev cX4_charged : ByteArray := prog_6_method_35_code
def yX4_charged : MethodName := ⟨RX4, "charged", "(II)I"⟩
abbrev cX4_credited : ByteArray := prog_6_method_36_code
def yX4_credited : MethodName := ⟨RX4, "credited", "(II)I"⟩
abbrev cX4_weighs : ByteArray := prog_6_method_37_code
def yX4_weighs : MethodName := ⟨RX4, "weighs", "(I)V"⟩
abbrev cX4_weight : ByteArray := prog_6_method_38_code
def yX4_weight : MethodName := ⟨RX4, "weight", "(II)I"⟩
abbrev cX4_call : ByteArray := prog_6_method_39_code
def yX4_call : MethodName := ⟨RX4, "call", "(II)I"⟩
abbrev cX4_pay : ByteArray := prog_6_method_40_code
def yX4_pay : MethodName := ⟨RX4, "pay", "(II)I"⟩
abbrev cX4_shareOut : ByteArray := prog_6_method_41_code
def yX4_shareOut : MethodName := ⟨RX4, "shareOut", "(I)I"⟩
abbrev cX4_asked : ByteArray := prog_6_method_42_code
def yX4_asked : MethodName := ⟨RX4, "asked", "(II)I"⟩
abbrev cX4_allPaid : ByteArray := prog_6_method_43_code
def yX4_allPaid : MethodName := ⟨RX4, "allPaid", "(I)I"⟩
abbrev cX4_paid : ByteArray := prog_6_method_44_code
def yX4_paid : MethodName := ⟨RX4, "paid", "(I)I"⟩
abbrev cX4_owes : ByteArray := prog_6_method_45_code
def yX4_owes : MethodName := ⟨RX4, "owes", "(I)I"⟩
abbrev cX4_balance : ByteArray := prog_6_method_46_code
def yX4_balance : MethodName := ⟨RX4, "balance", "(I)J"⟩
def RJx145de : String := "java/io/Serializable"
def TJx145de : u_T := fun k => match k with
  | _ => ("", "", "", false)
def tyJx145de : Nat → FieldType := fun k => match k with
  | _ => .int
abbrev wsJx145de0 : List Cond := u_ws RJx145de TJx145de 0
theorem nmJx145de : ∀ a, a < 0 → ∀ b, b < 0 → a ≠ b → (TJx145de a).2.1 ≠ (TJx145de b).2.1 := by decide +kernel
theorem tyJx145de_ok : ∀ k, k < 0 → parseFieldDescriptor (TJx145de k).2.2.1 = some (tyJx145de k) := by decide +kernel
def RJ9 : String := "java/lang/Math"
def TJ9 : u_T := fun k => match k with
  | _ => ("", "", "", false)
def tyJ9 : Nat → FieldType := fun k => match k with
  | _ => .int
abbrev wsJ90 : List Cond := u_ws RJ9 TJ9 0
theorem nmJ9 : ∀ a, a < 0 → ∀ b, b < 0 → a ≠ b → (TJ9 a).2.1 ≠ (TJ9 b).2.1 := by decide +kernel
theorem tyJ9_ok : ∀ k, k < 0 → parseFieldDescriptor (TJ9 k).2.2.1 = some (tyJ9 k) := by decide +kernel
abbrev cJ9_min_f86c9 : ByteArray := prog_11_method_70_code
def yJ9_min_f86c9 : MethodName := ⟨RJ9, "min", "(JJ)J"⟩
def RJ0 : String := "java/lang/String"
def TJ0 : u_T := fun k => match k with
  | _ => ("", "", "", false)
def tyJ0 : Nat → FieldType := fun k => match k with
  | _ => .int
abbrev wsJ00 : List Cond := u_ws RJ0 TJ0 0
theorem nmJ0 : ∀ a, a < 0 → ∀ b, b < 0 → a ≠ b → (TJ0 a).2.1 ≠ (TJ0 b).2.1 := by decide +kernel
theorem tyJ0_ok : ∀ k, k < 0 → parseFieldDescriptor (TJ0 k).2.2.1 = some (tyJ0 k) := by decide +kernel
def RJ7 : String := "java/util/Arrays"
def TJ7 : u_T := fun k => match k with
  | _ => ("", "", "", false)
def tyJ7 : Nat → FieldType := fun k => match k with
  | _ => .int
abbrev wsJ70 : List Cond := u_ws RJ7 TJ7 0
theorem nmJ7 : ∀ a, a < 0 → ∀ b, b < 0 → a ≠ b → (TJ7 a).2.1 ≠ (TJ7 b).2.1 := by decide +kernel
theorem tyJ7_ok : ∀ k, k < 0 → parseFieldDescriptor (TJ7 k).2.2.1 = some (tyJ7 k) := by decide +kernel
abbrev cJ7_fill_d0a16 : ByteArray := prog_15_method_101_code
def yJ7_fill_d0a16 : MethodName := ⟨RJ7, "fill", "([JJ)V"⟩
abbrev cJ7_fill_53178 : ByteArray := prog_15_method_103_code
def yJ7_fill_53178 : MethodName := ⟨RJ7, "fill", "([II)V"⟩
def RL : String := "JointVentureLaw"
abbrev cL_setShares : ByteArray := method_3_code
def yL_setShares : MethodName := ⟨RL, "setShares", "(LJointVenture;IIIII)I"⟩
abbrev cL_setPenalty : ByteArray := method_4_code
def yL_setPenalty : MethodName := ⟨RL, "setPenalty", "(LJointVenture;I[J)I"⟩
abbrev cL_setOverhead : ByteArray := method_5_code
def yL_setOverhead : MethodName := ⟨RL, "setOverhead", "(LJointVenture;I[J)I"⟩
abbrev cL_addWell : ByteArray := method_6_code
def yL_addWell : MethodName := ⟨RL, "addWell", "(LJointVenture;[J)I"⟩
abbrev cL_elect : ByteArray := method_7_code
def yL_elect : MethodName := ⟨RL, "elect", "(LJointVenture;IIZ[J)I"⟩
abbrev cL_cost : ByteArray := method_8_code
def yL_cost : MethodName := ⟨RL, "cost", "(LJointVenture;II[J)I"⟩
abbrev cL_overhead : ByteArray := method_9_code
def yL_overhead : MethodName := ⟨RL, "overhead", "(LJointVenture;II[J)I"⟩
abbrev cL_income : ByteArray := method_10_code
def yL_income : MethodName := ⟨RL, "income", "(LJointVenture;II[J)I"⟩
abbrev cL_move : ByteArray := method_11_code
def yL_move : MethodName := ⟨RL, "move", "(LJointVenture;II[J)I"⟩
abbrev cL_wellOf : ByteArray := method_12_code
def yL_wellOf : MethodName := ⟨RL, "wellOf", "(LJointVenture;I[J)I"⟩
abbrev cL_amountOf : ByteArray := method_13_code
def yL_amountOf : MethodName := ⟨RL, "amountOf", "(LJointVenture;I[J)I"⟩
abbrev cL_isIn : ByteArray := method_14_code
def yL_isIn : MethodName := ⟨RL, "isIn", "(LJointVenture;II[J)I"⟩
abbrev cL_toEarn : ByteArray := method_15_code
def yL_toEarn : MethodName := ⟨RL, "toEarn", "(LJointVenture;II[J)I"⟩
abbrev cL_backAt : ByteArray := method_16_code
def yL_backAt : MethodName := ⟨RL, "backAt", "(LJointVenture;II[J)I"⟩
abbrev cL_charged : ByteArray := method_17_code
def yL_charged : MethodName := ⟨RL, "charged", "(LJointVenture;II[J)I"⟩
abbrev cL_credited : ByteArray := method_18_code
def yL_credited : MethodName := ⟨RL, "credited", "(LJointVenture;II[J)I"⟩
abbrev cL_weight : ByteArray := method_19_code
def yL_weight : MethodName := ⟨RL, "weight", "(LJointVenture;II[J)I"⟩
abbrev cL_call : ByteArray := method_20_code
def yL_call : MethodName := ⟨RL, "call", "(LJointVenture;II[J)I"⟩
abbrev cL_pay : ByteArray := method_21_code
def yL_pay : MethodName := ⟨RL, "pay", "(LJointVenture;II[J)I"⟩
abbrev cL_shareOut : ByteArray := method_22_code
def yL_shareOut : MethodName := ⟨RL, "shareOut", "(LJointVenture;I[J)I"⟩
abbrev cL_asked : ByteArray := method_23_code
def yL_asked : MethodName := ⟨RL, "asked", "(LJointVenture;II[J)I"⟩
abbrev cL_paid : ByteArray := method_24_code
def yL_paid : MethodName := ⟨RL, "paid", "(LJointVenture;I[J)I"⟩
abbrev cL_owes : ByteArray := method_25_code
def yL_owes : MethodName := ⟨RL, "owes", "(LJointVenture;I[J)I"⟩
abbrev cL_balance : ByteArray := method_26_code
def yL_balance : MethodName := ⟨RL, "balance", "(LJointVenture;I[J)I"⟩
abbrev cL_law : ByteArray := code
def yL_law : MethodName := ⟨RL, "law", "([I)Z"⟩
def wsX0_init : List Cond := .code yX0_init cX0_init 1 none :: ([.methodLink RX0 3 objectInit, .instanceMethod objectInit, .code objectInit ⟨#[0xb1]⟩ 1 none, .arrayClass .int, .fieldLink RX0 9 "JointVenture$CashCall" "asked" "[I", .fieldLink RX0 15 "JointVenture$CashCall" "paid" "[I"] ++ wsX00)
def wsX0_hasPayer : List Cond := .code yX0_hasPayer cX0_hasPayer 2 (some .boolean) :: ([.fieldLink RX0 15 "JointVenture$CashCall" "paid" "[I"] ++ wsX00)
def wsX0_askedOfNonPayers : List Cond := .code yX0_askedOfNonPayers cX0_askedOfNonPayers 3 (some .int) :: ([.fieldLink RX0 15 "JointVenture$CashCall" "paid" "[I", .fieldLink RX0 9 "JointVenture$CashCall" "asked" "[I"] ++ wsX00)
def wsX1_init : List Cond := .code yX1_init cX1_init 1 none :: ([.methodLink RX1 3 objectInit, .instanceMethod objectInit, .code objectInit ⟨#[0xb1]⟩ 1 none, .arrayClass .long, .fieldLink RX1 9 "JointVenture$Division" "remainders" "[J"] ++ wsX10)
def wsJ7_fill_53178 : List Cond := .code yJ7_fill_53178 cJ7_fill_53178 4 none :: ([])
def wsX1_firstWithGreatestRemainder : List Cond := .code yX1_firstWithGreatestRemainder cX1_firstWithGreatestRemainder 3 (some .int) :: ([.fieldLink RX1 9 "JointVenture$Division" "remainders" "[J"] ++ wsX10)
def wsX1_divide : List Cond := .code yX1_divide cX1_divide 10 none :: ([.fieldLink RX1 9 "JointVenture$Division" "remainders" "[J", .constantLong RX1 25 (-1), .methodLink RX1 15 yJ7_fill_53178, .static yJ7_fill_53178, .initialized RJ7, .code yJ7_fill_53178 cJ7_fill_53178 4 none, .methodLink RX1 21 yX1_firstWithGreatestRemainder, .instanceMethod yX1_firstWithGreatestRemainder, .selects RX1 yX1_firstWithGreatestRemainder yX1_firstWithGreatestRemainder, .initialized RX1, .code yX1_firstWithGreatestRemainder cX1_firstWithGreatestRemainder 3 (some .int)] ++ wsX10)
def wsX2_init : List Cond := .code yX2_init cX2_init 1 none :: ([.methodLink RX2 3 objectInit, .instanceMethod objectInit, .code objectInit ⟨#[0xb1]⟩ 1 none, .fieldLink RX2 9 "JointVenture$Well" "penalty" "I", .fieldLink RX2 15 "JointVenture$Well" "hadVoucher" "Z", .arrayClass .boolean, .fieldLink RX2 19 "JointVenture$Well" "electedOut" "[Z", .fieldLink RX2 23 "JointVenture$Well" "out" "[Z", .arrayClass .long, .fieldLink RX2 26 "JointVenture$Well" "toEarn" "[J", .arrayClass .int, .fieldLink RX2 30 "JointVenture$Well" "backAt" "[I", .fieldLink RX2 34 "JointVenture$Well" "charged" "[I", .fieldLink RX2 37 "JointVenture$Well" "credited" "[I", .methodLink RX2 40 yJ7_fill_53178, .static yJ7_fill_53178, .initialized RJ7, .code yJ7_fill_53178 cJ7_fill_53178 4 none] ++ wsX20)
def wsJ7_fill_d0a16 : List Cond := .code yJ7_fill_d0a16 cJ7_fill_d0a16 5 none :: ([])
def wsX2_clearAccounts : List Cond := .code yX2_clearAccounts cX2_clearAccounts 2 none :: ([.fieldLink RX2 26 "JointVenture$Well" "toEarn" "[J", .fieldLink RX2 30 "JointVenture$Well" "backAt" "[I", .fieldLink RX2 34 "JointVenture$Well" "charged" "[I", .fieldLink RX2 37 "JointVenture$Well" "credited" "[I", .fieldLink RX2 23 "JointVenture$Well" "out" "[Z", .fieldLink RX2 19 "JointVenture$Well" "electedOut" "[Z", .methodLink RX2 46 yJ7_fill_d0a16, .static yJ7_fill_d0a16, .initialized RJ7, .code yJ7_fill_d0a16 cJ7_fill_d0a16 5 none, .methodLink RX2 40 yJ7_fill_53178, .static yJ7_fill_53178, .code yJ7_fill_53178 cJ7_fill_53178 4 none] ++ wsX20)
def wsX2_takenOf : List Cond := .code yX2_takenOf cX2_takenOf 3 (some .int) :: ([.fieldLink RX2 23 "JointVenture$Well" "out" "[Z", .fieldLink RX2 26 "JointVenture$Well" "toEarn" "[J", .methodLink RX2 49 Lib.MathLoose.min_long.x, .static Lib.MathLoose.min_long.x, .initialized "java/lang/Math", .code Lib.MathLoose.min_long.x Lib.MathLoose.min_long.code 4 (some .long)] ++ wsX20)
def wsX2_takeBack : List Cond := .code yX2_takeBack cX2_takeBack 3 none :: ([.fieldLink RX2 23 "JointVenture$Well" "out" "[Z", .fieldLink RX2 26 "JointVenture$Well" "toEarn" "[J", .fieldLink RX2 30 "JointVenture$Well" "backAt" "[I"] ++ wsX20)
def wsX3_init_r1 : List Cond := [Cond.methodLink RX3 1 objectInit, Cond.instanceMethod objectInit, Cond.code objectInit ⟨#[0xb1]⟩ 1 none, Cond.arrayClass .int, Cond.fieldLink RX3 9 "JointVenture" "shares" "[I", Cond.fieldLink RX3 13 "JointVenture" "newPenalty" "I", Cond.fieldLink RX3 17 "JointVenture" "monthlyOverhead" "I", Cond.classLink RX3 20 RX2, Cond.fieldLink RX3 22 "JointVenture" "wells" "[LJointVenture$Well;", Cond.fieldLink RX3 26 "JointVenture" "wellCount" "I", Cond.fieldLink RX3 29 "JointVenture" "voucherWells" "[I", Cond.fieldLink RX3 32 "JointVenture" "voucherAmounts" "[I", Cond.fieldLink RX3 35 "JointVenture" "voucherCount" "I", Cond.classLink RX3 38 RX0, Cond.fieldLink RX3 40 "JointVenture" "cashCalls" "[LJointVenture$CashCall;", Cond.fieldLink RX3 44 "JointVenture" "cashCallCount" "I", Cond.fieldLink RX3 47 "JointVenture" "owed" "[I", Cond.classLink RX3 50 RX1, Cond.instantiable RX1 1, Cond.initialized RX1, Cond.fieldLink RX3 53 "JointVenture" "division" "LJointVenture$Division;", Cond.fieldLink RX3 57 "JointVenture" "ownParts" "[I", Cond.fieldLink RX3 60 "JointVenture" "weights" "[I", Cond.fieldLink RX3 63 "JointVenture" "portions" "[I"]
def wsX3_init_r2 : List Cond := [Cond.instantiable RX2 8, Cond.initialized RX2, Cond.instantiable RX0 2, Cond.initialized RX0, Cond.instanceMethod yX1_init, Cond.code yX1_init cX1_init 1 none, Cond.methodLink RX1 3 objectInit, Cond.arrayClass .long, Cond.fieldLink RX1 9 "JointVenture$Division" "remainders" "[J", Cond.methodLink RX3 66 yX2_init, Cond.instanceMethod yX2_init, Cond.code yX2_init cX2_init 1 none, Cond.methodLink RX2 3 objectInit, Cond.fieldLink RX2 9 "JointVenture$Well" "penalty" "I", Cond.fieldLink RX2 15 "JointVenture$Well" "hadVoucher" "Z", Cond.arrayClass .boolean, Cond.fieldLink RX2 19 "JointVenture$Well" "electedOut" "[Z", Cond.fieldLink RX2 23 "JointVenture$Well" "out" "[Z", Cond.fieldLink RX2 26 "JointVenture$Well" "toEarn" "[J", Cond.fieldLink RX2 30 "JointVenture$Well" "backAt" "[I", Cond.fieldLink RX2 34 "JointVenture$Well" "charged" "[I", Cond.fieldLink RX2 37 "JointVenture$Well" "credited" "[I", Cond.methodLink RX2 40 yJ7_fill_53178, Cond.static yJ7_fill_53178]
def wsX3_init_r3 : List Cond := [Cond.initialized RJ7, Cond.code yJ7_fill_53178 cJ7_fill_53178 4 none, Cond.instanceMethod yX0_init, Cond.code yX0_init cX0_init 1 none, Cond.methodLink RX0 3 objectInit, Cond.fieldLink RX0 9 "JointVenture$CashCall" "asked" "[I", Cond.fieldLink RX0 15 "JointVenture$CashCall" "paid" "[I"]
def wsX3_init : List Cond := .code yX3_init cX3_init 2 none :: ((wsX3_init_r1 ++ (wsX3_init_r2 ++ wsX3_init_r3)) ++ wsX30 ++ wsX10 ++ wsX20 ++ wsX00)
def wsX3_requireRange : List Cond := .code yX3_requireRange cX3_requireRange 4 none :: ([.classLink RX3 72 "java/lang/IllegalArgumentException", .initialized "java/lang/IllegalArgumentException"] ++ (vx_atS RX3 76 "java/lang/IllegalArgumentException" ["java/lang/RuntimeException", "java/lang/Exception"]).filter goodWord)
def wsX3_setShares : List Cond := .code yX3_setShares cX3_setShares 6 none :: ([.classLink RX3 72 "java/lang/IllegalArgumentException", .initialized "java/lang/IllegalArgumentException", .classLink RX3 79 "java/lang/IllegalStateException", .initialized "java/lang/IllegalStateException", .fieldLink RX3 26 "JointVenture" "wellCount" "I", .fieldLink RX3 9 "JointVenture" "shares" "[I", .methodLink RX3 68 yX3_requireRange, .instanceMethod yX3_requireRange, .selects RX3 yX3_requireRange yX3_requireRange, .initialized RX3, .code yX3_requireRange cX3_requireRange 4 none] ++ wsX30 ++ (vx_atS RX3 76 "java/lang/IllegalArgumentException" ["java/lang/RuntimeException", "java/lang/Exception"]).filter goodWord ++ (vx_atS RX3 83 "java/lang/IllegalStateException" ["java/lang/RuntimeException", "java/lang/Exception"]).filter goodWord)
def wsX3_setPenalty : List Cond := .code yX3_setPenalty cX3_setPenalty 3 (some .int) :: ([.fieldLink RX3 13 "JointVenture" "newPenalty" "I", .methodLink RX3 68 yX3_requireRange, .instanceMethod yX3_requireRange, .selects RX3 yX3_requireRange yX3_requireRange, .initialized RX3, .code yX3_requireRange cX3_requireRange 4 none, .classLink RX3 72 "java/lang/IllegalArgumentException", .initialized "java/lang/IllegalArgumentException"] ++ wsX30 ++ (vx_atS RX3 76 "java/lang/IllegalArgumentException" ["java/lang/RuntimeException", "java/lang/Exception"]).filter goodWord)
def wsX3_setOverhead : List Cond := .code yX3_setOverhead cX3_setOverhead 3 (some .int) :: ([.constant RX3 84 (100000), .fieldLink RX3 17 "JointVenture" "monthlyOverhead" "I", .methodLink RX3 68 yX3_requireRange, .instanceMethod yX3_requireRange, .selects RX3 yX3_requireRange yX3_requireRange, .initialized RX3, .code yX3_requireRange cX3_requireRange 4 none, .classLink RX3 72 "java/lang/IllegalArgumentException", .initialized "java/lang/IllegalArgumentException"] ++ wsX30 ++ (vx_atS RX3 76 "java/lang/IllegalArgumentException" ["java/lang/RuntimeException", "java/lang/Exception"]).filter goodWord)
def wsX3_addWell : List Cond := .code yX3_addWell cX3_addWell 1 (some .int) :: ([.classLink RX3 79 "java/lang/IllegalStateException", .initialized "java/lang/IllegalStateException", .fieldLink RX3 26 "JointVenture" "wellCount" "I", .fieldLink RX3 22 "JointVenture" "wells" "[LJointVenture$Well;", .fieldLink RX3 13 "JointVenture" "newPenalty" "I", .fieldLink RX3 87 "JointVenture$Well" "penalty" "I"] ++ wsX30 ++ wsX20 ++ (vx_atS RX3 83 "java/lang/IllegalStateException" ["java/lang/RuntimeException", "java/lang/Exception"]).filter goodWord)
def wsX3_requireWell : List Cond := .code yX3_requireWell cX3_requireWell 2 none :: ([.classLink RX3 196 "java/lang/IndexOutOfBoundsException", .initialized "java/lang/IndexOutOfBoundsException", .fieldLink RX3 26 "JointVenture" "wellCount" "I"] ++ wsX30 ++ (vx_atS RX3 200 "java/lang/IndexOutOfBoundsException" ["java/lang/RuntimeException", "java/lang/Exception"]).filter goodWord)
def wsX3_requirePartner : List Cond := .code yX3_requirePartner cX3_requirePartner 2 none :: ([.classLink RX3 196 "java/lang/IndexOutOfBoundsException", .initialized "java/lang/IndexOutOfBoundsException"] ++ (vx_atS RX3 200 "java/lang/IndexOutOfBoundsException" ["java/lang/RuntimeException", "java/lang/Exception"]).filter goodWord)
def wsX3_shareIfIn : List Cond := .code yX3_shareIfIn cX3_shareIfIn 3 (some .int) :: ([.fieldLink RX3 115 "JointVenture$Well" "out" "[Z", .fieldLink RX3 9 "JointVenture" "shares" "[I"] ++ wsX20 ++ wsX30)
def wsX3_isAnotherIn : List Cond := .code yX3_isAnotherIn cX3_isAnotherIn 4 (some .boolean) :: ([.methodLink RX3 136 yX3_shareIfIn, .instanceMethod yX3_shareIfIn, .selects RX3 yX3_shareIfIn yX3_shareIfIn, .initialized RX3, .code yX3_shareIfIn cX3_shareIfIn 3 (some .int), .fieldLink RX3 115 "JointVenture$Well" "out" "[Z", .fieldLink RX3 9 "JointVenture" "shares" "[I"] ++ wsX20 ++ wsX30)
def wsX3_elect_r1 : List Cond := [Cond.classLink RX3 79 "java/lang/IllegalStateException", Cond.initialized "java/lang/IllegalStateException", Cond.fieldLink RX3 22 "JointVenture" "wells" "[LJointVenture$Well;", Cond.fieldLink RX3 97 "JointVenture$Well" "hadVoucher" "Z", Cond.fieldLink RX3 9 "JointVenture" "shares" "[I", Cond.fieldLink RX3 111 "JointVenture$Well" "electedOut" "[Z", Cond.fieldLink RX3 115 "JointVenture$Well" "out" "[Z", Cond.methodLink RX3 90 yX3_requireWell, Cond.instanceMethod yX3_requireWell, Cond.selects RX3 yX3_requireWell yX3_requireWell, Cond.initialized RX3, Cond.code yX3_requireWell cX3_requireWell 2 none, Cond.classLink RX3 196 "java/lang/IndexOutOfBoundsException", Cond.initialized "java/lang/IndexOutOfBoundsException", Cond.fieldLink RX3 26 "JointVenture" "wellCount" "I", Cond.methodLink RX3 94 yX3_requirePartner, Cond.instanceMethod yX3_requirePartner, Cond.selects RX3 yX3_requirePartner yX3_requirePartner, Cond.code yX3_requirePartner cX3_requirePartner 2 none, Cond.methodLink RX3 105 yX3_isAnotherIn, Cond.instanceMethod yX3_isAnotherIn, Cond.selects RX3 yX3_isAnotherIn yX3_isAnotherIn, Cond.code yX3_isAnotherIn cX3_isAnotherIn 4 (some .boolean), Cond.methodLink RX3 136 yX3_shareIfIn]
def wsX3_elect_r2 : List Cond := [Cond.instanceMethod yX3_shareIfIn, Cond.selects RX3 yX3_shareIfIn yX3_shareIfIn, Cond.code yX3_shareIfIn cX3_shareIfIn 3 (some .int)]
def wsX3_elect : List Cond := .code yX3_elect cX3_elect 6 (some .boolean) :: ((wsX3_elect_r1 ++ wsX3_elect_r2) ++ wsX30 ++ wsX20 ++ (vx_atS RX3 83 "java/lang/IllegalStateException" ["java/lang/RuntimeException", "java/lang/Exception"]).filter goodWord ++ (vx_atS RX3 200 "java/lang/IndexOutOfBoundsException" ["java/lang/RuntimeException", "java/lang/Exception"]).filter goodWord)
def wsX3_requireRoomForVoucher : List Cond := .code yX3_requireRoomForVoucher cX3_requireRoomForVoucher 1 none :: ([.classLink RX3 79 "java/lang/IllegalStateException", .initialized "java/lang/IllegalStateException", .fieldLink RX3 35 "JointVenture" "voucherCount" "I"] ++ wsX30 ++ (vx_atS RX3 83 "java/lang/IllegalStateException" ["java/lang/RuntimeException", "java/lang/Exception"]).filter goodWord)
def wsX3_weighThoseIn : List Cond := .code yX3_weighThoseIn cX3_weighThoseIn 3 none :: ([.fieldLink RX3 60 "JointVenture" "weights" "[I", .methodLink RX3 136 yX3_shareIfIn, .instanceMethod yX3_shareIfIn, .selects RX3 yX3_shareIfIn yX3_shareIfIn, .initialized RX3, .code yX3_shareIfIn cX3_shareIfIn 3 (some .int), .fieldLink RX3 115 "JointVenture$Well" "out" "[Z", .fieldLink RX3 9 "JointVenture" "shares" "[I"] ++ wsX30 ++ wsX20)
def wsX3_ownPartsOfThoseOut : List Cond := .code yX3_ownPartsOfThoseOut cX3_ownPartsOfThoseOut 4 (some .int) :: ([.fieldLink RX3 115 "JointVenture$Well" "out" "[Z", .fieldLink RX3 57 "JointVenture" "ownParts" "[I"] ++ wsX20 ++ wsX30)
def wsX3_divideCost_r1 : List Cond := [Cond.fieldLink RX3 53 "JointVenture" "division" "LJointVenture$Division;", Cond.fieldLink RX3 9 "JointVenture" "shares" "[I", Cond.fieldLink RX3 57 "JointVenture" "ownParts" "[I", Cond.fieldLink RX3 60 "JointVenture" "weights" "[I", Cond.fieldLink RX3 63 "JointVenture" "portions" "[I", Cond.fieldLink RX3 115 "JointVenture$Well" "out" "[Z", Cond.methodLink RX3 162 yX1_divide, Cond.instanceMethod yX1_divide, Cond.selects RX1 yX1_divide yX1_divide, Cond.initialized RX1, Cond.code yX1_divide cX1_divide 10 none, Cond.fieldLink RX1 9 "JointVenture$Division" "remainders" "[J", Cond.constantLong RX1 25 (-1), Cond.methodLink RX1 15 yJ7_fill_53178, Cond.static yJ7_fill_53178, Cond.initialized RJ7, Cond.code yJ7_fill_53178 cJ7_fill_53178 4 none, Cond.methodLink RX1 21 yX1_firstWithGreatestRemainder, Cond.instanceMethod yX1_firstWithGreatestRemainder, Cond.selects RX1 yX1_firstWithGreatestRemainder yX1_firstWithGreatestRemainder, Cond.code yX1_firstWithGreatestRemainder cX1_firstWithGreatestRemainder 3 (some .int), Cond.methodLink RX3 232 yX3_weighThoseIn, Cond.instanceMethod yX3_weighThoseIn, Cond.selects RX3 yX3_weighThoseIn yX3_weighThoseIn]
def wsX3_divideCost_r2 : List Cond := [Cond.initialized RX3, Cond.code yX3_weighThoseIn cX3_weighThoseIn 3 none, Cond.methodLink RX3 136 yX3_shareIfIn, Cond.instanceMethod yX3_shareIfIn, Cond.selects RX3 yX3_shareIfIn yX3_shareIfIn, Cond.code yX3_shareIfIn cX3_shareIfIn 3 (some .int), Cond.methodLink RX3 236 yX3_ownPartsOfThoseOut, Cond.instanceMethod yX3_ownPartsOfThoseOut, Cond.selects RX3 yX3_ownPartsOfThoseOut yX3_ownPartsOfThoseOut, Cond.code yX3_ownPartsOfThoseOut cX3_ownPartsOfThoseOut 4 (some .int)]
def wsX3_divideCost : List Cond := .code yX3_divideCost cX3_divideCost 4 none :: ((wsX3_divideCost_r1 ++ wsX3_divideCost_r2) ++ wsX30 ++ wsX20 ++ wsX10)
def wsX3_penaltyOn : List Cond := .code yX3_penaltyOn cX3_penaltyOn 3 (some .long) :: ([.constantLong RX3 228 (99), .constantLong RX3 230 (100)])
def wsX3_accountCost_r1 : List Cond := [Cond.fieldLink RX3 147 "JointVenture$Well" "charged" "[I", Cond.fieldLink RX3 63 "JointVenture" "portions" "[I", Cond.fieldLink RX3 115 "JointVenture$Well" "out" "[Z", Cond.fieldLink RX3 140 "JointVenture$Well" "toEarn" "[J", Cond.fieldLink RX3 57 "JointVenture" "ownParts" "[I", Cond.fieldLink RX3 87 "JointVenture$Well" "penalty" "I", Cond.methodLink RX3 153 yX3_divideCost, Cond.instanceMethod yX3_divideCost, Cond.selects RX3 yX3_divideCost yX3_divideCost, Cond.initialized RX3, Cond.code yX3_divideCost cX3_divideCost 4 none, Cond.fieldLink RX3 53 "JointVenture" "division" "LJointVenture$Division;", Cond.fieldLink RX3 9 "JointVenture" "shares" "[I", Cond.fieldLink RX3 60 "JointVenture" "weights" "[I", Cond.methodLink RX3 162 yX1_divide, Cond.instanceMethod yX1_divide, Cond.selects RX1 yX1_divide yX1_divide, Cond.initialized RX1, Cond.code yX1_divide cX1_divide 10 none, Cond.fieldLink RX1 9 "JointVenture$Division" "remainders" "[J", Cond.constantLong RX1 25 (-1), Cond.methodLink RX1 15 yJ7_fill_53178, Cond.static yJ7_fill_53178, Cond.initialized RJ7]
def wsX3_accountCost_r2 : List Cond := [Cond.code yJ7_fill_53178 cJ7_fill_53178 4 none, Cond.methodLink RX1 21 yX1_firstWithGreatestRemainder, Cond.instanceMethod yX1_firstWithGreatestRemainder, Cond.selects RX1 yX1_firstWithGreatestRemainder yX1_firstWithGreatestRemainder, Cond.code yX1_firstWithGreatestRemainder cX1_firstWithGreatestRemainder 3 (some .int), Cond.methodLink RX3 232 yX3_weighThoseIn, Cond.instanceMethod yX3_weighThoseIn, Cond.selects RX3 yX3_weighThoseIn yX3_weighThoseIn, Cond.code yX3_weighThoseIn cX3_weighThoseIn 3 none, Cond.methodLink RX3 136 yX3_shareIfIn, Cond.instanceMethod yX3_shareIfIn, Cond.selects RX3 yX3_shareIfIn yX3_shareIfIn, Cond.code yX3_shareIfIn cX3_shareIfIn 3 (some .int), Cond.methodLink RX3 236 yX3_ownPartsOfThoseOut, Cond.instanceMethod yX3_ownPartsOfThoseOut, Cond.selects RX3 yX3_ownPartsOfThoseOut yX3_ownPartsOfThoseOut, Cond.code yX3_ownPartsOfThoseOut cX3_ownPartsOfThoseOut 4 (some .int), Cond.methodLink RX3 224 yX3_penaltyOn, Cond.instanceMethod yX3_penaltyOn, Cond.selects RX3 yX3_penaltyOn yX3_penaltyOn, Cond.code yX3_penaltyOn cX3_penaltyOn 3 (some .long), Cond.constantLong RX3 228 (99), Cond.constantLong RX3 230 (100)]
def wsX3_accountCost : List Cond := .code yX3_accountCost cX3_accountCost 4 none :: ((wsX3_accountCost_r1 ++ wsX3_accountCost_r2) ++ wsX20 ++ wsX30 ++ wsX10)
def wsX3_creditTaken : List Cond := .code yX3_creditTaken cX3_creditTaken 4 none :: ([.fieldLink RX3 53 "JointVenture" "division" "LJointVenture$Division;", .fieldLink RX3 60 "JointVenture" "weights" "[I", .fieldLink RX3 63 "JointVenture" "portions" "[I", .fieldLink RX3 150 "JointVenture$Well" "credited" "[I", .methodLink RX3 162 yX1_divide, .instanceMethod yX1_divide, .selects RX1 yX1_divide yX1_divide, .initialized RX1, .code yX1_divide cX1_divide 10 none, .fieldLink RX1 9 "JointVenture$Division" "remainders" "[J", .constantLong RX1 25 (-1), .methodLink RX1 15 yJ7_fill_53178, .static yJ7_fill_53178, .initialized RJ7, .code yJ7_fill_53178 cJ7_fill_53178 4 none, .methodLink RX1 21 yX1_firstWithGreatestRemainder, .instanceMethod yX1_firstWithGreatestRemainder, .selects RX1 yX1_firstWithGreatestRemainder yX1_firstWithGreatestRemainder, .code yX1_firstWithGreatestRemainder cX1_firstWithGreatestRemainder 3 (some .int)] ++ wsX30 ++ wsX20 ++ wsX10)
def wsX3_accountIncome_r1 : List Cond := [Cond.fieldLink RX3 53 "JointVenture" "division" "LJointVenture$Division;", Cond.fieldLink RX3 9 "JointVenture" "shares" "[I", Cond.fieldLink RX3 57 "JointVenture" "ownParts" "[I", Cond.fieldLink RX3 140 "JointVenture$Well" "toEarn" "[J", Cond.fieldLink RX3 150 "JointVenture$Well" "credited" "[I", Cond.methodLink RX3 162 yX1_divide, Cond.instanceMethod yX1_divide, Cond.selects RX1 yX1_divide yX1_divide, Cond.initialized RX1, Cond.code yX1_divide cX1_divide 10 none, Cond.fieldLink RX1 9 "JointVenture$Division" "remainders" "[J", Cond.constantLong RX1 25 (-1), Cond.methodLink RX1 15 yJ7_fill_53178, Cond.static yJ7_fill_53178, Cond.initialized RJ7, Cond.code yJ7_fill_53178 cJ7_fill_53178 4 none, Cond.methodLink RX1 21 yX1_firstWithGreatestRemainder, Cond.instanceMethod yX1_firstWithGreatestRemainder, Cond.selects RX1 yX1_firstWithGreatestRemainder yX1_firstWithGreatestRemainder, Cond.code yX1_firstWithGreatestRemainder cX1_firstWithGreatestRemainder 3 (some .int), Cond.methodLink RX3 232 yX3_weighThoseIn, Cond.instanceMethod yX3_weighThoseIn, Cond.selects RX3 yX3_weighThoseIn yX3_weighThoseIn, Cond.initialized RX3]
def wsX3_accountIncome_r2 : List Cond := [Cond.code yX3_weighThoseIn cX3_weighThoseIn 3 none, Cond.fieldLink RX3 60 "JointVenture" "weights" "[I", Cond.methodLink RX3 136 yX3_shareIfIn, Cond.instanceMethod yX3_shareIfIn, Cond.selects RX3 yX3_shareIfIn yX3_shareIfIn, Cond.code yX3_shareIfIn cX3_shareIfIn 3 (some .int), Cond.fieldLink RX3 115 "JointVenture$Well" "out" "[Z", Cond.methodLink RX3 240 yX2_takenOf, Cond.instanceMethod yX2_takenOf, Cond.selects RX2 yX2_takenOf yX2_takenOf, Cond.initialized RX2, Cond.code yX2_takenOf cX2_takenOf 3 (some .int), Cond.fieldLink RX2 23 "JointVenture$Well" "out" "[Z", Cond.fieldLink RX2 26 "JointVenture$Well" "toEarn" "[J", Cond.methodLink RX2 49 Lib.MathLoose.min_long.x, Cond.static Lib.MathLoose.min_long.x, Cond.initialized "java/lang/Math", Cond.code Lib.MathLoose.min_long.x Lib.MathLoose.min_long.code 4 (some .long), Cond.methodLink RX3 243 yX3_creditTaken, Cond.instanceMethod yX3_creditTaken, Cond.selects RX3 yX3_creditTaken yX3_creditTaken, Cond.code yX3_creditTaken cX3_creditTaken 4 none, Cond.fieldLink RX3 63 "JointVenture" "portions" "[I"]
def wsX3_accountIncome : List Cond := .code yX3_accountIncome cX3_accountIncome 5 none :: ((wsX3_accountIncome_r1 ++ wsX3_accountIncome_r2) ++ wsX30 ++ wsX20 ++ wsX10)
def wsX3_account_r1 : List Cond := [Cond.fieldLink RX3 22 "JointVenture" "wells" "[LJointVenture$Well;", Cond.fieldLink RX3 29 "JointVenture" "voucherWells" "[I", Cond.fieldLink RX3 32 "JointVenture" "voucherAmounts" "[I", Cond.methodLink RX3 215 yX3_accountCost, Cond.instanceMethod yX3_accountCost, Cond.selects RX3 yX3_accountCost yX3_accountCost, Cond.initialized RX3, Cond.code yX3_accountCost cX3_accountCost 4 none, Cond.fieldLink RX3 147 "JointVenture$Well" "charged" "[I", Cond.fieldLink RX3 63 "JointVenture" "portions" "[I", Cond.fieldLink RX3 115 "JointVenture$Well" "out" "[Z", Cond.fieldLink RX3 140 "JointVenture$Well" "toEarn" "[J", Cond.fieldLink RX3 57 "JointVenture" "ownParts" "[I", Cond.fieldLink RX3 87 "JointVenture$Well" "penalty" "I", Cond.methodLink RX3 153 yX3_divideCost, Cond.instanceMethod yX3_divideCost, Cond.selects RX3 yX3_divideCost yX3_divideCost, Cond.code yX3_divideCost cX3_divideCost 4 none, Cond.fieldLink RX3 53 "JointVenture" "division" "LJointVenture$Division;", Cond.fieldLink RX3 9 "JointVenture" "shares" "[I", Cond.fieldLink RX3 60 "JointVenture" "weights" "[I", Cond.methodLink RX3 162 yX1_divide, Cond.instanceMethod yX1_divide, Cond.selects RX1 yX1_divide yX1_divide]
def wsX3_account_r2 : List Cond := [Cond.initialized RX1, Cond.code yX1_divide cX1_divide 10 none, Cond.fieldLink RX1 9 "JointVenture$Division" "remainders" "[J", Cond.constantLong RX1 25 (-1), Cond.methodLink RX1 15 yJ7_fill_53178, Cond.static yJ7_fill_53178, Cond.initialized RJ7, Cond.code yJ7_fill_53178 cJ7_fill_53178 4 none, Cond.methodLink RX1 21 yX1_firstWithGreatestRemainder, Cond.instanceMethod yX1_firstWithGreatestRemainder, Cond.selects RX1 yX1_firstWithGreatestRemainder yX1_firstWithGreatestRemainder, Cond.code yX1_firstWithGreatestRemainder cX1_firstWithGreatestRemainder 3 (some .int), Cond.methodLink RX3 232 yX3_weighThoseIn, Cond.instanceMethod yX3_weighThoseIn, Cond.selects RX3 yX3_weighThoseIn yX3_weighThoseIn, Cond.code yX3_weighThoseIn cX3_weighThoseIn 3 none, Cond.methodLink RX3 136 yX3_shareIfIn, Cond.instanceMethod yX3_shareIfIn, Cond.selects RX3 yX3_shareIfIn yX3_shareIfIn, Cond.code yX3_shareIfIn cX3_shareIfIn 3 (some .int), Cond.methodLink RX3 236 yX3_ownPartsOfThoseOut, Cond.instanceMethod yX3_ownPartsOfThoseOut, Cond.selects RX3 yX3_ownPartsOfThoseOut yX3_ownPartsOfThoseOut, Cond.code yX3_ownPartsOfThoseOut cX3_ownPartsOfThoseOut 4 (some .int)]
def wsX3_account_r3 : List Cond := [Cond.methodLink RX3 224 yX3_penaltyOn, Cond.instanceMethod yX3_penaltyOn, Cond.selects RX3 yX3_penaltyOn yX3_penaltyOn, Cond.code yX3_penaltyOn cX3_penaltyOn 3 (some .long), Cond.constantLong RX3 228 (99), Cond.constantLong RX3 230 (100), Cond.methodLink RX3 218 yX3_accountIncome, Cond.instanceMethod yX3_accountIncome, Cond.selects RX3 yX3_accountIncome yX3_accountIncome, Cond.code yX3_accountIncome cX3_accountIncome 5 none, Cond.fieldLink RX3 150 "JointVenture$Well" "credited" "[I", Cond.methodLink RX3 240 yX2_takenOf, Cond.instanceMethod yX2_takenOf, Cond.selects RX2 yX2_takenOf yX2_takenOf, Cond.initialized RX2, Cond.code yX2_takenOf cX2_takenOf 3 (some .int), Cond.fieldLink RX2 23 "JointVenture$Well" "out" "[Z", Cond.fieldLink RX2 26 "JointVenture$Well" "toEarn" "[J", Cond.methodLink RX2 49 Lib.MathLoose.min_long.x, Cond.static Lib.MathLoose.min_long.x, Cond.initialized "java/lang/Math", Cond.code Lib.MathLoose.min_long.x Lib.MathLoose.min_long.code 4 (some .long), Cond.methodLink RX3 243 yX3_creditTaken, Cond.instanceMethod yX3_creditTaken]
def wsX3_account_r4 : List Cond := [Cond.selects RX3 yX3_creditTaken yX3_creditTaken, Cond.code yX3_creditTaken cX3_creditTaken 4 none, Cond.methodLink RX3 221 yX2_takeBack, Cond.instanceMethod yX2_takeBack, Cond.selects RX2 yX2_takeBack yX2_takeBack, Cond.code yX2_takeBack cX2_takeBack 3 none, Cond.fieldLink RX2 30 "JointVenture$Well" "backAt" "[I"]
def wsX3_account : List Cond := .code yX3_account cX3_account 4 none :: ((wsX3_account_r1 ++ (wsX3_account_r2 ++ (wsX3_account_r3 ++ wsX3_account_r4))) ++ wsX30 ++ wsX20 ++ wsX10)
def wsX3_addVoucher_r1 : List Cond := [Cond.fieldLink RX3 35 "JointVenture" "voucherCount" "I", Cond.fieldLink RX3 29 "JointVenture" "voucherWells" "[I", Cond.fieldLink RX3 32 "JointVenture" "voucherAmounts" "[I", Cond.fieldLink RX3 22 "JointVenture" "wells" "[LJointVenture$Well;", Cond.fieldLink RX3 97 "JointVenture$Well" "hadVoucher" "Z", Cond.methodLink RX3 209 yX3_account, Cond.instanceMethod yX3_account, Cond.selects RX3 yX3_account yX3_account, Cond.initialized RX3, Cond.code yX3_account cX3_account 4 none, Cond.methodLink RX3 215 yX3_accountCost, Cond.instanceMethod yX3_accountCost, Cond.selects RX3 yX3_accountCost yX3_accountCost, Cond.code yX3_accountCost cX3_accountCost 4 none, Cond.fieldLink RX3 147 "JointVenture$Well" "charged" "[I", Cond.fieldLink RX3 63 "JointVenture" "portions" "[I", Cond.fieldLink RX3 115 "JointVenture$Well" "out" "[Z", Cond.fieldLink RX3 140 "JointVenture$Well" "toEarn" "[J", Cond.fieldLink RX3 57 "JointVenture" "ownParts" "[I", Cond.fieldLink RX3 87 "JointVenture$Well" "penalty" "I", Cond.methodLink RX3 153 yX3_divideCost, Cond.instanceMethod yX3_divideCost, Cond.selects RX3 yX3_divideCost yX3_divideCost, Cond.code yX3_divideCost cX3_divideCost 4 none]
def wsX3_addVoucher_r2 : List Cond := [Cond.fieldLink RX3 53 "JointVenture" "division" "LJointVenture$Division;", Cond.fieldLink RX3 9 "JointVenture" "shares" "[I", Cond.fieldLink RX3 60 "JointVenture" "weights" "[I", Cond.methodLink RX3 162 yX1_divide, Cond.instanceMethod yX1_divide, Cond.selects RX1 yX1_divide yX1_divide, Cond.initialized RX1, Cond.code yX1_divide cX1_divide 10 none, Cond.fieldLink RX1 9 "JointVenture$Division" "remainders" "[J", Cond.constantLong RX1 25 (-1), Cond.methodLink RX1 15 yJ7_fill_53178, Cond.static yJ7_fill_53178, Cond.initialized RJ7, Cond.code yJ7_fill_53178 cJ7_fill_53178 4 none, Cond.methodLink RX1 21 yX1_firstWithGreatestRemainder, Cond.instanceMethod yX1_firstWithGreatestRemainder, Cond.selects RX1 yX1_firstWithGreatestRemainder yX1_firstWithGreatestRemainder, Cond.code yX1_firstWithGreatestRemainder cX1_firstWithGreatestRemainder 3 (some .int), Cond.methodLink RX3 232 yX3_weighThoseIn, Cond.instanceMethod yX3_weighThoseIn, Cond.selects RX3 yX3_weighThoseIn yX3_weighThoseIn, Cond.code yX3_weighThoseIn cX3_weighThoseIn 3 none, Cond.methodLink RX3 136 yX3_shareIfIn, Cond.instanceMethod yX3_shareIfIn]
def wsX3_addVoucher_r3 : List Cond := [Cond.selects RX3 yX3_shareIfIn yX3_shareIfIn, Cond.code yX3_shareIfIn cX3_shareIfIn 3 (some .int), Cond.methodLink RX3 236 yX3_ownPartsOfThoseOut, Cond.instanceMethod yX3_ownPartsOfThoseOut, Cond.selects RX3 yX3_ownPartsOfThoseOut yX3_ownPartsOfThoseOut, Cond.code yX3_ownPartsOfThoseOut cX3_ownPartsOfThoseOut 4 (some .int), Cond.methodLink RX3 224 yX3_penaltyOn, Cond.instanceMethod yX3_penaltyOn, Cond.selects RX3 yX3_penaltyOn yX3_penaltyOn, Cond.code yX3_penaltyOn cX3_penaltyOn 3 (some .long), Cond.constantLong RX3 228 (99), Cond.constantLong RX3 230 (100), Cond.methodLink RX3 218 yX3_accountIncome, Cond.instanceMethod yX3_accountIncome, Cond.selects RX3 yX3_accountIncome yX3_accountIncome, Cond.code yX3_accountIncome cX3_accountIncome 5 none, Cond.fieldLink RX3 150 "JointVenture$Well" "credited" "[I", Cond.methodLink RX3 240 yX2_takenOf, Cond.instanceMethod yX2_takenOf, Cond.selects RX2 yX2_takenOf yX2_takenOf, Cond.initialized RX2, Cond.code yX2_takenOf cX2_takenOf 3 (some .int), Cond.fieldLink RX2 23 "JointVenture$Well" "out" "[Z", Cond.fieldLink RX2 26 "JointVenture$Well" "toEarn" "[J"]
def wsX3_addVoucher_r4 : List Cond := [Cond.methodLink RX2 49 Lib.MathLoose.min_long.x, Cond.static Lib.MathLoose.min_long.x, Cond.initialized "java/lang/Math", Cond.code Lib.MathLoose.min_long.x Lib.MathLoose.min_long.code 4 (some .long), Cond.methodLink RX3 243 yX3_creditTaken, Cond.instanceMethod yX3_creditTaken, Cond.selects RX3 yX3_creditTaken yX3_creditTaken, Cond.code yX3_creditTaken cX3_creditTaken 4 none, Cond.methodLink RX3 221 yX2_takeBack, Cond.instanceMethod yX2_takeBack, Cond.selects RX2 yX2_takeBack yX2_takeBack, Cond.code yX2_takeBack cX2_takeBack 3 none, Cond.fieldLink RX2 30 "JointVenture$Well" "backAt" "[I"]
def wsX3_addVoucher : List Cond := .code yX3_addVoucher cX3_addVoucher 4 (some .int) :: ((wsX3_addVoucher_r1 ++ (wsX3_addVoucher_r2 ++ (wsX3_addVoucher_r3 ++ wsX3_addVoucher_r4))) ++ wsX30 ++ wsX20 ++ wsX10)
def wsX3_cost_r1 : List Cond := [Cond.constant RX3 118 (10000000), Cond.methodLink RX3 90 yX3_requireWell, Cond.instanceMethod yX3_requireWell, Cond.selects RX3 yX3_requireWell yX3_requireWell, Cond.initialized RX3, Cond.code yX3_requireWell cX3_requireWell 2 none, Cond.classLink RX3 196 "java/lang/IndexOutOfBoundsException", Cond.initialized "java/lang/IndexOutOfBoundsException", Cond.fieldLink RX3 26 "JointVenture" "wellCount" "I", Cond.methodLink RX3 68 yX3_requireRange, Cond.instanceMethod yX3_requireRange, Cond.selects RX3 yX3_requireRange yX3_requireRange, Cond.code yX3_requireRange cX3_requireRange 4 none, Cond.classLink RX3 72 "java/lang/IllegalArgumentException", Cond.initialized "java/lang/IllegalArgumentException", Cond.methodLink RX3 119 yX3_requireRoomForVoucher, Cond.instanceMethod yX3_requireRoomForVoucher, Cond.selects RX3 yX3_requireRoomForVoucher yX3_requireRoomForVoucher, Cond.code yX3_requireRoomForVoucher cX3_requireRoomForVoucher 1 none, Cond.classLink RX3 79 "java/lang/IllegalStateException", Cond.initialized "java/lang/IllegalStateException", Cond.fieldLink RX3 35 "JointVenture" "voucherCount" "I", Cond.methodLink RX3 122 yX3_addVoucher, Cond.instanceMethod yX3_addVoucher]
def wsX3_cost_r2 : List Cond := [Cond.selects RX3 yX3_addVoucher yX3_addVoucher, Cond.code yX3_addVoucher cX3_addVoucher 4 (some .int), Cond.fieldLink RX3 29 "JointVenture" "voucherWells" "[I", Cond.fieldLink RX3 32 "JointVenture" "voucherAmounts" "[I", Cond.fieldLink RX3 22 "JointVenture" "wells" "[LJointVenture$Well;", Cond.fieldLink RX3 97 "JointVenture$Well" "hadVoucher" "Z", Cond.methodLink RX3 209 yX3_account, Cond.instanceMethod yX3_account, Cond.selects RX3 yX3_account yX3_account, Cond.code yX3_account cX3_account 4 none, Cond.methodLink RX3 215 yX3_accountCost, Cond.instanceMethod yX3_accountCost, Cond.selects RX3 yX3_accountCost yX3_accountCost, Cond.code yX3_accountCost cX3_accountCost 4 none, Cond.fieldLink RX3 147 "JointVenture$Well" "charged" "[I", Cond.fieldLink RX3 63 "JointVenture" "portions" "[I", Cond.fieldLink RX3 115 "JointVenture$Well" "out" "[Z", Cond.fieldLink RX3 140 "JointVenture$Well" "toEarn" "[J", Cond.fieldLink RX3 57 "JointVenture" "ownParts" "[I", Cond.fieldLink RX3 87 "JointVenture$Well" "penalty" "I", Cond.methodLink RX3 153 yX3_divideCost, Cond.instanceMethod yX3_divideCost, Cond.selects RX3 yX3_divideCost yX3_divideCost, Cond.code yX3_divideCost cX3_divideCost 4 none]
def wsX3_cost_r3 : List Cond := [Cond.fieldLink RX3 53 "JointVenture" "division" "LJointVenture$Division;", Cond.fieldLink RX3 9 "JointVenture" "shares" "[I", Cond.fieldLink RX3 60 "JointVenture" "weights" "[I", Cond.methodLink RX3 162 yX1_divide, Cond.instanceMethod yX1_divide, Cond.selects RX1 yX1_divide yX1_divide, Cond.initialized RX1, Cond.code yX1_divide cX1_divide 10 none, Cond.fieldLink RX1 9 "JointVenture$Division" "remainders" "[J", Cond.constantLong RX1 25 (-1), Cond.methodLink RX1 15 yJ7_fill_53178, Cond.static yJ7_fill_53178, Cond.initialized RJ7, Cond.code yJ7_fill_53178 cJ7_fill_53178 4 none, Cond.methodLink RX1 21 yX1_firstWithGreatestRemainder, Cond.instanceMethod yX1_firstWithGreatestRemainder, Cond.selects RX1 yX1_firstWithGreatestRemainder yX1_firstWithGreatestRemainder, Cond.code yX1_firstWithGreatestRemainder cX1_firstWithGreatestRemainder 3 (some .int), Cond.methodLink RX3 232 yX3_weighThoseIn, Cond.instanceMethod yX3_weighThoseIn, Cond.selects RX3 yX3_weighThoseIn yX3_weighThoseIn, Cond.code yX3_weighThoseIn cX3_weighThoseIn 3 none, Cond.methodLink RX3 136 yX3_shareIfIn, Cond.instanceMethod yX3_shareIfIn]
def wsX3_cost_r4 : List Cond := [Cond.selects RX3 yX3_shareIfIn yX3_shareIfIn, Cond.code yX3_shareIfIn cX3_shareIfIn 3 (some .int), Cond.methodLink RX3 236 yX3_ownPartsOfThoseOut, Cond.instanceMethod yX3_ownPartsOfThoseOut, Cond.selects RX3 yX3_ownPartsOfThoseOut yX3_ownPartsOfThoseOut, Cond.code yX3_ownPartsOfThoseOut cX3_ownPartsOfThoseOut 4 (some .int), Cond.methodLink RX3 224 yX3_penaltyOn, Cond.instanceMethod yX3_penaltyOn, Cond.selects RX3 yX3_penaltyOn yX3_penaltyOn, Cond.code yX3_penaltyOn cX3_penaltyOn 3 (some .long), Cond.constantLong RX3 228 (99), Cond.constantLong RX3 230 (100), Cond.methodLink RX3 218 yX3_accountIncome, Cond.instanceMethod yX3_accountIncome, Cond.selects RX3 yX3_accountIncome yX3_accountIncome, Cond.code yX3_accountIncome cX3_accountIncome 5 none, Cond.fieldLink RX3 150 "JointVenture$Well" "credited" "[I", Cond.methodLink RX3 240 yX2_takenOf, Cond.instanceMethod yX2_takenOf, Cond.selects RX2 yX2_takenOf yX2_takenOf, Cond.initialized RX2, Cond.code yX2_takenOf cX2_takenOf 3 (some .int), Cond.fieldLink RX2 23 "JointVenture$Well" "out" "[Z", Cond.fieldLink RX2 26 "JointVenture$Well" "toEarn" "[J"]
def wsX3_cost_r5 : List Cond := [Cond.methodLink RX2 49 Lib.MathLoose.min_long.x, Cond.static Lib.MathLoose.min_long.x, Cond.initialized "java/lang/Math", Cond.code Lib.MathLoose.min_long.x Lib.MathLoose.min_long.code 4 (some .long), Cond.methodLink RX3 243 yX3_creditTaken, Cond.instanceMethod yX3_creditTaken, Cond.selects RX3 yX3_creditTaken yX3_creditTaken, Cond.code yX3_creditTaken cX3_creditTaken 4 none, Cond.methodLink RX3 221 yX2_takeBack, Cond.instanceMethod yX2_takeBack, Cond.selects RX2 yX2_takeBack yX2_takeBack, Cond.code yX2_takeBack cX2_takeBack 3 none, Cond.fieldLink RX2 30 "JointVenture$Well" "backAt" "[I"]
def wsX3_cost : List Cond := .code yX3_cost cX3_cost 3 (some .int) :: ((wsX3_cost_r1 ++ (wsX3_cost_r2 ++ (wsX3_cost_r3 ++ (wsX3_cost_r4 ++ wsX3_cost_r5)))) ++ wsX30 ++ wsX20 ++ wsX10 ++ (vx_atS RX3 200 "java/lang/IndexOutOfBoundsException" ["java/lang/RuntimeException", "java/lang/Exception"]).filter goodWord ++ (vx_atS RX3 76 "java/lang/IllegalArgumentException" ["java/lang/RuntimeException", "java/lang/Exception"]).filter goodWord ++ (vx_atS RX3 83 "java/lang/IllegalStateException" ["java/lang/RuntimeException", "java/lang/Exception"]).filter goodWord)
def wsX3_overhead_r1 : List Cond := [Cond.classLink RX3 79 "java/lang/IllegalStateException", Cond.initialized "java/lang/IllegalStateException", Cond.fieldLink RX3 17 "JointVenture" "monthlyOverhead" "I", Cond.methodLink RX3 90 yX3_requireWell, Cond.instanceMethod yX3_requireWell, Cond.selects RX3 yX3_requireWell yX3_requireWell, Cond.initialized RX3, Cond.code yX3_requireWell cX3_requireWell 2 none, Cond.classLink RX3 196 "java/lang/IndexOutOfBoundsException", Cond.initialized "java/lang/IndexOutOfBoundsException", Cond.fieldLink RX3 26 "JointVenture" "wellCount" "I", Cond.methodLink RX3 68 yX3_requireRange, Cond.instanceMethod yX3_requireRange, Cond.selects RX3 yX3_requireRange yX3_requireRange, Cond.code yX3_requireRange cX3_requireRange 4 none, Cond.classLink RX3 72 "java/lang/IllegalArgumentException", Cond.initialized "java/lang/IllegalArgumentException", Cond.methodLink RX3 119 yX3_requireRoomForVoucher, Cond.instanceMethod yX3_requireRoomForVoucher, Cond.selects RX3 yX3_requireRoomForVoucher yX3_requireRoomForVoucher, Cond.code yX3_requireRoomForVoucher cX3_requireRoomForVoucher 1 none, Cond.fieldLink RX3 35 "JointVenture" "voucherCount" "I", Cond.methodLink RX3 122 yX3_addVoucher, Cond.instanceMethod yX3_addVoucher]
def wsX3_overhead_r2 : List Cond := [Cond.selects RX3 yX3_addVoucher yX3_addVoucher, Cond.code yX3_addVoucher cX3_addVoucher 4 (some .int), Cond.fieldLink RX3 29 "JointVenture" "voucherWells" "[I", Cond.fieldLink RX3 32 "JointVenture" "voucherAmounts" "[I", Cond.fieldLink RX3 22 "JointVenture" "wells" "[LJointVenture$Well;", Cond.fieldLink RX3 97 "JointVenture$Well" "hadVoucher" "Z", Cond.methodLink RX3 209 yX3_account, Cond.instanceMethod yX3_account, Cond.selects RX3 yX3_account yX3_account, Cond.code yX3_account cX3_account 4 none, Cond.methodLink RX3 215 yX3_accountCost, Cond.instanceMethod yX3_accountCost, Cond.selects RX3 yX3_accountCost yX3_accountCost, Cond.code yX3_accountCost cX3_accountCost 4 none, Cond.fieldLink RX3 147 "JointVenture$Well" "charged" "[I", Cond.fieldLink RX3 63 "JointVenture" "portions" "[I", Cond.fieldLink RX3 115 "JointVenture$Well" "out" "[Z", Cond.fieldLink RX3 140 "JointVenture$Well" "toEarn" "[J", Cond.fieldLink RX3 57 "JointVenture" "ownParts" "[I", Cond.fieldLink RX3 87 "JointVenture$Well" "penalty" "I", Cond.methodLink RX3 153 yX3_divideCost, Cond.instanceMethod yX3_divideCost, Cond.selects RX3 yX3_divideCost yX3_divideCost, Cond.code yX3_divideCost cX3_divideCost 4 none]
def wsX3_overhead_r3 : List Cond := [Cond.fieldLink RX3 53 "JointVenture" "division" "LJointVenture$Division;", Cond.fieldLink RX3 9 "JointVenture" "shares" "[I", Cond.fieldLink RX3 60 "JointVenture" "weights" "[I", Cond.methodLink RX3 162 yX1_divide, Cond.instanceMethod yX1_divide, Cond.selects RX1 yX1_divide yX1_divide, Cond.initialized RX1, Cond.code yX1_divide cX1_divide 10 none, Cond.fieldLink RX1 9 "JointVenture$Division" "remainders" "[J", Cond.constantLong RX1 25 (-1), Cond.methodLink RX1 15 yJ7_fill_53178, Cond.static yJ7_fill_53178, Cond.initialized RJ7, Cond.code yJ7_fill_53178 cJ7_fill_53178 4 none, Cond.methodLink RX1 21 yX1_firstWithGreatestRemainder, Cond.instanceMethod yX1_firstWithGreatestRemainder, Cond.selects RX1 yX1_firstWithGreatestRemainder yX1_firstWithGreatestRemainder, Cond.code yX1_firstWithGreatestRemainder cX1_firstWithGreatestRemainder 3 (some .int), Cond.methodLink RX3 232 yX3_weighThoseIn, Cond.instanceMethod yX3_weighThoseIn, Cond.selects RX3 yX3_weighThoseIn yX3_weighThoseIn, Cond.code yX3_weighThoseIn cX3_weighThoseIn 3 none, Cond.methodLink RX3 136 yX3_shareIfIn, Cond.instanceMethod yX3_shareIfIn]
def wsX3_overhead_r4 : List Cond := [Cond.selects RX3 yX3_shareIfIn yX3_shareIfIn, Cond.code yX3_shareIfIn cX3_shareIfIn 3 (some .int), Cond.methodLink RX3 236 yX3_ownPartsOfThoseOut, Cond.instanceMethod yX3_ownPartsOfThoseOut, Cond.selects RX3 yX3_ownPartsOfThoseOut yX3_ownPartsOfThoseOut, Cond.code yX3_ownPartsOfThoseOut cX3_ownPartsOfThoseOut 4 (some .int), Cond.methodLink RX3 224 yX3_penaltyOn, Cond.instanceMethod yX3_penaltyOn, Cond.selects RX3 yX3_penaltyOn yX3_penaltyOn, Cond.code yX3_penaltyOn cX3_penaltyOn 3 (some .long), Cond.constantLong RX3 228 (99), Cond.constantLong RX3 230 (100), Cond.methodLink RX3 218 yX3_accountIncome, Cond.instanceMethod yX3_accountIncome, Cond.selects RX3 yX3_accountIncome yX3_accountIncome, Cond.code yX3_accountIncome cX3_accountIncome 5 none, Cond.fieldLink RX3 150 "JointVenture$Well" "credited" "[I", Cond.methodLink RX3 240 yX2_takenOf, Cond.instanceMethod yX2_takenOf, Cond.selects RX2 yX2_takenOf yX2_takenOf, Cond.initialized RX2, Cond.code yX2_takenOf cX2_takenOf 3 (some .int), Cond.fieldLink RX2 23 "JointVenture$Well" "out" "[Z", Cond.fieldLink RX2 26 "JointVenture$Well" "toEarn" "[J"]
def wsX3_overhead_r5 : List Cond := [Cond.methodLink RX2 49 Lib.MathLoose.min_long.x, Cond.static Lib.MathLoose.min_long.x, Cond.initialized "java/lang/Math", Cond.code Lib.MathLoose.min_long.x Lib.MathLoose.min_long.code 4 (some .long), Cond.methodLink RX3 243 yX3_creditTaken, Cond.instanceMethod yX3_creditTaken, Cond.selects RX3 yX3_creditTaken yX3_creditTaken, Cond.code yX3_creditTaken cX3_creditTaken 4 none, Cond.methodLink RX3 221 yX2_takeBack, Cond.instanceMethod yX2_takeBack, Cond.selects RX2 yX2_takeBack yX2_takeBack, Cond.code yX2_takeBack cX2_takeBack 3 none, Cond.fieldLink RX2 30 "JointVenture$Well" "backAt" "[I"]
def wsX3_overhead : List Cond := .code yX3_overhead cX3_overhead 3 (some .int) :: ((wsX3_overhead_r1 ++ (wsX3_overhead_r2 ++ (wsX3_overhead_r3 ++ (wsX3_overhead_r4 ++ wsX3_overhead_r5)))) ++ wsX30 ++ wsX20 ++ wsX10 ++ (vx_atS RX3 83 "java/lang/IllegalStateException" ["java/lang/RuntimeException", "java/lang/Exception"]).filter goodWord ++ (vx_atS RX3 200 "java/lang/IndexOutOfBoundsException" ["java/lang/RuntimeException", "java/lang/Exception"]).filter goodWord ++ (vx_atS RX3 76 "java/lang/IllegalArgumentException" ["java/lang/RuntimeException", "java/lang/Exception"]).filter goodWord)
def wsX3_income_r1 : List Cond := [Cond.constant RX3 118 (10000000), Cond.methodLink RX3 90 yX3_requireWell, Cond.instanceMethod yX3_requireWell, Cond.selects RX3 yX3_requireWell yX3_requireWell, Cond.initialized RX3, Cond.code yX3_requireWell cX3_requireWell 2 none, Cond.classLink RX3 196 "java/lang/IndexOutOfBoundsException", Cond.initialized "java/lang/IndexOutOfBoundsException", Cond.fieldLink RX3 26 "JointVenture" "wellCount" "I", Cond.methodLink RX3 68 yX3_requireRange, Cond.instanceMethod yX3_requireRange, Cond.selects RX3 yX3_requireRange yX3_requireRange, Cond.code yX3_requireRange cX3_requireRange 4 none, Cond.classLink RX3 72 "java/lang/IllegalArgumentException", Cond.initialized "java/lang/IllegalArgumentException", Cond.methodLink RX3 119 yX3_requireRoomForVoucher, Cond.instanceMethod yX3_requireRoomForVoucher, Cond.selects RX3 yX3_requireRoomForVoucher yX3_requireRoomForVoucher, Cond.code yX3_requireRoomForVoucher cX3_requireRoomForVoucher 1 none, Cond.classLink RX3 79 "java/lang/IllegalStateException", Cond.initialized "java/lang/IllegalStateException", Cond.fieldLink RX3 35 "JointVenture" "voucherCount" "I", Cond.methodLink RX3 122 yX3_addVoucher, Cond.instanceMethod yX3_addVoucher]
def wsX3_income_r2 : List Cond := [Cond.selects RX3 yX3_addVoucher yX3_addVoucher, Cond.code yX3_addVoucher cX3_addVoucher 4 (some .int), Cond.fieldLink RX3 29 "JointVenture" "voucherWells" "[I", Cond.fieldLink RX3 32 "JointVenture" "voucherAmounts" "[I", Cond.fieldLink RX3 22 "JointVenture" "wells" "[LJointVenture$Well;", Cond.fieldLink RX3 97 "JointVenture$Well" "hadVoucher" "Z", Cond.methodLink RX3 209 yX3_account, Cond.instanceMethod yX3_account, Cond.selects RX3 yX3_account yX3_account, Cond.code yX3_account cX3_account 4 none, Cond.methodLink RX3 215 yX3_accountCost, Cond.instanceMethod yX3_accountCost, Cond.selects RX3 yX3_accountCost yX3_accountCost, Cond.code yX3_accountCost cX3_accountCost 4 none, Cond.fieldLink RX3 147 "JointVenture$Well" "charged" "[I", Cond.fieldLink RX3 63 "JointVenture" "portions" "[I", Cond.fieldLink RX3 115 "JointVenture$Well" "out" "[Z", Cond.fieldLink RX3 140 "JointVenture$Well" "toEarn" "[J", Cond.fieldLink RX3 57 "JointVenture" "ownParts" "[I", Cond.fieldLink RX3 87 "JointVenture$Well" "penalty" "I", Cond.methodLink RX3 153 yX3_divideCost, Cond.instanceMethod yX3_divideCost, Cond.selects RX3 yX3_divideCost yX3_divideCost, Cond.code yX3_divideCost cX3_divideCost 4 none]
def wsX3_income_r3 : List Cond := [Cond.fieldLink RX3 53 "JointVenture" "division" "LJointVenture$Division;", Cond.fieldLink RX3 9 "JointVenture" "shares" "[I", Cond.fieldLink RX3 60 "JointVenture" "weights" "[I", Cond.methodLink RX3 162 yX1_divide, Cond.instanceMethod yX1_divide, Cond.selects RX1 yX1_divide yX1_divide, Cond.initialized RX1, Cond.code yX1_divide cX1_divide 10 none, Cond.fieldLink RX1 9 "JointVenture$Division" "remainders" "[J", Cond.constantLong RX1 25 (-1), Cond.methodLink RX1 15 yJ7_fill_53178, Cond.static yJ7_fill_53178, Cond.initialized RJ7, Cond.code yJ7_fill_53178 cJ7_fill_53178 4 none, Cond.methodLink RX1 21 yX1_firstWithGreatestRemainder, Cond.instanceMethod yX1_firstWithGreatestRemainder, Cond.selects RX1 yX1_firstWithGreatestRemainder yX1_firstWithGreatestRemainder, Cond.code yX1_firstWithGreatestRemainder cX1_firstWithGreatestRemainder 3 (some .int), Cond.methodLink RX3 232 yX3_weighThoseIn, Cond.instanceMethod yX3_weighThoseIn, Cond.selects RX3 yX3_weighThoseIn yX3_weighThoseIn, Cond.code yX3_weighThoseIn cX3_weighThoseIn 3 none, Cond.methodLink RX3 136 yX3_shareIfIn, Cond.instanceMethod yX3_shareIfIn]
def wsX3_income_r4 : List Cond := [Cond.selects RX3 yX3_shareIfIn yX3_shareIfIn, Cond.code yX3_shareIfIn cX3_shareIfIn 3 (some .int), Cond.methodLink RX3 236 yX3_ownPartsOfThoseOut, Cond.instanceMethod yX3_ownPartsOfThoseOut, Cond.selects RX3 yX3_ownPartsOfThoseOut yX3_ownPartsOfThoseOut, Cond.code yX3_ownPartsOfThoseOut cX3_ownPartsOfThoseOut 4 (some .int), Cond.methodLink RX3 224 yX3_penaltyOn, Cond.instanceMethod yX3_penaltyOn, Cond.selects RX3 yX3_penaltyOn yX3_penaltyOn, Cond.code yX3_penaltyOn cX3_penaltyOn 3 (some .long), Cond.constantLong RX3 228 (99), Cond.constantLong RX3 230 (100), Cond.methodLink RX3 218 yX3_accountIncome, Cond.instanceMethod yX3_accountIncome, Cond.selects RX3 yX3_accountIncome yX3_accountIncome, Cond.code yX3_accountIncome cX3_accountIncome 5 none, Cond.fieldLink RX3 150 "JointVenture$Well" "credited" "[I", Cond.methodLink RX3 240 yX2_takenOf, Cond.instanceMethod yX2_takenOf, Cond.selects RX2 yX2_takenOf yX2_takenOf, Cond.initialized RX2, Cond.code yX2_takenOf cX2_takenOf 3 (some .int), Cond.fieldLink RX2 23 "JointVenture$Well" "out" "[Z", Cond.fieldLink RX2 26 "JointVenture$Well" "toEarn" "[J"]
def wsX3_income_r5 : List Cond := [Cond.methodLink RX2 49 Lib.MathLoose.min_long.x, Cond.static Lib.MathLoose.min_long.x, Cond.initialized "java/lang/Math", Cond.code Lib.MathLoose.min_long.x Lib.MathLoose.min_long.code 4 (some .long), Cond.methodLink RX3 243 yX3_creditTaken, Cond.instanceMethod yX3_creditTaken, Cond.selects RX3 yX3_creditTaken yX3_creditTaken, Cond.code yX3_creditTaken cX3_creditTaken 4 none, Cond.methodLink RX3 221 yX2_takeBack, Cond.instanceMethod yX2_takeBack, Cond.selects RX2 yX2_takeBack yX2_takeBack, Cond.code yX2_takeBack cX2_takeBack 3 none, Cond.fieldLink RX2 30 "JointVenture$Well" "backAt" "[I"]
def wsX3_income : List Cond := .code yX3_income cX3_income 3 (some .int) :: ((wsX3_income_r1 ++ (wsX3_income_r2 ++ (wsX3_income_r3 ++ (wsX3_income_r4 ++ wsX3_income_r5)))) ++ wsX30 ++ wsX20 ++ wsX10 ++ (vx_atS RX3 200 "java/lang/IndexOutOfBoundsException" ["java/lang/RuntimeException", "java/lang/Exception"]).filter goodWord ++ (vx_atS RX3 76 "java/lang/IllegalArgumentException" ["java/lang/RuntimeException", "java/lang/Exception"]).filter goodWord ++ (vx_atS RX3 83 "java/lang/IllegalStateException" ["java/lang/RuntimeException", "java/lang/Exception"]).filter goodWord)
def wsX3_requireVoucher : List Cond := .code yX3_requireVoucher cX3_requireVoucher 2 none :: ([.classLink RX3 196 "java/lang/IndexOutOfBoundsException", .initialized "java/lang/IndexOutOfBoundsException", .fieldLink RX3 35 "JointVenture" "voucherCount" "I"] ++ wsX30 ++ (vx_atS RX3 200 "java/lang/IndexOutOfBoundsException" ["java/lang/RuntimeException", "java/lang/Exception"]).filter goodWord)
def wsX3_accountAnew_r1 : List Cond := [Cond.fieldLink RX3 22 "JointVenture" "wells" "[LJointVenture$Well;", Cond.fieldLink RX3 35 "JointVenture" "voucherCount" "I", Cond.fieldLink RX3 29 "JointVenture" "voucherWells" "[I", Cond.methodLink RX3 212 yX2_clearAccounts, Cond.instanceMethod yX2_clearAccounts, Cond.selects RX2 yX2_clearAccounts yX2_clearAccounts, Cond.initialized RX2, Cond.code yX2_clearAccounts cX2_clearAccounts 2 none, Cond.fieldLink RX2 26 "JointVenture$Well" "toEarn" "[J", Cond.fieldLink RX2 30 "JointVenture$Well" "backAt" "[I", Cond.fieldLink RX2 34 "JointVenture$Well" "charged" "[I", Cond.fieldLink RX2 37 "JointVenture$Well" "credited" "[I", Cond.fieldLink RX2 23 "JointVenture$Well" "out" "[Z", Cond.fieldLink RX2 19 "JointVenture$Well" "electedOut" "[Z", Cond.methodLink RX2 46 yJ7_fill_d0a16, Cond.static yJ7_fill_d0a16, Cond.initialized RJ7, Cond.code yJ7_fill_d0a16 cJ7_fill_d0a16 5 none, Cond.methodLink RX2 40 yJ7_fill_53178, Cond.static yJ7_fill_53178, Cond.code yJ7_fill_53178 cJ7_fill_53178 4 none, Cond.methodLink RX3 209 yX3_account, Cond.instanceMethod yX3_account, Cond.selects RX3 yX3_account yX3_account]
def wsX3_accountAnew_r2 : List Cond := [Cond.initialized RX3, Cond.code yX3_account cX3_account 4 none, Cond.fieldLink RX3 32 "JointVenture" "voucherAmounts" "[I", Cond.methodLink RX3 215 yX3_accountCost, Cond.instanceMethod yX3_accountCost, Cond.selects RX3 yX3_accountCost yX3_accountCost, Cond.code yX3_accountCost cX3_accountCost 4 none, Cond.fieldLink RX3 147 "JointVenture$Well" "charged" "[I", Cond.fieldLink RX3 63 "JointVenture" "portions" "[I", Cond.fieldLink RX3 115 "JointVenture$Well" "out" "[Z", Cond.fieldLink RX3 140 "JointVenture$Well" "toEarn" "[J", Cond.fieldLink RX3 57 "JointVenture" "ownParts" "[I", Cond.fieldLink RX3 87 "JointVenture$Well" "penalty" "I", Cond.methodLink RX3 153 yX3_divideCost, Cond.instanceMethod yX3_divideCost, Cond.selects RX3 yX3_divideCost yX3_divideCost, Cond.code yX3_divideCost cX3_divideCost 4 none, Cond.fieldLink RX3 53 "JointVenture" "division" "LJointVenture$Division;", Cond.fieldLink RX3 9 "JointVenture" "shares" "[I", Cond.fieldLink RX3 60 "JointVenture" "weights" "[I", Cond.methodLink RX3 162 yX1_divide, Cond.instanceMethod yX1_divide, Cond.selects RX1 yX1_divide yX1_divide, Cond.initialized RX1]
def wsX3_accountAnew_r3 : List Cond := [Cond.code yX1_divide cX1_divide 10 none, Cond.fieldLink RX1 9 "JointVenture$Division" "remainders" "[J", Cond.constantLong RX1 25 (-1), Cond.methodLink RX1 15 yJ7_fill_53178, Cond.methodLink RX1 21 yX1_firstWithGreatestRemainder, Cond.instanceMethod yX1_firstWithGreatestRemainder, Cond.selects RX1 yX1_firstWithGreatestRemainder yX1_firstWithGreatestRemainder, Cond.code yX1_firstWithGreatestRemainder cX1_firstWithGreatestRemainder 3 (some .int), Cond.methodLink RX3 232 yX3_weighThoseIn, Cond.instanceMethod yX3_weighThoseIn, Cond.selects RX3 yX3_weighThoseIn yX3_weighThoseIn, Cond.code yX3_weighThoseIn cX3_weighThoseIn 3 none, Cond.methodLink RX3 136 yX3_shareIfIn, Cond.instanceMethod yX3_shareIfIn, Cond.selects RX3 yX3_shareIfIn yX3_shareIfIn, Cond.code yX3_shareIfIn cX3_shareIfIn 3 (some .int), Cond.methodLink RX3 236 yX3_ownPartsOfThoseOut, Cond.instanceMethod yX3_ownPartsOfThoseOut, Cond.selects RX3 yX3_ownPartsOfThoseOut yX3_ownPartsOfThoseOut, Cond.code yX3_ownPartsOfThoseOut cX3_ownPartsOfThoseOut 4 (some .int), Cond.methodLink RX3 224 yX3_penaltyOn, Cond.instanceMethod yX3_penaltyOn, Cond.selects RX3 yX3_penaltyOn yX3_penaltyOn, Cond.code yX3_penaltyOn cX3_penaltyOn 3 (some .long)]
def wsX3_accountAnew_r4 : List Cond := [Cond.constantLong RX3 228 (99), Cond.constantLong RX3 230 (100), Cond.methodLink RX3 218 yX3_accountIncome, Cond.instanceMethod yX3_accountIncome, Cond.selects RX3 yX3_accountIncome yX3_accountIncome, Cond.code yX3_accountIncome cX3_accountIncome 5 none, Cond.fieldLink RX3 150 "JointVenture$Well" "credited" "[I", Cond.methodLink RX3 240 yX2_takenOf, Cond.instanceMethod yX2_takenOf, Cond.selects RX2 yX2_takenOf yX2_takenOf, Cond.code yX2_takenOf cX2_takenOf 3 (some .int), Cond.methodLink RX2 49 Lib.MathLoose.min_long.x, Cond.static Lib.MathLoose.min_long.x, Cond.initialized "java/lang/Math", Cond.code Lib.MathLoose.min_long.x Lib.MathLoose.min_long.code 4 (some .long), Cond.methodLink RX3 243 yX3_creditTaken, Cond.instanceMethod yX3_creditTaken, Cond.selects RX3 yX3_creditTaken yX3_creditTaken, Cond.code yX3_creditTaken cX3_creditTaken 4 none, Cond.methodLink RX3 221 yX2_takeBack, Cond.instanceMethod yX2_takeBack, Cond.selects RX2 yX2_takeBack yX2_takeBack, Cond.code yX2_takeBack cX2_takeBack 3 none]
def wsX3_accountAnew : List Cond := .code yX3_accountAnew cX3_accountAnew 3 none :: ((wsX3_accountAnew_r1 ++ (wsX3_accountAnew_r2 ++ (wsX3_accountAnew_r3 ++ wsX3_accountAnew_r4))) ++ wsX30 ++ wsX20 ++ wsX10)
def wsX3_move_r1 : List Cond := [Cond.classLink RX3 79 "java/lang/IllegalStateException", Cond.initialized "java/lang/IllegalStateException", Cond.fieldLink RX3 32 "JointVenture" "voucherAmounts" "[I", Cond.fieldLink RX3 29 "JointVenture" "voucherWells" "[I", Cond.fieldLink RX3 22 "JointVenture" "wells" "[LJointVenture$Well;", Cond.fieldLink RX3 97 "JointVenture$Well" "hadVoucher" "Z", Cond.methodLink RX3 128 yX3_requireVoucher, Cond.instanceMethod yX3_requireVoucher, Cond.selects RX3 yX3_requireVoucher yX3_requireVoucher, Cond.initialized RX3, Cond.code yX3_requireVoucher cX3_requireVoucher 2 none, Cond.classLink RX3 196 "java/lang/IndexOutOfBoundsException", Cond.initialized "java/lang/IndexOutOfBoundsException", Cond.fieldLink RX3 35 "JointVenture" "voucherCount" "I", Cond.methodLink RX3 90 yX3_requireWell, Cond.instanceMethod yX3_requireWell, Cond.selects RX3 yX3_requireWell yX3_requireWell, Cond.code yX3_requireWell cX3_requireWell 2 none, Cond.fieldLink RX3 26 "JointVenture" "wellCount" "I", Cond.methodLink RX3 133 yX3_accountAnew, Cond.instanceMethod yX3_accountAnew, Cond.selects RX3 yX3_accountAnew yX3_accountAnew, Cond.code yX3_accountAnew cX3_accountAnew 3 none, Cond.methodLink RX3 212 yX2_clearAccounts]
def wsX3_move_r2 : List Cond := [Cond.instanceMethod yX2_clearAccounts, Cond.selects RX2 yX2_clearAccounts yX2_clearAccounts, Cond.initialized RX2, Cond.code yX2_clearAccounts cX2_clearAccounts 2 none, Cond.fieldLink RX2 26 "JointVenture$Well" "toEarn" "[J", Cond.fieldLink RX2 30 "JointVenture$Well" "backAt" "[I", Cond.fieldLink RX2 34 "JointVenture$Well" "charged" "[I", Cond.fieldLink RX2 37 "JointVenture$Well" "credited" "[I", Cond.fieldLink RX2 23 "JointVenture$Well" "out" "[Z", Cond.fieldLink RX2 19 "JointVenture$Well" "electedOut" "[Z", Cond.methodLink RX2 46 yJ7_fill_d0a16, Cond.static yJ7_fill_d0a16, Cond.initialized RJ7, Cond.code yJ7_fill_d0a16 cJ7_fill_d0a16 5 none, Cond.methodLink RX2 40 yJ7_fill_53178, Cond.static yJ7_fill_53178, Cond.code yJ7_fill_53178 cJ7_fill_53178 4 none, Cond.methodLink RX3 209 yX3_account, Cond.instanceMethod yX3_account, Cond.selects RX3 yX3_account yX3_account, Cond.code yX3_account cX3_account 4 none, Cond.methodLink RX3 215 yX3_accountCost, Cond.instanceMethod yX3_accountCost, Cond.selects RX3 yX3_accountCost yX3_accountCost]
def wsX3_move_r3 : List Cond := [Cond.code yX3_accountCost cX3_accountCost 4 none, Cond.fieldLink RX3 147 "JointVenture$Well" "charged" "[I", Cond.fieldLink RX3 63 "JointVenture" "portions" "[I", Cond.fieldLink RX3 115 "JointVenture$Well" "out" "[Z", Cond.fieldLink RX3 140 "JointVenture$Well" "toEarn" "[J", Cond.fieldLink RX3 57 "JointVenture" "ownParts" "[I", Cond.fieldLink RX3 87 "JointVenture$Well" "penalty" "I", Cond.methodLink RX3 153 yX3_divideCost, Cond.instanceMethod yX3_divideCost, Cond.selects RX3 yX3_divideCost yX3_divideCost, Cond.code yX3_divideCost cX3_divideCost 4 none, Cond.fieldLink RX3 53 "JointVenture" "division" "LJointVenture$Division;", Cond.fieldLink RX3 9 "JointVenture" "shares" "[I", Cond.fieldLink RX3 60 "JointVenture" "weights" "[I", Cond.methodLink RX3 162 yX1_divide, Cond.instanceMethod yX1_divide, Cond.selects RX1 yX1_divide yX1_divide, Cond.initialized RX1, Cond.code yX1_divide cX1_divide 10 none, Cond.fieldLink RX1 9 "JointVenture$Division" "remainders" "[J", Cond.constantLong RX1 25 (-1), Cond.methodLink RX1 15 yJ7_fill_53178, Cond.methodLink RX1 21 yX1_firstWithGreatestRemainder, Cond.instanceMethod yX1_firstWithGreatestRemainder]
def wsX3_move_r4 : List Cond := [Cond.selects RX1 yX1_firstWithGreatestRemainder yX1_firstWithGreatestRemainder, Cond.code yX1_firstWithGreatestRemainder cX1_firstWithGreatestRemainder 3 (some .int), Cond.methodLink RX3 232 yX3_weighThoseIn, Cond.instanceMethod yX3_weighThoseIn, Cond.selects RX3 yX3_weighThoseIn yX3_weighThoseIn, Cond.code yX3_weighThoseIn cX3_weighThoseIn 3 none, Cond.methodLink RX3 136 yX3_shareIfIn, Cond.instanceMethod yX3_shareIfIn, Cond.selects RX3 yX3_shareIfIn yX3_shareIfIn, Cond.code yX3_shareIfIn cX3_shareIfIn 3 (some .int), Cond.methodLink RX3 236 yX3_ownPartsOfThoseOut, Cond.instanceMethod yX3_ownPartsOfThoseOut, Cond.selects RX3 yX3_ownPartsOfThoseOut yX3_ownPartsOfThoseOut, Cond.code yX3_ownPartsOfThoseOut cX3_ownPartsOfThoseOut 4 (some .int), Cond.methodLink RX3 224 yX3_penaltyOn, Cond.instanceMethod yX3_penaltyOn, Cond.selects RX3 yX3_penaltyOn yX3_penaltyOn, Cond.code yX3_penaltyOn cX3_penaltyOn 3 (some .long), Cond.constantLong RX3 228 (99), Cond.constantLong RX3 230 (100), Cond.methodLink RX3 218 yX3_accountIncome, Cond.instanceMethod yX3_accountIncome, Cond.selects RX3 yX3_accountIncome yX3_accountIncome, Cond.code yX3_accountIncome cX3_accountIncome 5 none]
def wsX3_move_r5 : List Cond := [Cond.fieldLink RX3 150 "JointVenture$Well" "credited" "[I", Cond.methodLink RX3 240 yX2_takenOf, Cond.instanceMethod yX2_takenOf, Cond.selects RX2 yX2_takenOf yX2_takenOf, Cond.code yX2_takenOf cX2_takenOf 3 (some .int), Cond.methodLink RX2 49 Lib.MathLoose.min_long.x, Cond.static Lib.MathLoose.min_long.x, Cond.initialized "java/lang/Math", Cond.code Lib.MathLoose.min_long.x Lib.MathLoose.min_long.code 4 (some .long), Cond.methodLink RX3 243 yX3_creditTaken, Cond.instanceMethod yX3_creditTaken, Cond.selects RX3 yX3_creditTaken yX3_creditTaken, Cond.code yX3_creditTaken cX3_creditTaken 4 none, Cond.methodLink RX3 221 yX2_takeBack, Cond.instanceMethod yX2_takeBack, Cond.selects RX2 yX2_takeBack yX2_takeBack, Cond.code yX2_takeBack cX2_takeBack 3 none]
def wsX3_move : List Cond := .code yX3_move cX3_move 4 (some .int) :: ((wsX3_move_r1 ++ (wsX3_move_r2 ++ (wsX3_move_r3 ++ (wsX3_move_r4 ++ wsX3_move_r5)))) ++ wsX30 ++ wsX20 ++ wsX10 ++ (vx_atS RX3 83 "java/lang/IllegalStateException" ["java/lang/RuntimeException", "java/lang/Exception"]).filter goodWord ++ (vx_atS RX3 200 "java/lang/IndexOutOfBoundsException" ["java/lang/RuntimeException", "java/lang/Exception"]).filter goodWord)
def wsX3_vouchers : List Cond := .code yX3_vouchers cX3_vouchers 1 (some .int) :: ([.fieldLink RX3 35 "JointVenture" "voucherCount" "I"] ++ wsX30)
def wsX3_wellOf : List Cond := .code yX3_wellOf cX3_wellOf 2 (some .int) :: ([.fieldLink RX3 29 "JointVenture" "voucherWells" "[I", .methodLink RX3 128 yX3_requireVoucher, .instanceMethod yX3_requireVoucher, .selects RX3 yX3_requireVoucher yX3_requireVoucher, .initialized RX3, .code yX3_requireVoucher cX3_requireVoucher 2 none, .classLink RX3 196 "java/lang/IndexOutOfBoundsException", .initialized "java/lang/IndexOutOfBoundsException", .fieldLink RX3 35 "JointVenture" "voucherCount" "I"] ++ wsX30 ++ (vx_atS RX3 200 "java/lang/IndexOutOfBoundsException" ["java/lang/RuntimeException", "java/lang/Exception"]).filter goodWord)
def wsX3_amountOf : List Cond := .code yX3_amountOf cX3_amountOf 2 (some .int) :: ([.fieldLink RX3 32 "JointVenture" "voucherAmounts" "[I", .methodLink RX3 128 yX3_requireVoucher, .instanceMethod yX3_requireVoucher, .selects RX3 yX3_requireVoucher yX3_requireVoucher, .initialized RX3, .code yX3_requireVoucher cX3_requireVoucher 2 none, .classLink RX3 196 "java/lang/IndexOutOfBoundsException", .initialized "java/lang/IndexOutOfBoundsException", .fieldLink RX3 35 "JointVenture" "voucherCount" "I"] ++ wsX30 ++ (vx_atS RX3 200 "java/lang/IndexOutOfBoundsException" ["java/lang/RuntimeException", "java/lang/Exception"]).filter goodWord)
def wsX3_isIn : List Cond := .code yX3_isIn cX3_isIn 3 (some .boolean) :: ([.fieldLink RX3 22 "JointVenture" "wells" "[LJointVenture$Well;", .methodLink RX3 90 yX3_requireWell, .instanceMethod yX3_requireWell, .selects RX3 yX3_requireWell yX3_requireWell, .initialized RX3, .code yX3_requireWell cX3_requireWell 2 none, .classLink RX3 196 "java/lang/IndexOutOfBoundsException", .initialized "java/lang/IndexOutOfBoundsException", .fieldLink RX3 26 "JointVenture" "wellCount" "I", .methodLink RX3 94 yX3_requirePartner, .instanceMethod yX3_requirePartner, .selects RX3 yX3_requirePartner yX3_requirePartner, .code yX3_requirePartner cX3_requirePartner 2 none, .methodLink RX3 136 yX3_shareIfIn, .instanceMethod yX3_shareIfIn, .selects RX3 yX3_shareIfIn yX3_shareIfIn, .code yX3_shareIfIn cX3_shareIfIn 3 (some .int), .fieldLink RX3 115 "JointVenture$Well" "out" "[Z", .fieldLink RX3 9 "JointVenture" "shares" "[I"] ++ wsX30 ++ wsX20 ++ (vx_atS RX3 200 "java/lang/IndexOutOfBoundsException" ["java/lang/RuntimeException", "java/lang/Exception"]).filter goodWord)
def wsX3_toEarn : List Cond := .code yX3_toEarn cX3_toEarn 3 (some .long) :: ([.fieldLink RX3 22 "JointVenture" "wells" "[LJointVenture$Well;", .fieldLink RX3 140 "JointVenture$Well" "toEarn" "[J", .methodLink RX3 90 yX3_requireWell, .instanceMethod yX3_requireWell, .selects RX3 yX3_requireWell yX3_requireWell, .initialized RX3, .code yX3_requireWell cX3_requireWell 2 none, .classLink RX3 196 "java/lang/IndexOutOfBoundsException", .initialized "java/lang/IndexOutOfBoundsException", .fieldLink RX3 26 "JointVenture" "wellCount" "I", .methodLink RX3 94 yX3_requirePartner, .instanceMethod yX3_requirePartner, .selects RX3 yX3_requirePartner yX3_requirePartner, .code yX3_requirePartner cX3_requirePartner 2 none] ++ wsX30 ++ wsX20 ++ (vx_atS RX3 200 "java/lang/IndexOutOfBoundsException" ["java/lang/RuntimeException", "java/lang/Exception"]).filter goodWord)
def wsX3_backAt : List Cond := .code yX3_backAt cX3_backAt 3 (some .int) :: ([.fieldLink RX3 22 "JointVenture" "wells" "[LJointVenture$Well;", .fieldLink RX3 144 "JointVenture$Well" "backAt" "[I", .methodLink RX3 90 yX3_requireWell, .instanceMethod yX3_requireWell, .selects RX3 yX3_requireWell yX3_requireWell, .initialized RX3, .code yX3_requireWell cX3_requireWell 2 none, .classLink RX3 196 "java/lang/IndexOutOfBoundsException", .initialized "java/lang/IndexOutOfBoundsException", .fieldLink RX3 26 "JointVenture" "wellCount" "I", .methodLink RX3 94 yX3_requirePartner, .instanceMethod yX3_requirePartner, .selects RX3 yX3_requirePartner yX3_requirePartner, .code yX3_requirePartner cX3_requirePartner 2 none] ++ wsX30 ++ wsX20 ++ (vx_atS RX3 200 "java/lang/IndexOutOfBoundsException" ["java/lang/RuntimeException", "java/lang/Exception"]).filter goodWord)
def wsX3_charged : List Cond := .code yX3_charged cX3_charged 3 (some .int) :: ([.fieldLink RX3 22 "JointVenture" "wells" "[LJointVenture$Well;", .fieldLink RX3 147 "JointVenture$Well" "charged" "[I", .methodLink RX3 90 yX3_requireWell, .instanceMethod yX3_requireWell, .selects RX3 yX3_requireWell yX3_requireWell, .initialized RX3, .code yX3_requireWell cX3_requireWell 2 none, .classLink RX3 196 "java/lang/IndexOutOfBoundsException", .initialized "java/lang/IndexOutOfBoundsException", .fieldLink RX3 26 "JointVenture" "wellCount" "I", .methodLink RX3 94 yX3_requirePartner, .instanceMethod yX3_requirePartner, .selects RX3 yX3_requirePartner yX3_requirePartner, .code yX3_requirePartner cX3_requirePartner 2 none] ++ wsX30 ++ wsX20 ++ (vx_atS RX3 200 "java/lang/IndexOutOfBoundsException" ["java/lang/RuntimeException", "java/lang/Exception"]).filter goodWord)
def wsX3_credited : List Cond := .code yX3_credited cX3_credited 3 (some .int) :: ([.fieldLink RX3 22 "JointVenture" "wells" "[LJointVenture$Well;", .fieldLink RX3 150 "JointVenture$Well" "credited" "[I", .methodLink RX3 90 yX3_requireWell, .instanceMethod yX3_requireWell, .selects RX3 yX3_requireWell yX3_requireWell, .initialized RX3, .code yX3_requireWell cX3_requireWell 2 none, .classLink RX3 196 "java/lang/IndexOutOfBoundsException", .initialized "java/lang/IndexOutOfBoundsException", .fieldLink RX3 26 "JointVenture" "wellCount" "I", .methodLink RX3 94 yX3_requirePartner, .instanceMethod yX3_requirePartner, .selects RX3 yX3_requirePartner yX3_requirePartner, .code yX3_requirePartner cX3_requirePartner 2 none] ++ wsX30 ++ wsX20 ++ (vx_atS RX3 200 "java/lang/IndexOutOfBoundsException" ["java/lang/RuntimeException", "java/lang/Exception"]).filter goodWord)
def wsX3_weight_r1 : List Cond := [Cond.fieldLink RX3 22 "JointVenture" "wells" "[LJointVenture$Well;", Cond.fieldLink RX3 63 "JointVenture" "portions" "[I", Cond.methodLink RX3 90 yX3_requireWell, Cond.instanceMethod yX3_requireWell, Cond.selects RX3 yX3_requireWell yX3_requireWell, Cond.initialized RX3, Cond.code yX3_requireWell cX3_requireWell 2 none, Cond.classLink RX3 196 "java/lang/IndexOutOfBoundsException", Cond.initialized "java/lang/IndexOutOfBoundsException", Cond.fieldLink RX3 26 "JointVenture" "wellCount" "I", Cond.methodLink RX3 94 yX3_requirePartner, Cond.instanceMethod yX3_requirePartner, Cond.selects RX3 yX3_requirePartner yX3_requirePartner, Cond.code yX3_requirePartner cX3_requirePartner 2 none, Cond.methodLink RX3 153 yX3_divideCost, Cond.instanceMethod yX3_divideCost, Cond.selects RX3 yX3_divideCost yX3_divideCost, Cond.code yX3_divideCost cX3_divideCost 4 none, Cond.fieldLink RX3 53 "JointVenture" "division" "LJointVenture$Division;", Cond.fieldLink RX3 9 "JointVenture" "shares" "[I", Cond.fieldLink RX3 57 "JointVenture" "ownParts" "[I", Cond.fieldLink RX3 60 "JointVenture" "weights" "[I", Cond.fieldLink RX3 115 "JointVenture$Well" "out" "[Z", Cond.methodLink RX3 162 yX1_divide]
def wsX3_weight_r2 : List Cond := [Cond.instanceMethod yX1_divide, Cond.selects RX1 yX1_divide yX1_divide, Cond.initialized RX1, Cond.code yX1_divide cX1_divide 10 none, Cond.fieldLink RX1 9 "JointVenture$Division" "remainders" "[J", Cond.constantLong RX1 25 (-1), Cond.methodLink RX1 15 yJ7_fill_53178, Cond.static yJ7_fill_53178, Cond.initialized RJ7, Cond.code yJ7_fill_53178 cJ7_fill_53178 4 none, Cond.methodLink RX1 21 yX1_firstWithGreatestRemainder, Cond.instanceMethod yX1_firstWithGreatestRemainder, Cond.selects RX1 yX1_firstWithGreatestRemainder yX1_firstWithGreatestRemainder, Cond.code yX1_firstWithGreatestRemainder cX1_firstWithGreatestRemainder 3 (some .int), Cond.methodLink RX3 232 yX3_weighThoseIn, Cond.instanceMethod yX3_weighThoseIn, Cond.selects RX3 yX3_weighThoseIn yX3_weighThoseIn, Cond.code yX3_weighThoseIn cX3_weighThoseIn 3 none, Cond.methodLink RX3 136 yX3_shareIfIn, Cond.instanceMethod yX3_shareIfIn, Cond.selects RX3 yX3_shareIfIn yX3_shareIfIn, Cond.code yX3_shareIfIn cX3_shareIfIn 3 (some .int), Cond.methodLink RX3 236 yX3_ownPartsOfThoseOut, Cond.instanceMethod yX3_ownPartsOfThoseOut]
def wsX3_weight_r3 : List Cond := [Cond.selects RX3 yX3_ownPartsOfThoseOut yX3_ownPartsOfThoseOut, Cond.code yX3_ownPartsOfThoseOut cX3_ownPartsOfThoseOut 4 (some .int)]
def wsX3_weight : List Cond := .code yX3_weight cX3_weight 3 (some .int) :: ((wsX3_weight_r1 ++ (wsX3_weight_r2 ++ wsX3_weight_r3)) ++ wsX30 ++ wsX20 ++ wsX10 ++ (vx_atS RX3 200 "java/lang/IndexOutOfBoundsException" ["java/lang/RuntimeException", "java/lang/Exception"]).filter goodWord)
def wsX3_call_r1 : List Cond := [Cond.classLink RX3 79 "java/lang/IllegalStateException", Cond.initialized "java/lang/IllegalStateException", Cond.constant RX3 118 (10000000), Cond.fieldLink RX3 44 "JointVenture" "cashCallCount" "I", Cond.fieldLink RX3 22 "JointVenture" "wells" "[LJointVenture$Well;", Cond.fieldLink RX3 53 "JointVenture" "division" "LJointVenture$Division;", Cond.fieldLink RX3 63 "JointVenture" "portions" "[I", Cond.fieldLink RX3 40 "JointVenture" "cashCalls" "[LJointVenture$CashCall;", Cond.fieldLink RX3 159 "JointVenture$CashCall" "asked" "[I", Cond.methodLink RX3 90 yX3_requireWell, Cond.instanceMethod yX3_requireWell, Cond.selects RX3 yX3_requireWell yX3_requireWell, Cond.initialized RX3, Cond.code yX3_requireWell cX3_requireWell 2 none, Cond.classLink RX3 196 "java/lang/IndexOutOfBoundsException", Cond.initialized "java/lang/IndexOutOfBoundsException", Cond.fieldLink RX3 26 "JointVenture" "wellCount" "I", Cond.methodLink RX3 68 yX3_requireRange, Cond.instanceMethod yX3_requireRange, Cond.selects RX3 yX3_requireRange yX3_requireRange, Cond.code yX3_requireRange cX3_requireRange 4 none, Cond.classLink RX3 72 "java/lang/IllegalArgumentException", Cond.initialized "java/lang/IllegalArgumentException", Cond.methodLink RX3 153 yX3_divideCost]
def wsX3_call_r2 : List Cond := [Cond.instanceMethod yX3_divideCost, Cond.selects RX3 yX3_divideCost yX3_divideCost, Cond.code yX3_divideCost cX3_divideCost 4 none, Cond.fieldLink RX3 9 "JointVenture" "shares" "[I", Cond.fieldLink RX3 57 "JointVenture" "ownParts" "[I", Cond.fieldLink RX3 60 "JointVenture" "weights" "[I", Cond.fieldLink RX3 115 "JointVenture$Well" "out" "[Z", Cond.methodLink RX3 162 yX1_divide, Cond.instanceMethod yX1_divide, Cond.selects RX1 yX1_divide yX1_divide, Cond.initialized RX1, Cond.code yX1_divide cX1_divide 10 none, Cond.fieldLink RX1 9 "JointVenture$Division" "remainders" "[J", Cond.constantLong RX1 25 (-1), Cond.methodLink RX1 15 yJ7_fill_53178, Cond.static yJ7_fill_53178, Cond.initialized RJ7, Cond.code yJ7_fill_53178 cJ7_fill_53178 4 none, Cond.methodLink RX1 21 yX1_firstWithGreatestRemainder, Cond.instanceMethod yX1_firstWithGreatestRemainder, Cond.selects RX1 yX1_firstWithGreatestRemainder yX1_firstWithGreatestRemainder, Cond.code yX1_firstWithGreatestRemainder cX1_firstWithGreatestRemainder 3 (some .int), Cond.methodLink RX3 232 yX3_weighThoseIn, Cond.instanceMethod yX3_weighThoseIn]
def wsX3_call_r3 : List Cond := [Cond.selects RX3 yX3_weighThoseIn yX3_weighThoseIn, Cond.code yX3_weighThoseIn cX3_weighThoseIn 3 none, Cond.methodLink RX3 136 yX3_shareIfIn, Cond.instanceMethod yX3_shareIfIn, Cond.selects RX3 yX3_shareIfIn yX3_shareIfIn, Cond.code yX3_shareIfIn cX3_shareIfIn 3 (some .int), Cond.methodLink RX3 236 yX3_ownPartsOfThoseOut, Cond.instanceMethod yX3_ownPartsOfThoseOut, Cond.selects RX3 yX3_ownPartsOfThoseOut yX3_ownPartsOfThoseOut, Cond.code yX3_ownPartsOfThoseOut cX3_ownPartsOfThoseOut 4 (some .int)]
def wsX3_call : List Cond := .code yX3_call cX3_call 3 (some .int) :: ((wsX3_call_r1 ++ (wsX3_call_r2 ++ wsX3_call_r3)) ++ wsX30 ++ wsX00 ++ wsX20 ++ wsX10 ++ (vx_atS RX3 83 "java/lang/IllegalStateException" ["java/lang/RuntimeException", "java/lang/Exception"]).filter goodWord ++ (vx_atS RX3 200 "java/lang/IndexOutOfBoundsException" ["java/lang/RuntimeException", "java/lang/Exception"]).filter goodWord ++ (vx_atS RX3 76 "java/lang/IllegalArgumentException" ["java/lang/RuntimeException", "java/lang/Exception"]).filter goodWord)
def wsX3_requireCashCall : List Cond := .code yX3_requireCashCall cX3_requireCashCall 2 none :: ([.classLink RX3 196 "java/lang/IndexOutOfBoundsException", .initialized "java/lang/IndexOutOfBoundsException", .fieldLink RX3 44 "JointVenture" "cashCallCount" "I"] ++ wsX30 ++ (vx_atS RX3 200 "java/lang/IndexOutOfBoundsException" ["java/lang/RuntimeException", "java/lang/Exception"]).filter goodWord)
def wsX3_pay : List Cond := .code yX3_pay cX3_pay 5 (some .int) :: ([.classLink RX3 79 "java/lang/IllegalStateException", .initialized "java/lang/IllegalStateException", .fieldLink RX3 40 "JointVenture" "cashCalls" "[LJointVenture$CashCall;", .fieldLink RX3 159 "JointVenture$CashCall" "asked" "[I", .fieldLink RX3 169 "JointVenture$CashCall" "paid" "[I", .methodLink RX3 166 yX3_requireCashCall, .instanceMethod yX3_requireCashCall, .selects RX3 yX3_requireCashCall yX3_requireCashCall, .initialized RX3, .code yX3_requireCashCall cX3_requireCashCall 2 none, .classLink RX3 196 "java/lang/IndexOutOfBoundsException", .initialized "java/lang/IndexOutOfBoundsException", .fieldLink RX3 44 "JointVenture" "cashCallCount" "I", .methodLink RX3 94 yX3_requirePartner, .instanceMethod yX3_requirePartner, .selects RX3 yX3_requirePartner yX3_requirePartner, .code yX3_requirePartner cX3_requirePartner 2 none] ++ wsX30 ++ wsX00 ++ (vx_atS RX3 83 "java/lang/IllegalStateException" ["java/lang/RuntimeException", "java/lang/Exception"]).filter goodWord ++ (vx_atS RX3 200 "java/lang/IndexOutOfBoundsException" ["java/lang/RuntimeException", "java/lang/Exception"]).filter goodWord)
def wsX3_moveToPayers : List Cond := .code yX3_moveToPayers cX3_moveToPayers 4 none :: ([.fieldLink RX3 60 "JointVenture" "weights" "[I", .fieldLink RX3 169 "JointVenture$CashCall" "paid" "[I", .fieldLink RX3 159 "JointVenture$CashCall" "asked" "[I", .fieldLink RX3 53 "JointVenture" "division" "LJointVenture$Division;", .fieldLink RX3 63 "JointVenture" "portions" "[I", .fieldLink RX3 47 "JointVenture" "owed" "[I", .methodLink RX3 162 yX1_divide, .instanceMethod yX1_divide, .selects RX1 yX1_divide yX1_divide, .initialized RX1, .code yX1_divide cX1_divide 10 none, .fieldLink RX1 9 "JointVenture$Division" "remainders" "[J", .constantLong RX1 25 (-1), .methodLink RX1 15 yJ7_fill_53178, .static yJ7_fill_53178, .initialized RJ7, .code yJ7_fill_53178 cJ7_fill_53178 4 none, .methodLink RX1 21 yX1_firstWithGreatestRemainder, .instanceMethod yX1_firstWithGreatestRemainder, .selects RX1 yX1_firstWithGreatestRemainder yX1_firstWithGreatestRemainder, .code yX1_firstWithGreatestRemainder cX1_firstWithGreatestRemainder 3 (some .int)] ++ wsX30 ++ wsX00 ++ wsX10)
def wsX3_shareOut_r1 : List Cond := [Cond.classLink RX3 79 "java/lang/IllegalStateException", Cond.initialized "java/lang/IllegalStateException", Cond.fieldLink RX3 40 "JointVenture" "cashCalls" "[LJointVenture$CashCall;", Cond.methodLink RX3 166 yX3_requireCashCall, Cond.instanceMethod yX3_requireCashCall, Cond.selects RX3 yX3_requireCashCall yX3_requireCashCall, Cond.initialized RX3, Cond.code yX3_requireCashCall cX3_requireCashCall 2 none, Cond.classLink RX3 196 "java/lang/IndexOutOfBoundsException", Cond.initialized "java/lang/IndexOutOfBoundsException", Cond.fieldLink RX3 44 "JointVenture" "cashCallCount" "I", Cond.methodLink RX3 174 yX0_hasPayer, Cond.instanceMethod yX0_hasPayer, Cond.selects RX0 yX0_hasPayer yX0_hasPayer, Cond.initialized RX0, Cond.code yX0_hasPayer cX0_hasPayer 2 (some .boolean), Cond.fieldLink RX0 15 "JointVenture$CashCall" "paid" "[I", Cond.methodLink RX3 180 yX0_askedOfNonPayers, Cond.instanceMethod yX0_askedOfNonPayers, Cond.selects RX0 yX0_askedOfNonPayers yX0_askedOfNonPayers, Cond.code yX0_askedOfNonPayers cX0_askedOfNonPayers 3 (some .int), Cond.fieldLink RX0 9 "JointVenture$CashCall" "asked" "[I", Cond.methodLink RX3 186 yX3_moveToPayers, Cond.instanceMethod yX3_moveToPayers]
def wsX3_shareOut_r2 : List Cond := [Cond.selects RX3 yX3_moveToPayers yX3_moveToPayers, Cond.code yX3_moveToPayers cX3_moveToPayers 4 none, Cond.fieldLink RX3 60 "JointVenture" "weights" "[I", Cond.fieldLink RX3 169 "JointVenture$CashCall" "paid" "[I", Cond.fieldLink RX3 159 "JointVenture$CashCall" "asked" "[I", Cond.fieldLink RX3 53 "JointVenture" "division" "LJointVenture$Division;", Cond.fieldLink RX3 63 "JointVenture" "portions" "[I", Cond.fieldLink RX3 47 "JointVenture" "owed" "[I", Cond.methodLink RX3 162 yX1_divide, Cond.instanceMethod yX1_divide, Cond.selects RX1 yX1_divide yX1_divide, Cond.initialized RX1, Cond.code yX1_divide cX1_divide 10 none, Cond.fieldLink RX1 9 "JointVenture$Division" "remainders" "[J", Cond.constantLong RX1 25 (-1), Cond.methodLink RX1 15 yJ7_fill_53178, Cond.static yJ7_fill_53178, Cond.initialized RJ7, Cond.code yJ7_fill_53178 cJ7_fill_53178 4 none, Cond.methodLink RX1 21 yX1_firstWithGreatestRemainder, Cond.instanceMethod yX1_firstWithGreatestRemainder, Cond.selects RX1 yX1_firstWithGreatestRemainder yX1_firstWithGreatestRemainder, Cond.code yX1_firstWithGreatestRemainder cX1_firstWithGreatestRemainder 3 (some .int)]
def wsX3_shareOut : List Cond := .code yX3_shareOut cX3_shareOut 4 (some .int) :: ((wsX3_shareOut_r1 ++ wsX3_shareOut_r2) ++ wsX30 ++ wsX00 ++ wsX10 ++ (vx_atS RX3 83 "java/lang/IllegalStateException" ["java/lang/RuntimeException", "java/lang/Exception"]).filter goodWord ++ (vx_atS RX3 200 "java/lang/IndexOutOfBoundsException" ["java/lang/RuntimeException", "java/lang/Exception"]).filter goodWord)
def wsX3_asked : List Cond := .code yX3_asked cX3_asked 3 (some .int) :: ([.fieldLink RX3 40 "JointVenture" "cashCalls" "[LJointVenture$CashCall;", .fieldLink RX3 159 "JointVenture$CashCall" "asked" "[I", .methodLink RX3 166 yX3_requireCashCall, .instanceMethod yX3_requireCashCall, .selects RX3 yX3_requireCashCall yX3_requireCashCall, .initialized RX3, .code yX3_requireCashCall cX3_requireCashCall 2 none, .classLink RX3 196 "java/lang/IndexOutOfBoundsException", .initialized "java/lang/IndexOutOfBoundsException", .fieldLink RX3 44 "JointVenture" "cashCallCount" "I", .methodLink RX3 94 yX3_requirePartner, .instanceMethod yX3_requirePartner, .selects RX3 yX3_requirePartner yX3_requirePartner, .code yX3_requirePartner cX3_requirePartner 2 none] ++ wsX30 ++ wsX00 ++ (vx_atS RX3 200 "java/lang/IndexOutOfBoundsException" ["java/lang/RuntimeException", "java/lang/Exception"]).filter goodWord)
def wsX3_paidOfAllCalls : List Cond := .code yX3_paidOfAllCalls cX3_paidOfAllCalls 4 (some .int) :: ([.fieldLink RX3 44 "JointVenture" "cashCallCount" "I", .fieldLink RX3 40 "JointVenture" "cashCalls" "[LJointVenture$CashCall;", .fieldLink RX3 169 "JointVenture$CashCall" "paid" "[I"] ++ wsX30 ++ wsX00)
def wsX3_paid : List Cond := .code yX3_paid cX3_paid 2 (some .int) :: ([.methodLink RX3 94 yX3_requirePartner, .instanceMethod yX3_requirePartner, .selects RX3 yX3_requirePartner yX3_requirePartner, .initialized RX3, .code yX3_requirePartner cX3_requirePartner 2 none, .classLink RX3 196 "java/lang/IndexOutOfBoundsException", .initialized "java/lang/IndexOutOfBoundsException", .methodLink RX3 190 yX3_paidOfAllCalls, .instanceMethod yX3_paidOfAllCalls, .selects RX3 yX3_paidOfAllCalls yX3_paidOfAllCalls, .code yX3_paidOfAllCalls cX3_paidOfAllCalls 4 (some .int), .fieldLink RX3 44 "JointVenture" "cashCallCount" "I", .fieldLink RX3 40 "JointVenture" "cashCalls" "[LJointVenture$CashCall;", .fieldLink RX3 169 "JointVenture$CashCall" "paid" "[I"] ++ wsX30 ++ wsX00 ++ (vx_atS RX3 200 "java/lang/IndexOutOfBoundsException" ["java/lang/RuntimeException", "java/lang/Exception"]).filter goodWord)
def wsX3_owes : List Cond := .code yX3_owes cX3_owes 2 (some .int) :: ([.fieldLink RX3 47 "JointVenture" "owed" "[I", .methodLink RX3 94 yX3_requirePartner, .instanceMethod yX3_requirePartner, .selects RX3 yX3_requirePartner yX3_requirePartner, .initialized RX3, .code yX3_requirePartner cX3_requirePartner 2 none, .classLink RX3 196 "java/lang/IndexOutOfBoundsException", .initialized "java/lang/IndexOutOfBoundsException"] ++ wsX30 ++ (vx_atS RX3 200 "java/lang/IndexOutOfBoundsException" ["java/lang/RuntimeException", "java/lang/Exception"]).filter goodWord)
def wsX3_balance : List Cond := .code yX3_balance cX3_balance 5 (some .long) :: ([.fieldLink RX3 47 "JointVenture" "owed" "[I", .fieldLink RX3 26 "JointVenture" "wellCount" "I", .fieldLink RX3 22 "JointVenture" "wells" "[LJointVenture$Well;", .fieldLink RX3 150 "JointVenture$Well" "credited" "[I", .fieldLink RX3 147 "JointVenture$Well" "charged" "[I", .methodLink RX3 94 yX3_requirePartner, .instanceMethod yX3_requirePartner, .selects RX3 yX3_requirePartner yX3_requirePartner, .initialized RX3, .code yX3_requirePartner cX3_requirePartner 2 none, .classLink RX3 196 "java/lang/IndexOutOfBoundsException", .initialized "java/lang/IndexOutOfBoundsException", .methodLink RX3 190 yX3_paidOfAllCalls, .instanceMethod yX3_paidOfAllCalls, .selects RX3 yX3_paidOfAllCalls yX3_paidOfAllCalls, .code yX3_paidOfAllCalls cX3_paidOfAllCalls 4 (some .int), .fieldLink RX3 44 "JointVenture" "cashCallCount" "I", .fieldLink RX3 40 "JointVenture" "cashCalls" "[LJointVenture$CashCall;", .fieldLink RX3 169 "JointVenture$CashCall" "paid" "[I"] ++ wsX30 ++ wsX20 ++ wsX00 ++ (vx_atS RX3 200 "java/lang/IndexOutOfBoundsException" ["java/lang/RuntimeException", "java/lang/Exception"]).filter goodWord)
def wsX4_init_r1 : List Cond := [Cond.methodLink RX4 1 objectInit, Cond.instanceMethod objectInit, Cond.code objectInit ⟨#[0xb1]⟩ 1 none, Cond.arrayClass .int, Cond.fieldLink RX4 7 "JointVentureModel" "shares" "[I", Cond.fieldLink RX4 13 "JointVentureModel" "penalty" "I", Cond.fieldLink RX4 17 "JointVentureModel" "penalties" "[I", Cond.arrayClass .boolean, Cond.fieldLink RX4 20 "JointVentureModel" "touched" "[Z", Cond.fieldLink RX4 24 "JointVentureModel" "outs" "[Z", Cond.fieldLink RX4 27 "JointVentureModel" "sites" "[I", Cond.fieldLink RX4 30 "JointVentureModel" "amounts" "[I", Cond.fieldLink RX4 33 "JointVentureModel" "incomes" "[Z", Cond.fieldLink RX4 36 "JointVentureModel" "asks" "[I", Cond.fieldLink RX4 39 "JointVentureModel" "pays" "[I", Cond.fieldLink RX4 42 "JointVentureModel" "owed" "[I", Cond.fieldLink RX4 45 "JointVentureModel" "in" "[Z", Cond.arrayClass .long, Cond.fieldLink RX4 48 "JointVentureModel" "earns" "[J", Cond.fieldLink RX4 52 "JointVentureModel" "backs" "[I", Cond.fieldLink RX4 55 "JointVentureModel" "charges" "[I", Cond.fieldLink RX4 58 "JointVentureModel" "credits" "[I", Cond.fieldLink RX4 61 "JointVentureModel" "weights" "[I", Cond.fieldLink RX4 64 "JointVentureModel" "parts" "[I"]
def wsX4_init_r2 : List Cond := [Cond.fieldLink RX4 67 "JointVentureModel" "own" "[I", Cond.fieldLink RX4 70 "JointVentureModel" "rests" "[J"]
def wsX4_init : List Cond := .code yX4_init cX4_init 1 none :: ((wsX4_init_r1 ++ wsX4_init_r2) ++ wsX40)
def wsX4_thrown : List Cond := .code yX4_thrown cX4_thrown 1 (some .int) :: ([.fieldLink RX4 73 "JointVentureModel" "last" "I"] ++ wsX40)
def wsX4_within : List Cond := .code yX4_within cX4_within 3 (some .boolean) :: ([])
def wsX4_goes : List Cond := .code yX4_goes cX4_goes 4 (some .boolean) :: ([.fieldLink RX4 73 "JointVentureModel" "last" "I"] ++ wsX40)
def wsX4_isPartner : List Cond := .code yX4_isPartner cX4_isPartner 1 (some .boolean) :: ([.methodLink RX4 76 yX4_within, .static yX4_within, .initialized RX4, .code yX4_within cX4_within 3 (some .boolean)])
def wsX4_isWell : List Cond := .code yX4_isWell cX4_isWell 2 (some .boolean) :: ([.fieldLink RX4 80 "JointVentureModel" "wells" "I", .methodLink RX4 76 yX4_within, .static yX4_within, .initialized RX4, .code yX4_within cX4_within 3 (some .boolean)] ++ wsX40)
def wsX4_isVoucher : List Cond := .code yX4_isVoucher cX4_isVoucher 2 (some .boolean) :: ([.fieldLink RX4 83 "JointVentureModel" "vouchers" "I", .methodLink RX4 76 yX4_within, .static yX4_within, .initialized RX4, .code yX4_within cX4_within 3 (some .boolean)] ++ wsX40)
def wsX4_isCall : List Cond := .code yX4_isCall cX4_isCall 2 (some .boolean) :: ([.fieldLink RX4 86 "JointVentureModel" "calls" "I", .methodLink RX4 76 yX4_within, .static yX4_within, .initialized RX4, .code yX4_within cX4_within 3 (some .boolean)] ++ wsX40)
def wsX4_isAmount : List Cond := .code yX4_isAmount cX4_isAmount 1 (some .boolean) :: ([.constant RX4 89 (10000000), .methodLink RX4 76 yX4_within, .static yX4_within, .initialized RX4, .code yX4_within cX4_within 3 (some .boolean)])
def wsX4_divides : List Cond := .code yX4_divides cX4_divides 10 none :: ([.fieldLink RX4 61 "JointVentureModel" "weights" "[I", .fieldLink RX4 64 "JointVentureModel" "parts" "[I", .fieldLink RX4 70 "JointVentureModel" "rests" "[J"] ++ wsX40)
def wsX4_owns : List Cond := .code yX4_owns cX4_owns 3 none :: ([.fieldLink RX4 61 "JointVentureModel" "weights" "[I", .fieldLink RX4 7 "JointVentureModel" "shares" "[I", .fieldLink RX4 67 "JointVentureModel" "own" "[I", .fieldLink RX4 64 "JointVentureModel" "parts" "[I", .methodLink RX4 90 yX4_divides, .instanceMethod yX4_divides, .selects RX4 yX4_divides yX4_divides, .initialized RX4, .code yX4_divides cX4_divides 10 none, .fieldLink RX4 70 "JointVentureModel" "rests" "[J"] ++ wsX40)
def wsX4_dividesAmongIn : List Cond := .code yX4_dividesAmongIn cX4_dividesAmongIn 4 none :: ([.fieldLink RX4 61 "JointVentureModel" "weights" "[I", .fieldLink RX4 45 "JointVentureModel" "in" "[Z", .fieldLink RX4 7 "JointVentureModel" "shares" "[I", .methodLink RX4 90 yX4_divides, .instanceMethod yX4_divides, .selects RX4 yX4_divides yX4_divides, .initialized RX4, .code yX4_divides cX4_divides 10 none, .fieldLink RX4 64 "JointVentureModel" "parts" "[I", .fieldLink RX4 70 "JointVentureModel" "rests" "[J"] ++ wsX40)
def wsX4_costs : List Cond := .code yX4_costs cX4_costs 7 none :: ([.fieldLink RX4 7 "JointVentureModel" "shares" "[I", .fieldLink RX4 45 "JointVentureModel" "in" "[Z", .fieldLink RX4 67 "JointVentureModel" "own" "[I", .fieldLink RX4 48 "JointVentureModel" "earns" "[J", .fieldLink RX4 17 "JointVentureModel" "penalties" "[I", .constantLong RX4 98 (99), .constantLong RX4 100 (100), .fieldLink RX4 55 "JointVentureModel" "charges" "[I", .fieldLink RX4 64 "JointVentureModel" "parts" "[I", .methodLink RX4 94 yX4_owns, .instanceMethod yX4_owns, .selects RX4 yX4_owns yX4_owns, .initialized RX4, .code yX4_owns cX4_owns 3 none, .fieldLink RX4 61 "JointVentureModel" "weights" "[I", .methodLink RX4 90 yX4_divides, .instanceMethod yX4_divides, .selects RX4 yX4_divides yX4_divides, .code yX4_divides cX4_divides 10 none, .fieldLink RX4 70 "JointVentureModel" "rests" "[J", .methodLink RX4 102 yX4_dividesAmongIn, .instanceMethod yX4_dividesAmongIn, .selects RX4 yX4_dividesAmongIn yX4_dividesAmongIn, .code yX4_dividesAmongIn cX4_dividesAmongIn 4 none] ++ wsX40)
def wsX4_brings : List Cond := .code yX4_brings cX4_brings 8 none :: ([.fieldLink RX4 7 "JointVentureModel" "shares" "[I", .fieldLink RX4 45 "JointVentureModel" "in" "[Z", .fieldLink RX4 67 "JointVentureModel" "own" "[I", .fieldLink RX4 48 "JointVentureModel" "earns" "[J", .fieldLink RX4 58 "JointVentureModel" "credits" "[I", .fieldLink RX4 64 "JointVentureModel" "parts" "[I", .fieldLink RX4 52 "JointVentureModel" "backs" "[I", .methodLink RX4 94 yX4_owns, .instanceMethod yX4_owns, .selects RX4 yX4_owns yX4_owns, .initialized RX4, .code yX4_owns cX4_owns 3 none, .fieldLink RX4 61 "JointVentureModel" "weights" "[I", .methodLink RX4 90 yX4_divides, .instanceMethod yX4_divides, .selects RX4 yX4_divides yX4_divides, .code yX4_divides cX4_divides 10 none, .fieldLink RX4 70 "JointVentureModel" "rests" "[J", .methodLink RX4 102 yX4_dividesAmongIn, .instanceMethod yX4_dividesAmongIn, .selects RX4 yX4_dividesAmongIn yX4_dividesAmongIn, .code yX4_dividesAmongIn cX4_dividesAmongIn 4 none] ++ wsX40)
def wsX4_works_r1 : List Cond := [Cond.fieldLink RX4 45 "JointVentureModel" "in" "[Z", Cond.fieldLink RX4 7 "JointVentureModel" "shares" "[I", Cond.fieldLink RX4 24 "JointVentureModel" "outs" "[Z", Cond.fieldLink RX4 48 "JointVentureModel" "earns" "[J", Cond.fieldLink RX4 52 "JointVentureModel" "backs" "[I", Cond.fieldLink RX4 55 "JointVentureModel" "charges" "[I", Cond.fieldLink RX4 58 "JointVentureModel" "credits" "[I", Cond.fieldLink RX4 83 "JointVentureModel" "vouchers" "I", Cond.fieldLink RX4 27 "JointVentureModel" "sites" "[I", Cond.fieldLink RX4 33 "JointVentureModel" "incomes" "[Z", Cond.fieldLink RX4 30 "JointVentureModel" "amounts" "[I", Cond.methodLink RX4 105 yX4_brings, Cond.instanceMethod yX4_brings, Cond.selects RX4 yX4_brings yX4_brings, Cond.initialized RX4, Cond.code yX4_brings cX4_brings 8 none, Cond.fieldLink RX4 67 "JointVentureModel" "own" "[I", Cond.fieldLink RX4 64 "JointVentureModel" "parts" "[I", Cond.methodLink RX4 94 yX4_owns, Cond.instanceMethod yX4_owns, Cond.selects RX4 yX4_owns yX4_owns, Cond.code yX4_owns cX4_owns 3 none, Cond.fieldLink RX4 61 "JointVentureModel" "weights" "[I", Cond.methodLink RX4 90 yX4_divides]
def wsX4_works_r2 : List Cond := [Cond.instanceMethod yX4_divides, Cond.selects RX4 yX4_divides yX4_divides, Cond.code yX4_divides cX4_divides 10 none, Cond.fieldLink RX4 70 "JointVentureModel" "rests" "[J", Cond.methodLink RX4 102 yX4_dividesAmongIn, Cond.instanceMethod yX4_dividesAmongIn, Cond.selects RX4 yX4_dividesAmongIn yX4_dividesAmongIn, Cond.code yX4_dividesAmongIn cX4_dividesAmongIn 4 none, Cond.methodLink RX4 109 yX4_costs, Cond.instanceMethod yX4_costs, Cond.selects RX4 yX4_costs yX4_costs, Cond.code yX4_costs cX4_costs 7 none, Cond.fieldLink RX4 17 "JointVentureModel" "penalties" "[I", Cond.constantLong RX4 98 (99), Cond.constantLong RX4 100 (100)]
def wsX4_works : List Cond := .code yX4_works cX4_works 3 none :: ((wsX4_works_r1 ++ wsX4_works_r2) ++ wsX40)
def wsX4_isShare : List Cond := .code yX4_isShare cX4_isShare 1 (some .boolean) :: ([.methodLink RX4 76 yX4_within, .static yX4_within, .initialized RX4, .code yX4_within cX4_within 3 (some .boolean)])
def wsX4_setShares : List Cond := .code yX4_setShares cX4_setShares 7 none :: ([.fieldLink RX4 80 "JointVentureModel" "wells" "I", .fieldLink RX4 7 "JointVentureModel" "shares" "[I", .methodLink RX4 112 yX4_isShare, .static yX4_isShare, .initialized RX4, .code yX4_isShare cX4_isShare 1 (some .boolean), .methodLink RX4 76 yX4_within, .static yX4_within, .code yX4_within cX4_within 3 (some .boolean), .methodLink RX4 116 yX4_goes, .instanceMethod yX4_goes, .selects RX4 yX4_goes yX4_goes, .code yX4_goes cX4_goes 4 (some .boolean), .fieldLink RX4 73 "JointVentureModel" "last" "I"] ++ wsX40)
def wsX4_setPenalty : List Cond := .code yX4_setPenalty cX4_setPenalty 3 (some .int) :: ([.fieldLink RX4 13 "JointVentureModel" "penalty" "I", .methodLink RX4 76 yX4_within, .static yX4_within, .initialized RX4, .code yX4_within cX4_within 3 (some .boolean), .methodLink RX4 116 yX4_goes, .instanceMethod yX4_goes, .selects RX4 yX4_goes yX4_goes, .code yX4_goes cX4_goes 4 (some .boolean), .fieldLink RX4 73 "JointVentureModel" "last" "I"] ++ wsX40)
def wsX4_setOverhead : List Cond := .code yX4_setOverhead cX4_setOverhead 3 (some .int) :: ([.constant RX4 120 (100000), .fieldLink RX4 121 "JointVentureModel" "overhead" "I", .methodLink RX4 76 yX4_within, .static yX4_within, .initialized RX4, .code yX4_within cX4_within 3 (some .boolean), .methodLink RX4 116 yX4_goes, .instanceMethod yX4_goes, .selects RX4 yX4_goes yX4_goes, .code yX4_goes cX4_goes 4 (some .boolean), .fieldLink RX4 73 "JointVentureModel" "last" "I"] ++ wsX40)
def wsX4_addWell : List Cond := .code yX4_addWell cX4_addWell 1 (some .int) :: ([.fieldLink RX4 80 "JointVentureModel" "wells" "I", .fieldLink RX4 17 "JointVentureModel" "penalties" "[I", .fieldLink RX4 13 "JointVentureModel" "penalty" "I", .methodLink RX4 116 yX4_goes, .instanceMethod yX4_goes, .selects RX4 yX4_goes yX4_goes, .initialized RX4, .code yX4_goes cX4_goes 4 (some .boolean), .fieldLink RX4 73 "JointVentureModel" "last" "I"] ++ wsX40)
def wsX4_hasOthers : List Cond := .code yX4_hasOthers cX4_hasOthers 5 (some .boolean) :: ([.fieldLink RX4 7 "JointVentureModel" "shares" "[I", .fieldLink RX4 24 "JointVentureModel" "outs" "[Z"] ++ wsX40)
def wsX4_elect : List Cond := .code yX4_elect cX4_elect 7 (some .boolean) :: ([.fieldLink RX4 20 "JointVentureModel" "touched" "[Z", .fieldLink RX4 7 "JointVentureModel" "shares" "[I", .fieldLink RX4 24 "JointVentureModel" "outs" "[Z", .methodLink RX4 124 yX4_isWell, .instanceMethod yX4_isWell, .selects RX4 yX4_isWell yX4_isWell, .initialized RX4, .code yX4_isWell cX4_isWell 2 (some .boolean), .fieldLink RX4 80 "JointVentureModel" "wells" "I", .methodLink RX4 76 yX4_within, .static yX4_within, .code yX4_within cX4_within 3 (some .boolean), .methodLink RX4 127 yX4_isPartner, .static yX4_isPartner, .code yX4_isPartner cX4_isPartner 1 (some .boolean), .methodLink RX4 130 yX4_hasOthers, .instanceMethod yX4_hasOthers, .selects RX4 yX4_hasOthers yX4_hasOthers, .code yX4_hasOthers cX4_hasOthers 5 (some .boolean), .methodLink RX4 116 yX4_goes, .instanceMethod yX4_goes, .selects RX4 yX4_goes yX4_goes, .code yX4_goes cX4_goes 4 (some .boolean), .fieldLink RX4 73 "JointVentureModel" "last" "I"] ++ wsX40)
def wsX4_enters : List Cond := .code yX4_enters cX4_enters 4 (some .int) :: ([.fieldLink RX4 27 "JointVentureModel" "sites" "[I", .fieldLink RX4 83 "JointVentureModel" "vouchers" "I", .fieldLink RX4 30 "JointVentureModel" "amounts" "[I", .fieldLink RX4 33 "JointVentureModel" "incomes" "[Z", .fieldLink RX4 20 "JointVentureModel" "touched" "[Z"] ++ wsX40)
def wsX4_cost_r1 : List Cond := [Cond.fieldLink RX4 83 "JointVentureModel" "vouchers" "I", Cond.methodLink RX4 124 yX4_isWell, Cond.instanceMethod yX4_isWell, Cond.selects RX4 yX4_isWell yX4_isWell, Cond.initialized RX4, Cond.code yX4_isWell cX4_isWell 2 (some .boolean), Cond.fieldLink RX4 80 "JointVentureModel" "wells" "I", Cond.methodLink RX4 76 yX4_within, Cond.static yX4_within, Cond.code yX4_within cX4_within 3 (some .boolean), Cond.methodLink RX4 134 yX4_isAmount, Cond.static yX4_isAmount, Cond.code yX4_isAmount cX4_isAmount 1 (some .boolean), Cond.constant RX4 89 (10000000), Cond.methodLink RX4 116 yX4_goes, Cond.instanceMethod yX4_goes, Cond.selects RX4 yX4_goes yX4_goes, Cond.code yX4_goes cX4_goes 4 (some .boolean), Cond.fieldLink RX4 73 "JointVentureModel" "last" "I", Cond.methodLink RX4 137 yX4_enters, Cond.instanceMethod yX4_enters, Cond.selects RX4 yX4_enters yX4_enters, Cond.code yX4_enters cX4_enters 4 (some .int), Cond.fieldLink RX4 27 "JointVentureModel" "sites" "[I"]
def wsX4_cost_r2 : List Cond := [Cond.fieldLink RX4 30 "JointVentureModel" "amounts" "[I", Cond.fieldLink RX4 33 "JointVentureModel" "incomes" "[Z", Cond.fieldLink RX4 20 "JointVentureModel" "touched" "[Z"]
def wsX4_cost : List Cond := .code yX4_cost cX4_cost 3 (some .int) :: ((wsX4_cost_r1 ++ wsX4_cost_r2) ++ wsX40)
def wsX4_overhead : List Cond := .code yX4_overhead cX4_overhead 4 (some .int) :: ([.fieldLink RX4 83 "JointVentureModel" "vouchers" "I", .fieldLink RX4 121 "JointVentureModel" "overhead" "I", .methodLink RX4 124 yX4_isWell, .instanceMethod yX4_isWell, .selects RX4 yX4_isWell yX4_isWell, .initialized RX4, .code yX4_isWell cX4_isWell 2 (some .boolean), .fieldLink RX4 80 "JointVentureModel" "wells" "I", .methodLink RX4 76 yX4_within, .static yX4_within, .code yX4_within cX4_within 3 (some .boolean), .methodLink RX4 116 yX4_goes, .instanceMethod yX4_goes, .selects RX4 yX4_goes yX4_goes, .code yX4_goes cX4_goes 4 (some .boolean), .fieldLink RX4 73 "JointVentureModel" "last" "I", .methodLink RX4 137 yX4_enters, .instanceMethod yX4_enters, .selects RX4 yX4_enters yX4_enters, .code yX4_enters cX4_enters 4 (some .int), .fieldLink RX4 27 "JointVentureModel" "sites" "[I", .fieldLink RX4 30 "JointVentureModel" "amounts" "[I", .fieldLink RX4 33 "JointVentureModel" "incomes" "[Z", .fieldLink RX4 20 "JointVentureModel" "touched" "[Z"] ++ wsX40)
def wsX4_income_r1 : List Cond := [Cond.fieldLink RX4 83 "JointVentureModel" "vouchers" "I", Cond.methodLink RX4 124 yX4_isWell, Cond.instanceMethod yX4_isWell, Cond.selects RX4 yX4_isWell yX4_isWell, Cond.initialized RX4, Cond.code yX4_isWell cX4_isWell 2 (some .boolean), Cond.fieldLink RX4 80 "JointVentureModel" "wells" "I", Cond.methodLink RX4 76 yX4_within, Cond.static yX4_within, Cond.code yX4_within cX4_within 3 (some .boolean), Cond.methodLink RX4 134 yX4_isAmount, Cond.static yX4_isAmount, Cond.code yX4_isAmount cX4_isAmount 1 (some .boolean), Cond.constant RX4 89 (10000000), Cond.methodLink RX4 116 yX4_goes, Cond.instanceMethod yX4_goes, Cond.selects RX4 yX4_goes yX4_goes, Cond.code yX4_goes cX4_goes 4 (some .boolean), Cond.fieldLink RX4 73 "JointVentureModel" "last" "I", Cond.methodLink RX4 137 yX4_enters, Cond.instanceMethod yX4_enters, Cond.selects RX4 yX4_enters yX4_enters, Cond.code yX4_enters cX4_enters 4 (some .int), Cond.fieldLink RX4 27 "JointVentureModel" "sites" "[I"]
def wsX4_income_r2 : List Cond := [Cond.fieldLink RX4 30 "JointVentureModel" "amounts" "[I", Cond.fieldLink RX4 33 "JointVentureModel" "incomes" "[Z", Cond.fieldLink RX4 20 "JointVentureModel" "touched" "[Z"]
def wsX4_income : List Cond := .code yX4_income cX4_income 3 (some .int) :: ((wsX4_income_r1 ++ wsX4_income_r2) ++ wsX40)
def wsX4_move : List Cond := .code yX4_move cX4_move 5 (some .int) :: ([.fieldLink RX4 33 "JointVentureModel" "incomes" "[Z", .fieldLink RX4 27 "JointVentureModel" "sites" "[I", .fieldLink RX4 20 "JointVentureModel" "touched" "[Z", .methodLink RX4 141 yX4_isVoucher, .instanceMethod yX4_isVoucher, .selects RX4 yX4_isVoucher yX4_isVoucher, .initialized RX4, .code yX4_isVoucher cX4_isVoucher 2 (some .boolean), .fieldLink RX4 83 "JointVentureModel" "vouchers" "I", .methodLink RX4 76 yX4_within, .static yX4_within, .code yX4_within cX4_within 3 (some .boolean), .methodLink RX4 124 yX4_isWell, .instanceMethod yX4_isWell, .selects RX4 yX4_isWell yX4_isWell, .code yX4_isWell cX4_isWell 2 (some .boolean), .fieldLink RX4 80 "JointVentureModel" "wells" "I", .methodLink RX4 116 yX4_goes, .instanceMethod yX4_goes, .selects RX4 yX4_goes yX4_goes, .code yX4_goes cX4_goes 4 (some .boolean), .fieldLink RX4 73 "JointVentureModel" "last" "I"] ++ wsX40)
def wsX4_vouchers : List Cond := .code yX4_vouchers cX4_vouchers 1 (some .int) :: ([.fieldLink RX4 73 "JointVentureModel" "last" "I", .fieldLink RX4 83 "JointVentureModel" "vouchers" "I"] ++ wsX40)
def wsX4_wellOf : List Cond := .code yX4_wellOf cX4_wellOf 2 (some .int) :: ([.fieldLink RX4 27 "JointVentureModel" "sites" "[I", .methodLink RX4 141 yX4_isVoucher, .instanceMethod yX4_isVoucher, .selects RX4 yX4_isVoucher yX4_isVoucher, .initialized RX4, .code yX4_isVoucher cX4_isVoucher 2 (some .boolean), .fieldLink RX4 83 "JointVentureModel" "vouchers" "I", .methodLink RX4 76 yX4_within, .static yX4_within, .code yX4_within cX4_within 3 (some .boolean), .methodLink RX4 116 yX4_goes, .instanceMethod yX4_goes, .selects RX4 yX4_goes yX4_goes, .code yX4_goes cX4_goes 4 (some .boolean), .fieldLink RX4 73 "JointVentureModel" "last" "I"] ++ wsX40)
def wsX4_amountOf : List Cond := .code yX4_amountOf cX4_amountOf 2 (some .int) :: ([.fieldLink RX4 33 "JointVentureModel" "incomes" "[Z", .fieldLink RX4 30 "JointVentureModel" "amounts" "[I", .methodLink RX4 141 yX4_isVoucher, .instanceMethod yX4_isVoucher, .selects RX4 yX4_isVoucher yX4_isVoucher, .initialized RX4, .code yX4_isVoucher cX4_isVoucher 2 (some .boolean), .fieldLink RX4 83 "JointVentureModel" "vouchers" "I", .methodLink RX4 76 yX4_within, .static yX4_within, .code yX4_within cX4_within 3 (some .boolean), .methodLink RX4 116 yX4_goes, .instanceMethod yX4_goes, .selects RX4 yX4_goes yX4_goes, .code yX4_goes cX4_goes 4 (some .boolean), .fieldLink RX4 73 "JointVentureModel" "last" "I"] ++ wsX40)
def wsX4_accounts_r1 : List Cond := [Cond.methodLink RX4 124 yX4_isWell, Cond.instanceMethod yX4_isWell, Cond.selects RX4 yX4_isWell yX4_isWell, Cond.initialized RX4, Cond.code yX4_isWell cX4_isWell 2 (some .boolean), Cond.fieldLink RX4 80 "JointVentureModel" "wells" "I", Cond.methodLink RX4 76 yX4_within, Cond.static yX4_within, Cond.code yX4_within cX4_within 3 (some .boolean), Cond.methodLink RX4 127 yX4_isPartner, Cond.static yX4_isPartner, Cond.code yX4_isPartner cX4_isPartner 1 (some .boolean), Cond.methodLink RX4 116 yX4_goes, Cond.instanceMethod yX4_goes, Cond.selects RX4 yX4_goes yX4_goes, Cond.code yX4_goes cX4_goes 4 (some .boolean), Cond.fieldLink RX4 73 "JointVentureModel" "last" "I", Cond.methodLink RX4 144 yX4_works, Cond.instanceMethod yX4_works, Cond.selects RX4 yX4_works yX4_works, Cond.code yX4_works cX4_works 3 none, Cond.fieldLink RX4 45 "JointVentureModel" "in" "[Z", Cond.fieldLink RX4 7 "JointVentureModel" "shares" "[I", Cond.fieldLink RX4 24 "JointVentureModel" "outs" "[Z"]
def wsX4_accounts_r2 : List Cond := [Cond.fieldLink RX4 48 "JointVentureModel" "earns" "[J", Cond.fieldLink RX4 52 "JointVentureModel" "backs" "[I", Cond.fieldLink RX4 55 "JointVentureModel" "charges" "[I", Cond.fieldLink RX4 58 "JointVentureModel" "credits" "[I", Cond.fieldLink RX4 83 "JointVentureModel" "vouchers" "I", Cond.fieldLink RX4 27 "JointVentureModel" "sites" "[I", Cond.fieldLink RX4 33 "JointVentureModel" "incomes" "[Z", Cond.fieldLink RX4 30 "JointVentureModel" "amounts" "[I", Cond.methodLink RX4 105 yX4_brings, Cond.instanceMethod yX4_brings, Cond.selects RX4 yX4_brings yX4_brings, Cond.code yX4_brings cX4_brings 8 none, Cond.fieldLink RX4 67 "JointVentureModel" "own" "[I", Cond.fieldLink RX4 64 "JointVentureModel" "parts" "[I", Cond.methodLink RX4 94 yX4_owns, Cond.instanceMethod yX4_owns, Cond.selects RX4 yX4_owns yX4_owns, Cond.code yX4_owns cX4_owns 3 none, Cond.fieldLink RX4 61 "JointVentureModel" "weights" "[I", Cond.methodLink RX4 90 yX4_divides, Cond.instanceMethod yX4_divides, Cond.selects RX4 yX4_divides yX4_divides, Cond.code yX4_divides cX4_divides 10 none, Cond.fieldLink RX4 70 "JointVentureModel" "rests" "[J"]
def wsX4_accounts_r3 : List Cond := [Cond.methodLink RX4 102 yX4_dividesAmongIn, Cond.instanceMethod yX4_dividesAmongIn, Cond.selects RX4 yX4_dividesAmongIn yX4_dividesAmongIn, Cond.code yX4_dividesAmongIn cX4_dividesAmongIn 4 none, Cond.methodLink RX4 109 yX4_costs, Cond.instanceMethod yX4_costs, Cond.selects RX4 yX4_costs yX4_costs, Cond.code yX4_costs cX4_costs 7 none, Cond.fieldLink RX4 17 "JointVentureModel" "penalties" "[I", Cond.constantLong RX4 98 (99), Cond.constantLong RX4 100 (100)]
def wsX4_accounts : List Cond := .code yX4_accounts cX4_accounts 4 (some .boolean) :: ((wsX4_accounts_r1 ++ (wsX4_accounts_r2 ++ wsX4_accounts_r3)) ++ wsX40)
def wsX4_isIn_r1 : List Cond := [Cond.fieldLink RX4 45 "JointVentureModel" "in" "[Z", Cond.methodLink RX4 147 yX4_accounts, Cond.instanceMethod yX4_accounts, Cond.selects RX4 yX4_accounts yX4_accounts, Cond.initialized RX4, Cond.code yX4_accounts cX4_accounts 4 (some .boolean), Cond.methodLink RX4 124 yX4_isWell, Cond.instanceMethod yX4_isWell, Cond.selects RX4 yX4_isWell yX4_isWell, Cond.code yX4_isWell cX4_isWell 2 (some .boolean), Cond.fieldLink RX4 80 "JointVentureModel" "wells" "I", Cond.methodLink RX4 76 yX4_within, Cond.static yX4_within, Cond.code yX4_within cX4_within 3 (some .boolean), Cond.methodLink RX4 127 yX4_isPartner, Cond.static yX4_isPartner, Cond.code yX4_isPartner cX4_isPartner 1 (some .boolean), Cond.methodLink RX4 116 yX4_goes, Cond.instanceMethod yX4_goes, Cond.selects RX4 yX4_goes yX4_goes, Cond.code yX4_goes cX4_goes 4 (some .boolean), Cond.fieldLink RX4 73 "JointVentureModel" "last" "I", Cond.methodLink RX4 144 yX4_works, Cond.instanceMethod yX4_works]
def wsX4_isIn_r2 : List Cond := [Cond.selects RX4 yX4_works yX4_works, Cond.code yX4_works cX4_works 3 none, Cond.fieldLink RX4 7 "JointVentureModel" "shares" "[I", Cond.fieldLink RX4 24 "JointVentureModel" "outs" "[Z", Cond.fieldLink RX4 48 "JointVentureModel" "earns" "[J", Cond.fieldLink RX4 52 "JointVentureModel" "backs" "[I", Cond.fieldLink RX4 55 "JointVentureModel" "charges" "[I", Cond.fieldLink RX4 58 "JointVentureModel" "credits" "[I", Cond.fieldLink RX4 83 "JointVentureModel" "vouchers" "I", Cond.fieldLink RX4 27 "JointVentureModel" "sites" "[I", Cond.fieldLink RX4 33 "JointVentureModel" "incomes" "[Z", Cond.fieldLink RX4 30 "JointVentureModel" "amounts" "[I", Cond.methodLink RX4 105 yX4_brings, Cond.instanceMethod yX4_brings, Cond.selects RX4 yX4_brings yX4_brings, Cond.code yX4_brings cX4_brings 8 none, Cond.fieldLink RX4 67 "JointVentureModel" "own" "[I", Cond.fieldLink RX4 64 "JointVentureModel" "parts" "[I", Cond.methodLink RX4 94 yX4_owns, Cond.instanceMethod yX4_owns, Cond.selects RX4 yX4_owns yX4_owns, Cond.code yX4_owns cX4_owns 3 none, Cond.fieldLink RX4 61 "JointVentureModel" "weights" "[I", Cond.methodLink RX4 90 yX4_divides]
def wsX4_isIn_r3 : List Cond := [Cond.instanceMethod yX4_divides, Cond.selects RX4 yX4_divides yX4_divides, Cond.code yX4_divides cX4_divides 10 none, Cond.fieldLink RX4 70 "JointVentureModel" "rests" "[J", Cond.methodLink RX4 102 yX4_dividesAmongIn, Cond.instanceMethod yX4_dividesAmongIn, Cond.selects RX4 yX4_dividesAmongIn yX4_dividesAmongIn, Cond.code yX4_dividesAmongIn cX4_dividesAmongIn 4 none, Cond.methodLink RX4 109 yX4_costs, Cond.instanceMethod yX4_costs, Cond.selects RX4 yX4_costs yX4_costs, Cond.code yX4_costs cX4_costs 7 none, Cond.fieldLink RX4 17 "JointVentureModel" "penalties" "[I", Cond.constantLong RX4 98 (99), Cond.constantLong RX4 100 (100)]
def wsX4_isIn : List Cond := .code yX4_isIn cX4_isIn 3 (some .boolean) :: ((wsX4_isIn_r1 ++ (wsX4_isIn_r2 ++ wsX4_isIn_r3)) ++ wsX40)
def wsX4_toEarn_r1 : List Cond := [Cond.fieldLink RX4 48 "JointVentureModel" "earns" "[J", Cond.methodLink RX4 147 yX4_accounts, Cond.instanceMethod yX4_accounts, Cond.selects RX4 yX4_accounts yX4_accounts, Cond.initialized RX4, Cond.code yX4_accounts cX4_accounts 4 (some .boolean), Cond.methodLink RX4 124 yX4_isWell, Cond.instanceMethod yX4_isWell, Cond.selects RX4 yX4_isWell yX4_isWell, Cond.code yX4_isWell cX4_isWell 2 (some .boolean), Cond.fieldLink RX4 80 "JointVentureModel" "wells" "I", Cond.methodLink RX4 76 yX4_within, Cond.static yX4_within, Cond.code yX4_within cX4_within 3 (some .boolean), Cond.methodLink RX4 127 yX4_isPartner, Cond.static yX4_isPartner, Cond.code yX4_isPartner cX4_isPartner 1 (some .boolean), Cond.methodLink RX4 116 yX4_goes, Cond.instanceMethod yX4_goes, Cond.selects RX4 yX4_goes yX4_goes, Cond.code yX4_goes cX4_goes 4 (some .boolean), Cond.fieldLink RX4 73 "JointVentureModel" "last" "I", Cond.methodLink RX4 144 yX4_works, Cond.instanceMethod yX4_works]
def wsX4_toEarn_r2 : List Cond := [Cond.selects RX4 yX4_works yX4_works, Cond.code yX4_works cX4_works 3 none, Cond.fieldLink RX4 45 "JointVentureModel" "in" "[Z", Cond.fieldLink RX4 7 "JointVentureModel" "shares" "[I", Cond.fieldLink RX4 24 "JointVentureModel" "outs" "[Z", Cond.fieldLink RX4 52 "JointVentureModel" "backs" "[I", Cond.fieldLink RX4 55 "JointVentureModel" "charges" "[I", Cond.fieldLink RX4 58 "JointVentureModel" "credits" "[I", Cond.fieldLink RX4 83 "JointVentureModel" "vouchers" "I", Cond.fieldLink RX4 27 "JointVentureModel" "sites" "[I", Cond.fieldLink RX4 33 "JointVentureModel" "incomes" "[Z", Cond.fieldLink RX4 30 "JointVentureModel" "amounts" "[I", Cond.methodLink RX4 105 yX4_brings, Cond.instanceMethod yX4_brings, Cond.selects RX4 yX4_brings yX4_brings, Cond.code yX4_brings cX4_brings 8 none, Cond.fieldLink RX4 67 "JointVentureModel" "own" "[I", Cond.fieldLink RX4 64 "JointVentureModel" "parts" "[I", Cond.methodLink RX4 94 yX4_owns, Cond.instanceMethod yX4_owns, Cond.selects RX4 yX4_owns yX4_owns, Cond.code yX4_owns cX4_owns 3 none, Cond.fieldLink RX4 61 "JointVentureModel" "weights" "[I", Cond.methodLink RX4 90 yX4_divides]
def wsX4_toEarn_r3 : List Cond := [Cond.instanceMethod yX4_divides, Cond.selects RX4 yX4_divides yX4_divides, Cond.code yX4_divides cX4_divides 10 none, Cond.fieldLink RX4 70 "JointVentureModel" "rests" "[J", Cond.methodLink RX4 102 yX4_dividesAmongIn, Cond.instanceMethod yX4_dividesAmongIn, Cond.selects RX4 yX4_dividesAmongIn yX4_dividesAmongIn, Cond.code yX4_dividesAmongIn cX4_dividesAmongIn 4 none, Cond.methodLink RX4 109 yX4_costs, Cond.instanceMethod yX4_costs, Cond.selects RX4 yX4_costs yX4_costs, Cond.code yX4_costs cX4_costs 7 none, Cond.fieldLink RX4 17 "JointVentureModel" "penalties" "[I", Cond.constantLong RX4 98 (99), Cond.constantLong RX4 100 (100)]
def wsX4_toEarn : List Cond := .code yX4_toEarn cX4_toEarn 3 (some .long) :: ((wsX4_toEarn_r1 ++ (wsX4_toEarn_r2 ++ wsX4_toEarn_r3)) ++ wsX40)
def wsX4_backAt_r1 : List Cond := [Cond.fieldLink RX4 52 "JointVentureModel" "backs" "[I", Cond.methodLink RX4 147 yX4_accounts, Cond.instanceMethod yX4_accounts, Cond.selects RX4 yX4_accounts yX4_accounts, Cond.initialized RX4, Cond.code yX4_accounts cX4_accounts 4 (some .boolean), Cond.methodLink RX4 124 yX4_isWell, Cond.instanceMethod yX4_isWell, Cond.selects RX4 yX4_isWell yX4_isWell, Cond.code yX4_isWell cX4_isWell 2 (some .boolean), Cond.fieldLink RX4 80 "JointVentureModel" "wells" "I", Cond.methodLink RX4 76 yX4_within, Cond.static yX4_within, Cond.code yX4_within cX4_within 3 (some .boolean), Cond.methodLink RX4 127 yX4_isPartner, Cond.static yX4_isPartner, Cond.code yX4_isPartner cX4_isPartner 1 (some .boolean), Cond.methodLink RX4 116 yX4_goes, Cond.instanceMethod yX4_goes, Cond.selects RX4 yX4_goes yX4_goes, Cond.code yX4_goes cX4_goes 4 (some .boolean), Cond.fieldLink RX4 73 "JointVentureModel" "last" "I", Cond.methodLink RX4 144 yX4_works, Cond.instanceMethod yX4_works]
def wsX4_backAt_r2 : List Cond := [Cond.selects RX4 yX4_works yX4_works, Cond.code yX4_works cX4_works 3 none, Cond.fieldLink RX4 45 "JointVentureModel" "in" "[Z", Cond.fieldLink RX4 7 "JointVentureModel" "shares" "[I", Cond.fieldLink RX4 24 "JointVentureModel" "outs" "[Z", Cond.fieldLink RX4 48 "JointVentureModel" "earns" "[J", Cond.fieldLink RX4 55 "JointVentureModel" "charges" "[I", Cond.fieldLink RX4 58 "JointVentureModel" "credits" "[I", Cond.fieldLink RX4 83 "JointVentureModel" "vouchers" "I", Cond.fieldLink RX4 27 "JointVentureModel" "sites" "[I", Cond.fieldLink RX4 33 "JointVentureModel" "incomes" "[Z", Cond.fieldLink RX4 30 "JointVentureModel" "amounts" "[I", Cond.methodLink RX4 105 yX4_brings, Cond.instanceMethod yX4_brings, Cond.selects RX4 yX4_brings yX4_brings, Cond.code yX4_brings cX4_brings 8 none, Cond.fieldLink RX4 67 "JointVentureModel" "own" "[I", Cond.fieldLink RX4 64 "JointVentureModel" "parts" "[I", Cond.methodLink RX4 94 yX4_owns, Cond.instanceMethod yX4_owns, Cond.selects RX4 yX4_owns yX4_owns, Cond.code yX4_owns cX4_owns 3 none, Cond.fieldLink RX4 61 "JointVentureModel" "weights" "[I", Cond.methodLink RX4 90 yX4_divides]
def wsX4_backAt_r3 : List Cond := [Cond.instanceMethod yX4_divides, Cond.selects RX4 yX4_divides yX4_divides, Cond.code yX4_divides cX4_divides 10 none, Cond.fieldLink RX4 70 "JointVentureModel" "rests" "[J", Cond.methodLink RX4 102 yX4_dividesAmongIn, Cond.instanceMethod yX4_dividesAmongIn, Cond.selects RX4 yX4_dividesAmongIn yX4_dividesAmongIn, Cond.code yX4_dividesAmongIn cX4_dividesAmongIn 4 none, Cond.methodLink RX4 109 yX4_costs, Cond.instanceMethod yX4_costs, Cond.selects RX4 yX4_costs yX4_costs, Cond.code yX4_costs cX4_costs 7 none, Cond.fieldLink RX4 17 "JointVentureModel" "penalties" "[I", Cond.constantLong RX4 98 (99), Cond.constantLong RX4 100 (100)]
def wsX4_backAt : List Cond := .code yX4_backAt cX4_backAt 3 (some .int) :: ((wsX4_backAt_r1 ++ (wsX4_backAt_r2 ++ wsX4_backAt_r3)) ++ wsX40)
def wsX4_charged_r1 : List Cond := [Cond.fieldLink RX4 55 "JointVentureModel" "charges" "[I", Cond.methodLink RX4 147 yX4_accounts, Cond.instanceMethod yX4_accounts, Cond.selects RX4 yX4_accounts yX4_accounts, Cond.initialized RX4, Cond.code yX4_accounts cX4_accounts 4 (some .boolean), Cond.methodLink RX4 124 yX4_isWell, Cond.instanceMethod yX4_isWell, Cond.selects RX4 yX4_isWell yX4_isWell, Cond.code yX4_isWell cX4_isWell 2 (some .boolean), Cond.fieldLink RX4 80 "JointVentureModel" "wells" "I", Cond.methodLink RX4 76 yX4_within, Cond.static yX4_within, Cond.code yX4_within cX4_within 3 (some .boolean), Cond.methodLink RX4 127 yX4_isPartner, Cond.static yX4_isPartner, Cond.code yX4_isPartner cX4_isPartner 1 (some .boolean), Cond.methodLink RX4 116 yX4_goes, Cond.instanceMethod yX4_goes, Cond.selects RX4 yX4_goes yX4_goes, Cond.code yX4_goes cX4_goes 4 (some .boolean), Cond.fieldLink RX4 73 "JointVentureModel" "last" "I", Cond.methodLink RX4 144 yX4_works, Cond.instanceMethod yX4_works]
def wsX4_charged_r2 : List Cond := [Cond.selects RX4 yX4_works yX4_works, Cond.code yX4_works cX4_works 3 none, Cond.fieldLink RX4 45 "JointVentureModel" "in" "[Z", Cond.fieldLink RX4 7 "JointVentureModel" "shares" "[I", Cond.fieldLink RX4 24 "JointVentureModel" "outs" "[Z", Cond.fieldLink RX4 48 "JointVentureModel" "earns" "[J", Cond.fieldLink RX4 52 "JointVentureModel" "backs" "[I", Cond.fieldLink RX4 58 "JointVentureModel" "credits" "[I", Cond.fieldLink RX4 83 "JointVentureModel" "vouchers" "I", Cond.fieldLink RX4 27 "JointVentureModel" "sites" "[I", Cond.fieldLink RX4 33 "JointVentureModel" "incomes" "[Z", Cond.fieldLink RX4 30 "JointVentureModel" "amounts" "[I", Cond.methodLink RX4 105 yX4_brings, Cond.instanceMethod yX4_brings, Cond.selects RX4 yX4_brings yX4_brings, Cond.code yX4_brings cX4_brings 8 none, Cond.fieldLink RX4 67 "JointVentureModel" "own" "[I", Cond.fieldLink RX4 64 "JointVentureModel" "parts" "[I", Cond.methodLink RX4 94 yX4_owns, Cond.instanceMethod yX4_owns, Cond.selects RX4 yX4_owns yX4_owns, Cond.code yX4_owns cX4_owns 3 none, Cond.fieldLink RX4 61 "JointVentureModel" "weights" "[I", Cond.methodLink RX4 90 yX4_divides]
def wsX4_charged_r3 : List Cond := [Cond.instanceMethod yX4_divides, Cond.selects RX4 yX4_divides yX4_divides, Cond.code yX4_divides cX4_divides 10 none, Cond.fieldLink RX4 70 "JointVentureModel" "rests" "[J", Cond.methodLink RX4 102 yX4_dividesAmongIn, Cond.instanceMethod yX4_dividesAmongIn, Cond.selects RX4 yX4_dividesAmongIn yX4_dividesAmongIn, Cond.code yX4_dividesAmongIn cX4_dividesAmongIn 4 none, Cond.methodLink RX4 109 yX4_costs, Cond.instanceMethod yX4_costs, Cond.selects RX4 yX4_costs yX4_costs, Cond.code yX4_costs cX4_costs 7 none, Cond.fieldLink RX4 17 "JointVentureModel" "penalties" "[I", Cond.constantLong RX4 98 (99), Cond.constantLong RX4 100 (100)]
def wsX4_charged : List Cond := .code yX4_charged cX4_charged 3 (some .int) :: ((wsX4_charged_r1 ++ (wsX4_charged_r2 ++ wsX4_charged_r3)) ++ wsX40)
def wsX4_credited_r1 : List Cond := [Cond.fieldLink RX4 58 "JointVentureModel" "credits" "[I", Cond.methodLink RX4 147 yX4_accounts, Cond.instanceMethod yX4_accounts, Cond.selects RX4 yX4_accounts yX4_accounts, Cond.initialized RX4, Cond.code yX4_accounts cX4_accounts 4 (some .boolean), Cond.methodLink RX4 124 yX4_isWell, Cond.instanceMethod yX4_isWell, Cond.selects RX4 yX4_isWell yX4_isWell, Cond.code yX4_isWell cX4_isWell 2 (some .boolean), Cond.fieldLink RX4 80 "JointVentureModel" "wells" "I", Cond.methodLink RX4 76 yX4_within, Cond.static yX4_within, Cond.code yX4_within cX4_within 3 (some .boolean), Cond.methodLink RX4 127 yX4_isPartner, Cond.static yX4_isPartner, Cond.code yX4_isPartner cX4_isPartner 1 (some .boolean), Cond.methodLink RX4 116 yX4_goes, Cond.instanceMethod yX4_goes, Cond.selects RX4 yX4_goes yX4_goes, Cond.code yX4_goes cX4_goes 4 (some .boolean), Cond.fieldLink RX4 73 "JointVentureModel" "last" "I", Cond.methodLink RX4 144 yX4_works, Cond.instanceMethod yX4_works]
def wsX4_credited_r2 : List Cond := [Cond.selects RX4 yX4_works yX4_works, Cond.code yX4_works cX4_works 3 none, Cond.fieldLink RX4 45 "JointVentureModel" "in" "[Z", Cond.fieldLink RX4 7 "JointVentureModel" "shares" "[I", Cond.fieldLink RX4 24 "JointVentureModel" "outs" "[Z", Cond.fieldLink RX4 48 "JointVentureModel" "earns" "[J", Cond.fieldLink RX4 52 "JointVentureModel" "backs" "[I", Cond.fieldLink RX4 55 "JointVentureModel" "charges" "[I", Cond.fieldLink RX4 83 "JointVentureModel" "vouchers" "I", Cond.fieldLink RX4 27 "JointVentureModel" "sites" "[I", Cond.fieldLink RX4 33 "JointVentureModel" "incomes" "[Z", Cond.fieldLink RX4 30 "JointVentureModel" "amounts" "[I", Cond.methodLink RX4 105 yX4_brings, Cond.instanceMethod yX4_brings, Cond.selects RX4 yX4_brings yX4_brings, Cond.code yX4_brings cX4_brings 8 none, Cond.fieldLink RX4 67 "JointVentureModel" "own" "[I", Cond.fieldLink RX4 64 "JointVentureModel" "parts" "[I", Cond.methodLink RX4 94 yX4_owns, Cond.instanceMethod yX4_owns, Cond.selects RX4 yX4_owns yX4_owns, Cond.code yX4_owns cX4_owns 3 none, Cond.fieldLink RX4 61 "JointVentureModel" "weights" "[I", Cond.methodLink RX4 90 yX4_divides]
def wsX4_credited_r3 : List Cond := [Cond.instanceMethod yX4_divides, Cond.selects RX4 yX4_divides yX4_divides, Cond.code yX4_divides cX4_divides 10 none, Cond.fieldLink RX4 70 "JointVentureModel" "rests" "[J", Cond.methodLink RX4 102 yX4_dividesAmongIn, Cond.instanceMethod yX4_dividesAmongIn, Cond.selects RX4 yX4_dividesAmongIn yX4_dividesAmongIn, Cond.code yX4_dividesAmongIn cX4_dividesAmongIn 4 none, Cond.methodLink RX4 109 yX4_costs, Cond.instanceMethod yX4_costs, Cond.selects RX4 yX4_costs yX4_costs, Cond.code yX4_costs cX4_costs 7 none, Cond.fieldLink RX4 17 "JointVentureModel" "penalties" "[I", Cond.constantLong RX4 98 (99), Cond.constantLong RX4 100 (100)]
def wsX4_credited : List Cond := .code yX4_credited cX4_credited 3 (some .int) :: ((wsX4_credited_r1 ++ (wsX4_credited_r2 ++ wsX4_credited_r3)) ++ wsX40)
def wsX4_weighs_r1 : List Cond := [Cond.fieldLink RX4 55 "JointVentureModel" "charges" "[I", Cond.methodLink RX4 144 yX4_works, Cond.instanceMethod yX4_works, Cond.selects RX4 yX4_works yX4_works, Cond.initialized RX4, Cond.code yX4_works cX4_works 3 none, Cond.fieldLink RX4 45 "JointVentureModel" "in" "[Z", Cond.fieldLink RX4 7 "JointVentureModel" "shares" "[I", Cond.fieldLink RX4 24 "JointVentureModel" "outs" "[Z", Cond.fieldLink RX4 48 "JointVentureModel" "earns" "[J", Cond.fieldLink RX4 52 "JointVentureModel" "backs" "[I", Cond.fieldLink RX4 58 "JointVentureModel" "credits" "[I", Cond.fieldLink RX4 83 "JointVentureModel" "vouchers" "I", Cond.fieldLink RX4 27 "JointVentureModel" "sites" "[I", Cond.fieldLink RX4 33 "JointVentureModel" "incomes" "[Z", Cond.fieldLink RX4 30 "JointVentureModel" "amounts" "[I", Cond.methodLink RX4 105 yX4_brings, Cond.instanceMethod yX4_brings, Cond.selects RX4 yX4_brings yX4_brings, Cond.code yX4_brings cX4_brings 8 none, Cond.fieldLink RX4 67 "JointVentureModel" "own" "[I", Cond.fieldLink RX4 64 "JointVentureModel" "parts" "[I", Cond.methodLink RX4 94 yX4_owns, Cond.instanceMethod yX4_owns]
def wsX4_weighs_r2 : List Cond := [Cond.selects RX4 yX4_owns yX4_owns, Cond.code yX4_owns cX4_owns 3 none, Cond.fieldLink RX4 61 "JointVentureModel" "weights" "[I", Cond.methodLink RX4 90 yX4_divides, Cond.instanceMethod yX4_divides, Cond.selects RX4 yX4_divides yX4_divides, Cond.code yX4_divides cX4_divides 10 none, Cond.fieldLink RX4 70 "JointVentureModel" "rests" "[J", Cond.methodLink RX4 102 yX4_dividesAmongIn, Cond.instanceMethod yX4_dividesAmongIn, Cond.selects RX4 yX4_dividesAmongIn yX4_dividesAmongIn, Cond.code yX4_dividesAmongIn cX4_dividesAmongIn 4 none, Cond.methodLink RX4 109 yX4_costs, Cond.instanceMethod yX4_costs, Cond.selects RX4 yX4_costs yX4_costs, Cond.code yX4_costs cX4_costs 7 none, Cond.fieldLink RX4 17 "JointVentureModel" "penalties" "[I", Cond.constantLong RX4 98 (99), Cond.constantLong RX4 100 (100)]
def wsX4_weighs : List Cond := .code yX4_weighs cX4_weighs 3 none :: ((wsX4_weighs_r1 ++ wsX4_weighs_r2) ++ wsX40)
def wsX4_weight_r1 : List Cond := [Cond.fieldLink RX4 55 "JointVentureModel" "charges" "[I", Cond.methodLink RX4 124 yX4_isWell, Cond.instanceMethod yX4_isWell, Cond.selects RX4 yX4_isWell yX4_isWell, Cond.initialized RX4, Cond.code yX4_isWell cX4_isWell 2 (some .boolean), Cond.fieldLink RX4 80 "JointVentureModel" "wells" "I", Cond.methodLink RX4 76 yX4_within, Cond.static yX4_within, Cond.code yX4_within cX4_within 3 (some .boolean), Cond.methodLink RX4 127 yX4_isPartner, Cond.static yX4_isPartner, Cond.code yX4_isPartner cX4_isPartner 1 (some .boolean), Cond.methodLink RX4 116 yX4_goes, Cond.instanceMethod yX4_goes, Cond.selects RX4 yX4_goes yX4_goes, Cond.code yX4_goes cX4_goes 4 (some .boolean), Cond.fieldLink RX4 73 "JointVentureModel" "last" "I", Cond.methodLink RX4 150 yX4_weighs, Cond.instanceMethod yX4_weighs, Cond.selects RX4 yX4_weighs yX4_weighs, Cond.code yX4_weighs cX4_weighs 3 none, Cond.methodLink RX4 144 yX4_works, Cond.instanceMethod yX4_works]
def wsX4_weight_r2 : List Cond := [Cond.selects RX4 yX4_works yX4_works, Cond.code yX4_works cX4_works 3 none, Cond.fieldLink RX4 45 "JointVentureModel" "in" "[Z", Cond.fieldLink RX4 7 "JointVentureModel" "shares" "[I", Cond.fieldLink RX4 24 "JointVentureModel" "outs" "[Z", Cond.fieldLink RX4 48 "JointVentureModel" "earns" "[J", Cond.fieldLink RX4 52 "JointVentureModel" "backs" "[I", Cond.fieldLink RX4 58 "JointVentureModel" "credits" "[I", Cond.fieldLink RX4 83 "JointVentureModel" "vouchers" "I", Cond.fieldLink RX4 27 "JointVentureModel" "sites" "[I", Cond.fieldLink RX4 33 "JointVentureModel" "incomes" "[Z", Cond.fieldLink RX4 30 "JointVentureModel" "amounts" "[I", Cond.methodLink RX4 105 yX4_brings, Cond.instanceMethod yX4_brings, Cond.selects RX4 yX4_brings yX4_brings, Cond.code yX4_brings cX4_brings 8 none, Cond.fieldLink RX4 67 "JointVentureModel" "own" "[I", Cond.fieldLink RX4 64 "JointVentureModel" "parts" "[I", Cond.methodLink RX4 94 yX4_owns, Cond.instanceMethod yX4_owns, Cond.selects RX4 yX4_owns yX4_owns, Cond.code yX4_owns cX4_owns 3 none, Cond.fieldLink RX4 61 "JointVentureModel" "weights" "[I", Cond.methodLink RX4 90 yX4_divides]
def wsX4_weight_r3 : List Cond := [Cond.instanceMethod yX4_divides, Cond.selects RX4 yX4_divides yX4_divides, Cond.code yX4_divides cX4_divides 10 none, Cond.fieldLink RX4 70 "JointVentureModel" "rests" "[J", Cond.methodLink RX4 102 yX4_dividesAmongIn, Cond.instanceMethod yX4_dividesAmongIn, Cond.selects RX4 yX4_dividesAmongIn yX4_dividesAmongIn, Cond.code yX4_dividesAmongIn cX4_dividesAmongIn 4 none, Cond.methodLink RX4 109 yX4_costs, Cond.instanceMethod yX4_costs, Cond.selects RX4 yX4_costs yX4_costs, Cond.code yX4_costs cX4_costs 7 none, Cond.fieldLink RX4 17 "JointVentureModel" "penalties" "[I", Cond.constantLong RX4 98 (99), Cond.constantLong RX4 100 (100)]
def wsX4_weight : List Cond := .code yX4_weight cX4_weight 3 (some .int) :: ((wsX4_weight_r1 ++ (wsX4_weight_r2 ++ wsX4_weight_r3)) ++ wsX40)
def wsX4_call_r1 : List Cond := [Cond.fieldLink RX4 86 "JointVentureModel" "calls" "I", Cond.fieldLink RX4 61 "JointVentureModel" "weights" "[I", Cond.fieldLink RX4 55 "JointVentureModel" "charges" "[I", Cond.fieldLink RX4 36 "JointVentureModel" "asks" "[I", Cond.fieldLink RX4 64 "JointVentureModel" "parts" "[I", Cond.methodLink RX4 124 yX4_isWell, Cond.instanceMethod yX4_isWell, Cond.selects RX4 yX4_isWell yX4_isWell, Cond.initialized RX4, Cond.code yX4_isWell cX4_isWell 2 (some .boolean), Cond.fieldLink RX4 80 "JointVentureModel" "wells" "I", Cond.methodLink RX4 76 yX4_within, Cond.static yX4_within, Cond.code yX4_within cX4_within 3 (some .boolean), Cond.methodLink RX4 134 yX4_isAmount, Cond.static yX4_isAmount, Cond.code yX4_isAmount cX4_isAmount 1 (some .boolean), Cond.constant RX4 89 (10000000), Cond.methodLink RX4 116 yX4_goes, Cond.instanceMethod yX4_goes, Cond.selects RX4 yX4_goes yX4_goes, Cond.code yX4_goes cX4_goes 4 (some .boolean), Cond.fieldLink RX4 73 "JointVentureModel" "last" "I", Cond.methodLink RX4 150 yX4_weighs]
def wsX4_call_r2 : List Cond := [Cond.instanceMethod yX4_weighs, Cond.selects RX4 yX4_weighs yX4_weighs, Cond.code yX4_weighs cX4_weighs 3 none, Cond.methodLink RX4 144 yX4_works, Cond.instanceMethod yX4_works, Cond.selects RX4 yX4_works yX4_works, Cond.code yX4_works cX4_works 3 none, Cond.fieldLink RX4 45 "JointVentureModel" "in" "[Z", Cond.fieldLink RX4 7 "JointVentureModel" "shares" "[I", Cond.fieldLink RX4 24 "JointVentureModel" "outs" "[Z", Cond.fieldLink RX4 48 "JointVentureModel" "earns" "[J", Cond.fieldLink RX4 52 "JointVentureModel" "backs" "[I", Cond.fieldLink RX4 58 "JointVentureModel" "credits" "[I", Cond.fieldLink RX4 83 "JointVentureModel" "vouchers" "I", Cond.fieldLink RX4 27 "JointVentureModel" "sites" "[I", Cond.fieldLink RX4 33 "JointVentureModel" "incomes" "[Z", Cond.fieldLink RX4 30 "JointVentureModel" "amounts" "[I", Cond.methodLink RX4 105 yX4_brings, Cond.instanceMethod yX4_brings, Cond.selects RX4 yX4_brings yX4_brings, Cond.code yX4_brings cX4_brings 8 none, Cond.fieldLink RX4 67 "JointVentureModel" "own" "[I", Cond.methodLink RX4 94 yX4_owns, Cond.instanceMethod yX4_owns]
def wsX4_call_r3 : List Cond := [Cond.selects RX4 yX4_owns yX4_owns, Cond.code yX4_owns cX4_owns 3 none, Cond.methodLink RX4 90 yX4_divides, Cond.instanceMethod yX4_divides, Cond.selects RX4 yX4_divides yX4_divides, Cond.code yX4_divides cX4_divides 10 none, Cond.fieldLink RX4 70 "JointVentureModel" "rests" "[J", Cond.methodLink RX4 102 yX4_dividesAmongIn, Cond.instanceMethod yX4_dividesAmongIn, Cond.selects RX4 yX4_dividesAmongIn yX4_dividesAmongIn, Cond.code yX4_dividesAmongIn cX4_dividesAmongIn 4 none, Cond.methodLink RX4 109 yX4_costs, Cond.instanceMethod yX4_costs, Cond.selects RX4 yX4_costs yX4_costs, Cond.code yX4_costs cX4_costs 7 none, Cond.fieldLink RX4 17 "JointVentureModel" "penalties" "[I", Cond.constantLong RX4 98 (99), Cond.constantLong RX4 100 (100)]
def wsX4_call : List Cond := .code yX4_call cX4_call 4 (some .int) :: ((wsX4_call_r1 ++ (wsX4_call_r2 ++ wsX4_call_r3)) ++ wsX40)
def wsX4_pay : List Cond := .code yX4_pay cX4_pay 5 (some .int) :: ([.fieldLink RX4 36 "JointVentureModel" "asks" "[I", .fieldLink RX4 39 "JointVentureModel" "pays" "[I", .methodLink RX4 153 yX4_isCall, .instanceMethod yX4_isCall, .selects RX4 yX4_isCall yX4_isCall, .initialized RX4, .code yX4_isCall cX4_isCall 2 (some .boolean), .fieldLink RX4 86 "JointVentureModel" "calls" "I", .methodLink RX4 76 yX4_within, .static yX4_within, .code yX4_within cX4_within 3 (some .boolean), .methodLink RX4 127 yX4_isPartner, .static yX4_isPartner, .code yX4_isPartner cX4_isPartner 1 (some .boolean), .methodLink RX4 116 yX4_goes, .instanceMethod yX4_goes, .selects RX4 yX4_goes yX4_goes, .code yX4_goes cX4_goes 4 (some .boolean), .fieldLink RX4 73 "JointVentureModel" "last" "I"] ++ wsX40)
def wsX4_shareOut : List Cond := .code yX4_shareOut cX4_shareOut 7 (some .int) :: ([.fieldLink RX4 39 "JointVentureModel" "pays" "[I", .fieldLink RX4 61 "JointVentureModel" "weights" "[I", .fieldLink RX4 36 "JointVentureModel" "asks" "[I", .fieldLink RX4 42 "JointVentureModel" "owed" "[I", .fieldLink RX4 64 "JointVentureModel" "parts" "[I", .methodLink RX4 153 yX4_isCall, .instanceMethod yX4_isCall, .selects RX4 yX4_isCall yX4_isCall, .initialized RX4, .code yX4_isCall cX4_isCall 2 (some .boolean), .fieldLink RX4 86 "JointVentureModel" "calls" "I", .methodLink RX4 76 yX4_within, .static yX4_within, .code yX4_within cX4_within 3 (some .boolean), .methodLink RX4 116 yX4_goes, .instanceMethod yX4_goes, .selects RX4 yX4_goes yX4_goes, .code yX4_goes cX4_goes 4 (some .boolean), .fieldLink RX4 73 "JointVentureModel" "last" "I", .methodLink RX4 90 yX4_divides, .instanceMethod yX4_divides, .selects RX4 yX4_divides yX4_divides, .code yX4_divides cX4_divides 10 none, .fieldLink RX4 70 "JointVentureModel" "rests" "[J"] ++ wsX40)
def wsX4_asked : List Cond := .code yX4_asked cX4_asked 3 (some .int) :: ([.fieldLink RX4 36 "JointVentureModel" "asks" "[I", .methodLink RX4 153 yX4_isCall, .instanceMethod yX4_isCall, .selects RX4 yX4_isCall yX4_isCall, .initialized RX4, .code yX4_isCall cX4_isCall 2 (some .boolean), .fieldLink RX4 86 "JointVentureModel" "calls" "I", .methodLink RX4 76 yX4_within, .static yX4_within, .code yX4_within cX4_within 3 (some .boolean), .methodLink RX4 127 yX4_isPartner, .static yX4_isPartner, .code yX4_isPartner cX4_isPartner 1 (some .boolean), .methodLink RX4 116 yX4_goes, .instanceMethod yX4_goes, .selects RX4 yX4_goes yX4_goes, .code yX4_goes cX4_goes 4 (some .boolean), .fieldLink RX4 73 "JointVentureModel" "last" "I"] ++ wsX40)
def wsX4_allPaid : List Cond := .code yX4_allPaid cX4_allPaid 4 (some .int) :: ([.fieldLink RX4 86 "JointVentureModel" "calls" "I", .fieldLink RX4 39 "JointVentureModel" "pays" "[I"] ++ wsX40)
def wsX4_paid : List Cond := .code yX4_paid cX4_paid 2 (some .int) :: ([.methodLink RX4 127 yX4_isPartner, .static yX4_isPartner, .initialized RX4, .code yX4_isPartner cX4_isPartner 1 (some .boolean), .methodLink RX4 76 yX4_within, .static yX4_within, .code yX4_within cX4_within 3 (some .boolean), .methodLink RX4 116 yX4_goes, .instanceMethod yX4_goes, .selects RX4 yX4_goes yX4_goes, .code yX4_goes cX4_goes 4 (some .boolean), .fieldLink RX4 73 "JointVentureModel" "last" "I", .methodLink RX4 156 yX4_allPaid, .instanceMethod yX4_allPaid, .selects RX4 yX4_allPaid yX4_allPaid, .code yX4_allPaid cX4_allPaid 4 (some .int), .fieldLink RX4 86 "JointVentureModel" "calls" "I", .fieldLink RX4 39 "JointVentureModel" "pays" "[I"] ++ wsX40)
def wsX4_owes : List Cond := .code yX4_owes cX4_owes 2 (some .int) :: ([.fieldLink RX4 42 "JointVentureModel" "owed" "[I", .methodLink RX4 127 yX4_isPartner, .static yX4_isPartner, .initialized RX4, .code yX4_isPartner cX4_isPartner 1 (some .boolean), .methodLink RX4 76 yX4_within, .static yX4_within, .code yX4_within cX4_within 3 (some .boolean), .methodLink RX4 116 yX4_goes, .instanceMethod yX4_goes, .selects RX4 yX4_goes yX4_goes, .code yX4_goes cX4_goes 4 (some .boolean), .fieldLink RX4 73 "JointVentureModel" "last" "I"] ++ wsX40)
def wsX4_balance_r1 : List Cond := [Cond.fieldLink RX4 42 "JointVentureModel" "owed" "[I", Cond.fieldLink RX4 80 "JointVentureModel" "wells" "I", Cond.fieldLink RX4 58 "JointVentureModel" "credits" "[I", Cond.fieldLink RX4 55 "JointVentureModel" "charges" "[I", Cond.methodLink RX4 127 yX4_isPartner, Cond.static yX4_isPartner, Cond.initialized RX4, Cond.code yX4_isPartner cX4_isPartner 1 (some .boolean), Cond.methodLink RX4 76 yX4_within, Cond.static yX4_within, Cond.code yX4_within cX4_within 3 (some .boolean), Cond.methodLink RX4 116 yX4_goes, Cond.instanceMethod yX4_goes, Cond.selects RX4 yX4_goes yX4_goes, Cond.code yX4_goes cX4_goes 4 (some .boolean), Cond.fieldLink RX4 73 "JointVentureModel" "last" "I", Cond.methodLink RX4 156 yX4_allPaid, Cond.instanceMethod yX4_allPaid, Cond.selects RX4 yX4_allPaid yX4_allPaid, Cond.code yX4_allPaid cX4_allPaid 4 (some .int), Cond.fieldLink RX4 86 "JointVentureModel" "calls" "I", Cond.fieldLink RX4 39 "JointVentureModel" "pays" "[I", Cond.methodLink RX4 144 yX4_works, Cond.instanceMethod yX4_works]
def wsX4_balance_r2 : List Cond := [Cond.selects RX4 yX4_works yX4_works, Cond.code yX4_works cX4_works 3 none, Cond.fieldLink RX4 45 "JointVentureModel" "in" "[Z", Cond.fieldLink RX4 7 "JointVentureModel" "shares" "[I", Cond.fieldLink RX4 24 "JointVentureModel" "outs" "[Z", Cond.fieldLink RX4 48 "JointVentureModel" "earns" "[J", Cond.fieldLink RX4 52 "JointVentureModel" "backs" "[I", Cond.fieldLink RX4 83 "JointVentureModel" "vouchers" "I", Cond.fieldLink RX4 27 "JointVentureModel" "sites" "[I", Cond.fieldLink RX4 33 "JointVentureModel" "incomes" "[Z", Cond.fieldLink RX4 30 "JointVentureModel" "amounts" "[I", Cond.methodLink RX4 105 yX4_brings, Cond.instanceMethod yX4_brings, Cond.selects RX4 yX4_brings yX4_brings, Cond.code yX4_brings cX4_brings 8 none, Cond.fieldLink RX4 67 "JointVentureModel" "own" "[I", Cond.fieldLink RX4 64 "JointVentureModel" "parts" "[I", Cond.methodLink RX4 94 yX4_owns, Cond.instanceMethod yX4_owns, Cond.selects RX4 yX4_owns yX4_owns, Cond.code yX4_owns cX4_owns 3 none, Cond.fieldLink RX4 61 "JointVentureModel" "weights" "[I", Cond.methodLink RX4 90 yX4_divides, Cond.instanceMethod yX4_divides]
def wsX4_balance_r3 : List Cond := [Cond.selects RX4 yX4_divides yX4_divides, Cond.code yX4_divides cX4_divides 10 none, Cond.fieldLink RX4 70 "JointVentureModel" "rests" "[J", Cond.methodLink RX4 102 yX4_dividesAmongIn, Cond.instanceMethod yX4_dividesAmongIn, Cond.selects RX4 yX4_dividesAmongIn yX4_dividesAmongIn, Cond.code yX4_dividesAmongIn cX4_dividesAmongIn 4 none, Cond.methodLink RX4 109 yX4_costs, Cond.instanceMethod yX4_costs, Cond.selects RX4 yX4_costs yX4_costs, Cond.code yX4_costs cX4_costs 7 none, Cond.fieldLink RX4 17 "JointVentureModel" "penalties" "[I", Cond.constantLong RX4 98 (99), Cond.constantLong RX4 100 (100)]
def wsX4_balance : List Cond := .code yX4_balance cX4_balance 5 (some .long) :: ((wsX4_balance_r1 ++ (wsX4_balance_r2 ++ wsX4_balance_r3)) ++ wsX40)
def wsJ9_min_f86c9 : List Cond := .code yJ9_min_f86c9 cJ9_min_f86c9 4 (some .long) :: ([])
def wsL_setShares : List Cond := .codeWith yL_setShares cL_setShares 7 (some .int) [(0, 11, 14, 13), (0, 11, 18, 15)] :: ([.classLink RL 13 "java/lang/IllegalArgumentException", .classLink RL 15 "java/lang/IllegalStateException", .methodLink RL 7 yX3_setShares, .instanceMethod yX3_setShares, .selects RX3 yX3_setShares yX3_setShares, .initialized RX3, .code yX3_setShares cX3_setShares 6 none, .classLink RX3 72 "java/lang/IllegalArgumentException", .initialized "java/lang/IllegalArgumentException", .classLink RX3 79 "java/lang/IllegalStateException", .initialized "java/lang/IllegalStateException", .fieldLink RX3 26 "JointVenture" "wellCount" "I", .fieldLink RX3 9 "JointVenture" "shares" "[I", .methodLink RX3 68 yX3_requireRange, .instanceMethod yX3_requireRange, .selects RX3 yX3_requireRange yX3_requireRange, .code yX3_requireRange cX3_requireRange 4 none] ++ wsX30 ++ (vx_atS RX3 76 "java/lang/IllegalArgumentException" ["java/lang/RuntimeException", "java/lang/Exception"]).filter goodWord ++ (vx_atS RX3 83 "java/lang/IllegalStateException" ["java/lang/RuntimeException", "java/lang/Exception"]).filter goodWord)
def wsL_setPenalty : List Cond := .codeWith yL_setPenalty cL_setPenalty 4 (some .int) [(0, 9, 12, 13)] :: ([.classLink RL 13 "java/lang/IllegalArgumentException", .methodLink RL 17 yX3_setPenalty, .instanceMethod yX3_setPenalty, .selects RX3 yX3_setPenalty yX3_setPenalty, .initialized RX3, .code yX3_setPenalty cX3_setPenalty 3 (some .int), .fieldLink RX3 13 "JointVenture" "newPenalty" "I", .methodLink RX3 68 yX3_requireRange, .instanceMethod yX3_requireRange, .selects RX3 yX3_requireRange yX3_requireRange, .code yX3_requireRange cX3_requireRange 4 none, .classLink RX3 72 "java/lang/IllegalArgumentException", .initialized "java/lang/IllegalArgumentException"] ++ wsX30 ++ (vx_atS RX3 76 "java/lang/IllegalArgumentException" ["java/lang/RuntimeException", "java/lang/Exception"]).filter goodWord)
def wsL_setOverhead : List Cond := .codeWith yL_setOverhead cL_setOverhead 4 (some .int) [(0, 9, 12, 13)] :: ([.classLink RL 13 "java/lang/IllegalArgumentException", .methodLink RL 21 yX3_setOverhead, .instanceMethod yX3_setOverhead, .selects RX3 yX3_setOverhead yX3_setOverhead, .initialized RX3, .code yX3_setOverhead cX3_setOverhead 3 (some .int), .constant RX3 84 (100000), .fieldLink RX3 17 "JointVenture" "monthlyOverhead" "I", .methodLink RX3 68 yX3_requireRange, .instanceMethod yX3_requireRange, .selects RX3 yX3_requireRange yX3_requireRange, .code yX3_requireRange cX3_requireRange 4 none, .classLink RX3 72 "java/lang/IllegalArgumentException", .initialized "java/lang/IllegalArgumentException"] ++ wsX30 ++ (vx_atS RX3 76 "java/lang/IllegalArgumentException" ["java/lang/RuntimeException", "java/lang/Exception"]).filter goodWord)
def wsL_addWell : List Cond := .codeWith yL_addWell cL_addWell 3 (some .int) [(0, 8, 11, 15)] :: ([.classLink RL 15 "java/lang/IllegalStateException", .methodLink RL 24 yX3_addWell, .instanceMethod yX3_addWell, .selects RX3 yX3_addWell yX3_addWell, .initialized RX3, .code yX3_addWell cX3_addWell 1 (some .int), .classLink RX3 79 "java/lang/IllegalStateException", .initialized "java/lang/IllegalStateException", .fieldLink RX3 26 "JointVenture" "wellCount" "I", .fieldLink RX3 22 "JointVenture" "wells" "[LJointVenture$Well;", .fieldLink RX3 13 "JointVenture" "newPenalty" "I", .fieldLink RX3 87 "JointVenture$Well" "penalty" "I"] ++ wsX30 ++ wsX20 ++ (vx_atS RX3 83 "java/lang/IllegalStateException" ["java/lang/RuntimeException", "java/lang/Exception"]).filter goodWord)
def wsL_elect_r1 : List Cond := [Cond.classLink RL 32 "java/lang/IndexOutOfBoundsException", Cond.classLink RL 15 "java/lang/IllegalStateException", Cond.methodLink RL 28 yX3_elect, Cond.instanceMethod yX3_elect, Cond.selects RX3 yX3_elect yX3_elect, Cond.initialized RX3, Cond.code yX3_elect cX3_elect 6 (some .boolean), Cond.classLink RX3 79 "java/lang/IllegalStateException", Cond.initialized "java/lang/IllegalStateException", Cond.fieldLink RX3 22 "JointVenture" "wells" "[LJointVenture$Well;", Cond.fieldLink RX3 97 "JointVenture$Well" "hadVoucher" "Z", Cond.fieldLink RX3 9 "JointVenture" "shares" "[I", Cond.fieldLink RX3 111 "JointVenture$Well" "electedOut" "[Z", Cond.fieldLink RX3 115 "JointVenture$Well" "out" "[Z", Cond.methodLink RX3 90 yX3_requireWell, Cond.instanceMethod yX3_requireWell, Cond.selects RX3 yX3_requireWell yX3_requireWell, Cond.code yX3_requireWell cX3_requireWell 2 none, Cond.classLink RX3 196 "java/lang/IndexOutOfBoundsException", Cond.initialized "java/lang/IndexOutOfBoundsException", Cond.fieldLink RX3 26 "JointVenture" "wellCount" "I", Cond.methodLink RX3 94 yX3_requirePartner, Cond.instanceMethod yX3_requirePartner, Cond.selects RX3 yX3_requirePartner yX3_requirePartner]
def wsL_elect_r2 : List Cond := [Cond.code yX3_requirePartner cX3_requirePartner 2 none, Cond.methodLink RX3 105 yX3_isAnotherIn, Cond.instanceMethod yX3_isAnotherIn, Cond.selects RX3 yX3_isAnotherIn yX3_isAnotherIn, Cond.code yX3_isAnotherIn cX3_isAnotherIn 4 (some .boolean), Cond.methodLink RX3 136 yX3_shareIfIn, Cond.instanceMethod yX3_shareIfIn, Cond.selects RX3 yX3_shareIfIn yX3_shareIfIn, Cond.code yX3_shareIfIn cX3_shareIfIn 3 (some .int)]
def wsL_elect : List Cond := .codeWith yL_elect cL_elect 6 (some .int) [(0, 19, 22, 32), (0, 19, 26, 15)] :: ((wsL_elect_r1 ++ wsL_elect_r2) ++ wsX30 ++ wsX20 ++ (vx_atS RX3 83 "java/lang/IllegalStateException" ["java/lang/RuntimeException", "java/lang/Exception"]).filter goodWord ++ (vx_atS RX3 200 "java/lang/IndexOutOfBoundsException" ["java/lang/RuntimeException", "java/lang/Exception"]).filter goodWord)
def wsL_cost_r1 : List Cond := [Cond.classLink RL 32 "java/lang/IndexOutOfBoundsException", Cond.classLink RL 13 "java/lang/IllegalArgumentException", Cond.classLink RL 15 "java/lang/IllegalStateException", Cond.methodLink RL 34 yX3_cost, Cond.instanceMethod yX3_cost, Cond.selects RX3 yX3_cost yX3_cost, Cond.initialized RX3, Cond.code yX3_cost cX3_cost 3 (some .int), Cond.constant RX3 118 (10000000), Cond.methodLink RX3 90 yX3_requireWell, Cond.instanceMethod yX3_requireWell, Cond.selects RX3 yX3_requireWell yX3_requireWell, Cond.code yX3_requireWell cX3_requireWell 2 none, Cond.classLink RX3 196 "java/lang/IndexOutOfBoundsException", Cond.initialized "java/lang/IndexOutOfBoundsException", Cond.fieldLink RX3 26 "JointVenture" "wellCount" "I", Cond.methodLink RX3 68 yX3_requireRange, Cond.instanceMethod yX3_requireRange, Cond.selects RX3 yX3_requireRange yX3_requireRange, Cond.code yX3_requireRange cX3_requireRange 4 none, Cond.classLink RX3 72 "java/lang/IllegalArgumentException", Cond.initialized "java/lang/IllegalArgumentException", Cond.methodLink RX3 119 yX3_requireRoomForVoucher, Cond.instanceMethod yX3_requireRoomForVoucher]
def wsL_cost_r2 : List Cond := [Cond.selects RX3 yX3_requireRoomForVoucher yX3_requireRoomForVoucher, Cond.code yX3_requireRoomForVoucher cX3_requireRoomForVoucher 1 none, Cond.classLink RX3 79 "java/lang/IllegalStateException", Cond.initialized "java/lang/IllegalStateException", Cond.fieldLink RX3 35 "JointVenture" "voucherCount" "I", Cond.methodLink RX3 122 yX3_addVoucher, Cond.instanceMethod yX3_addVoucher, Cond.selects RX3 yX3_addVoucher yX3_addVoucher, Cond.code yX3_addVoucher cX3_addVoucher 4 (some .int), Cond.fieldLink RX3 29 "JointVenture" "voucherWells" "[I", Cond.fieldLink RX3 32 "JointVenture" "voucherAmounts" "[I", Cond.fieldLink RX3 22 "JointVenture" "wells" "[LJointVenture$Well;", Cond.fieldLink RX3 97 "JointVenture$Well" "hadVoucher" "Z", Cond.methodLink RX3 209 yX3_account, Cond.instanceMethod yX3_account, Cond.selects RX3 yX3_account yX3_account, Cond.code yX3_account cX3_account 4 none, Cond.methodLink RX3 215 yX3_accountCost, Cond.instanceMethod yX3_accountCost, Cond.selects RX3 yX3_accountCost yX3_accountCost, Cond.code yX3_accountCost cX3_accountCost 4 none, Cond.fieldLink RX3 147 "JointVenture$Well" "charged" "[I", Cond.fieldLink RX3 63 "JointVenture" "portions" "[I", Cond.fieldLink RX3 115 "JointVenture$Well" "out" "[Z"]
def wsL_cost_r3 : List Cond := [Cond.fieldLink RX3 140 "JointVenture$Well" "toEarn" "[J", Cond.fieldLink RX3 57 "JointVenture" "ownParts" "[I", Cond.fieldLink RX3 87 "JointVenture$Well" "penalty" "I", Cond.methodLink RX3 153 yX3_divideCost, Cond.instanceMethod yX3_divideCost, Cond.selects RX3 yX3_divideCost yX3_divideCost, Cond.code yX3_divideCost cX3_divideCost 4 none, Cond.fieldLink RX3 53 "JointVenture" "division" "LJointVenture$Division;", Cond.fieldLink RX3 9 "JointVenture" "shares" "[I", Cond.fieldLink RX3 60 "JointVenture" "weights" "[I", Cond.methodLink RX3 162 yX1_divide, Cond.instanceMethod yX1_divide, Cond.selects RX1 yX1_divide yX1_divide, Cond.initialized RX1, Cond.code yX1_divide cX1_divide 10 none, Cond.fieldLink RX1 9 "JointVenture$Division" "remainders" "[J", Cond.constantLong RX1 25 (-1), Cond.methodLink RX1 15 yJ7_fill_53178, Cond.static yJ7_fill_53178, Cond.initialized RJ7, Cond.code yJ7_fill_53178 cJ7_fill_53178 4 none, Cond.methodLink RX1 21 yX1_firstWithGreatestRemainder, Cond.instanceMethod yX1_firstWithGreatestRemainder, Cond.selects RX1 yX1_firstWithGreatestRemainder yX1_firstWithGreatestRemainder]
def wsL_cost_r4 : List Cond := [Cond.code yX1_firstWithGreatestRemainder cX1_firstWithGreatestRemainder 3 (some .int), Cond.methodLink RX3 232 yX3_weighThoseIn, Cond.instanceMethod yX3_weighThoseIn, Cond.selects RX3 yX3_weighThoseIn yX3_weighThoseIn, Cond.code yX3_weighThoseIn cX3_weighThoseIn 3 none, Cond.methodLink RX3 136 yX3_shareIfIn, Cond.instanceMethod yX3_shareIfIn, Cond.selects RX3 yX3_shareIfIn yX3_shareIfIn, Cond.code yX3_shareIfIn cX3_shareIfIn 3 (some .int), Cond.methodLink RX3 236 yX3_ownPartsOfThoseOut, Cond.instanceMethod yX3_ownPartsOfThoseOut, Cond.selects RX3 yX3_ownPartsOfThoseOut yX3_ownPartsOfThoseOut, Cond.code yX3_ownPartsOfThoseOut cX3_ownPartsOfThoseOut 4 (some .int), Cond.methodLink RX3 224 yX3_penaltyOn, Cond.instanceMethod yX3_penaltyOn, Cond.selects RX3 yX3_penaltyOn yX3_penaltyOn, Cond.code yX3_penaltyOn cX3_penaltyOn 3 (some .long), Cond.constantLong RX3 228 (99), Cond.constantLong RX3 230 (100), Cond.methodLink RX3 218 yX3_accountIncome, Cond.instanceMethod yX3_accountIncome, Cond.selects RX3 yX3_accountIncome yX3_accountIncome, Cond.code yX3_accountIncome cX3_accountIncome 5 none, Cond.fieldLink RX3 150 "JointVenture$Well" "credited" "[I"]
def wsL_cost_r5 : List Cond := [Cond.methodLink RX3 240 yX2_takenOf, Cond.instanceMethod yX2_takenOf, Cond.selects RX2 yX2_takenOf yX2_takenOf, Cond.initialized RX2, Cond.code yX2_takenOf cX2_takenOf 3 (some .int), Cond.fieldLink RX2 23 "JointVenture$Well" "out" "[Z", Cond.fieldLink RX2 26 "JointVenture$Well" "toEarn" "[J", Cond.methodLink RX2 49 Lib.MathLoose.min_long.x, Cond.static Lib.MathLoose.min_long.x, Cond.initialized "java/lang/Math", Cond.code Lib.MathLoose.min_long.x Lib.MathLoose.min_long.code 4 (some .long), Cond.methodLink RX3 243 yX3_creditTaken, Cond.instanceMethod yX3_creditTaken, Cond.selects RX3 yX3_creditTaken yX3_creditTaken, Cond.code yX3_creditTaken cX3_creditTaken 4 none, Cond.methodLink RX3 221 yX2_takeBack, Cond.instanceMethod yX2_takeBack, Cond.selects RX2 yX2_takeBack yX2_takeBack, Cond.code yX2_takeBack cX2_takeBack 3 none, Cond.fieldLink RX2 30 "JointVenture$Well" "backAt" "[I"]
def wsL_cost : List Cond := .codeWith yL_cost cL_cost 5 (some .int) [(0, 10, 13, 32), (0, 10, 17, 13), (0, 10, 21, 15)] :: ((wsL_cost_r1 ++ (wsL_cost_r2 ++ (wsL_cost_r3 ++ (wsL_cost_r4 ++ wsL_cost_r5)))) ++ wsX30 ++ wsX20 ++ wsX10 ++ (vx_atS RX3 200 "java/lang/IndexOutOfBoundsException" ["java/lang/RuntimeException", "java/lang/Exception"]).filter goodWord ++ (vx_atS RX3 76 "java/lang/IllegalArgumentException" ["java/lang/RuntimeException", "java/lang/Exception"]).filter goodWord ++ (vx_atS RX3 83 "java/lang/IllegalStateException" ["java/lang/RuntimeException", "java/lang/Exception"]).filter goodWord)
def wsL_overhead_r1 : List Cond := [Cond.classLink RL 32 "java/lang/IndexOutOfBoundsException", Cond.classLink RL 13 "java/lang/IllegalArgumentException", Cond.classLink RL 15 "java/lang/IllegalStateException", Cond.methodLink RL 38 yX3_overhead, Cond.instanceMethod yX3_overhead, Cond.selects RX3 yX3_overhead yX3_overhead, Cond.initialized RX3, Cond.code yX3_overhead cX3_overhead 3 (some .int), Cond.classLink RX3 79 "java/lang/IllegalStateException", Cond.initialized "java/lang/IllegalStateException", Cond.fieldLink RX3 17 "JointVenture" "monthlyOverhead" "I", Cond.methodLink RX3 90 yX3_requireWell, Cond.instanceMethod yX3_requireWell, Cond.selects RX3 yX3_requireWell yX3_requireWell, Cond.code yX3_requireWell cX3_requireWell 2 none, Cond.classLink RX3 196 "java/lang/IndexOutOfBoundsException", Cond.initialized "java/lang/IndexOutOfBoundsException", Cond.fieldLink RX3 26 "JointVenture" "wellCount" "I", Cond.methodLink RX3 68 yX3_requireRange, Cond.instanceMethod yX3_requireRange, Cond.selects RX3 yX3_requireRange yX3_requireRange, Cond.code yX3_requireRange cX3_requireRange 4 none, Cond.classLink RX3 72 "java/lang/IllegalArgumentException", Cond.initialized "java/lang/IllegalArgumentException"]
def wsL_overhead_r2 : List Cond := [Cond.methodLink RX3 119 yX3_requireRoomForVoucher, Cond.instanceMethod yX3_requireRoomForVoucher, Cond.selects RX3 yX3_requireRoomForVoucher yX3_requireRoomForVoucher, Cond.code yX3_requireRoomForVoucher cX3_requireRoomForVoucher 1 none, Cond.fieldLink RX3 35 "JointVenture" "voucherCount" "I", Cond.methodLink RX3 122 yX3_addVoucher, Cond.instanceMethod yX3_addVoucher, Cond.selects RX3 yX3_addVoucher yX3_addVoucher, Cond.code yX3_addVoucher cX3_addVoucher 4 (some .int), Cond.fieldLink RX3 29 "JointVenture" "voucherWells" "[I", Cond.fieldLink RX3 32 "JointVenture" "voucherAmounts" "[I", Cond.fieldLink RX3 22 "JointVenture" "wells" "[LJointVenture$Well;", Cond.fieldLink RX3 97 "JointVenture$Well" "hadVoucher" "Z", Cond.methodLink RX3 209 yX3_account, Cond.instanceMethod yX3_account, Cond.selects RX3 yX3_account yX3_account, Cond.code yX3_account cX3_account 4 none, Cond.methodLink RX3 215 yX3_accountCost, Cond.instanceMethod yX3_accountCost, Cond.selects RX3 yX3_accountCost yX3_accountCost, Cond.code yX3_accountCost cX3_accountCost 4 none, Cond.fieldLink RX3 147 "JointVenture$Well" "charged" "[I", Cond.fieldLink RX3 63 "JointVenture" "portions" "[I", Cond.fieldLink RX3 115 "JointVenture$Well" "out" "[Z"]
def wsL_overhead_r3 : List Cond := [Cond.fieldLink RX3 140 "JointVenture$Well" "toEarn" "[J", Cond.fieldLink RX3 57 "JointVenture" "ownParts" "[I", Cond.fieldLink RX3 87 "JointVenture$Well" "penalty" "I", Cond.methodLink RX3 153 yX3_divideCost, Cond.instanceMethod yX3_divideCost, Cond.selects RX3 yX3_divideCost yX3_divideCost, Cond.code yX3_divideCost cX3_divideCost 4 none, Cond.fieldLink RX3 53 "JointVenture" "division" "LJointVenture$Division;", Cond.fieldLink RX3 9 "JointVenture" "shares" "[I", Cond.fieldLink RX3 60 "JointVenture" "weights" "[I", Cond.methodLink RX3 162 yX1_divide, Cond.instanceMethod yX1_divide, Cond.selects RX1 yX1_divide yX1_divide, Cond.initialized RX1, Cond.code yX1_divide cX1_divide 10 none, Cond.fieldLink RX1 9 "JointVenture$Division" "remainders" "[J", Cond.constantLong RX1 25 (-1), Cond.methodLink RX1 15 yJ7_fill_53178, Cond.static yJ7_fill_53178, Cond.initialized RJ7, Cond.code yJ7_fill_53178 cJ7_fill_53178 4 none, Cond.methodLink RX1 21 yX1_firstWithGreatestRemainder, Cond.instanceMethod yX1_firstWithGreatestRemainder, Cond.selects RX1 yX1_firstWithGreatestRemainder yX1_firstWithGreatestRemainder]
def wsL_overhead_r4 : List Cond := [Cond.code yX1_firstWithGreatestRemainder cX1_firstWithGreatestRemainder 3 (some .int), Cond.methodLink RX3 232 yX3_weighThoseIn, Cond.instanceMethod yX3_weighThoseIn, Cond.selects RX3 yX3_weighThoseIn yX3_weighThoseIn, Cond.code yX3_weighThoseIn cX3_weighThoseIn 3 none, Cond.methodLink RX3 136 yX3_shareIfIn, Cond.instanceMethod yX3_shareIfIn, Cond.selects RX3 yX3_shareIfIn yX3_shareIfIn, Cond.code yX3_shareIfIn cX3_shareIfIn 3 (some .int), Cond.methodLink RX3 236 yX3_ownPartsOfThoseOut, Cond.instanceMethod yX3_ownPartsOfThoseOut, Cond.selects RX3 yX3_ownPartsOfThoseOut yX3_ownPartsOfThoseOut, Cond.code yX3_ownPartsOfThoseOut cX3_ownPartsOfThoseOut 4 (some .int), Cond.methodLink RX3 224 yX3_penaltyOn, Cond.instanceMethod yX3_penaltyOn, Cond.selects RX3 yX3_penaltyOn yX3_penaltyOn, Cond.code yX3_penaltyOn cX3_penaltyOn 3 (some .long), Cond.constantLong RX3 228 (99), Cond.constantLong RX3 230 (100), Cond.methodLink RX3 218 yX3_accountIncome, Cond.instanceMethod yX3_accountIncome, Cond.selects RX3 yX3_accountIncome yX3_accountIncome, Cond.code yX3_accountIncome cX3_accountIncome 5 none, Cond.fieldLink RX3 150 "JointVenture$Well" "credited" "[I"]
def wsL_overhead_r5 : List Cond := [Cond.methodLink RX3 240 yX2_takenOf, Cond.instanceMethod yX2_takenOf, Cond.selects RX2 yX2_takenOf yX2_takenOf, Cond.initialized RX2, Cond.code yX2_takenOf cX2_takenOf 3 (some .int), Cond.fieldLink RX2 23 "JointVenture$Well" "out" "[Z", Cond.fieldLink RX2 26 "JointVenture$Well" "toEarn" "[J", Cond.methodLink RX2 49 Lib.MathLoose.min_long.x, Cond.static Lib.MathLoose.min_long.x, Cond.initialized "java/lang/Math", Cond.code Lib.MathLoose.min_long.x Lib.MathLoose.min_long.code 4 (some .long), Cond.methodLink RX3 243 yX3_creditTaken, Cond.instanceMethod yX3_creditTaken, Cond.selects RX3 yX3_creditTaken yX3_creditTaken, Cond.code yX3_creditTaken cX3_creditTaken 4 none, Cond.methodLink RX3 221 yX2_takeBack, Cond.instanceMethod yX2_takeBack, Cond.selects RX2 yX2_takeBack yX2_takeBack, Cond.code yX2_takeBack cX2_takeBack 3 none, Cond.fieldLink RX2 30 "JointVenture$Well" "backAt" "[I"]
def wsL_overhead : List Cond := .codeWith yL_overhead cL_overhead 5 (some .int) [(0, 10, 13, 32), (0, 10, 17, 13), (0, 10, 21, 15)] :: ((wsL_overhead_r1 ++ (wsL_overhead_r2 ++ (wsL_overhead_r3 ++ (wsL_overhead_r4 ++ wsL_overhead_r5)))) ++ wsX30 ++ wsX20 ++ wsX10 ++ (vx_atS RX3 83 "java/lang/IllegalStateException" ["java/lang/RuntimeException", "java/lang/Exception"]).filter goodWord ++ (vx_atS RX3 200 "java/lang/IndexOutOfBoundsException" ["java/lang/RuntimeException", "java/lang/Exception"]).filter goodWord ++ (vx_atS RX3 76 "java/lang/IllegalArgumentException" ["java/lang/RuntimeException", "java/lang/Exception"]).filter goodWord)
def wsL_income_r1 : List Cond := [Cond.classLink RL 32 "java/lang/IndexOutOfBoundsException", Cond.classLink RL 13 "java/lang/IllegalArgumentException", Cond.classLink RL 15 "java/lang/IllegalStateException", Cond.methodLink RL 41 yX3_income, Cond.instanceMethod yX3_income, Cond.selects RX3 yX3_income yX3_income, Cond.initialized RX3, Cond.code yX3_income cX3_income 3 (some .int), Cond.constant RX3 118 (10000000), Cond.methodLink RX3 90 yX3_requireWell, Cond.instanceMethod yX3_requireWell, Cond.selects RX3 yX3_requireWell yX3_requireWell, Cond.code yX3_requireWell cX3_requireWell 2 none, Cond.classLink RX3 196 "java/lang/IndexOutOfBoundsException", Cond.initialized "java/lang/IndexOutOfBoundsException", Cond.fieldLink RX3 26 "JointVenture" "wellCount" "I", Cond.methodLink RX3 68 yX3_requireRange, Cond.instanceMethod yX3_requireRange, Cond.selects RX3 yX3_requireRange yX3_requireRange, Cond.code yX3_requireRange cX3_requireRange 4 none, Cond.classLink RX3 72 "java/lang/IllegalArgumentException", Cond.initialized "java/lang/IllegalArgumentException", Cond.methodLink RX3 119 yX3_requireRoomForVoucher, Cond.instanceMethod yX3_requireRoomForVoucher]
def wsL_income_r2 : List Cond := [Cond.selects RX3 yX3_requireRoomForVoucher yX3_requireRoomForVoucher, Cond.code yX3_requireRoomForVoucher cX3_requireRoomForVoucher 1 none, Cond.classLink RX3 79 "java/lang/IllegalStateException", Cond.initialized "java/lang/IllegalStateException", Cond.fieldLink RX3 35 "JointVenture" "voucherCount" "I", Cond.methodLink RX3 122 yX3_addVoucher, Cond.instanceMethod yX3_addVoucher, Cond.selects RX3 yX3_addVoucher yX3_addVoucher, Cond.code yX3_addVoucher cX3_addVoucher 4 (some .int), Cond.fieldLink RX3 29 "JointVenture" "voucherWells" "[I", Cond.fieldLink RX3 32 "JointVenture" "voucherAmounts" "[I", Cond.fieldLink RX3 22 "JointVenture" "wells" "[LJointVenture$Well;", Cond.fieldLink RX3 97 "JointVenture$Well" "hadVoucher" "Z", Cond.methodLink RX3 209 yX3_account, Cond.instanceMethod yX3_account, Cond.selects RX3 yX3_account yX3_account, Cond.code yX3_account cX3_account 4 none, Cond.methodLink RX3 215 yX3_accountCost, Cond.instanceMethod yX3_accountCost, Cond.selects RX3 yX3_accountCost yX3_accountCost, Cond.code yX3_accountCost cX3_accountCost 4 none, Cond.fieldLink RX3 147 "JointVenture$Well" "charged" "[I", Cond.fieldLink RX3 63 "JointVenture" "portions" "[I", Cond.fieldLink RX3 115 "JointVenture$Well" "out" "[Z"]
def wsL_income_r3 : List Cond := [Cond.fieldLink RX3 140 "JointVenture$Well" "toEarn" "[J", Cond.fieldLink RX3 57 "JointVenture" "ownParts" "[I", Cond.fieldLink RX3 87 "JointVenture$Well" "penalty" "I", Cond.methodLink RX3 153 yX3_divideCost, Cond.instanceMethod yX3_divideCost, Cond.selects RX3 yX3_divideCost yX3_divideCost, Cond.code yX3_divideCost cX3_divideCost 4 none, Cond.fieldLink RX3 53 "JointVenture" "division" "LJointVenture$Division;", Cond.fieldLink RX3 9 "JointVenture" "shares" "[I", Cond.fieldLink RX3 60 "JointVenture" "weights" "[I", Cond.methodLink RX3 162 yX1_divide, Cond.instanceMethod yX1_divide, Cond.selects RX1 yX1_divide yX1_divide, Cond.initialized RX1, Cond.code yX1_divide cX1_divide 10 none, Cond.fieldLink RX1 9 "JointVenture$Division" "remainders" "[J", Cond.constantLong RX1 25 (-1), Cond.methodLink RX1 15 yJ7_fill_53178, Cond.static yJ7_fill_53178, Cond.initialized RJ7, Cond.code yJ7_fill_53178 cJ7_fill_53178 4 none, Cond.methodLink RX1 21 yX1_firstWithGreatestRemainder, Cond.instanceMethod yX1_firstWithGreatestRemainder, Cond.selects RX1 yX1_firstWithGreatestRemainder yX1_firstWithGreatestRemainder]
def wsL_income_r4 : List Cond := [Cond.code yX1_firstWithGreatestRemainder cX1_firstWithGreatestRemainder 3 (some .int), Cond.methodLink RX3 232 yX3_weighThoseIn, Cond.instanceMethod yX3_weighThoseIn, Cond.selects RX3 yX3_weighThoseIn yX3_weighThoseIn, Cond.code yX3_weighThoseIn cX3_weighThoseIn 3 none, Cond.methodLink RX3 136 yX3_shareIfIn, Cond.instanceMethod yX3_shareIfIn, Cond.selects RX3 yX3_shareIfIn yX3_shareIfIn, Cond.code yX3_shareIfIn cX3_shareIfIn 3 (some .int), Cond.methodLink RX3 236 yX3_ownPartsOfThoseOut, Cond.instanceMethod yX3_ownPartsOfThoseOut, Cond.selects RX3 yX3_ownPartsOfThoseOut yX3_ownPartsOfThoseOut, Cond.code yX3_ownPartsOfThoseOut cX3_ownPartsOfThoseOut 4 (some .int), Cond.methodLink RX3 224 yX3_penaltyOn, Cond.instanceMethod yX3_penaltyOn, Cond.selects RX3 yX3_penaltyOn yX3_penaltyOn, Cond.code yX3_penaltyOn cX3_penaltyOn 3 (some .long), Cond.constantLong RX3 228 (99), Cond.constantLong RX3 230 (100), Cond.methodLink RX3 218 yX3_accountIncome, Cond.instanceMethod yX3_accountIncome, Cond.selects RX3 yX3_accountIncome yX3_accountIncome, Cond.code yX3_accountIncome cX3_accountIncome 5 none, Cond.fieldLink RX3 150 "JointVenture$Well" "credited" "[I"]
def wsL_income_r5 : List Cond := [Cond.methodLink RX3 240 yX2_takenOf, Cond.instanceMethod yX2_takenOf, Cond.selects RX2 yX2_takenOf yX2_takenOf, Cond.initialized RX2, Cond.code yX2_takenOf cX2_takenOf 3 (some .int), Cond.fieldLink RX2 23 "JointVenture$Well" "out" "[Z", Cond.fieldLink RX2 26 "JointVenture$Well" "toEarn" "[J", Cond.methodLink RX2 49 Lib.MathLoose.min_long.x, Cond.static Lib.MathLoose.min_long.x, Cond.initialized "java/lang/Math", Cond.code Lib.MathLoose.min_long.x Lib.MathLoose.min_long.code 4 (some .long), Cond.methodLink RX3 243 yX3_creditTaken, Cond.instanceMethod yX3_creditTaken, Cond.selects RX3 yX3_creditTaken yX3_creditTaken, Cond.code yX3_creditTaken cX3_creditTaken 4 none, Cond.methodLink RX3 221 yX2_takeBack, Cond.instanceMethod yX2_takeBack, Cond.selects RX2 yX2_takeBack yX2_takeBack, Cond.code yX2_takeBack cX2_takeBack 3 none, Cond.fieldLink RX2 30 "JointVenture$Well" "backAt" "[I"]
def wsL_income : List Cond := .codeWith yL_income cL_income 5 (some .int) [(0, 10, 13, 32), (0, 10, 17, 13), (0, 10, 21, 15)] :: ((wsL_income_r1 ++ (wsL_income_r2 ++ (wsL_income_r3 ++ (wsL_income_r4 ++ wsL_income_r5)))) ++ wsX30 ++ wsX20 ++ wsX10 ++ (vx_atS RX3 200 "java/lang/IndexOutOfBoundsException" ["java/lang/RuntimeException", "java/lang/Exception"]).filter goodWord ++ (vx_atS RX3 76 "java/lang/IllegalArgumentException" ["java/lang/RuntimeException", "java/lang/Exception"]).filter goodWord ++ (vx_atS RX3 83 "java/lang/IllegalStateException" ["java/lang/RuntimeException", "java/lang/Exception"]).filter goodWord)
def wsL_move_r1 : List Cond := [Cond.classLink RL 32 "java/lang/IndexOutOfBoundsException", Cond.classLink RL 15 "java/lang/IllegalStateException", Cond.methodLink RL 44 yX3_move, Cond.instanceMethod yX3_move, Cond.selects RX3 yX3_move yX3_move, Cond.initialized RX3, Cond.code yX3_move cX3_move 4 (some .int), Cond.classLink RX3 79 "java/lang/IllegalStateException", Cond.initialized "java/lang/IllegalStateException", Cond.fieldLink RX3 32 "JointVenture" "voucherAmounts" "[I", Cond.fieldLink RX3 29 "JointVenture" "voucherWells" "[I", Cond.fieldLink RX3 22 "JointVenture" "wells" "[LJointVenture$Well;", Cond.fieldLink RX3 97 "JointVenture$Well" "hadVoucher" "Z", Cond.methodLink RX3 128 yX3_requireVoucher, Cond.instanceMethod yX3_requireVoucher, Cond.selects RX3 yX3_requireVoucher yX3_requireVoucher, Cond.code yX3_requireVoucher cX3_requireVoucher 2 none, Cond.classLink RX3 196 "java/lang/IndexOutOfBoundsException", Cond.initialized "java/lang/IndexOutOfBoundsException", Cond.fieldLink RX3 35 "JointVenture" "voucherCount" "I", Cond.methodLink RX3 90 yX3_requireWell, Cond.instanceMethod yX3_requireWell, Cond.selects RX3 yX3_requireWell yX3_requireWell, Cond.code yX3_requireWell cX3_requireWell 2 none]
def wsL_move_r2 : List Cond := [Cond.fieldLink RX3 26 "JointVenture" "wellCount" "I", Cond.methodLink RX3 133 yX3_accountAnew, Cond.instanceMethod yX3_accountAnew, Cond.selects RX3 yX3_accountAnew yX3_accountAnew, Cond.code yX3_accountAnew cX3_accountAnew 3 none, Cond.methodLink RX3 212 yX2_clearAccounts, Cond.instanceMethod yX2_clearAccounts, Cond.selects RX2 yX2_clearAccounts yX2_clearAccounts, Cond.initialized RX2, Cond.code yX2_clearAccounts cX2_clearAccounts 2 none, Cond.fieldLink RX2 26 "JointVenture$Well" "toEarn" "[J", Cond.fieldLink RX2 30 "JointVenture$Well" "backAt" "[I", Cond.fieldLink RX2 34 "JointVenture$Well" "charged" "[I", Cond.fieldLink RX2 37 "JointVenture$Well" "credited" "[I", Cond.fieldLink RX2 23 "JointVenture$Well" "out" "[Z", Cond.fieldLink RX2 19 "JointVenture$Well" "electedOut" "[Z", Cond.methodLink RX2 46 yJ7_fill_d0a16, Cond.static yJ7_fill_d0a16, Cond.initialized RJ7, Cond.code yJ7_fill_d0a16 cJ7_fill_d0a16 5 none, Cond.methodLink RX2 40 yJ7_fill_53178, Cond.static yJ7_fill_53178, Cond.code yJ7_fill_53178 cJ7_fill_53178 4 none, Cond.methodLink RX3 209 yX3_account]
def wsL_move_r3 : List Cond := [Cond.instanceMethod yX3_account, Cond.selects RX3 yX3_account yX3_account, Cond.code yX3_account cX3_account 4 none, Cond.methodLink RX3 215 yX3_accountCost, Cond.instanceMethod yX3_accountCost, Cond.selects RX3 yX3_accountCost yX3_accountCost, Cond.code yX3_accountCost cX3_accountCost 4 none, Cond.fieldLink RX3 147 "JointVenture$Well" "charged" "[I", Cond.fieldLink RX3 63 "JointVenture" "portions" "[I", Cond.fieldLink RX3 115 "JointVenture$Well" "out" "[Z", Cond.fieldLink RX3 140 "JointVenture$Well" "toEarn" "[J", Cond.fieldLink RX3 57 "JointVenture" "ownParts" "[I", Cond.fieldLink RX3 87 "JointVenture$Well" "penalty" "I", Cond.methodLink RX3 153 yX3_divideCost, Cond.instanceMethod yX3_divideCost, Cond.selects RX3 yX3_divideCost yX3_divideCost, Cond.code yX3_divideCost cX3_divideCost 4 none, Cond.fieldLink RX3 53 "JointVenture" "division" "LJointVenture$Division;", Cond.fieldLink RX3 9 "JointVenture" "shares" "[I", Cond.fieldLink RX3 60 "JointVenture" "weights" "[I", Cond.methodLink RX3 162 yX1_divide, Cond.instanceMethod yX1_divide, Cond.selects RX1 yX1_divide yX1_divide, Cond.initialized RX1]
def wsL_move_r4 : List Cond := [Cond.code yX1_divide cX1_divide 10 none, Cond.fieldLink RX1 9 "JointVenture$Division" "remainders" "[J", Cond.constantLong RX1 25 (-1), Cond.methodLink RX1 15 yJ7_fill_53178, Cond.methodLink RX1 21 yX1_firstWithGreatestRemainder, Cond.instanceMethod yX1_firstWithGreatestRemainder, Cond.selects RX1 yX1_firstWithGreatestRemainder yX1_firstWithGreatestRemainder, Cond.code yX1_firstWithGreatestRemainder cX1_firstWithGreatestRemainder 3 (some .int), Cond.methodLink RX3 232 yX3_weighThoseIn, Cond.instanceMethod yX3_weighThoseIn, Cond.selects RX3 yX3_weighThoseIn yX3_weighThoseIn, Cond.code yX3_weighThoseIn cX3_weighThoseIn 3 none, Cond.methodLink RX3 136 yX3_shareIfIn, Cond.instanceMethod yX3_shareIfIn, Cond.selects RX3 yX3_shareIfIn yX3_shareIfIn, Cond.code yX3_shareIfIn cX3_shareIfIn 3 (some .int), Cond.methodLink RX3 236 yX3_ownPartsOfThoseOut, Cond.instanceMethod yX3_ownPartsOfThoseOut, Cond.selects RX3 yX3_ownPartsOfThoseOut yX3_ownPartsOfThoseOut, Cond.code yX3_ownPartsOfThoseOut cX3_ownPartsOfThoseOut 4 (some .int), Cond.methodLink RX3 224 yX3_penaltyOn, Cond.instanceMethod yX3_penaltyOn, Cond.selects RX3 yX3_penaltyOn yX3_penaltyOn, Cond.code yX3_penaltyOn cX3_penaltyOn 3 (some .long)]
def wsL_move_r5 : List Cond := [Cond.constantLong RX3 228 (99), Cond.constantLong RX3 230 (100), Cond.methodLink RX3 218 yX3_accountIncome, Cond.instanceMethod yX3_accountIncome, Cond.selects RX3 yX3_accountIncome yX3_accountIncome, Cond.code yX3_accountIncome cX3_accountIncome 5 none, Cond.fieldLink RX3 150 "JointVenture$Well" "credited" "[I", Cond.methodLink RX3 240 yX2_takenOf, Cond.instanceMethod yX2_takenOf, Cond.selects RX2 yX2_takenOf yX2_takenOf, Cond.code yX2_takenOf cX2_takenOf 3 (some .int), Cond.methodLink RX2 49 Lib.MathLoose.min_long.x, Cond.static Lib.MathLoose.min_long.x, Cond.initialized "java/lang/Math", Cond.code Lib.MathLoose.min_long.x Lib.MathLoose.min_long.code 4 (some .long), Cond.methodLink RX3 243 yX3_creditTaken, Cond.instanceMethod yX3_creditTaken, Cond.selects RX3 yX3_creditTaken yX3_creditTaken, Cond.code yX3_creditTaken cX3_creditTaken 4 none, Cond.methodLink RX3 221 yX2_takeBack, Cond.instanceMethod yX2_takeBack, Cond.selects RX2 yX2_takeBack yX2_takeBack, Cond.code yX2_takeBack cX2_takeBack 3 none]
def wsL_move : List Cond := .codeWith yL_move cL_move 5 (some .int) [(0, 10, 13, 32), (0, 10, 17, 15)] :: ((wsL_move_r1 ++ (wsL_move_r2 ++ (wsL_move_r3 ++ (wsL_move_r4 ++ wsL_move_r5)))) ++ wsX30 ++ wsX20 ++ wsX10 ++ (vx_atS RX3 83 "java/lang/IllegalStateException" ["java/lang/RuntimeException", "java/lang/Exception"]).filter goodWord ++ (vx_atS RX3 200 "java/lang/IndexOutOfBoundsException" ["java/lang/RuntimeException", "java/lang/Exception"]).filter goodWord)
def wsL_wellOf : List Cond := .codeWith yL_wellOf cL_wellOf 4 (some .int) [(0, 9, 12, 32)] :: ([.classLink RL 32 "java/lang/IndexOutOfBoundsException", .methodLink RL 47 yX3_wellOf, .instanceMethod yX3_wellOf, .selects RX3 yX3_wellOf yX3_wellOf, .initialized RX3, .code yX3_wellOf cX3_wellOf 2 (some .int), .fieldLink RX3 29 "JointVenture" "voucherWells" "[I", .methodLink RX3 128 yX3_requireVoucher, .instanceMethod yX3_requireVoucher, .selects RX3 yX3_requireVoucher yX3_requireVoucher, .code yX3_requireVoucher cX3_requireVoucher 2 none, .classLink RX3 196 "java/lang/IndexOutOfBoundsException", .initialized "java/lang/IndexOutOfBoundsException", .fieldLink RX3 35 "JointVenture" "voucherCount" "I"] ++ wsX30 ++ (vx_atS RX3 200 "java/lang/IndexOutOfBoundsException" ["java/lang/RuntimeException", "java/lang/Exception"]).filter goodWord)
def wsL_amountOf : List Cond := .codeWith yL_amountOf cL_amountOf 4 (some .int) [(0, 9, 12, 32)] :: ([.classLink RL 32 "java/lang/IndexOutOfBoundsException", .methodLink RL 50 yX3_amountOf, .instanceMethod yX3_amountOf, .selects RX3 yX3_amountOf yX3_amountOf, .initialized RX3, .code yX3_amountOf cX3_amountOf 2 (some .int), .fieldLink RX3 32 "JointVenture" "voucherAmounts" "[I", .methodLink RX3 128 yX3_requireVoucher, .instanceMethod yX3_requireVoucher, .selects RX3 yX3_requireVoucher yX3_requireVoucher, .code yX3_requireVoucher cX3_requireVoucher 2 none, .classLink RX3 196 "java/lang/IndexOutOfBoundsException", .initialized "java/lang/IndexOutOfBoundsException", .fieldLink RX3 35 "JointVenture" "voucherCount" "I"] ++ wsX30 ++ (vx_atS RX3 200 "java/lang/IndexOutOfBoundsException" ["java/lang/RuntimeException", "java/lang/Exception"]).filter goodWord)
def wsL_isIn : List Cond := .codeWith yL_isIn cL_isIn 5 (some .int) [(0, 17, 20, 32)] :: ([.classLink RL 32 "java/lang/IndexOutOfBoundsException", .methodLink RL 53 yX3_isIn, .instanceMethod yX3_isIn, .selects RX3 yX3_isIn yX3_isIn, .initialized RX3, .code yX3_isIn cX3_isIn 3 (some .boolean), .fieldLink RX3 22 "JointVenture" "wells" "[LJointVenture$Well;", .methodLink RX3 90 yX3_requireWell, .instanceMethod yX3_requireWell, .selects RX3 yX3_requireWell yX3_requireWell, .code yX3_requireWell cX3_requireWell 2 none, .classLink RX3 196 "java/lang/IndexOutOfBoundsException", .initialized "java/lang/IndexOutOfBoundsException", .fieldLink RX3 26 "JointVenture" "wellCount" "I", .methodLink RX3 94 yX3_requirePartner, .instanceMethod yX3_requirePartner, .selects RX3 yX3_requirePartner yX3_requirePartner, .code yX3_requirePartner cX3_requirePartner 2 none, .methodLink RX3 136 yX3_shareIfIn, .instanceMethod yX3_shareIfIn, .selects RX3 yX3_shareIfIn yX3_shareIfIn, .code yX3_shareIfIn cX3_shareIfIn 3 (some .int), .fieldLink RX3 115 "JointVenture$Well" "out" "[Z", .fieldLink RX3 9 "JointVenture" "shares" "[I"] ++ wsX30 ++ wsX20 ++ (vx_atS RX3 200 "java/lang/IndexOutOfBoundsException" ["java/lang/RuntimeException", "java/lang/Exception"]).filter goodWord)
def wsL_toEarn : List Cond := .codeWith yL_toEarn cL_toEarn 5 (some .int) [(0, 9, 12, 32)] :: ([.classLink RL 32 "java/lang/IndexOutOfBoundsException", .methodLink RL 57 yX3_toEarn, .instanceMethod yX3_toEarn, .selects RX3 yX3_toEarn yX3_toEarn, .initialized RX3, .code yX3_toEarn cX3_toEarn 3 (some .long), .fieldLink RX3 22 "JointVenture" "wells" "[LJointVenture$Well;", .fieldLink RX3 140 "JointVenture$Well" "toEarn" "[J", .methodLink RX3 90 yX3_requireWell, .instanceMethod yX3_requireWell, .selects RX3 yX3_requireWell yX3_requireWell, .code yX3_requireWell cX3_requireWell 2 none, .classLink RX3 196 "java/lang/IndexOutOfBoundsException", .initialized "java/lang/IndexOutOfBoundsException", .fieldLink RX3 26 "JointVenture" "wellCount" "I", .methodLink RX3 94 yX3_requirePartner, .instanceMethod yX3_requirePartner, .selects RX3 yX3_requirePartner yX3_requirePartner, .code yX3_requirePartner cX3_requirePartner 2 none] ++ wsX30 ++ wsX20 ++ (vx_atS RX3 200 "java/lang/IndexOutOfBoundsException" ["java/lang/RuntimeException", "java/lang/Exception"]).filter goodWord)
def wsL_backAt : List Cond := .codeWith yL_backAt cL_backAt 5 (some .int) [(0, 10, 13, 32)] :: ([.classLink RL 32 "java/lang/IndexOutOfBoundsException", .methodLink RL 61 yX3_backAt, .instanceMethod yX3_backAt, .selects RX3 yX3_backAt yX3_backAt, .initialized RX3, .code yX3_backAt cX3_backAt 3 (some .int), .fieldLink RX3 22 "JointVenture" "wells" "[LJointVenture$Well;", .fieldLink RX3 144 "JointVenture$Well" "backAt" "[I", .methodLink RX3 90 yX3_requireWell, .instanceMethod yX3_requireWell, .selects RX3 yX3_requireWell yX3_requireWell, .code yX3_requireWell cX3_requireWell 2 none, .classLink RX3 196 "java/lang/IndexOutOfBoundsException", .initialized "java/lang/IndexOutOfBoundsException", .fieldLink RX3 26 "JointVenture" "wellCount" "I", .methodLink RX3 94 yX3_requirePartner, .instanceMethod yX3_requirePartner, .selects RX3 yX3_requirePartner yX3_requirePartner, .code yX3_requirePartner cX3_requirePartner 2 none] ++ wsX30 ++ wsX20 ++ (vx_atS RX3 200 "java/lang/IndexOutOfBoundsException" ["java/lang/RuntimeException", "java/lang/Exception"]).filter goodWord)
def wsL_charged : List Cond := .codeWith yL_charged cL_charged 5 (some .int) [(0, 10, 13, 32)] :: ([.classLink RL 32 "java/lang/IndexOutOfBoundsException", .methodLink RL 64 yX3_charged, .instanceMethod yX3_charged, .selects RX3 yX3_charged yX3_charged, .initialized RX3, .code yX3_charged cX3_charged 3 (some .int), .fieldLink RX3 22 "JointVenture" "wells" "[LJointVenture$Well;", .fieldLink RX3 147 "JointVenture$Well" "charged" "[I", .methodLink RX3 90 yX3_requireWell, .instanceMethod yX3_requireWell, .selects RX3 yX3_requireWell yX3_requireWell, .code yX3_requireWell cX3_requireWell 2 none, .classLink RX3 196 "java/lang/IndexOutOfBoundsException", .initialized "java/lang/IndexOutOfBoundsException", .fieldLink RX3 26 "JointVenture" "wellCount" "I", .methodLink RX3 94 yX3_requirePartner, .instanceMethod yX3_requirePartner, .selects RX3 yX3_requirePartner yX3_requirePartner, .code yX3_requirePartner cX3_requirePartner 2 none] ++ wsX30 ++ wsX20 ++ (vx_atS RX3 200 "java/lang/IndexOutOfBoundsException" ["java/lang/RuntimeException", "java/lang/Exception"]).filter goodWord)
def wsL_credited : List Cond := .codeWith yL_credited cL_credited 5 (some .int) [(0, 10, 13, 32)] :: ([.classLink RL 32 "java/lang/IndexOutOfBoundsException", .methodLink RL 67 yX3_credited, .instanceMethod yX3_credited, .selects RX3 yX3_credited yX3_credited, .initialized RX3, .code yX3_credited cX3_credited 3 (some .int), .fieldLink RX3 22 "JointVenture" "wells" "[LJointVenture$Well;", .fieldLink RX3 150 "JointVenture$Well" "credited" "[I", .methodLink RX3 90 yX3_requireWell, .instanceMethod yX3_requireWell, .selects RX3 yX3_requireWell yX3_requireWell, .code yX3_requireWell cX3_requireWell 2 none, .classLink RX3 196 "java/lang/IndexOutOfBoundsException", .initialized "java/lang/IndexOutOfBoundsException", .fieldLink RX3 26 "JointVenture" "wellCount" "I", .methodLink RX3 94 yX3_requirePartner, .instanceMethod yX3_requirePartner, .selects RX3 yX3_requirePartner yX3_requirePartner, .code yX3_requirePartner cX3_requirePartner 2 none] ++ wsX30 ++ wsX20 ++ (vx_atS RX3 200 "java/lang/IndexOutOfBoundsException" ["java/lang/RuntimeException", "java/lang/Exception"]).filter goodWord)
def wsL_weight_r1 : List Cond := [Cond.classLink RL 32 "java/lang/IndexOutOfBoundsException", Cond.methodLink RL 70 yX3_weight, Cond.instanceMethod yX3_weight, Cond.selects RX3 yX3_weight yX3_weight, Cond.initialized RX3, Cond.code yX3_weight cX3_weight 3 (some .int), Cond.fieldLink RX3 22 "JointVenture" "wells" "[LJointVenture$Well;", Cond.fieldLink RX3 63 "JointVenture" "portions" "[I", Cond.methodLink RX3 90 yX3_requireWell, Cond.instanceMethod yX3_requireWell, Cond.selects RX3 yX3_requireWell yX3_requireWell, Cond.code yX3_requireWell cX3_requireWell 2 none, Cond.classLink RX3 196 "java/lang/IndexOutOfBoundsException", Cond.initialized "java/lang/IndexOutOfBoundsException", Cond.fieldLink RX3 26 "JointVenture" "wellCount" "I", Cond.methodLink RX3 94 yX3_requirePartner, Cond.instanceMethod yX3_requirePartner, Cond.selects RX3 yX3_requirePartner yX3_requirePartner, Cond.code yX3_requirePartner cX3_requirePartner 2 none, Cond.methodLink RX3 153 yX3_divideCost, Cond.instanceMethod yX3_divideCost, Cond.selects RX3 yX3_divideCost yX3_divideCost, Cond.code yX3_divideCost cX3_divideCost 4 none, Cond.fieldLink RX3 53 "JointVenture" "division" "LJointVenture$Division;"]
def wsL_weight_r2 : List Cond := [Cond.fieldLink RX3 9 "JointVenture" "shares" "[I", Cond.fieldLink RX3 57 "JointVenture" "ownParts" "[I", Cond.fieldLink RX3 60 "JointVenture" "weights" "[I", Cond.fieldLink RX3 115 "JointVenture$Well" "out" "[Z", Cond.methodLink RX3 162 yX1_divide, Cond.instanceMethod yX1_divide, Cond.selects RX1 yX1_divide yX1_divide, Cond.initialized RX1, Cond.code yX1_divide cX1_divide 10 none, Cond.fieldLink RX1 9 "JointVenture$Division" "remainders" "[J", Cond.constantLong RX1 25 (-1), Cond.methodLink RX1 15 yJ7_fill_53178, Cond.static yJ7_fill_53178, Cond.initialized RJ7, Cond.code yJ7_fill_53178 cJ7_fill_53178 4 none, Cond.methodLink RX1 21 yX1_firstWithGreatestRemainder, Cond.instanceMethod yX1_firstWithGreatestRemainder, Cond.selects RX1 yX1_firstWithGreatestRemainder yX1_firstWithGreatestRemainder, Cond.code yX1_firstWithGreatestRemainder cX1_firstWithGreatestRemainder 3 (some .int), Cond.methodLink RX3 232 yX3_weighThoseIn, Cond.instanceMethod yX3_weighThoseIn, Cond.selects RX3 yX3_weighThoseIn yX3_weighThoseIn, Cond.code yX3_weighThoseIn cX3_weighThoseIn 3 none, Cond.methodLink RX3 136 yX3_shareIfIn]
def wsL_weight_r3 : List Cond := [Cond.instanceMethod yX3_shareIfIn, Cond.selects RX3 yX3_shareIfIn yX3_shareIfIn, Cond.code yX3_shareIfIn cX3_shareIfIn 3 (some .int), Cond.methodLink RX3 236 yX3_ownPartsOfThoseOut, Cond.instanceMethod yX3_ownPartsOfThoseOut, Cond.selects RX3 yX3_ownPartsOfThoseOut yX3_ownPartsOfThoseOut, Cond.code yX3_ownPartsOfThoseOut cX3_ownPartsOfThoseOut 4 (some .int)]
def wsL_weight : List Cond := .codeWith yL_weight cL_weight 5 (some .int) [(0, 10, 13, 32)] :: ((wsL_weight_r1 ++ (wsL_weight_r2 ++ wsL_weight_r3)) ++ wsX30 ++ wsX20 ++ wsX10 ++ (vx_atS RX3 200 "java/lang/IndexOutOfBoundsException" ["java/lang/RuntimeException", "java/lang/Exception"]).filter goodWord)
def wsL_call_r1 : List Cond := [Cond.classLink RL 32 "java/lang/IndexOutOfBoundsException", Cond.classLink RL 13 "java/lang/IllegalArgumentException", Cond.classLink RL 15 "java/lang/IllegalStateException", Cond.methodLink RL 73 yX3_call, Cond.instanceMethod yX3_call, Cond.selects RX3 yX3_call yX3_call, Cond.initialized RX3, Cond.code yX3_call cX3_call 3 (some .int), Cond.classLink RX3 79 "java/lang/IllegalStateException", Cond.initialized "java/lang/IllegalStateException", Cond.constant RX3 118 (10000000), Cond.fieldLink RX3 44 "JointVenture" "cashCallCount" "I", Cond.fieldLink RX3 22 "JointVenture" "wells" "[LJointVenture$Well;", Cond.fieldLink RX3 53 "JointVenture" "division" "LJointVenture$Division;", Cond.fieldLink RX3 63 "JointVenture" "portions" "[I", Cond.fieldLink RX3 40 "JointVenture" "cashCalls" "[LJointVenture$CashCall;", Cond.fieldLink RX3 159 "JointVenture$CashCall" "asked" "[I", Cond.methodLink RX3 90 yX3_requireWell, Cond.instanceMethod yX3_requireWell, Cond.selects RX3 yX3_requireWell yX3_requireWell, Cond.code yX3_requireWell cX3_requireWell 2 none, Cond.classLink RX3 196 "java/lang/IndexOutOfBoundsException", Cond.initialized "java/lang/IndexOutOfBoundsException", Cond.fieldLink RX3 26 "JointVenture" "wellCount" "I"]
def wsL_call_r2 : List Cond := [Cond.methodLink RX3 68 yX3_requireRange, Cond.instanceMethod yX3_requireRange, Cond.selects RX3 yX3_requireRange yX3_requireRange, Cond.code yX3_requireRange cX3_requireRange 4 none, Cond.classLink RX3 72 "java/lang/IllegalArgumentException", Cond.initialized "java/lang/IllegalArgumentException", Cond.methodLink RX3 153 yX3_divideCost, Cond.instanceMethod yX3_divideCost, Cond.selects RX3 yX3_divideCost yX3_divideCost, Cond.code yX3_divideCost cX3_divideCost 4 none, Cond.fieldLink RX3 9 "JointVenture" "shares" "[I", Cond.fieldLink RX3 57 "JointVenture" "ownParts" "[I", Cond.fieldLink RX3 60 "JointVenture" "weights" "[I", Cond.fieldLink RX3 115 "JointVenture$Well" "out" "[Z", Cond.methodLink RX3 162 yX1_divide, Cond.instanceMethod yX1_divide, Cond.selects RX1 yX1_divide yX1_divide, Cond.initialized RX1, Cond.code yX1_divide cX1_divide 10 none, Cond.fieldLink RX1 9 "JointVenture$Division" "remainders" "[J", Cond.constantLong RX1 25 (-1), Cond.methodLink RX1 15 yJ7_fill_53178, Cond.static yJ7_fill_53178, Cond.initialized RJ7]
def wsL_call_r3 : List Cond := [Cond.code yJ7_fill_53178 cJ7_fill_53178 4 none, Cond.methodLink RX1 21 yX1_firstWithGreatestRemainder, Cond.instanceMethod yX1_firstWithGreatestRemainder, Cond.selects RX1 yX1_firstWithGreatestRemainder yX1_firstWithGreatestRemainder, Cond.code yX1_firstWithGreatestRemainder cX1_firstWithGreatestRemainder 3 (some .int), Cond.methodLink RX3 232 yX3_weighThoseIn, Cond.instanceMethod yX3_weighThoseIn, Cond.selects RX3 yX3_weighThoseIn yX3_weighThoseIn, Cond.code yX3_weighThoseIn cX3_weighThoseIn 3 none, Cond.methodLink RX3 136 yX3_shareIfIn, Cond.instanceMethod yX3_shareIfIn, Cond.selects RX3 yX3_shareIfIn yX3_shareIfIn, Cond.code yX3_shareIfIn cX3_shareIfIn 3 (some .int), Cond.methodLink RX3 236 yX3_ownPartsOfThoseOut, Cond.instanceMethod yX3_ownPartsOfThoseOut, Cond.selects RX3 yX3_ownPartsOfThoseOut yX3_ownPartsOfThoseOut, Cond.code yX3_ownPartsOfThoseOut cX3_ownPartsOfThoseOut 4 (some .int)]
def wsL_call : List Cond := .codeWith yL_call cL_call 5 (some .int) [(0, 10, 13, 32), (0, 10, 17, 13), (0, 10, 21, 15)] :: ((wsL_call_r1 ++ (wsL_call_r2 ++ wsL_call_r3)) ++ wsX30 ++ wsX00 ++ wsX20 ++ wsX10 ++ (vx_atS RX3 83 "java/lang/IllegalStateException" ["java/lang/RuntimeException", "java/lang/Exception"]).filter goodWord ++ (vx_atS RX3 200 "java/lang/IndexOutOfBoundsException" ["java/lang/RuntimeException", "java/lang/Exception"]).filter goodWord ++ (vx_atS RX3 76 "java/lang/IllegalArgumentException" ["java/lang/RuntimeException", "java/lang/Exception"]).filter goodWord)
def wsL_pay : List Cond := .codeWith yL_pay cL_pay 5 (some .int) [(0, 10, 13, 32), (0, 10, 17, 15)] :: ([.classLink RL 32 "java/lang/IndexOutOfBoundsException", .classLink RL 15 "java/lang/IllegalStateException", .methodLink RL 76 yX3_pay, .instanceMethod yX3_pay, .selects RX3 yX3_pay yX3_pay, .initialized RX3, .code yX3_pay cX3_pay 5 (some .int), .classLink RX3 79 "java/lang/IllegalStateException", .initialized "java/lang/IllegalStateException", .fieldLink RX3 40 "JointVenture" "cashCalls" "[LJointVenture$CashCall;", .fieldLink RX3 159 "JointVenture$CashCall" "asked" "[I", .fieldLink RX3 169 "JointVenture$CashCall" "paid" "[I", .methodLink RX3 166 yX3_requireCashCall, .instanceMethod yX3_requireCashCall, .selects RX3 yX3_requireCashCall yX3_requireCashCall, .code yX3_requireCashCall cX3_requireCashCall 2 none, .classLink RX3 196 "java/lang/IndexOutOfBoundsException", .initialized "java/lang/IndexOutOfBoundsException", .fieldLink RX3 44 "JointVenture" "cashCallCount" "I", .methodLink RX3 94 yX3_requirePartner, .instanceMethod yX3_requirePartner, .selects RX3 yX3_requirePartner yX3_requirePartner, .code yX3_requirePartner cX3_requirePartner 2 none] ++ wsX30 ++ wsX00 ++ (vx_atS RX3 83 "java/lang/IllegalStateException" ["java/lang/RuntimeException", "java/lang/Exception"]).filter goodWord ++ (vx_atS RX3 200 "java/lang/IndexOutOfBoundsException" ["java/lang/RuntimeException", "java/lang/Exception"]).filter goodWord)
def wsL_shareOut_r1 : List Cond := [Cond.classLink RL 32 "java/lang/IndexOutOfBoundsException", Cond.classLink RL 15 "java/lang/IllegalStateException", Cond.methodLink RL 79 yX3_shareOut, Cond.instanceMethod yX3_shareOut, Cond.selects RX3 yX3_shareOut yX3_shareOut, Cond.initialized RX3, Cond.code yX3_shareOut cX3_shareOut 4 (some .int), Cond.classLink RX3 79 "java/lang/IllegalStateException", Cond.initialized "java/lang/IllegalStateException", Cond.fieldLink RX3 40 "JointVenture" "cashCalls" "[LJointVenture$CashCall;", Cond.methodLink RX3 166 yX3_requireCashCall, Cond.instanceMethod yX3_requireCashCall, Cond.selects RX3 yX3_requireCashCall yX3_requireCashCall, Cond.code yX3_requireCashCall cX3_requireCashCall 2 none, Cond.classLink RX3 196 "java/lang/IndexOutOfBoundsException", Cond.initialized "java/lang/IndexOutOfBoundsException", Cond.fieldLink RX3 44 "JointVenture" "cashCallCount" "I", Cond.methodLink RX3 174 yX0_hasPayer, Cond.instanceMethod yX0_hasPayer, Cond.selects RX0 yX0_hasPayer yX0_hasPayer, Cond.initialized RX0, Cond.code yX0_hasPayer cX0_hasPayer 2 (some .boolean), Cond.fieldLink RX0 15 "JointVenture$CashCall" "paid" "[I", Cond.methodLink RX3 180 yX0_askedOfNonPayers]
def wsL_shareOut_r2 : List Cond := [Cond.instanceMethod yX0_askedOfNonPayers, Cond.selects RX0 yX0_askedOfNonPayers yX0_askedOfNonPayers, Cond.code yX0_askedOfNonPayers cX0_askedOfNonPayers 3 (some .int), Cond.fieldLink RX0 9 "JointVenture$CashCall" "asked" "[I", Cond.methodLink RX3 186 yX3_moveToPayers, Cond.instanceMethod yX3_moveToPayers, Cond.selects RX3 yX3_moveToPayers yX3_moveToPayers, Cond.code yX3_moveToPayers cX3_moveToPayers 4 none, Cond.fieldLink RX3 60 "JointVenture" "weights" "[I", Cond.fieldLink RX3 169 "JointVenture$CashCall" "paid" "[I", Cond.fieldLink RX3 159 "JointVenture$CashCall" "asked" "[I", Cond.fieldLink RX3 53 "JointVenture" "division" "LJointVenture$Division;", Cond.fieldLink RX3 63 "JointVenture" "portions" "[I", Cond.fieldLink RX3 47 "JointVenture" "owed" "[I", Cond.methodLink RX3 162 yX1_divide, Cond.instanceMethod yX1_divide, Cond.selects RX1 yX1_divide yX1_divide, Cond.initialized RX1, Cond.code yX1_divide cX1_divide 10 none, Cond.fieldLink RX1 9 "JointVenture$Division" "remainders" "[J", Cond.constantLong RX1 25 (-1), Cond.methodLink RX1 15 yJ7_fill_53178, Cond.static yJ7_fill_53178, Cond.initialized RJ7]
def wsL_shareOut_r3 : List Cond := [Cond.code yJ7_fill_53178 cJ7_fill_53178 4 none, Cond.methodLink RX1 21 yX1_firstWithGreatestRemainder, Cond.instanceMethod yX1_firstWithGreatestRemainder, Cond.selects RX1 yX1_firstWithGreatestRemainder yX1_firstWithGreatestRemainder, Cond.code yX1_firstWithGreatestRemainder cX1_firstWithGreatestRemainder 3 (some .int)]
def wsL_shareOut : List Cond := .codeWith yL_shareOut cL_shareOut 4 (some .int) [(0, 9, 12, 32), (0, 9, 15, 15)] :: ((wsL_shareOut_r1 ++ (wsL_shareOut_r2 ++ wsL_shareOut_r3)) ++ wsX30 ++ wsX00 ++ wsX10 ++ (vx_atS RX3 83 "java/lang/IllegalStateException" ["java/lang/RuntimeException", "java/lang/Exception"]).filter goodWord ++ (vx_atS RX3 200 "java/lang/IndexOutOfBoundsException" ["java/lang/RuntimeException", "java/lang/Exception"]).filter goodWord)
def wsL_asked : List Cond := .codeWith yL_asked cL_asked 5 (some .int) [(0, 10, 13, 32)] :: ([.classLink RL 32 "java/lang/IndexOutOfBoundsException", .methodLink RL 82 yX3_asked, .instanceMethod yX3_asked, .selects RX3 yX3_asked yX3_asked, .initialized RX3, .code yX3_asked cX3_asked 3 (some .int), .fieldLink RX3 40 "JointVenture" "cashCalls" "[LJointVenture$CashCall;", .fieldLink RX3 159 "JointVenture$CashCall" "asked" "[I", .methodLink RX3 166 yX3_requireCashCall, .instanceMethod yX3_requireCashCall, .selects RX3 yX3_requireCashCall yX3_requireCashCall, .code yX3_requireCashCall cX3_requireCashCall 2 none, .classLink RX3 196 "java/lang/IndexOutOfBoundsException", .initialized "java/lang/IndexOutOfBoundsException", .fieldLink RX3 44 "JointVenture" "cashCallCount" "I", .methodLink RX3 94 yX3_requirePartner, .instanceMethod yX3_requirePartner, .selects RX3 yX3_requirePartner yX3_requirePartner, .code yX3_requirePartner cX3_requirePartner 2 none] ++ wsX30 ++ wsX00 ++ (vx_atS RX3 200 "java/lang/IndexOutOfBoundsException" ["java/lang/RuntimeException", "java/lang/Exception"]).filter goodWord)
def wsL_paid : List Cond := .codeWith yL_paid cL_paid 4 (some .int) [(0, 9, 12, 32)] :: ([.classLink RL 32 "java/lang/IndexOutOfBoundsException", .methodLink RL 85 yX3_paid, .instanceMethod yX3_paid, .selects RX3 yX3_paid yX3_paid, .initialized RX3, .code yX3_paid cX3_paid 2 (some .int), .methodLink RX3 94 yX3_requirePartner, .instanceMethod yX3_requirePartner, .selects RX3 yX3_requirePartner yX3_requirePartner, .code yX3_requirePartner cX3_requirePartner 2 none, .classLink RX3 196 "java/lang/IndexOutOfBoundsException", .initialized "java/lang/IndexOutOfBoundsException", .methodLink RX3 190 yX3_paidOfAllCalls, .instanceMethod yX3_paidOfAllCalls, .selects RX3 yX3_paidOfAllCalls yX3_paidOfAllCalls, .code yX3_paidOfAllCalls cX3_paidOfAllCalls 4 (some .int), .fieldLink RX3 44 "JointVenture" "cashCallCount" "I", .fieldLink RX3 40 "JointVenture" "cashCalls" "[LJointVenture$CashCall;", .fieldLink RX3 169 "JointVenture$CashCall" "paid" "[I"] ++ wsX30 ++ wsX00 ++ (vx_atS RX3 200 "java/lang/IndexOutOfBoundsException" ["java/lang/RuntimeException", "java/lang/Exception"]).filter goodWord)
def wsL_owes : List Cond := .codeWith yL_owes cL_owes 4 (some .int) [(0, 9, 12, 32)] :: ([.classLink RL 32 "java/lang/IndexOutOfBoundsException", .methodLink RL 88 yX3_owes, .instanceMethod yX3_owes, .selects RX3 yX3_owes yX3_owes, .initialized RX3, .code yX3_owes cX3_owes 2 (some .int), .fieldLink RX3 47 "JointVenture" "owed" "[I", .methodLink RX3 94 yX3_requirePartner, .instanceMethod yX3_requirePartner, .selects RX3 yX3_requirePartner yX3_requirePartner, .code yX3_requirePartner cX3_requirePartner 2 none, .classLink RX3 196 "java/lang/IndexOutOfBoundsException", .initialized "java/lang/IndexOutOfBoundsException"] ++ wsX30 ++ (vx_atS RX3 200 "java/lang/IndexOutOfBoundsException" ["java/lang/RuntimeException", "java/lang/Exception"]).filter goodWord)
def wsL_balance : List Cond := .codeWith yL_balance cL_balance 4 (some .int) [(0, 8, 11, 32)] :: ([.classLink RL 32 "java/lang/IndexOutOfBoundsException", .methodLink RL 91 yX3_balance, .instanceMethod yX3_balance, .selects RX3 yX3_balance yX3_balance, .initialized RX3, .code yX3_balance cX3_balance 5 (some .long), .fieldLink RX3 47 "JointVenture" "owed" "[I", .fieldLink RX3 26 "JointVenture" "wellCount" "I", .fieldLink RX3 22 "JointVenture" "wells" "[LJointVenture$Well;", .fieldLink RX3 150 "JointVenture$Well" "credited" "[I", .fieldLink RX3 147 "JointVenture$Well" "charged" "[I", .methodLink RX3 94 yX3_requirePartner, .instanceMethod yX3_requirePartner, .selects RX3 yX3_requirePartner yX3_requirePartner, .code yX3_requirePartner cX3_requirePartner 2 none, .classLink RX3 196 "java/lang/IndexOutOfBoundsException", .initialized "java/lang/IndexOutOfBoundsException", .methodLink RX3 190 yX3_paidOfAllCalls, .instanceMethod yX3_paidOfAllCalls, .selects RX3 yX3_paidOfAllCalls yX3_paidOfAllCalls, .code yX3_paidOfAllCalls cX3_paidOfAllCalls 4 (some .int), .fieldLink RX3 44 "JointVenture" "cashCallCount" "I", .fieldLink RX3 40 "JointVenture" "cashCalls" "[LJointVenture$CashCall;", .fieldLink RX3 169 "JointVenture$CashCall" "paid" "[I"] ++ wsX30 ++ wsX20 ++ wsX00 ++ (vx_atS RX3 200 "java/lang/IndexOutOfBoundsException" ["java/lang/RuntimeException", "java/lang/Exception"]).filter goodWord)
def wsL_law0_r1 : List Cond := [Cond.classLink RL 8 RX3, Cond.instantiable RX3 15, Cond.initialized RX3, Cond.classLink RL 96 RX4, Cond.instantiable RX4 25, Cond.initialized RX4, Cond.arrayClass .long, Cond.methodLink RL 95 yX3_init, Cond.instanceMethod yX3_init, Cond.code yX3_init cX3_init 2 none, Cond.methodLink RX3 1 objectInit, Cond.instanceMethod objectInit, Cond.code objectInit ⟨#[0xb1]⟩ 1 none, Cond.arrayClass .int, Cond.fieldLink RX3 9 "JointVenture" "shares" "[I", Cond.fieldLink RX3 13 "JointVenture" "newPenalty" "I", Cond.fieldLink RX3 17 "JointVenture" "monthlyOverhead" "I", Cond.classLink RX3 20 RX2, Cond.fieldLink RX3 22 "JointVenture" "wells" "[LJointVenture$Well;", Cond.fieldLink RX3 26 "JointVenture" "wellCount" "I", Cond.fieldLink RX3 29 "JointVenture" "voucherWells" "[I", Cond.fieldLink RX3 32 "JointVenture" "voucherAmounts" "[I", Cond.fieldLink RX3 35 "JointVenture" "voucherCount" "I", Cond.classLink RX3 38 RX0]
def wsL_law0_r2 : List Cond := [Cond.fieldLink RX3 40 "JointVenture" "cashCalls" "[LJointVenture$CashCall;", Cond.fieldLink RX3 44 "JointVenture" "cashCallCount" "I", Cond.fieldLink RX3 47 "JointVenture" "owed" "[I", Cond.classLink RX3 50 RX1, Cond.instantiable RX1 1, Cond.initialized RX1, Cond.fieldLink RX3 53 "JointVenture" "division" "LJointVenture$Division;", Cond.fieldLink RX3 57 "JointVenture" "ownParts" "[I", Cond.fieldLink RX3 60 "JointVenture" "weights" "[I", Cond.fieldLink RX3 63 "JointVenture" "portions" "[I", Cond.instantiable RX2 8, Cond.initialized RX2, Cond.instantiable RX0 2, Cond.initialized RX0, Cond.instanceMethod yX1_init, Cond.code yX1_init cX1_init 1 none, Cond.methodLink RX1 3 objectInit, Cond.fieldLink RX1 9 "JointVenture$Division" "remainders" "[J", Cond.methodLink RX3 66 yX2_init, Cond.instanceMethod yX2_init, Cond.code yX2_init cX2_init 1 none, Cond.methodLink RX2 3 objectInit, Cond.fieldLink RX2 9 "JointVenture$Well" "penalty" "I", Cond.fieldLink RX2 15 "JointVenture$Well" "hadVoucher" "Z"]
def wsL_law0_r3 : List Cond := [Cond.arrayClass .boolean, Cond.fieldLink RX2 19 "JointVenture$Well" "electedOut" "[Z", Cond.fieldLink RX2 23 "JointVenture$Well" "out" "[Z", Cond.fieldLink RX2 26 "JointVenture$Well" "toEarn" "[J", Cond.fieldLink RX2 30 "JointVenture$Well" "backAt" "[I", Cond.fieldLink RX2 34 "JointVenture$Well" "charged" "[I", Cond.fieldLink RX2 37 "JointVenture$Well" "credited" "[I", Cond.methodLink RX2 40 yJ7_fill_53178, Cond.static yJ7_fill_53178, Cond.initialized RJ7, Cond.code yJ7_fill_53178 cJ7_fill_53178 4 none, Cond.instanceMethod yX0_init, Cond.code yX0_init cX0_init 1 none, Cond.methodLink RX0 3 objectInit, Cond.fieldLink RX0 9 "JointVenture$CashCall" "asked" "[I", Cond.fieldLink RX0 15 "JointVenture$CashCall" "paid" "[I", Cond.methodLink RL 98 yX4_init, Cond.instanceMethod yX4_init, Cond.code yX4_init cX4_init 1 none, Cond.methodLink RX4 1 objectInit, Cond.fieldLink RX4 7 "JointVentureModel" "shares" "[I", Cond.fieldLink RX4 13 "JointVentureModel" "penalty" "I", Cond.fieldLink RX4 17 "JointVentureModel" "penalties" "[I", Cond.fieldLink RX4 20 "JointVentureModel" "touched" "[Z"]
def wsL_law0_r4 : List Cond := [Cond.fieldLink RX4 24 "JointVentureModel" "outs" "[Z", Cond.fieldLink RX4 27 "JointVentureModel" "sites" "[I", Cond.fieldLink RX4 30 "JointVentureModel" "amounts" "[I", Cond.fieldLink RX4 33 "JointVentureModel" "incomes" "[Z", Cond.fieldLink RX4 36 "JointVentureModel" "asks" "[I", Cond.fieldLink RX4 39 "JointVentureModel" "pays" "[I", Cond.fieldLink RX4 42 "JointVentureModel" "owed" "[I", Cond.fieldLink RX4 45 "JointVentureModel" "in" "[Z", Cond.fieldLink RX4 48 "JointVentureModel" "earns" "[J", Cond.fieldLink RX4 52 "JointVentureModel" "backs" "[I", Cond.fieldLink RX4 55 "JointVentureModel" "charges" "[I", Cond.fieldLink RX4 58 "JointVentureModel" "credits" "[I", Cond.fieldLink RX4 61 "JointVentureModel" "weights" "[I", Cond.fieldLink RX4 64 "JointVentureModel" "parts" "[I", Cond.fieldLink RX4 67 "JointVentureModel" "own" "[I", Cond.fieldLink RX4 70 "JointVentureModel" "rests" "[J", Cond.methodLink RL 99 yL_setShares, Cond.static yL_setShares, Cond.initialized RL, Cond.codeWith yL_setShares cL_setShares 7 (some .int) [(0, 11, 14, 13), (0, 11, 18, 15)], Cond.classLink RL 13 "java/lang/IllegalArgumentException", Cond.classLink RL 15 "java/lang/IllegalStateException", Cond.methodLink RL 7 yX3_setShares, Cond.instanceMethod yX3_setShares]
def wsL_law0_r5 : List Cond := [Cond.selects RX3 yX3_setShares yX3_setShares, Cond.code yX3_setShares cX3_setShares 6 none, Cond.classLink RX3 72 "java/lang/IllegalArgumentException", Cond.initialized "java/lang/IllegalArgumentException", Cond.classLink RX3 79 "java/lang/IllegalStateException", Cond.initialized "java/lang/IllegalStateException", Cond.methodLink RX3 68 yX3_requireRange, Cond.instanceMethod yX3_requireRange, Cond.selects RX3 yX3_requireRange yX3_requireRange, Cond.code yX3_requireRange cX3_requireRange 4 none, Cond.methodLink RL 104 yX4_setShares, Cond.instanceMethod yX4_setShares, Cond.selects RX4 yX4_setShares yX4_setShares, Cond.code yX4_setShares cX4_setShares 7 none, Cond.fieldLink RX4 80 "JointVentureModel" "wells" "I", Cond.methodLink RX4 112 yX4_isShare, Cond.static yX4_isShare, Cond.code yX4_isShare cX4_isShare 1 (some .boolean), Cond.methodLink RX4 76 yX4_within, Cond.static yX4_within, Cond.code yX4_within cX4_within 3 (some .boolean), Cond.methodLink RX4 116 yX4_goes, Cond.instanceMethod yX4_goes, Cond.selects RX4 yX4_goes yX4_goes]
def wsL_law0_r6 : List Cond := [Cond.code yX4_goes cX4_goes 4 (some .boolean), Cond.fieldLink RX4 73 "JointVentureModel" "last" "I", Cond.methodLink RL 105 yX4_thrown, Cond.instanceMethod yX4_thrown, Cond.selects RX4 yX4_thrown yX4_thrown, Cond.code yX4_thrown cX4_thrown 1 (some .int), Cond.methodLink RL 108 yL_setPenalty, Cond.static yL_setPenalty, Cond.codeWith yL_setPenalty cL_setPenalty 4 (some .int) [(0, 9, 12, 13)], Cond.methodLink RL 17 yX3_setPenalty, Cond.instanceMethod yX3_setPenalty, Cond.selects RX3 yX3_setPenalty yX3_setPenalty, Cond.code yX3_setPenalty cX3_setPenalty 3 (some .int), Cond.methodLink RL 111 yX4_setPenalty, Cond.instanceMethod yX4_setPenalty, Cond.selects RX4 yX4_setPenalty yX4_setPenalty, Cond.code yX4_setPenalty cX4_setPenalty 3 (some .int), Cond.methodLink RL 112 yL_setOverhead, Cond.static yL_setOverhead, Cond.codeWith yL_setOverhead cL_setOverhead 4 (some .int) [(0, 9, 12, 13)], Cond.methodLink RL 21 yX3_setOverhead, Cond.instanceMethod yX3_setOverhead, Cond.selects RX3 yX3_setOverhead yX3_setOverhead, Cond.code yX3_setOverhead cX3_setOverhead 3 (some .int)]
def wsL_law0_r7 : List Cond := [Cond.constant RX3 84 (100000), Cond.methodLink RL 114 yX4_setOverhead, Cond.instanceMethod yX4_setOverhead, Cond.selects RX4 yX4_setOverhead yX4_setOverhead, Cond.code yX4_setOverhead cX4_setOverhead 3 (some .int), Cond.constant RX4 120 (100000), Cond.fieldLink RX4 121 "JointVentureModel" "overhead" "I", Cond.methodLink RL 115 yL_addWell, Cond.static yL_addWell, Cond.codeWith yL_addWell cL_addWell 3 (some .int) [(0, 8, 11, 15)], Cond.methodLink RL 24 yX3_addWell, Cond.instanceMethod yX3_addWell, Cond.selects RX3 yX3_addWell yX3_addWell, Cond.code yX3_addWell cX3_addWell 1 (some .int), Cond.fieldLink RX3 87 "JointVenture$Well" "penalty" "I", Cond.methodLink RL 118 yX4_addWell, Cond.instanceMethod yX4_addWell, Cond.selects RX4 yX4_addWell yX4_addWell, Cond.code yX4_addWell cX4_addWell 1 (some .int), Cond.methodLink RL 119 yL_elect, Cond.static yL_elect, Cond.codeWith yL_elect cL_elect 6 (some .int) [(0, 19, 22, 32), (0, 19, 26, 15)], Cond.classLink RL 32 "java/lang/IndexOutOfBoundsException", Cond.methodLink RL 28 yX3_elect]
def wsL_law0_r8 : List Cond := [Cond.instanceMethod yX3_elect, Cond.selects RX3 yX3_elect yX3_elect, Cond.code yX3_elect cX3_elect 6 (some .boolean), Cond.fieldLink RX3 97 "JointVenture$Well" "hadVoucher" "Z", Cond.fieldLink RX3 111 "JointVenture$Well" "electedOut" "[Z", Cond.fieldLink RX3 115 "JointVenture$Well" "out" "[Z", Cond.methodLink RX3 90 yX3_requireWell, Cond.instanceMethod yX3_requireWell, Cond.selects RX3 yX3_requireWell yX3_requireWell, Cond.code yX3_requireWell cX3_requireWell 2 none, Cond.classLink RX3 196 "java/lang/IndexOutOfBoundsException", Cond.initialized "java/lang/IndexOutOfBoundsException", Cond.methodLink RX3 94 yX3_requirePartner, Cond.instanceMethod yX3_requirePartner, Cond.selects RX3 yX3_requirePartner yX3_requirePartner, Cond.code yX3_requirePartner cX3_requirePartner 2 none, Cond.methodLink RX3 105 yX3_isAnotherIn, Cond.instanceMethod yX3_isAnotherIn, Cond.selects RX3 yX3_isAnotherIn yX3_isAnotherIn, Cond.code yX3_isAnotherIn cX3_isAnotherIn 4 (some .boolean), Cond.methodLink RX3 136 yX3_shareIfIn, Cond.instanceMethod yX3_shareIfIn, Cond.selects RX3 yX3_shareIfIn yX3_shareIfIn, Cond.code yX3_shareIfIn cX3_shareIfIn 3 (some .int)]
def wsL_law0_r9 : List Cond := [Cond.methodLink RL 122 yX4_elect, Cond.instanceMethod yX4_elect, Cond.selects RX4 yX4_elect yX4_elect, Cond.code yX4_elect cX4_elect 7 (some .boolean), Cond.methodLink RX4 124 yX4_isWell, Cond.instanceMethod yX4_isWell, Cond.selects RX4 yX4_isWell yX4_isWell, Cond.code yX4_isWell cX4_isWell 2 (some .boolean), Cond.methodLink RX4 127 yX4_isPartner, Cond.static yX4_isPartner, Cond.code yX4_isPartner cX4_isPartner 1 (some .boolean), Cond.methodLink RX4 130 yX4_hasOthers, Cond.instanceMethod yX4_hasOthers, Cond.selects RX4 yX4_hasOthers yX4_hasOthers, Cond.code yX4_hasOthers cX4_hasOthers 5 (some .boolean), Cond.methodLink RL 123 yL_cost, Cond.static yL_cost, Cond.codeWith yL_cost cL_cost 5 (some .int) [(0, 10, 13, 32), (0, 10, 17, 13), (0, 10, 21, 15)], Cond.methodLink RL 34 yX3_cost, Cond.instanceMethod yX3_cost, Cond.selects RX3 yX3_cost yX3_cost, Cond.code yX3_cost cX3_cost 3 (some .int), Cond.constant RX3 118 (10000000), Cond.methodLink RX3 119 yX3_requireRoomForVoucher]
def wsL_law0_r10 : List Cond := [Cond.instanceMethod yX3_requireRoomForVoucher, Cond.selects RX3 yX3_requireRoomForVoucher yX3_requireRoomForVoucher, Cond.code yX3_requireRoomForVoucher cX3_requireRoomForVoucher 1 none, Cond.methodLink RX3 122 yX3_addVoucher, Cond.instanceMethod yX3_addVoucher, Cond.selects RX3 yX3_addVoucher yX3_addVoucher, Cond.code yX3_addVoucher cX3_addVoucher 4 (some .int), Cond.methodLink RX3 209 yX3_account, Cond.instanceMethod yX3_account, Cond.selects RX3 yX3_account yX3_account, Cond.code yX3_account cX3_account 4 none, Cond.methodLink RX3 215 yX3_accountCost, Cond.instanceMethod yX3_accountCost, Cond.selects RX3 yX3_accountCost yX3_accountCost, Cond.code yX3_accountCost cX3_accountCost 4 none, Cond.fieldLink RX3 147 "JointVenture$Well" "charged" "[I", Cond.fieldLink RX3 140 "JointVenture$Well" "toEarn" "[J", Cond.methodLink RX3 153 yX3_divideCost, Cond.instanceMethod yX3_divideCost, Cond.selects RX3 yX3_divideCost yX3_divideCost, Cond.code yX3_divideCost cX3_divideCost 4 none, Cond.methodLink RX3 162 yX1_divide, Cond.instanceMethod yX1_divide, Cond.selects RX1 yX1_divide yX1_divide]
def wsL_law0_r11 : List Cond := [Cond.code yX1_divide cX1_divide 10 none, Cond.constantLong RX1 25 (-1), Cond.methodLink RX1 15 yJ7_fill_53178, Cond.methodLink RX1 21 yX1_firstWithGreatestRemainder, Cond.instanceMethod yX1_firstWithGreatestRemainder, Cond.selects RX1 yX1_firstWithGreatestRemainder yX1_firstWithGreatestRemainder, Cond.code yX1_firstWithGreatestRemainder cX1_firstWithGreatestRemainder 3 (some .int), Cond.methodLink RX3 232 yX3_weighThoseIn, Cond.instanceMethod yX3_weighThoseIn, Cond.selects RX3 yX3_weighThoseIn yX3_weighThoseIn, Cond.code yX3_weighThoseIn cX3_weighThoseIn 3 none, Cond.methodLink RX3 236 yX3_ownPartsOfThoseOut, Cond.instanceMethod yX3_ownPartsOfThoseOut, Cond.selects RX3 yX3_ownPartsOfThoseOut yX3_ownPartsOfThoseOut, Cond.code yX3_ownPartsOfThoseOut cX3_ownPartsOfThoseOut 4 (some .int), Cond.methodLink RX3 224 yX3_penaltyOn, Cond.instanceMethod yX3_penaltyOn, Cond.selects RX3 yX3_penaltyOn yX3_penaltyOn, Cond.code yX3_penaltyOn cX3_penaltyOn 3 (some .long), Cond.constantLong RX3 228 (99), Cond.constantLong RX3 230 (100), Cond.methodLink RX3 218 yX3_accountIncome, Cond.instanceMethod yX3_accountIncome, Cond.selects RX3 yX3_accountIncome yX3_accountIncome]
def wsL_law0_r12 : List Cond := [Cond.code yX3_accountIncome cX3_accountIncome 5 none, Cond.fieldLink RX3 150 "JointVenture$Well" "credited" "[I", Cond.methodLink RX3 240 yX2_takenOf, Cond.instanceMethod yX2_takenOf, Cond.selects RX2 yX2_takenOf yX2_takenOf, Cond.code yX2_takenOf cX2_takenOf 3 (some .int), Cond.methodLink RX2 49 Lib.MathLoose.min_long.x, Cond.static Lib.MathLoose.min_long.x, Cond.initialized "java/lang/Math", Cond.code Lib.MathLoose.min_long.x Lib.MathLoose.min_long.code 4 (some .long), Cond.methodLink RX3 243 yX3_creditTaken, Cond.instanceMethod yX3_creditTaken, Cond.selects RX3 yX3_creditTaken yX3_creditTaken, Cond.code yX3_creditTaken cX3_creditTaken 4 none, Cond.methodLink RX3 221 yX2_takeBack, Cond.instanceMethod yX2_takeBack, Cond.selects RX2 yX2_takeBack yX2_takeBack, Cond.code yX2_takeBack cX2_takeBack 3 none, Cond.methodLink RL 126 yX4_cost, Cond.instanceMethod yX4_cost, Cond.selects RX4 yX4_cost yX4_cost, Cond.code yX4_cost cX4_cost 3 (some .int), Cond.fieldLink RX4 83 "JointVentureModel" "vouchers" "I", Cond.methodLink RX4 134 yX4_isAmount]
def wsL_law0_r13 : List Cond := [Cond.static yX4_isAmount, Cond.code yX4_isAmount cX4_isAmount 1 (some .boolean), Cond.constant RX4 89 (10000000), Cond.methodLink RX4 137 yX4_enters, Cond.instanceMethod yX4_enters, Cond.selects RX4 yX4_enters yX4_enters, Cond.code yX4_enters cX4_enters 4 (some .int), Cond.methodLink RL 127 yL_overhead, Cond.static yL_overhead, Cond.codeWith yL_overhead cL_overhead 5 (some .int) [(0, 10, 13, 32), (0, 10, 17, 13), (0, 10, 21, 15)], Cond.methodLink RL 38 yX3_overhead, Cond.instanceMethod yX3_overhead, Cond.selects RX3 yX3_overhead yX3_overhead, Cond.code yX3_overhead cX3_overhead 3 (some .int), Cond.methodLink RL 129 yX4_overhead, Cond.instanceMethod yX4_overhead, Cond.selects RX4 yX4_overhead yX4_overhead, Cond.code yX4_overhead cX4_overhead 4 (some .int), Cond.methodLink RL 130 yL_income, Cond.static yL_income, Cond.codeWith yL_income cL_income 5 (some .int) [(0, 10, 13, 32), (0, 10, 17, 13), (0, 10, 21, 15)], Cond.methodLink RL 41 yX3_income, Cond.instanceMethod yX3_income, Cond.selects RX3 yX3_income yX3_income]
def wsL_law0_r14 : List Cond := [Cond.code yX3_income cX3_income 3 (some .int), Cond.methodLink RL 132 yX4_income, Cond.instanceMethod yX4_income, Cond.selects RX4 yX4_income yX4_income, Cond.code yX4_income cX4_income 3 (some .int), Cond.methodLink RL 133 yL_move, Cond.static yL_move, Cond.codeWith yL_move cL_move 5 (some .int) [(0, 10, 13, 32), (0, 10, 17, 15)], Cond.methodLink RL 44 yX3_move, Cond.instanceMethod yX3_move, Cond.selects RX3 yX3_move yX3_move, Cond.code yX3_move cX3_move 4 (some .int), Cond.methodLink RX3 128 yX3_requireVoucher, Cond.instanceMethod yX3_requireVoucher, Cond.selects RX3 yX3_requireVoucher yX3_requireVoucher, Cond.code yX3_requireVoucher cX3_requireVoucher 2 none, Cond.methodLink RX3 133 yX3_accountAnew, Cond.instanceMethod yX3_accountAnew, Cond.selects RX3 yX3_accountAnew yX3_accountAnew, Cond.code yX3_accountAnew cX3_accountAnew 3 none, Cond.methodLink RX3 212 yX2_clearAccounts, Cond.instanceMethod yX2_clearAccounts, Cond.selects RX2 yX2_clearAccounts yX2_clearAccounts, Cond.code yX2_clearAccounts cX2_clearAccounts 2 none]
def wsL_law0_r15 : List Cond := [Cond.methodLink RX2 46 yJ7_fill_d0a16, Cond.static yJ7_fill_d0a16, Cond.code yJ7_fill_d0a16 cJ7_fill_d0a16 5 none, Cond.methodLink RL 135 yX4_move, Cond.instanceMethod yX4_move, Cond.selects RX4 yX4_move yX4_move, Cond.code yX4_move cX4_move 5 (some .int), Cond.methodLink RX4 141 yX4_isVoucher, Cond.instanceMethod yX4_isVoucher, Cond.selects RX4 yX4_isVoucher yX4_isVoucher, Cond.code yX4_isVoucher cX4_isVoucher 2 (some .boolean), Cond.methodLink RL 136 yX3_vouchers, Cond.instanceMethod yX3_vouchers, Cond.selects RX3 yX3_vouchers yX3_vouchers, Cond.code yX3_vouchers cX3_vouchers 1 (some .int), Cond.methodLink RL 139 yX4_vouchers, Cond.instanceMethod yX4_vouchers, Cond.selects RX4 yX4_vouchers yX4_vouchers, Cond.code yX4_vouchers cX4_vouchers 1 (some .int), Cond.methodLink RL 140 yL_wellOf, Cond.static yL_wellOf, Cond.codeWith yL_wellOf cL_wellOf 4 (some .int) [(0, 9, 12, 32)], Cond.methodLink RL 47 yX3_wellOf, Cond.instanceMethod yX3_wellOf]
def wsL_law0_r16 : List Cond := [Cond.selects RX3 yX3_wellOf yX3_wellOf, Cond.code yX3_wellOf cX3_wellOf 2 (some .int), Cond.methodLink RL 142 yX4_wellOf, Cond.instanceMethod yX4_wellOf, Cond.selects RX4 yX4_wellOf yX4_wellOf, Cond.code yX4_wellOf cX4_wellOf 2 (some .int), Cond.methodLink RL 143 yL_amountOf, Cond.static yL_amountOf, Cond.codeWith yL_amountOf cL_amountOf 4 (some .int) [(0, 9, 12, 32)], Cond.methodLink RL 50 yX3_amountOf, Cond.instanceMethod yX3_amountOf, Cond.selects RX3 yX3_amountOf yX3_amountOf, Cond.code yX3_amountOf cX3_amountOf 2 (some .int), Cond.methodLink RL 145 yX4_amountOf, Cond.instanceMethod yX4_amountOf, Cond.selects RX4 yX4_amountOf yX4_amountOf, Cond.code yX4_amountOf cX4_amountOf 2 (some .int), Cond.methodLink RL 146 yL_isIn, Cond.static yL_isIn, Cond.codeWith yL_isIn cL_isIn 5 (some .int) [(0, 17, 20, 32)], Cond.methodLink RL 53 yX3_isIn, Cond.instanceMethod yX3_isIn, Cond.selects RX3 yX3_isIn yX3_isIn, Cond.code yX3_isIn cX3_isIn 3 (some .boolean)]
def wsL_law0_r17 : List Cond := [Cond.methodLink RL 148 yX4_isIn, Cond.instanceMethod yX4_isIn, Cond.selects RX4 yX4_isIn yX4_isIn, Cond.code yX4_isIn cX4_isIn 3 (some .boolean), Cond.methodLink RX4 147 yX4_accounts, Cond.instanceMethod yX4_accounts, Cond.selects RX4 yX4_accounts yX4_accounts, Cond.code yX4_accounts cX4_accounts 4 (some .boolean), Cond.methodLink RX4 144 yX4_works, Cond.instanceMethod yX4_works, Cond.selects RX4 yX4_works yX4_works, Cond.code yX4_works cX4_works 3 none, Cond.methodLink RX4 105 yX4_brings, Cond.instanceMethod yX4_brings, Cond.selects RX4 yX4_brings yX4_brings, Cond.code yX4_brings cX4_brings 8 none, Cond.methodLink RX4 94 yX4_owns, Cond.instanceMethod yX4_owns, Cond.selects RX4 yX4_owns yX4_owns, Cond.code yX4_owns cX4_owns 3 none, Cond.methodLink RX4 90 yX4_divides, Cond.instanceMethod yX4_divides, Cond.selects RX4 yX4_divides yX4_divides, Cond.code yX4_divides cX4_divides 10 none]
def wsL_law0_r18 : List Cond := [Cond.methodLink RX4 102 yX4_dividesAmongIn, Cond.instanceMethod yX4_dividesAmongIn, Cond.selects RX4 yX4_dividesAmongIn yX4_dividesAmongIn, Cond.code yX4_dividesAmongIn cX4_dividesAmongIn 4 none, Cond.methodLink RX4 109 yX4_costs, Cond.instanceMethod yX4_costs, Cond.selects RX4 yX4_costs yX4_costs, Cond.code yX4_costs cX4_costs 7 none, Cond.constantLong RX4 98 (99), Cond.constantLong RX4 100 (100), Cond.methodLink RL 149 yL_toEarn, Cond.static yL_toEarn, Cond.codeWith yL_toEarn cL_toEarn 5 (some .int) [(0, 9, 12, 32)], Cond.methodLink RL 57 yX3_toEarn, Cond.instanceMethod yX3_toEarn, Cond.selects RX3 yX3_toEarn yX3_toEarn, Cond.code yX3_toEarn cX3_toEarn 3 (some .long), Cond.methodLink RL 151 yX4_toEarn, Cond.instanceMethod yX4_toEarn, Cond.selects RX4 yX4_toEarn yX4_toEarn, Cond.code yX4_toEarn cX4_toEarn 3 (some .long), Cond.methodLink RL 152 yL_backAt, Cond.static yL_backAt, Cond.codeWith yL_backAt cL_backAt 5 (some .int) [(0, 10, 13, 32)]]
def wsL_law0_r19 : List Cond := [Cond.methodLink RL 61 yX3_backAt, Cond.instanceMethod yX3_backAt, Cond.selects RX3 yX3_backAt yX3_backAt, Cond.code yX3_backAt cX3_backAt 3 (some .int), Cond.fieldLink RX3 144 "JointVenture$Well" "backAt" "[I", Cond.methodLink RL 154 yX4_backAt, Cond.instanceMethod yX4_backAt, Cond.selects RX4 yX4_backAt yX4_backAt, Cond.code yX4_backAt cX4_backAt 3 (some .int), Cond.methodLink RL 155 yL_charged, Cond.static yL_charged, Cond.codeWith yL_charged cL_charged 5 (some .int) [(0, 10, 13, 32)], Cond.methodLink RL 64 yX3_charged, Cond.instanceMethod yX3_charged, Cond.selects RX3 yX3_charged yX3_charged, Cond.code yX3_charged cX3_charged 3 (some .int), Cond.methodLink RL 157 yX4_charged, Cond.instanceMethod yX4_charged, Cond.selects RX4 yX4_charged yX4_charged, Cond.code yX4_charged cX4_charged 3 (some .int), Cond.methodLink RL 158 yL_credited, Cond.static yL_credited, Cond.codeWith yL_credited cL_credited 5 (some .int) [(0, 10, 13, 32)], Cond.methodLink RL 67 yX3_credited]
def wsL_law0_r20 : List Cond := [Cond.instanceMethod yX3_credited, Cond.selects RX3 yX3_credited yX3_credited, Cond.code yX3_credited cX3_credited 3 (some .int), Cond.methodLink RL 160 yX4_credited, Cond.instanceMethod yX4_credited, Cond.selects RX4 yX4_credited yX4_credited, Cond.code yX4_credited cX4_credited 3 (some .int), Cond.methodLink RL 161 yL_weight, Cond.static yL_weight, Cond.codeWith yL_weight cL_weight 5 (some .int) [(0, 10, 13, 32)], Cond.methodLink RL 70 yX3_weight, Cond.instanceMethod yX3_weight, Cond.selects RX3 yX3_weight yX3_weight, Cond.code yX3_weight cX3_weight 3 (some .int), Cond.methodLink RL 163 yX4_weight, Cond.instanceMethod yX4_weight, Cond.selects RX4 yX4_weight yX4_weight, Cond.code yX4_weight cX4_weight 3 (some .int), Cond.methodLink RX4 150 yX4_weighs, Cond.instanceMethod yX4_weighs, Cond.selects RX4 yX4_weighs yX4_weighs, Cond.code yX4_weighs cX4_weighs 3 none, Cond.methodLink RL 164 yL_call, Cond.static yL_call]
def wsL_law0_r21 : List Cond := [Cond.codeWith yL_call cL_call 5 (some .int) [(0, 10, 13, 32), (0, 10, 17, 13), (0, 10, 21, 15)], Cond.methodLink RL 73 yX3_call, Cond.instanceMethod yX3_call, Cond.selects RX3 yX3_call yX3_call, Cond.code yX3_call cX3_call 3 (some .int), Cond.fieldLink RX3 159 "JointVenture$CashCall" "asked" "[I", Cond.methodLink RL 166 yX4_call, Cond.instanceMethod yX4_call, Cond.selects RX4 yX4_call yX4_call, Cond.code yX4_call cX4_call 4 (some .int), Cond.fieldLink RX4 86 "JointVentureModel" "calls" "I", Cond.methodLink RL 167 yL_pay, Cond.static yL_pay, Cond.codeWith yL_pay cL_pay 5 (some .int) [(0, 10, 13, 32), (0, 10, 17, 15)], Cond.methodLink RL 76 yX3_pay, Cond.instanceMethod yX3_pay, Cond.selects RX3 yX3_pay yX3_pay, Cond.code yX3_pay cX3_pay 5 (some .int), Cond.fieldLink RX3 169 "JointVenture$CashCall" "paid" "[I", Cond.methodLink RX3 166 yX3_requireCashCall, Cond.instanceMethod yX3_requireCashCall, Cond.selects RX3 yX3_requireCashCall yX3_requireCashCall, Cond.code yX3_requireCashCall cX3_requireCashCall 2 none, Cond.methodLink RL 169 yX4_pay]
def wsL_law0_r22 : List Cond := [Cond.instanceMethod yX4_pay, Cond.selects RX4 yX4_pay yX4_pay, Cond.code yX4_pay cX4_pay 5 (some .int), Cond.methodLink RX4 153 yX4_isCall, Cond.instanceMethod yX4_isCall, Cond.selects RX4 yX4_isCall yX4_isCall, Cond.code yX4_isCall cX4_isCall 2 (some .boolean), Cond.methodLink RL 170 yL_shareOut, Cond.static yL_shareOut, Cond.codeWith yL_shareOut cL_shareOut 4 (some .int) [(0, 9, 12, 32), (0, 9, 15, 15)], Cond.methodLink RL 79 yX3_shareOut, Cond.instanceMethod yX3_shareOut, Cond.selects RX3 yX3_shareOut yX3_shareOut, Cond.code yX3_shareOut cX3_shareOut 4 (some .int), Cond.methodLink RX3 174 yX0_hasPayer, Cond.instanceMethod yX0_hasPayer, Cond.selects RX0 yX0_hasPayer yX0_hasPayer, Cond.code yX0_hasPayer cX0_hasPayer 2 (some .boolean), Cond.methodLink RX3 180 yX0_askedOfNonPayers, Cond.instanceMethod yX0_askedOfNonPayers, Cond.selects RX0 yX0_askedOfNonPayers yX0_askedOfNonPayers, Cond.code yX0_askedOfNonPayers cX0_askedOfNonPayers 3 (some .int), Cond.methodLink RX3 186 yX3_moveToPayers, Cond.instanceMethod yX3_moveToPayers]
def wsL_law0_r23 : List Cond := [Cond.selects RX3 yX3_moveToPayers yX3_moveToPayers, Cond.code yX3_moveToPayers cX3_moveToPayers 4 none, Cond.methodLink RL 172 yX4_shareOut, Cond.instanceMethod yX4_shareOut, Cond.selects RX4 yX4_shareOut yX4_shareOut, Cond.code yX4_shareOut cX4_shareOut 7 (some .int), Cond.methodLink RL 173 yL_asked, Cond.static yL_asked, Cond.codeWith yL_asked cL_asked 5 (some .int) [(0, 10, 13, 32)], Cond.methodLink RL 82 yX3_asked, Cond.instanceMethod yX3_asked, Cond.selects RX3 yX3_asked yX3_asked, Cond.code yX3_asked cX3_asked 3 (some .int), Cond.methodLink RL 175 yX4_asked, Cond.instanceMethod yX4_asked, Cond.selects RX4 yX4_asked yX4_asked, Cond.code yX4_asked cX4_asked 3 (some .int), Cond.methodLink RL 176 yL_paid, Cond.static yL_paid, Cond.codeWith yL_paid cL_paid 4 (some .int) [(0, 9, 12, 32)], Cond.methodLink RL 85 yX3_paid, Cond.instanceMethod yX3_paid, Cond.selects RX3 yX3_paid yX3_paid, Cond.code yX3_paid cX3_paid 2 (some .int)]
def wsL_law0_r24 : List Cond := [Cond.methodLink RX3 190 yX3_paidOfAllCalls, Cond.instanceMethod yX3_paidOfAllCalls, Cond.selects RX3 yX3_paidOfAllCalls yX3_paidOfAllCalls, Cond.code yX3_paidOfAllCalls cX3_paidOfAllCalls 4 (some .int), Cond.methodLink RL 178 yX4_paid, Cond.instanceMethod yX4_paid, Cond.selects RX4 yX4_paid yX4_paid, Cond.code yX4_paid cX4_paid 2 (some .int), Cond.methodLink RX4 156 yX4_allPaid, Cond.instanceMethod yX4_allPaid, Cond.selects RX4 yX4_allPaid yX4_allPaid, Cond.code yX4_allPaid cX4_allPaid 4 (some .int), Cond.methodLink RL 179 yL_owes, Cond.static yL_owes, Cond.codeWith yL_owes cL_owes 4 (some .int) [(0, 9, 12, 32)], Cond.methodLink RL 88 yX3_owes, Cond.instanceMethod yX3_owes, Cond.selects RX3 yX3_owes yX3_owes, Cond.code yX3_owes cX3_owes 2 (some .int), Cond.methodLink RL 181 yX4_owes, Cond.instanceMethod yX4_owes, Cond.selects RX4 yX4_owes yX4_owes, Cond.code yX4_owes cX4_owes 2 (some .int), Cond.methodLink RL 182 yL_balance]
def wsL_law0_r25 : List Cond := [Cond.static yL_balance, Cond.codeWith yL_balance cL_balance 4 (some .int) [(0, 8, 11, 32)], Cond.methodLink RL 91 yX3_balance, Cond.instanceMethod yX3_balance, Cond.selects RX3 yX3_balance yX3_balance, Cond.code yX3_balance cX3_balance 5 (some .long), Cond.methodLink RL 184 yX4_balance, Cond.instanceMethod yX4_balance, Cond.selects RX4 yX4_balance yX4_balance, Cond.code yX4_balance cX4_balance 5 (some .long)]
def wsL_law0 : List Cond := (wsL_law0_r1 ++ (wsL_law0_r2 ++ (wsL_law0_r3 ++ (wsL_law0_r4 ++ (wsL_law0_r5 ++ (wsL_law0_r6 ++ (wsL_law0_r7 ++ (wsL_law0_r8 ++ (wsL_law0_r9 ++ (wsL_law0_r10 ++ (wsL_law0_r11 ++ (wsL_law0_r12 ++ (wsL_law0_r13 ++ (wsL_law0_r14 ++ (wsL_law0_r15 ++ (wsL_law0_r16 ++ (wsL_law0_r17 ++ (wsL_law0_r18 ++ (wsL_law0_r19 ++ (wsL_law0_r20 ++ (wsL_law0_r21 ++ (wsL_law0_r22 ++ (wsL_law0_r23 ++ (wsL_law0_r24 ++ wsL_law0_r25)))))))))))))))))))))))) ++ wsX30 ++ wsX40 ++ wsX10 ++ wsX20 ++ wsX00 ++ ([] : List Cond)
def wsL_law : List Cond := wsL_law0 ++ (vx_atS RX3 76 "java/lang/IllegalArgumentException" ["java/lang/RuntimeException", "java/lang/Exception"]).filter goodWord ++ (vx_atS RX3 83 "java/lang/IllegalStateException" ["java/lang/RuntimeException", "java/lang/Exception"]).filter goodWord ++ (vx_atS RX3 200 "java/lang/IndexOutOfBoundsException" ["java/lang/RuntimeException", "java/lang/Exception"]).filter goodWord
set_option maxRecDepth 20000 in
theorem wsL_law_in0 : ∀ w ∈ wsL_law0, w ∈ lw_tbl := fun w h => (goodIn_p wsL_law0 [55, 58, 67, 78, 82, 120, 591, 189, 193, 676, 679, 682, 686, 672, 285, 690, 292, 694, 300, 699, 309, 313, 333, 340, 344, 703, 707, 710, 714, 352, 357, 362, 366, 370, 374, 378, 383, 388, 392, 396, 402, 406, 409, 413, 417, 718, 721, 726, 424, 730, 432, 734, 439, 443, 449, 453, 456, 738, 742, 180, 746, 463, 750, 470, 754, 477, 758, 762, 766, 770, 774, 778, 782, 786, 484, 792, 491, 796, 498, 800, 505, 804, 512, 808, 812, 519, 816, 527, 531, 820, 824, 540, 544, 549, 554, 828, 561, 832, 568, 572, 836, 840, 579, 844, 586, 848] (by decide +kernel) (by decide +kernel) w h).1
theorem wsL_law_x0 : ∀ w ∈ (vx_atS RX3 76 "java/lang/IllegalArgumentException" ["java/lang/RuntimeException", "java/lang/Exception"]).filter goodWord, w ∈ lw_tbl := by decide +kernel
theorem wsL_law_x1 : ∀ w ∈ (vx_atS RX3 83 "java/lang/IllegalStateException" ["java/lang/RuntimeException", "java/lang/Exception"]).filter goodWord, w ∈ lw_tbl := by decide +kernel
theorem wsL_law_x2 : ∀ w ∈ (vx_atS RX3 200 "java/lang/IndexOutOfBoundsException" ["java/lang/RuntimeException", "java/lang/Exception"]).filter goodWord, w ∈ lw_tbl := by decide +kernel
theorem wsL_law_in : ∀ w ∈ wsL_law, w ∈ lw_tbl := fun w h => (List.mem_append.mp h).elim (fun h => (List.mem_append.mp h).elim (fun h => (List.mem_append.mp h).elim (fun h => wsL_law_in0 w h) (fun h => wsL_law_x0 w h)) (fun h => wsL_law_x1 w h)) (fun h => wsL_law_x2 w h)
theorem inlX0 : ∀ w ∈ wsX00, w ∈ wsL_law := fun _ h => List.mem_append_left _ (List.mem_append_left _ (List.mem_append_left _ (List.mem_append_left _ (List.mem_append_right _ h))))
theorem inX0 : ∀ w ∈ wsX00, w ∈ lw_tbl := fun w h => wsL_law_in w (inlX0 w h)
theorem inlX1 : ∀ w ∈ wsX10, w ∈ wsL_law := fun _ h => List.mem_append_left _ (List.mem_append_left _ (List.mem_append_left _ (List.mem_append_left _ (List.mem_append_left _ (List.mem_append_left _ (List.mem_append_right _ h))))))
theorem inX1 : ∀ w ∈ wsX10, w ∈ lw_tbl := fun w h => wsL_law_in w (inlX1 w h)
theorem inlX2 : ∀ w ∈ wsX20, w ∈ wsL_law := fun _ h => List.mem_append_left _ (List.mem_append_left _ (List.mem_append_left _ (List.mem_append_left _ (List.mem_append_left _ (List.mem_append_right _ h)))))
theorem inX2 : ∀ w ∈ wsX20, w ∈ lw_tbl := fun w h => wsL_law_in w (inlX2 w h)
theorem inlX3 : ∀ w ∈ wsX30, w ∈ wsL_law := fun _ h => List.mem_append_left _ (List.mem_append_left _ (List.mem_append_left _ (List.mem_append_left _ (List.mem_append_left _ (List.mem_append_left _ (List.mem_append_left _ (List.mem_append_left _ (List.mem_append_right _ h))))))))
theorem inX3 : ∀ w ∈ wsX30, w ∈ lw_tbl := fun w h => wsL_law_in w (inlX3 w h)
theorem inlX4 : ∀ w ∈ wsX40, w ∈ wsL_law := fun _ h => List.mem_append_left _ (List.mem_append_left _ (List.mem_append_left _ (List.mem_append_left _ (List.mem_append_left _ (List.mem_append_left _ (List.mem_append_left _ (List.mem_append_right _ h)))))))
theorem inX4 : ∀ w ∈ wsX40, w ∈ lw_tbl := fun w h => wsL_law_in w (inlX4 w h)
theorem inJx145de : ∀ w ∈ wsJx145de0, w ∈ lw_tbl := by decide +kernel
theorem inJ9 : ∀ w ∈ wsJ90, w ∈ lw_tbl := by decide +kernel
theorem inJ0 : ∀ w ∈ wsJ00, w ∈ lw_tbl := by decide +kernel
theorem inJ7 : ∀ w ∈ wsJ70, w ∈ lw_tbl := by decide +kernel
theorem dX0_init_0 : decode cX0_init 0 = .ok (.aload_n 0, 1) := by decide +kernel
theorem dX0_init_1 : decode cX0_init 1 = .ok (.invokespecial 3, 3) := by decide +kernel
theorem dX0_init_4 : decode cX0_init 4 = .ok (.aload_n 0, 1) := by decide +kernel
theorem dX0_init_5 : decode cX0_init 5 = .ok (.iconst 5, 1) := by decide +kernel
theorem dX0_init_6 : decode cX0_init 6 = .ok (.newarray .int, 2) := by decide +kernel
theorem dX0_init_8 : decode cX0_init 8 = .ok (.putfield 9, 3) := by decide +kernel
theorem dX0_init_11 : decode cX0_init 11 = .ok (.aload_n 0, 1) := by decide +kernel
theorem dX0_init_12 : decode cX0_init 12 = .ok (.iconst 5, 1) := by decide +kernel
theorem dX0_init_13 : decode cX0_init 13 = .ok (.newarray .int, 2) := by decide +kernel
theorem dX0_init_15 : decode cX0_init 15 = .ok (.putfield 15, 3) := by decide +kernel
theorem dX0_init_18 : decode cX0_init 18 = .ok (.return_, 1) := by decide +kernel
theorem dX0_hasPayer_0 : decode cX0_hasPayer 0 = .ok (.iconst 0, 1) := by decide +kernel
theorem dX0_hasPayer_1 : decode cX0_hasPayer 1 = .ok (.istore_n 1, 1) := by decide +kernel
theorem dX0_hasPayer_2 : decode cX0_hasPayer 2 = .ok (.iload_n 1, 1) := by decide +kernel
theorem dX0_hasPayer_3 : decode cX0_hasPayer 3 = .ok (.iconst 5, 1) := by decide +kernel
theorem dX0_hasPayer_4 : decode cX0_hasPayer 4 = .ok (.if_icmp .ge 20, 3) := by decide +kernel
theorem dX0_hasPayer_7 : decode cX0_hasPayer 7 = .ok (.aload_n 0, 1) := by decide +kernel
theorem dX0_hasPayer_8 : decode cX0_hasPayer 8 = .ok (.getfield 15, 3) := by decide +kernel
theorem dX0_hasPayer_11 : decode cX0_hasPayer 11 = .ok (.iload_n 1, 1) := by decide +kernel
theorem dX0_hasPayer_12 : decode cX0_hasPayer 12 = .ok (.iaload, 1) := by decide +kernel
theorem dX0_hasPayer_13 : decode cX0_hasPayer 13 = .ok (.ifCond .le 5, 3) := by decide +kernel
theorem dX0_hasPayer_16 : decode cX0_hasPayer 16 = .ok (.iconst 1, 1) := by decide +kernel
theorem dX0_hasPayer_17 : decode cX0_hasPayer 17 = .ok (.ireturn, 1) := by decide +kernel
theorem dX0_hasPayer_18 : decode cX0_hasPayer 18 = .ok (.iinc 1 1, 3) := by decide +kernel
theorem dX0_hasPayer_21 : decode cX0_hasPayer 21 = .ok (.goto (-19), 3) := by decide +kernel
theorem dX0_hasPayer_24 : decode cX0_hasPayer 24 = .ok (.iconst 0, 1) := by decide +kernel
theorem dX0_hasPayer_25 : decode cX0_hasPayer 25 = .ok (.ireturn, 1) := by decide +kernel
theorem dX0_askedOfNonPayers_0 : decode cX0_askedOfNonPayers 0 = .ok (.iconst 0, 1) := by decide +kernel
theorem dX0_askedOfNonPayers_1 : decode cX0_askedOfNonPayers 1 = .ok (.istore_n 1, 1) := by decide +kernel
theorem dX0_askedOfNonPayers_2 : decode cX0_askedOfNonPayers 2 = .ok (.iconst 0, 1) := by decide +kernel
theorem dX0_askedOfNonPayers_3 : decode cX0_askedOfNonPayers 3 = .ok (.istore_n 2, 1) := by decide +kernel
theorem dX0_askedOfNonPayers_4 : decode cX0_askedOfNonPayers 4 = .ok (.iload_n 2, 1) := by decide +kernel
theorem dX0_askedOfNonPayers_5 : decode cX0_askedOfNonPayers 5 = .ok (.iconst 5, 1) := by decide +kernel
theorem dX0_askedOfNonPayers_6 : decode cX0_askedOfNonPayers 6 = .ok (.if_icmp .ge 27, 3) := by decide +kernel
theorem dX0_askedOfNonPayers_9 : decode cX0_askedOfNonPayers 9 = .ok (.aload_n 0, 1) := by decide +kernel
theorem dX0_askedOfNonPayers_10 : decode cX0_askedOfNonPayers 10 = .ok (.getfield 15, 3) := by decide +kernel
theorem dX0_askedOfNonPayers_13 : decode cX0_askedOfNonPayers 13 = .ok (.iload_n 2, 1) := by decide +kernel
theorem dX0_askedOfNonPayers_14 : decode cX0_askedOfNonPayers 14 = .ok (.iaload, 1) := by decide +kernel
theorem dX0_askedOfNonPayers_15 : decode cX0_askedOfNonPayers 15 = .ok (.ifCond .ne 12, 3) := by decide +kernel
theorem dX0_askedOfNonPayers_18 : decode cX0_askedOfNonPayers 18 = .ok (.iload_n 1, 1) := by decide +kernel
theorem dX0_askedOfNonPayers_19 : decode cX0_askedOfNonPayers 19 = .ok (.aload_n 0, 1) := by decide +kernel
theorem dX0_askedOfNonPayers_20 : decode cX0_askedOfNonPayers 20 = .ok (.getfield 9, 3) := by decide +kernel
theorem dX0_askedOfNonPayers_23 : decode cX0_askedOfNonPayers 23 = .ok (.iload_n 2, 1) := by decide +kernel
theorem dX0_askedOfNonPayers_24 : decode cX0_askedOfNonPayers 24 = .ok (.iaload, 1) := by decide +kernel
theorem dX0_askedOfNonPayers_25 : decode cX0_askedOfNonPayers 25 = .ok (.iadd, 1) := by decide +kernel
theorem dX0_askedOfNonPayers_26 : decode cX0_askedOfNonPayers 26 = .ok (.istore_n 1, 1) := by decide +kernel
theorem dX0_askedOfNonPayers_27 : decode cX0_askedOfNonPayers 27 = .ok (.iinc 2 1, 3) := by decide +kernel
theorem dX0_askedOfNonPayers_30 : decode cX0_askedOfNonPayers 30 = .ok (.goto (-26), 3) := by decide +kernel
theorem dX0_askedOfNonPayers_33 : decode cX0_askedOfNonPayers 33 = .ok (.iload_n 1, 1) := by decide +kernel
theorem dX0_askedOfNonPayers_34 : decode cX0_askedOfNonPayers 34 = .ok (.ireturn, 1) := by decide +kernel
theorem dX1_init_0 : decode cX1_init 0 = .ok (.aload_n 0, 1) := by decide +kernel
theorem dX1_init_1 : decode cX1_init 1 = .ok (.invokespecial 3, 3) := by decide +kernel
theorem dX1_init_4 : decode cX1_init 4 = .ok (.aload_n 0, 1) := by decide +kernel
theorem dX1_init_5 : decode cX1_init 5 = .ok (.iconst 5, 1) := by decide +kernel
theorem dX1_init_6 : decode cX1_init 6 = .ok (.newarray .long, 2) := by decide +kernel
theorem dX1_init_8 : decode cX1_init 8 = .ok (.putfield 9, 3) := by decide +kernel
theorem dX1_init_11 : decode cX1_init 11 = .ok (.return_, 1) := by decide +kernel
set_option maxRecDepth 20000 in
theorem ggX1_divide_J7_fill_53178 : GoodIn wsX1_divide wsJ7_fill_53178 := goodIn_r _ [6] (by decide +kernel) (by decide +kernel)
set_option maxRecDepth 20000 in
theorem gX1_divide_J7_fill_53178 : GoodIn wsX1_divide (va_wsS RX1 15 yJ7_fill_53178 wsJ7_fill_53178) := goodIn_app (goodIn_of _ (by decide +kernel)) ggX1_divide_J7_fill_53178
set_option maxRecDepth 20000 in
theorem ggX1_divide_X1_firstWithGreatestRemainder : GoodIn wsX1_divide wsX1_firstWithGreatestRemainder := goodIn_r _ [11, 1, 12] (by decide +kernel) (by decide +kernel)
set_option maxRecDepth 20000 in
theorem gX1_divide_X1_firstWithGreatestRemainder : GoodIn wsX1_divide (wsV RX1 21 RX1 yX1_firstWithGreatestRemainder wsX1_firstWithGreatestRemainder) := goodIn_app (goodIn_of _ (by decide +kernel)) ggX1_divide_X1_firstWithGreatestRemainder
theorem dX1_divide_0 : decode cX1_divide 0 = .ok (.lconst 0, 1) := by decide +kernel
theorem dX1_divide_1 : decode cX1_divide 1 = .ok (.lstore 4, 2) := by decide +kernel
theorem dX1_divide_3 : decode cX1_divide 3 = .ok (.iconst 0, 1) := by decide +kernel
theorem dX1_divide_4 : decode cX1_divide 4 = .ok (.istore 6, 2) := by decide +kernel
theorem dX1_divide_6 : decode cX1_divide 6 = .ok (.iload 6, 2) := by decide +kernel
theorem dX1_divide_8 : decode cX1_divide 8 = .ok (.iconst 5, 1) := by decide +kernel
theorem dX1_divide_9 : decode cX1_divide 9 = .ok (.if_icmp .ge 19, 3) := by decide +kernel
theorem dX1_divide_12 : decode cX1_divide 12 = .ok (.lload 4, 2) := by decide +kernel
theorem dX1_divide_14 : decode cX1_divide 14 = .ok (.aload_n 2, 1) := by decide +kernel
theorem dX1_divide_15 : decode cX1_divide 15 = .ok (.iload 6, 2) := by decide +kernel
theorem dX1_divide_17 : decode cX1_divide 17 = .ok (.iaload, 1) := by decide +kernel
theorem dX1_divide_18 : decode cX1_divide 18 = .ok (.i2l, 1) := by decide +kernel
theorem dX1_divide_19 : decode cX1_divide 19 = .ok (.ladd, 1) := by decide +kernel
theorem dX1_divide_20 : decode cX1_divide 20 = .ok (.lstore 4, 2) := by decide +kernel
theorem dX1_divide_22 : decode cX1_divide 22 = .ok (.iinc 6 1, 3) := by decide +kernel
theorem dX1_divide_25 : decode cX1_divide 25 = .ok (.goto (-19), 3) := by decide +kernel
theorem dX1_divide_28 : decode cX1_divide 28 = .ok (.lload 4, 2) := by decide +kernel
theorem dX1_divide_30 : decode cX1_divide 30 = .ok (.lconst 0, 1) := by decide +kernel
theorem dX1_divide_31 : decode cX1_divide 31 = .ok (.lcmp, 1) := by decide +kernel
theorem dX1_divide_32 : decode cX1_divide 32 = .ok (.ifCond .gt 9, 3) := by decide +kernel
theorem dX1_divide_35 : decode cX1_divide 35 = .ok (.aload_n 3, 1) := by decide +kernel
theorem dX1_divide_36 : decode cX1_divide 36 = .ok (.iconst 0, 1) := by decide +kernel
theorem dX1_divide_37 : decode cX1_divide 37 = .ok (.invokestatic 15, 3) := by decide +kernel
theorem dX1_divide_40 : decode cX1_divide 40 = .ok (.return_, 1) := by decide +kernel
theorem dX1_divide_41 : decode cX1_divide 41 = .ok (.iload_n 1, 1) := by decide +kernel
theorem dX1_divide_42 : decode cX1_divide 42 = .ok (.istore 6, 2) := by decide +kernel
theorem dX1_divide_44 : decode cX1_divide 44 = .ok (.iconst 0, 1) := by decide +kernel
theorem dX1_divide_45 : decode cX1_divide 45 = .ok (.istore 7, 2) := by decide +kernel
theorem dX1_divide_47 : decode cX1_divide 47 = .ok (.iload 7, 2) := by decide +kernel
theorem dX1_divide_49 : decode cX1_divide 49 = .ok (.iconst 5, 1) := by decide +kernel
theorem dX1_divide_50 : decode cX1_divide 50 = .ok (.if_icmp .ge 50, 3) := by decide +kernel
theorem dX1_divide_53 : decode cX1_divide 53 = .ok (.iload_n 1, 1) := by decide +kernel
theorem dX1_divide_54 : decode cX1_divide 54 = .ok (.i2l, 1) := by decide +kernel
theorem dX1_divide_55 : decode cX1_divide 55 = .ok (.aload_n 2, 1) := by decide +kernel
theorem dX1_divide_56 : decode cX1_divide 56 = .ok (.iload 7, 2) := by decide +kernel
theorem dX1_divide_58 : decode cX1_divide 58 = .ok (.iaload, 1) := by decide +kernel
theorem dX1_divide_59 : decode cX1_divide 59 = .ok (.i2l, 1) := by decide +kernel
theorem dX1_divide_60 : decode cX1_divide 60 = .ok (.lmul, 1) := by decide +kernel
theorem dX1_divide_61 : decode cX1_divide 61 = .ok (.lstore 8, 2) := by decide +kernel
theorem dX1_divide_63 : decode cX1_divide 63 = .ok (.aload_n 3, 1) := by decide +kernel
theorem dX1_divide_64 : decode cX1_divide 64 = .ok (.iload 7, 2) := by decide +kernel
theorem dX1_divide_66 : decode cX1_divide 66 = .ok (.lload 8, 2) := by decide +kernel
theorem dX1_divide_68 : decode cX1_divide 68 = .ok (.lload 4, 2) := by decide +kernel
theorem dX1_divide_70 : decode cX1_divide 70 = .ok (.ldiv, 1) := by decide +kernel
theorem dX1_divide_71 : decode cX1_divide 71 = .ok (.l2i, 1) := by decide +kernel
theorem dX1_divide_72 : decode cX1_divide 72 = .ok (.iastore, 1) := by decide +kernel
theorem dX1_divide_73 : decode cX1_divide 73 = .ok (.aload_n 0, 1) := by decide +kernel
theorem dX1_divide_74 : decode cX1_divide 74 = .ok (.getfield 9, 3) := by decide +kernel
theorem dX1_divide_77 : decode cX1_divide 77 = .ok (.iload 7, 2) := by decide +kernel
theorem dX1_divide_79 : decode cX1_divide 79 = .ok (.lload 8, 2) := by decide +kernel
theorem dX1_divide_81 : decode cX1_divide 81 = .ok (.lload 4, 2) := by decide +kernel
theorem dX1_divide_83 : decode cX1_divide 83 = .ok (.lrem, 1) := by decide +kernel
theorem dX1_divide_84 : decode cX1_divide 84 = .ok (.lastore, 1) := by decide +kernel
theorem dX1_divide_85 : decode cX1_divide 85 = .ok (.iload 6, 2) := by decide +kernel
theorem dX1_divide_87 : decode cX1_divide 87 = .ok (.aload_n 3, 1) := by decide +kernel
theorem dX1_divide_88 : decode cX1_divide 88 = .ok (.iload 7, 2) := by decide +kernel
theorem dX1_divide_90 : decode cX1_divide 90 = .ok (.iaload, 1) := by decide +kernel
theorem dX1_divide_91 : decode cX1_divide 91 = .ok (.isub, 1) := by decide +kernel
theorem dX1_divide_92 : decode cX1_divide 92 = .ok (.istore 6, 2) := by decide +kernel
theorem dX1_divide_94 : decode cX1_divide 94 = .ok (.iinc 7 1, 3) := by decide +kernel
theorem dX1_divide_97 : decode cX1_divide 97 = .ok (.goto (-50), 3) := by decide +kernel
theorem dX1_divide_100 : decode cX1_divide 100 = .ok (.iconst 0, 1) := by decide +kernel
theorem dX1_divide_101 : decode cX1_divide 101 = .ok (.istore 7, 2) := by decide +kernel
theorem dX1_divide_103 : decode cX1_divide 103 = .ok (.iload 7, 2) := by decide +kernel
theorem dX1_divide_105 : decode cX1_divide 105 = .ok (.iload 6, 2) := by decide +kernel
theorem dX1_divide_107 : decode cX1_divide 107 = .ok (.if_icmp .ge 39, 3) := by decide +kernel
theorem dX1_divide_110 : decode cX1_divide 110 = .ok (.iload 7, 2) := by decide +kernel
theorem dX1_divide_112 : decode cX1_divide 112 = .ok (.iconst 5, 1) := by decide +kernel
theorem dX1_divide_113 : decode cX1_divide 113 = .ok (.if_icmp .ge 33, 3) := by decide +kernel
theorem dX1_divide_116 : decode cX1_divide 116 = .ok (.aload_n 0, 1) := by decide +kernel
theorem dX1_divide_117 : decode cX1_divide 117 = .ok (.invokevirtual 21, 3) := by decide +kernel
theorem dX1_divide_120 : decode cX1_divide 120 = .ok (.istore 8, 2) := by decide +kernel
theorem dX1_divide_122 : decode cX1_divide 122 = .ok (.aload_n 3, 1) := by decide +kernel
theorem dX1_divide_123 : decode cX1_divide 123 = .ok (.iload 8, 2) := by decide +kernel
theorem dX1_divide_125 : decode cX1_divide 125 = .ok (.dup2, 1) := by decide +kernel
theorem dX1_divide_126 : decode cX1_divide 126 = .ok (.iaload, 1) := by decide +kernel
theorem dX1_divide_127 : decode cX1_divide 127 = .ok (.iconst 1, 1) := by decide +kernel
theorem dX1_divide_128 : decode cX1_divide 128 = .ok (.iadd, 1) := by decide +kernel
theorem dX1_divide_129 : decode cX1_divide 129 = .ok (.iastore, 1) := by decide +kernel
theorem dX1_divide_130 : decode cX1_divide 130 = .ok (.aload_n 0, 1) := by decide +kernel
theorem dX1_divide_131 : decode cX1_divide 131 = .ok (.getfield 9, 3) := by decide +kernel
theorem dX1_divide_134 : decode cX1_divide 134 = .ok (.iload 8, 2) := by decide +kernel
theorem dX1_divide_136 : decode cX1_divide 136 = .ok (.ldc2_w 25, 3) := by decide +kernel
theorem dX1_divide_139 : decode cX1_divide 139 = .ok (.lastore, 1) := by decide +kernel
theorem dX1_divide_140 : decode cX1_divide 140 = .ok (.iinc 7 1, 3) := by decide +kernel
theorem dX1_divide_143 : decode cX1_divide 143 = .ok (.goto (-40), 3) := by decide +kernel
theorem dX1_divide_146 : decode cX1_divide 146 = .ok (.return_, 1) := by decide +kernel
theorem dX1_firstWithGreatestRemainder_0 : decode cX1_firstWithGreatestRemainder 0 = .ok (.iconst 0, 1) := by decide +kernel
theorem dX1_firstWithGreatestRemainder_1 : decode cX1_firstWithGreatestRemainder 1 = .ok (.istore_n 1, 1) := by decide +kernel
theorem dX1_firstWithGreatestRemainder_2 : decode cX1_firstWithGreatestRemainder 2 = .ok (.iconst 1, 1) := by decide +kernel
theorem dX1_firstWithGreatestRemainder_3 : decode cX1_firstWithGreatestRemainder 3 = .ok (.istore_n 2, 1) := by decide +kernel
theorem dX1_firstWithGreatestRemainder_4 : decode cX1_firstWithGreatestRemainder 4 = .ok (.iload_n 2, 1) := by decide +kernel
theorem dX1_firstWithGreatestRemainder_5 : decode cX1_firstWithGreatestRemainder 5 = .ok (.iconst 5, 1) := by decide +kernel
theorem dX1_firstWithGreatestRemainder_6 : decode cX1_firstWithGreatestRemainder 6 = .ok (.if_icmp .ge 27, 3) := by decide +kernel
theorem dX1_firstWithGreatestRemainder_9 : decode cX1_firstWithGreatestRemainder 9 = .ok (.aload_n 0, 1) := by decide +kernel
theorem dX1_firstWithGreatestRemainder_10 : decode cX1_firstWithGreatestRemainder 10 = .ok (.getfield 9, 3) := by decide +kernel
theorem dX1_firstWithGreatestRemainder_13 : decode cX1_firstWithGreatestRemainder 13 = .ok (.iload_n 2, 1) := by decide +kernel
theorem dX1_firstWithGreatestRemainder_14 : decode cX1_firstWithGreatestRemainder 14 = .ok (.laload, 1) := by decide +kernel
theorem dX1_firstWithGreatestRemainder_15 : decode cX1_firstWithGreatestRemainder 15 = .ok (.aload_n 0, 1) := by decide +kernel
theorem dX1_firstWithGreatestRemainder_16 : decode cX1_firstWithGreatestRemainder 16 = .ok (.getfield 9, 3) := by decide +kernel
theorem dX1_firstWithGreatestRemainder_19 : decode cX1_firstWithGreatestRemainder 19 = .ok (.iload_n 1, 1) := by decide +kernel
theorem dX1_firstWithGreatestRemainder_20 : decode cX1_firstWithGreatestRemainder 20 = .ok (.laload, 1) := by decide +kernel
theorem dX1_firstWithGreatestRemainder_21 : decode cX1_firstWithGreatestRemainder 21 = .ok (.lcmp, 1) := by decide +kernel
theorem dX1_firstWithGreatestRemainder_22 : decode cX1_firstWithGreatestRemainder 22 = .ok (.ifCond .le 5, 3) := by decide +kernel
theorem dX1_firstWithGreatestRemainder_25 : decode cX1_firstWithGreatestRemainder 25 = .ok (.iload_n 2, 1) := by decide +kernel
theorem dX1_firstWithGreatestRemainder_26 : decode cX1_firstWithGreatestRemainder 26 = .ok (.istore_n 1, 1) := by decide +kernel
theorem dX1_firstWithGreatestRemainder_27 : decode cX1_firstWithGreatestRemainder 27 = .ok (.iinc 2 1, 3) := by decide +kernel
theorem dX1_firstWithGreatestRemainder_30 : decode cX1_firstWithGreatestRemainder 30 = .ok (.goto (-26), 3) := by decide +kernel
theorem dX1_firstWithGreatestRemainder_33 : decode cX1_firstWithGreatestRemainder 33 = .ok (.iload_n 1, 1) := by decide +kernel
theorem dX1_firstWithGreatestRemainder_34 : decode cX1_firstWithGreatestRemainder 34 = .ok (.ireturn, 1) := by decide +kernel
set_option maxRecDepth 20000 in
theorem ggX2_init_J7_fill_53178 : GoodIn wsX2_init wsJ7_fill_53178 := goodIn_r _ [18] (by decide +kernel) (by decide +kernel)
set_option maxRecDepth 20000 in
theorem gX2_init_J7_fill_53178 : GoodIn wsX2_init (va_wsS RX2 40 yJ7_fill_53178 wsJ7_fill_53178) := goodIn_app (goodIn_of _ (by decide +kernel)) ggX2_init_J7_fill_53178
theorem dX2_init_0 : decode cX2_init 0 = .ok (.aload_n 0, 1) := by decide +kernel
theorem dX2_init_1 : decode cX2_init 1 = .ok (.invokespecial 3, 3) := by decide +kernel
theorem dX2_init_4 : decode cX2_init 4 = .ok (.aload_n 0, 1) := by decide +kernel
theorem dX2_init_5 : decode cX2_init 5 = .ok (.sipush 300, 3) := by decide +kernel
theorem dX2_init_8 : decode cX2_init 8 = .ok (.putfield 9, 3) := by decide +kernel
theorem dX2_init_11 : decode cX2_init 11 = .ok (.aload_n 0, 1) := by decide +kernel
theorem dX2_init_12 : decode cX2_init 12 = .ok (.iconst 0, 1) := by decide +kernel
theorem dX2_init_13 : decode cX2_init 13 = .ok (.putfield 15, 3) := by decide +kernel
theorem dX2_init_16 : decode cX2_init 16 = .ok (.aload_n 0, 1) := by decide +kernel
theorem dX2_init_17 : decode cX2_init 17 = .ok (.iconst 5, 1) := by decide +kernel
theorem dX2_init_18 : decode cX2_init 18 = .ok (.newarray .boolean, 2) := by decide +kernel
theorem dX2_init_20 : decode cX2_init 20 = .ok (.putfield 19, 3) := by decide +kernel
theorem dX2_init_23 : decode cX2_init 23 = .ok (.aload_n 0, 1) := by decide +kernel
theorem dX2_init_24 : decode cX2_init 24 = .ok (.iconst 5, 1) := by decide +kernel
theorem dX2_init_25 : decode cX2_init 25 = .ok (.newarray .boolean, 2) := by decide +kernel
theorem dX2_init_27 : decode cX2_init 27 = .ok (.putfield 23, 3) := by decide +kernel
theorem dX2_init_30 : decode cX2_init 30 = .ok (.aload_n 0, 1) := by decide +kernel
theorem dX2_init_31 : decode cX2_init 31 = .ok (.iconst 5, 1) := by decide +kernel
theorem dX2_init_32 : decode cX2_init 32 = .ok (.newarray .long, 2) := by decide +kernel
theorem dX2_init_34 : decode cX2_init 34 = .ok (.putfield 26, 3) := by decide +kernel
theorem dX2_init_37 : decode cX2_init 37 = .ok (.aload_n 0, 1) := by decide +kernel
theorem dX2_init_38 : decode cX2_init 38 = .ok (.iconst 5, 1) := by decide +kernel
theorem dX2_init_39 : decode cX2_init 39 = .ok (.newarray .int, 2) := by decide +kernel
theorem dX2_init_41 : decode cX2_init 41 = .ok (.putfield 30, 3) := by decide +kernel
theorem dX2_init_44 : decode cX2_init 44 = .ok (.aload_n 0, 1) := by decide +kernel
theorem dX2_init_45 : decode cX2_init 45 = .ok (.iconst 5, 1) := by decide +kernel
theorem dX2_init_46 : decode cX2_init 46 = .ok (.newarray .int, 2) := by decide +kernel
theorem dX2_init_48 : decode cX2_init 48 = .ok (.putfield 34, 3) := by decide +kernel
theorem dX2_init_51 : decode cX2_init 51 = .ok (.aload_n 0, 1) := by decide +kernel
theorem dX2_init_52 : decode cX2_init 52 = .ok (.iconst 5, 1) := by decide +kernel
theorem dX2_init_53 : decode cX2_init 53 = .ok (.newarray .int, 2) := by decide +kernel
theorem dX2_init_55 : decode cX2_init 55 = .ok (.putfield 37, 3) := by decide +kernel
theorem dX2_init_58 : decode cX2_init 58 = .ok (.aload_n 0, 1) := by decide +kernel
theorem dX2_init_59 : decode cX2_init 59 = .ok (.getfield 30, 3) := by decide +kernel
theorem dX2_init_62 : decode cX2_init 62 = .ok (.iconst (-1), 1) := by decide +kernel
theorem dX2_init_63 : decode cX2_init 63 = .ok (.invokestatic 40, 3) := by decide +kernel
theorem dX2_init_66 : decode cX2_init 66 = .ok (.return_, 1) := by decide +kernel
set_option maxRecDepth 20000 in
theorem ggX2_clearAccounts_J7_fill_d0a16 : GoodIn wsX2_clearAccounts wsJ7_fill_d0a16 := goodIn_r _ [10] (by decide +kernel) (by decide +kernel)
set_option maxRecDepth 20000 in
theorem gX2_clearAccounts_J7_fill_d0a16 : GoodIn wsX2_clearAccounts (va_wsS RX2 46 yJ7_fill_d0a16 wsJ7_fill_d0a16) := goodIn_app (goodIn_of _ (by decide +kernel)) ggX2_clearAccounts_J7_fill_d0a16
set_option maxRecDepth 20000 in
theorem ggX2_clearAccounts_J7_fill_53178 : GoodIn wsX2_clearAccounts wsJ7_fill_53178 := goodIn_r _ [13] (by decide +kernel) (by decide +kernel)
set_option maxRecDepth 20000 in
theorem gX2_clearAccounts_J7_fill_53178 : GoodIn wsX2_clearAccounts (va_wsS RX2 40 yJ7_fill_53178 wsJ7_fill_53178) := goodIn_app (goodIn_of _ (by decide +kernel)) ggX2_clearAccounts_J7_fill_53178
theorem dX2_clearAccounts_0 : decode cX2_clearAccounts 0 = .ok (.aload_n 0, 1) := by decide +kernel
theorem dX2_clearAccounts_1 : decode cX2_clearAccounts 1 = .ok (.getfield 26, 3) := by decide +kernel
theorem dX2_clearAccounts_4 : decode cX2_clearAccounts 4 = .ok (.lconst 0, 1) := by decide +kernel
theorem dX2_clearAccounts_5 : decode cX2_clearAccounts 5 = .ok (.invokestatic 46, 3) := by decide +kernel
theorem dX2_clearAccounts_8 : decode cX2_clearAccounts 8 = .ok (.aload_n 0, 1) := by decide +kernel
theorem dX2_clearAccounts_9 : decode cX2_clearAccounts 9 = .ok (.getfield 30, 3) := by decide +kernel
theorem dX2_clearAccounts_12 : decode cX2_clearAccounts 12 = .ok (.iconst (-1), 1) := by decide +kernel
theorem dX2_clearAccounts_13 : decode cX2_clearAccounts 13 = .ok (.invokestatic 40, 3) := by decide +kernel
theorem dX2_clearAccounts_16 : decode cX2_clearAccounts 16 = .ok (.aload_n 0, 1) := by decide +kernel
theorem dX2_clearAccounts_17 : decode cX2_clearAccounts 17 = .ok (.getfield 34, 3) := by decide +kernel
theorem dX2_clearAccounts_20 : decode cX2_clearAccounts 20 = .ok (.iconst 0, 1) := by decide +kernel
theorem dX2_clearAccounts_21 : decode cX2_clearAccounts 21 = .ok (.invokestatic 40, 3) := by decide +kernel
theorem dX2_clearAccounts_24 : decode cX2_clearAccounts 24 = .ok (.aload_n 0, 1) := by decide +kernel
theorem dX2_clearAccounts_25 : decode cX2_clearAccounts 25 = .ok (.getfield 37, 3) := by decide +kernel
theorem dX2_clearAccounts_28 : decode cX2_clearAccounts 28 = .ok (.iconst 0, 1) := by decide +kernel
theorem dX2_clearAccounts_29 : decode cX2_clearAccounts 29 = .ok (.invokestatic 40, 3) := by decide +kernel
theorem dX2_clearAccounts_32 : decode cX2_clearAccounts 32 = .ok (.iconst 0, 1) := by decide +kernel
theorem dX2_clearAccounts_33 : decode cX2_clearAccounts 33 = .ok (.istore_n 1, 1) := by decide +kernel
theorem dX2_clearAccounts_34 : decode cX2_clearAccounts 34 = .ok (.iload_n 1, 1) := by decide +kernel
theorem dX2_clearAccounts_35 : decode cX2_clearAccounts 35 = .ok (.iconst 5, 1) := by decide +kernel
theorem dX2_clearAccounts_36 : decode cX2_clearAccounts 36 = .ok (.if_icmp .ge 21, 3) := by decide +kernel
theorem dX2_clearAccounts_39 : decode cX2_clearAccounts 39 = .ok (.aload_n 0, 1) := by decide +kernel
theorem dX2_clearAccounts_40 : decode cX2_clearAccounts 40 = .ok (.getfield 23, 3) := by decide +kernel
theorem dX2_clearAccounts_43 : decode cX2_clearAccounts 43 = .ok (.iload_n 1, 1) := by decide +kernel
theorem dX2_clearAccounts_44 : decode cX2_clearAccounts 44 = .ok (.aload_n 0, 1) := by decide +kernel
theorem dX2_clearAccounts_45 : decode cX2_clearAccounts 45 = .ok (.getfield 19, 3) := by decide +kernel
theorem dX2_clearAccounts_48 : decode cX2_clearAccounts 48 = .ok (.iload_n 1, 1) := by decide +kernel
theorem dX2_clearAccounts_49 : decode cX2_clearAccounts 49 = .ok (.baload, 1) := by decide +kernel
theorem dX2_clearAccounts_50 : decode cX2_clearAccounts 50 = .ok (.bastore, 1) := by decide +kernel
theorem dX2_clearAccounts_51 : decode cX2_clearAccounts 51 = .ok (.iinc 1 1, 3) := by decide +kernel
theorem dX2_clearAccounts_54 : decode cX2_clearAccounts 54 = .ok (.goto (-20), 3) := by decide +kernel
theorem dX2_clearAccounts_57 : decode cX2_clearAccounts 57 = .ok (.return_, 1) := by decide +kernel
theorem dX2_takenOf_0 : decode cX2_takenOf 0 = .ok (.aload_n 0, 1) := by decide +kernel
theorem dX2_takenOf_1 : decode cX2_takenOf 1 = .ok (.getfield 23, 3) := by decide +kernel
theorem dX2_takenOf_4 : decode cX2_takenOf 4 = .ok (.iload_n 1, 1) := by decide +kernel
theorem dX2_takenOf_5 : decode cX2_takenOf 5 = .ok (.baload, 1) := by decide +kernel
theorem dX2_takenOf_6 : decode cX2_takenOf 6 = .ok (.ifCond .eq 18, 3) := by decide +kernel
theorem dX2_takenOf_9 : decode cX2_takenOf 9 = .ok (.iload_n 2, 1) := by decide +kernel
theorem dX2_takenOf_10 : decode cX2_takenOf 10 = .ok (.i2l, 1) := by decide +kernel
theorem dX2_takenOf_11 : decode cX2_takenOf 11 = .ok (.aload_n 0, 1) := by decide +kernel
theorem dX2_takenOf_12 : decode cX2_takenOf 12 = .ok (.getfield 26, 3) := by decide +kernel
theorem dX2_takenOf_15 : decode cX2_takenOf 15 = .ok (.iload_n 1, 1) := by decide +kernel
theorem dX2_takenOf_16 : decode cX2_takenOf 16 = .ok (.laload, 1) := by decide +kernel
theorem dX2_takenOf_17 : decode cX2_takenOf 17 = .ok (.invokestatic 49, 3) := by decide +kernel
theorem dX2_takenOf_20 : decode cX2_takenOf 20 = .ok (.l2i, 1) := by decide +kernel
theorem dX2_takenOf_21 : decode cX2_takenOf 21 = .ok (.goto 4, 3) := by decide +kernel
theorem dX2_takenOf_24 : decode cX2_takenOf 24 = .ok (.iconst 0, 1) := by decide +kernel
theorem dX2_takenOf_25 : decode cX2_takenOf 25 = .ok (.ireturn, 1) := by decide +kernel
theorem dX2_takeBack_0 : decode cX2_takeBack 0 = .ok (.iconst 0, 1) := by decide +kernel
theorem dX2_takeBack_1 : decode cX2_takeBack 1 = .ok (.istore_n 2, 1) := by decide +kernel
theorem dX2_takeBack_2 : decode cX2_takeBack 2 = .ok (.iload_n 2, 1) := by decide +kernel
theorem dX2_takeBack_3 : decode cX2_takeBack 3 = .ok (.iconst 5, 1) := by decide +kernel
theorem dX2_takeBack_4 : decode cX2_takeBack 4 = .ok (.if_icmp .ge 43, 3) := by decide +kernel
theorem dX2_takeBack_7 : decode cX2_takeBack 7 = .ok (.aload_n 0, 1) := by decide +kernel
theorem dX2_takeBack_8 : decode cX2_takeBack 8 = .ok (.getfield 23, 3) := by decide +kernel
theorem dX2_takeBack_11 : decode cX2_takeBack 11 = .ok (.iload_n 2, 1) := by decide +kernel
theorem dX2_takeBack_12 : decode cX2_takeBack 12 = .ok (.baload, 1) := by decide +kernel
theorem dX2_takeBack_13 : decode cX2_takeBack 13 = .ok (.ifCond .eq 28, 3) := by decide +kernel
theorem dX2_takeBack_16 : decode cX2_takeBack 16 = .ok (.aload_n 0, 1) := by decide +kernel
theorem dX2_takeBack_17 : decode cX2_takeBack 17 = .ok (.getfield 26, 3) := by decide +kernel
theorem dX2_takeBack_20 : decode cX2_takeBack 20 = .ok (.iload_n 2, 1) := by decide +kernel
theorem dX2_takeBack_21 : decode cX2_takeBack 21 = .ok (.laload, 1) := by decide +kernel
theorem dX2_takeBack_22 : decode cX2_takeBack 22 = .ok (.lconst 0, 1) := by decide +kernel
theorem dX2_takeBack_23 : decode cX2_takeBack 23 = .ok (.lcmp, 1) := by decide +kernel
theorem dX2_takeBack_24 : decode cX2_takeBack 24 = .ok (.ifCond .ne 17, 3) := by decide +kernel
theorem dX2_takeBack_27 : decode cX2_takeBack 27 = .ok (.aload_n 0, 1) := by decide +kernel
theorem dX2_takeBack_28 : decode cX2_takeBack 28 = .ok (.getfield 23, 3) := by decide +kernel
theorem dX2_takeBack_31 : decode cX2_takeBack 31 = .ok (.iload_n 2, 1) := by decide +kernel
theorem dX2_takeBack_32 : decode cX2_takeBack 32 = .ok (.iconst 0, 1) := by decide +kernel
theorem dX2_takeBack_33 : decode cX2_takeBack 33 = .ok (.bastore, 1) := by decide +kernel
theorem dX2_takeBack_34 : decode cX2_takeBack 34 = .ok (.aload_n 0, 1) := by decide +kernel
theorem dX2_takeBack_35 : decode cX2_takeBack 35 = .ok (.getfield 30, 3) := by decide +kernel
theorem dX2_takeBack_38 : decode cX2_takeBack 38 = .ok (.iload_n 2, 1) := by decide +kernel
theorem dX2_takeBack_39 : decode cX2_takeBack 39 = .ok (.iload_n 1, 1) := by decide +kernel
theorem dX2_takeBack_40 : decode cX2_takeBack 40 = .ok (.iastore, 1) := by decide +kernel
theorem dX2_takeBack_41 : decode cX2_takeBack 41 = .ok (.iinc 2 1, 3) := by decide +kernel
theorem dX2_takeBack_44 : decode cX2_takeBack 44 = .ok (.goto (-42), 3) := by decide +kernel
theorem dX2_takeBack_47 : decode cX2_takeBack 47 = .ok (.return_, 1) := by decide +kernel
set_option maxRecDepth 20000 in
theorem ggX3_init_X1_init : GoodIn wsX3_init wsX1_init := goodIn_r _ [30, 31, 2, 3, 32, 33, 71] (by decide +kernel) (by decide +kernel)
set_option maxRecDepth 20000 in
theorem gX3_init_X1_init_n52 : GoodIn wsX3_init (wsX1_init) := ggX3_init_X1_init
set_option maxRecDepth 20000 in
theorem ggX3_init_X2_init : GoodIn wsX3_init wsX2_init := goodIn_r _ [36, 37, 2, 3, 38, 39, 40, 41, 42, 32, 43, 4, 44, 45, 46, 47, 48, 49, 50, 72, 73, 74, 75, 76, 77, 78, 79] (by decide +kernel) (by decide +kernel)
set_option maxRecDepth 20000 in
theorem gX3_init_X2_init : GoodIn wsX3_init (wsX2_init) := ggX3_init_X2_init
set_option maxRecDepth 20000 in
theorem ggX3_init_X0_init : GoodIn wsX3_init wsX0_init := goodIn_r _ [52, 53, 2, 3, 4, 54, 55, 80, 81] (by decide +kernel) (by decide +kernel)
set_option maxRecDepth 20000 in
theorem gX3_init_X0_init_n67 : GoodIn wsX3_init (wsX0_init) := ggX3_init_X0_init
theorem dX3_init_0 : decode cX3_init 0 = .ok (.aload_n 0, 1) := by decide +kernel
theorem dX3_init_1 : decode cX3_init 1 = .ok (.invokespecial 1, 3) := by decide +kernel
theorem dX3_init_4 : decode cX3_init 4 = .ok (.aload_n 0, 1) := by decide +kernel
theorem dX3_init_5 : decode cX3_init 5 = .ok (.iconst 5, 1) := by decide +kernel
theorem dX3_init_6 : decode cX3_init 6 = .ok (.newarray .int, 2) := by decide +kernel
theorem dX3_init_8 : decode cX3_init 8 = .ok (.putfield 9, 3) := by decide +kernel
theorem dX3_init_11 : decode cX3_init 11 = .ok (.aload_n 0, 1) := by decide +kernel
theorem dX3_init_12 : decode cX3_init 12 = .ok (.sipush 300, 3) := by decide +kernel
theorem dX3_init_15 : decode cX3_init 15 = .ok (.putfield 13, 3) := by decide +kernel
theorem dX3_init_18 : decode cX3_init 18 = .ok (.aload_n 0, 1) := by decide +kernel
theorem dX3_init_19 : decode cX3_init 19 = .ok (.iconst 0, 1) := by decide +kernel
theorem dX3_init_20 : decode cX3_init 20 = .ok (.putfield 17, 3) := by decide +kernel
theorem dX3_init_23 : decode cX3_init 23 = .ok (.aload_n 0, 1) := by decide +kernel
theorem dX3_init_24 : decode cX3_init 24 = .ok (.bipush 6, 2) := by decide +kernel
theorem dX3_init_26 : decode cX3_init 26 = .ok (.anewarray 20, 3) := by decide +kernel
theorem dX3_init_29 : decode cX3_init 29 = .ok (.putfield 22, 3) := by decide +kernel
theorem dX3_init_32 : decode cX3_init 32 = .ok (.aload_n 0, 1) := by decide +kernel
theorem dX3_init_33 : decode cX3_init 33 = .ok (.iconst 0, 1) := by decide +kernel
theorem dX3_init_34 : decode cX3_init 34 = .ok (.putfield 26, 3) := by decide +kernel
theorem dX3_init_37 : decode cX3_init 37 = .ok (.aload_n 0, 1) := by decide +kernel
theorem dX3_init_38 : decode cX3_init 38 = .ok (.bipush 60, 2) := by decide +kernel
theorem dX3_init_40 : decode cX3_init 40 = .ok (.newarray .int, 2) := by decide +kernel
theorem dX3_init_42 : decode cX3_init 42 = .ok (.putfield 29, 3) := by decide +kernel
theorem dX3_init_45 : decode cX3_init 45 = .ok (.aload_n 0, 1) := by decide +kernel
theorem dX3_init_46 : decode cX3_init 46 = .ok (.bipush 60, 2) := by decide +kernel
theorem dX3_init_48 : decode cX3_init 48 = .ok (.newarray .int, 2) := by decide +kernel
theorem dX3_init_50 : decode cX3_init 50 = .ok (.putfield 32, 3) := by decide +kernel
theorem dX3_init_53 : decode cX3_init 53 = .ok (.aload_n 0, 1) := by decide +kernel
theorem dX3_init_54 : decode cX3_init 54 = .ok (.iconst 0, 1) := by decide +kernel
theorem dX3_init_55 : decode cX3_init 55 = .ok (.putfield 35, 3) := by decide +kernel
theorem dX3_init_58 : decode cX3_init 58 = .ok (.aload_n 0, 1) := by decide +kernel
theorem dX3_init_59 : decode cX3_init 59 = .ok (.bipush 20, 2) := by decide +kernel
theorem dX3_init_61 : decode cX3_init 61 = .ok (.anewarray 38, 3) := by decide +kernel
theorem dX3_init_64 : decode cX3_init 64 = .ok (.putfield 40, 3) := by decide +kernel
theorem dX3_init_67 : decode cX3_init 67 = .ok (.aload_n 0, 1) := by decide +kernel
theorem dX3_init_68 : decode cX3_init 68 = .ok (.iconst 0, 1) := by decide +kernel
theorem dX3_init_69 : decode cX3_init 69 = .ok (.putfield 44, 3) := by decide +kernel
theorem dX3_init_72 : decode cX3_init 72 = .ok (.aload_n 0, 1) := by decide +kernel
theorem dX3_init_73 : decode cX3_init 73 = .ok (.iconst 5, 1) := by decide +kernel
theorem dX3_init_74 : decode cX3_init 74 = .ok (.newarray .int, 2) := by decide +kernel
theorem dX3_init_76 : decode cX3_init 76 = .ok (.putfield 47, 3) := by decide +kernel
theorem dX3_init_79 : decode cX3_init 79 = .ok (.aload_n 0, 1) := by decide +kernel
theorem dX3_init_80 : decode cX3_init 80 = .ok (.new 50, 3) := by decide +kernel
theorem dX3_init_83 : decode cX3_init 83 = .ok (.dup, 1) := by decide +kernel
theorem dX3_init_84 : decode cX3_init 84 = .ok (.invokespecial 52, 3) := by decide +kernel
theorem dX3_init_87 : decode cX3_init 87 = .ok (.putfield 53, 3) := by decide +kernel
theorem dX3_init_90 : decode cX3_init 90 = .ok (.aload_n 0, 1) := by decide +kernel
theorem dX3_init_91 : decode cX3_init 91 = .ok (.iconst 5, 1) := by decide +kernel
theorem dX3_init_92 : decode cX3_init 92 = .ok (.newarray .int, 2) := by decide +kernel
theorem dX3_init_94 : decode cX3_init 94 = .ok (.putfield 57, 3) := by decide +kernel
theorem dX3_init_97 : decode cX3_init 97 = .ok (.aload_n 0, 1) := by decide +kernel
theorem dX3_init_98 : decode cX3_init 98 = .ok (.iconst 5, 1) := by decide +kernel
theorem dX3_init_99 : decode cX3_init 99 = .ok (.newarray .int, 2) := by decide +kernel
theorem dX3_init_101 : decode cX3_init 101 = .ok (.putfield 60, 3) := by decide +kernel
theorem dX3_init_104 : decode cX3_init 104 = .ok (.aload_n 0, 1) := by decide +kernel
theorem dX3_init_105 : decode cX3_init 105 = .ok (.iconst 5, 1) := by decide +kernel
theorem dX3_init_106 : decode cX3_init 106 = .ok (.newarray .int, 2) := by decide +kernel
theorem dX3_init_108 : decode cX3_init 108 = .ok (.putfield 63, 3) := by decide +kernel
theorem dX3_init_111 : decode cX3_init 111 = .ok (.aload_n 0, 1) := by decide +kernel
theorem dX3_init_112 : decode cX3_init 112 = .ok (.getfield 9, 3) := by decide +kernel
theorem dX3_init_115 : decode cX3_init 115 = .ok (.iconst 0, 1) := by decide +kernel
theorem dX3_init_116 : decode cX3_init 116 = .ok (.sipush 10000, 3) := by decide +kernel
theorem dX3_init_119 : decode cX3_init 119 = .ok (.iastore, 1) := by decide +kernel
theorem dX3_init_120 : decode cX3_init 120 = .ok (.iconst 0, 1) := by decide +kernel
theorem dX3_init_121 : decode cX3_init 121 = .ok (.istore_n 1, 1) := by decide +kernel
theorem dX3_init_122 : decode cX3_init 122 = .ok (.iload_n 1, 1) := by decide +kernel
theorem dX3_init_123 : decode cX3_init 123 = .ok (.bipush 6, 2) := by decide +kernel
theorem dX3_init_125 : decode cX3_init 125 = .ok (.if_icmp .ge 22, 3) := by decide +kernel
theorem dX3_init_128 : decode cX3_init 128 = .ok (.aload_n 0, 1) := by decide +kernel
theorem dX3_init_129 : decode cX3_init 129 = .ok (.getfield 22, 3) := by decide +kernel
theorem dX3_init_132 : decode cX3_init 132 = .ok (.iload_n 1, 1) := by decide +kernel
theorem dX3_init_133 : decode cX3_init 133 = .ok (.new 20, 3) := by decide +kernel
theorem dX3_init_136 : decode cX3_init 136 = .ok (.dup, 1) := by decide +kernel
theorem dX3_init_137 : decode cX3_init 137 = .ok (.invokespecial 66, 3) := by decide +kernel
theorem dX3_init_140 : decode cX3_init 140 = .ok (.aastore, 1) := by decide +kernel
theorem dX3_init_141 : decode cX3_init 141 = .ok (.iinc 1 1, 3) := by decide +kernel
theorem dX3_init_144 : decode cX3_init 144 = .ok (.goto (-22), 3) := by decide +kernel
theorem dX3_init_147 : decode cX3_init 147 = .ok (.iconst 0, 1) := by decide +kernel
theorem dX3_init_148 : decode cX3_init 148 = .ok (.istore_n 1, 1) := by decide +kernel
theorem dX3_init_149 : decode cX3_init 149 = .ok (.iload_n 1, 1) := by decide +kernel
theorem dX3_init_150 : decode cX3_init 150 = .ok (.bipush 20, 2) := by decide +kernel
theorem dX3_init_152 : decode cX3_init 152 = .ok (.if_icmp .ge 22, 3) := by decide +kernel
theorem dX3_init_155 : decode cX3_init 155 = .ok (.aload_n 0, 1) := by decide +kernel
theorem dX3_init_156 : decode cX3_init 156 = .ok (.getfield 40, 3) := by decide +kernel
theorem dX3_init_159 : decode cX3_init 159 = .ok (.iload_n 1, 1) := by decide +kernel
theorem dX3_init_160 : decode cX3_init 160 = .ok (.new 38, 3) := by decide +kernel
theorem dX3_init_163 : decode cX3_init 163 = .ok (.dup, 1) := by decide +kernel
theorem dX3_init_164 : decode cX3_init 164 = .ok (.invokespecial 67, 3) := by decide +kernel
theorem dX3_init_167 : decode cX3_init 167 = .ok (.aastore, 1) := by decide +kernel
theorem dX3_init_168 : decode cX3_init 168 = .ok (.iinc 1 1, 3) := by decide +kernel
theorem dX3_init_171 : decode cX3_init 171 = .ok (.goto (-22), 3) := by decide +kernel
theorem dX3_init_174 : decode cX3_init 174 = .ok (.return_, 1) := by decide +kernel
set_option maxRecDepth 20000 in
theorem ggX3_setShares_X3_requireRange : GoodIn wsX3_setShares wsX3_requireRange := goodIn_ca (goodIn_r _ [11, 1, 2] (by decide +kernel) (by decide +kernel)) (goodIn_sub (fun _ h => List.mem_cons_of_mem _ (List.mem_append_left _ (List.mem_append_right _ h))) (by decide +kernel))
set_option maxRecDepth 20000 in
theorem gX3_setShares_X3_requireRange : GoodIn wsX3_setShares (wsV RX3 68 RX3 yX3_requireRange wsX3_requireRange) := goodIn_app (goodIn_of _ (by decide +kernel)) ggX3_setShares_X3_requireRange
theorem dX3_setShares_0 : decode cX3_setShares 0 = .ok (.aload_n 0, 1) := by decide +kernel
theorem dX3_setShares_1 : decode cX3_setShares 1 = .ok (.iload_n 1, 1) := by decide +kernel
theorem dX3_setShares_2 : decode cX3_setShares 2 = .ok (.iconst 0, 1) := by decide +kernel
theorem dX3_setShares_3 : decode cX3_setShares 3 = .ok (.sipush 10000, 3) := by decide +kernel
theorem dX3_setShares_6 : decode cX3_setShares 6 = .ok (.invokevirtual 68, 3) := by decide +kernel
theorem dX3_setShares_9 : decode cX3_setShares 9 = .ok (.aload_n 0, 1) := by decide +kernel
theorem dX3_setShares_10 : decode cX3_setShares 10 = .ok (.iload_n 2, 1) := by decide +kernel
theorem dX3_setShares_11 : decode cX3_setShares 11 = .ok (.iconst 0, 1) := by decide +kernel
theorem dX3_setShares_12 : decode cX3_setShares 12 = .ok (.sipush 10000, 3) := by decide +kernel
theorem dX3_setShares_15 : decode cX3_setShares 15 = .ok (.invokevirtual 68, 3) := by decide +kernel
theorem dX3_setShares_18 : decode cX3_setShares 18 = .ok (.aload_n 0, 1) := by decide +kernel
theorem dX3_setShares_19 : decode cX3_setShares 19 = .ok (.iload_n 3, 1) := by decide +kernel
theorem dX3_setShares_20 : decode cX3_setShares 20 = .ok (.iconst 0, 1) := by decide +kernel
theorem dX3_setShares_21 : decode cX3_setShares 21 = .ok (.sipush 10000, 3) := by decide +kernel
theorem dX3_setShares_24 : decode cX3_setShares 24 = .ok (.invokevirtual 68, 3) := by decide +kernel
theorem dX3_setShares_27 : decode cX3_setShares 27 = .ok (.aload_n 0, 1) := by decide +kernel
theorem dX3_setShares_28 : decode cX3_setShares 28 = .ok (.iload 4, 2) := by decide +kernel
theorem dX3_setShares_30 : decode cX3_setShares 30 = .ok (.iconst 0, 1) := by decide +kernel
theorem dX3_setShares_31 : decode cX3_setShares 31 = .ok (.sipush 10000, 3) := by decide +kernel
theorem dX3_setShares_34 : decode cX3_setShares 34 = .ok (.invokevirtual 68, 3) := by decide +kernel
theorem dX3_setShares_37 : decode cX3_setShares 37 = .ok (.aload_n 0, 1) := by decide +kernel
theorem dX3_setShares_38 : decode cX3_setShares 38 = .ok (.iload 5, 2) := by decide +kernel
theorem dX3_setShares_40 : decode cX3_setShares 40 = .ok (.iconst 0, 1) := by decide +kernel
theorem dX3_setShares_41 : decode cX3_setShares 41 = .ok (.sipush 10000, 3) := by decide +kernel
theorem dX3_setShares_44 : decode cX3_setShares 44 = .ok (.invokevirtual 68, 3) := by decide +kernel
theorem dX3_setShares_47 : decode cX3_setShares 47 = .ok (.iload_n 1, 1) := by decide +kernel
theorem dX3_setShares_48 : decode cX3_setShares 48 = .ok (.iload_n 2, 1) := by decide +kernel
theorem dX3_setShares_49 : decode cX3_setShares 49 = .ok (.iadd, 1) := by decide +kernel
theorem dX3_setShares_50 : decode cX3_setShares 50 = .ok (.iload_n 3, 1) := by decide +kernel
theorem dX3_setShares_51 : decode cX3_setShares 51 = .ok (.iadd, 1) := by decide +kernel
theorem dX3_setShares_52 : decode cX3_setShares 52 = .ok (.iload 4, 2) := by decide +kernel
theorem dX3_setShares_54 : decode cX3_setShares 54 = .ok (.iadd, 1) := by decide +kernel
theorem dX3_setShares_55 : decode cX3_setShares 55 = .ok (.iload 5, 2) := by decide +kernel
theorem dX3_setShares_57 : decode cX3_setShares 57 = .ok (.iadd, 1) := by decide +kernel
theorem dX3_setShares_58 : decode cX3_setShares 58 = .ok (.sipush 10000, 3) := by decide +kernel
theorem dX3_setShares_61 : decode cX3_setShares 61 = .ok (.if_icmp .eq 13, 3) := by decide +kernel
theorem dX3_setShares_64 : decode cX3_setShares 64 = .ok (.new 72, 3) := by decide +kernel
theorem dX3_setShares_67 : decode cX3_setShares 67 = .ok (.dup, 1) := by decide +kernel
theorem dX3_setShares_68 : decode cX3_setShares 68 = .ok (.ldc 74, 2) := by decide +kernel
theorem dX3_setShares_70 : decode cX3_setShares 70 = .ok (.invokespecial 76, 3) := by decide +kernel
theorem dX3_setShares_73 : decode cX3_setShares 73 = .ok (.athrow, 1) := by decide +kernel
theorem dX3_setShares_74 : decode cX3_setShares 74 = .ok (.aload_n 0, 1) := by decide +kernel
theorem dX3_setShares_75 : decode cX3_setShares 75 = .ok (.getfield 26, 3) := by decide +kernel
theorem dX3_setShares_78 : decode cX3_setShares 78 = .ok (.ifCond .le 13, 3) := by decide +kernel
theorem dX3_setShares_81 : decode cX3_setShares 81 = .ok (.new 79, 3) := by decide +kernel
theorem dX3_setShares_84 : decode cX3_setShares 84 = .ok (.dup, 1) := by decide +kernel
theorem dX3_setShares_85 : decode cX3_setShares 85 = .ok (.ldc 81, 2) := by decide +kernel
theorem dX3_setShares_87 : decode cX3_setShares 87 = .ok (.invokespecial 83, 3) := by decide +kernel
theorem dX3_setShares_90 : decode cX3_setShares 90 = .ok (.athrow, 1) := by decide +kernel
theorem dX3_setShares_91 : decode cX3_setShares 91 = .ok (.aload_n 0, 1) := by decide +kernel
theorem dX3_setShares_92 : decode cX3_setShares 92 = .ok (.getfield 9, 3) := by decide +kernel
theorem dX3_setShares_95 : decode cX3_setShares 95 = .ok (.iconst 0, 1) := by decide +kernel
theorem dX3_setShares_96 : decode cX3_setShares 96 = .ok (.iload_n 1, 1) := by decide +kernel
theorem dX3_setShares_97 : decode cX3_setShares 97 = .ok (.iastore, 1) := by decide +kernel
theorem dX3_setShares_98 : decode cX3_setShares 98 = .ok (.aload_n 0, 1) := by decide +kernel
theorem dX3_setShares_99 : decode cX3_setShares 99 = .ok (.getfield 9, 3) := by decide +kernel
theorem dX3_setShares_102 : decode cX3_setShares 102 = .ok (.iconst 1, 1) := by decide +kernel
theorem dX3_setShares_103 : decode cX3_setShares 103 = .ok (.iload_n 2, 1) := by decide +kernel
theorem dX3_setShares_104 : decode cX3_setShares 104 = .ok (.iastore, 1) := by decide +kernel
theorem dX3_setShares_105 : decode cX3_setShares 105 = .ok (.aload_n 0, 1) := by decide +kernel
theorem dX3_setShares_106 : decode cX3_setShares 106 = .ok (.getfield 9, 3) := by decide +kernel
theorem dX3_setShares_109 : decode cX3_setShares 109 = .ok (.iconst 2, 1) := by decide +kernel
theorem dX3_setShares_110 : decode cX3_setShares 110 = .ok (.iload_n 3, 1) := by decide +kernel
theorem dX3_setShares_111 : decode cX3_setShares 111 = .ok (.iastore, 1) := by decide +kernel
theorem dX3_setShares_112 : decode cX3_setShares 112 = .ok (.aload_n 0, 1) := by decide +kernel
theorem dX3_setShares_113 : decode cX3_setShares 113 = .ok (.getfield 9, 3) := by decide +kernel
theorem dX3_setShares_116 : decode cX3_setShares 116 = .ok (.iconst 3, 1) := by decide +kernel
theorem dX3_setShares_117 : decode cX3_setShares 117 = .ok (.iload 4, 2) := by decide +kernel
theorem dX3_setShares_119 : decode cX3_setShares 119 = .ok (.iastore, 1) := by decide +kernel
theorem dX3_setShares_120 : decode cX3_setShares 120 = .ok (.aload_n 0, 1) := by decide +kernel
theorem dX3_setShares_121 : decode cX3_setShares 121 = .ok (.getfield 9, 3) := by decide +kernel
theorem dX3_setShares_124 : decode cX3_setShares 124 = .ok (.iconst 4, 1) := by decide +kernel
theorem dX3_setShares_125 : decode cX3_setShares 125 = .ok (.iload 5, 2) := by decide +kernel
theorem dX3_setShares_127 : decode cX3_setShares 127 = .ok (.iastore, 1) := by decide +kernel
theorem dX3_setShares_128 : decode cX3_setShares 128 = .ok (.return_, 1) := by decide +kernel
set_option maxRecDepth 20000 in
theorem ggX3_setPenalty_X3_requireRange : GoodIn wsX3_setPenalty wsX3_requireRange := goodIn_ca (goodIn_r _ [6, 7, 8] (by decide +kernel) (by decide +kernel)) (goodIn_sub (fun _ h => List.mem_cons_of_mem _ (List.mem_append_right _ h)) (by decide +kernel))
set_option maxRecDepth 20000 in
theorem gX3_setPenalty_X3_requireRange : GoodIn wsX3_setPenalty (wsV RX3 68 RX3 yX3_requireRange wsX3_requireRange) := goodIn_app (goodIn_of _ (by decide +kernel)) ggX3_setPenalty_X3_requireRange
theorem dX3_setPenalty_0 : decode cX3_setPenalty 0 = .ok (.aload_n 0, 1) := by decide +kernel
theorem dX3_setPenalty_1 : decode cX3_setPenalty 1 = .ok (.iload_n 1, 1) := by decide +kernel
theorem dX3_setPenalty_2 : decode cX3_setPenalty 2 = .ok (.bipush 100, 2) := by decide +kernel
theorem dX3_setPenalty_4 : decode cX3_setPenalty 4 = .ok (.sipush 1000, 3) := by decide +kernel
theorem dX3_setPenalty_7 : decode cX3_setPenalty 7 = .ok (.invokevirtual 68, 3) := by decide +kernel
theorem dX3_setPenalty_10 : decode cX3_setPenalty 10 = .ok (.aload_n 0, 1) := by decide +kernel
theorem dX3_setPenalty_11 : decode cX3_setPenalty 11 = .ok (.getfield 13, 3) := by decide +kernel
theorem dX3_setPenalty_14 : decode cX3_setPenalty 14 = .ok (.istore_n 2, 1) := by decide +kernel
theorem dX3_setPenalty_15 : decode cX3_setPenalty 15 = .ok (.aload_n 0, 1) := by decide +kernel
theorem dX3_setPenalty_16 : decode cX3_setPenalty 16 = .ok (.iload_n 1, 1) := by decide +kernel
theorem dX3_setPenalty_17 : decode cX3_setPenalty 17 = .ok (.putfield 13, 3) := by decide +kernel
theorem dX3_setPenalty_20 : decode cX3_setPenalty 20 = .ok (.iload_n 2, 1) := by decide +kernel
theorem dX3_setPenalty_21 : decode cX3_setPenalty 21 = .ok (.ireturn, 1) := by decide +kernel
set_option maxRecDepth 20000 in
theorem ggX3_setOverhead_X3_requireRange : GoodIn wsX3_setOverhead wsX3_requireRange := goodIn_ca (goodIn_r _ [7, 8, 9] (by decide +kernel) (by decide +kernel)) (goodIn_sub (fun _ h => List.mem_cons_of_mem _ (List.mem_append_right _ h)) (by decide +kernel))
set_option maxRecDepth 20000 in
theorem gX3_setOverhead_X3_requireRange : GoodIn wsX3_setOverhead (wsV RX3 68 RX3 yX3_requireRange wsX3_requireRange) := goodIn_app (goodIn_of _ (by decide +kernel)) ggX3_setOverhead_X3_requireRange
theorem dX3_setOverhead_0 : decode cX3_setOverhead 0 = .ok (.aload_n 0, 1) := by decide +kernel
theorem dX3_setOverhead_1 : decode cX3_setOverhead 1 = .ok (.iload_n 1, 1) := by decide +kernel
theorem dX3_setOverhead_2 : decode cX3_setOverhead 2 = .ok (.iconst 0, 1) := by decide +kernel
theorem dX3_setOverhead_3 : decode cX3_setOverhead 3 = .ok (.ldc 84, 2) := by decide +kernel
theorem dX3_setOverhead_5 : decode cX3_setOverhead 5 = .ok (.invokevirtual 68, 3) := by decide +kernel
theorem dX3_setOverhead_8 : decode cX3_setOverhead 8 = .ok (.aload_n 0, 1) := by decide +kernel
theorem dX3_setOverhead_9 : decode cX3_setOverhead 9 = .ok (.getfield 17, 3) := by decide +kernel
theorem dX3_setOverhead_12 : decode cX3_setOverhead 12 = .ok (.istore_n 2, 1) := by decide +kernel
theorem dX3_setOverhead_13 : decode cX3_setOverhead 13 = .ok (.aload_n 0, 1) := by decide +kernel
theorem dX3_setOverhead_14 : decode cX3_setOverhead 14 = .ok (.iload_n 1, 1) := by decide +kernel
theorem dX3_setOverhead_15 : decode cX3_setOverhead 15 = .ok (.putfield 17, 3) := by decide +kernel
theorem dX3_setOverhead_18 : decode cX3_setOverhead 18 = .ok (.iload_n 2, 1) := by decide +kernel
theorem dX3_setOverhead_19 : decode cX3_setOverhead 19 = .ok (.ireturn, 1) := by decide +kernel
theorem dX3_addWell_0 : decode cX3_addWell 0 = .ok (.aload_n 0, 1) := by decide +kernel
theorem dX3_addWell_1 : decode cX3_addWell 1 = .ok (.getfield 26, 3) := by decide +kernel
theorem dX3_addWell_4 : decode cX3_addWell 4 = .ok (.bipush 6, 2) := by decide +kernel
theorem dX3_addWell_6 : decode cX3_addWell 6 = .ok (.if_icmp .lt 13, 3) := by decide +kernel
theorem dX3_addWell_9 : decode cX3_addWell 9 = .ok (.new 79, 3) := by decide +kernel
theorem dX3_addWell_12 : decode cX3_addWell 12 = .ok (.dup, 1) := by decide +kernel
theorem dX3_addWell_13 : decode cX3_addWell 13 = .ok (.ldc 85, 2) := by decide +kernel
theorem dX3_addWell_15 : decode cX3_addWell 15 = .ok (.invokespecial 83, 3) := by decide +kernel
theorem dX3_addWell_18 : decode cX3_addWell 18 = .ok (.athrow, 1) := by decide +kernel
theorem dX3_addWell_19 : decode cX3_addWell 19 = .ok (.aload_n 0, 1) := by decide +kernel
theorem dX3_addWell_20 : decode cX3_addWell 20 = .ok (.getfield 22, 3) := by decide +kernel
theorem dX3_addWell_23 : decode cX3_addWell 23 = .ok (.aload_n 0, 1) := by decide +kernel
theorem dX3_addWell_24 : decode cX3_addWell 24 = .ok (.getfield 26, 3) := by decide +kernel
theorem dX3_addWell_27 : decode cX3_addWell 27 = .ok (.aaload, 1) := by decide +kernel
theorem dX3_addWell_28 : decode cX3_addWell 28 = .ok (.aload_n 0, 1) := by decide +kernel
theorem dX3_addWell_29 : decode cX3_addWell 29 = .ok (.getfield 13, 3) := by decide +kernel
theorem dX3_addWell_32 : decode cX3_addWell 32 = .ok (.putfield 87, 3) := by decide +kernel
theorem dX3_addWell_35 : decode cX3_addWell 35 = .ok (.aload_n 0, 1) := by decide +kernel
theorem dX3_addWell_36 : decode cX3_addWell 36 = .ok (.dup, 1) := by decide +kernel
theorem dX3_addWell_37 : decode cX3_addWell 37 = .ok (.getfield 26, 3) := by decide +kernel
theorem dX3_addWell_40 : decode cX3_addWell 40 = .ok (.iconst 1, 1) := by decide +kernel
theorem dX3_addWell_41 : decode cX3_addWell 41 = .ok (.iadd, 1) := by decide +kernel
theorem dX3_addWell_42 : decode cX3_addWell 42 = .ok (.putfield 26, 3) := by decide +kernel
theorem dX3_addWell_45 : decode cX3_addWell 45 = .ok (.aload_n 0, 1) := by decide +kernel
theorem dX3_addWell_46 : decode cX3_addWell 46 = .ok (.getfield 26, 3) := by decide +kernel
theorem dX3_addWell_49 : decode cX3_addWell 49 = .ok (.iconst 1, 1) := by decide +kernel
theorem dX3_addWell_50 : decode cX3_addWell 50 = .ok (.isub, 1) := by decide +kernel
theorem dX3_addWell_51 : decode cX3_addWell 51 = .ok (.ireturn, 1) := by decide +kernel
set_option maxRecDepth 20000 in
theorem ggX3_elect_X3_requireWell : GoodIn wsX3_elect wsX3_requireWell := goodIn_ca (goodIn_r _ [12, 13, 14, 15, 28, 29, 30, 31, 32, 33, 34, 35, 36, 37, 38, 39, 40, 41, 42] (by decide +kernel) (by decide +kernel)) (goodIn_sub (fun _ h => List.mem_cons_of_mem _ (List.mem_append_right _ h)) (by decide +kernel))
set_option maxRecDepth 20000 in
theorem gX3_elect_X3_requireWell : GoodIn wsX3_elect (wsV RX3 90 RX3 yX3_requireWell wsX3_requireWell) := goodIn_app (goodIn_of _ (by decide +kernel)) ggX3_elect_X3_requireWell
set_option maxRecDepth 20000 in
theorem ggX3_elect_X3_requirePartner : GoodIn wsX3_elect wsX3_requirePartner := goodIn_ca (goodIn_r _ [19, 13, 14] (by decide +kernel) (by decide +kernel)) (goodIn_sub (fun _ h => List.mem_cons_of_mem _ (List.mem_append_right _ h)) (by decide +kernel))
set_option maxRecDepth 20000 in
theorem gX3_elect_X3_requirePartner : GoodIn wsX3_elect (wsV RX3 94 RX3 yX3_requirePartner wsX3_requirePartner) := goodIn_app (goodIn_of _ (by decide +kernel)) ggX3_elect_X3_requirePartner
set_option maxRecDepth 20000 in
theorem ggX3_elect_X3_isAnotherIn : GoodIn wsX3_elect wsX3_isAnotherIn := goodIn_r _ [23, 24, 25, 26, 11, 27, 7, 5, 43, 44, 45, 46, 47, 48, 49, 50, 28, 29, 30, 31, 32, 33, 34, 35, 36, 37, 38, 39, 40, 41, 42] (by decide +kernel) (by decide +kernel)
set_option maxRecDepth 20000 in
theorem gX3_elect_X3_isAnotherIn : GoodIn wsX3_elect (wsV RX3 105 RX3 yX3_isAnotherIn wsX3_isAnotherIn) := goodIn_app (goodIn_of _ (by decide +kernel)) ggX3_elect_X3_isAnotherIn
theorem dX3_elect_0 : decode cX3_elect 0 = .ok (.aload_n 0, 1) := by decide +kernel
theorem dX3_elect_1 : decode cX3_elect 1 = .ok (.iload_n 1, 1) := by decide +kernel
theorem dX3_elect_2 : decode cX3_elect 2 = .ok (.invokevirtual 90, 3) := by decide +kernel
theorem dX3_elect_5 : decode cX3_elect 5 = .ok (.aload_n 0, 1) := by decide +kernel
theorem dX3_elect_6 : decode cX3_elect 6 = .ok (.iload_n 2, 1) := by decide +kernel
theorem dX3_elect_7 : decode cX3_elect 7 = .ok (.invokevirtual 94, 3) := by decide +kernel
theorem dX3_elect_10 : decode cX3_elect 10 = .ok (.aload_n 0, 1) := by decide +kernel
theorem dX3_elect_11 : decode cX3_elect 11 = .ok (.getfield 22, 3) := by decide +kernel
theorem dX3_elect_14 : decode cX3_elect 14 = .ok (.iload_n 1, 1) := by decide +kernel
theorem dX3_elect_15 : decode cX3_elect 15 = .ok (.aaload, 1) := by decide +kernel
theorem dX3_elect_16 : decode cX3_elect 16 = .ok (.astore 4, 2) := by decide +kernel
theorem dX3_elect_18 : decode cX3_elect 18 = .ok (.aload 4, 2) := by decide +kernel
theorem dX3_elect_20 : decode cX3_elect 20 = .ok (.getfield 97, 3) := by decide +kernel
theorem dX3_elect_23 : decode cX3_elect 23 = .ok (.ifCond .eq 13, 3) := by decide +kernel
theorem dX3_elect_26 : decode cX3_elect 26 = .ok (.new 79, 3) := by decide +kernel
theorem dX3_elect_29 : decode cX3_elect 29 = .ok (.dup, 1) := by decide +kernel
theorem dX3_elect_30 : decode cX3_elect 30 = .ok (.ldc 101, 2) := by decide +kernel
theorem dX3_elect_32 : decode cX3_elect 32 = .ok (.invokespecial 83, 3) := by decide +kernel
theorem dX3_elect_35 : decode cX3_elect 35 = .ok (.athrow, 1) := by decide +kernel
theorem dX3_elect_36 : decode cX3_elect 36 = .ok (.aload_n 0, 1) := by decide +kernel
theorem dX3_elect_37 : decode cX3_elect 37 = .ok (.getfield 9, 3) := by decide +kernel
theorem dX3_elect_40 : decode cX3_elect 40 = .ok (.iload_n 2, 1) := by decide +kernel
theorem dX3_elect_41 : decode cX3_elect 41 = .ok (.iaload, 1) := by decide +kernel
theorem dX3_elect_42 : decode cX3_elect 42 = .ok (.ifCond .ne 13, 3) := by decide +kernel
theorem dX3_elect_45 : decode cX3_elect 45 = .ok (.new 79, 3) := by decide +kernel
theorem dX3_elect_48 : decode cX3_elect 48 = .ok (.dup, 1) := by decide +kernel
theorem dX3_elect_49 : decode cX3_elect 49 = .ok (.ldc 103, 2) := by decide +kernel
theorem dX3_elect_51 : decode cX3_elect 51 = .ok (.invokespecial 83, 3) := by decide +kernel
theorem dX3_elect_54 : decode cX3_elect 54 = .ok (.athrow, 1) := by decide +kernel
theorem dX3_elect_55 : decode cX3_elect 55 = .ok (.iload_n 3, 1) := by decide +kernel
theorem dX3_elect_56 : decode cX3_elect 56 = .ok (.ifCond .ne 23, 3) := by decide +kernel
theorem dX3_elect_59 : decode cX3_elect 59 = .ok (.aload_n 0, 1) := by decide +kernel
theorem dX3_elect_60 : decode cX3_elect 60 = .ok (.aload 4, 2) := by decide +kernel
theorem dX3_elect_62 : decode cX3_elect 62 = .ok (.iload_n 2, 1) := by decide +kernel
theorem dX3_elect_63 : decode cX3_elect 63 = .ok (.invokevirtual 105, 3) := by decide +kernel
theorem dX3_elect_66 : decode cX3_elect 66 = .ok (.ifCond .ne 13, 3) := by decide +kernel
theorem dX3_elect_69 : decode cX3_elect 69 = .ok (.new 79, 3) := by decide +kernel
theorem dX3_elect_72 : decode cX3_elect 72 = .ok (.dup, 1) := by decide +kernel
theorem dX3_elect_73 : decode cX3_elect 73 = .ok (.ldc 109, 2) := by decide +kernel
theorem dX3_elect_75 : decode cX3_elect 75 = .ok (.invokespecial 83, 3) := by decide +kernel
theorem dX3_elect_78 : decode cX3_elect 78 = .ok (.athrow, 1) := by decide +kernel
theorem dX3_elect_79 : decode cX3_elect 79 = .ok (.aload 4, 2) := by decide +kernel
theorem dX3_elect_81 : decode cX3_elect 81 = .ok (.getfield 111, 3) := by decide +kernel
theorem dX3_elect_84 : decode cX3_elect 84 = .ok (.iload_n 2, 1) := by decide +kernel
theorem dX3_elect_85 : decode cX3_elect 85 = .ok (.baload, 1) := by decide +kernel
theorem dX3_elect_86 : decode cX3_elect 86 = .ok (.ifCond .ne 7, 3) := by decide +kernel
theorem dX3_elect_89 : decode cX3_elect 89 = .ok (.iconst 1, 1) := by decide +kernel
theorem dX3_elect_90 : decode cX3_elect 90 = .ok (.goto 4, 3) := by decide +kernel
theorem dX3_elect_93 : decode cX3_elect 93 = .ok (.iconst 0, 1) := by decide +kernel
theorem dX3_elect_94 : decode cX3_elect 94 = .ok (.istore 5, 2) := by decide +kernel
theorem dX3_elect_96 : decode cX3_elect 96 = .ok (.aload 4, 2) := by decide +kernel
theorem dX3_elect_98 : decode cX3_elect 98 = .ok (.getfield 111, 3) := by decide +kernel
theorem dX3_elect_101 : decode cX3_elect 101 = .ok (.iload_n 2, 1) := by decide +kernel
theorem dX3_elect_102 : decode cX3_elect 102 = .ok (.iload_n 3, 1) := by decide +kernel
theorem dX3_elect_103 : decode cX3_elect 103 = .ok (.ifCond .ne 7, 3) := by decide +kernel
theorem dX3_elect_106 : decode cX3_elect 106 = .ok (.iconst 1, 1) := by decide +kernel
theorem dX3_elect_107 : decode cX3_elect 107 = .ok (.goto 4, 3) := by decide +kernel
theorem dX3_elect_110 : decode cX3_elect 110 = .ok (.iconst 0, 1) := by decide +kernel
theorem dX3_elect_111 : decode cX3_elect 111 = .ok (.bastore, 1) := by decide +kernel
theorem dX3_elect_112 : decode cX3_elect 112 = .ok (.aload 4, 2) := by decide +kernel
theorem dX3_elect_114 : decode cX3_elect 114 = .ok (.getfield 115, 3) := by decide +kernel
theorem dX3_elect_117 : decode cX3_elect 117 = .ok (.iload_n 2, 1) := by decide +kernel
theorem dX3_elect_118 : decode cX3_elect 118 = .ok (.iload_n 3, 1) := by decide +kernel
theorem dX3_elect_119 : decode cX3_elect 119 = .ok (.ifCond .ne 7, 3) := by decide +kernel
theorem dX3_elect_122 : decode cX3_elect 122 = .ok (.iconst 1, 1) := by decide +kernel
theorem dX3_elect_123 : decode cX3_elect 123 = .ok (.goto 4, 3) := by decide +kernel
theorem dX3_elect_126 : decode cX3_elect 126 = .ok (.iconst 0, 1) := by decide +kernel
theorem dX3_elect_127 : decode cX3_elect 127 = .ok (.bastore, 1) := by decide +kernel
theorem dX3_elect_128 : decode cX3_elect 128 = .ok (.iload 5, 2) := by decide +kernel
theorem dX3_elect_130 : decode cX3_elect 130 = .ok (.ireturn, 1) := by decide +kernel
set_option maxRecDepth 20000 in
theorem ggX3_cost_X3_requireWell : GoodIn wsX3_cost wsX3_requireWell := goodIn_ca (goodIn_r _ [6, 7, 8, 9, 110, 111, 112, 113, 114, 115, 116, 117, 118, 119, 120, 121, 122, 123, 124] (by decide +kernel) (by decide +kernel)) (goodIn_sub (fun _ h => List.mem_cons_of_mem _ (List.mem_append_left _ (List.mem_append_left _ (List.mem_append_right _ h)))) (by decide +kernel))
set_option maxRecDepth 20000 in
theorem gX3_cost_X3_requireWell : GoodIn wsX3_cost (wsV RX3 90 RX3 yX3_requireWell wsX3_requireWell) := goodIn_app (goodIn_of _ (by decide +kernel)) ggX3_cost_X3_requireWell
set_option maxRecDepth 20000 in
theorem ggX3_cost_X3_requireRange : GoodIn wsX3_cost wsX3_requireRange := goodIn_ca (goodIn_r _ [13, 14, 15] (by decide +kernel) (by decide +kernel)) (goodIn_sub (fun _ h => List.mem_cons_of_mem _ (List.mem_append_left _ (List.mem_append_right _ h))) (by decide +kernel))
set_option maxRecDepth 20000 in
theorem gX3_cost_X3_requireRange : GoodIn wsX3_cost (wsV RX3 68 RX3 yX3_requireRange wsX3_requireRange) := goodIn_app (goodIn_of _ (by decide +kernel)) ggX3_cost_X3_requireRange
set_option maxRecDepth 20000 in
theorem ggX3_cost_X3_requireRoomForVoucher : GoodIn wsX3_cost wsX3_requireRoomForVoucher := goodIn_ca (goodIn_r _ [19, 20, 21, 22, 110, 111, 112, 113, 114, 115, 116, 117, 118, 119, 120, 121, 122, 123, 124] (by decide +kernel) (by decide +kernel)) (goodIn_sub (fun _ h => List.mem_cons_of_mem _ (List.mem_append_right _ h)) (by decide +kernel))
set_option maxRecDepth 20000 in
theorem gX3_cost_X3_requireRoomForVoucher : GoodIn wsX3_cost (wsV RX3 119 RX3 yX3_requireRoomForVoucher wsX3_requireRoomForVoucher) := goodIn_app (goodIn_of _ (by decide +kernel)) ggX3_cost_X3_requireRoomForVoucher
set_option maxRecDepth 20000 in
theorem ggX3_cost_X3_addVoucher : GoodIn wsX3_cost wsX3_addVoucher := goodIn_r _ [26, 22, 27, 28, 29, 30, 31, 32, 33, 5, 34, 35, 36, 37, 38, 39, 40, 41, 42, 43, 44, 45, 46, 47, 48, 49, 50, 51, 52, 53, 54, 55, 56, 57, 58, 59, 60, 61, 62, 63, 64, 65, 66, 67, 68, 69, 70, 71, 72, 73, 74, 75, 76, 77, 78, 79, 80, 81, 82, 83, 84, 85, 86, 87, 88, 89, 90, 91, 92, 93, 94, 95, 96, 97, 98, 99, 100, 101, 102, 103, 104, 105, 106, 107, 108, 109, 110, 111, 112, 113, 114, 115, 116, 117, 118, 119, 120, 121, 122, 123, 124, 125, 126, 127, 128, 129, 130, 131, 132, 133] (by decide +kernel) (by decide +kernel)
set_option maxRecDepth 20000 in
theorem gX3_cost_X3_addVoucher : GoodIn wsX3_cost (wsV RX3 122 RX3 yX3_addVoucher wsX3_addVoucher) := goodIn_app (goodIn_of _ (by decide +kernel)) ggX3_cost_X3_addVoucher
theorem dX3_cost_0 : decode cX3_cost 0 = .ok (.aload_n 0, 1) := by decide +kernel
theorem dX3_cost_1 : decode cX3_cost 1 = .ok (.iload_n 1, 1) := by decide +kernel
theorem dX3_cost_2 : decode cX3_cost 2 = .ok (.invokevirtual 90, 3) := by decide +kernel
theorem dX3_cost_5 : decode cX3_cost 5 = .ok (.aload_n 0, 1) := by decide +kernel
theorem dX3_cost_6 : decode cX3_cost 6 = .ok (.iload_n 2, 1) := by decide +kernel
theorem dX3_cost_7 : decode cX3_cost 7 = .ok (.iconst 1, 1) := by decide +kernel
theorem dX3_cost_8 : decode cX3_cost 8 = .ok (.ldc 118, 2) := by decide +kernel
theorem dX3_cost_10 : decode cX3_cost 10 = .ok (.invokevirtual 68, 3) := by decide +kernel
theorem dX3_cost_13 : decode cX3_cost 13 = .ok (.aload_n 0, 1) := by decide +kernel
theorem dX3_cost_14 : decode cX3_cost 14 = .ok (.invokevirtual 119, 3) := by decide +kernel
theorem dX3_cost_17 : decode cX3_cost 17 = .ok (.aload_n 0, 1) := by decide +kernel
theorem dX3_cost_18 : decode cX3_cost 18 = .ok (.iload_n 1, 1) := by decide +kernel
theorem dX3_cost_19 : decode cX3_cost 19 = .ok (.iload_n 2, 1) := by decide +kernel
theorem dX3_cost_20 : decode cX3_cost 20 = .ok (.invokevirtual 122, 3) := by decide +kernel
theorem dX3_cost_23 : decode cX3_cost 23 = .ok (.ireturn, 1) := by decide +kernel
set_option maxRecDepth 20000 in
theorem ggX3_overhead_X3_requireWell : GoodIn wsX3_overhead wsX3_requireWell := goodIn_ca (goodIn_r _ [8, 9, 10, 11, 110, 111, 112, 113, 114, 115, 116, 117, 118, 119, 120, 121, 122, 123, 124] (by decide +kernel) (by decide +kernel)) (goodIn_sub (fun _ h => List.mem_cons_of_mem _ (List.mem_append_left _ (List.mem_append_right _ h))) (by decide +kernel))
set_option maxRecDepth 20000 in
theorem gX3_overhead_X3_requireWell : GoodIn wsX3_overhead (wsV RX3 90 RX3 yX3_requireWell wsX3_requireWell) := goodIn_app (goodIn_of _ (by decide +kernel)) ggX3_overhead_X3_requireWell
set_option maxRecDepth 20000 in
theorem ggX3_overhead_X3_requireRange : GoodIn wsX3_overhead wsX3_requireRange := goodIn_ca (goodIn_r _ [15, 16, 17] (by decide +kernel) (by decide +kernel)) (goodIn_sub (fun _ h => List.mem_cons_of_mem _ (List.mem_append_right _ h)) (by decide +kernel))
set_option maxRecDepth 20000 in
theorem gX3_overhead_X3_requireRange : GoodIn wsX3_overhead (wsV RX3 68 RX3 yX3_requireRange wsX3_requireRange) := goodIn_app (goodIn_of _ (by decide +kernel)) ggX3_overhead_X3_requireRange
set_option maxRecDepth 20000 in
theorem ggX3_overhead_X3_requireRoomForVoucher : GoodIn wsX3_overhead wsX3_requireRoomForVoucher := goodIn_ca (goodIn_r _ [21, 1, 2, 22, 110, 111, 112, 113, 114, 115, 116, 117, 118, 119, 120, 121, 122, 123, 124] (by decide +kernel) (by decide +kernel)) (goodIn_sub (fun _ h => List.mem_cons_of_mem _ (List.mem_append_left _ (List.mem_append_left _ (List.mem_append_right _ h)))) (by decide +kernel))
set_option maxRecDepth 20000 in
theorem gX3_overhead_X3_requireRoomForVoucher : GoodIn wsX3_overhead (wsV RX3 119 RX3 yX3_requireRoomForVoucher wsX3_requireRoomForVoucher) := goodIn_app (goodIn_of _ (by decide +kernel)) ggX3_overhead_X3_requireRoomForVoucher
set_option maxRecDepth 20000 in
theorem ggX3_overhead_X3_addVoucher : GoodIn wsX3_overhead wsX3_addVoucher := goodIn_r _ [26, 22, 27, 28, 29, 30, 31, 32, 33, 7, 34, 35, 36, 37, 38, 39, 40, 41, 42, 43, 44, 45, 46, 47, 48, 49, 50, 51, 52, 53, 54, 55, 56, 57, 58, 59, 60, 61, 62, 63, 64, 65, 66, 67, 68, 69, 70, 71, 72, 73, 74, 75, 76, 77, 78, 79, 80, 81, 82, 83, 84, 85, 86, 87, 88, 89, 90, 91, 92, 93, 94, 95, 96, 97, 98, 99, 100, 101, 102, 103, 104, 105, 106, 107, 108, 109, 110, 111, 112, 113, 114, 115, 116, 117, 118, 119, 120, 121, 122, 123, 124, 125, 126, 127, 128, 129, 130, 131, 132, 133] (by decide +kernel) (by decide +kernel)
set_option maxRecDepth 20000 in
theorem gX3_overhead_X3_addVoucher : GoodIn wsX3_overhead (wsV RX3 122 RX3 yX3_addVoucher wsX3_addVoucher) := goodIn_app (goodIn_of _ (by decide +kernel)) ggX3_overhead_X3_addVoucher
theorem dX3_overhead_0 : decode cX3_overhead 0 = .ok (.aload_n 0, 1) := by decide +kernel
theorem dX3_overhead_1 : decode cX3_overhead 1 = .ok (.iload_n 1, 1) := by decide +kernel
theorem dX3_overhead_2 : decode cX3_overhead 2 = .ok (.invokevirtual 90, 3) := by decide +kernel
theorem dX3_overhead_5 : decode cX3_overhead 5 = .ok (.aload_n 0, 1) := by decide +kernel
theorem dX3_overhead_6 : decode cX3_overhead 6 = .ok (.iload_n 2, 1) := by decide +kernel
theorem dX3_overhead_7 : decode cX3_overhead 7 = .ok (.iconst 1, 1) := by decide +kernel
theorem dX3_overhead_8 : decode cX3_overhead 8 = .ok (.bipush 24, 2) := by decide +kernel
theorem dX3_overhead_10 : decode cX3_overhead 10 = .ok (.invokevirtual 68, 3) := by decide +kernel
theorem dX3_overhead_13 : decode cX3_overhead 13 = .ok (.aload_n 0, 1) := by decide +kernel
theorem dX3_overhead_14 : decode cX3_overhead 14 = .ok (.invokevirtual 119, 3) := by decide +kernel
theorem dX3_overhead_17 : decode cX3_overhead 17 = .ok (.aload_n 0, 1) := by decide +kernel
theorem dX3_overhead_18 : decode cX3_overhead 18 = .ok (.getfield 17, 3) := by decide +kernel
theorem dX3_overhead_21 : decode cX3_overhead 21 = .ok (.ifCond .ne 13, 3) := by decide +kernel
theorem dX3_overhead_24 : decode cX3_overhead 24 = .ok (.new 79, 3) := by decide +kernel
theorem dX3_overhead_27 : decode cX3_overhead 27 = .ok (.dup, 1) := by decide +kernel
theorem dX3_overhead_28 : decode cX3_overhead 28 = .ok (.ldc 126, 2) := by decide +kernel
theorem dX3_overhead_30 : decode cX3_overhead 30 = .ok (.invokespecial 83, 3) := by decide +kernel
theorem dX3_overhead_33 : decode cX3_overhead 33 = .ok (.athrow, 1) := by decide +kernel
theorem dX3_overhead_34 : decode cX3_overhead 34 = .ok (.aload_n 0, 1) := by decide +kernel
theorem dX3_overhead_35 : decode cX3_overhead 35 = .ok (.iload_n 1, 1) := by decide +kernel
theorem dX3_overhead_36 : decode cX3_overhead 36 = .ok (.aload_n 0, 1) := by decide +kernel
theorem dX3_overhead_37 : decode cX3_overhead 37 = .ok (.getfield 17, 3) := by decide +kernel
theorem dX3_overhead_40 : decode cX3_overhead 40 = .ok (.iload_n 2, 1) := by decide +kernel
theorem dX3_overhead_41 : decode cX3_overhead 41 = .ok (.imul, 1) := by decide +kernel
theorem dX3_overhead_42 : decode cX3_overhead 42 = .ok (.invokevirtual 122, 3) := by decide +kernel
theorem dX3_overhead_45 : decode cX3_overhead 45 = .ok (.ireturn, 1) := by decide +kernel
set_option maxRecDepth 20000 in
theorem ggX3_income_X3_requireWell : GoodIn wsX3_income wsX3_requireWell := goodIn_ca (goodIn_r _ [6, 7, 8, 9, 110, 111, 112, 113, 114, 115, 116, 117, 118, 119, 120, 121, 122, 123, 124] (by decide +kernel) (by decide +kernel)) (goodIn_sub (fun _ h => List.mem_cons_of_mem _ (List.mem_append_left _ (List.mem_append_left _ (List.mem_append_right _ h)))) (by decide +kernel))
set_option maxRecDepth 20000 in
theorem gX3_income_X3_requireWell : GoodIn wsX3_income (wsV RX3 90 RX3 yX3_requireWell wsX3_requireWell) := goodIn_app (goodIn_of _ (by decide +kernel)) ggX3_income_X3_requireWell
set_option maxRecDepth 20000 in
theorem ggX3_income_X3_requireRange : GoodIn wsX3_income wsX3_requireRange := goodIn_ca (goodIn_r _ [13, 14, 15] (by decide +kernel) (by decide +kernel)) (goodIn_sub (fun _ h => List.mem_cons_of_mem _ (List.mem_append_left _ (List.mem_append_right _ h))) (by decide +kernel))
set_option maxRecDepth 20000 in
theorem gX3_income_X3_requireRange : GoodIn wsX3_income (wsV RX3 68 RX3 yX3_requireRange wsX3_requireRange) := goodIn_app (goodIn_of _ (by decide +kernel)) ggX3_income_X3_requireRange
set_option maxRecDepth 20000 in
theorem ggX3_income_X3_requireRoomForVoucher : GoodIn wsX3_income wsX3_requireRoomForVoucher := goodIn_ca (goodIn_r _ [19, 20, 21, 22, 110, 111, 112, 113, 114, 115, 116, 117, 118, 119, 120, 121, 122, 123, 124] (by decide +kernel) (by decide +kernel)) (goodIn_sub (fun _ h => List.mem_cons_of_mem _ (List.mem_append_right _ h)) (by decide +kernel))
set_option maxRecDepth 20000 in
theorem gX3_income_X3_requireRoomForVoucher : GoodIn wsX3_income (wsV RX3 119 RX3 yX3_requireRoomForVoucher wsX3_requireRoomForVoucher) := goodIn_app (goodIn_of _ (by decide +kernel)) ggX3_income_X3_requireRoomForVoucher
set_option maxRecDepth 20000 in
theorem ggX3_income_X3_addVoucher : GoodIn wsX3_income wsX3_addVoucher := goodIn_r _ [26, 22, 27, 28, 29, 30, 31, 32, 33, 5, 34, 35, 36, 37, 38, 39, 40, 41, 42, 43, 44, 45, 46, 47, 48, 49, 50, 51, 52, 53, 54, 55, 56, 57, 58, 59, 60, 61, 62, 63, 64, 65, 66, 67, 68, 69, 70, 71, 72, 73, 74, 75, 76, 77, 78, 79, 80, 81, 82, 83, 84, 85, 86, 87, 88, 89, 90, 91, 92, 93, 94, 95, 96, 97, 98, 99, 100, 101, 102, 103, 104, 105, 106, 107, 108, 109, 110, 111, 112, 113, 114, 115, 116, 117, 118, 119, 120, 121, 122, 123, 124, 125, 126, 127, 128, 129, 130, 131, 132, 133] (by decide +kernel) (by decide +kernel)
set_option maxRecDepth 20000 in
theorem gX3_income_X3_addVoucher : GoodIn wsX3_income (wsV RX3 122 RX3 yX3_addVoucher wsX3_addVoucher) := goodIn_app (goodIn_of _ (by decide +kernel)) ggX3_income_X3_addVoucher
theorem dX3_income_0 : decode cX3_income 0 = .ok (.aload_n 0, 1) := by decide +kernel
theorem dX3_income_1 : decode cX3_income 1 = .ok (.iload_n 1, 1) := by decide +kernel
theorem dX3_income_2 : decode cX3_income 2 = .ok (.invokevirtual 90, 3) := by decide +kernel
theorem dX3_income_5 : decode cX3_income 5 = .ok (.aload_n 0, 1) := by decide +kernel
theorem dX3_income_6 : decode cX3_income 6 = .ok (.iload_n 2, 1) := by decide +kernel
theorem dX3_income_7 : decode cX3_income 7 = .ok (.iconst 1, 1) := by decide +kernel
theorem dX3_income_8 : decode cX3_income 8 = .ok (.ldc 118, 2) := by decide +kernel
theorem dX3_income_10 : decode cX3_income 10 = .ok (.invokevirtual 68, 3) := by decide +kernel
theorem dX3_income_13 : decode cX3_income 13 = .ok (.aload_n 0, 1) := by decide +kernel
theorem dX3_income_14 : decode cX3_income 14 = .ok (.invokevirtual 119, 3) := by decide +kernel
theorem dX3_income_17 : decode cX3_income 17 = .ok (.aload_n 0, 1) := by decide +kernel
theorem dX3_income_18 : decode cX3_income 18 = .ok (.iload_n 1, 1) := by decide +kernel
theorem dX3_income_19 : decode cX3_income 19 = .ok (.iload_n 2, 1) := by decide +kernel
theorem dX3_income_20 : decode cX3_income 20 = .ok (.ineg, 1) := by decide +kernel
theorem dX3_income_21 : decode cX3_income 21 = .ok (.invokevirtual 122, 3) := by decide +kernel
theorem dX3_income_24 : decode cX3_income 24 = .ok (.ireturn, 1) := by decide +kernel
set_option maxRecDepth 20000 in
theorem ggX3_move_X3_requireVoucher : GoodIn wsX3_move wsX3_requireVoucher := goodIn_ca (goodIn_r _ [11, 12, 13, 14, 114, 115, 116, 117, 118, 119, 120, 121, 122, 123, 124, 125, 126, 127, 128] (by decide +kernel) (by decide +kernel)) (goodIn_sub (fun _ h => List.mem_cons_of_mem _ (List.mem_append_right _ h)) (by decide +kernel))
set_option maxRecDepth 20000 in
theorem gX3_move_X3_requireVoucher : GoodIn wsX3_move (wsV RX3 128 RX3 yX3_requireVoucher wsX3_requireVoucher) := goodIn_app (goodIn_of _ (by decide +kernel)) ggX3_move_X3_requireVoucher
set_option maxRecDepth 20000 in
theorem ggX3_move_X3_requireWell : GoodIn wsX3_move wsX3_requireWell := goodIn_ca (goodIn_r _ [18, 12, 13, 19, 114, 115, 116, 117, 118, 119, 120, 121, 122, 123, 124, 125, 126, 127, 128] (by decide +kernel) (by decide +kernel)) (goodIn_sub (fun _ h => List.mem_cons_of_mem _ (List.mem_append_right _ h)) (by decide +kernel))
set_option maxRecDepth 20000 in
theorem gX3_move_X3_requireWell : GoodIn wsX3_move (wsV RX3 90 RX3 yX3_requireWell wsX3_requireWell) := goodIn_app (goodIn_of _ (by decide +kernel)) ggX3_move_X3_requireWell
set_option maxRecDepth 20000 in
theorem ggX3_move_X3_accountAnew : GoodIn wsX3_move wsX3_accountAnew := goodIn_r _ [23, 5, 14, 4, 24, 25, 26, 27, 28, 29, 30, 31, 32, 33, 34, 35, 36, 37, 38, 39, 40, 41, 42, 43, 44, 10, 45, 3, 46, 47, 48, 49, 50, 51, 52, 53, 54, 55, 56, 57, 58, 59, 60, 61, 62, 63, 64, 65, 66, 67, 68, 69, 70, 71, 72, 73, 74, 75, 76, 77, 78, 79, 80, 81, 82, 83, 84, 85, 86, 87, 88, 89, 90, 91, 92, 93, 94, 95, 96, 97, 98, 99, 100, 101, 102, 103, 104, 105, 106, 107, 108, 109, 110, 111, 112, 113, 114, 115, 116, 117, 118, 119, 120, 121, 122, 123, 124, 125, 126, 127, 128, 129, 130, 131, 132, 133, 134, 135, 136, 137] (by decide +kernel) (by decide +kernel)
set_option maxRecDepth 20000 in
theorem gX3_move_X3_accountAnew : GoodIn wsX3_move (wsV RX3 133 RX3 yX3_accountAnew wsX3_accountAnew) := goodIn_app (goodIn_of _ (by decide +kernel)) ggX3_move_X3_accountAnew
theorem dX3_move_0 : decode cX3_move 0 = .ok (.aload_n 0, 1) := by decide +kernel
theorem dX3_move_1 : decode cX3_move 1 = .ok (.iload_n 1, 1) := by decide +kernel
theorem dX3_move_2 : decode cX3_move 2 = .ok (.invokevirtual 128, 3) := by decide +kernel
theorem dX3_move_5 : decode cX3_move 5 = .ok (.aload_n 0, 1) := by decide +kernel
theorem dX3_move_6 : decode cX3_move 6 = .ok (.iload_n 2, 1) := by decide +kernel
theorem dX3_move_7 : decode cX3_move 7 = .ok (.invokevirtual 90, 3) := by decide +kernel
theorem dX3_move_10 : decode cX3_move 10 = .ok (.aload_n 0, 1) := by decide +kernel
theorem dX3_move_11 : decode cX3_move 11 = .ok (.getfield 32, 3) := by decide +kernel
theorem dX3_move_14 : decode cX3_move 14 = .ok (.iload_n 1, 1) := by decide +kernel
theorem dX3_move_15 : decode cX3_move 15 = .ok (.iaload, 1) := by decide +kernel
theorem dX3_move_16 : decode cX3_move 16 = .ok (.ifCond .ge 13, 3) := by decide +kernel
theorem dX3_move_19 : decode cX3_move 19 = .ok (.new 79, 3) := by decide +kernel
theorem dX3_move_22 : decode cX3_move 22 = .ok (.dup, 1) := by decide +kernel
theorem dX3_move_23 : decode cX3_move 23 = .ok (.ldc 131, 2) := by decide +kernel
theorem dX3_move_25 : decode cX3_move 25 = .ok (.invokespecial 83, 3) := by decide +kernel
theorem dX3_move_28 : decode cX3_move 28 = .ok (.athrow, 1) := by decide +kernel
theorem dX3_move_29 : decode cX3_move 29 = .ok (.aload_n 0, 1) := by decide +kernel
theorem dX3_move_30 : decode cX3_move 30 = .ok (.getfield 29, 3) := by decide +kernel
theorem dX3_move_33 : decode cX3_move 33 = .ok (.iload_n 1, 1) := by decide +kernel
theorem dX3_move_34 : decode cX3_move 34 = .ok (.iaload, 1) := by decide +kernel
theorem dX3_move_35 : decode cX3_move 35 = .ok (.istore_n 3, 1) := by decide +kernel
theorem dX3_move_36 : decode cX3_move 36 = .ok (.aload_n 0, 1) := by decide +kernel
theorem dX3_move_37 : decode cX3_move 37 = .ok (.getfield 29, 3) := by decide +kernel
theorem dX3_move_40 : decode cX3_move 40 = .ok (.iload_n 1, 1) := by decide +kernel
theorem dX3_move_41 : decode cX3_move 41 = .ok (.iload_n 2, 1) := by decide +kernel
theorem dX3_move_42 : decode cX3_move 42 = .ok (.iastore, 1) := by decide +kernel
theorem dX3_move_43 : decode cX3_move 43 = .ok (.aload_n 0, 1) := by decide +kernel
theorem dX3_move_44 : decode cX3_move 44 = .ok (.getfield 22, 3) := by decide +kernel
theorem dX3_move_47 : decode cX3_move 47 = .ok (.iload_n 2, 1) := by decide +kernel
theorem dX3_move_48 : decode cX3_move 48 = .ok (.aaload, 1) := by decide +kernel
theorem dX3_move_49 : decode cX3_move 49 = .ok (.iconst 1, 1) := by decide +kernel
theorem dX3_move_50 : decode cX3_move 50 = .ok (.putfield 97, 3) := by decide +kernel
theorem dX3_move_53 : decode cX3_move 53 = .ok (.aload_n 0, 1) := by decide +kernel
theorem dX3_move_54 : decode cX3_move 54 = .ok (.iload_n 3, 1) := by decide +kernel
theorem dX3_move_55 : decode cX3_move 55 = .ok (.invokevirtual 133, 3) := by decide +kernel
theorem dX3_move_58 : decode cX3_move 58 = .ok (.aload_n 0, 1) := by decide +kernel
theorem dX3_move_59 : decode cX3_move 59 = .ok (.iload_n 2, 1) := by decide +kernel
theorem dX3_move_60 : decode cX3_move 60 = .ok (.invokevirtual 133, 3) := by decide +kernel
theorem dX3_move_63 : decode cX3_move 63 = .ok (.iload_n 3, 1) := by decide +kernel
theorem dX3_move_64 : decode cX3_move 64 = .ok (.ireturn, 1) := by decide +kernel
theorem dX3_vouchers_0 : decode cX3_vouchers 0 = .ok (.aload_n 0, 1) := by decide +kernel
theorem dX3_vouchers_1 : decode cX3_vouchers 1 = .ok (.getfield 35, 3) := by decide +kernel
theorem dX3_vouchers_4 : decode cX3_vouchers 4 = .ok (.ireturn, 1) := by decide +kernel
set_option maxRecDepth 20000 in
theorem ggX3_wellOf_X3_requireVoucher : GoodIn wsX3_wellOf wsX3_requireVoucher := goodIn_ca (goodIn_r _ [6, 7, 8, 9, 10, 11, 12, 13, 14, 15, 16, 17, 18, 19, 20, 21, 22, 23, 24] (by decide +kernel) (by decide +kernel)) (goodIn_sub (fun _ h => List.mem_cons_of_mem _ (List.mem_append_right _ h)) (by decide +kernel))
set_option maxRecDepth 20000 in
theorem gX3_wellOf_X3_requireVoucher : GoodIn wsX3_wellOf (wsV RX3 128 RX3 yX3_requireVoucher wsX3_requireVoucher) := goodIn_app (goodIn_of _ (by decide +kernel)) ggX3_wellOf_X3_requireVoucher
theorem dX3_wellOf_0 : decode cX3_wellOf 0 = .ok (.aload_n 0, 1) := by decide +kernel
theorem dX3_wellOf_1 : decode cX3_wellOf 1 = .ok (.iload_n 1, 1) := by decide +kernel
theorem dX3_wellOf_2 : decode cX3_wellOf 2 = .ok (.invokevirtual 128, 3) := by decide +kernel
theorem dX3_wellOf_5 : decode cX3_wellOf 5 = .ok (.aload_n 0, 1) := by decide +kernel
theorem dX3_wellOf_6 : decode cX3_wellOf 6 = .ok (.getfield 29, 3) := by decide +kernel
theorem dX3_wellOf_9 : decode cX3_wellOf 9 = .ok (.iload_n 1, 1) := by decide +kernel
theorem dX3_wellOf_10 : decode cX3_wellOf 10 = .ok (.iaload, 1) := by decide +kernel
theorem dX3_wellOf_11 : decode cX3_wellOf 11 = .ok (.ireturn, 1) := by decide +kernel
set_option maxRecDepth 20000 in
theorem ggX3_amountOf_X3_requireVoucher : GoodIn wsX3_amountOf wsX3_requireVoucher := goodIn_ca (goodIn_r _ [6, 7, 8, 9, 10, 11, 12, 13, 14, 15, 16, 17, 18, 19, 20, 21, 22, 23, 24] (by decide +kernel) (by decide +kernel)) (goodIn_sub (fun _ h => List.mem_cons_of_mem _ (List.mem_append_right _ h)) (by decide +kernel))
set_option maxRecDepth 20000 in
theorem gX3_amountOf_X3_requireVoucher : GoodIn wsX3_amountOf (wsV RX3 128 RX3 yX3_requireVoucher wsX3_requireVoucher) := goodIn_app (goodIn_of _ (by decide +kernel)) ggX3_amountOf_X3_requireVoucher
theorem dX3_amountOf_0 : decode cX3_amountOf 0 = .ok (.aload_n 0, 1) := by decide +kernel
theorem dX3_amountOf_1 : decode cX3_amountOf 1 = .ok (.iload_n 1, 1) := by decide +kernel
theorem dX3_amountOf_2 : decode cX3_amountOf 2 = .ok (.invokevirtual 128, 3) := by decide +kernel
theorem dX3_amountOf_5 : decode cX3_amountOf 5 = .ok (.aload_n 0, 1) := by decide +kernel
theorem dX3_amountOf_6 : decode cX3_amountOf 6 = .ok (.getfield 32, 3) := by decide +kernel
theorem dX3_amountOf_9 : decode cX3_amountOf 9 = .ok (.iload_n 1, 1) := by decide +kernel
theorem dX3_amountOf_10 : decode cX3_amountOf 10 = .ok (.iaload, 1) := by decide +kernel
theorem dX3_amountOf_11 : decode cX3_amountOf 11 = .ok (.ireturn, 1) := by decide +kernel
set_option maxRecDepth 20000 in
theorem ggX3_isIn_X3_requireWell : GoodIn wsX3_isIn wsX3_requireWell := goodIn_ca (goodIn_r _ [6, 7, 8, 9, 20, 21, 22, 23, 24, 25, 26, 27, 28, 29, 30, 31, 32, 33, 34] (by decide +kernel) (by decide +kernel)) (goodIn_sub (fun _ h => List.mem_cons_of_mem _ (List.mem_append_right _ h)) (by decide +kernel))
set_option maxRecDepth 20000 in
theorem gX3_isIn_X3_requireWell : GoodIn wsX3_isIn (wsV RX3 90 RX3 yX3_requireWell wsX3_requireWell) := goodIn_app (goodIn_of _ (by decide +kernel)) ggX3_isIn_X3_requireWell
set_option maxRecDepth 20000 in
theorem ggX3_isIn_X3_requirePartner : GoodIn wsX3_isIn wsX3_requirePartner := goodIn_ca (goodIn_r _ [13, 7, 8] (by decide +kernel) (by decide +kernel)) (goodIn_sub (fun _ h => List.mem_cons_of_mem _ (List.mem_append_right _ h)) (by decide +kernel))
set_option maxRecDepth 20000 in
theorem gX3_isIn_X3_requirePartner : GoodIn wsX3_isIn (wsV RX3 94 RX3 yX3_requirePartner wsX3_requirePartner) := goodIn_app (goodIn_of _ (by decide +kernel)) ggX3_isIn_X3_requirePartner
set_option maxRecDepth 20000 in
theorem ggX3_isIn_X3_shareIfIn : GoodIn wsX3_isIn wsX3_shareIfIn := goodIn_r _ [17, 18, 19, 35, 36, 37, 38, 39, 40, 41, 42, 20, 21, 22, 23, 24, 25, 26, 27, 28, 29, 30, 31, 32, 33, 34] (by decide +kernel) (by decide +kernel)
set_option maxRecDepth 20000 in
theorem gX3_isIn_X3_shareIfIn : GoodIn wsX3_isIn (wsV RX3 136 RX3 yX3_shareIfIn wsX3_shareIfIn) := goodIn_app (goodIn_of _ (by decide +kernel)) ggX3_isIn_X3_shareIfIn
theorem dX3_isIn_0 : decode cX3_isIn 0 = .ok (.aload_n 0, 1) := by decide +kernel
theorem dX3_isIn_1 : decode cX3_isIn 1 = .ok (.iload_n 1, 1) := by decide +kernel
theorem dX3_isIn_2 : decode cX3_isIn 2 = .ok (.invokevirtual 90, 3) := by decide +kernel
theorem dX3_isIn_5 : decode cX3_isIn 5 = .ok (.aload_n 0, 1) := by decide +kernel
theorem dX3_isIn_6 : decode cX3_isIn 6 = .ok (.iload_n 2, 1) := by decide +kernel
theorem dX3_isIn_7 : decode cX3_isIn 7 = .ok (.invokevirtual 94, 3) := by decide +kernel
theorem dX3_isIn_10 : decode cX3_isIn 10 = .ok (.aload_n 0, 1) := by decide +kernel
theorem dX3_isIn_11 : decode cX3_isIn 11 = .ok (.aload_n 0, 1) := by decide +kernel
theorem dX3_isIn_12 : decode cX3_isIn 12 = .ok (.getfield 22, 3) := by decide +kernel
theorem dX3_isIn_15 : decode cX3_isIn 15 = .ok (.iload_n 1, 1) := by decide +kernel
theorem dX3_isIn_16 : decode cX3_isIn 16 = .ok (.aaload, 1) := by decide +kernel
theorem dX3_isIn_17 : decode cX3_isIn 17 = .ok (.iload_n 2, 1) := by decide +kernel
theorem dX3_isIn_18 : decode cX3_isIn 18 = .ok (.invokevirtual 136, 3) := by decide +kernel
theorem dX3_isIn_21 : decode cX3_isIn 21 = .ok (.ifCond .le 7, 3) := by decide +kernel
theorem dX3_isIn_24 : decode cX3_isIn 24 = .ok (.iconst 1, 1) := by decide +kernel
theorem dX3_isIn_25 : decode cX3_isIn 25 = .ok (.goto 4, 3) := by decide +kernel
theorem dX3_isIn_28 : decode cX3_isIn 28 = .ok (.iconst 0, 1) := by decide +kernel
theorem dX3_isIn_29 : decode cX3_isIn 29 = .ok (.ireturn, 1) := by decide +kernel
set_option maxRecDepth 20000 in
theorem ggX3_toEarn_X3_requireWell : GoodIn wsX3_toEarn wsX3_requireWell := goodIn_ca (goodIn_r _ [7, 8, 9, 10, 15, 16, 17, 18, 19, 20, 21, 22, 23, 24, 25, 26, 27, 28, 29] (by decide +kernel) (by decide +kernel)) (goodIn_sub (fun _ h => List.mem_cons_of_mem _ (List.mem_append_right _ h)) (by decide +kernel))
set_option maxRecDepth 20000 in
theorem gX3_toEarn_X3_requireWell : GoodIn wsX3_toEarn (wsV RX3 90 RX3 yX3_requireWell wsX3_requireWell) := goodIn_app (goodIn_of _ (by decide +kernel)) ggX3_toEarn_X3_requireWell
set_option maxRecDepth 20000 in
theorem ggX3_toEarn_X3_requirePartner : GoodIn wsX3_toEarn wsX3_requirePartner := goodIn_ca (goodIn_r _ [14, 8, 9] (by decide +kernel) (by decide +kernel)) (goodIn_sub (fun _ h => List.mem_cons_of_mem _ (List.mem_append_right _ h)) (by decide +kernel))
set_option maxRecDepth 20000 in
theorem gX3_toEarn_X3_requirePartner : GoodIn wsX3_toEarn (wsV RX3 94 RX3 yX3_requirePartner wsX3_requirePartner) := goodIn_app (goodIn_of _ (by decide +kernel)) ggX3_toEarn_X3_requirePartner
theorem dX3_toEarn_0 : decode cX3_toEarn 0 = .ok (.aload_n 0, 1) := by decide +kernel
theorem dX3_toEarn_1 : decode cX3_toEarn 1 = .ok (.iload_n 1, 1) := by decide +kernel
theorem dX3_toEarn_2 : decode cX3_toEarn 2 = .ok (.invokevirtual 90, 3) := by decide +kernel
theorem dX3_toEarn_5 : decode cX3_toEarn 5 = .ok (.aload_n 0, 1) := by decide +kernel
theorem dX3_toEarn_6 : decode cX3_toEarn 6 = .ok (.iload_n 2, 1) := by decide +kernel
theorem dX3_toEarn_7 : decode cX3_toEarn 7 = .ok (.invokevirtual 94, 3) := by decide +kernel
theorem dX3_toEarn_10 : decode cX3_toEarn 10 = .ok (.aload_n 0, 1) := by decide +kernel
theorem dX3_toEarn_11 : decode cX3_toEarn 11 = .ok (.getfield 22, 3) := by decide +kernel
theorem dX3_toEarn_14 : decode cX3_toEarn 14 = .ok (.iload_n 1, 1) := by decide +kernel
theorem dX3_toEarn_15 : decode cX3_toEarn 15 = .ok (.aaload, 1) := by decide +kernel
theorem dX3_toEarn_16 : decode cX3_toEarn 16 = .ok (.getfield 140, 3) := by decide +kernel
theorem dX3_toEarn_19 : decode cX3_toEarn 19 = .ok (.iload_n 2, 1) := by decide +kernel
theorem dX3_toEarn_20 : decode cX3_toEarn 20 = .ok (.laload, 1) := by decide +kernel
theorem dX3_toEarn_21 : decode cX3_toEarn 21 = .ok (.lreturn, 1) := by decide +kernel
set_option maxRecDepth 20000 in
theorem ggX3_backAt_X3_requireWell : GoodIn wsX3_backAt wsX3_requireWell := goodIn_ca (goodIn_r _ [7, 8, 9, 10, 15, 16, 17, 18, 19, 20, 21, 22, 23, 24, 25, 26, 27, 28, 29] (by decide +kernel) (by decide +kernel)) (goodIn_sub (fun _ h => List.mem_cons_of_mem _ (List.mem_append_right _ h)) (by decide +kernel))
set_option maxRecDepth 20000 in
theorem gX3_backAt_X3_requireWell : GoodIn wsX3_backAt (wsV RX3 90 RX3 yX3_requireWell wsX3_requireWell) := goodIn_app (goodIn_of _ (by decide +kernel)) ggX3_backAt_X3_requireWell
set_option maxRecDepth 20000 in
theorem ggX3_backAt_X3_requirePartner : GoodIn wsX3_backAt wsX3_requirePartner := goodIn_ca (goodIn_r _ [14, 8, 9] (by decide +kernel) (by decide +kernel)) (goodIn_sub (fun _ h => List.mem_cons_of_mem _ (List.mem_append_right _ h)) (by decide +kernel))
set_option maxRecDepth 20000 in
theorem gX3_backAt_X3_requirePartner : GoodIn wsX3_backAt (wsV RX3 94 RX3 yX3_requirePartner wsX3_requirePartner) := goodIn_app (goodIn_of _ (by decide +kernel)) ggX3_backAt_X3_requirePartner
theorem dX3_backAt_0 : decode cX3_backAt 0 = .ok (.aload_n 0, 1) := by decide +kernel
theorem dX3_backAt_1 : decode cX3_backAt 1 = .ok (.iload_n 1, 1) := by decide +kernel
theorem dX3_backAt_2 : decode cX3_backAt 2 = .ok (.invokevirtual 90, 3) := by decide +kernel
theorem dX3_backAt_5 : decode cX3_backAt 5 = .ok (.aload_n 0, 1) := by decide +kernel
theorem dX3_backAt_6 : decode cX3_backAt 6 = .ok (.iload_n 2, 1) := by decide +kernel
theorem dX3_backAt_7 : decode cX3_backAt 7 = .ok (.invokevirtual 94, 3) := by decide +kernel
theorem dX3_backAt_10 : decode cX3_backAt 10 = .ok (.aload_n 0, 1) := by decide +kernel
theorem dX3_backAt_11 : decode cX3_backAt 11 = .ok (.getfield 22, 3) := by decide +kernel
theorem dX3_backAt_14 : decode cX3_backAt 14 = .ok (.iload_n 1, 1) := by decide +kernel
theorem dX3_backAt_15 : decode cX3_backAt 15 = .ok (.aaload, 1) := by decide +kernel
theorem dX3_backAt_16 : decode cX3_backAt 16 = .ok (.getfield 144, 3) := by decide +kernel
theorem dX3_backAt_19 : decode cX3_backAt 19 = .ok (.iload_n 2, 1) := by decide +kernel
theorem dX3_backAt_20 : decode cX3_backAt 20 = .ok (.iaload, 1) := by decide +kernel
theorem dX3_backAt_21 : decode cX3_backAt 21 = .ok (.ireturn, 1) := by decide +kernel
set_option maxRecDepth 20000 in
theorem ggX3_charged_X3_requireWell : GoodIn wsX3_charged wsX3_requireWell := goodIn_ca (goodIn_r _ [7, 8, 9, 10, 15, 16, 17, 18, 19, 20, 21, 22, 23, 24, 25, 26, 27, 28, 29] (by decide +kernel) (by decide +kernel)) (goodIn_sub (fun _ h => List.mem_cons_of_mem _ (List.mem_append_right _ h)) (by decide +kernel))
set_option maxRecDepth 20000 in
theorem gX3_charged_X3_requireWell : GoodIn wsX3_charged (wsV RX3 90 RX3 yX3_requireWell wsX3_requireWell) := goodIn_app (goodIn_of _ (by decide +kernel)) ggX3_charged_X3_requireWell
set_option maxRecDepth 20000 in
theorem ggX3_charged_X3_requirePartner : GoodIn wsX3_charged wsX3_requirePartner := goodIn_ca (goodIn_r _ [14, 8, 9] (by decide +kernel) (by decide +kernel)) (goodIn_sub (fun _ h => List.mem_cons_of_mem _ (List.mem_append_right _ h)) (by decide +kernel))
set_option maxRecDepth 20000 in
theorem gX3_charged_X3_requirePartner : GoodIn wsX3_charged (wsV RX3 94 RX3 yX3_requirePartner wsX3_requirePartner) := goodIn_app (goodIn_of _ (by decide +kernel)) ggX3_charged_X3_requirePartner
theorem dX3_charged_0 : decode cX3_charged 0 = .ok (.aload_n 0, 1) := by decide +kernel
theorem dX3_charged_1 : decode cX3_charged 1 = .ok (.iload_n 1, 1) := by decide +kernel
theorem dX3_charged_2 : decode cX3_charged 2 = .ok (.invokevirtual 90, 3) := by decide +kernel
theorem dX3_charged_5 : decode cX3_charged 5 = .ok (.aload_n 0, 1) := by decide +kernel
theorem dX3_charged_6 : decode cX3_charged 6 = .ok (.iload_n 2, 1) := by decide +kernel
theorem dX3_charged_7 : decode cX3_charged 7 = .ok (.invokevirtual 94, 3) := by decide +kernel
theorem dX3_charged_10 : decode cX3_charged 10 = .ok (.aload_n 0, 1) := by decide +kernel
theorem dX3_charged_11 : decode cX3_charged 11 = .ok (.getfield 22, 3) := by decide +kernel
theorem dX3_charged_14 : decode cX3_charged 14 = .ok (.iload_n 1, 1) := by decide +kernel
theorem dX3_charged_15 : decode cX3_charged 15 = .ok (.aaload, 1) := by decide +kernel
theorem dX3_charged_16 : decode cX3_charged 16 = .ok (.getfield 147, 3) := by decide +kernel
theorem dX3_charged_19 : decode cX3_charged 19 = .ok (.iload_n 2, 1) := by decide +kernel
theorem dX3_charged_20 : decode cX3_charged 20 = .ok (.iaload, 1) := by decide +kernel
theorem dX3_charged_21 : decode cX3_charged 21 = .ok (.ireturn, 1) := by decide +kernel
set_option maxRecDepth 20000 in
theorem ggX3_credited_X3_requireWell : GoodIn wsX3_credited wsX3_requireWell := goodIn_ca (goodIn_r _ [7, 8, 9, 10, 15, 16, 17, 18, 19, 20, 21, 22, 23, 24, 25, 26, 27, 28, 29] (by decide +kernel) (by decide +kernel)) (goodIn_sub (fun _ h => List.mem_cons_of_mem _ (List.mem_append_right _ h)) (by decide +kernel))
set_option maxRecDepth 20000 in
theorem gX3_credited_X3_requireWell : GoodIn wsX3_credited (wsV RX3 90 RX3 yX3_requireWell wsX3_requireWell) := goodIn_app (goodIn_of _ (by decide +kernel)) ggX3_credited_X3_requireWell
set_option maxRecDepth 20000 in
theorem ggX3_credited_X3_requirePartner : GoodIn wsX3_credited wsX3_requirePartner := goodIn_ca (goodIn_r _ [14, 8, 9] (by decide +kernel) (by decide +kernel)) (goodIn_sub (fun _ h => List.mem_cons_of_mem _ (List.mem_append_right _ h)) (by decide +kernel))
set_option maxRecDepth 20000 in
theorem gX3_credited_X3_requirePartner : GoodIn wsX3_credited (wsV RX3 94 RX3 yX3_requirePartner wsX3_requirePartner) := goodIn_app (goodIn_of _ (by decide +kernel)) ggX3_credited_X3_requirePartner
theorem dX3_credited_0 : decode cX3_credited 0 = .ok (.aload_n 0, 1) := by decide +kernel
theorem dX3_credited_1 : decode cX3_credited 1 = .ok (.iload_n 1, 1) := by decide +kernel
theorem dX3_credited_2 : decode cX3_credited 2 = .ok (.invokevirtual 90, 3) := by decide +kernel
theorem dX3_credited_5 : decode cX3_credited 5 = .ok (.aload_n 0, 1) := by decide +kernel
theorem dX3_credited_6 : decode cX3_credited 6 = .ok (.iload_n 2, 1) := by decide +kernel
theorem dX3_credited_7 : decode cX3_credited 7 = .ok (.invokevirtual 94, 3) := by decide +kernel
theorem dX3_credited_10 : decode cX3_credited 10 = .ok (.aload_n 0, 1) := by decide +kernel
theorem dX3_credited_11 : decode cX3_credited 11 = .ok (.getfield 22, 3) := by decide +kernel
theorem dX3_credited_14 : decode cX3_credited 14 = .ok (.iload_n 1, 1) := by decide +kernel
theorem dX3_credited_15 : decode cX3_credited 15 = .ok (.aaload, 1) := by decide +kernel
theorem dX3_credited_16 : decode cX3_credited 16 = .ok (.getfield 150, 3) := by decide +kernel
theorem dX3_credited_19 : decode cX3_credited 19 = .ok (.iload_n 2, 1) := by decide +kernel
theorem dX3_credited_20 : decode cX3_credited 20 = .ok (.iaload, 1) := by decide +kernel
theorem dX3_credited_21 : decode cX3_credited 21 = .ok (.ireturn, 1) := by decide +kernel
set_option maxRecDepth 20000 in
theorem ggX3_weight_X3_requireWell : GoodIn wsX3_weight wsX3_requireWell := goodIn_ca (goodIn_r _ [7, 8, 9, 10, 51, 52, 53, 54, 55, 56, 57, 58, 59, 60, 61, 62, 63, 64, 65] (by decide +kernel) (by decide +kernel)) (goodIn_sub (fun _ h => List.mem_cons_of_mem _ (List.mem_append_right _ h)) (by decide +kernel))
set_option maxRecDepth 20000 in
theorem gX3_weight_X3_requireWell : GoodIn wsX3_weight (wsV RX3 90 RX3 yX3_requireWell wsX3_requireWell) := goodIn_app (goodIn_of _ (by decide +kernel)) ggX3_weight_X3_requireWell
set_option maxRecDepth 20000 in
theorem ggX3_weight_X3_requirePartner : GoodIn wsX3_weight wsX3_requirePartner := goodIn_ca (goodIn_r _ [14, 8, 9] (by decide +kernel) (by decide +kernel)) (goodIn_sub (fun _ h => List.mem_cons_of_mem _ (List.mem_append_right _ h)) (by decide +kernel))
set_option maxRecDepth 20000 in
theorem gX3_weight_X3_requirePartner : GoodIn wsX3_weight (wsV RX3 94 RX3 yX3_requirePartner wsX3_requirePartner) := goodIn_app (goodIn_of _ (by decide +kernel)) ggX3_weight_X3_requirePartner
set_option maxRecDepth 20000 in
theorem ggX3_weight_X3_divideCost : GoodIn wsX3_weight wsX3_divideCost := goodIn_r _ [18, 19, 20, 21, 22, 2, 23, 24, 25, 26, 27, 28, 29, 30, 31, 32, 33, 34, 35, 36, 37, 38, 39, 40, 41, 6, 42, 43, 44, 45, 46, 47, 48, 49, 50, 51, 52, 53, 54, 55, 56, 57, 58, 59, 60, 61, 62, 63, 64, 65, 66, 67, 68, 69, 70, 71, 72, 73, 74] (by decide +kernel) (by decide +kernel)
set_option maxRecDepth 20000 in
theorem gX3_weight_X3_divideCost : GoodIn wsX3_weight (wsV RX3 153 RX3 yX3_divideCost wsX3_divideCost) := goodIn_app (goodIn_of _ (by decide +kernel)) ggX3_weight_X3_divideCost
theorem dX3_weight_0 : decode cX3_weight 0 = .ok (.aload_n 0, 1) := by decide +kernel
theorem dX3_weight_1 : decode cX3_weight 1 = .ok (.iload_n 1, 1) := by decide +kernel
theorem dX3_weight_2 : decode cX3_weight 2 = .ok (.invokevirtual 90, 3) := by decide +kernel
theorem dX3_weight_5 : decode cX3_weight 5 = .ok (.aload_n 0, 1) := by decide +kernel
theorem dX3_weight_6 : decode cX3_weight 6 = .ok (.iload_n 2, 1) := by decide +kernel
theorem dX3_weight_7 : decode cX3_weight 7 = .ok (.invokevirtual 94, 3) := by decide +kernel
theorem dX3_weight_10 : decode cX3_weight 10 = .ok (.aload_n 0, 1) := by decide +kernel
theorem dX3_weight_11 : decode cX3_weight 11 = .ok (.aload_n 0, 1) := by decide +kernel
theorem dX3_weight_12 : decode cX3_weight 12 = .ok (.getfield 22, 3) := by decide +kernel
theorem dX3_weight_15 : decode cX3_weight 15 = .ok (.iload_n 1, 1) := by decide +kernel
theorem dX3_weight_16 : decode cX3_weight 16 = .ok (.aaload, 1) := by decide +kernel
theorem dX3_weight_17 : decode cX3_weight 17 = .ok (.sipush 10000, 3) := by decide +kernel
theorem dX3_weight_20 : decode cX3_weight 20 = .ok (.invokevirtual 153, 3) := by decide +kernel
theorem dX3_weight_23 : decode cX3_weight 23 = .ok (.aload_n 0, 1) := by decide +kernel
theorem dX3_weight_24 : decode cX3_weight 24 = .ok (.getfield 63, 3) := by decide +kernel
theorem dX3_weight_27 : decode cX3_weight 27 = .ok (.iload_n 2, 1) := by decide +kernel
theorem dX3_weight_28 : decode cX3_weight 28 = .ok (.iaload, 1) := by decide +kernel
theorem dX3_weight_29 : decode cX3_weight 29 = .ok (.ireturn, 1) := by decide +kernel
set_option maxRecDepth 20000 in
theorem ggX3_call_X3_requireWell : GoodIn wsX3_call wsX3_requireWell := goodIn_ca (goodIn_r _ [14, 15, 16, 17, 59, 60, 61, 62, 63, 64, 65, 66, 67, 68, 69, 70, 71, 72, 73] (by decide +kernel) (by decide +kernel)) (goodIn_sub (fun _ h => List.mem_cons_of_mem _ (List.mem_append_left _ (List.mem_append_right _ h))) (by decide +kernel))
set_option maxRecDepth 20000 in
theorem gX3_call_X3_requireWell : GoodIn wsX3_call (wsV RX3 90 RX3 yX3_requireWell wsX3_requireWell) := goodIn_app (goodIn_of _ (by decide +kernel)) ggX3_call_X3_requireWell
set_option maxRecDepth 20000 in
theorem ggX3_call_X3_requireRange : GoodIn wsX3_call wsX3_requireRange := goodIn_ca (goodIn_r _ [21, 22, 23] (by decide +kernel) (by decide +kernel)) (goodIn_sub (fun _ h => List.mem_cons_of_mem _ (List.mem_append_right _ h)) (by decide +kernel))
set_option maxRecDepth 20000 in
theorem gX3_call_X3_requireRange : GoodIn wsX3_call (wsV RX3 68 RX3 yX3_requireRange wsX3_requireRange) := goodIn_app (goodIn_of _ (by decide +kernel)) ggX3_call_X3_requireRange
set_option maxRecDepth 20000 in
theorem ggX3_call_X3_divideCost : GoodIn wsX3_call wsX3_divideCost := goodIn_r _ [27, 6, 28, 29, 30, 7, 31, 32, 33, 34, 35, 36, 37, 38, 39, 40, 41, 42, 43, 44, 45, 46, 47, 48, 49, 13, 50, 51, 52, 53, 54, 55, 56, 57, 58, 59, 60, 61, 62, 63, 64, 65, 66, 67, 68, 69, 70, 71, 72, 73, 76, 77, 78, 79, 80, 81, 82, 83, 84] (by decide +kernel) (by decide +kernel)
set_option maxRecDepth 20000 in
theorem gX3_call_X3_divideCost : GoodIn wsX3_call (wsV RX3 153 RX3 yX3_divideCost wsX3_divideCost) := goodIn_app (goodIn_of _ (by decide +kernel)) ggX3_call_X3_divideCost
set_option maxRecDepth 20000 in
theorem ggX3_call_X1_divide : GoodIn wsX3_call wsX1_divide := goodIn_r _ [36, 37, 38, 39, 40, 41, 42, 43, 44, 45, 35, 46, 84] (by decide +kernel) (by decide +kernel)
set_option maxRecDepth 20000 in
theorem gX3_call_X1_divide : GoodIn wsX3_call (wsV RX3 162 RX1 yX1_divide wsX1_divide) := goodIn_app (goodIn_of _ (by decide +kernel)) ggX3_call_X1_divide
theorem dX3_call_0 : decode cX3_call 0 = .ok (.aload_n 0, 1) := by decide +kernel
theorem dX3_call_1 : decode cX3_call 1 = .ok (.iload_n 1, 1) := by decide +kernel
theorem dX3_call_2 : decode cX3_call 2 = .ok (.invokevirtual 90, 3) := by decide +kernel
theorem dX3_call_5 : decode cX3_call 5 = .ok (.aload_n 0, 1) := by decide +kernel
theorem dX3_call_6 : decode cX3_call 6 = .ok (.iload_n 2, 1) := by decide +kernel
theorem dX3_call_7 : decode cX3_call 7 = .ok (.iconst 1, 1) := by decide +kernel
theorem dX3_call_8 : decode cX3_call 8 = .ok (.ldc 118, 2) := by decide +kernel
theorem dX3_call_10 : decode cX3_call 10 = .ok (.invokevirtual 68, 3) := by decide +kernel
theorem dX3_call_13 : decode cX3_call 13 = .ok (.aload_n 0, 1) := by decide +kernel
theorem dX3_call_14 : decode cX3_call 14 = .ok (.getfield 44, 3) := by decide +kernel
theorem dX3_call_17 : decode cX3_call 17 = .ok (.bipush 20, 2) := by decide +kernel
theorem dX3_call_19 : decode cX3_call 19 = .ok (.if_icmp .lt 13, 3) := by decide +kernel
theorem dX3_call_22 : decode cX3_call 22 = .ok (.new 79, 3) := by decide +kernel
theorem dX3_call_25 : decode cX3_call 25 = .ok (.dup, 1) := by decide +kernel
theorem dX3_call_26 : decode cX3_call 26 = .ok (.ldc 157, 2) := by decide +kernel
theorem dX3_call_28 : decode cX3_call 28 = .ok (.invokespecial 83, 3) := by decide +kernel
theorem dX3_call_31 : decode cX3_call 31 = .ok (.athrow, 1) := by decide +kernel
theorem dX3_call_32 : decode cX3_call 32 = .ok (.aload_n 0, 1) := by decide +kernel
theorem dX3_call_33 : decode cX3_call 33 = .ok (.aload_n 0, 1) := by decide +kernel
theorem dX3_call_34 : decode cX3_call 34 = .ok (.getfield 22, 3) := by decide +kernel
theorem dX3_call_37 : decode cX3_call 37 = .ok (.iload_n 1, 1) := by decide +kernel
theorem dX3_call_38 : decode cX3_call 38 = .ok (.aaload, 1) := by decide +kernel
theorem dX3_call_39 : decode cX3_call 39 = .ok (.sipush 10000, 3) := by decide +kernel
theorem dX3_call_42 : decode cX3_call 42 = .ok (.invokevirtual 153, 3) := by decide +kernel
theorem dX3_call_45 : decode cX3_call 45 = .ok (.aload_n 0, 1) := by decide +kernel
theorem dX3_call_46 : decode cX3_call 46 = .ok (.getfield 53, 3) := by decide +kernel
theorem dX3_call_49 : decode cX3_call 49 = .ok (.iload_n 2, 1) := by decide +kernel
theorem dX3_call_50 : decode cX3_call 50 = .ok (.aload_n 0, 1) := by decide +kernel
theorem dX3_call_51 : decode cX3_call 51 = .ok (.getfield 63, 3) := by decide +kernel
theorem dX3_call_54 : decode cX3_call 54 = .ok (.aload_n 0, 1) := by decide +kernel
theorem dX3_call_55 : decode cX3_call 55 = .ok (.getfield 40, 3) := by decide +kernel
theorem dX3_call_58 : decode cX3_call 58 = .ok (.aload_n 0, 1) := by decide +kernel
theorem dX3_call_59 : decode cX3_call 59 = .ok (.getfield 44, 3) := by decide +kernel
theorem dX3_call_62 : decode cX3_call 62 = .ok (.aaload, 1) := by decide +kernel
theorem dX3_call_63 : decode cX3_call 63 = .ok (.getfield 159, 3) := by decide +kernel
theorem dX3_call_66 : decode cX3_call 66 = .ok (.invokevirtual 162, 3) := by decide +kernel
theorem dX3_call_69 : decode cX3_call 69 = .ok (.aload_n 0, 1) := by decide +kernel
theorem dX3_call_70 : decode cX3_call 70 = .ok (.dup, 1) := by decide +kernel
theorem dX3_call_71 : decode cX3_call 71 = .ok (.getfield 44, 3) := by decide +kernel
theorem dX3_call_74 : decode cX3_call 74 = .ok (.iconst 1, 1) := by decide +kernel
theorem dX3_call_75 : decode cX3_call 75 = .ok (.iadd, 1) := by decide +kernel
theorem dX3_call_76 : decode cX3_call 76 = .ok (.putfield 44, 3) := by decide +kernel
theorem dX3_call_79 : decode cX3_call 79 = .ok (.aload_n 0, 1) := by decide +kernel
theorem dX3_call_80 : decode cX3_call 80 = .ok (.getfield 44, 3) := by decide +kernel
theorem dX3_call_83 : decode cX3_call 83 = .ok (.iconst 1, 1) := by decide +kernel
theorem dX3_call_84 : decode cX3_call 84 = .ok (.isub, 1) := by decide +kernel
theorem dX3_call_85 : decode cX3_call 85 = .ok (.ireturn, 1) := by decide +kernel
set_option maxRecDepth 20000 in
theorem ggX3_pay_X3_requireCashCall : GoodIn wsX3_pay wsX3_requireCashCall := goodIn_ca (goodIn_r _ [10, 11, 12, 13, 18, 19, 20, 21, 22, 23, 24, 25, 26, 27, 28, 29, 30, 31, 32] (by decide +kernel) (by decide +kernel)) (goodIn_sub (fun _ h => List.mem_cons_of_mem _ (List.mem_append_right _ h)) (by decide +kernel))
set_option maxRecDepth 20000 in
theorem gX3_pay_X3_requireCashCall : GoodIn wsX3_pay (wsV RX3 166 RX3 yX3_requireCashCall wsX3_requireCashCall) := goodIn_app (goodIn_of _ (by decide +kernel)) ggX3_pay_X3_requireCashCall
set_option maxRecDepth 20000 in
theorem ggX3_pay_X3_requirePartner : GoodIn wsX3_pay wsX3_requirePartner := goodIn_ca (goodIn_r _ [17, 11, 12] (by decide +kernel) (by decide +kernel)) (goodIn_sub (fun _ h => List.mem_cons_of_mem _ (List.mem_append_right _ h)) (by decide +kernel))
set_option maxRecDepth 20000 in
theorem gX3_pay_X3_requirePartner : GoodIn wsX3_pay (wsV RX3 94 RX3 yX3_requirePartner wsX3_requirePartner) := goodIn_app (goodIn_of _ (by decide +kernel)) ggX3_pay_X3_requirePartner
theorem dX3_pay_0 : decode cX3_pay 0 = .ok (.aload_n 0, 1) := by decide +kernel
theorem dX3_pay_1 : decode cX3_pay 1 = .ok (.iload_n 1, 1) := by decide +kernel
theorem dX3_pay_2 : decode cX3_pay 2 = .ok (.invokevirtual 166, 3) := by decide +kernel
theorem dX3_pay_5 : decode cX3_pay 5 = .ok (.aload_n 0, 1) := by decide +kernel
theorem dX3_pay_6 : decode cX3_pay 6 = .ok (.iload_n 2, 1) := by decide +kernel
theorem dX3_pay_7 : decode cX3_pay 7 = .ok (.invokevirtual 94, 3) := by decide +kernel
theorem dX3_pay_10 : decode cX3_pay 10 = .ok (.aload_n 0, 1) := by decide +kernel
theorem dX3_pay_11 : decode cX3_pay 11 = .ok (.getfield 40, 3) := by decide +kernel
theorem dX3_pay_14 : decode cX3_pay 14 = .ok (.iload_n 1, 1) := by decide +kernel
theorem dX3_pay_15 : decode cX3_pay 15 = .ok (.aaload, 1) := by decide +kernel
theorem dX3_pay_16 : decode cX3_pay 16 = .ok (.astore_n 3, 1) := by decide +kernel
theorem dX3_pay_17 : decode cX3_pay 17 = .ok (.aload_n 3, 1) := by decide +kernel
theorem dX3_pay_18 : decode cX3_pay 18 = .ok (.getfield 159, 3) := by decide +kernel
theorem dX3_pay_21 : decode cX3_pay 21 = .ok (.iload_n 2, 1) := by decide +kernel
theorem dX3_pay_22 : decode cX3_pay 22 = .ok (.iaload, 1) := by decide +kernel
theorem dX3_pay_23 : decode cX3_pay 23 = .ok (.aload_n 3, 1) := by decide +kernel
theorem dX3_pay_24 : decode cX3_pay 24 = .ok (.getfield 169, 3) := by decide +kernel
theorem dX3_pay_27 : decode cX3_pay 27 = .ok (.iload_n 2, 1) := by decide +kernel
theorem dX3_pay_28 : decode cX3_pay 28 = .ok (.iaload, 1) := by decide +kernel
theorem dX3_pay_29 : decode cX3_pay 29 = .ok (.isub, 1) := by decide +kernel
theorem dX3_pay_30 : decode cX3_pay 30 = .ok (.istore 4, 2) := by decide +kernel
theorem dX3_pay_32 : decode cX3_pay 32 = .ok (.iload 4, 2) := by decide +kernel
theorem dX3_pay_34 : decode cX3_pay 34 = .ok (.ifCond .ne 13, 3) := by decide +kernel
theorem dX3_pay_37 : decode cX3_pay 37 = .ok (.new 79, 3) := by decide +kernel
theorem dX3_pay_40 : decode cX3_pay 40 = .ok (.dup, 1) := by decide +kernel
theorem dX3_pay_41 : decode cX3_pay 41 = .ok (.ldc 172, 2) := by decide +kernel
theorem dX3_pay_43 : decode cX3_pay 43 = .ok (.invokespecial 83, 3) := by decide +kernel
theorem dX3_pay_46 : decode cX3_pay 46 = .ok (.athrow, 1) := by decide +kernel
theorem dX3_pay_47 : decode cX3_pay 47 = .ok (.aload_n 3, 1) := by decide +kernel
theorem dX3_pay_48 : decode cX3_pay 48 = .ok (.getfield 169, 3) := by decide +kernel
theorem dX3_pay_51 : decode cX3_pay 51 = .ok (.iload_n 2, 1) := by decide +kernel
theorem dX3_pay_52 : decode cX3_pay 52 = .ok (.aload_n 3, 1) := by decide +kernel
theorem dX3_pay_53 : decode cX3_pay 53 = .ok (.getfield 159, 3) := by decide +kernel
theorem dX3_pay_56 : decode cX3_pay 56 = .ok (.iload_n 2, 1) := by decide +kernel
theorem dX3_pay_57 : decode cX3_pay 57 = .ok (.iaload, 1) := by decide +kernel
theorem dX3_pay_58 : decode cX3_pay 58 = .ok (.iastore, 1) := by decide +kernel
theorem dX3_pay_59 : decode cX3_pay 59 = .ok (.iload 4, 2) := by decide +kernel
theorem dX3_pay_61 : decode cX3_pay 61 = .ok (.ireturn, 1) := by decide +kernel
set_option maxRecDepth 20000 in
theorem ggX3_shareOut_X3_requireCashCall : GoodIn wsX3_shareOut wsX3_requireCashCall := goodIn_ca (goodIn_r _ [8, 9, 10, 11, 48, 49, 50, 51, 52, 53, 54, 55, 56, 57, 58, 59, 60, 61, 62] (by decide +kernel) (by decide +kernel)) (goodIn_sub (fun _ h => List.mem_cons_of_mem _ (List.mem_append_right _ h)) (by decide +kernel))
set_option maxRecDepth 20000 in
theorem gX3_shareOut_X3_requireCashCall : GoodIn wsX3_shareOut (wsV RX3 166 RX3 yX3_requireCashCall wsX3_requireCashCall) := goodIn_app (goodIn_of _ (by decide +kernel)) ggX3_shareOut_X3_requireCashCall
set_option maxRecDepth 20000 in
theorem ggX3_shareOut_X0_hasPayer : GoodIn wsX3_shareOut wsX0_hasPayer := goodIn_r _ [16, 17, 63, 64] (by decide +kernel) (by decide +kernel)
set_option maxRecDepth 20000 in
theorem gX3_shareOut_X0_hasPayer : GoodIn wsX3_shareOut (wsV RX3 174 RX0 yX0_hasPayer wsX0_hasPayer) := goodIn_app (goodIn_of _ (by decide +kernel)) ggX3_shareOut_X0_hasPayer
set_option maxRecDepth 20000 in
theorem ggX3_shareOut_X0_askedOfNonPayers : GoodIn wsX3_shareOut wsX0_askedOfNonPayers := goodIn_r _ [21, 17, 22, 63, 64] (by decide +kernel) (by decide +kernel)
set_option maxRecDepth 20000 in
theorem gX3_shareOut_X0_askedOfNonPayers : GoodIn wsX3_shareOut (wsV RX3 180 RX0 yX0_askedOfNonPayers wsX0_askedOfNonPayers) := goodIn_app (goodIn_of _ (by decide +kernel)) ggX3_shareOut_X0_askedOfNonPayers
set_option maxRecDepth 20000 in
theorem ggX3_shareOut_X3_moveToPayers : GoodIn wsX3_shareOut wsX3_moveToPayers := goodIn_r _ [26, 27, 28, 29, 30, 31, 32, 33, 34, 35, 36, 37, 38, 39, 40, 41, 42, 43, 44, 45, 46, 47, 48, 49, 50, 51, 52, 53, 54, 55, 56, 57, 58, 59, 60, 61, 62, 63, 64, 65] (by decide +kernel) (by decide +kernel)
set_option maxRecDepth 20000 in
theorem gX3_shareOut_X3_moveToPayers : GoodIn wsX3_shareOut (wsV RX3 186 RX3 yX3_moveToPayers wsX3_moveToPayers) := goodIn_app (goodIn_of _ (by decide +kernel)) ggX3_shareOut_X3_moveToPayers
theorem dX3_shareOut_0 : decode cX3_shareOut 0 = .ok (.aload_n 0, 1) := by decide +kernel
theorem dX3_shareOut_1 : decode cX3_shareOut 1 = .ok (.iload_n 1, 1) := by decide +kernel
theorem dX3_shareOut_2 : decode cX3_shareOut 2 = .ok (.invokevirtual 166, 3) := by decide +kernel
theorem dX3_shareOut_5 : decode cX3_shareOut 5 = .ok (.aload_n 0, 1) := by decide +kernel
theorem dX3_shareOut_6 : decode cX3_shareOut 6 = .ok (.getfield 40, 3) := by decide +kernel
theorem dX3_shareOut_9 : decode cX3_shareOut 9 = .ok (.iload_n 1, 1) := by decide +kernel
theorem dX3_shareOut_10 : decode cX3_shareOut 10 = .ok (.aaload, 1) := by decide +kernel
theorem dX3_shareOut_11 : decode cX3_shareOut 11 = .ok (.astore_n 2, 1) := by decide +kernel
theorem dX3_shareOut_12 : decode cX3_shareOut 12 = .ok (.aload_n 2, 1) := by decide +kernel
theorem dX3_shareOut_13 : decode cX3_shareOut 13 = .ok (.invokevirtual 174, 3) := by decide +kernel
theorem dX3_shareOut_16 : decode cX3_shareOut 16 = .ok (.ifCond .ne 13, 3) := by decide +kernel
theorem dX3_shareOut_19 : decode cX3_shareOut 19 = .ok (.new 79, 3) := by decide +kernel
theorem dX3_shareOut_22 : decode cX3_shareOut 22 = .ok (.dup, 1) := by decide +kernel
theorem dX3_shareOut_23 : decode cX3_shareOut 23 = .ok (.ldc 178, 2) := by decide +kernel
theorem dX3_shareOut_25 : decode cX3_shareOut 25 = .ok (.invokespecial 83, 3) := by decide +kernel
theorem dX3_shareOut_28 : decode cX3_shareOut 28 = .ok (.athrow, 1) := by decide +kernel
theorem dX3_shareOut_29 : decode cX3_shareOut 29 = .ok (.aload_n 2, 1) := by decide +kernel
theorem dX3_shareOut_30 : decode cX3_shareOut 30 = .ok (.invokevirtual 180, 3) := by decide +kernel
theorem dX3_shareOut_33 : decode cX3_shareOut 33 = .ok (.istore_n 3, 1) := by decide +kernel
theorem dX3_shareOut_34 : decode cX3_shareOut 34 = .ok (.iload_n 3, 1) := by decide +kernel
theorem dX3_shareOut_35 : decode cX3_shareOut 35 = .ok (.ifCond .ne 13, 3) := by decide +kernel
theorem dX3_shareOut_38 : decode cX3_shareOut 38 = .ok (.new 79, 3) := by decide +kernel
theorem dX3_shareOut_41 : decode cX3_shareOut 41 = .ok (.dup, 1) := by decide +kernel
theorem dX3_shareOut_42 : decode cX3_shareOut 42 = .ok (.ldc 184, 2) := by decide +kernel
theorem dX3_shareOut_44 : decode cX3_shareOut 44 = .ok (.invokespecial 83, 3) := by decide +kernel
theorem dX3_shareOut_47 : decode cX3_shareOut 47 = .ok (.athrow, 1) := by decide +kernel
theorem dX3_shareOut_48 : decode cX3_shareOut 48 = .ok (.aload_n 0, 1) := by decide +kernel
theorem dX3_shareOut_49 : decode cX3_shareOut 49 = .ok (.aload_n 2, 1) := by decide +kernel
theorem dX3_shareOut_50 : decode cX3_shareOut 50 = .ok (.iload_n 3, 1) := by decide +kernel
theorem dX3_shareOut_51 : decode cX3_shareOut 51 = .ok (.invokevirtual 186, 3) := by decide +kernel
theorem dX3_shareOut_54 : decode cX3_shareOut 54 = .ok (.iload_n 3, 1) := by decide +kernel
theorem dX3_shareOut_55 : decode cX3_shareOut 55 = .ok (.ireturn, 1) := by decide +kernel
set_option maxRecDepth 20000 in
theorem ggX3_asked_X3_requireCashCall : GoodIn wsX3_asked wsX3_requireCashCall := goodIn_ca (goodIn_r _ [7, 8, 9, 10, 15, 16, 17, 18, 19, 20, 21, 22, 23, 24, 25, 26, 27, 28, 29] (by decide +kernel) (by decide +kernel)) (goodIn_sub (fun _ h => List.mem_cons_of_mem _ (List.mem_append_right _ h)) (by decide +kernel))
set_option maxRecDepth 20000 in
theorem gX3_asked_X3_requireCashCall : GoodIn wsX3_asked (wsV RX3 166 RX3 yX3_requireCashCall wsX3_requireCashCall) := goodIn_app (goodIn_of _ (by decide +kernel)) ggX3_asked_X3_requireCashCall
set_option maxRecDepth 20000 in
theorem ggX3_asked_X3_requirePartner : GoodIn wsX3_asked wsX3_requirePartner := goodIn_ca (goodIn_r _ [14, 8, 9] (by decide +kernel) (by decide +kernel)) (goodIn_sub (fun _ h => List.mem_cons_of_mem _ (List.mem_append_right _ h)) (by decide +kernel))
set_option maxRecDepth 20000 in
theorem gX3_asked_X3_requirePartner : GoodIn wsX3_asked (wsV RX3 94 RX3 yX3_requirePartner wsX3_requirePartner) := goodIn_app (goodIn_of _ (by decide +kernel)) ggX3_asked_X3_requirePartner
theorem dX3_asked_0 : decode cX3_asked 0 = .ok (.aload_n 0, 1) := by decide +kernel
theorem dX3_asked_1 : decode cX3_asked 1 = .ok (.iload_n 1, 1) := by decide +kernel
theorem dX3_asked_2 : decode cX3_asked 2 = .ok (.invokevirtual 166, 3) := by decide +kernel
theorem dX3_asked_5 : decode cX3_asked 5 = .ok (.aload_n 0, 1) := by decide +kernel
theorem dX3_asked_6 : decode cX3_asked 6 = .ok (.iload_n 2, 1) := by decide +kernel
theorem dX3_asked_7 : decode cX3_asked 7 = .ok (.invokevirtual 94, 3) := by decide +kernel
theorem dX3_asked_10 : decode cX3_asked 10 = .ok (.aload_n 0, 1) := by decide +kernel
theorem dX3_asked_11 : decode cX3_asked 11 = .ok (.getfield 40, 3) := by decide +kernel
theorem dX3_asked_14 : decode cX3_asked 14 = .ok (.iload_n 1, 1) := by decide +kernel
theorem dX3_asked_15 : decode cX3_asked 15 = .ok (.aaload, 1) := by decide +kernel
theorem dX3_asked_16 : decode cX3_asked 16 = .ok (.getfield 159, 3) := by decide +kernel
theorem dX3_asked_19 : decode cX3_asked 19 = .ok (.iload_n 2, 1) := by decide +kernel
theorem dX3_asked_20 : decode cX3_asked 20 = .ok (.iaload, 1) := by decide +kernel
theorem dX3_asked_21 : decode cX3_asked 21 = .ok (.ireturn, 1) := by decide +kernel
set_option maxRecDepth 20000 in
theorem ggX3_paid_X3_requirePartner : GoodIn wsX3_paid wsX3_requirePartner := goodIn_ca (goodIn_r _ [5, 6, 7] (by decide +kernel) (by decide +kernel)) (goodIn_sub (fun _ h => List.mem_cons_of_mem _ (List.mem_append_right _ h)) (by decide +kernel))
set_option maxRecDepth 20000 in
theorem gX3_paid_X3_requirePartner : GoodIn wsX3_paid (wsV RX3 94 RX3 yX3_requirePartner wsX3_requirePartner) := goodIn_app (goodIn_of _ (by decide +kernel)) ggX3_paid_X3_requirePartner
set_option maxRecDepth 20000 in
theorem ggX3_paid_X3_paidOfAllCalls : GoodIn wsX3_paid wsX3_paidOfAllCalls := goodIn_r _ [11, 12, 13, 14, 15, 16, 17, 18, 19, 20, 21, 22, 23, 24, 25, 26, 27, 28, 29, 30, 31] (by decide +kernel) (by decide +kernel)
set_option maxRecDepth 20000 in
theorem gX3_paid_X3_paidOfAllCalls : GoodIn wsX3_paid (wsV RX3 190 RX3 yX3_paidOfAllCalls wsX3_paidOfAllCalls) := goodIn_app (goodIn_of _ (by decide +kernel)) ggX3_paid_X3_paidOfAllCalls
theorem dX3_paid_0 : decode cX3_paid 0 = .ok (.aload_n 0, 1) := by decide +kernel
theorem dX3_paid_1 : decode cX3_paid 1 = .ok (.iload_n 1, 1) := by decide +kernel
theorem dX3_paid_2 : decode cX3_paid 2 = .ok (.invokevirtual 94, 3) := by decide +kernel
theorem dX3_paid_5 : decode cX3_paid 5 = .ok (.aload_n 0, 1) := by decide +kernel
theorem dX3_paid_6 : decode cX3_paid 6 = .ok (.iload_n 1, 1) := by decide +kernel
theorem dX3_paid_7 : decode cX3_paid 7 = .ok (.invokevirtual 190, 3) := by decide +kernel
theorem dX3_paid_10 : decode cX3_paid 10 = .ok (.ireturn, 1) := by decide +kernel
set_option maxRecDepth 20000 in
theorem ggX3_owes_X3_requirePartner : GoodIn wsX3_owes wsX3_requirePartner := goodIn_ca (goodIn_r _ [6, 7, 8] (by decide +kernel) (by decide +kernel)) (goodIn_sub (fun _ h => List.mem_cons_of_mem _ (List.mem_append_right _ h)) (by decide +kernel))
set_option maxRecDepth 20000 in
theorem gX3_owes_X3_requirePartner : GoodIn wsX3_owes (wsV RX3 94 RX3 yX3_requirePartner wsX3_requirePartner) := goodIn_app (goodIn_of _ (by decide +kernel)) ggX3_owes_X3_requirePartner
theorem dX3_owes_0 : decode cX3_owes 0 = .ok (.aload_n 0, 1) := by decide +kernel
theorem dX3_owes_1 : decode cX3_owes 1 = .ok (.iload_n 1, 1) := by decide +kernel
theorem dX3_owes_2 : decode cX3_owes 2 = .ok (.invokevirtual 94, 3) := by decide +kernel
theorem dX3_owes_5 : decode cX3_owes 5 = .ok (.aload_n 0, 1) := by decide +kernel
theorem dX3_owes_6 : decode cX3_owes 6 = .ok (.getfield 47, 3) := by decide +kernel
theorem dX3_owes_9 : decode cX3_owes 9 = .ok (.iload_n 1, 1) := by decide +kernel
theorem dX3_owes_10 : decode cX3_owes 10 = .ok (.iaload, 1) := by decide +kernel
theorem dX3_owes_11 : decode cX3_owes 11 = .ok (.ireturn, 1) := by decide +kernel
set_option maxRecDepth 20000 in
theorem ggX3_balance_X3_requirePartner : GoodIn wsX3_balance wsX3_requirePartner := goodIn_ca (goodIn_r _ [10, 11, 12] (by decide +kernel) (by decide +kernel)) (goodIn_sub (fun _ h => List.mem_cons_of_mem _ (List.mem_append_right _ h)) (by decide +kernel))
set_option maxRecDepth 20000 in
theorem gX3_balance_X3_requirePartner : GoodIn wsX3_balance (wsV RX3 94 RX3 yX3_requirePartner wsX3_requirePartner) := goodIn_app (goodIn_of _ (by decide +kernel)) ggX3_balance_X3_requirePartner
set_option maxRecDepth 20000 in
theorem ggX3_balance_X3_paidOfAllCalls : GoodIn wsX3_balance wsX3_paidOfAllCalls := goodIn_r _ [16, 17, 18, 19, 20, 21, 22, 23, 24, 25, 26, 27, 28, 29, 30, 31, 32, 33, 34, 43, 44] (by decide +kernel) (by decide +kernel)
set_option maxRecDepth 20000 in
theorem gX3_balance_X3_paidOfAllCalls : GoodIn wsX3_balance (wsV RX3 190 RX3 yX3_paidOfAllCalls wsX3_paidOfAllCalls) := goodIn_app (goodIn_of _ (by decide +kernel)) ggX3_balance_X3_paidOfAllCalls
theorem dX3_balance_0 : decode cX3_balance 0 = .ok (.aload_n 0, 1) := by decide +kernel
theorem dX3_balance_1 : decode cX3_balance 1 = .ok (.iload_n 1, 1) := by decide +kernel
theorem dX3_balance_2 : decode cX3_balance 2 = .ok (.invokevirtual 94, 3) := by decide +kernel
theorem dX3_balance_5 : decode cX3_balance 5 = .ok (.aload_n 0, 1) := by decide +kernel
theorem dX3_balance_6 : decode cX3_balance 6 = .ok (.iload_n 1, 1) := by decide +kernel
theorem dX3_balance_7 : decode cX3_balance 7 = .ok (.invokevirtual 190, 3) := by decide +kernel
theorem dX3_balance_10 : decode cX3_balance 10 = .ok (.i2l, 1) := by decide +kernel
theorem dX3_balance_11 : decode cX3_balance 11 = .ok (.aload_n 0, 1) := by decide +kernel
theorem dX3_balance_12 : decode cX3_balance 12 = .ok (.getfield 47, 3) := by decide +kernel
theorem dX3_balance_15 : decode cX3_balance 15 = .ok (.iload_n 1, 1) := by decide +kernel
theorem dX3_balance_16 : decode cX3_balance 16 = .ok (.iaload, 1) := by decide +kernel
theorem dX3_balance_17 : decode cX3_balance 17 = .ok (.i2l, 1) := by decide +kernel
theorem dX3_balance_18 : decode cX3_balance 18 = .ok (.lsub, 1) := by decide +kernel
theorem dX3_balance_19 : decode cX3_balance 19 = .ok (.lstore_n 2, 1) := by decide +kernel
theorem dX3_balance_20 : decode cX3_balance 20 = .ok (.iconst 0, 1) := by decide +kernel
theorem dX3_balance_21 : decode cX3_balance 21 = .ok (.istore 4, 2) := by decide +kernel
theorem dX3_balance_23 : decode cX3_balance 23 = .ok (.iload 4, 2) := by decide +kernel
theorem dX3_balance_25 : decode cX3_balance 25 = .ok (.aload_n 0, 1) := by decide +kernel
theorem dX3_balance_26 : decode cX3_balance 26 = .ok (.getfield 26, 3) := by decide +kernel
theorem dX3_balance_29 : decode cX3_balance 29 = .ok (.if_icmp .ge 39, 3) := by decide +kernel
theorem dX3_balance_32 : decode cX3_balance 32 = .ok (.lload_n 2, 1) := by decide +kernel
theorem dX3_balance_33 : decode cX3_balance 33 = .ok (.aload_n 0, 1) := by decide +kernel
theorem dX3_balance_34 : decode cX3_balance 34 = .ok (.getfield 22, 3) := by decide +kernel
theorem dX3_balance_37 : decode cX3_balance 37 = .ok (.iload 4, 2) := by decide +kernel
theorem dX3_balance_39 : decode cX3_balance 39 = .ok (.aaload, 1) := by decide +kernel
theorem dX3_balance_40 : decode cX3_balance 40 = .ok (.getfield 150, 3) := by decide +kernel
theorem dX3_balance_43 : decode cX3_balance 43 = .ok (.iload_n 1, 1) := by decide +kernel
theorem dX3_balance_44 : decode cX3_balance 44 = .ok (.iaload, 1) := by decide +kernel
theorem dX3_balance_45 : decode cX3_balance 45 = .ok (.i2l, 1) := by decide +kernel
theorem dX3_balance_46 : decode cX3_balance 46 = .ok (.aload_n 0, 1) := by decide +kernel
theorem dX3_balance_47 : decode cX3_balance 47 = .ok (.getfield 22, 3) := by decide +kernel
theorem dX3_balance_50 : decode cX3_balance 50 = .ok (.iload 4, 2) := by decide +kernel
theorem dX3_balance_52 : decode cX3_balance 52 = .ok (.aaload, 1) := by decide +kernel
theorem dX3_balance_53 : decode cX3_balance 53 = .ok (.getfield 147, 3) := by decide +kernel
theorem dX3_balance_56 : decode cX3_balance 56 = .ok (.iload_n 1, 1) := by decide +kernel
theorem dX3_balance_57 : decode cX3_balance 57 = .ok (.iaload, 1) := by decide +kernel
theorem dX3_balance_58 : decode cX3_balance 58 = .ok (.i2l, 1) := by decide +kernel
theorem dX3_balance_59 : decode cX3_balance 59 = .ok (.lsub, 1) := by decide +kernel
theorem dX3_balance_60 : decode cX3_balance 60 = .ok (.ladd, 1) := by decide +kernel
theorem dX3_balance_61 : decode cX3_balance 61 = .ok (.lstore_n 2, 1) := by decide +kernel
theorem dX3_balance_62 : decode cX3_balance 62 = .ok (.iinc 4 1, 3) := by decide +kernel
theorem dX3_balance_65 : decode cX3_balance 65 = .ok (.goto (-42), 3) := by decide +kernel
theorem dX3_balance_68 : decode cX3_balance 68 = .ok (.lload_n 2, 1) := by decide +kernel
theorem dX3_balance_69 : decode cX3_balance 69 = .ok (.lreturn, 1) := by decide +kernel
theorem dX3_requireRange_0 : decode cX3_requireRange 0 = .ok (.iload_n 1, 1) := by decide +kernel
theorem dX3_requireRange_1 : decode cX3_requireRange 1 = .ok (.iload_n 2, 1) := by decide +kernel
theorem dX3_requireRange_2 : decode cX3_requireRange 2 = .ok (.if_icmp .lt 8, 3) := by decide +kernel
theorem dX3_requireRange_5 : decode cX3_requireRange 5 = .ok (.iload_n 1, 1) := by decide +kernel
theorem dX3_requireRange_6 : decode cX3_requireRange 6 = .ok (.iload_n 3, 1) := by decide +kernel
theorem dX3_requireRange_7 : decode cX3_requireRange 7 = .ok (.if_icmp .le 13, 3) := by decide +kernel
theorem dX3_requireRange_10 : decode cX3_requireRange 10 = .ok (.new 72, 3) := by decide +kernel
theorem dX3_requireRange_13 : decode cX3_requireRange 13 = .ok (.dup, 1) := by decide +kernel
theorem dX3_requireRange_14 : decode cX3_requireRange 14 = .ok (.ldc 194, 2) := by decide +kernel
theorem dX3_requireRange_16 : decode cX3_requireRange 16 = .ok (.invokespecial 76, 3) := by decide +kernel
theorem dX3_requireRange_19 : decode cX3_requireRange 19 = .ok (.athrow, 1) := by decide +kernel
theorem dX3_requireRange_20 : decode cX3_requireRange 20 = .ok (.return_, 1) := by decide +kernel
theorem dX3_requirePartner_0 : decode cX3_requirePartner 0 = .ok (.iload_n 1, 1) := by decide +kernel
theorem dX3_requirePartner_1 : decode cX3_requirePartner 1 = .ok (.ifCond .lt 8, 3) := by decide +kernel
theorem dX3_requirePartner_4 : decode cX3_requirePartner 4 = .ok (.iload_n 1, 1) := by decide +kernel
theorem dX3_requirePartner_5 : decode cX3_requirePartner 5 = .ok (.iconst 5, 1) := by decide +kernel
theorem dX3_requirePartner_6 : decode cX3_requirePartner 6 = .ok (.if_icmp .lt 13, 3) := by decide +kernel
theorem dX3_requirePartner_9 : decode cX3_requirePartner 9 = .ok (.new 196, 3) := by decide +kernel
theorem dX3_requirePartner_12 : decode cX3_requirePartner 12 = .ok (.dup, 1) := by decide +kernel
theorem dX3_requirePartner_13 : decode cX3_requirePartner 13 = .ok (.ldc 198, 2) := by decide +kernel
theorem dX3_requirePartner_15 : decode cX3_requirePartner 15 = .ok (.invokespecial 200, 3) := by decide +kernel
theorem dX3_requirePartner_18 : decode cX3_requirePartner 18 = .ok (.athrow, 1) := by decide +kernel
theorem dX3_requirePartner_19 : decode cX3_requirePartner 19 = .ok (.return_, 1) := by decide +kernel
theorem dX3_requireWell_0 : decode cX3_requireWell 0 = .ok (.iload_n 1, 1) := by decide +kernel
theorem dX3_requireWell_1 : decode cX3_requireWell 1 = .ok (.ifCond .lt 11, 3) := by decide +kernel
theorem dX3_requireWell_4 : decode cX3_requireWell 4 = .ok (.iload_n 1, 1) := by decide +kernel
theorem dX3_requireWell_5 : decode cX3_requireWell 5 = .ok (.aload_n 0, 1) := by decide +kernel
theorem dX3_requireWell_6 : decode cX3_requireWell 6 = .ok (.getfield 26, 3) := by decide +kernel
theorem dX3_requireWell_9 : decode cX3_requireWell 9 = .ok (.if_icmp .lt 13, 3) := by decide +kernel
theorem dX3_requireWell_12 : decode cX3_requireWell 12 = .ok (.new 196, 3) := by decide +kernel
theorem dX3_requireWell_15 : decode cX3_requireWell 15 = .ok (.dup, 1) := by decide +kernel
theorem dX3_requireWell_16 : decode cX3_requireWell 16 = .ok (.ldc 201, 2) := by decide +kernel
theorem dX3_requireWell_18 : decode cX3_requireWell 18 = .ok (.invokespecial 200, 3) := by decide +kernel
theorem dX3_requireWell_21 : decode cX3_requireWell 21 = .ok (.athrow, 1) := by decide +kernel
theorem dX3_requireWell_22 : decode cX3_requireWell 22 = .ok (.return_, 1) := by decide +kernel
theorem dX3_requireVoucher_0 : decode cX3_requireVoucher 0 = .ok (.iload_n 1, 1) := by decide +kernel
theorem dX3_requireVoucher_1 : decode cX3_requireVoucher 1 = .ok (.ifCond .lt 11, 3) := by decide +kernel
theorem dX3_requireVoucher_4 : decode cX3_requireVoucher 4 = .ok (.iload_n 1, 1) := by decide +kernel
theorem dX3_requireVoucher_5 : decode cX3_requireVoucher 5 = .ok (.aload_n 0, 1) := by decide +kernel
theorem dX3_requireVoucher_6 : decode cX3_requireVoucher 6 = .ok (.getfield 35, 3) := by decide +kernel
theorem dX3_requireVoucher_9 : decode cX3_requireVoucher 9 = .ok (.if_icmp .lt 13, 3) := by decide +kernel
theorem dX3_requireVoucher_12 : decode cX3_requireVoucher 12 = .ok (.new 196, 3) := by decide +kernel
theorem dX3_requireVoucher_15 : decode cX3_requireVoucher 15 = .ok (.dup, 1) := by decide +kernel
theorem dX3_requireVoucher_16 : decode cX3_requireVoucher 16 = .ok (.ldc 203, 2) := by decide +kernel
theorem dX3_requireVoucher_18 : decode cX3_requireVoucher 18 = .ok (.invokespecial 200, 3) := by decide +kernel
theorem dX3_requireVoucher_21 : decode cX3_requireVoucher 21 = .ok (.athrow, 1) := by decide +kernel
theorem dX3_requireVoucher_22 : decode cX3_requireVoucher 22 = .ok (.return_, 1) := by decide +kernel
theorem dX3_requireCashCall_0 : decode cX3_requireCashCall 0 = .ok (.iload_n 1, 1) := by decide +kernel
theorem dX3_requireCashCall_1 : decode cX3_requireCashCall 1 = .ok (.ifCond .lt 11, 3) := by decide +kernel
theorem dX3_requireCashCall_4 : decode cX3_requireCashCall 4 = .ok (.iload_n 1, 1) := by decide +kernel
theorem dX3_requireCashCall_5 : decode cX3_requireCashCall 5 = .ok (.aload_n 0, 1) := by decide +kernel
theorem dX3_requireCashCall_6 : decode cX3_requireCashCall 6 = .ok (.getfield 44, 3) := by decide +kernel
theorem dX3_requireCashCall_9 : decode cX3_requireCashCall 9 = .ok (.if_icmp .lt 13, 3) := by decide +kernel
theorem dX3_requireCashCall_12 : decode cX3_requireCashCall 12 = .ok (.new 196, 3) := by decide +kernel
theorem dX3_requireCashCall_15 : decode cX3_requireCashCall 15 = .ok (.dup, 1) := by decide +kernel
theorem dX3_requireCashCall_16 : decode cX3_requireCashCall 16 = .ok (.ldc 205, 2) := by decide +kernel
theorem dX3_requireCashCall_18 : decode cX3_requireCashCall 18 = .ok (.invokespecial 200, 3) := by decide +kernel
theorem dX3_requireCashCall_21 : decode cX3_requireCashCall 21 = .ok (.athrow, 1) := by decide +kernel
theorem dX3_requireCashCall_22 : decode cX3_requireCashCall 22 = .ok (.return_, 1) := by decide +kernel
theorem dX3_requireRoomForVoucher_0 : decode cX3_requireRoomForVoucher 0 = .ok (.aload_n 0, 1) := by decide +kernel
theorem dX3_requireRoomForVoucher_1 : decode cX3_requireRoomForVoucher 1 = .ok (.getfield 35, 3) := by decide +kernel
theorem dX3_requireRoomForVoucher_4 : decode cX3_requireRoomForVoucher 4 = .ok (.bipush 60, 2) := by decide +kernel
theorem dX3_requireRoomForVoucher_6 : decode cX3_requireRoomForVoucher 6 = .ok (.if_icmp .lt 13, 3) := by decide +kernel
theorem dX3_requireRoomForVoucher_9 : decode cX3_requireRoomForVoucher 9 = .ok (.new 79, 3) := by decide +kernel
theorem dX3_requireRoomForVoucher_12 : decode cX3_requireRoomForVoucher 12 = .ok (.dup, 1) := by decide +kernel
theorem dX3_requireRoomForVoucher_13 : decode cX3_requireRoomForVoucher 13 = .ok (.ldc 207, 2) := by decide +kernel
theorem dX3_requireRoomForVoucher_15 : decode cX3_requireRoomForVoucher 15 = .ok (.invokespecial 83, 3) := by decide +kernel
theorem dX3_requireRoomForVoucher_18 : decode cX3_requireRoomForVoucher 18 = .ok (.athrow, 1) := by decide +kernel
theorem dX3_requireRoomForVoucher_19 : decode cX3_requireRoomForVoucher 19 = .ok (.return_, 1) := by decide +kernel
set_option maxRecDepth 20000 in
theorem ggX3_addVoucher_X3_account : GoodIn wsX3_addVoucher wsX3_account := goodIn_r _ [10, 4, 2, 3, 11, 12, 13, 9, 14, 15, 16, 17, 18, 19, 20, 21, 22, 23, 24, 25, 26, 27, 28, 29, 30, 31, 32, 33, 34, 35, 36, 37, 38, 39, 40, 41, 42, 43, 44, 45, 46, 47, 48, 49, 50, 51, 52, 53, 54, 55, 56, 57, 58, 59, 60, 61, 62, 63, 64, 65, 66, 67, 68, 69, 70, 71, 72, 73, 74, 75, 76, 77, 78, 79, 80, 81, 82, 83, 84, 85, 86, 87, 88, 89, 90, 91, 92, 93, 94, 95, 96, 97, 98, 99, 100, 101, 102, 103, 104, 105, 106, 107, 108, 109] (by decide +kernel) (by decide +kernel)
set_option maxRecDepth 20000 in
theorem gX3_addVoucher_X3_account : GoodIn wsX3_addVoucher (wsV RX3 209 RX3 yX3_account wsX3_account) := goodIn_app (goodIn_of _ (by decide +kernel)) ggX3_addVoucher_X3_account
theorem dX3_addVoucher_0 : decode cX3_addVoucher 0 = .ok (.aload_n 0, 1) := by decide +kernel
theorem dX3_addVoucher_1 : decode cX3_addVoucher 1 = .ok (.getfield 35, 3) := by decide +kernel
theorem dX3_addVoucher_4 : decode cX3_addVoucher 4 = .ok (.istore_n 3, 1) := by decide +kernel
theorem dX3_addVoucher_5 : decode cX3_addVoucher 5 = .ok (.aload_n 0, 1) := by decide +kernel
theorem dX3_addVoucher_6 : decode cX3_addVoucher 6 = .ok (.getfield 29, 3) := by decide +kernel
theorem dX3_addVoucher_9 : decode cX3_addVoucher 9 = .ok (.iload_n 3, 1) := by decide +kernel
theorem dX3_addVoucher_10 : decode cX3_addVoucher 10 = .ok (.iload_n 1, 1) := by decide +kernel
theorem dX3_addVoucher_11 : decode cX3_addVoucher 11 = .ok (.iastore, 1) := by decide +kernel
theorem dX3_addVoucher_12 : decode cX3_addVoucher 12 = .ok (.aload_n 0, 1) := by decide +kernel
theorem dX3_addVoucher_13 : decode cX3_addVoucher 13 = .ok (.getfield 32, 3) := by decide +kernel
theorem dX3_addVoucher_16 : decode cX3_addVoucher 16 = .ok (.iload_n 3, 1) := by decide +kernel
theorem dX3_addVoucher_17 : decode cX3_addVoucher 17 = .ok (.iload_n 2, 1) := by decide +kernel
theorem dX3_addVoucher_18 : decode cX3_addVoucher 18 = .ok (.iastore, 1) := by decide +kernel
theorem dX3_addVoucher_19 : decode cX3_addVoucher 19 = .ok (.aload_n 0, 1) := by decide +kernel
theorem dX3_addVoucher_20 : decode cX3_addVoucher 20 = .ok (.dup, 1) := by decide +kernel
theorem dX3_addVoucher_21 : decode cX3_addVoucher 21 = .ok (.getfield 35, 3) := by decide +kernel
theorem dX3_addVoucher_24 : decode cX3_addVoucher 24 = .ok (.iconst 1, 1) := by decide +kernel
theorem dX3_addVoucher_25 : decode cX3_addVoucher 25 = .ok (.iadd, 1) := by decide +kernel
theorem dX3_addVoucher_26 : decode cX3_addVoucher 26 = .ok (.putfield 35, 3) := by decide +kernel
theorem dX3_addVoucher_29 : decode cX3_addVoucher 29 = .ok (.aload_n 0, 1) := by decide +kernel
theorem dX3_addVoucher_30 : decode cX3_addVoucher 30 = .ok (.getfield 22, 3) := by decide +kernel
theorem dX3_addVoucher_33 : decode cX3_addVoucher 33 = .ok (.iload_n 1, 1) := by decide +kernel
theorem dX3_addVoucher_34 : decode cX3_addVoucher 34 = .ok (.aaload, 1) := by decide +kernel
theorem dX3_addVoucher_35 : decode cX3_addVoucher 35 = .ok (.iconst 1, 1) := by decide +kernel
theorem dX3_addVoucher_36 : decode cX3_addVoucher 36 = .ok (.putfield 97, 3) := by decide +kernel
theorem dX3_addVoucher_39 : decode cX3_addVoucher 39 = .ok (.aload_n 0, 1) := by decide +kernel
theorem dX3_addVoucher_40 : decode cX3_addVoucher 40 = .ok (.iload_n 3, 1) := by decide +kernel
theorem dX3_addVoucher_41 : decode cX3_addVoucher 41 = .ok (.invokevirtual 209, 3) := by decide +kernel
theorem dX3_addVoucher_44 : decode cX3_addVoucher 44 = .ok (.iload_n 3, 1) := by decide +kernel
theorem dX3_addVoucher_45 : decode cX3_addVoucher 45 = .ok (.ireturn, 1) := by decide +kernel
set_option maxRecDepth 20000 in
theorem ggX3_accountAnew_X2_clearAccounts : GoodIn wsX3_accountAnew wsX2_clearAccounts := goodIn_r _ [8, 9, 10, 11, 12, 13, 14, 15, 16, 17, 18, 19, 20, 21, 111, 112, 113, 114, 115, 116, 117, 118] (by decide +kernel) (by decide +kernel)
set_option maxRecDepth 20000 in
theorem gX3_accountAnew_X2_clearAccounts : GoodIn wsX3_accountAnew (wsV RX3 212 RX2 yX2_clearAccounts wsX2_clearAccounts) := goodIn_app (goodIn_of _ (by decide +kernel)) ggX3_accountAnew_X2_clearAccounts
set_option maxRecDepth 20000 in
theorem ggX3_accountAnew_X3_account : GoodIn wsX3_accountAnew wsX3_account := goodIn_r _ [26, 1, 3, 27, 28, 29, 30, 25, 31, 32, 33, 34, 35, 36, 37, 38, 39, 40, 41, 42, 43, 44, 45, 46, 47, 48, 49, 50, 51, 52, 20, 17, 21, 53, 54, 55, 56, 57, 58, 59, 60, 61, 62, 63, 64, 65, 66, 67, 68, 69, 70, 71, 72, 73, 74, 75, 76, 77, 78, 79, 80, 81, 82, 7, 83, 13, 9, 84, 85, 86, 87, 88, 89, 90, 91, 92, 93, 94, 95, 10, 96, 97, 98, 99, 100, 101, 102, 103, 104, 105, 106, 107, 108, 109, 110, 111, 112, 113, 114, 115, 116, 117, 118, 119] (by decide +kernel) (by decide +kernel)
set_option maxRecDepth 20000 in
theorem gX3_accountAnew_X3_account : GoodIn wsX3_accountAnew (wsV RX3 209 RX3 yX3_account wsX3_account) := goodIn_app (goodIn_of _ (by decide +kernel)) ggX3_accountAnew_X3_account
theorem dX3_accountAnew_0 : decode cX3_accountAnew 0 = .ok (.aload_n 0, 1) := by decide +kernel
theorem dX3_accountAnew_1 : decode cX3_accountAnew 1 = .ok (.getfield 22, 3) := by decide +kernel
theorem dX3_accountAnew_4 : decode cX3_accountAnew 4 = .ok (.iload_n 1, 1) := by decide +kernel
theorem dX3_accountAnew_5 : decode cX3_accountAnew 5 = .ok (.aaload, 1) := by decide +kernel
theorem dX3_accountAnew_6 : decode cX3_accountAnew 6 = .ok (.invokevirtual 212, 3) := by decide +kernel
theorem dX3_accountAnew_9 : decode cX3_accountAnew 9 = .ok (.iconst 0, 1) := by decide +kernel
theorem dX3_accountAnew_10 : decode cX3_accountAnew 10 = .ok (.istore_n 2, 1) := by decide +kernel
theorem dX3_accountAnew_11 : decode cX3_accountAnew 11 = .ok (.iload_n 2, 1) := by decide +kernel
theorem dX3_accountAnew_12 : decode cX3_accountAnew 12 = .ok (.aload_n 0, 1) := by decide +kernel
theorem dX3_accountAnew_13 : decode cX3_accountAnew 13 = .ok (.getfield 35, 3) := by decide +kernel
theorem dX3_accountAnew_16 : decode cX3_accountAnew 16 = .ok (.if_icmp .ge 24, 3) := by decide +kernel
theorem dX3_accountAnew_19 : decode cX3_accountAnew 19 = .ok (.aload_n 0, 1) := by decide +kernel
theorem dX3_accountAnew_20 : decode cX3_accountAnew 20 = .ok (.getfield 29, 3) := by decide +kernel
theorem dX3_accountAnew_23 : decode cX3_accountAnew 23 = .ok (.iload_n 2, 1) := by decide +kernel
theorem dX3_accountAnew_24 : decode cX3_accountAnew 24 = .ok (.iaload, 1) := by decide +kernel
theorem dX3_accountAnew_25 : decode cX3_accountAnew 25 = .ok (.iload_n 1, 1) := by decide +kernel
theorem dX3_accountAnew_26 : decode cX3_accountAnew 26 = .ok (.if_icmp .ne 8, 3) := by decide +kernel
theorem dX3_accountAnew_29 : decode cX3_accountAnew 29 = .ok (.aload_n 0, 1) := by decide +kernel
theorem dX3_accountAnew_30 : decode cX3_accountAnew 30 = .ok (.iload_n 2, 1) := by decide +kernel
theorem dX3_accountAnew_31 : decode cX3_accountAnew 31 = .ok (.invokevirtual 209, 3) := by decide +kernel
theorem dX3_accountAnew_34 : decode cX3_accountAnew 34 = .ok (.iinc 2 1, 3) := by decide +kernel
theorem dX3_accountAnew_37 : decode cX3_accountAnew 37 = .ok (.goto (-26), 3) := by decide +kernel
theorem dX3_accountAnew_40 : decode cX3_accountAnew 40 = .ok (.return_, 1) := by decide +kernel
set_option maxRecDepth 20000 in
theorem ggX3_account_X3_accountCost : GoodIn wsX3_account wsX3_accountCost := goodIn_r _ [8, 9, 10, 11, 12, 13, 14, 15, 16, 17, 7, 18, 19, 20, 21, 22, 23, 24, 25, 26, 27, 28, 29, 30, 31, 32, 33, 34, 35, 36, 37, 38, 39, 40, 41, 42, 43, 44, 45, 46, 47, 48, 49, 50, 51, 52, 53, 54, 95, 96, 97, 98, 99, 100, 101, 102, 80, 81, 82, 83, 84, 85, 86, 87, 88, 89, 90, 91, 92, 93, 94, 103] (by decide +kernel) (by decide +kernel)
set_option maxRecDepth 20000 in
theorem gX3_account_X3_accountCost : GoodIn wsX3_account (wsV RX3 215 RX3 yX3_accountCost wsX3_accountCost) := goodIn_app (goodIn_of _ (by decide +kernel)) ggX3_account_X3_accountCost
set_option maxRecDepth 20000 in
theorem ggX3_account_X3_accountIncome : GoodIn wsX3_account wsX3_accountIncome := goodIn_r _ [58, 19, 20, 13, 12, 59, 22, 23, 24, 25, 26, 27, 28, 29, 30, 31, 32, 33, 34, 35, 36, 37, 38, 39, 7, 40, 21, 41, 42, 43, 44, 11, 60, 61, 62, 63, 64, 65, 66, 67, 68, 69, 70, 71, 72, 73, 74, 10, 80, 81, 82, 83, 84, 85, 86, 87, 88, 89, 90, 91, 92, 93, 94, 95, 96, 97, 98, 99, 100, 101, 102, 103] (by decide +kernel) (by decide +kernel)
set_option maxRecDepth 20000 in
theorem gX3_account_X3_accountIncome : GoodIn wsX3_account (wsV RX3 218 RX3 yX3_accountIncome wsX3_accountIncome) := goodIn_app (goodIn_of _ (by decide +kernel)) ggX3_account_X3_accountIncome
set_option maxRecDepth 20000 in
theorem ggX3_account_X2_takeBack : GoodIn wsX3_account wsX2_takeBack := goodIn_r _ [78, 65, 66, 79, 95, 96, 97, 98, 99, 100, 101, 102] (by decide +kernel) (by decide +kernel)
set_option maxRecDepth 20000 in
theorem gX3_account_X2_takeBack : GoodIn wsX3_account (wsV RX3 221 RX2 yX2_takeBack wsX2_takeBack) := goodIn_app (goodIn_of _ (by decide +kernel)) ggX3_account_X2_takeBack
theorem dX3_account_0 : decode cX3_account 0 = .ok (.aload_n 0, 1) := by decide +kernel
theorem dX3_account_1 : decode cX3_account 1 = .ok (.getfield 22, 3) := by decide +kernel
theorem dX3_account_4 : decode cX3_account 4 = .ok (.aload_n 0, 1) := by decide +kernel
theorem dX3_account_5 : decode cX3_account 5 = .ok (.getfield 29, 3) := by decide +kernel
theorem dX3_account_8 : decode cX3_account 8 = .ok (.iload_n 1, 1) := by decide +kernel
theorem dX3_account_9 : decode cX3_account 9 = .ok (.iaload, 1) := by decide +kernel
theorem dX3_account_10 : decode cX3_account 10 = .ok (.aaload, 1) := by decide +kernel
theorem dX3_account_11 : decode cX3_account 11 = .ok (.astore_n 2, 1) := by decide +kernel
theorem dX3_account_12 : decode cX3_account 12 = .ok (.aload_n 0, 1) := by decide +kernel
theorem dX3_account_13 : decode cX3_account 13 = .ok (.getfield 32, 3) := by decide +kernel
theorem dX3_account_16 : decode cX3_account 16 = .ok (.iload_n 1, 1) := by decide +kernel
theorem dX3_account_17 : decode cX3_account 17 = .ok (.iaload, 1) := by decide +kernel
theorem dX3_account_18 : decode cX3_account 18 = .ok (.istore_n 3, 1) := by decide +kernel
theorem dX3_account_19 : decode cX3_account 19 = .ok (.iload_n 3, 1) := by decide +kernel
theorem dX3_account_20 : decode cX3_account 20 = .ok (.ifCond .le 12, 3) := by decide +kernel
theorem dX3_account_23 : decode cX3_account 23 = .ok (.aload_n 0, 1) := by decide +kernel
theorem dX3_account_24 : decode cX3_account 24 = .ok (.aload_n 2, 1) := by decide +kernel
theorem dX3_account_25 : decode cX3_account 25 = .ok (.iload_n 3, 1) := by decide +kernel
theorem dX3_account_26 : decode cX3_account 26 = .ok (.invokevirtual 215, 3) := by decide +kernel
theorem dX3_account_29 : decode cX3_account 29 = .ok (.goto 15, 3) := by decide +kernel
theorem dX3_account_32 : decode cX3_account 32 = .ok (.aload_n 0, 1) := by decide +kernel
theorem dX3_account_33 : decode cX3_account 33 = .ok (.aload_n 2, 1) := by decide +kernel
theorem dX3_account_34 : decode cX3_account 34 = .ok (.iload_n 3, 1) := by decide +kernel
theorem dX3_account_35 : decode cX3_account 35 = .ok (.ineg, 1) := by decide +kernel
theorem dX3_account_36 : decode cX3_account 36 = .ok (.invokevirtual 218, 3) := by decide +kernel
theorem dX3_account_39 : decode cX3_account 39 = .ok (.aload_n 2, 1) := by decide +kernel
theorem dX3_account_40 : decode cX3_account 40 = .ok (.iload_n 1, 1) := by decide +kernel
theorem dX3_account_41 : decode cX3_account 41 = .ok (.invokevirtual 221, 3) := by decide +kernel
theorem dX3_account_44 : decode cX3_account 44 = .ok (.return_, 1) := by decide +kernel
set_option maxRecDepth 20000 in
theorem ggX3_accountCost_X3_divideCost : GoodIn wsX3_accountCost wsX3_divideCost := goodIn_r _ [11, 12, 13, 5, 14, 2, 3, 15, 16, 17, 18, 19, 20, 21, 22, 23, 24, 25, 26, 27, 28, 29, 30, 31, 32, 10, 33, 34, 35, 36, 37, 38, 39, 40, 41, 56, 57, 58, 59, 60, 61, 62, 63, 64, 65, 66, 67, 68, 69, 70, 48, 49, 50, 51, 52, 53, 54, 55, 71] (by decide +kernel) (by decide +kernel)
set_option maxRecDepth 20000 in
theorem gX3_accountCost_X3_divideCost : GoodIn wsX3_accountCost (wsV RX3 153 RX3 yX3_divideCost wsX3_divideCost) := goodIn_app (goodIn_of _ (by decide +kernel)) ggX3_accountCost_X3_divideCost
set_option maxRecDepth 20000 in
theorem ggX3_accountCost_X3_penaltyOn : GoodIn wsX3_accountCost wsX3_penaltyOn := goodIn_r _ [45, 46, 47] (by decide +kernel) (by decide +kernel)
set_option maxRecDepth 20000 in
theorem gX3_accountCost_X3_penaltyOn : GoodIn wsX3_accountCost (wsV RX3 224 RX3 yX3_penaltyOn wsX3_penaltyOn) := goodIn_app (goodIn_of _ (by decide +kernel)) ggX3_accountCost_X3_penaltyOn
theorem dX3_accountCost_0 : decode cX3_accountCost 0 = .ok (.aload_n 0, 1) := by decide +kernel
theorem dX3_accountCost_1 : decode cX3_accountCost 1 = .ok (.aload_n 1, 1) := by decide +kernel
theorem dX3_accountCost_2 : decode cX3_accountCost 2 = .ok (.iload_n 2, 1) := by decide +kernel
theorem dX3_accountCost_3 : decode cX3_accountCost 3 = .ok (.invokevirtual 153, 3) := by decide +kernel
theorem dX3_accountCost_6 : decode cX3_accountCost 6 = .ok (.iconst 0, 1) := by decide +kernel
theorem dX3_accountCost_7 : decode cX3_accountCost 7 = .ok (.istore_n 3, 1) := by decide +kernel
theorem dX3_accountCost_8 : decode cX3_accountCost 8 = .ok (.iload_n 3, 1) := by decide +kernel
theorem dX3_accountCost_9 : decode cX3_accountCost 9 = .ok (.iconst 5, 1) := by decide +kernel
theorem dX3_accountCost_10 : decode cX3_accountCost 10 = .ok (.if_icmp .ge 56, 3) := by decide +kernel
theorem dX3_accountCost_13 : decode cX3_accountCost 13 = .ok (.aload_n 1, 1) := by decide +kernel
theorem dX3_accountCost_14 : decode cX3_accountCost 14 = .ok (.getfield 147, 3) := by decide +kernel
theorem dX3_accountCost_17 : decode cX3_accountCost 17 = .ok (.iload_n 3, 1) := by decide +kernel
theorem dX3_accountCost_18 : decode cX3_accountCost 18 = .ok (.dup2, 1) := by decide +kernel
theorem dX3_accountCost_19 : decode cX3_accountCost 19 = .ok (.iaload, 1) := by decide +kernel
theorem dX3_accountCost_20 : decode cX3_accountCost 20 = .ok (.aload_n 0, 1) := by decide +kernel
theorem dX3_accountCost_21 : decode cX3_accountCost 21 = .ok (.getfield 63, 3) := by decide +kernel
theorem dX3_accountCost_24 : decode cX3_accountCost 24 = .ok (.iload_n 3, 1) := by decide +kernel
theorem dX3_accountCost_25 : decode cX3_accountCost 25 = .ok (.iaload, 1) := by decide +kernel
theorem dX3_accountCost_26 : decode cX3_accountCost 26 = .ok (.iadd, 1) := by decide +kernel
theorem dX3_accountCost_27 : decode cX3_accountCost 27 = .ok (.iastore, 1) := by decide +kernel
theorem dX3_accountCost_28 : decode cX3_accountCost 28 = .ok (.aload_n 1, 1) := by decide +kernel
theorem dX3_accountCost_29 : decode cX3_accountCost 29 = .ok (.getfield 115, 3) := by decide +kernel
theorem dX3_accountCost_32 : decode cX3_accountCost 32 = .ok (.iload_n 3, 1) := by decide +kernel
theorem dX3_accountCost_33 : decode cX3_accountCost 33 = .ok (.baload, 1) := by decide +kernel
theorem dX3_accountCost_34 : decode cX3_accountCost 34 = .ok (.ifCond .eq 26, 3) := by decide +kernel
theorem dX3_accountCost_37 : decode cX3_accountCost 37 = .ok (.aload_n 1, 1) := by decide +kernel
theorem dX3_accountCost_38 : decode cX3_accountCost 38 = .ok (.getfield 140, 3) := by decide +kernel
theorem dX3_accountCost_41 : decode cX3_accountCost 41 = .ok (.iload_n 3, 1) := by decide +kernel
theorem dX3_accountCost_42 : decode cX3_accountCost 42 = .ok (.dup2, 1) := by decide +kernel
theorem dX3_accountCost_43 : decode cX3_accountCost 43 = .ok (.laload, 1) := by decide +kernel
theorem dX3_accountCost_44 : decode cX3_accountCost 44 = .ok (.aload_n 0, 1) := by decide +kernel
theorem dX3_accountCost_45 : decode cX3_accountCost 45 = .ok (.aload_n 0, 1) := by decide +kernel
theorem dX3_accountCost_46 : decode cX3_accountCost 46 = .ok (.getfield 57, 3) := by decide +kernel
theorem dX3_accountCost_49 : decode cX3_accountCost 49 = .ok (.iload_n 3, 1) := by decide +kernel
theorem dX3_accountCost_50 : decode cX3_accountCost 50 = .ok (.iaload, 1) := by decide +kernel
theorem dX3_accountCost_51 : decode cX3_accountCost 51 = .ok (.aload_n 1, 1) := by decide +kernel
theorem dX3_accountCost_52 : decode cX3_accountCost 52 = .ok (.getfield 87, 3) := by decide +kernel
theorem dX3_accountCost_55 : decode cX3_accountCost 55 = .ok (.invokevirtual 224, 3) := by decide +kernel
theorem dX3_accountCost_58 : decode cX3_accountCost 58 = .ok (.ladd, 1) := by decide +kernel
theorem dX3_accountCost_59 : decode cX3_accountCost 59 = .ok (.lastore, 1) := by decide +kernel
theorem dX3_accountCost_60 : decode cX3_accountCost 60 = .ok (.iinc 3 1, 3) := by decide +kernel
theorem dX3_accountCost_63 : decode cX3_accountCost 63 = .ok (.goto (-55), 3) := by decide +kernel
theorem dX3_accountCost_66 : decode cX3_accountCost 66 = .ok (.return_, 1) := by decide +kernel
theorem dX3_penaltyOn_0 : decode cX3_penaltyOn 0 = .ok (.iload_n 1, 1) := by decide +kernel
theorem dX3_penaltyOn_1 : decode cX3_penaltyOn 1 = .ok (.i2l, 1) := by decide +kernel
theorem dX3_penaltyOn_2 : decode cX3_penaltyOn 2 = .ok (.iload_n 2, 1) := by decide +kernel
theorem dX3_penaltyOn_3 : decode cX3_penaltyOn 3 = .ok (.i2l, 1) := by decide +kernel
theorem dX3_penaltyOn_4 : decode cX3_penaltyOn 4 = .ok (.lmul, 1) := by decide +kernel
theorem dX3_penaltyOn_5 : decode cX3_penaltyOn 5 = .ok (.ldc2_w 228, 3) := by decide +kernel
theorem dX3_penaltyOn_8 : decode cX3_penaltyOn 8 = .ok (.ladd, 1) := by decide +kernel
theorem dX3_penaltyOn_9 : decode cX3_penaltyOn 9 = .ok (.ldc2_w 230, 3) := by decide +kernel
theorem dX3_penaltyOn_12 : decode cX3_penaltyOn 12 = .ok (.ldiv, 1) := by decide +kernel
theorem dX3_penaltyOn_13 : decode cX3_penaltyOn 13 = .ok (.lreturn, 1) := by decide +kernel
set_option maxRecDepth 20000 in
theorem ggX3_divideCost_X1_divide : GoodIn wsX3_divideCost wsX1_divide := goodIn_r _ [11, 12, 13, 14, 15, 16, 17, 18, 19, 20, 10, 21, 58] (by decide +kernel) (by decide +kernel)
set_option maxRecDepth 20000 in
theorem gX3_divideCost_X1_divide : GoodIn wsX3_divideCost (wsV RX3 162 RX1 yX1_divide wsX1_divide) := goodIn_app (goodIn_of _ (by decide +kernel)) ggX3_divideCost_X1_divide
set_option maxRecDepth 20000 in
theorem ggX3_divideCost_X3_weighThoseIn : GoodIn wsX3_divideCost wsX3_weighThoseIn := goodIn_r _ [26, 4, 27, 28, 29, 25, 30, 6, 2, 35, 36, 37, 38, 39, 40, 41, 42, 43, 44, 45, 46, 47, 48, 49, 50, 51, 52, 53, 54, 55, 56, 57] (by decide +kernel) (by decide +kernel)
set_option maxRecDepth 20000 in
theorem gX3_divideCost_X3_weighThoseIn : GoodIn wsX3_divideCost (wsV RX3 232 RX3 yX3_weighThoseIn wsX3_weighThoseIn) := goodIn_app (goodIn_of _ (by decide +kernel)) ggX3_divideCost_X3_weighThoseIn
set_option maxRecDepth 20000 in
theorem ggX3_divideCost_X3_ownPartsOfThoseOut : GoodIn wsX3_divideCost wsX3_ownPartsOfThoseOut := goodIn_r _ [34, 6, 3, 50, 51, 52, 53, 54, 55, 56, 57, 35, 36, 37, 38, 39, 40, 41, 42, 43, 44, 45, 46, 47, 48, 49] (by decide +kernel) (by decide +kernel)
set_option maxRecDepth 20000 in
theorem gX3_divideCost_X3_ownPartsOfThoseOut : GoodIn wsX3_divideCost (wsV RX3 236 RX3 yX3_ownPartsOfThoseOut wsX3_ownPartsOfThoseOut) := goodIn_app (goodIn_of _ (by decide +kernel)) ggX3_divideCost_X3_ownPartsOfThoseOut
theorem dX3_divideCost_0 : decode cX3_divideCost 0 = .ok (.aload_n 0, 1) := by decide +kernel
theorem dX3_divideCost_1 : decode cX3_divideCost 1 = .ok (.getfield 53, 3) := by decide +kernel
theorem dX3_divideCost_4 : decode cX3_divideCost 4 = .ok (.iload_n 2, 1) := by decide +kernel
theorem dX3_divideCost_5 : decode cX3_divideCost 5 = .ok (.aload_n 0, 1) := by decide +kernel
theorem dX3_divideCost_6 : decode cX3_divideCost 6 = .ok (.getfield 9, 3) := by decide +kernel
theorem dX3_divideCost_9 : decode cX3_divideCost 9 = .ok (.aload_n 0, 1) := by decide +kernel
theorem dX3_divideCost_10 : decode cX3_divideCost 10 = .ok (.getfield 57, 3) := by decide +kernel
theorem dX3_divideCost_13 : decode cX3_divideCost 13 = .ok (.invokevirtual 162, 3) := by decide +kernel
theorem dX3_divideCost_16 : decode cX3_divideCost 16 = .ok (.aload_n 0, 1) := by decide +kernel
theorem dX3_divideCost_17 : decode cX3_divideCost 17 = .ok (.aload_n 1, 1) := by decide +kernel
theorem dX3_divideCost_18 : decode cX3_divideCost 18 = .ok (.invokevirtual 232, 3) := by decide +kernel
theorem dX3_divideCost_21 : decode cX3_divideCost 21 = .ok (.aload_n 0, 1) := by decide +kernel
theorem dX3_divideCost_22 : decode cX3_divideCost 22 = .ok (.getfield 53, 3) := by decide +kernel
theorem dX3_divideCost_25 : decode cX3_divideCost 25 = .ok (.aload_n 0, 1) := by decide +kernel
theorem dX3_divideCost_26 : decode cX3_divideCost 26 = .ok (.aload_n 1, 1) := by decide +kernel
theorem dX3_divideCost_27 : decode cX3_divideCost 27 = .ok (.invokevirtual 236, 3) := by decide +kernel
theorem dX3_divideCost_30 : decode cX3_divideCost 30 = .ok (.aload_n 0, 1) := by decide +kernel
theorem dX3_divideCost_31 : decode cX3_divideCost 31 = .ok (.getfield 60, 3) := by decide +kernel
theorem dX3_divideCost_34 : decode cX3_divideCost 34 = .ok (.aload_n 0, 1) := by decide +kernel
theorem dX3_divideCost_35 : decode cX3_divideCost 35 = .ok (.getfield 63, 3) := by decide +kernel
theorem dX3_divideCost_38 : decode cX3_divideCost 38 = .ok (.invokevirtual 162, 3) := by decide +kernel
theorem dX3_divideCost_41 : decode cX3_divideCost 41 = .ok (.iconst 0, 1) := by decide +kernel
theorem dX3_divideCost_42 : decode cX3_divideCost 42 = .ok (.istore_n 3, 1) := by decide +kernel
theorem dX3_divideCost_43 : decode cX3_divideCost 43 = .ok (.iload_n 3, 1) := by decide +kernel
theorem dX3_divideCost_44 : decode cX3_divideCost 44 = .ok (.iconst 5, 1) := by decide +kernel
theorem dX3_divideCost_45 : decode cX3_divideCost 45 = .ok (.if_icmp .ge 33, 3) := by decide +kernel
theorem dX3_divideCost_48 : decode cX3_divideCost 48 = .ok (.aload_n 1, 1) := by decide +kernel
theorem dX3_divideCost_49 : decode cX3_divideCost 49 = .ok (.getfield 115, 3) := by decide +kernel
theorem dX3_divideCost_52 : decode cX3_divideCost 52 = .ok (.iload_n 3, 1) := by decide +kernel
theorem dX3_divideCost_53 : decode cX3_divideCost 53 = .ok (.baload, 1) := by decide +kernel
theorem dX3_divideCost_54 : decode cX3_divideCost 54 = .ok (.ifCond .ne 18, 3) := by decide +kernel
theorem dX3_divideCost_57 : decode cX3_divideCost 57 = .ok (.aload_n 0, 1) := by decide +kernel
theorem dX3_divideCost_58 : decode cX3_divideCost 58 = .ok (.getfield 63, 3) := by decide +kernel
theorem dX3_divideCost_61 : decode cX3_divideCost 61 = .ok (.iload_n 3, 1) := by decide +kernel
theorem dX3_divideCost_62 : decode cX3_divideCost 62 = .ok (.dup2, 1) := by decide +kernel
theorem dX3_divideCost_63 : decode cX3_divideCost 63 = .ok (.iaload, 1) := by decide +kernel
theorem dX3_divideCost_64 : decode cX3_divideCost 64 = .ok (.aload_n 0, 1) := by decide +kernel
theorem dX3_divideCost_65 : decode cX3_divideCost 65 = .ok (.getfield 57, 3) := by decide +kernel
theorem dX3_divideCost_68 : decode cX3_divideCost 68 = .ok (.iload_n 3, 1) := by decide +kernel
theorem dX3_divideCost_69 : decode cX3_divideCost 69 = .ok (.iaload, 1) := by decide +kernel
theorem dX3_divideCost_70 : decode cX3_divideCost 70 = .ok (.iadd, 1) := by decide +kernel
theorem dX3_divideCost_71 : decode cX3_divideCost 71 = .ok (.iastore, 1) := by decide +kernel
theorem dX3_divideCost_72 : decode cX3_divideCost 72 = .ok (.iinc 3 1, 3) := by decide +kernel
theorem dX3_divideCost_75 : decode cX3_divideCost 75 = .ok (.goto (-32), 3) := by decide +kernel
theorem dX3_divideCost_78 : decode cX3_divideCost 78 = .ok (.return_, 1) := by decide +kernel
set_option maxRecDepth 20000 in
theorem ggX3_accountIncome_X1_divide : GoodIn wsX3_accountIncome wsX1_divide := goodIn_r _ [10, 11, 12, 13, 14, 15, 16, 17, 18, 19, 9, 20, 71] (by decide +kernel) (by decide +kernel)
set_option maxRecDepth 20000 in
theorem gX3_accountIncome_X1_divide : GoodIn wsX3_accountIncome (wsV RX3 162 RX1 yX1_divide wsX1_divide) := goodIn_app (goodIn_of _ (by decide +kernel)) ggX3_accountIncome_X1_divide
set_option maxRecDepth 20000 in
theorem ggX3_accountIncome_X3_weighThoseIn : GoodIn wsX3_accountIncome wsX3_weighThoseIn := goodIn_r _ [25, 26, 27, 28, 29, 24, 30, 31, 2, 48, 49, 50, 51, 52, 53, 54, 55, 56, 57, 58, 59, 60, 61, 62, 63, 64, 65, 66, 67, 68, 69, 70] (by decide +kernel) (by decide +kernel)
set_option maxRecDepth 20000 in
theorem gX3_accountIncome_X3_weighThoseIn : GoodIn wsX3_accountIncome (wsV RX3 232 RX3 yX3_weighThoseIn wsX3_weighThoseIn) := goodIn_app (goodIn_of _ (by decide +kernel)) ggX3_accountIncome_X3_weighThoseIn
set_option maxRecDepth 20000 in
theorem ggX3_accountIncome_X2_takenOf : GoodIn wsX3_accountIncome wsX2_takenOf := goodIn_r _ [36, 37, 38, 39, 40, 41, 42, 63, 64, 65, 66, 67, 68, 69, 70] (by decide +kernel) (by decide +kernel)
set_option maxRecDepth 20000 in
theorem gX3_accountIncome_X2_takenOf : GoodIn wsX3_accountIncome (wsV RX3 240 RX2 yX2_takenOf wsX2_takenOf) := goodIn_app (goodIn_of _ (by decide +kernel)) ggX3_accountIncome_X2_takenOf
set_option maxRecDepth 20000 in
theorem ggX3_accountIncome_X3_creditTaken : GoodIn wsX3_accountIncome wsX3_creditTaken := goodIn_r _ [46, 1, 26, 47, 5, 6, 7, 8, 9, 10, 11, 12, 13, 14, 15, 16, 17, 18, 19, 20, 48, 49, 50, 51, 52, 53, 54, 55, 56, 57, 58, 59, 60, 61, 62, 63, 64, 65, 66, 67, 68, 69, 70, 71] (by decide +kernel) (by decide +kernel)
set_option maxRecDepth 20000 in
theorem gX3_accountIncome_X3_creditTaken : GoodIn wsX3_accountIncome (wsV RX3 243 RX3 yX3_creditTaken wsX3_creditTaken) := goodIn_app (goodIn_of _ (by decide +kernel)) ggX3_accountIncome_X3_creditTaken
theorem dX3_accountIncome_0 : decode cX3_accountIncome 0 = .ok (.aload_n 0, 1) := by decide +kernel
theorem dX3_accountIncome_1 : decode cX3_accountIncome 1 = .ok (.getfield 53, 3) := by decide +kernel
theorem dX3_accountIncome_4 : decode cX3_accountIncome 4 = .ok (.iload_n 2, 1) := by decide +kernel
theorem dX3_accountIncome_5 : decode cX3_accountIncome 5 = .ok (.aload_n 0, 1) := by decide +kernel
theorem dX3_accountIncome_6 : decode cX3_accountIncome 6 = .ok (.getfield 9, 3) := by decide +kernel
theorem dX3_accountIncome_9 : decode cX3_accountIncome 9 = .ok (.aload_n 0, 1) := by decide +kernel
theorem dX3_accountIncome_10 : decode cX3_accountIncome 10 = .ok (.getfield 57, 3) := by decide +kernel
theorem dX3_accountIncome_13 : decode cX3_accountIncome 13 = .ok (.invokevirtual 162, 3) := by decide +kernel
theorem dX3_accountIncome_16 : decode cX3_accountIncome 16 = .ok (.aload_n 0, 1) := by decide +kernel
theorem dX3_accountIncome_17 : decode cX3_accountIncome 17 = .ok (.aload_n 1, 1) := by decide +kernel
theorem dX3_accountIncome_18 : decode cX3_accountIncome 18 = .ok (.invokevirtual 232, 3) := by decide +kernel
theorem dX3_accountIncome_21 : decode cX3_accountIncome 21 = .ok (.iconst 0, 1) := by decide +kernel
theorem dX3_accountIncome_22 : decode cX3_accountIncome 22 = .ok (.istore_n 3, 1) := by decide +kernel
theorem dX3_accountIncome_23 : decode cX3_accountIncome 23 = .ok (.iload_n 3, 1) := by decide +kernel
theorem dX3_accountIncome_24 : decode cX3_accountIncome 24 = .ok (.iconst 5, 1) := by decide +kernel
theorem dX3_accountIncome_25 : decode cX3_accountIncome 25 = .ok (.if_icmp .ge 59, 3) := by decide +kernel
theorem dX3_accountIncome_28 : decode cX3_accountIncome 28 = .ok (.aload_n 1, 1) := by decide +kernel
theorem dX3_accountIncome_29 : decode cX3_accountIncome 29 = .ok (.iload_n 3, 1) := by decide +kernel
theorem dX3_accountIncome_30 : decode cX3_accountIncome 30 = .ok (.aload_n 0, 1) := by decide +kernel
theorem dX3_accountIncome_31 : decode cX3_accountIncome 31 = .ok (.getfield 57, 3) := by decide +kernel
theorem dX3_accountIncome_34 : decode cX3_accountIncome 34 = .ok (.iload_n 3, 1) := by decide +kernel
theorem dX3_accountIncome_35 : decode cX3_accountIncome 35 = .ok (.iaload, 1) := by decide +kernel
theorem dX3_accountIncome_36 : decode cX3_accountIncome 36 = .ok (.invokevirtual 240, 3) := by decide +kernel
theorem dX3_accountIncome_39 : decode cX3_accountIncome 39 = .ok (.istore 4, 2) := by decide +kernel
theorem dX3_accountIncome_41 : decode cX3_accountIncome 41 = .ok (.aload_n 1, 1) := by decide +kernel
theorem dX3_accountIncome_42 : decode cX3_accountIncome 42 = .ok (.getfield 140, 3) := by decide +kernel
theorem dX3_accountIncome_45 : decode cX3_accountIncome 45 = .ok (.iload_n 3, 1) := by decide +kernel
theorem dX3_accountIncome_46 : decode cX3_accountIncome 46 = .ok (.dup2, 1) := by decide +kernel
theorem dX3_accountIncome_47 : decode cX3_accountIncome 47 = .ok (.laload, 1) := by decide +kernel
theorem dX3_accountIncome_48 : decode cX3_accountIncome 48 = .ok (.iload 4, 2) := by decide +kernel
theorem dX3_accountIncome_50 : decode cX3_accountIncome 50 = .ok (.i2l, 1) := by decide +kernel
theorem dX3_accountIncome_51 : decode cX3_accountIncome 51 = .ok (.lsub, 1) := by decide +kernel
theorem dX3_accountIncome_52 : decode cX3_accountIncome 52 = .ok (.lastore, 1) := by decide +kernel
theorem dX3_accountIncome_53 : decode cX3_accountIncome 53 = .ok (.aload_n 1, 1) := by decide +kernel
theorem dX3_accountIncome_54 : decode cX3_accountIncome 54 = .ok (.getfield 150, 3) := by decide +kernel
theorem dX3_accountIncome_57 : decode cX3_accountIncome 57 = .ok (.iload_n 3, 1) := by decide +kernel
theorem dX3_accountIncome_58 : decode cX3_accountIncome 58 = .ok (.dup2, 1) := by decide +kernel
theorem dX3_accountIncome_59 : decode cX3_accountIncome 59 = .ok (.iaload, 1) := by decide +kernel
theorem dX3_accountIncome_60 : decode cX3_accountIncome 60 = .ok (.aload_n 0, 1) := by decide +kernel
theorem dX3_accountIncome_61 : decode cX3_accountIncome 61 = .ok (.getfield 57, 3) := by decide +kernel
theorem dX3_accountIncome_64 : decode cX3_accountIncome 64 = .ok (.iload_n 3, 1) := by decide +kernel
theorem dX3_accountIncome_65 : decode cX3_accountIncome 65 = .ok (.iaload, 1) := by decide +kernel
theorem dX3_accountIncome_66 : decode cX3_accountIncome 66 = .ok (.iload 4, 2) := by decide +kernel
theorem dX3_accountIncome_68 : decode cX3_accountIncome 68 = .ok (.isub, 1) := by decide +kernel
theorem dX3_accountIncome_69 : decode cX3_accountIncome 69 = .ok (.iadd, 1) := by decide +kernel
theorem dX3_accountIncome_70 : decode cX3_accountIncome 70 = .ok (.iastore, 1) := by decide +kernel
theorem dX3_accountIncome_71 : decode cX3_accountIncome 71 = .ok (.aload_n 0, 1) := by decide +kernel
theorem dX3_accountIncome_72 : decode cX3_accountIncome 72 = .ok (.aload_n 1, 1) := by decide +kernel
theorem dX3_accountIncome_73 : decode cX3_accountIncome 73 = .ok (.iload 4, 2) := by decide +kernel
theorem dX3_accountIncome_75 : decode cX3_accountIncome 75 = .ok (.invokevirtual 243, 3) := by decide +kernel
theorem dX3_accountIncome_78 : decode cX3_accountIncome 78 = .ok (.iinc 3 1, 3) := by decide +kernel
theorem dX3_accountIncome_81 : decode cX3_accountIncome 81 = .ok (.goto (-58), 3) := by decide +kernel
theorem dX3_accountIncome_84 : decode cX3_accountIncome 84 = .ok (.return_, 1) := by decide +kernel
set_option maxRecDepth 20000 in
theorem ggX3_creditTaken_X1_divide : GoodIn wsX3_creditTaken wsX1_divide := goodIn_r _ [9, 10, 11, 12, 13, 14, 15, 16, 17, 18, 8, 19, 43] (by decide +kernel) (by decide +kernel)
set_option maxRecDepth 20000 in
theorem gX3_creditTaken_X1_divide : GoodIn wsX3_creditTaken (wsV RX3 162 RX1 yX1_divide wsX1_divide) := goodIn_app (goodIn_of _ (by decide +kernel)) ggX3_creditTaken_X1_divide
theorem dX3_creditTaken_0 : decode cX3_creditTaken 0 = .ok (.iload_n 2, 1) := by decide +kernel
theorem dX3_creditTaken_1 : decode cX3_creditTaken 1 = .ok (.ifCond .ne 4, 3) := by decide +kernel
theorem dX3_creditTaken_4 : decode cX3_creditTaken 4 = .ok (.return_, 1) := by decide +kernel
theorem dX3_creditTaken_5 : decode cX3_creditTaken 5 = .ok (.aload_n 0, 1) := by decide +kernel
theorem dX3_creditTaken_6 : decode cX3_creditTaken 6 = .ok (.getfield 53, 3) := by decide +kernel
theorem dX3_creditTaken_9 : decode cX3_creditTaken 9 = .ok (.iload_n 2, 1) := by decide +kernel
theorem dX3_creditTaken_10 : decode cX3_creditTaken 10 = .ok (.aload_n 0, 1) := by decide +kernel
theorem dX3_creditTaken_11 : decode cX3_creditTaken 11 = .ok (.getfield 60, 3) := by decide +kernel
theorem dX3_creditTaken_14 : decode cX3_creditTaken 14 = .ok (.aload_n 0, 1) := by decide +kernel
theorem dX3_creditTaken_15 : decode cX3_creditTaken 15 = .ok (.getfield 63, 3) := by decide +kernel
theorem dX3_creditTaken_18 : decode cX3_creditTaken 18 = .ok (.invokevirtual 162, 3) := by decide +kernel
theorem dX3_creditTaken_21 : decode cX3_creditTaken 21 = .ok (.iconst 0, 1) := by decide +kernel
theorem dX3_creditTaken_22 : decode cX3_creditTaken 22 = .ok (.istore_n 3, 1) := by decide +kernel
theorem dX3_creditTaken_23 : decode cX3_creditTaken 23 = .ok (.iload_n 3, 1) := by decide +kernel
theorem dX3_creditTaken_24 : decode cX3_creditTaken 24 = .ok (.iconst 5, 1) := by decide +kernel
theorem dX3_creditTaken_25 : decode cX3_creditTaken 25 = .ok (.if_icmp .ge 24, 3) := by decide +kernel
theorem dX3_creditTaken_28 : decode cX3_creditTaken 28 = .ok (.aload_n 1, 1) := by decide +kernel
theorem dX3_creditTaken_29 : decode cX3_creditTaken 29 = .ok (.getfield 150, 3) := by decide +kernel
theorem dX3_creditTaken_32 : decode cX3_creditTaken 32 = .ok (.iload_n 3, 1) := by decide +kernel
theorem dX3_creditTaken_33 : decode cX3_creditTaken 33 = .ok (.dup2, 1) := by decide +kernel
theorem dX3_creditTaken_34 : decode cX3_creditTaken 34 = .ok (.iaload, 1) := by decide +kernel
theorem dX3_creditTaken_35 : decode cX3_creditTaken 35 = .ok (.aload_n 0, 1) := by decide +kernel
theorem dX3_creditTaken_36 : decode cX3_creditTaken 36 = .ok (.getfield 63, 3) := by decide +kernel
theorem dX3_creditTaken_39 : decode cX3_creditTaken 39 = .ok (.iload_n 3, 1) := by decide +kernel
theorem dX3_creditTaken_40 : decode cX3_creditTaken 40 = .ok (.iaload, 1) := by decide +kernel
theorem dX3_creditTaken_41 : decode cX3_creditTaken 41 = .ok (.iadd, 1) := by decide +kernel
theorem dX3_creditTaken_42 : decode cX3_creditTaken 42 = .ok (.iastore, 1) := by decide +kernel
theorem dX3_creditTaken_43 : decode cX3_creditTaken 43 = .ok (.iinc 3 1, 3) := by decide +kernel
theorem dX3_creditTaken_46 : decode cX3_creditTaken 46 = .ok (.goto (-23), 3) := by decide +kernel
theorem dX3_creditTaken_49 : decode cX3_creditTaken 49 = .ok (.return_, 1) := by decide +kernel
theorem dX3_ownPartsOfThoseOut_0 : decode cX3_ownPartsOfThoseOut 0 = .ok (.iconst 0, 1) := by decide +kernel
theorem dX3_ownPartsOfThoseOut_1 : decode cX3_ownPartsOfThoseOut 1 = .ok (.istore_n 2, 1) := by decide +kernel
theorem dX3_ownPartsOfThoseOut_2 : decode cX3_ownPartsOfThoseOut 2 = .ok (.iconst 0, 1) := by decide +kernel
theorem dX3_ownPartsOfThoseOut_3 : decode cX3_ownPartsOfThoseOut 3 = .ok (.istore_n 3, 1) := by decide +kernel
theorem dX3_ownPartsOfThoseOut_4 : decode cX3_ownPartsOfThoseOut 4 = .ok (.iload_n 3, 1) := by decide +kernel
theorem dX3_ownPartsOfThoseOut_5 : decode cX3_ownPartsOfThoseOut 5 = .ok (.iconst 5, 1) := by decide +kernel
theorem dX3_ownPartsOfThoseOut_6 : decode cX3_ownPartsOfThoseOut 6 = .ok (.if_icmp .ge 27, 3) := by decide +kernel
theorem dX3_ownPartsOfThoseOut_9 : decode cX3_ownPartsOfThoseOut 9 = .ok (.aload_n 1, 1) := by decide +kernel
theorem dX3_ownPartsOfThoseOut_10 : decode cX3_ownPartsOfThoseOut 10 = .ok (.getfield 115, 3) := by decide +kernel
theorem dX3_ownPartsOfThoseOut_13 : decode cX3_ownPartsOfThoseOut 13 = .ok (.iload_n 3, 1) := by decide +kernel
theorem dX3_ownPartsOfThoseOut_14 : decode cX3_ownPartsOfThoseOut 14 = .ok (.baload, 1) := by decide +kernel
theorem dX3_ownPartsOfThoseOut_15 : decode cX3_ownPartsOfThoseOut 15 = .ok (.ifCond .eq 12, 3) := by decide +kernel
theorem dX3_ownPartsOfThoseOut_18 : decode cX3_ownPartsOfThoseOut 18 = .ok (.iload_n 2, 1) := by decide +kernel
theorem dX3_ownPartsOfThoseOut_19 : decode cX3_ownPartsOfThoseOut 19 = .ok (.aload_n 0, 1) := by decide +kernel
theorem dX3_ownPartsOfThoseOut_20 : decode cX3_ownPartsOfThoseOut 20 = .ok (.getfield 57, 3) := by decide +kernel
theorem dX3_ownPartsOfThoseOut_23 : decode cX3_ownPartsOfThoseOut 23 = .ok (.iload_n 3, 1) := by decide +kernel
theorem dX3_ownPartsOfThoseOut_24 : decode cX3_ownPartsOfThoseOut 24 = .ok (.iaload, 1) := by decide +kernel
theorem dX3_ownPartsOfThoseOut_25 : decode cX3_ownPartsOfThoseOut 25 = .ok (.iadd, 1) := by decide +kernel
theorem dX3_ownPartsOfThoseOut_26 : decode cX3_ownPartsOfThoseOut 26 = .ok (.istore_n 2, 1) := by decide +kernel
theorem dX3_ownPartsOfThoseOut_27 : decode cX3_ownPartsOfThoseOut 27 = .ok (.iinc 3 1, 3) := by decide +kernel
theorem dX3_ownPartsOfThoseOut_30 : decode cX3_ownPartsOfThoseOut 30 = .ok (.goto (-26), 3) := by decide +kernel
theorem dX3_ownPartsOfThoseOut_33 : decode cX3_ownPartsOfThoseOut 33 = .ok (.iload_n 2, 1) := by decide +kernel
theorem dX3_ownPartsOfThoseOut_34 : decode cX3_ownPartsOfThoseOut 34 = .ok (.ireturn, 1) := by decide +kernel
set_option maxRecDepth 20000 in
theorem ggX3_weighThoseIn_X3_shareIfIn : GoodIn wsX3_weighThoseIn wsX3_shareIfIn := goodIn_r _ [6, 7, 8, 24, 25, 26, 27, 28, 29, 30, 31, 9, 10, 11, 12, 13, 14, 15, 16, 17, 18, 19, 20, 21, 22, 23] (by decide +kernel) (by decide +kernel)
set_option maxRecDepth 20000 in
theorem gX3_weighThoseIn_X3_shareIfIn : GoodIn wsX3_weighThoseIn (wsV RX3 136 RX3 yX3_shareIfIn wsX3_shareIfIn) := goodIn_app (goodIn_of _ (by decide +kernel)) ggX3_weighThoseIn_X3_shareIfIn
theorem dX3_weighThoseIn_0 : decode cX3_weighThoseIn 0 = .ok (.iconst 0, 1) := by decide +kernel
theorem dX3_weighThoseIn_1 : decode cX3_weighThoseIn 1 = .ok (.istore_n 2, 1) := by decide +kernel
theorem dX3_weighThoseIn_2 : decode cX3_weighThoseIn 2 = .ok (.iload_n 2, 1) := by decide +kernel
theorem dX3_weighThoseIn_3 : decode cX3_weighThoseIn 3 = .ok (.iconst 5, 1) := by decide +kernel
theorem dX3_weighThoseIn_4 : decode cX3_weighThoseIn 4 = .ok (.if_icmp .ge 21, 3) := by decide +kernel
theorem dX3_weighThoseIn_7 : decode cX3_weighThoseIn 7 = .ok (.aload_n 0, 1) := by decide +kernel
theorem dX3_weighThoseIn_8 : decode cX3_weighThoseIn 8 = .ok (.getfield 60, 3) := by decide +kernel
theorem dX3_weighThoseIn_11 : decode cX3_weighThoseIn 11 = .ok (.iload_n 2, 1) := by decide +kernel
theorem dX3_weighThoseIn_12 : decode cX3_weighThoseIn 12 = .ok (.aload_n 0, 1) := by decide +kernel
theorem dX3_weighThoseIn_13 : decode cX3_weighThoseIn 13 = .ok (.aload_n 1, 1) := by decide +kernel
theorem dX3_weighThoseIn_14 : decode cX3_weighThoseIn 14 = .ok (.iload_n 2, 1) := by decide +kernel
theorem dX3_weighThoseIn_15 : decode cX3_weighThoseIn 15 = .ok (.invokevirtual 136, 3) := by decide +kernel
theorem dX3_weighThoseIn_18 : decode cX3_weighThoseIn 18 = .ok (.iastore, 1) := by decide +kernel
theorem dX3_weighThoseIn_19 : decode cX3_weighThoseIn 19 = .ok (.iinc 2 1, 3) := by decide +kernel
theorem dX3_weighThoseIn_22 : decode cX3_weighThoseIn 22 = .ok (.goto (-20), 3) := by decide +kernel
theorem dX3_weighThoseIn_25 : decode cX3_weighThoseIn 25 = .ok (.return_, 1) := by decide +kernel
theorem dX3_shareIfIn_0 : decode cX3_shareIfIn 0 = .ok (.aload_n 1, 1) := by decide +kernel
theorem dX3_shareIfIn_1 : decode cX3_shareIfIn 1 = .ok (.getfield 115, 3) := by decide +kernel
theorem dX3_shareIfIn_4 : decode cX3_shareIfIn 4 = .ok (.iload_n 2, 1) := by decide +kernel
theorem dX3_shareIfIn_5 : decode cX3_shareIfIn 5 = .ok (.baload, 1) := by decide +kernel
theorem dX3_shareIfIn_6 : decode cX3_shareIfIn 6 = .ok (.ifCond .eq 7, 3) := by decide +kernel
theorem dX3_shareIfIn_9 : decode cX3_shareIfIn 9 = .ok (.iconst 0, 1) := by decide +kernel
theorem dX3_shareIfIn_10 : decode cX3_shareIfIn 10 = .ok (.goto 9, 3) := by decide +kernel
theorem dX3_shareIfIn_13 : decode cX3_shareIfIn 13 = .ok (.aload_n 0, 1) := by decide +kernel
theorem dX3_shareIfIn_14 : decode cX3_shareIfIn 14 = .ok (.getfield 9, 3) := by decide +kernel
theorem dX3_shareIfIn_17 : decode cX3_shareIfIn 17 = .ok (.iload_n 2, 1) := by decide +kernel
theorem dX3_shareIfIn_18 : decode cX3_shareIfIn 18 = .ok (.iaload, 1) := by decide +kernel
theorem dX3_shareIfIn_19 : decode cX3_shareIfIn 19 = .ok (.ireturn, 1) := by decide +kernel
set_option maxRecDepth 20000 in
theorem ggX3_isAnotherIn_X3_shareIfIn : GoodIn wsX3_isAnotherIn wsX3_shareIfIn := goodIn_r _ [5, 6, 7, 8, 9, 10, 11, 12, 13, 14, 15, 16, 17, 18, 19, 20, 21, 22, 23, 24, 25, 26, 27, 28, 29, 30] (by decide +kernel) (by decide +kernel)
set_option maxRecDepth 20000 in
theorem gX3_isAnotherIn_X3_shareIfIn : GoodIn wsX3_isAnotherIn (wsV RX3 136 RX3 yX3_shareIfIn wsX3_shareIfIn) := goodIn_app (goodIn_of _ (by decide +kernel)) ggX3_isAnotherIn_X3_shareIfIn
theorem dX3_isAnotherIn_0 : decode cX3_isAnotherIn 0 = .ok (.iconst 0, 1) := by decide +kernel
theorem dX3_isAnotherIn_1 : decode cX3_isAnotherIn 1 = .ok (.istore_n 3, 1) := by decide +kernel
theorem dX3_isAnotherIn_2 : decode cX3_isAnotherIn 2 = .ok (.iload_n 3, 1) := by decide +kernel
theorem dX3_isAnotherIn_3 : decode cX3_isAnotherIn 3 = .ok (.iconst 5, 1) := by decide +kernel
theorem dX3_isAnotherIn_4 : decode cX3_isAnotherIn 4 = .ok (.if_icmp .ge 25, 3) := by decide +kernel
theorem dX3_isAnotherIn_7 : decode cX3_isAnotherIn 7 = .ok (.iload_n 3, 1) := by decide +kernel
theorem dX3_isAnotherIn_8 : decode cX3_isAnotherIn 8 = .ok (.iload_n 2, 1) := by decide +kernel
theorem dX3_isAnotherIn_9 : decode cX3_isAnotherIn 9 = .ok (.if_icmp .eq 14, 3) := by decide +kernel
theorem dX3_isAnotherIn_12 : decode cX3_isAnotherIn 12 = .ok (.aload_n 0, 1) := by decide +kernel
theorem dX3_isAnotherIn_13 : decode cX3_isAnotherIn 13 = .ok (.aload_n 1, 1) := by decide +kernel
theorem dX3_isAnotherIn_14 : decode cX3_isAnotherIn 14 = .ok (.iload_n 3, 1) := by decide +kernel
theorem dX3_isAnotherIn_15 : decode cX3_isAnotherIn 15 = .ok (.invokevirtual 136, 3) := by decide +kernel
theorem dX3_isAnotherIn_18 : decode cX3_isAnotherIn 18 = .ok (.ifCond .le 5, 3) := by decide +kernel
theorem dX3_isAnotherIn_21 : decode cX3_isAnotherIn 21 = .ok (.iconst 1, 1) := by decide +kernel
theorem dX3_isAnotherIn_22 : decode cX3_isAnotherIn 22 = .ok (.ireturn, 1) := by decide +kernel
theorem dX3_isAnotherIn_23 : decode cX3_isAnotherIn 23 = .ok (.iinc 3 1, 3) := by decide +kernel
theorem dX3_isAnotherIn_26 : decode cX3_isAnotherIn 26 = .ok (.goto (-24), 3) := by decide +kernel
theorem dX3_isAnotherIn_29 : decode cX3_isAnotherIn 29 = .ok (.iconst 0, 1) := by decide +kernel
theorem dX3_isAnotherIn_30 : decode cX3_isAnotherIn 30 = .ok (.ireturn, 1) := by decide +kernel
set_option maxRecDepth 20000 in
theorem ggX3_moveToPayers_X1_divide : GoodIn wsX3_moveToPayers wsX1_divide := goodIn_r _ [11, 12, 13, 14, 15, 16, 17, 18, 19, 20, 10, 21, 39] (by decide +kernel) (by decide +kernel)
set_option maxRecDepth 20000 in
theorem gX3_moveToPayers_X1_divide : GoodIn wsX3_moveToPayers (wsV RX3 162 RX1 yX1_divide wsX1_divide) := goodIn_app (goodIn_of _ (by decide +kernel)) ggX3_moveToPayers_X1_divide
theorem dX3_moveToPayers_0 : decode cX3_moveToPayers 0 = .ok (.iconst 0, 1) := by decide +kernel
theorem dX3_moveToPayers_1 : decode cX3_moveToPayers 1 = .ok (.istore_n 3, 1) := by decide +kernel
theorem dX3_moveToPayers_2 : decode cX3_moveToPayers 2 = .ok (.iload_n 3, 1) := by decide +kernel
theorem dX3_moveToPayers_3 : decode cX3_moveToPayers 3 = .ok (.iconst 5, 1) := by decide +kernel
theorem dX3_moveToPayers_4 : decode cX3_moveToPayers 4 = .ok (.if_icmp .ge 34, 3) := by decide +kernel
theorem dX3_moveToPayers_7 : decode cX3_moveToPayers 7 = .ok (.aload_n 0, 1) := by decide +kernel
theorem dX3_moveToPayers_8 : decode cX3_moveToPayers 8 = .ok (.getfield 60, 3) := by decide +kernel
theorem dX3_moveToPayers_11 : decode cX3_moveToPayers 11 = .ok (.iload_n 3, 1) := by decide +kernel
theorem dX3_moveToPayers_12 : decode cX3_moveToPayers 12 = .ok (.aload_n 1, 1) := by decide +kernel
theorem dX3_moveToPayers_13 : decode cX3_moveToPayers 13 = .ok (.getfield 169, 3) := by decide +kernel
theorem dX3_moveToPayers_16 : decode cX3_moveToPayers 16 = .ok (.iload_n 3, 1) := by decide +kernel
theorem dX3_moveToPayers_17 : decode cX3_moveToPayers 17 = .ok (.iaload, 1) := by decide +kernel
theorem dX3_moveToPayers_18 : decode cX3_moveToPayers 18 = .ok (.ifCond .le 12, 3) := by decide +kernel
theorem dX3_moveToPayers_21 : decode cX3_moveToPayers 21 = .ok (.aload_n 1, 1) := by decide +kernel
theorem dX3_moveToPayers_22 : decode cX3_moveToPayers 22 = .ok (.getfield 159, 3) := by decide +kernel
theorem dX3_moveToPayers_25 : decode cX3_moveToPayers 25 = .ok (.iload_n 3, 1) := by decide +kernel
theorem dX3_moveToPayers_26 : decode cX3_moveToPayers 26 = .ok (.iaload, 1) := by decide +kernel
theorem dX3_moveToPayers_27 : decode cX3_moveToPayers 27 = .ok (.goto 4, 3) := by decide +kernel
theorem dX3_moveToPayers_30 : decode cX3_moveToPayers 30 = .ok (.iconst 0, 1) := by decide +kernel
theorem dX3_moveToPayers_31 : decode cX3_moveToPayers 31 = .ok (.iastore, 1) := by decide +kernel
theorem dX3_moveToPayers_32 : decode cX3_moveToPayers 32 = .ok (.iinc 3 1, 3) := by decide +kernel
theorem dX3_moveToPayers_35 : decode cX3_moveToPayers 35 = .ok (.goto (-33), 3) := by decide +kernel
theorem dX3_moveToPayers_38 : decode cX3_moveToPayers 38 = .ok (.aload_n 0, 1) := by decide +kernel
theorem dX3_moveToPayers_39 : decode cX3_moveToPayers 39 = .ok (.getfield 53, 3) := by decide +kernel
theorem dX3_moveToPayers_42 : decode cX3_moveToPayers 42 = .ok (.iload_n 2, 1) := by decide +kernel
theorem dX3_moveToPayers_43 : decode cX3_moveToPayers 43 = .ok (.aload_n 0, 1) := by decide +kernel
theorem dX3_moveToPayers_44 : decode cX3_moveToPayers 44 = .ok (.getfield 60, 3) := by decide +kernel
theorem dX3_moveToPayers_47 : decode cX3_moveToPayers 47 = .ok (.aload_n 0, 1) := by decide +kernel
theorem dX3_moveToPayers_48 : decode cX3_moveToPayers 48 = .ok (.getfield 63, 3) := by decide +kernel
theorem dX3_moveToPayers_51 : decode cX3_moveToPayers 51 = .ok (.invokevirtual 162, 3) := by decide +kernel
theorem dX3_moveToPayers_54 : decode cX3_moveToPayers 54 = .ok (.iconst 0, 1) := by decide +kernel
theorem dX3_moveToPayers_55 : decode cX3_moveToPayers 55 = .ok (.istore_n 3, 1) := by decide +kernel
theorem dX3_moveToPayers_56 : decode cX3_moveToPayers 56 = .ok (.iload_n 3, 1) := by decide +kernel
theorem dX3_moveToPayers_57 : decode cX3_moveToPayers 57 = .ok (.iconst 5, 1) := by decide +kernel
theorem dX3_moveToPayers_58 : decode cX3_moveToPayers 58 = .ok (.if_icmp .ge 58, 3) := by decide +kernel
theorem dX3_moveToPayers_61 : decode cX3_moveToPayers 61 = .ok (.aload_n 1, 1) := by decide +kernel
theorem dX3_moveToPayers_62 : decode cX3_moveToPayers 62 = .ok (.getfield 169, 3) := by decide +kernel
theorem dX3_moveToPayers_65 : decode cX3_moveToPayers 65 = .ok (.iload_n 3, 1) := by decide +kernel
theorem dX3_moveToPayers_66 : decode cX3_moveToPayers 66 = .ok (.iaload, 1) := by decide +kernel
theorem dX3_moveToPayers_67 : decode cX3_moveToPayers 67 = .ok (.ifCond .le 21, 3) := by decide +kernel
theorem dX3_moveToPayers_70 : decode cX3_moveToPayers 70 = .ok (.aload_n 1, 1) := by decide +kernel
theorem dX3_moveToPayers_71 : decode cX3_moveToPayers 71 = .ok (.getfield 159, 3) := by decide +kernel
theorem dX3_moveToPayers_74 : decode cX3_moveToPayers 74 = .ok (.iload_n 3, 1) := by decide +kernel
theorem dX3_moveToPayers_75 : decode cX3_moveToPayers 75 = .ok (.dup2, 1) := by decide +kernel
theorem dX3_moveToPayers_76 : decode cX3_moveToPayers 76 = .ok (.iaload, 1) := by decide +kernel
theorem dX3_moveToPayers_77 : decode cX3_moveToPayers 77 = .ok (.aload_n 0, 1) := by decide +kernel
theorem dX3_moveToPayers_78 : decode cX3_moveToPayers 78 = .ok (.getfield 63, 3) := by decide +kernel
theorem dX3_moveToPayers_81 : decode cX3_moveToPayers 81 = .ok (.iload_n 3, 1) := by decide +kernel
theorem dX3_moveToPayers_82 : decode cX3_moveToPayers 82 = .ok (.iaload, 1) := by decide +kernel
theorem dX3_moveToPayers_83 : decode cX3_moveToPayers 83 = .ok (.iadd, 1) := by decide +kernel
theorem dX3_moveToPayers_84 : decode cX3_moveToPayers 84 = .ok (.iastore, 1) := by decide +kernel
theorem dX3_moveToPayers_85 : decode cX3_moveToPayers 85 = .ok (.goto 25, 3) := by decide +kernel
theorem dX3_moveToPayers_88 : decode cX3_moveToPayers 88 = .ok (.aload_n 0, 1) := by decide +kernel
theorem dX3_moveToPayers_89 : decode cX3_moveToPayers 89 = .ok (.getfield 47, 3) := by decide +kernel
theorem dX3_moveToPayers_92 : decode cX3_moveToPayers 92 = .ok (.iload_n 3, 1) := by decide +kernel
theorem dX3_moveToPayers_93 : decode cX3_moveToPayers 93 = .ok (.dup2, 1) := by decide +kernel
theorem dX3_moveToPayers_94 : decode cX3_moveToPayers 94 = .ok (.iaload, 1) := by decide +kernel
theorem dX3_moveToPayers_95 : decode cX3_moveToPayers 95 = .ok (.aload_n 1, 1) := by decide +kernel
theorem dX3_moveToPayers_96 : decode cX3_moveToPayers 96 = .ok (.getfield 159, 3) := by decide +kernel
theorem dX3_moveToPayers_99 : decode cX3_moveToPayers 99 = .ok (.iload_n 3, 1) := by decide +kernel
theorem dX3_moveToPayers_100 : decode cX3_moveToPayers 100 = .ok (.iaload, 1) := by decide +kernel
theorem dX3_moveToPayers_101 : decode cX3_moveToPayers 101 = .ok (.iadd, 1) := by decide +kernel
theorem dX3_moveToPayers_102 : decode cX3_moveToPayers 102 = .ok (.iastore, 1) := by decide +kernel
theorem dX3_moveToPayers_103 : decode cX3_moveToPayers 103 = .ok (.aload_n 1, 1) := by decide +kernel
theorem dX3_moveToPayers_104 : decode cX3_moveToPayers 104 = .ok (.getfield 159, 3) := by decide +kernel
theorem dX3_moveToPayers_107 : decode cX3_moveToPayers 107 = .ok (.iload_n 3, 1) := by decide +kernel
theorem dX3_moveToPayers_108 : decode cX3_moveToPayers 108 = .ok (.iconst 0, 1) := by decide +kernel
theorem dX3_moveToPayers_109 : decode cX3_moveToPayers 109 = .ok (.iastore, 1) := by decide +kernel
theorem dX3_moveToPayers_110 : decode cX3_moveToPayers 110 = .ok (.iinc 3 1, 3) := by decide +kernel
theorem dX3_moveToPayers_113 : decode cX3_moveToPayers 113 = .ok (.goto (-57), 3) := by decide +kernel
theorem dX3_moveToPayers_116 : decode cX3_moveToPayers 116 = .ok (.return_, 1) := by decide +kernel
theorem dX3_paidOfAllCalls_0 : decode cX3_paidOfAllCalls 0 = .ok (.iconst 0, 1) := by decide +kernel
theorem dX3_paidOfAllCalls_1 : decode cX3_paidOfAllCalls 1 = .ok (.istore_n 2, 1) := by decide +kernel
theorem dX3_paidOfAllCalls_2 : decode cX3_paidOfAllCalls 2 = .ok (.iconst 0, 1) := by decide +kernel
theorem dX3_paidOfAllCalls_3 : decode cX3_paidOfAllCalls 3 = .ok (.istore_n 3, 1) := by decide +kernel
theorem dX3_paidOfAllCalls_4 : decode cX3_paidOfAllCalls 4 = .ok (.iload_n 3, 1) := by decide +kernel
theorem dX3_paidOfAllCalls_5 : decode cX3_paidOfAllCalls 5 = .ok (.aload_n 0, 1) := by decide +kernel
theorem dX3_paidOfAllCalls_6 : decode cX3_paidOfAllCalls 6 = .ok (.getfield 44, 3) := by decide +kernel
theorem dX3_paidOfAllCalls_9 : decode cX3_paidOfAllCalls 9 = .ok (.if_icmp .ge 23, 3) := by decide +kernel
theorem dX3_paidOfAllCalls_12 : decode cX3_paidOfAllCalls 12 = .ok (.iload_n 2, 1) := by decide +kernel
theorem dX3_paidOfAllCalls_13 : decode cX3_paidOfAllCalls 13 = .ok (.aload_n 0, 1) := by decide +kernel
theorem dX3_paidOfAllCalls_14 : decode cX3_paidOfAllCalls 14 = .ok (.getfield 40, 3) := by decide +kernel
theorem dX3_paidOfAllCalls_17 : decode cX3_paidOfAllCalls 17 = .ok (.iload_n 3, 1) := by decide +kernel
theorem dX3_paidOfAllCalls_18 : decode cX3_paidOfAllCalls 18 = .ok (.aaload, 1) := by decide +kernel
theorem dX3_paidOfAllCalls_19 : decode cX3_paidOfAllCalls 19 = .ok (.getfield 169, 3) := by decide +kernel
theorem dX3_paidOfAllCalls_22 : decode cX3_paidOfAllCalls 22 = .ok (.iload_n 1, 1) := by decide +kernel
theorem dX3_paidOfAllCalls_23 : decode cX3_paidOfAllCalls 23 = .ok (.iaload, 1) := by decide +kernel
theorem dX3_paidOfAllCalls_24 : decode cX3_paidOfAllCalls 24 = .ok (.iadd, 1) := by decide +kernel
theorem dX3_paidOfAllCalls_25 : decode cX3_paidOfAllCalls 25 = .ok (.istore_n 2, 1) := by decide +kernel
theorem dX3_paidOfAllCalls_26 : decode cX3_paidOfAllCalls 26 = .ok (.iinc 3 1, 3) := by decide +kernel
theorem dX3_paidOfAllCalls_29 : decode cX3_paidOfAllCalls 29 = .ok (.goto (-25), 3) := by decide +kernel
theorem dX3_paidOfAllCalls_32 : decode cX3_paidOfAllCalls 32 = .ok (.iload_n 2, 1) := by decide +kernel
theorem dX3_paidOfAllCalls_33 : decode cX3_paidOfAllCalls 33 = .ok (.ireturn, 1) := by decide +kernel
theorem dX4_init_0 : decode cX4_init 0 = .ok (.aload_n 0, 1) := by decide +kernel
theorem dX4_init_1 : decode cX4_init 1 = .ok (.invokespecial 1, 3) := by decide +kernel
theorem dX4_init_4 : decode cX4_init 4 = .ok (.aload_n 0, 1) := by decide +kernel
theorem dX4_init_5 : decode cX4_init 5 = .ok (.iconst 5, 1) := by decide +kernel
theorem dX4_init_6 : decode cX4_init 6 = .ok (.newarray .int, 2) := by decide +kernel
theorem dX4_init_8 : decode cX4_init 8 = .ok (.putfield 7, 3) := by decide +kernel
theorem dX4_init_11 : decode cX4_init 11 = .ok (.aload_n 0, 1) := by decide +kernel
theorem dX4_init_12 : decode cX4_init 12 = .ok (.sipush 300, 3) := by decide +kernel
theorem dX4_init_15 : decode cX4_init 15 = .ok (.putfield 13, 3) := by decide +kernel
theorem dX4_init_18 : decode cX4_init 18 = .ok (.aload_n 0, 1) := by decide +kernel
theorem dX4_init_19 : decode cX4_init 19 = .ok (.bipush 6, 2) := by decide +kernel
theorem dX4_init_21 : decode cX4_init 21 = .ok (.newarray .int, 2) := by decide +kernel
theorem dX4_init_23 : decode cX4_init 23 = .ok (.putfield 17, 3) := by decide +kernel
theorem dX4_init_26 : decode cX4_init 26 = .ok (.aload_n 0, 1) := by decide +kernel
theorem dX4_init_27 : decode cX4_init 27 = .ok (.bipush 6, 2) := by decide +kernel
theorem dX4_init_29 : decode cX4_init 29 = .ok (.newarray .boolean, 2) := by decide +kernel
theorem dX4_init_31 : decode cX4_init 31 = .ok (.putfield 20, 3) := by decide +kernel
theorem dX4_init_34 : decode cX4_init 34 = .ok (.aload_n 0, 1) := by decide +kernel
theorem dX4_init_35 : decode cX4_init 35 = .ok (.bipush 30, 2) := by decide +kernel
theorem dX4_init_37 : decode cX4_init 37 = .ok (.newarray .boolean, 2) := by decide +kernel
theorem dX4_init_39 : decode cX4_init 39 = .ok (.putfield 24, 3) := by decide +kernel
theorem dX4_init_42 : decode cX4_init 42 = .ok (.aload_n 0, 1) := by decide +kernel
theorem dX4_init_43 : decode cX4_init 43 = .ok (.bipush 60, 2) := by decide +kernel
theorem dX4_init_45 : decode cX4_init 45 = .ok (.newarray .int, 2) := by decide +kernel
theorem dX4_init_47 : decode cX4_init 47 = .ok (.putfield 27, 3) := by decide +kernel
theorem dX4_init_50 : decode cX4_init 50 = .ok (.aload_n 0, 1) := by decide +kernel
theorem dX4_init_51 : decode cX4_init 51 = .ok (.bipush 60, 2) := by decide +kernel
theorem dX4_init_53 : decode cX4_init 53 = .ok (.newarray .int, 2) := by decide +kernel
theorem dX4_init_55 : decode cX4_init 55 = .ok (.putfield 30, 3) := by decide +kernel
theorem dX4_init_58 : decode cX4_init 58 = .ok (.aload_n 0, 1) := by decide +kernel
theorem dX4_init_59 : decode cX4_init 59 = .ok (.bipush 60, 2) := by decide +kernel
theorem dX4_init_61 : decode cX4_init 61 = .ok (.newarray .boolean, 2) := by decide +kernel
theorem dX4_init_63 : decode cX4_init 63 = .ok (.putfield 33, 3) := by decide +kernel
theorem dX4_init_66 : decode cX4_init 66 = .ok (.aload_n 0, 1) := by decide +kernel
theorem dX4_init_67 : decode cX4_init 67 = .ok (.bipush 100, 2) := by decide +kernel
theorem dX4_init_69 : decode cX4_init 69 = .ok (.newarray .int, 2) := by decide +kernel
theorem dX4_init_71 : decode cX4_init 71 = .ok (.putfield 36, 3) := by decide +kernel
theorem dX4_init_74 : decode cX4_init 74 = .ok (.aload_n 0, 1) := by decide +kernel
theorem dX4_init_75 : decode cX4_init 75 = .ok (.bipush 100, 2) := by decide +kernel
theorem dX4_init_77 : decode cX4_init 77 = .ok (.newarray .int, 2) := by decide +kernel
theorem dX4_init_79 : decode cX4_init 79 = .ok (.putfield 39, 3) := by decide +kernel
theorem dX4_init_82 : decode cX4_init 82 = .ok (.aload_n 0, 1) := by decide +kernel
theorem dX4_init_83 : decode cX4_init 83 = .ok (.iconst 5, 1) := by decide +kernel
theorem dX4_init_84 : decode cX4_init 84 = .ok (.newarray .int, 2) := by decide +kernel
theorem dX4_init_86 : decode cX4_init 86 = .ok (.putfield 42, 3) := by decide +kernel
theorem dX4_init_89 : decode cX4_init 89 = .ok (.aload_n 0, 1) := by decide +kernel
theorem dX4_init_90 : decode cX4_init 90 = .ok (.iconst 5, 1) := by decide +kernel
theorem dX4_init_91 : decode cX4_init 91 = .ok (.newarray .boolean, 2) := by decide +kernel
theorem dX4_init_93 : decode cX4_init 93 = .ok (.putfield 45, 3) := by decide +kernel
theorem dX4_init_96 : decode cX4_init 96 = .ok (.aload_n 0, 1) := by decide +kernel
theorem dX4_init_97 : decode cX4_init 97 = .ok (.iconst 5, 1) := by decide +kernel
theorem dX4_init_98 : decode cX4_init 98 = .ok (.newarray .long, 2) := by decide +kernel
theorem dX4_init_100 : decode cX4_init 100 = .ok (.putfield 48, 3) := by decide +kernel
theorem dX4_init_103 : decode cX4_init 103 = .ok (.aload_n 0, 1) := by decide +kernel
theorem dX4_init_104 : decode cX4_init 104 = .ok (.iconst 5, 1) := by decide +kernel
theorem dX4_init_105 : decode cX4_init 105 = .ok (.newarray .int, 2) := by decide +kernel
theorem dX4_init_107 : decode cX4_init 107 = .ok (.putfield 52, 3) := by decide +kernel
theorem dX4_init_110 : decode cX4_init 110 = .ok (.aload_n 0, 1) := by decide +kernel
theorem dX4_init_111 : decode cX4_init 111 = .ok (.iconst 5, 1) := by decide +kernel
theorem dX4_init_112 : decode cX4_init 112 = .ok (.newarray .int, 2) := by decide +kernel
theorem dX4_init_114 : decode cX4_init 114 = .ok (.putfield 55, 3) := by decide +kernel
theorem dX4_init_117 : decode cX4_init 117 = .ok (.aload_n 0, 1) := by decide +kernel
theorem dX4_init_118 : decode cX4_init 118 = .ok (.iconst 5, 1) := by decide +kernel
theorem dX4_init_119 : decode cX4_init 119 = .ok (.newarray .int, 2) := by decide +kernel
theorem dX4_init_121 : decode cX4_init 121 = .ok (.putfield 58, 3) := by decide +kernel
theorem dX4_init_124 : decode cX4_init 124 = .ok (.aload_n 0, 1) := by decide +kernel
theorem dX4_init_125 : decode cX4_init 125 = .ok (.iconst 5, 1) := by decide +kernel
theorem dX4_init_126 : decode cX4_init 126 = .ok (.newarray .int, 2) := by decide +kernel
theorem dX4_init_128 : decode cX4_init 128 = .ok (.putfield 61, 3) := by decide +kernel
theorem dX4_init_131 : decode cX4_init 131 = .ok (.aload_n 0, 1) := by decide +kernel
theorem dX4_init_132 : decode cX4_init 132 = .ok (.iconst 5, 1) := by decide +kernel
theorem dX4_init_133 : decode cX4_init 133 = .ok (.newarray .int, 2) := by decide +kernel
theorem dX4_init_135 : decode cX4_init 135 = .ok (.putfield 64, 3) := by decide +kernel
theorem dX4_init_138 : decode cX4_init 138 = .ok (.aload_n 0, 1) := by decide +kernel
theorem dX4_init_139 : decode cX4_init 139 = .ok (.iconst 5, 1) := by decide +kernel
theorem dX4_init_140 : decode cX4_init 140 = .ok (.newarray .int, 2) := by decide +kernel
theorem dX4_init_142 : decode cX4_init 142 = .ok (.putfield 67, 3) := by decide +kernel
theorem dX4_init_145 : decode cX4_init 145 = .ok (.aload_n 0, 1) := by decide +kernel
theorem dX4_init_146 : decode cX4_init 146 = .ok (.iconst 5, 1) := by decide +kernel
theorem dX4_init_147 : decode cX4_init 147 = .ok (.newarray .long, 2) := by decide +kernel
theorem dX4_init_149 : decode cX4_init 149 = .ok (.putfield 70, 3) := by decide +kernel
theorem dX4_init_152 : decode cX4_init 152 = .ok (.aload_n 0, 1) := by decide +kernel
theorem dX4_init_153 : decode cX4_init 153 = .ok (.getfield 7, 3) := by decide +kernel
theorem dX4_init_156 : decode cX4_init 156 = .ok (.iconst 0, 1) := by decide +kernel
theorem dX4_init_157 : decode cX4_init 157 = .ok (.sipush 10000, 3) := by decide +kernel
theorem dX4_init_160 : decode cX4_init 160 = .ok (.iastore, 1) := by decide +kernel
theorem dX4_init_161 : decode cX4_init 161 = .ok (.return_, 1) := by decide +kernel
theorem dX4_thrown_0 : decode cX4_thrown 0 = .ok (.aload_n 0, 1) := by decide +kernel
theorem dX4_thrown_1 : decode cX4_thrown 1 = .ok (.getfield 73, 3) := by decide +kernel
theorem dX4_thrown_4 : decode cX4_thrown 4 = .ok (.ireturn, 1) := by decide +kernel
theorem dX4_within_0 : decode cX4_within 0 = .ok (.iload_n 0, 1) := by decide +kernel
theorem dX4_within_1 : decode cX4_within 1 = .ok (.iload_n 1, 1) := by decide +kernel
theorem dX4_within_2 : decode cX4_within 2 = .ok (.if_icmp .lt 12, 3) := by decide +kernel
theorem dX4_within_5 : decode cX4_within 5 = .ok (.iload_n 0, 1) := by decide +kernel
theorem dX4_within_6 : decode cX4_within 6 = .ok (.iload_n 2, 1) := by decide +kernel
theorem dX4_within_7 : decode cX4_within 7 = .ok (.if_icmp .gt 7, 3) := by decide +kernel
theorem dX4_within_10 : decode cX4_within 10 = .ok (.iconst 1, 1) := by decide +kernel
theorem dX4_within_11 : decode cX4_within 11 = .ok (.goto 4, 3) := by decide +kernel
theorem dX4_within_14 : decode cX4_within 14 = .ok (.iconst 0, 1) := by decide +kernel
theorem dX4_within_15 : decode cX4_within 15 = .ok (.ireturn, 1) := by decide +kernel
theorem dX4_goes_0 : decode cX4_goes 0 = .ok (.aload_n 0, 1) := by decide +kernel
theorem dX4_goes_1 : decode cX4_goes 1 = .ok (.iload_n 1, 1) := by decide +kernel
theorem dX4_goes_2 : decode cX4_goes 2 = .ok (.ifCond .ne 7, 3) := by decide +kernel
theorem dX4_goes_5 : decode cX4_goes 5 = .ok (.iconst 1, 1) := by decide +kernel
theorem dX4_goes_6 : decode cX4_goes 6 = .ok (.goto 20, 3) := by decide +kernel
theorem dX4_goes_9 : decode cX4_goes 9 = .ok (.iload_n 2, 1) := by decide +kernel
theorem dX4_goes_10 : decode cX4_goes 10 = .ok (.ifCond .ne 7, 3) := by decide +kernel
theorem dX4_goes_13 : decode cX4_goes 13 = .ok (.iconst 2, 1) := by decide +kernel
theorem dX4_goes_14 : decode cX4_goes 14 = .ok (.goto 12, 3) := by decide +kernel
theorem dX4_goes_17 : decode cX4_goes 17 = .ok (.iload_n 3, 1) := by decide +kernel
theorem dX4_goes_18 : decode cX4_goes 18 = .ok (.ifCond .eq 7, 3) := by decide +kernel
theorem dX4_goes_21 : decode cX4_goes 21 = .ok (.iconst 0, 1) := by decide +kernel
theorem dX4_goes_22 : decode cX4_goes 22 = .ok (.goto 4, 3) := by decide +kernel
theorem dX4_goes_25 : decode cX4_goes 25 = .ok (.iconst 3, 1) := by decide +kernel
theorem dX4_goes_26 : decode cX4_goes 26 = .ok (.putfield 73, 3) := by decide +kernel
theorem dX4_goes_29 : decode cX4_goes 29 = .ok (.aload_n 0, 1) := by decide +kernel
theorem dX4_goes_30 : decode cX4_goes 30 = .ok (.getfield 73, 3) := by decide +kernel
theorem dX4_goes_33 : decode cX4_goes 33 = .ok (.ifCond .ne 7, 3) := by decide +kernel
theorem dX4_goes_36 : decode cX4_goes 36 = .ok (.iconst 1, 1) := by decide +kernel
theorem dX4_goes_37 : decode cX4_goes 37 = .ok (.goto 4, 3) := by decide +kernel
theorem dX4_goes_40 : decode cX4_goes 40 = .ok (.iconst 0, 1) := by decide +kernel
theorem dX4_goes_41 : decode cX4_goes 41 = .ok (.ireturn, 1) := by decide +kernel
set_option maxRecDepth 20000 in
theorem ggX4_isPartner_X4_within : GoodIn wsX4_isPartner wsX4_within := goodIn_r _ [4] (by decide +kernel) (by decide +kernel)
set_option maxRecDepth 20000 in
theorem gX4_isPartner_X4_within : GoodIn wsX4_isPartner (va_wsS RX4 76 yX4_within wsX4_within) := goodIn_app (goodIn_of _ (by decide +kernel)) ggX4_isPartner_X4_within
theorem dX4_isPartner_0 : decode cX4_isPartner 0 = .ok (.iload_n 0, 1) := by decide +kernel
theorem dX4_isPartner_1 : decode cX4_isPartner 1 = .ok (.iconst 0, 1) := by decide +kernel
theorem dX4_isPartner_2 : decode cX4_isPartner 2 = .ok (.iconst 4, 1) := by decide +kernel
theorem dX4_isPartner_3 : decode cX4_isPartner 3 = .ok (.invokestatic 76, 3) := by decide +kernel
theorem dX4_isPartner_6 : decode cX4_isPartner 6 = .ok (.ireturn, 1) := by decide +kernel
set_option maxRecDepth 20000 in
theorem ggX4_isWell_X4_within : GoodIn wsX4_isWell wsX4_within := goodIn_r _ [5] (by decide +kernel) (by decide +kernel)
set_option maxRecDepth 20000 in
theorem gX4_isWell_X4_within : GoodIn wsX4_isWell (va_wsS RX4 76 yX4_within wsX4_within) := goodIn_app (goodIn_of _ (by decide +kernel)) ggX4_isWell_X4_within
theorem dX4_isWell_0 : decode cX4_isWell 0 = .ok (.iload_n 1, 1) := by decide +kernel
theorem dX4_isWell_1 : decode cX4_isWell 1 = .ok (.iconst 0, 1) := by decide +kernel
theorem dX4_isWell_2 : decode cX4_isWell 2 = .ok (.aload_n 0, 1) := by decide +kernel
theorem dX4_isWell_3 : decode cX4_isWell 3 = .ok (.getfield 80, 3) := by decide +kernel
theorem dX4_isWell_6 : decode cX4_isWell 6 = .ok (.iconst 1, 1) := by decide +kernel
theorem dX4_isWell_7 : decode cX4_isWell 7 = .ok (.isub, 1) := by decide +kernel
theorem dX4_isWell_8 : decode cX4_isWell 8 = .ok (.invokestatic 76, 3) := by decide +kernel
theorem dX4_isWell_11 : decode cX4_isWell 11 = .ok (.ireturn, 1) := by decide +kernel
set_option maxRecDepth 20000 in
theorem ggX4_isVoucher_X4_within : GoodIn wsX4_isVoucher wsX4_within := goodIn_r _ [5] (by decide +kernel) (by decide +kernel)
set_option maxRecDepth 20000 in
theorem gX4_isVoucher_X4_within : GoodIn wsX4_isVoucher (va_wsS RX4 76 yX4_within wsX4_within) := goodIn_app (goodIn_of _ (by decide +kernel)) ggX4_isVoucher_X4_within
theorem dX4_isVoucher_0 : decode cX4_isVoucher 0 = .ok (.iload_n 1, 1) := by decide +kernel
theorem dX4_isVoucher_1 : decode cX4_isVoucher 1 = .ok (.iconst 0, 1) := by decide +kernel
theorem dX4_isVoucher_2 : decode cX4_isVoucher 2 = .ok (.aload_n 0, 1) := by decide +kernel
theorem dX4_isVoucher_3 : decode cX4_isVoucher 3 = .ok (.getfield 83, 3) := by decide +kernel
theorem dX4_isVoucher_6 : decode cX4_isVoucher 6 = .ok (.iconst 1, 1) := by decide +kernel
theorem dX4_isVoucher_7 : decode cX4_isVoucher 7 = .ok (.isub, 1) := by decide +kernel
theorem dX4_isVoucher_8 : decode cX4_isVoucher 8 = .ok (.invokestatic 76, 3) := by decide +kernel
theorem dX4_isVoucher_11 : decode cX4_isVoucher 11 = .ok (.ireturn, 1) := by decide +kernel
set_option maxRecDepth 20000 in
theorem ggX4_isCall_X4_within : GoodIn wsX4_isCall wsX4_within := goodIn_r _ [5] (by decide +kernel) (by decide +kernel)
set_option maxRecDepth 20000 in
theorem gX4_isCall_X4_within : GoodIn wsX4_isCall (va_wsS RX4 76 yX4_within wsX4_within) := goodIn_app (goodIn_of _ (by decide +kernel)) ggX4_isCall_X4_within
theorem dX4_isCall_0 : decode cX4_isCall 0 = .ok (.iload_n 1, 1) := by decide +kernel
theorem dX4_isCall_1 : decode cX4_isCall 1 = .ok (.iconst 0, 1) := by decide +kernel
theorem dX4_isCall_2 : decode cX4_isCall 2 = .ok (.aload_n 0, 1) := by decide +kernel
theorem dX4_isCall_3 : decode cX4_isCall 3 = .ok (.getfield 86, 3) := by decide +kernel
theorem dX4_isCall_6 : decode cX4_isCall 6 = .ok (.iconst 1, 1) := by decide +kernel
theorem dX4_isCall_7 : decode cX4_isCall 7 = .ok (.isub, 1) := by decide +kernel
theorem dX4_isCall_8 : decode cX4_isCall 8 = .ok (.invokestatic 76, 3) := by decide +kernel
theorem dX4_isCall_11 : decode cX4_isCall 11 = .ok (.ireturn, 1) := by decide +kernel
set_option maxRecDepth 20000 in
theorem ggX4_isAmount_X4_within : GoodIn wsX4_isAmount wsX4_within := goodIn_r _ [5] (by decide +kernel) (by decide +kernel)
set_option maxRecDepth 20000 in
theorem gX4_isAmount_X4_within : GoodIn wsX4_isAmount (va_wsS RX4 76 yX4_within wsX4_within) := goodIn_app (goodIn_of _ (by decide +kernel)) ggX4_isAmount_X4_within
theorem dX4_isAmount_0 : decode cX4_isAmount 0 = .ok (.iload_n 0, 1) := by decide +kernel
theorem dX4_isAmount_1 : decode cX4_isAmount 1 = .ok (.iconst 1, 1) := by decide +kernel
theorem dX4_isAmount_2 : decode cX4_isAmount 2 = .ok (.ldc 89, 2) := by decide +kernel
theorem dX4_isAmount_4 : decode cX4_isAmount 4 = .ok (.invokestatic 76, 3) := by decide +kernel
theorem dX4_isAmount_7 : decode cX4_isAmount 7 = .ok (.ireturn, 1) := by decide +kernel
theorem dX4_divides_0 : decode cX4_divides 0 = .ok (.lconst 0, 1) := by decide +kernel
theorem dX4_divides_1 : decode cX4_divides 1 = .ok (.lstore_n 3, 1) := by decide +kernel
theorem dX4_divides_2 : decode cX4_divides 2 = .ok (.lload_n 1, 1) := by decide +kernel
theorem dX4_divides_3 : decode cX4_divides 3 = .ok (.lstore 5, 2) := by decide +kernel
theorem dX4_divides_5 : decode cX4_divides 5 = .ok (.iconst 0, 1) := by decide +kernel
theorem dX4_divides_6 : decode cX4_divides 6 = .ok (.istore 7, 2) := by decide +kernel
theorem dX4_divides_8 : decode cX4_divides 8 = .ok (.iload 7, 2) := by decide +kernel
theorem dX4_divides_10 : decode cX4_divides 10 = .ok (.iconst 5, 1) := by decide +kernel
theorem dX4_divides_11 : decode cX4_divides 11 = .ok (.if_icmp .ge 20, 3) := by decide +kernel
theorem dX4_divides_14 : decode cX4_divides 14 = .ok (.lload_n 3, 1) := by decide +kernel
theorem dX4_divides_15 : decode cX4_divides 15 = .ok (.aload_n 0, 1) := by decide +kernel
theorem dX4_divides_16 : decode cX4_divides 16 = .ok (.getfield 61, 3) := by decide +kernel
theorem dX4_divides_19 : decode cX4_divides 19 = .ok (.iload 7, 2) := by decide +kernel
theorem dX4_divides_21 : decode cX4_divides 21 = .ok (.iaload, 1) := by decide +kernel
theorem dX4_divides_22 : decode cX4_divides 22 = .ok (.i2l, 1) := by decide +kernel
theorem dX4_divides_23 : decode cX4_divides 23 = .ok (.ladd, 1) := by decide +kernel
theorem dX4_divides_24 : decode cX4_divides 24 = .ok (.lstore_n 3, 1) := by decide +kernel
theorem dX4_divides_25 : decode cX4_divides 25 = .ok (.iinc 7 1, 3) := by decide +kernel
theorem dX4_divides_28 : decode cX4_divides 28 = .ok (.goto (-20), 3) := by decide +kernel
theorem dX4_divides_31 : decode cX4_divides 31 = .ok (.iconst 0, 1) := by decide +kernel
theorem dX4_divides_32 : decode cX4_divides 32 = .ok (.istore 7, 2) := by decide +kernel
theorem dX4_divides_34 : decode cX4_divides 34 = .ok (.iload 7, 2) := by decide +kernel
theorem dX4_divides_36 : decode cX4_divides 36 = .ok (.iconst 5, 1) := by decide +kernel
theorem dX4_divides_37 : decode cX4_divides 37 = .ok (.if_icmp .ge 61, 3) := by decide +kernel
theorem dX4_divides_40 : decode cX4_divides 40 = .ok (.aload_n 0, 1) := by decide +kernel
theorem dX4_divides_41 : decode cX4_divides 41 = .ok (.getfield 64, 3) := by decide +kernel
theorem dX4_divides_44 : decode cX4_divides 44 = .ok (.iload 7, 2) := by decide +kernel
theorem dX4_divides_46 : decode cX4_divides 46 = .ok (.lload_n 1, 1) := by decide +kernel
theorem dX4_divides_47 : decode cX4_divides 47 = .ok (.aload_n 0, 1) := by decide +kernel
theorem dX4_divides_48 : decode cX4_divides 48 = .ok (.getfield 61, 3) := by decide +kernel
theorem dX4_divides_51 : decode cX4_divides 51 = .ok (.iload 7, 2) := by decide +kernel
theorem dX4_divides_53 : decode cX4_divides 53 = .ok (.iaload, 1) := by decide +kernel
theorem dX4_divides_54 : decode cX4_divides 54 = .ok (.i2l, 1) := by decide +kernel
theorem dX4_divides_55 : decode cX4_divides 55 = .ok (.lmul, 1) := by decide +kernel
theorem dX4_divides_56 : decode cX4_divides 56 = .ok (.lload_n 3, 1) := by decide +kernel
theorem dX4_divides_57 : decode cX4_divides 57 = .ok (.ldiv, 1) := by decide +kernel
theorem dX4_divides_58 : decode cX4_divides 58 = .ok (.l2i, 1) := by decide +kernel
theorem dX4_divides_59 : decode cX4_divides 59 = .ok (.iastore, 1) := by decide +kernel
theorem dX4_divides_60 : decode cX4_divides 60 = .ok (.aload_n 0, 1) := by decide +kernel
theorem dX4_divides_61 : decode cX4_divides 61 = .ok (.getfield 70, 3) := by decide +kernel
theorem dX4_divides_64 : decode cX4_divides 64 = .ok (.iload 7, 2) := by decide +kernel
theorem dX4_divides_66 : decode cX4_divides 66 = .ok (.lload_n 1, 1) := by decide +kernel
theorem dX4_divides_67 : decode cX4_divides 67 = .ok (.aload_n 0, 1) := by decide +kernel
theorem dX4_divides_68 : decode cX4_divides 68 = .ok (.getfield 61, 3) := by decide +kernel
theorem dX4_divides_71 : decode cX4_divides 71 = .ok (.iload 7, 2) := by decide +kernel
theorem dX4_divides_73 : decode cX4_divides 73 = .ok (.iaload, 1) := by decide +kernel
theorem dX4_divides_74 : decode cX4_divides 74 = .ok (.i2l, 1) := by decide +kernel
theorem dX4_divides_75 : decode cX4_divides 75 = .ok (.lmul, 1) := by decide +kernel
theorem dX4_divides_76 : decode cX4_divides 76 = .ok (.lload_n 3, 1) := by decide +kernel
theorem dX4_divides_77 : decode cX4_divides 77 = .ok (.lrem, 1) := by decide +kernel
theorem dX4_divides_78 : decode cX4_divides 78 = .ok (.lastore, 1) := by decide +kernel
theorem dX4_divides_79 : decode cX4_divides 79 = .ok (.lload 5, 2) := by decide +kernel
theorem dX4_divides_81 : decode cX4_divides 81 = .ok (.aload_n 0, 1) := by decide +kernel
theorem dX4_divides_82 : decode cX4_divides 82 = .ok (.getfield 64, 3) := by decide +kernel
theorem dX4_divides_85 : decode cX4_divides 85 = .ok (.iload 7, 2) := by decide +kernel
theorem dX4_divides_87 : decode cX4_divides 87 = .ok (.iaload, 1) := by decide +kernel
theorem dX4_divides_88 : decode cX4_divides 88 = .ok (.i2l, 1) := by decide +kernel
theorem dX4_divides_89 : decode cX4_divides 89 = .ok (.lsub, 1) := by decide +kernel
theorem dX4_divides_90 : decode cX4_divides 90 = .ok (.lstore 5, 2) := by decide +kernel
theorem dX4_divides_92 : decode cX4_divides 92 = .ok (.iinc 7 1, 3) := by decide +kernel
theorem dX4_divides_95 : decode cX4_divides 95 = .ok (.goto (-61), 3) := by decide +kernel
theorem dX4_divides_98 : decode cX4_divides 98 = .ok (.iconst 0, 1) := by decide +kernel
theorem dX4_divides_99 : decode cX4_divides 99 = .ok (.istore 7, 2) := by decide +kernel
theorem dX4_divides_101 : decode cX4_divides 101 = .ok (.iload 7, 2) := by decide +kernel
theorem dX4_divides_103 : decode cX4_divides 103 = .ok (.iconst 5, 1) := by decide +kernel
theorem dX4_divides_104 : decode cX4_divides 104 = .ok (.if_icmp .ge 114, 3) := by decide +kernel
theorem dX4_divides_107 : decode cX4_divides 107 = .ok (.iconst 0, 1) := by decide +kernel
theorem dX4_divides_108 : decode cX4_divides 108 = .ok (.istore 8, 2) := by decide +kernel
theorem dX4_divides_110 : decode cX4_divides 110 = .ok (.iconst 0, 1) := by decide +kernel
theorem dX4_divides_111 : decode cX4_divides 111 = .ok (.istore 9, 2) := by decide +kernel
theorem dX4_divides_113 : decode cX4_divides 113 = .ok (.iload 9, 2) := by decide +kernel
theorem dX4_divides_115 : decode cX4_divides 115 = .ok (.iconst 5, 1) := by decide +kernel
theorem dX4_divides_116 : decode cX4_divides 116 = .ok (.if_icmp .ge 62, 3) := by decide +kernel
theorem dX4_divides_119 : decode cX4_divides 119 = .ok (.iload 8, 2) := by decide +kernel
theorem dX4_divides_121 : decode cX4_divides 121 = .ok (.aload_n 0, 1) := by decide +kernel
theorem dX4_divides_122 : decode cX4_divides 122 = .ok (.getfield 70, 3) := by decide +kernel
theorem dX4_divides_125 : decode cX4_divides 125 = .ok (.iload 9, 2) := by decide +kernel
theorem dX4_divides_127 : decode cX4_divides 127 = .ok (.laload, 1) := by decide +kernel
theorem dX4_divides_128 : decode cX4_divides 128 = .ok (.aload_n 0, 1) := by decide +kernel
theorem dX4_divides_129 : decode cX4_divides 129 = .ok (.getfield 70, 3) := by decide +kernel
theorem dX4_divides_132 : decode cX4_divides 132 = .ok (.iload 7, 2) := by decide +kernel
theorem dX4_divides_134 : decode cX4_divides 134 = .ok (.laload, 1) := by decide +kernel
theorem dX4_divides_135 : decode cX4_divides 135 = .ok (.lcmp, 1) := by decide +kernel
theorem dX4_divides_136 : decode cX4_divides 136 = .ok (.ifCond .gt 28, 3) := by decide +kernel
theorem dX4_divides_139 : decode cX4_divides 139 = .ok (.aload_n 0, 1) := by decide +kernel
theorem dX4_divides_140 : decode cX4_divides 140 = .ok (.getfield 70, 3) := by decide +kernel
theorem dX4_divides_143 : decode cX4_divides 143 = .ok (.iload 9, 2) := by decide +kernel
theorem dX4_divides_145 : decode cX4_divides 145 = .ok (.laload, 1) := by decide +kernel
theorem dX4_divides_146 : decode cX4_divides 146 = .ok (.aload_n 0, 1) := by decide +kernel
theorem dX4_divides_147 : decode cX4_divides 147 = .ok (.getfield 70, 3) := by decide +kernel
theorem dX4_divides_150 : decode cX4_divides 150 = .ok (.iload 7, 2) := by decide +kernel
theorem dX4_divides_152 : decode cX4_divides 152 = .ok (.laload, 1) := by decide +kernel
theorem dX4_divides_153 : decode cX4_divides 153 = .ok (.lcmp, 1) := by decide +kernel
theorem dX4_divides_154 : decode cX4_divides 154 = .ok (.ifCond .ne 14, 3) := by decide +kernel
theorem dX4_divides_157 : decode cX4_divides 157 = .ok (.iload 9, 2) := by decide +kernel
theorem dX4_divides_159 : decode cX4_divides 159 = .ok (.iload 7, 2) := by decide +kernel
theorem dX4_divides_161 : decode cX4_divides 161 = .ok (.if_icmp .ge 7, 3) := by decide +kernel
theorem dX4_divides_164 : decode cX4_divides 164 = .ok (.iconst 1, 1) := by decide +kernel
theorem dX4_divides_165 : decode cX4_divides 165 = .ok (.goto 4, 3) := by decide +kernel
theorem dX4_divides_168 : decode cX4_divides 168 = .ok (.iconst 0, 1) := by decide +kernel
theorem dX4_divides_169 : decode cX4_divides 169 = .ok (.iadd, 1) := by decide +kernel
theorem dX4_divides_170 : decode cX4_divides 170 = .ok (.istore 8, 2) := by decide +kernel
theorem dX4_divides_172 : decode cX4_divides 172 = .ok (.iinc 9 1, 3) := by decide +kernel
theorem dX4_divides_175 : decode cX4_divides 175 = .ok (.goto (-62), 3) := by decide +kernel
theorem dX4_divides_178 : decode cX4_divides 178 = .ok (.aload_n 0, 1) := by decide +kernel
theorem dX4_divides_179 : decode cX4_divides 179 = .ok (.getfield 64, 3) := by decide +kernel
theorem dX4_divides_182 : decode cX4_divides 182 = .ok (.iload 7, 2) := by decide +kernel
theorem dX4_divides_184 : decode cX4_divides 184 = .ok (.dup2, 1) := by decide +kernel
theorem dX4_divides_185 : decode cX4_divides 185 = .ok (.iaload, 1) := by decide +kernel
theorem dX4_divides_186 : decode cX4_divides 186 = .ok (.iload 8, 2) := by decide +kernel
theorem dX4_divides_188 : decode cX4_divides 188 = .ok (.i2l, 1) := by decide +kernel
theorem dX4_divides_189 : decode cX4_divides 189 = .ok (.lload 5, 2) := by decide +kernel
theorem dX4_divides_191 : decode cX4_divides 191 = .ok (.lcmp, 1) := by decide +kernel
theorem dX4_divides_192 : decode cX4_divides 192 = .ok (.ifCond .ge 17, 3) := by decide +kernel
theorem dX4_divides_195 : decode cX4_divides 195 = .ok (.aload_n 0, 1) := by decide +kernel
theorem dX4_divides_196 : decode cX4_divides 196 = .ok (.getfield 61, 3) := by decide +kernel
theorem dX4_divides_199 : decode cX4_divides 199 = .ok (.iload 7, 2) := by decide +kernel
theorem dX4_divides_201 : decode cX4_divides 201 = .ok (.iaload, 1) := by decide +kernel
theorem dX4_divides_202 : decode cX4_divides 202 = .ok (.ifCond .le 7, 3) := by decide +kernel
theorem dX4_divides_205 : decode cX4_divides 205 = .ok (.iconst 1, 1) := by decide +kernel
theorem dX4_divides_206 : decode cX4_divides 206 = .ok (.goto 4, 3) := by decide +kernel
theorem dX4_divides_209 : decode cX4_divides 209 = .ok (.iconst 0, 1) := by decide +kernel
theorem dX4_divides_210 : decode cX4_divides 210 = .ok (.iadd, 1) := by decide +kernel
theorem dX4_divides_211 : decode cX4_divides 211 = .ok (.iastore, 1) := by decide +kernel
theorem dX4_divides_212 : decode cX4_divides 212 = .ok (.iinc 7 1, 3) := by decide +kernel
theorem dX4_divides_215 : decode cX4_divides 215 = .ok (.goto (-114), 3) := by decide +kernel
theorem dX4_divides_218 : decode cX4_divides 218 = .ok (.return_, 1) := by decide +kernel
set_option maxRecDepth 20000 in
theorem ggX4_owns_X4_divides : GoodIn wsX4_owns wsX4_divides := goodIn_r _ [9, 1, 4, 10, 11, 12, 13, 14, 15, 16, 17, 18, 19, 20, 21, 22, 23, 24, 25, 26, 27, 28, 29, 30, 31, 32, 33, 34, 35] (by decide +kernel) (by decide +kernel)
set_option maxRecDepth 20000 in
theorem gX4_owns_X4_divides : GoodIn wsX4_owns (wsV RX4 90 RX4 yX4_divides wsX4_divides) := goodIn_app (goodIn_of _ (by decide +kernel)) ggX4_owns_X4_divides
theorem dX4_owns_0 : decode cX4_owns 0 = .ok (.iconst 0, 1) := by decide +kernel
theorem dX4_owns_1 : decode cX4_owns 1 = .ok (.istore_n 2, 1) := by decide +kernel
theorem dX4_owns_2 : decode cX4_owns 2 = .ok (.iload_n 2, 1) := by decide +kernel
theorem dX4_owns_3 : decode cX4_owns 3 = .ok (.iconst 5, 1) := by decide +kernel
theorem dX4_owns_4 : decode cX4_owns 4 = .ok (.if_icmp .ge 21, 3) := by decide +kernel
theorem dX4_owns_7 : decode cX4_owns 7 = .ok (.aload_n 0, 1) := by decide +kernel
theorem dX4_owns_8 : decode cX4_owns 8 = .ok (.getfield 61, 3) := by decide +kernel
theorem dX4_owns_11 : decode cX4_owns 11 = .ok (.iload_n 2, 1) := by decide +kernel
theorem dX4_owns_12 : decode cX4_owns 12 = .ok (.aload_n 0, 1) := by decide +kernel
theorem dX4_owns_13 : decode cX4_owns 13 = .ok (.getfield 7, 3) := by decide +kernel
theorem dX4_owns_16 : decode cX4_owns 16 = .ok (.iload_n 2, 1) := by decide +kernel
theorem dX4_owns_17 : decode cX4_owns 17 = .ok (.iaload, 1) := by decide +kernel
theorem dX4_owns_18 : decode cX4_owns 18 = .ok (.iastore, 1) := by decide +kernel
theorem dX4_owns_19 : decode cX4_owns 19 = .ok (.iinc 2 1, 3) := by decide +kernel
theorem dX4_owns_22 : decode cX4_owns 22 = .ok (.goto (-20), 3) := by decide +kernel
theorem dX4_owns_25 : decode cX4_owns 25 = .ok (.aload_n 0, 1) := by decide +kernel
theorem dX4_owns_26 : decode cX4_owns 26 = .ok (.iload_n 1, 1) := by decide +kernel
theorem dX4_owns_27 : decode cX4_owns 27 = .ok (.i2l, 1) := by decide +kernel
theorem dX4_owns_28 : decode cX4_owns 28 = .ok (.invokevirtual 90, 3) := by decide +kernel
theorem dX4_owns_31 : decode cX4_owns 31 = .ok (.iconst 0, 1) := by decide +kernel
theorem dX4_owns_32 : decode cX4_owns 32 = .ok (.istore_n 2, 1) := by decide +kernel
theorem dX4_owns_33 : decode cX4_owns 33 = .ok (.iload_n 2, 1) := by decide +kernel
theorem dX4_owns_34 : decode cX4_owns 34 = .ok (.iconst 5, 1) := by decide +kernel
theorem dX4_owns_35 : decode cX4_owns 35 = .ok (.if_icmp .ge 21, 3) := by decide +kernel
theorem dX4_owns_38 : decode cX4_owns 38 = .ok (.aload_n 0, 1) := by decide +kernel
theorem dX4_owns_39 : decode cX4_owns 39 = .ok (.getfield 67, 3) := by decide +kernel
theorem dX4_owns_42 : decode cX4_owns 42 = .ok (.iload_n 2, 1) := by decide +kernel
theorem dX4_owns_43 : decode cX4_owns 43 = .ok (.aload_n 0, 1) := by decide +kernel
theorem dX4_owns_44 : decode cX4_owns 44 = .ok (.getfield 64, 3) := by decide +kernel
theorem dX4_owns_47 : decode cX4_owns 47 = .ok (.iload_n 2, 1) := by decide +kernel
theorem dX4_owns_48 : decode cX4_owns 48 = .ok (.iaload, 1) := by decide +kernel
theorem dX4_owns_49 : decode cX4_owns 49 = .ok (.iastore, 1) := by decide +kernel
theorem dX4_owns_50 : decode cX4_owns 50 = .ok (.iinc 2 1, 3) := by decide +kernel
theorem dX4_owns_53 : decode cX4_owns 53 = .ok (.goto (-20), 3) := by decide +kernel
theorem dX4_owns_56 : decode cX4_owns 56 = .ok (.return_, 1) := by decide +kernel
set_option maxRecDepth 20000 in
theorem ggX4_dividesAmongIn_X4_divides : GoodIn wsX4_dividesAmongIn wsX4_divides := goodIn_r _ [8, 1, 9, 10, 11, 12, 13, 14, 15, 16, 17, 18, 19, 20, 21, 22, 23, 24, 25, 26, 27, 28, 29, 30, 31, 32, 33, 34, 35] (by decide +kernel) (by decide +kernel)
set_option maxRecDepth 20000 in
theorem gX4_dividesAmongIn_X4_divides : GoodIn wsX4_dividesAmongIn (wsV RX4 90 RX4 yX4_divides wsX4_divides) := goodIn_app (goodIn_of _ (by decide +kernel)) ggX4_dividesAmongIn_X4_divides
theorem dX4_dividesAmongIn_0 : decode cX4_dividesAmongIn 0 = .ok (.iconst 0, 1) := by decide +kernel
theorem dX4_dividesAmongIn_1 : decode cX4_dividesAmongIn 1 = .ok (.istore_n 3, 1) := by decide +kernel
theorem dX4_dividesAmongIn_2 : decode cX4_dividesAmongIn 2 = .ok (.iload_n 3, 1) := by decide +kernel
theorem dX4_dividesAmongIn_3 : decode cX4_dividesAmongIn 3 = .ok (.iconst 5, 1) := by decide +kernel
theorem dX4_dividesAmongIn_4 : decode cX4_dividesAmongIn 4 = .ok (.if_icmp .ge 34, 3) := by decide +kernel
theorem dX4_dividesAmongIn_7 : decode cX4_dividesAmongIn 7 = .ok (.aload_n 0, 1) := by decide +kernel
theorem dX4_dividesAmongIn_8 : decode cX4_dividesAmongIn 8 = .ok (.getfield 61, 3) := by decide +kernel
theorem dX4_dividesAmongIn_11 : decode cX4_dividesAmongIn 11 = .ok (.iload_n 3, 1) := by decide +kernel
theorem dX4_dividesAmongIn_12 : decode cX4_dividesAmongIn 12 = .ok (.aload_n 0, 1) := by decide +kernel
theorem dX4_dividesAmongIn_13 : decode cX4_dividesAmongIn 13 = .ok (.getfield 45, 3) := by decide +kernel
theorem dX4_dividesAmongIn_16 : decode cX4_dividesAmongIn 16 = .ok (.iload_n 3, 1) := by decide +kernel
theorem dX4_dividesAmongIn_17 : decode cX4_dividesAmongIn 17 = .ok (.baload, 1) := by decide +kernel
theorem dX4_dividesAmongIn_18 : decode cX4_dividesAmongIn 18 = .ok (.ifCond .eq 12, 3) := by decide +kernel
theorem dX4_dividesAmongIn_21 : decode cX4_dividesAmongIn 21 = .ok (.aload_n 0, 1) := by decide +kernel
theorem dX4_dividesAmongIn_22 : decode cX4_dividesAmongIn 22 = .ok (.getfield 7, 3) := by decide +kernel
theorem dX4_dividesAmongIn_25 : decode cX4_dividesAmongIn 25 = .ok (.iload_n 3, 1) := by decide +kernel
theorem dX4_dividesAmongIn_26 : decode cX4_dividesAmongIn 26 = .ok (.iaload, 1) := by decide +kernel
theorem dX4_dividesAmongIn_27 : decode cX4_dividesAmongIn 27 = .ok (.goto 4, 3) := by decide +kernel
theorem dX4_dividesAmongIn_30 : decode cX4_dividesAmongIn 30 = .ok (.iconst 0, 1) := by decide +kernel
theorem dX4_dividesAmongIn_31 : decode cX4_dividesAmongIn 31 = .ok (.iastore, 1) := by decide +kernel
theorem dX4_dividesAmongIn_32 : decode cX4_dividesAmongIn 32 = .ok (.iinc 3 1, 3) := by decide +kernel
theorem dX4_dividesAmongIn_35 : decode cX4_dividesAmongIn 35 = .ok (.goto (-33), 3) := by decide +kernel
theorem dX4_dividesAmongIn_38 : decode cX4_dividesAmongIn 38 = .ok (.aload_n 0, 1) := by decide +kernel
theorem dX4_dividesAmongIn_39 : decode cX4_dividesAmongIn 39 = .ok (.lload_n 1, 1) := by decide +kernel
theorem dX4_dividesAmongIn_40 : decode cX4_dividesAmongIn 40 = .ok (.invokevirtual 90, 3) := by decide +kernel
theorem dX4_dividesAmongIn_43 : decode cX4_dividesAmongIn 43 = .ok (.return_, 1) := by decide +kernel
set_option maxRecDepth 20000 in
theorem ggX4_costs_X4_owns : GoodIn wsX4_costs wsX4_owns := goodIn_r _ [14, 15, 1, 3, 9, 16, 17, 18, 13, 19, 20, 25, 26, 27, 28, 29, 30, 31, 32, 33, 34, 35, 36, 37, 38, 39, 40, 41, 42, 43, 44, 45, 46, 47, 48, 49] (by decide +kernel) (by decide +kernel)
set_option maxRecDepth 20000 in
theorem gX4_costs_X4_owns : GoodIn wsX4_costs (wsV RX4 94 RX4 yX4_owns wsX4_owns) := goodIn_app (goodIn_of _ (by decide +kernel)) ggX4_costs_X4_owns
set_option maxRecDepth 20000 in
theorem ggX4_costs_X4_dividesAmongIn : GoodIn wsX4_costs wsX4_dividesAmongIn := goodIn_r _ [24, 15, 2, 1, 16, 17, 18, 13, 19, 9, 20, 25, 26, 27, 28, 29, 30, 31, 32, 33, 34, 35, 36, 37, 38, 39, 40, 41, 42, 43, 44, 45, 46, 47, 48, 49] (by decide +kernel) (by decide +kernel)
set_option maxRecDepth 20000 in
theorem gX4_costs_X4_dividesAmongIn : GoodIn wsX4_costs (wsV RX4 102 RX4 yX4_dividesAmongIn wsX4_dividesAmongIn) := goodIn_app (goodIn_of _ (by decide +kernel)) ggX4_costs_X4_dividesAmongIn
theorem dX4_costs_0 : decode cX4_costs 0 = .ok (.aload_n 0, 1) := by decide +kernel
theorem dX4_costs_1 : decode cX4_costs 1 = .ok (.iload_n 2, 1) := by decide +kernel
theorem dX4_costs_2 : decode cX4_costs 2 = .ok (.invokevirtual 94, 3) := by decide +kernel
theorem dX4_costs_5 : decode cX4_costs 5 = .ok (.lconst 0, 1) := by decide +kernel
theorem dX4_costs_6 : decode cX4_costs 6 = .ok (.lstore_n 3, 1) := by decide +kernel
theorem dX4_costs_7 : decode cX4_costs 7 = .ok (.iconst 0, 1) := by decide +kernel
theorem dX4_costs_8 : decode cX4_costs 8 = .ok (.istore 5, 2) := by decide +kernel
theorem dX4_costs_10 : decode cX4_costs 10 = .ok (.iload 5, 2) := by decide +kernel
theorem dX4_costs_12 : decode cX4_costs 12 = .ok (.iconst 5, 1) := by decide +kernel
theorem dX4_costs_13 : decode cX4_costs 13 = .ok (.if_icmp .ge 99, 3) := by decide +kernel
theorem dX4_costs_16 : decode cX4_costs 16 = .ok (.aload_n 0, 1) := by decide +kernel
theorem dX4_costs_17 : decode cX4_costs 17 = .ok (.getfield 7, 3) := by decide +kernel
theorem dX4_costs_20 : decode cX4_costs 20 = .ok (.iload 5, 2) := by decide +kernel
theorem dX4_costs_22 : decode cX4_costs 22 = .ok (.iaload, 1) := by decide +kernel
theorem dX4_costs_23 : decode cX4_costs 23 = .ok (.ifCond .le 17, 3) := by decide +kernel
theorem dX4_costs_26 : decode cX4_costs 26 = .ok (.aload_n 0, 1) := by decide +kernel
theorem dX4_costs_27 : decode cX4_costs 27 = .ok (.getfield 45, 3) := by decide +kernel
theorem dX4_costs_30 : decode cX4_costs 30 = .ok (.iload 5, 2) := by decide +kernel
theorem dX4_costs_32 : decode cX4_costs 32 = .ok (.baload, 1) := by decide +kernel
theorem dX4_costs_33 : decode cX4_costs 33 = .ok (.ifCond .ne 7, 3) := by decide +kernel
theorem dX4_costs_36 : decode cX4_costs 36 = .ok (.iconst 1, 1) := by decide +kernel
theorem dX4_costs_37 : decode cX4_costs 37 = .ok (.goto 4, 3) := by decide +kernel
theorem dX4_costs_40 : decode cX4_costs 40 = .ok (.iconst 0, 1) := by decide +kernel
theorem dX4_costs_41 : decode cX4_costs 41 = .ok (.istore 6, 2) := by decide +kernel
theorem dX4_costs_43 : decode cX4_costs 43 = .ok (.lload_n 3, 1) := by decide +kernel
theorem dX4_costs_44 : decode cX4_costs 44 = .ok (.iload 6, 2) := by decide +kernel
theorem dX4_costs_46 : decode cX4_costs 46 = .ok (.ifCond .eq 14, 3) := by decide +kernel
theorem dX4_costs_49 : decode cX4_costs 49 = .ok (.aload_n 0, 1) := by decide +kernel
theorem dX4_costs_50 : decode cX4_costs 50 = .ok (.getfield 67, 3) := by decide +kernel
theorem dX4_costs_53 : decode cX4_costs 53 = .ok (.iload 5, 2) := by decide +kernel
theorem dX4_costs_55 : decode cX4_costs 55 = .ok (.iaload, 1) := by decide +kernel
theorem dX4_costs_56 : decode cX4_costs 56 = .ok (.i2l, 1) := by decide +kernel
theorem dX4_costs_57 : decode cX4_costs 57 = .ok (.goto 4, 3) := by decide +kernel
theorem dX4_costs_60 : decode cX4_costs 60 = .ok (.lconst 0, 1) := by decide +kernel
theorem dX4_costs_61 : decode cX4_costs 61 = .ok (.ladd, 1) := by decide +kernel
theorem dX4_costs_62 : decode cX4_costs 62 = .ok (.lstore_n 3, 1) := by decide +kernel
theorem dX4_costs_63 : decode cX4_costs 63 = .ok (.aload_n 0, 1) := by decide +kernel
theorem dX4_costs_64 : decode cX4_costs 64 = .ok (.getfield 48, 3) := by decide +kernel
theorem dX4_costs_67 : decode cX4_costs 67 = .ok (.iload 5, 2) := by decide +kernel
theorem dX4_costs_69 : decode cX4_costs 69 = .ok (.dup2, 1) := by decide +kernel
theorem dX4_costs_70 : decode cX4_costs 70 = .ok (.laload, 1) := by decide +kernel
theorem dX4_costs_71 : decode cX4_costs 71 = .ok (.iload 6, 2) := by decide +kernel
theorem dX4_costs_73 : decode cX4_costs 73 = .ok (.ifCond .eq 30, 3) := by decide +kernel
theorem dX4_costs_76 : decode cX4_costs 76 = .ok (.aload_n 0, 1) := by decide +kernel
theorem dX4_costs_77 : decode cX4_costs 77 = .ok (.getfield 67, 3) := by decide +kernel
theorem dX4_costs_80 : decode cX4_costs 80 = .ok (.iload 5, 2) := by decide +kernel
theorem dX4_costs_82 : decode cX4_costs 82 = .ok (.iaload, 1) := by decide +kernel
theorem dX4_costs_83 : decode cX4_costs 83 = .ok (.i2l, 1) := by decide +kernel
theorem dX4_costs_84 : decode cX4_costs 84 = .ok (.aload_n 0, 1) := by decide +kernel
theorem dX4_costs_85 : decode cX4_costs 85 = .ok (.getfield 17, 3) := by decide +kernel
theorem dX4_costs_88 : decode cX4_costs 88 = .ok (.iload_n 1, 1) := by decide +kernel
theorem dX4_costs_89 : decode cX4_costs 89 = .ok (.iaload, 1) := by decide +kernel
theorem dX4_costs_90 : decode cX4_costs 90 = .ok (.i2l, 1) := by decide +kernel
theorem dX4_costs_91 : decode cX4_costs 91 = .ok (.lmul, 1) := by decide +kernel
theorem dX4_costs_92 : decode cX4_costs 92 = .ok (.ldc2_w 98, 3) := by decide +kernel
theorem dX4_costs_95 : decode cX4_costs 95 = .ok (.ladd, 1) := by decide +kernel
theorem dX4_costs_96 : decode cX4_costs 96 = .ok (.ldc2_w 100, 3) := by decide +kernel
theorem dX4_costs_99 : decode cX4_costs 99 = .ok (.ldiv, 1) := by decide +kernel
theorem dX4_costs_100 : decode cX4_costs 100 = .ok (.goto 4, 3) := by decide +kernel
theorem dX4_costs_103 : decode cX4_costs 103 = .ok (.lconst 0, 1) := by decide +kernel
theorem dX4_costs_104 : decode cX4_costs 104 = .ok (.ladd, 1) := by decide +kernel
theorem dX4_costs_105 : decode cX4_costs 105 = .ok (.lastore, 1) := by decide +kernel
theorem dX4_costs_106 : decode cX4_costs 106 = .ok (.iinc 5 1, 3) := by decide +kernel
theorem dX4_costs_109 : decode cX4_costs 109 = .ok (.goto (-99), 3) := by decide +kernel
theorem dX4_costs_112 : decode cX4_costs 112 = .ok (.aload_n 0, 1) := by decide +kernel
theorem dX4_costs_113 : decode cX4_costs 113 = .ok (.lload_n 3, 1) := by decide +kernel
theorem dX4_costs_114 : decode cX4_costs 114 = .ok (.invokevirtual 102, 3) := by decide +kernel
theorem dX4_costs_117 : decode cX4_costs 117 = .ok (.iconst 0, 1) := by decide +kernel
theorem dX4_costs_118 : decode cX4_costs 118 = .ok (.istore 5, 2) := by decide +kernel
theorem dX4_costs_120 : decode cX4_costs 120 = .ok (.iload 5, 2) := by decide +kernel
theorem dX4_costs_122 : decode cX4_costs 122 = .ok (.iconst 5, 1) := by decide +kernel
theorem dX4_costs_123 : decode cX4_costs 123 = .ok (.if_icmp .ge 48, 3) := by decide +kernel
theorem dX4_costs_126 : decode cX4_costs 126 = .ok (.aload_n 0, 1) := by decide +kernel
theorem dX4_costs_127 : decode cX4_costs 127 = .ok (.getfield 55, 3) := by decide +kernel
theorem dX4_costs_130 : decode cX4_costs 130 = .ok (.iload 5, 2) := by decide +kernel
theorem dX4_costs_132 : decode cX4_costs 132 = .ok (.dup2, 1) := by decide +kernel
theorem dX4_costs_133 : decode cX4_costs 133 = .ok (.iaload, 1) := by decide +kernel
theorem dX4_costs_134 : decode cX4_costs 134 = .ok (.aload_n 0, 1) := by decide +kernel
theorem dX4_costs_135 : decode cX4_costs 135 = .ok (.getfield 45, 3) := by decide +kernel
theorem dX4_costs_138 : decode cX4_costs 138 = .ok (.iload 5, 2) := by decide +kernel
theorem dX4_costs_140 : decode cX4_costs 140 = .ok (.baload, 1) := by decide +kernel
theorem dX4_costs_141 : decode cX4_costs 141 = .ok (.ifCond .eq 21, 3) := by decide +kernel
theorem dX4_costs_144 : decode cX4_costs 144 = .ok (.aload_n 0, 1) := by decide +kernel
theorem dX4_costs_145 : decode cX4_costs 145 = .ok (.getfield 67, 3) := by decide +kernel
theorem dX4_costs_148 : decode cX4_costs 148 = .ok (.iload 5, 2) := by decide +kernel
theorem dX4_costs_150 : decode cX4_costs 150 = .ok (.iaload, 1) := by decide +kernel
theorem dX4_costs_151 : decode cX4_costs 151 = .ok (.aload_n 0, 1) := by decide +kernel
theorem dX4_costs_152 : decode cX4_costs 152 = .ok (.getfield 64, 3) := by decide +kernel
theorem dX4_costs_155 : decode cX4_costs 155 = .ok (.iload 5, 2) := by decide +kernel
theorem dX4_costs_157 : decode cX4_costs 157 = .ok (.iaload, 1) := by decide +kernel
theorem dX4_costs_158 : decode cX4_costs 158 = .ok (.iadd, 1) := by decide +kernel
theorem dX4_costs_159 : decode cX4_costs 159 = .ok (.goto 4, 3) := by decide +kernel
theorem dX4_costs_162 : decode cX4_costs 162 = .ok (.iconst 0, 1) := by decide +kernel
theorem dX4_costs_163 : decode cX4_costs 163 = .ok (.iadd, 1) := by decide +kernel
theorem dX4_costs_164 : decode cX4_costs 164 = .ok (.iastore, 1) := by decide +kernel
theorem dX4_costs_165 : decode cX4_costs 165 = .ok (.iinc 5 1, 3) := by decide +kernel
theorem dX4_costs_168 : decode cX4_costs 168 = .ok (.goto (-48), 3) := by decide +kernel
theorem dX4_costs_171 : decode cX4_costs 171 = .ok (.return_, 1) := by decide +kernel
set_option maxRecDepth 20000 in
theorem ggX4_brings_X4_owns : GoodIn wsX4_brings wsX4_owns := goodIn_r _ [12, 13, 1, 3, 6, 14, 15, 16, 11, 17, 18, 23, 24, 25, 26, 27, 28, 29, 30, 31, 32, 33, 34, 35, 36, 37, 38, 39, 40, 41, 42, 43, 44, 45, 46, 47] (by decide +kernel) (by decide +kernel)
set_option maxRecDepth 20000 in
theorem gX4_brings_X4_owns : GoodIn wsX4_brings (wsV RX4 94 RX4 yX4_owns wsX4_owns) := goodIn_app (goodIn_of _ (by decide +kernel)) ggX4_brings_X4_owns
set_option maxRecDepth 20000 in
theorem ggX4_brings_X4_dividesAmongIn : GoodIn wsX4_brings wsX4_dividesAmongIn := goodIn_r _ [22, 13, 2, 1, 14, 15, 16, 11, 17, 6, 18, 23, 24, 25, 26, 27, 28, 29, 30, 31, 32, 33, 34, 35, 36, 37, 38, 39, 40, 41, 42, 43, 44, 45, 46, 47] (by decide +kernel) (by decide +kernel)
set_option maxRecDepth 20000 in
theorem gX4_brings_X4_dividesAmongIn : GoodIn wsX4_brings (wsV RX4 102 RX4 yX4_dividesAmongIn wsX4_dividesAmongIn) := goodIn_app (goodIn_of _ (by decide +kernel)) ggX4_brings_X4_dividesAmongIn
theorem dX4_brings_0 : decode cX4_brings 0 = .ok (.aload_n 0, 1) := by decide +kernel
theorem dX4_brings_1 : decode cX4_brings 1 = .ok (.iload_n 1, 1) := by decide +kernel
theorem dX4_brings_2 : decode cX4_brings 2 = .ok (.invokevirtual 94, 3) := by decide +kernel
theorem dX4_brings_5 : decode cX4_brings 5 = .ok (.iconst 0, 1) := by decide +kernel
theorem dX4_brings_6 : decode cX4_brings 6 = .ok (.istore_n 3, 1) := by decide +kernel
theorem dX4_brings_7 : decode cX4_brings 7 = .ok (.iload_n 3, 1) := by decide +kernel
theorem dX4_brings_8 : decode cX4_brings 8 = .ok (.iconst 5, 1) := by decide +kernel
theorem dX4_brings_9 : decode cX4_brings 9 = .ok (.if_icmp .ge 146, 3) := by decide +kernel
theorem dX4_brings_12 : decode cX4_brings 12 = .ok (.aload_n 0, 1) := by decide +kernel
theorem dX4_brings_13 : decode cX4_brings 13 = .ok (.getfield 7, 3) := by decide +kernel
theorem dX4_brings_16 : decode cX4_brings 16 = .ok (.iload_n 3, 1) := by decide +kernel
theorem dX4_brings_17 : decode cX4_brings 17 = .ok (.iaload, 1) := by decide +kernel
theorem dX4_brings_18 : decode cX4_brings 18 = .ok (.ifCond .le 16, 3) := by decide +kernel
theorem dX4_brings_21 : decode cX4_brings 21 = .ok (.aload_n 0, 1) := by decide +kernel
theorem dX4_brings_22 : decode cX4_brings 22 = .ok (.getfield 45, 3) := by decide +kernel
theorem dX4_brings_25 : decode cX4_brings 25 = .ok (.iload_n 3, 1) := by decide +kernel
theorem dX4_brings_26 : decode cX4_brings 26 = .ok (.baload, 1) := by decide +kernel
theorem dX4_brings_27 : decode cX4_brings 27 = .ok (.ifCond .ne 7, 3) := by decide +kernel
theorem dX4_brings_30 : decode cX4_brings 30 = .ok (.iconst 1, 1) := by decide +kernel
theorem dX4_brings_31 : decode cX4_brings 31 = .ok (.goto 4, 3) := by decide +kernel
theorem dX4_brings_34 : decode cX4_brings 34 = .ok (.iconst 0, 1) := by decide +kernel
theorem dX4_brings_35 : decode cX4_brings 35 = .ok (.istore 4, 2) := by decide +kernel
theorem dX4_brings_37 : decode cX4_brings 37 = .ok (.iload 4, 2) := by decide +kernel
theorem dX4_brings_39 : decode cX4_brings 39 = .ok (.ifCond .ne 7, 3) := by decide +kernel
theorem dX4_brings_42 : decode cX4_brings 42 = .ok (.lconst 0, 1) := by decide +kernel
theorem dX4_brings_43 : decode cX4_brings 43 = .ok (.goto 36, 3) := by decide +kernel
theorem dX4_brings_46 : decode cX4_brings 46 = .ok (.aload_n 0, 1) := by decide +kernel
theorem dX4_brings_47 : decode cX4_brings 47 = .ok (.getfield 67, 3) := by decide +kernel
theorem dX4_brings_50 : decode cX4_brings 50 = .ok (.iload_n 3, 1) := by decide +kernel
theorem dX4_brings_51 : decode cX4_brings 51 = .ok (.iaload, 1) := by decide +kernel
theorem dX4_brings_52 : decode cX4_brings 52 = .ok (.i2l, 1) := by decide +kernel
theorem dX4_brings_53 : decode cX4_brings 53 = .ok (.aload_n 0, 1) := by decide +kernel
theorem dX4_brings_54 : decode cX4_brings 54 = .ok (.getfield 48, 3) := by decide +kernel
theorem dX4_brings_57 : decode cX4_brings 57 = .ok (.iload_n 3, 1) := by decide +kernel
theorem dX4_brings_58 : decode cX4_brings 58 = .ok (.laload, 1) := by decide +kernel
theorem dX4_brings_59 : decode cX4_brings 59 = .ok (.lcmp, 1) := by decide +kernel
theorem dX4_brings_60 : decode cX4_brings 60 = .ok (.ifCond .ge 13, 3) := by decide +kernel
theorem dX4_brings_63 : decode cX4_brings 63 = .ok (.aload_n 0, 1) := by decide +kernel
theorem dX4_brings_64 : decode cX4_brings 64 = .ok (.getfield 67, 3) := by decide +kernel
theorem dX4_brings_67 : decode cX4_brings 67 = .ok (.iload_n 3, 1) := by decide +kernel
theorem dX4_brings_68 : decode cX4_brings 68 = .ok (.iaload, 1) := by decide +kernel
theorem dX4_brings_69 : decode cX4_brings 69 = .ok (.i2l, 1) := by decide +kernel
theorem dX4_brings_70 : decode cX4_brings 70 = .ok (.goto 9, 3) := by decide +kernel
theorem dX4_brings_73 : decode cX4_brings 73 = .ok (.aload_n 0, 1) := by decide +kernel
theorem dX4_brings_74 : decode cX4_brings 74 = .ok (.getfield 48, 3) := by decide +kernel
theorem dX4_brings_77 : decode cX4_brings 77 = .ok (.iload_n 3, 1) := by decide +kernel
theorem dX4_brings_78 : decode cX4_brings 78 = .ok (.laload, 1) := by decide +kernel
theorem dX4_brings_79 : decode cX4_brings 79 = .ok (.lstore 5, 2) := by decide +kernel
theorem dX4_brings_81 : decode cX4_brings 81 = .ok (.aload_n 0, 1) := by decide +kernel
theorem dX4_brings_82 : decode cX4_brings 82 = .ok (.getfield 48, 3) := by decide +kernel
theorem dX4_brings_85 : decode cX4_brings 85 = .ok (.iload_n 3, 1) := by decide +kernel
theorem dX4_brings_86 : decode cX4_brings 86 = .ok (.dup2, 1) := by decide +kernel
theorem dX4_brings_87 : decode cX4_brings 87 = .ok (.laload, 1) := by decide +kernel
theorem dX4_brings_88 : decode cX4_brings 88 = .ok (.lload 5, 2) := by decide +kernel
theorem dX4_brings_90 : decode cX4_brings 90 = .ok (.lsub, 1) := by decide +kernel
theorem dX4_brings_91 : decode cX4_brings 91 = .ok (.lastore, 1) := by decide +kernel
theorem dX4_brings_92 : decode cX4_brings 92 = .ok (.aload_n 0, 1) := by decide +kernel
theorem dX4_brings_93 : decode cX4_brings 93 = .ok (.getfield 58, 3) := by decide +kernel
theorem dX4_brings_96 : decode cX4_brings 96 = .ok (.iload_n 3, 1) := by decide +kernel
theorem dX4_brings_97 : decode cX4_brings 97 = .ok (.dup2, 1) := by decide +kernel
theorem dX4_brings_98 : decode cX4_brings 98 = .ok (.iaload, 1) := by decide +kernel
theorem dX4_brings_99 : decode cX4_brings 99 = .ok (.aload_n 0, 1) := by decide +kernel
theorem dX4_brings_100 : decode cX4_brings 100 = .ok (.getfield 67, 3) := by decide +kernel
theorem dX4_brings_103 : decode cX4_brings 103 = .ok (.iload_n 3, 1) := by decide +kernel
theorem dX4_brings_104 : decode cX4_brings 104 = .ok (.iaload, 1) := by decide +kernel
theorem dX4_brings_105 : decode cX4_brings 105 = .ok (.lload 5, 2) := by decide +kernel
theorem dX4_brings_107 : decode cX4_brings 107 = .ok (.l2i, 1) := by decide +kernel
theorem dX4_brings_108 : decode cX4_brings 108 = .ok (.isub, 1) := by decide +kernel
theorem dX4_brings_109 : decode cX4_brings 109 = .ok (.iadd, 1) := by decide +kernel
theorem dX4_brings_110 : decode cX4_brings 110 = .ok (.iastore, 1) := by decide +kernel
theorem dX4_brings_111 : decode cX4_brings 111 = .ok (.aload_n 0, 1) := by decide +kernel
theorem dX4_brings_112 : decode cX4_brings 112 = .ok (.lload 5, 2) := by decide +kernel
theorem dX4_brings_114 : decode cX4_brings 114 = .ok (.invokevirtual 102, 3) := by decide +kernel
theorem dX4_brings_117 : decode cX4_brings 117 = .ok (.iconst 0, 1) := by decide +kernel
theorem dX4_brings_118 : decode cX4_brings 118 = .ok (.istore 7, 2) := by decide +kernel
theorem dX4_brings_120 : decode cX4_brings 120 = .ok (.iload 7, 2) := by decide +kernel
theorem dX4_brings_122 : decode cX4_brings 122 = .ok (.iconst 5, 1) := by decide +kernel
theorem dX4_brings_123 : decode cX4_brings 123 = .ok (.if_icmp .ge 26, 3) := by decide +kernel
theorem dX4_brings_126 : decode cX4_brings 126 = .ok (.aload_n 0, 1) := by decide +kernel
theorem dX4_brings_127 : decode cX4_brings 127 = .ok (.getfield 58, 3) := by decide +kernel
theorem dX4_brings_130 : decode cX4_brings 130 = .ok (.iload 7, 2) := by decide +kernel
theorem dX4_brings_132 : decode cX4_brings 132 = .ok (.dup2, 1) := by decide +kernel
theorem dX4_brings_133 : decode cX4_brings 133 = .ok (.iaload, 1) := by decide +kernel
theorem dX4_brings_134 : decode cX4_brings 134 = .ok (.aload_n 0, 1) := by decide +kernel
theorem dX4_brings_135 : decode cX4_brings 135 = .ok (.getfield 64, 3) := by decide +kernel
theorem dX4_brings_138 : decode cX4_brings 138 = .ok (.iload 7, 2) := by decide +kernel
theorem dX4_brings_140 : decode cX4_brings 140 = .ok (.iaload, 1) := by decide +kernel
theorem dX4_brings_141 : decode cX4_brings 141 = .ok (.iadd, 1) := by decide +kernel
theorem dX4_brings_142 : decode cX4_brings 142 = .ok (.iastore, 1) := by decide +kernel
theorem dX4_brings_143 : decode cX4_brings 143 = .ok (.iinc 7 1, 3) := by decide +kernel
theorem dX4_brings_146 : decode cX4_brings 146 = .ok (.goto (-26), 3) := by decide +kernel
theorem dX4_brings_149 : decode cX4_brings 149 = .ok (.iinc 3 1, 3) := by decide +kernel
theorem dX4_brings_152 : decode cX4_brings 152 = .ok (.goto (-145), 3) := by decide +kernel
theorem dX4_brings_155 : decode cX4_brings 155 = .ok (.iconst 0, 1) := by decide +kernel
theorem dX4_brings_156 : decode cX4_brings 156 = .ok (.istore_n 3, 1) := by decide +kernel
theorem dX4_brings_157 : decode cX4_brings 157 = .ok (.iload_n 3, 1) := by decide +kernel
theorem dX4_brings_158 : decode cX4_brings 158 = .ok (.iconst 5, 1) := by decide +kernel
theorem dX4_brings_159 : decode cX4_brings 159 = .ok (.if_icmp .ge 52, 3) := by decide +kernel
theorem dX4_brings_162 : decode cX4_brings 162 = .ok (.aload_n 0, 1) := by decide +kernel
theorem dX4_brings_163 : decode cX4_brings 163 = .ok (.getfield 7, 3) := by decide +kernel
theorem dX4_brings_166 : decode cX4_brings 166 = .ok (.iload_n 3, 1) := by decide +kernel
theorem dX4_brings_167 : decode cX4_brings 167 = .ok (.iaload, 1) := by decide +kernel
theorem dX4_brings_168 : decode cX4_brings 168 = .ok (.ifCond .le 37, 3) := by decide +kernel
theorem dX4_brings_171 : decode cX4_brings 171 = .ok (.aload_n 0, 1) := by decide +kernel
theorem dX4_brings_172 : decode cX4_brings 172 = .ok (.getfield 45, 3) := by decide +kernel
theorem dX4_brings_175 : decode cX4_brings 175 = .ok (.iload_n 3, 1) := by decide +kernel
theorem dX4_brings_176 : decode cX4_brings 176 = .ok (.baload, 1) := by decide +kernel
theorem dX4_brings_177 : decode cX4_brings 177 = .ok (.ifCond .ne 28, 3) := by decide +kernel
theorem dX4_brings_180 : decode cX4_brings 180 = .ok (.aload_n 0, 1) := by decide +kernel
theorem dX4_brings_181 : decode cX4_brings 181 = .ok (.getfield 48, 3) := by decide +kernel
theorem dX4_brings_184 : decode cX4_brings 184 = .ok (.iload_n 3, 1) := by decide +kernel
theorem dX4_brings_185 : decode cX4_brings 185 = .ok (.laload, 1) := by decide +kernel
theorem dX4_brings_186 : decode cX4_brings 186 = .ok (.lconst 0, 1) := by decide +kernel
theorem dX4_brings_187 : decode cX4_brings 187 = .ok (.lcmp, 1) := by decide +kernel
theorem dX4_brings_188 : decode cX4_brings 188 = .ok (.ifCond .ne 17, 3) := by decide +kernel
theorem dX4_brings_191 : decode cX4_brings 191 = .ok (.aload_n 0, 1) := by decide +kernel
theorem dX4_brings_192 : decode cX4_brings 192 = .ok (.getfield 45, 3) := by decide +kernel
theorem dX4_brings_195 : decode cX4_brings 195 = .ok (.iload_n 3, 1) := by decide +kernel
theorem dX4_brings_196 : decode cX4_brings 196 = .ok (.iconst 1, 1) := by decide +kernel
theorem dX4_brings_197 : decode cX4_brings 197 = .ok (.bastore, 1) := by decide +kernel
theorem dX4_brings_198 : decode cX4_brings 198 = .ok (.aload_n 0, 1) := by decide +kernel
theorem dX4_brings_199 : decode cX4_brings 199 = .ok (.getfield 52, 3) := by decide +kernel
theorem dX4_brings_202 : decode cX4_brings 202 = .ok (.iload_n 3, 1) := by decide +kernel
theorem dX4_brings_203 : decode cX4_brings 203 = .ok (.iload_n 2, 1) := by decide +kernel
theorem dX4_brings_204 : decode cX4_brings 204 = .ok (.iastore, 1) := by decide +kernel
theorem dX4_brings_205 : decode cX4_brings 205 = .ok (.iinc 3 1, 3) := by decide +kernel
theorem dX4_brings_208 : decode cX4_brings 208 = .ok (.goto (-51), 3) := by decide +kernel
theorem dX4_brings_211 : decode cX4_brings 211 = .ok (.return_, 1) := by decide +kernel
set_option maxRecDepth 20000 in
theorem ggX4_works_X4_brings : GoodIn wsX4_works wsX4_brings := goodIn_r _ [16, 2, 1, 17, 4, 7, 18, 5, 19, 20, 21, 15, 22, 23, 24, 25, 26, 27, 28, 29, 30, 31, 32, 40, 41, 42, 43, 44, 45, 46, 47, 48, 49, 50, 51, 52, 53, 54, 55, 56, 57, 58, 59, 60, 61, 62, 63, 64] (by decide +kernel) (by decide +kernel)
set_option maxRecDepth 20000 in
theorem gX4_works_X4_brings : GoodIn wsX4_works (wsV RX4 105 RX4 yX4_brings wsX4_brings) := goodIn_app (goodIn_of _ (by decide +kernel)) ggX4_works_X4_brings
set_option maxRecDepth 20000 in
theorem ggX4_works_X4_costs : GoodIn wsX4_works wsX4_costs := goodIn_r _ [36, 2, 1, 17, 4, 37, 38, 39, 6, 18, 19, 20, 21, 15, 22, 23, 24, 25, 26, 27, 28, 29, 30, 31, 32, 40, 41, 42, 43, 44, 45, 46, 47, 48, 49, 50, 51, 52, 53, 54, 55, 56, 57, 58, 59, 60, 61, 62, 63, 64] (by decide +kernel) (by decide +kernel)
set_option maxRecDepth 20000 in
theorem gX4_works_X4_costs : GoodIn wsX4_works (wsV RX4 109 RX4 yX4_costs wsX4_costs) := goodIn_app (goodIn_of _ (by decide +kernel)) ggX4_works_X4_costs
theorem dX4_works_0 : decode cX4_works 0 = .ok (.iconst 0, 1) := by decide +kernel
theorem dX4_works_1 : decode cX4_works 1 = .ok (.istore_n 2, 1) := by decide +kernel
theorem dX4_works_2 : decode cX4_works 2 = .ok (.iload_n 2, 1) := by decide +kernel
theorem dX4_works_3 : decode cX4_works 3 = .ok (.iconst 5, 1) := by decide +kernel
theorem dX4_works_4 : decode cX4_works 4 = .ok (.if_icmp .ge 70, 3) := by decide +kernel
theorem dX4_works_7 : decode cX4_works 7 = .ok (.aload_n 0, 1) := by decide +kernel
theorem dX4_works_8 : decode cX4_works 8 = .ok (.getfield 45, 3) := by decide +kernel
theorem dX4_works_11 : decode cX4_works 11 = .ok (.iload_n 2, 1) := by decide +kernel
theorem dX4_works_12 : decode cX4_works 12 = .ok (.aload_n 0, 1) := by decide +kernel
theorem dX4_works_13 : decode cX4_works 13 = .ok (.getfield 7, 3) := by decide +kernel
theorem dX4_works_16 : decode cX4_works 16 = .ok (.iload_n 2, 1) := by decide +kernel
theorem dX4_works_17 : decode cX4_works 17 = .ok (.iaload, 1) := by decide +kernel
theorem dX4_works_18 : decode cX4_works 18 = .ok (.ifCond .le 20, 3) := by decide +kernel
theorem dX4_works_21 : decode cX4_works 21 = .ok (.aload_n 0, 1) := by decide +kernel
theorem dX4_works_22 : decode cX4_works 22 = .ok (.getfield 24, 3) := by decide +kernel
theorem dX4_works_25 : decode cX4_works 25 = .ok (.iconst 5, 1) := by decide +kernel
theorem dX4_works_26 : decode cX4_works 26 = .ok (.iload_n 1, 1) := by decide +kernel
theorem dX4_works_27 : decode cX4_works 27 = .ok (.imul, 1) := by decide +kernel
theorem dX4_works_28 : decode cX4_works 28 = .ok (.iload_n 2, 1) := by decide +kernel
theorem dX4_works_29 : decode cX4_works 29 = .ok (.iadd, 1) := by decide +kernel
theorem dX4_works_30 : decode cX4_works 30 = .ok (.baload, 1) := by decide +kernel
theorem dX4_works_31 : decode cX4_works 31 = .ok (.ifCond .ne 7, 3) := by decide +kernel
theorem dX4_works_34 : decode cX4_works 34 = .ok (.iconst 1, 1) := by decide +kernel
theorem dX4_works_35 : decode cX4_works 35 = .ok (.goto 4, 3) := by decide +kernel
theorem dX4_works_38 : decode cX4_works 38 = .ok (.iconst 0, 1) := by decide +kernel
theorem dX4_works_39 : decode cX4_works 39 = .ok (.bastore, 1) := by decide +kernel
theorem dX4_works_40 : decode cX4_works 40 = .ok (.aload_n 0, 1) := by decide +kernel
theorem dX4_works_41 : decode cX4_works 41 = .ok (.getfield 48, 3) := by decide +kernel
theorem dX4_works_44 : decode cX4_works 44 = .ok (.iload_n 2, 1) := by decide +kernel
theorem dX4_works_45 : decode cX4_works 45 = .ok (.lconst 0, 1) := by decide +kernel
theorem dX4_works_46 : decode cX4_works 46 = .ok (.lastore, 1) := by decide +kernel
theorem dX4_works_47 : decode cX4_works 47 = .ok (.aload_n 0, 1) := by decide +kernel
theorem dX4_works_48 : decode cX4_works 48 = .ok (.getfield 52, 3) := by decide +kernel
theorem dX4_works_51 : decode cX4_works 51 = .ok (.iload_n 2, 1) := by decide +kernel
theorem dX4_works_52 : decode cX4_works 52 = .ok (.iconst (-1), 1) := by decide +kernel
theorem dX4_works_53 : decode cX4_works 53 = .ok (.iastore, 1) := by decide +kernel
theorem dX4_works_54 : decode cX4_works 54 = .ok (.aload_n 0, 1) := by decide +kernel
theorem dX4_works_55 : decode cX4_works 55 = .ok (.getfield 55, 3) := by decide +kernel
theorem dX4_works_58 : decode cX4_works 58 = .ok (.iload_n 2, 1) := by decide +kernel
theorem dX4_works_59 : decode cX4_works 59 = .ok (.iconst 0, 1) := by decide +kernel
theorem dX4_works_60 : decode cX4_works 60 = .ok (.iastore, 1) := by decide +kernel
theorem dX4_works_61 : decode cX4_works 61 = .ok (.aload_n 0, 1) := by decide +kernel
theorem dX4_works_62 : decode cX4_works 62 = .ok (.getfield 58, 3) := by decide +kernel
theorem dX4_works_65 : decode cX4_works 65 = .ok (.iload_n 2, 1) := by decide +kernel
theorem dX4_works_66 : decode cX4_works 66 = .ok (.iconst 0, 1) := by decide +kernel
theorem dX4_works_67 : decode cX4_works 67 = .ok (.iastore, 1) := by decide +kernel
theorem dX4_works_68 : decode cX4_works 68 = .ok (.iinc 2 1, 3) := by decide +kernel
theorem dX4_works_71 : decode cX4_works 71 = .ok (.goto (-69), 3) := by decide +kernel
theorem dX4_works_74 : decode cX4_works 74 = .ok (.iconst 0, 1) := by decide +kernel
theorem dX4_works_75 : decode cX4_works 75 = .ok (.istore_n 2, 1) := by decide +kernel
theorem dX4_works_76 : decode cX4_works 76 = .ok (.iload_n 2, 1) := by decide +kernel
theorem dX4_works_77 : decode cX4_works 77 = .ok (.aload_n 0, 1) := by decide +kernel
theorem dX4_works_78 : decode cX4_works 78 = .ok (.getfield 83, 3) := by decide +kernel
theorem dX4_works_81 : decode cX4_works 81 = .ok (.if_icmp .ge 63, 3) := by decide +kernel
theorem dX4_works_84 : decode cX4_works 84 = .ok (.aload_n 0, 1) := by decide +kernel
theorem dX4_works_85 : decode cX4_works 85 = .ok (.getfield 27, 3) := by decide +kernel
theorem dX4_works_88 : decode cX4_works 88 = .ok (.iload_n 2, 1) := by decide +kernel
theorem dX4_works_89 : decode cX4_works 89 = .ok (.iaload, 1) := by decide +kernel
theorem dX4_works_90 : decode cX4_works 90 = .ok (.iload_n 1, 1) := by decide +kernel
theorem dX4_works_91 : decode cX4_works 91 = .ok (.if_icmp .ne 26, 3) := by decide +kernel
theorem dX4_works_94 : decode cX4_works 94 = .ok (.aload_n 0, 1) := by decide +kernel
theorem dX4_works_95 : decode cX4_works 95 = .ok (.getfield 33, 3) := by decide +kernel
theorem dX4_works_98 : decode cX4_works 98 = .ok (.iload_n 2, 1) := by decide +kernel
theorem dX4_works_99 : decode cX4_works 99 = .ok (.baload, 1) := by decide +kernel
theorem dX4_works_100 : decode cX4_works 100 = .ok (.ifCond .eq 17, 3) := by decide +kernel
theorem dX4_works_103 : decode cX4_works 103 = .ok (.aload_n 0, 1) := by decide +kernel
theorem dX4_works_104 : decode cX4_works 104 = .ok (.aload_n 0, 1) := by decide +kernel
theorem dX4_works_105 : decode cX4_works 105 = .ok (.getfield 30, 3) := by decide +kernel
theorem dX4_works_108 : decode cX4_works 108 = .ok (.iload_n 2, 1) := by decide +kernel
theorem dX4_works_109 : decode cX4_works 109 = .ok (.iaload, 1) := by decide +kernel
theorem dX4_works_110 : decode cX4_works 110 = .ok (.iload_n 2, 1) := by decide +kernel
theorem dX4_works_111 : decode cX4_works 111 = .ok (.invokevirtual 105, 3) := by decide +kernel
theorem dX4_works_114 : decode cX4_works 114 = .ok (.goto 24, 3) := by decide +kernel
theorem dX4_works_117 : decode cX4_works 117 = .ok (.aload_n 0, 1) := by decide +kernel
theorem dX4_works_118 : decode cX4_works 118 = .ok (.getfield 27, 3) := by decide +kernel
theorem dX4_works_121 : decode cX4_works 121 = .ok (.iload_n 2, 1) := by decide +kernel
theorem dX4_works_122 : decode cX4_works 122 = .ok (.iaload, 1) := by decide +kernel
theorem dX4_works_123 : decode cX4_works 123 = .ok (.iload_n 1, 1) := by decide +kernel
theorem dX4_works_124 : decode cX4_works 124 = .ok (.if_icmp .ne 14, 3) := by decide +kernel
theorem dX4_works_127 : decode cX4_works 127 = .ok (.aload_n 0, 1) := by decide +kernel
theorem dX4_works_128 : decode cX4_works 128 = .ok (.iload_n 1, 1) := by decide +kernel
theorem dX4_works_129 : decode cX4_works 129 = .ok (.aload_n 0, 1) := by decide +kernel
theorem dX4_works_130 : decode cX4_works 130 = .ok (.getfield 30, 3) := by decide +kernel
theorem dX4_works_133 : decode cX4_works 133 = .ok (.iload_n 2, 1) := by decide +kernel
theorem dX4_works_134 : decode cX4_works 134 = .ok (.iaload, 1) := by decide +kernel
theorem dX4_works_135 : decode cX4_works 135 = .ok (.invokevirtual 109, 3) := by decide +kernel
theorem dX4_works_138 : decode cX4_works 138 = .ok (.iinc 2 1, 3) := by decide +kernel
theorem dX4_works_141 : decode cX4_works 141 = .ok (.goto (-65), 3) := by decide +kernel
theorem dX4_works_144 : decode cX4_works 144 = .ok (.return_, 1) := by decide +kernel
set_option maxRecDepth 20000 in
theorem ggX4_isShare_X4_within : GoodIn wsX4_isShare wsX4_within := goodIn_r _ [4] (by decide +kernel) (by decide +kernel)
set_option maxRecDepth 20000 in
theorem gX4_isShare_X4_within : GoodIn wsX4_isShare (va_wsS RX4 76 yX4_within wsX4_within) := goodIn_app (goodIn_of _ (by decide +kernel)) ggX4_isShare_X4_within
theorem dX4_isShare_0 : decode cX4_isShare 0 = .ok (.iload_n 0, 1) := by decide +kernel
theorem dX4_isShare_1 : decode cX4_isShare 1 = .ok (.iconst 0, 1) := by decide +kernel
theorem dX4_isShare_2 : decode cX4_isShare 2 = .ok (.sipush 10000, 3) := by decide +kernel
theorem dX4_isShare_5 : decode cX4_isShare 5 = .ok (.invokestatic 76, 3) := by decide +kernel
theorem dX4_isShare_8 : decode cX4_isShare 8 = .ok (.ireturn, 1) := by decide +kernel
set_option maxRecDepth 20000 in
theorem ggX4_setShares_X4_isShare : GoodIn wsX4_setShares wsX4_isShare := goodIn_r _ [6, 7, 8, 5, 9] (by decide +kernel) (by decide +kernel)
set_option maxRecDepth 20000 in
theorem gX4_setShares_X4_isShare : GoodIn wsX4_setShares (va_wsS RX4 112 yX4_isShare wsX4_isShare) := goodIn_app (goodIn_of _ (by decide +kernel)) ggX4_setShares_X4_isShare
set_option maxRecDepth 20000 in
theorem ggX4_setShares_X4_goes : GoodIn wsX4_setShares wsX4_goes := goodIn_r _ [13, 14, 15, 16, 17, 18, 19, 20, 21, 22, 23, 24, 25, 26, 27, 28, 29, 30, 31, 32, 33, 34, 35, 36, 37, 38, 39] (by decide +kernel) (by decide +kernel)
set_option maxRecDepth 20000 in
theorem gX4_setShares_X4_goes : GoodIn wsX4_setShares (wsV RX4 116 RX4 yX4_goes wsX4_goes) := goodIn_app (goodIn_of _ (by decide +kernel)) ggX4_setShares_X4_goes
theorem dX4_setShares_0 : decode cX4_setShares 0 = .ok (.iload_n 1, 1) := by decide +kernel
theorem dX4_setShares_1 : decode cX4_setShares 1 = .ok (.invokestatic 112, 3) := by decide +kernel
theorem dX4_setShares_4 : decode cX4_setShares 4 = .ok (.ifCond .eq 37, 3) := by decide +kernel
theorem dX4_setShares_7 : decode cX4_setShares 7 = .ok (.iload_n 2, 1) := by decide +kernel
theorem dX4_setShares_8 : decode cX4_setShares 8 = .ok (.invokestatic 112, 3) := by decide +kernel
theorem dX4_setShares_11 : decode cX4_setShares 11 = .ok (.ifCond .eq 30, 3) := by decide +kernel
theorem dX4_setShares_14 : decode cX4_setShares 14 = .ok (.iload_n 3, 1) := by decide +kernel
theorem dX4_setShares_15 : decode cX4_setShares 15 = .ok (.invokestatic 112, 3) := by decide +kernel
theorem dX4_setShares_18 : decode cX4_setShares 18 = .ok (.ifCond .eq 23, 3) := by decide +kernel
theorem dX4_setShares_21 : decode cX4_setShares 21 = .ok (.iload 4, 2) := by decide +kernel
theorem dX4_setShares_23 : decode cX4_setShares 23 = .ok (.invokestatic 112, 3) := by decide +kernel
theorem dX4_setShares_26 : decode cX4_setShares 26 = .ok (.ifCond .eq 15, 3) := by decide +kernel
theorem dX4_setShares_29 : decode cX4_setShares 29 = .ok (.iload 5, 2) := by decide +kernel
theorem dX4_setShares_31 : decode cX4_setShares 31 = .ok (.invokestatic 112, 3) := by decide +kernel
theorem dX4_setShares_34 : decode cX4_setShares 34 = .ok (.ifCond .eq 7, 3) := by decide +kernel
theorem dX4_setShares_37 : decode cX4_setShares 37 = .ok (.iconst 1, 1) := by decide +kernel
theorem dX4_setShares_38 : decode cX4_setShares 38 = .ok (.goto 4, 3) := by decide +kernel
theorem dX4_setShares_41 : decode cX4_setShares 41 = .ok (.iconst 0, 1) := by decide +kernel
theorem dX4_setShares_42 : decode cX4_setShares 42 = .ok (.istore 6, 2) := by decide +kernel
theorem dX4_setShares_44 : decode cX4_setShares 44 = .ok (.aload_n 0, 1) := by decide +kernel
theorem dX4_setShares_45 : decode cX4_setShares 45 = .ok (.iload 6, 2) := by decide +kernel
theorem dX4_setShares_47 : decode cX4_setShares 47 = .ok (.ifCond .eq 24, 3) := by decide +kernel
theorem dX4_setShares_50 : decode cX4_setShares 50 = .ok (.iload_n 1, 1) := by decide +kernel
theorem dX4_setShares_51 : decode cX4_setShares 51 = .ok (.iload_n 2, 1) := by decide +kernel
theorem dX4_setShares_52 : decode cX4_setShares 52 = .ok (.iadd, 1) := by decide +kernel
theorem dX4_setShares_53 : decode cX4_setShares 53 = .ok (.iload_n 3, 1) := by decide +kernel
theorem dX4_setShares_54 : decode cX4_setShares 54 = .ok (.iadd, 1) := by decide +kernel
theorem dX4_setShares_55 : decode cX4_setShares 55 = .ok (.iload 4, 2) := by decide +kernel
theorem dX4_setShares_57 : decode cX4_setShares 57 = .ok (.iadd, 1) := by decide +kernel
theorem dX4_setShares_58 : decode cX4_setShares 58 = .ok (.iload 5, 2) := by decide +kernel
theorem dX4_setShares_60 : decode cX4_setShares 60 = .ok (.iadd, 1) := by decide +kernel
theorem dX4_setShares_61 : decode cX4_setShares 61 = .ok (.sipush 10000, 3) := by decide +kernel
theorem dX4_setShares_64 : decode cX4_setShares 64 = .ok (.if_icmp .ne 7, 3) := by decide +kernel
theorem dX4_setShares_67 : decode cX4_setShares 67 = .ok (.iconst 1, 1) := by decide +kernel
theorem dX4_setShares_68 : decode cX4_setShares 68 = .ok (.goto 4, 3) := by decide +kernel
theorem dX4_setShares_71 : decode cX4_setShares 71 = .ok (.iconst 0, 1) := by decide +kernel
theorem dX4_setShares_72 : decode cX4_setShares 72 = .ok (.aload_n 0, 1) := by decide +kernel
theorem dX4_setShares_73 : decode cX4_setShares 73 = .ok (.getfield 80, 3) := by decide +kernel
theorem dX4_setShares_76 : decode cX4_setShares 76 = .ok (.ifCond .ne 7, 3) := by decide +kernel
theorem dX4_setShares_79 : decode cX4_setShares 79 = .ok (.iconst 1, 1) := by decide +kernel
theorem dX4_setShares_80 : decode cX4_setShares 80 = .ok (.goto 4, 3) := by decide +kernel
theorem dX4_setShares_83 : decode cX4_setShares 83 = .ok (.iconst 0, 1) := by decide +kernel
theorem dX4_setShares_84 : decode cX4_setShares 84 = .ok (.iconst 1, 1) := by decide +kernel
theorem dX4_setShares_85 : decode cX4_setShares 85 = .ok (.invokevirtual 116, 3) := by decide +kernel
theorem dX4_setShares_88 : decode cX4_setShares 88 = .ok (.ifCond .eq 40, 3) := by decide +kernel
theorem dX4_setShares_91 : decode cX4_setShares 91 = .ok (.aload_n 0, 1) := by decide +kernel
theorem dX4_setShares_92 : decode cX4_setShares 92 = .ok (.getfield 7, 3) := by decide +kernel
theorem dX4_setShares_95 : decode cX4_setShares 95 = .ok (.iconst 0, 1) := by decide +kernel
theorem dX4_setShares_96 : decode cX4_setShares 96 = .ok (.iload_n 1, 1) := by decide +kernel
theorem dX4_setShares_97 : decode cX4_setShares 97 = .ok (.iastore, 1) := by decide +kernel
theorem dX4_setShares_98 : decode cX4_setShares 98 = .ok (.aload_n 0, 1) := by decide +kernel
theorem dX4_setShares_99 : decode cX4_setShares 99 = .ok (.getfield 7, 3) := by decide +kernel
theorem dX4_setShares_102 : decode cX4_setShares 102 = .ok (.iconst 1, 1) := by decide +kernel
theorem dX4_setShares_103 : decode cX4_setShares 103 = .ok (.iload_n 2, 1) := by decide +kernel
theorem dX4_setShares_104 : decode cX4_setShares 104 = .ok (.iastore, 1) := by decide +kernel
theorem dX4_setShares_105 : decode cX4_setShares 105 = .ok (.aload_n 0, 1) := by decide +kernel
theorem dX4_setShares_106 : decode cX4_setShares 106 = .ok (.getfield 7, 3) := by decide +kernel
theorem dX4_setShares_109 : decode cX4_setShares 109 = .ok (.iconst 2, 1) := by decide +kernel
theorem dX4_setShares_110 : decode cX4_setShares 110 = .ok (.iload_n 3, 1) := by decide +kernel
theorem dX4_setShares_111 : decode cX4_setShares 111 = .ok (.iastore, 1) := by decide +kernel
theorem dX4_setShares_112 : decode cX4_setShares 112 = .ok (.aload_n 0, 1) := by decide +kernel
theorem dX4_setShares_113 : decode cX4_setShares 113 = .ok (.getfield 7, 3) := by decide +kernel
theorem dX4_setShares_116 : decode cX4_setShares 116 = .ok (.iconst 3, 1) := by decide +kernel
theorem dX4_setShares_117 : decode cX4_setShares 117 = .ok (.iload 4, 2) := by decide +kernel
theorem dX4_setShares_119 : decode cX4_setShares 119 = .ok (.iastore, 1) := by decide +kernel
theorem dX4_setShares_120 : decode cX4_setShares 120 = .ok (.aload_n 0, 1) := by decide +kernel
theorem dX4_setShares_121 : decode cX4_setShares 121 = .ok (.getfield 7, 3) := by decide +kernel
theorem dX4_setShares_124 : decode cX4_setShares 124 = .ok (.iconst 4, 1) := by decide +kernel
theorem dX4_setShares_125 : decode cX4_setShares 125 = .ok (.iload 5, 2) := by decide +kernel
theorem dX4_setShares_127 : decode cX4_setShares 127 = .ok (.iastore, 1) := by decide +kernel
theorem dX4_setShares_128 : decode cX4_setShares 128 = .ok (.return_, 1) := by decide +kernel
set_option maxRecDepth 20000 in
theorem ggX4_setPenalty_X4_within : GoodIn wsX4_setPenalty wsX4_within := goodIn_r _ [5] (by decide +kernel) (by decide +kernel)
set_option maxRecDepth 20000 in
theorem gX4_setPenalty_X4_within : GoodIn wsX4_setPenalty (va_wsS RX4 76 yX4_within wsX4_within) := goodIn_app (goodIn_of _ (by decide +kernel)) ggX4_setPenalty_X4_within
set_option maxRecDepth 20000 in
theorem ggX4_setPenalty_X4_goes : GoodIn wsX4_setPenalty wsX4_goes := goodIn_r _ [9, 10, 11, 12, 13, 14, 15, 16, 17, 18, 19, 20, 21, 22, 23, 24, 25, 26, 27, 28, 29, 30, 31, 32, 33, 34, 35] (by decide +kernel) (by decide +kernel)
set_option maxRecDepth 20000 in
theorem gX4_setPenalty_X4_goes : GoodIn wsX4_setPenalty (wsV RX4 116 RX4 yX4_goes wsX4_goes) := goodIn_app (goodIn_of _ (by decide +kernel)) ggX4_setPenalty_X4_goes
theorem dX4_setPenalty_0 : decode cX4_setPenalty 0 = .ok (.aload_n 0, 1) := by decide +kernel
theorem dX4_setPenalty_1 : decode cX4_setPenalty 1 = .ok (.iload_n 1, 1) := by decide +kernel
theorem dX4_setPenalty_2 : decode cX4_setPenalty 2 = .ok (.bipush 100, 2) := by decide +kernel
theorem dX4_setPenalty_4 : decode cX4_setPenalty 4 = .ok (.sipush 1000, 3) := by decide +kernel
theorem dX4_setPenalty_7 : decode cX4_setPenalty 7 = .ok (.invokestatic 76, 3) := by decide +kernel
theorem dX4_setPenalty_10 : decode cX4_setPenalty 10 = .ok (.iconst 1, 1) := by decide +kernel
theorem dX4_setPenalty_11 : decode cX4_setPenalty 11 = .ok (.iconst 1, 1) := by decide +kernel
theorem dX4_setPenalty_12 : decode cX4_setPenalty 12 = .ok (.invokevirtual 116, 3) := by decide +kernel
theorem dX4_setPenalty_15 : decode cX4_setPenalty 15 = .ok (.ifCond .ne 5, 3) := by decide +kernel
theorem dX4_setPenalty_18 : decode cX4_setPenalty 18 = .ok (.iconst 0, 1) := by decide +kernel
theorem dX4_setPenalty_19 : decode cX4_setPenalty 19 = .ok (.ireturn, 1) := by decide +kernel
theorem dX4_setPenalty_20 : decode cX4_setPenalty 20 = .ok (.aload_n 0, 1) := by decide +kernel
theorem dX4_setPenalty_21 : decode cX4_setPenalty 21 = .ok (.getfield 13, 3) := by decide +kernel
theorem dX4_setPenalty_24 : decode cX4_setPenalty 24 = .ok (.istore_n 2, 1) := by decide +kernel
theorem dX4_setPenalty_25 : decode cX4_setPenalty 25 = .ok (.aload_n 0, 1) := by decide +kernel
theorem dX4_setPenalty_26 : decode cX4_setPenalty 26 = .ok (.iload_n 1, 1) := by decide +kernel
theorem dX4_setPenalty_27 : decode cX4_setPenalty 27 = .ok (.putfield 13, 3) := by decide +kernel
theorem dX4_setPenalty_30 : decode cX4_setPenalty 30 = .ok (.iload_n 2, 1) := by decide +kernel
theorem dX4_setPenalty_31 : decode cX4_setPenalty 31 = .ok (.ireturn, 1) := by decide +kernel
set_option maxRecDepth 20000 in
theorem ggX4_setOverhead_X4_within : GoodIn wsX4_setOverhead wsX4_within := goodIn_r _ [6] (by decide +kernel) (by decide +kernel)
set_option maxRecDepth 20000 in
theorem gX4_setOverhead_X4_within : GoodIn wsX4_setOverhead (va_wsS RX4 76 yX4_within wsX4_within) := goodIn_app (goodIn_of _ (by decide +kernel)) ggX4_setOverhead_X4_within
set_option maxRecDepth 20000 in
theorem ggX4_setOverhead_X4_goes : GoodIn wsX4_setOverhead wsX4_goes := goodIn_r _ [10, 11, 12, 13, 14, 15, 16, 17, 18, 19, 20, 21, 22, 23, 24, 25, 26, 27, 28, 29, 30, 31, 32, 33, 34, 35, 36] (by decide +kernel) (by decide +kernel)
set_option maxRecDepth 20000 in
theorem gX4_setOverhead_X4_goes : GoodIn wsX4_setOverhead (wsV RX4 116 RX4 yX4_goes wsX4_goes) := goodIn_app (goodIn_of _ (by decide +kernel)) ggX4_setOverhead_X4_goes
theorem dX4_setOverhead_0 : decode cX4_setOverhead 0 = .ok (.aload_n 0, 1) := by decide +kernel
theorem dX4_setOverhead_1 : decode cX4_setOverhead 1 = .ok (.iload_n 1, 1) := by decide +kernel
theorem dX4_setOverhead_2 : decode cX4_setOverhead 2 = .ok (.iconst 0, 1) := by decide +kernel
theorem dX4_setOverhead_3 : decode cX4_setOverhead 3 = .ok (.ldc 120, 2) := by decide +kernel
theorem dX4_setOverhead_5 : decode cX4_setOverhead 5 = .ok (.invokestatic 76, 3) := by decide +kernel
theorem dX4_setOverhead_8 : decode cX4_setOverhead 8 = .ok (.iconst 1, 1) := by decide +kernel
theorem dX4_setOverhead_9 : decode cX4_setOverhead 9 = .ok (.iconst 1, 1) := by decide +kernel
theorem dX4_setOverhead_10 : decode cX4_setOverhead 10 = .ok (.invokevirtual 116, 3) := by decide +kernel
theorem dX4_setOverhead_13 : decode cX4_setOverhead 13 = .ok (.ifCond .ne 5, 3) := by decide +kernel
theorem dX4_setOverhead_16 : decode cX4_setOverhead 16 = .ok (.iconst 0, 1) := by decide +kernel
theorem dX4_setOverhead_17 : decode cX4_setOverhead 17 = .ok (.ireturn, 1) := by decide +kernel
theorem dX4_setOverhead_18 : decode cX4_setOverhead 18 = .ok (.aload_n 0, 1) := by decide +kernel
theorem dX4_setOverhead_19 : decode cX4_setOverhead 19 = .ok (.getfield 121, 3) := by decide +kernel
theorem dX4_setOverhead_22 : decode cX4_setOverhead 22 = .ok (.istore_n 2, 1) := by decide +kernel
theorem dX4_setOverhead_23 : decode cX4_setOverhead 23 = .ok (.aload_n 0, 1) := by decide +kernel
theorem dX4_setOverhead_24 : decode cX4_setOverhead 24 = .ok (.iload_n 1, 1) := by decide +kernel
theorem dX4_setOverhead_25 : decode cX4_setOverhead 25 = .ok (.putfield 121, 3) := by decide +kernel
theorem dX4_setOverhead_28 : decode cX4_setOverhead 28 = .ok (.iload_n 2, 1) := by decide +kernel
theorem dX4_setOverhead_29 : decode cX4_setOverhead 29 = .ok (.ireturn, 1) := by decide +kernel
set_option maxRecDepth 20000 in
theorem ggX4_addWell_X4_goes : GoodIn wsX4_addWell wsX4_goes := goodIn_r _ [8, 9, 10, 11, 12, 13, 14, 15, 16, 17, 18, 19, 20, 21, 22, 23, 24, 25, 26, 27, 28, 29, 30, 31, 32, 33, 34] (by decide +kernel) (by decide +kernel)
set_option maxRecDepth 20000 in
theorem gX4_addWell_X4_goes : GoodIn wsX4_addWell (wsV RX4 116 RX4 yX4_goes wsX4_goes) := goodIn_app (goodIn_of _ (by decide +kernel)) ggX4_addWell_X4_goes
theorem dX4_addWell_0 : decode cX4_addWell 0 = .ok (.aload_n 0, 1) := by decide +kernel
theorem dX4_addWell_1 : decode cX4_addWell 1 = .ok (.aload_n 0, 1) := by decide +kernel
theorem dX4_addWell_2 : decode cX4_addWell 2 = .ok (.getfield 80, 3) := by decide +kernel
theorem dX4_addWell_5 : decode cX4_addWell 5 = .ok (.bipush 6, 2) := by decide +kernel
theorem dX4_addWell_7 : decode cX4_addWell 7 = .ok (.if_icmp .ge 7, 3) := by decide +kernel
theorem dX4_addWell_10 : decode cX4_addWell 10 = .ok (.iconst 1, 1) := by decide +kernel
theorem dX4_addWell_11 : decode cX4_addWell 11 = .ok (.goto 4, 3) := by decide +kernel
theorem dX4_addWell_14 : decode cX4_addWell 14 = .ok (.iconst 0, 1) := by decide +kernel
theorem dX4_addWell_15 : decode cX4_addWell 15 = .ok (.iconst 1, 1) := by decide +kernel
theorem dX4_addWell_16 : decode cX4_addWell 16 = .ok (.iconst 1, 1) := by decide +kernel
theorem dX4_addWell_17 : decode cX4_addWell 17 = .ok (.invokevirtual 116, 3) := by decide +kernel
theorem dX4_addWell_20 : decode cX4_addWell 20 = .ok (.ifCond .ne 5, 3) := by decide +kernel
theorem dX4_addWell_23 : decode cX4_addWell 23 = .ok (.iconst 0, 1) := by decide +kernel
theorem dX4_addWell_24 : decode cX4_addWell 24 = .ok (.ireturn, 1) := by decide +kernel
theorem dX4_addWell_25 : decode cX4_addWell 25 = .ok (.aload_n 0, 1) := by decide +kernel
theorem dX4_addWell_26 : decode cX4_addWell 26 = .ok (.getfield 17, 3) := by decide +kernel
theorem dX4_addWell_29 : decode cX4_addWell 29 = .ok (.aload_n 0, 1) := by decide +kernel
theorem dX4_addWell_30 : decode cX4_addWell 30 = .ok (.getfield 80, 3) := by decide +kernel
theorem dX4_addWell_33 : decode cX4_addWell 33 = .ok (.aload_n 0, 1) := by decide +kernel
theorem dX4_addWell_34 : decode cX4_addWell 34 = .ok (.getfield 13, 3) := by decide +kernel
theorem dX4_addWell_37 : decode cX4_addWell 37 = .ok (.iastore, 1) := by decide +kernel
theorem dX4_addWell_38 : decode cX4_addWell 38 = .ok (.aload_n 0, 1) := by decide +kernel
theorem dX4_addWell_39 : decode cX4_addWell 39 = .ok (.dup, 1) := by decide +kernel
theorem dX4_addWell_40 : decode cX4_addWell 40 = .ok (.getfield 80, 3) := by decide +kernel
theorem dX4_addWell_43 : decode cX4_addWell 43 = .ok (.iconst 1, 1) := by decide +kernel
theorem dX4_addWell_44 : decode cX4_addWell 44 = .ok (.iadd, 1) := by decide +kernel
theorem dX4_addWell_45 : decode cX4_addWell 45 = .ok (.putfield 80, 3) := by decide +kernel
theorem dX4_addWell_48 : decode cX4_addWell 48 = .ok (.aload_n 0, 1) := by decide +kernel
theorem dX4_addWell_49 : decode cX4_addWell 49 = .ok (.getfield 80, 3) := by decide +kernel
theorem dX4_addWell_52 : decode cX4_addWell 52 = .ok (.iconst 1, 1) := by decide +kernel
theorem dX4_addWell_53 : decode cX4_addWell 53 = .ok (.isub, 1) := by decide +kernel
theorem dX4_addWell_54 : decode cX4_addWell 54 = .ok (.ireturn, 1) := by decide +kernel
theorem dX4_hasOthers_0 : decode cX4_hasOthers 0 = .ok (.iconst 0, 1) := by decide +kernel
theorem dX4_hasOthers_1 : decode cX4_hasOthers 1 = .ok (.istore_n 3, 1) := by decide +kernel
theorem dX4_hasOthers_2 : decode cX4_hasOthers 2 = .ok (.iconst 0, 1) := by decide +kernel
theorem dX4_hasOthers_3 : decode cX4_hasOthers 3 = .ok (.istore 4, 2) := by decide +kernel
theorem dX4_hasOthers_5 : decode cX4_hasOthers 5 = .ok (.iload 4, 2) := by decide +kernel
theorem dX4_hasOthers_7 : decode cX4_hasOthers 7 = .ok (.iconst 5, 1) := by decide +kernel
theorem dX4_hasOthers_8 : decode cX4_hasOthers 8 = .ok (.if_icmp .ge 49, 3) := by decide +kernel
theorem dX4_hasOthers_11 : decode cX4_hasOthers 11 = .ok (.iload_n 3, 1) := by decide +kernel
theorem dX4_hasOthers_12 : decode cX4_hasOthers 12 = .ok (.ifCond .ne 33, 3) := by decide +kernel
theorem dX4_hasOthers_15 : decode cX4_hasOthers 15 = .ok (.iload 4, 2) := by decide +kernel
theorem dX4_hasOthers_17 : decode cX4_hasOthers 17 = .ok (.iload_n 2, 1) := by decide +kernel
theorem dX4_hasOthers_18 : decode cX4_hasOthers 18 = .ok (.if_icmp .eq 31, 3) := by decide +kernel
theorem dX4_hasOthers_21 : decode cX4_hasOthers 21 = .ok (.aload_n 0, 1) := by decide +kernel
theorem dX4_hasOthers_22 : decode cX4_hasOthers 22 = .ok (.getfield 7, 3) := by decide +kernel
theorem dX4_hasOthers_25 : decode cX4_hasOthers 25 = .ok (.iload 4, 2) := by decide +kernel
theorem dX4_hasOthers_27 : decode cX4_hasOthers 27 = .ok (.iaload, 1) := by decide +kernel
theorem dX4_hasOthers_28 : decode cX4_hasOthers 28 = .ok (.ifCond .le 21, 3) := by decide +kernel
theorem dX4_hasOthers_31 : decode cX4_hasOthers 31 = .ok (.aload_n 0, 1) := by decide +kernel
theorem dX4_hasOthers_32 : decode cX4_hasOthers 32 = .ok (.getfield 24, 3) := by decide +kernel
theorem dX4_hasOthers_35 : decode cX4_hasOthers 35 = .ok (.iconst 5, 1) := by decide +kernel
theorem dX4_hasOthers_36 : decode cX4_hasOthers 36 = .ok (.iload_n 1, 1) := by decide +kernel
theorem dX4_hasOthers_37 : decode cX4_hasOthers 37 = .ok (.imul, 1) := by decide +kernel
theorem dX4_hasOthers_38 : decode cX4_hasOthers 38 = .ok (.iload 4, 2) := by decide +kernel
theorem dX4_hasOthers_40 : decode cX4_hasOthers 40 = .ok (.iadd, 1) := by decide +kernel
theorem dX4_hasOthers_41 : decode cX4_hasOthers 41 = .ok (.baload, 1) := by decide +kernel
theorem dX4_hasOthers_42 : decode cX4_hasOthers 42 = .ok (.ifCond .ne 7, 3) := by decide +kernel
theorem dX4_hasOthers_45 : decode cX4_hasOthers 45 = .ok (.iconst 1, 1) := by decide +kernel
theorem dX4_hasOthers_46 : decode cX4_hasOthers 46 = .ok (.goto 4, 3) := by decide +kernel
theorem dX4_hasOthers_49 : decode cX4_hasOthers 49 = .ok (.iconst 0, 1) := by decide +kernel
theorem dX4_hasOthers_50 : decode cX4_hasOthers 50 = .ok (.istore_n 3, 1) := by decide +kernel
theorem dX4_hasOthers_51 : decode cX4_hasOthers 51 = .ok (.iinc 4 1, 3) := by decide +kernel
theorem dX4_hasOthers_54 : decode cX4_hasOthers 54 = .ok (.goto (-49), 3) := by decide +kernel
theorem dX4_hasOthers_57 : decode cX4_hasOthers 57 = .ok (.iload_n 3, 1) := by decide +kernel
theorem dX4_hasOthers_58 : decode cX4_hasOthers 58 = .ok (.ireturn, 1) := by decide +kernel
set_option maxRecDepth 20000 in
theorem ggX4_elect_X4_isWell : GoodIn wsX4_elect wsX4_isWell := goodIn_r _ [8, 9, 10, 11, 7, 12, 25, 26, 27, 28, 29, 30, 31, 32, 33, 34, 35, 36, 37, 38, 39, 40, 41, 42, 43, 44, 45, 46, 47, 48, 49] (by decide +kernel) (by decide +kernel)
set_option maxRecDepth 20000 in
theorem gX4_elect_X4_isWell : GoodIn wsX4_elect (wsV RX4 124 RX4 yX4_isWell wsX4_isWell) := goodIn_app (goodIn_of _ (by decide +kernel)) ggX4_elect_X4_isWell
set_option maxRecDepth 20000 in
theorem ggX4_elect_X4_isPartner : GoodIn wsX4_elect wsX4_isPartner := goodIn_r _ [15, 10, 11, 7, 12] (by decide +kernel) (by decide +kernel)
set_option maxRecDepth 20000 in
theorem gX4_elect_X4_isPartner : GoodIn wsX4_elect (va_wsS RX4 127 yX4_isPartner wsX4_isPartner) := goodIn_app (goodIn_of _ (by decide +kernel)) ggX4_elect_X4_isPartner
set_option maxRecDepth 20000 in
theorem ggX4_elect_X4_hasOthers : GoodIn wsX4_elect wsX4_hasOthers := goodIn_r _ [19, 2, 3, 25, 26, 27, 28, 29, 30, 31, 32, 33, 34, 35, 36, 37, 38, 39, 40, 41, 42, 43, 44, 45, 46, 47, 48, 49] (by decide +kernel) (by decide +kernel)
set_option maxRecDepth 20000 in
theorem gX4_elect_X4_hasOthers : GoodIn wsX4_elect (wsV RX4 130 RX4 yX4_hasOthers wsX4_hasOthers) := goodIn_app (goodIn_of _ (by decide +kernel)) ggX4_elect_X4_hasOthers
set_option maxRecDepth 20000 in
theorem ggX4_elect_X4_goes : GoodIn wsX4_elect wsX4_goes := goodIn_r _ [23, 24, 25, 26, 27, 28, 29, 30, 31, 32, 33, 34, 35, 36, 37, 38, 39, 40, 41, 42, 43, 44, 45, 46, 47, 48, 49] (by decide +kernel) (by decide +kernel)
set_option maxRecDepth 20000 in
theorem gX4_elect_X4_goes : GoodIn wsX4_elect (wsV RX4 116 RX4 yX4_goes wsX4_goes) := goodIn_app (goodIn_of _ (by decide +kernel)) ggX4_elect_X4_goes
theorem dX4_elect_0 : decode cX4_elect 0 = .ok (.aload_n 0, 1) := by decide +kernel
theorem dX4_elect_1 : decode cX4_elect 1 = .ok (.iload_n 1, 1) := by decide +kernel
theorem dX4_elect_2 : decode cX4_elect 2 = .ok (.invokevirtual 124, 3) := by decide +kernel
theorem dX4_elect_5 : decode cX4_elect 5 = .ok (.ifCond .eq 14, 3) := by decide +kernel
theorem dX4_elect_8 : decode cX4_elect 8 = .ok (.iload_n 2, 1) := by decide +kernel
theorem dX4_elect_9 : decode cX4_elect 9 = .ok (.invokestatic 127, 3) := by decide +kernel
theorem dX4_elect_12 : decode cX4_elect 12 = .ok (.ifCond .eq 7, 3) := by decide +kernel
theorem dX4_elect_15 : decode cX4_elect 15 = .ok (.iconst 1, 1) := by decide +kernel
theorem dX4_elect_16 : decode cX4_elect 16 = .ok (.goto 4, 3) := by decide +kernel
theorem dX4_elect_19 : decode cX4_elect 19 = .ok (.iconst 0, 1) := by decide +kernel
theorem dX4_elect_20 : decode cX4_elect 20 = .ok (.istore 4, 2) := by decide +kernel
theorem dX4_elect_22 : decode cX4_elect 22 = .ok (.iload 4, 2) := by decide +kernel
theorem dX4_elect_24 : decode cX4_elect 24 = .ok (.ifCond .eq 38, 3) := by decide +kernel
theorem dX4_elect_27 : decode cX4_elect 27 = .ok (.aload_n 0, 1) := by decide +kernel
theorem dX4_elect_28 : decode cX4_elect 28 = .ok (.getfield 20, 3) := by decide +kernel
theorem dX4_elect_31 : decode cX4_elect 31 = .ok (.iload_n 1, 1) := by decide +kernel
theorem dX4_elect_32 : decode cX4_elect 32 = .ok (.baload, 1) := by decide +kernel
theorem dX4_elect_33 : decode cX4_elect 33 = .ok (.ifCond .ne 29, 3) := by decide +kernel
theorem dX4_elect_36 : decode cX4_elect 36 = .ok (.aload_n 0, 1) := by decide +kernel
theorem dX4_elect_37 : decode cX4_elect 37 = .ok (.getfield 7, 3) := by decide +kernel
theorem dX4_elect_40 : decode cX4_elect 40 = .ok (.iload_n 2, 1) := by decide +kernel
theorem dX4_elect_41 : decode cX4_elect 41 = .ok (.iaload, 1) := by decide +kernel
theorem dX4_elect_42 : decode cX4_elect 42 = .ok (.ifCond .le 20, 3) := by decide +kernel
theorem dX4_elect_45 : decode cX4_elect 45 = .ok (.iload_n 3, 1) := by decide +kernel
theorem dX4_elect_46 : decode cX4_elect 46 = .ok (.ifCond .ne 12, 3) := by decide +kernel
theorem dX4_elect_49 : decode cX4_elect 49 = .ok (.aload_n 0, 1) := by decide +kernel
theorem dX4_elect_50 : decode cX4_elect 50 = .ok (.iload_n 1, 1) := by decide +kernel
theorem dX4_elect_51 : decode cX4_elect 51 = .ok (.iload_n 2, 1) := by decide +kernel
theorem dX4_elect_52 : decode cX4_elect 52 = .ok (.invokevirtual 130, 3) := by decide +kernel
theorem dX4_elect_55 : decode cX4_elect 55 = .ok (.ifCond .eq 7, 3) := by decide +kernel
theorem dX4_elect_58 : decode cX4_elect 58 = .ok (.iconst 1, 1) := by decide +kernel
theorem dX4_elect_59 : decode cX4_elect 59 = .ok (.goto 4, 3) := by decide +kernel
theorem dX4_elect_62 : decode cX4_elect 62 = .ok (.iconst 0, 1) := by decide +kernel
theorem dX4_elect_63 : decode cX4_elect 63 = .ok (.istore 5, 2) := by decide +kernel
theorem dX4_elect_65 : decode cX4_elect 65 = .ok (.aload_n 0, 1) := by decide +kernel
theorem dX4_elect_66 : decode cX4_elect 66 = .ok (.iload 4, 2) := by decide +kernel
theorem dX4_elect_68 : decode cX4_elect 68 = .ok (.iload 5, 2) := by decide +kernel
theorem dX4_elect_70 : decode cX4_elect 70 = .ok (.iconst 1, 1) := by decide +kernel
theorem dX4_elect_71 : decode cX4_elect 71 = .ok (.invokevirtual 116, 3) := by decide +kernel
theorem dX4_elect_74 : decode cX4_elect 74 = .ok (.ifCond .ne 5, 3) := by decide +kernel
theorem dX4_elect_77 : decode cX4_elect 77 = .ok (.iconst 0, 1) := by decide +kernel
theorem dX4_elect_78 : decode cX4_elect 78 = .ok (.ireturn, 1) := by decide +kernel
theorem dX4_elect_79 : decode cX4_elect 79 = .ok (.aload_n 0, 1) := by decide +kernel
theorem dX4_elect_80 : decode cX4_elect 80 = .ok (.getfield 24, 3) := by decide +kernel
theorem dX4_elect_83 : decode cX4_elect 83 = .ok (.iconst 5, 1) := by decide +kernel
theorem dX4_elect_84 : decode cX4_elect 84 = .ok (.iload_n 1, 1) := by decide +kernel
theorem dX4_elect_85 : decode cX4_elect 85 = .ok (.imul, 1) := by decide +kernel
theorem dX4_elect_86 : decode cX4_elect 86 = .ok (.iload_n 2, 1) := by decide +kernel
theorem dX4_elect_87 : decode cX4_elect 87 = .ok (.iadd, 1) := by decide +kernel
theorem dX4_elect_88 : decode cX4_elect 88 = .ok (.baload, 1) := by decide +kernel
theorem dX4_elect_89 : decode cX4_elect 89 = .ok (.ifCond .ne 7, 3) := by decide +kernel
theorem dX4_elect_92 : decode cX4_elect 92 = .ok (.iconst 1, 1) := by decide +kernel
theorem dX4_elect_93 : decode cX4_elect 93 = .ok (.goto 4, 3) := by decide +kernel
theorem dX4_elect_96 : decode cX4_elect 96 = .ok (.iconst 0, 1) := by decide +kernel
theorem dX4_elect_97 : decode cX4_elect 97 = .ok (.istore 6, 2) := by decide +kernel
theorem dX4_elect_99 : decode cX4_elect 99 = .ok (.aload_n 0, 1) := by decide +kernel
theorem dX4_elect_100 : decode cX4_elect 100 = .ok (.getfield 24, 3) := by decide +kernel
theorem dX4_elect_103 : decode cX4_elect 103 = .ok (.iconst 5, 1) := by decide +kernel
theorem dX4_elect_104 : decode cX4_elect 104 = .ok (.iload_n 1, 1) := by decide +kernel
theorem dX4_elect_105 : decode cX4_elect 105 = .ok (.imul, 1) := by decide +kernel
theorem dX4_elect_106 : decode cX4_elect 106 = .ok (.iload_n 2, 1) := by decide +kernel
theorem dX4_elect_107 : decode cX4_elect 107 = .ok (.iadd, 1) := by decide +kernel
theorem dX4_elect_108 : decode cX4_elect 108 = .ok (.iload_n 3, 1) := by decide +kernel
theorem dX4_elect_109 : decode cX4_elect 109 = .ok (.ifCond .ne 7, 3) := by decide +kernel
theorem dX4_elect_112 : decode cX4_elect 112 = .ok (.iconst 1, 1) := by decide +kernel
theorem dX4_elect_113 : decode cX4_elect 113 = .ok (.goto 4, 3) := by decide +kernel
theorem dX4_elect_116 : decode cX4_elect 116 = .ok (.iconst 0, 1) := by decide +kernel
theorem dX4_elect_117 : decode cX4_elect 117 = .ok (.bastore, 1) := by decide +kernel
theorem dX4_elect_118 : decode cX4_elect 118 = .ok (.iload 6, 2) := by decide +kernel
theorem dX4_elect_120 : decode cX4_elect 120 = .ok (.ireturn, 1) := by decide +kernel
theorem dX4_enters_0 : decode cX4_enters 0 = .ok (.aload_n 0, 1) := by decide +kernel
theorem dX4_enters_1 : decode cX4_enters 1 = .ok (.getfield 27, 3) := by decide +kernel
theorem dX4_enters_4 : decode cX4_enters 4 = .ok (.aload_n 0, 1) := by decide +kernel
theorem dX4_enters_5 : decode cX4_enters 5 = .ok (.getfield 83, 3) := by decide +kernel
theorem dX4_enters_8 : decode cX4_enters 8 = .ok (.iload_n 1, 1) := by decide +kernel
theorem dX4_enters_9 : decode cX4_enters 9 = .ok (.iastore, 1) := by decide +kernel
theorem dX4_enters_10 : decode cX4_enters 10 = .ok (.aload_n 0, 1) := by decide +kernel
theorem dX4_enters_11 : decode cX4_enters 11 = .ok (.getfield 30, 3) := by decide +kernel
theorem dX4_enters_14 : decode cX4_enters 14 = .ok (.aload_n 0, 1) := by decide +kernel
theorem dX4_enters_15 : decode cX4_enters 15 = .ok (.getfield 83, 3) := by decide +kernel
theorem dX4_enters_18 : decode cX4_enters 18 = .ok (.iload_n 2, 1) := by decide +kernel
theorem dX4_enters_19 : decode cX4_enters 19 = .ok (.iastore, 1) := by decide +kernel
theorem dX4_enters_20 : decode cX4_enters 20 = .ok (.aload_n 0, 1) := by decide +kernel
theorem dX4_enters_21 : decode cX4_enters 21 = .ok (.getfield 33, 3) := by decide +kernel
theorem dX4_enters_24 : decode cX4_enters 24 = .ok (.aload_n 0, 1) := by decide +kernel
theorem dX4_enters_25 : decode cX4_enters 25 = .ok (.getfield 83, 3) := by decide +kernel
theorem dX4_enters_28 : decode cX4_enters 28 = .ok (.iload_n 3, 1) := by decide +kernel
theorem dX4_enters_29 : decode cX4_enters 29 = .ok (.bastore, 1) := by decide +kernel
theorem dX4_enters_30 : decode cX4_enters 30 = .ok (.aload_n 0, 1) := by decide +kernel
theorem dX4_enters_31 : decode cX4_enters 31 = .ok (.getfield 20, 3) := by decide +kernel
theorem dX4_enters_34 : decode cX4_enters 34 = .ok (.iload_n 1, 1) := by decide +kernel
theorem dX4_enters_35 : decode cX4_enters 35 = .ok (.iconst 1, 1) := by decide +kernel
theorem dX4_enters_36 : decode cX4_enters 36 = .ok (.bastore, 1) := by decide +kernel
theorem dX4_enters_37 : decode cX4_enters 37 = .ok (.aload_n 0, 1) := by decide +kernel
theorem dX4_enters_38 : decode cX4_enters 38 = .ok (.dup, 1) := by decide +kernel
theorem dX4_enters_39 : decode cX4_enters 39 = .ok (.getfield 83, 3) := by decide +kernel
theorem dX4_enters_42 : decode cX4_enters 42 = .ok (.iconst 1, 1) := by decide +kernel
theorem dX4_enters_43 : decode cX4_enters 43 = .ok (.iadd, 1) := by decide +kernel
theorem dX4_enters_44 : decode cX4_enters 44 = .ok (.putfield 83, 3) := by decide +kernel
theorem dX4_enters_47 : decode cX4_enters 47 = .ok (.aload_n 0, 1) := by decide +kernel
theorem dX4_enters_48 : decode cX4_enters 48 = .ok (.getfield 83, 3) := by decide +kernel
theorem dX4_enters_51 : decode cX4_enters 51 = .ok (.iconst 1, 1) := by decide +kernel
theorem dX4_enters_52 : decode cX4_enters 52 = .ok (.isub, 1) := by decide +kernel
theorem dX4_enters_53 : decode cX4_enters 53 = .ok (.ireturn, 1) := by decide +kernel
set_option maxRecDepth 20000 in
theorem ggX4_cost_X4_isWell : GoodIn wsX4_cost wsX4_isWell := goodIn_r _ [6, 7, 8, 9, 5, 10, 28, 29, 30, 31, 32, 33, 34, 35, 36, 37, 38, 39, 40, 41, 42, 43, 44, 45, 46, 47, 48, 49, 50, 51, 52] (by decide +kernel) (by decide +kernel)
set_option maxRecDepth 20000 in
theorem gX4_cost_X4_isWell : GoodIn wsX4_cost (wsV RX4 124 RX4 yX4_isWell wsX4_isWell) := goodIn_app (goodIn_of _ (by decide +kernel)) ggX4_cost_X4_isWell
set_option maxRecDepth 20000 in
theorem ggX4_cost_X4_isAmount : GoodIn wsX4_cost wsX4_isAmount := goodIn_r _ [13, 14, 8, 9, 5, 10] (by decide +kernel) (by decide +kernel)
set_option maxRecDepth 20000 in
theorem gX4_cost_X4_isAmount : GoodIn wsX4_cost (va_wsS RX4 134 yX4_isAmount wsX4_isAmount) := goodIn_app (goodIn_of _ (by decide +kernel)) ggX4_cost_X4_isAmount
set_option maxRecDepth 20000 in
theorem ggX4_cost_X4_goes : GoodIn wsX4_cost wsX4_goes := goodIn_r _ [18, 19, 28, 29, 30, 31, 32, 33, 34, 35, 36, 37, 38, 39, 40, 41, 42, 43, 44, 45, 46, 47, 48, 49, 50, 51, 52] (by decide +kernel) (by decide +kernel)
set_option maxRecDepth 20000 in
theorem gX4_cost_X4_goes : GoodIn wsX4_cost (wsV RX4 116 RX4 yX4_goes wsX4_goes) := goodIn_app (goodIn_of _ (by decide +kernel)) ggX4_cost_X4_goes
set_option maxRecDepth 20000 in
theorem ggX4_cost_X4_enters : GoodIn wsX4_cost wsX4_enters := goodIn_r _ [23, 24, 1, 25, 26, 27, 28, 29, 30, 31, 32, 33, 34, 35, 36, 37, 38, 39, 40, 41, 42, 43, 44, 45, 46, 47, 48, 49, 50, 51, 52] (by decide +kernel) (by decide +kernel)
set_option maxRecDepth 20000 in
theorem gX4_cost_X4_enters : GoodIn wsX4_cost (wsV RX4 137 RX4 yX4_enters wsX4_enters) := goodIn_app (goodIn_of _ (by decide +kernel)) ggX4_cost_X4_enters
theorem dX4_cost_0 : decode cX4_cost 0 = .ok (.aload_n 0, 1) := by decide +kernel
theorem dX4_cost_1 : decode cX4_cost 1 = .ok (.aload_n 0, 1) := by decide +kernel
theorem dX4_cost_2 : decode cX4_cost 2 = .ok (.iload_n 1, 1) := by decide +kernel
theorem dX4_cost_3 : decode cX4_cost 3 = .ok (.invokevirtual 124, 3) := by decide +kernel
theorem dX4_cost_6 : decode cX4_cost 6 = .ok (.iload_n 2, 1) := by decide +kernel
theorem dX4_cost_7 : decode cX4_cost 7 = .ok (.invokestatic 134, 3) := by decide +kernel
theorem dX4_cost_10 : decode cX4_cost 10 = .ok (.aload_n 0, 1) := by decide +kernel
theorem dX4_cost_11 : decode cX4_cost 11 = .ok (.getfield 83, 3) := by decide +kernel
theorem dX4_cost_14 : decode cX4_cost 14 = .ok (.bipush 60, 2) := by decide +kernel
theorem dX4_cost_16 : decode cX4_cost 16 = .ok (.if_icmp .ge 7, 3) := by decide +kernel
theorem dX4_cost_19 : decode cX4_cost 19 = .ok (.iconst 1, 1) := by decide +kernel
theorem dX4_cost_20 : decode cX4_cost 20 = .ok (.goto 4, 3) := by decide +kernel
theorem dX4_cost_23 : decode cX4_cost 23 = .ok (.iconst 0, 1) := by decide +kernel
theorem dX4_cost_24 : decode cX4_cost 24 = .ok (.invokevirtual 116, 3) := by decide +kernel
theorem dX4_cost_27 : decode cX4_cost 27 = .ok (.ifCond .eq 13, 3) := by decide +kernel
theorem dX4_cost_30 : decode cX4_cost 30 = .ok (.aload_n 0, 1) := by decide +kernel
theorem dX4_cost_31 : decode cX4_cost 31 = .ok (.iload_n 1, 1) := by decide +kernel
theorem dX4_cost_32 : decode cX4_cost 32 = .ok (.iload_n 2, 1) := by decide +kernel
theorem dX4_cost_33 : decode cX4_cost 33 = .ok (.iconst 0, 1) := by decide +kernel
theorem dX4_cost_34 : decode cX4_cost 34 = .ok (.invokevirtual 137, 3) := by decide +kernel
theorem dX4_cost_37 : decode cX4_cost 37 = .ok (.goto 4, 3) := by decide +kernel
theorem dX4_cost_40 : decode cX4_cost 40 = .ok (.iconst 0, 1) := by decide +kernel
theorem dX4_cost_41 : decode cX4_cost 41 = .ok (.ireturn, 1) := by decide +kernel
set_option maxRecDepth 20000 in
theorem ggX4_overhead_X4_isWell : GoodIn wsX4_overhead wsX4_isWell := goodIn_r _ [7, 8, 9, 10, 6, 11, 25, 26, 27, 28, 29, 30, 31, 32, 33, 34, 35, 36, 37, 38, 39, 40, 41, 42, 43, 44, 45, 46, 47, 48, 49] (by decide +kernel) (by decide +kernel)
set_option maxRecDepth 20000 in
theorem gX4_overhead_X4_isWell : GoodIn wsX4_overhead (wsV RX4 124 RX4 yX4_isWell wsX4_isWell) := goodIn_app (goodIn_of _ (by decide +kernel)) ggX4_overhead_X4_isWell
set_option maxRecDepth 20000 in
theorem ggX4_overhead_X4_within : GoodIn wsX4_overhead wsX4_within := goodIn_r _ [11] (by decide +kernel) (by decide +kernel)
set_option maxRecDepth 20000 in
theorem gX4_overhead_X4_within : GoodIn wsX4_overhead (va_wsS RX4 76 yX4_within wsX4_within) := goodIn_app (goodIn_of _ (by decide +kernel)) ggX4_overhead_X4_within
set_option maxRecDepth 20000 in
theorem ggX4_overhead_X4_goes : GoodIn wsX4_overhead wsX4_goes := goodIn_r _ [15, 16, 25, 26, 27, 28, 29, 30, 31, 32, 33, 34, 35, 36, 37, 38, 39, 40, 41, 42, 43, 44, 45, 46, 47, 48, 49] (by decide +kernel) (by decide +kernel)
set_option maxRecDepth 20000 in
theorem gX4_overhead_X4_goes : GoodIn wsX4_overhead (wsV RX4 116 RX4 yX4_goes wsX4_goes) := goodIn_app (goodIn_of _ (by decide +kernel)) ggX4_overhead_X4_goes
set_option maxRecDepth 20000 in
theorem ggX4_overhead_X4_enters : GoodIn wsX4_overhead wsX4_enters := goodIn_r _ [20, 21, 1, 22, 23, 24, 25, 26, 27, 28, 29, 30, 31, 32, 33, 34, 35, 36, 37, 38, 39, 40, 41, 42, 43, 44, 45, 46, 47, 48, 49] (by decide +kernel) (by decide +kernel)
set_option maxRecDepth 20000 in
theorem gX4_overhead_X4_enters : GoodIn wsX4_overhead (wsV RX4 137 RX4 yX4_enters wsX4_enters) := goodIn_app (goodIn_of _ (by decide +kernel)) ggX4_overhead_X4_enters
theorem dX4_overhead_0 : decode cX4_overhead 0 = .ok (.aload_n 0, 1) := by decide +kernel
theorem dX4_overhead_1 : decode cX4_overhead 1 = .ok (.getfield 83, 3) := by decide +kernel
theorem dX4_overhead_4 : decode cX4_overhead 4 = .ok (.bipush 60, 2) := by decide +kernel
theorem dX4_overhead_6 : decode cX4_overhead 6 = .ok (.if_icmp .ge 14, 3) := by decide +kernel
theorem dX4_overhead_9 : decode cX4_overhead 9 = .ok (.aload_n 0, 1) := by decide +kernel
theorem dX4_overhead_10 : decode cX4_overhead 10 = .ok (.getfield 121, 3) := by decide +kernel
theorem dX4_overhead_13 : decode cX4_overhead 13 = .ok (.ifCond .le 7, 3) := by decide +kernel
theorem dX4_overhead_16 : decode cX4_overhead 16 = .ok (.iconst 1, 1) := by decide +kernel
theorem dX4_overhead_17 : decode cX4_overhead 17 = .ok (.goto 4, 3) := by decide +kernel
theorem dX4_overhead_20 : decode cX4_overhead 20 = .ok (.iconst 0, 1) := by decide +kernel
theorem dX4_overhead_21 : decode cX4_overhead 21 = .ok (.istore_n 3, 1) := by decide +kernel
theorem dX4_overhead_22 : decode cX4_overhead 22 = .ok (.aload_n 0, 1) := by decide +kernel
theorem dX4_overhead_23 : decode cX4_overhead 23 = .ok (.aload_n 0, 1) := by decide +kernel
theorem dX4_overhead_24 : decode cX4_overhead 24 = .ok (.iload_n 1, 1) := by decide +kernel
theorem dX4_overhead_25 : decode cX4_overhead 25 = .ok (.invokevirtual 124, 3) := by decide +kernel
theorem dX4_overhead_28 : decode cX4_overhead 28 = .ok (.iload_n 2, 1) := by decide +kernel
theorem dX4_overhead_29 : decode cX4_overhead 29 = .ok (.iconst 1, 1) := by decide +kernel
theorem dX4_overhead_30 : decode cX4_overhead 30 = .ok (.bipush 24, 2) := by decide +kernel
theorem dX4_overhead_32 : decode cX4_overhead 32 = .ok (.invokestatic 76, 3) := by decide +kernel
theorem dX4_overhead_35 : decode cX4_overhead 35 = .ok (.iload_n 3, 1) := by decide +kernel
theorem dX4_overhead_36 : decode cX4_overhead 36 = .ok (.invokevirtual 116, 3) := by decide +kernel
theorem dX4_overhead_39 : decode cX4_overhead 39 = .ok (.ifCond .eq 18, 3) := by decide +kernel
theorem dX4_overhead_42 : decode cX4_overhead 42 = .ok (.aload_n 0, 1) := by decide +kernel
theorem dX4_overhead_43 : decode cX4_overhead 43 = .ok (.iload_n 1, 1) := by decide +kernel
theorem dX4_overhead_44 : decode cX4_overhead 44 = .ok (.aload_n 0, 1) := by decide +kernel
theorem dX4_overhead_45 : decode cX4_overhead 45 = .ok (.getfield 121, 3) := by decide +kernel
theorem dX4_overhead_48 : decode cX4_overhead 48 = .ok (.iload_n 2, 1) := by decide +kernel
theorem dX4_overhead_49 : decode cX4_overhead 49 = .ok (.imul, 1) := by decide +kernel
theorem dX4_overhead_50 : decode cX4_overhead 50 = .ok (.iconst 0, 1) := by decide +kernel
theorem dX4_overhead_51 : decode cX4_overhead 51 = .ok (.invokevirtual 137, 3) := by decide +kernel
theorem dX4_overhead_54 : decode cX4_overhead 54 = .ok (.goto 4, 3) := by decide +kernel
theorem dX4_overhead_57 : decode cX4_overhead 57 = .ok (.iconst 0, 1) := by decide +kernel
theorem dX4_overhead_58 : decode cX4_overhead 58 = .ok (.ireturn, 1) := by decide +kernel
set_option maxRecDepth 20000 in
theorem ggX4_income_X4_isWell : GoodIn wsX4_income wsX4_isWell := goodIn_r _ [6, 7, 8, 9, 5, 10, 28, 29, 30, 31, 32, 33, 34, 35, 36, 37, 38, 39, 40, 41, 42, 43, 44, 45, 46, 47, 48, 49, 50, 51, 52] (by decide +kernel) (by decide +kernel)
set_option maxRecDepth 20000 in
theorem gX4_income_X4_isWell : GoodIn wsX4_income (wsV RX4 124 RX4 yX4_isWell wsX4_isWell) := goodIn_app (goodIn_of _ (by decide +kernel)) ggX4_income_X4_isWell
set_option maxRecDepth 20000 in
theorem ggX4_income_X4_isAmount : GoodIn wsX4_income wsX4_isAmount := goodIn_r _ [13, 14, 8, 9, 5, 10] (by decide +kernel) (by decide +kernel)
set_option maxRecDepth 20000 in
theorem gX4_income_X4_isAmount : GoodIn wsX4_income (va_wsS RX4 134 yX4_isAmount wsX4_isAmount) := goodIn_app (goodIn_of _ (by decide +kernel)) ggX4_income_X4_isAmount
set_option maxRecDepth 20000 in
theorem ggX4_income_X4_goes : GoodIn wsX4_income wsX4_goes := goodIn_r _ [18, 19, 28, 29, 30, 31, 32, 33, 34, 35, 36, 37, 38, 39, 40, 41, 42, 43, 44, 45, 46, 47, 48, 49, 50, 51, 52] (by decide +kernel) (by decide +kernel)
set_option maxRecDepth 20000 in
theorem gX4_income_X4_goes : GoodIn wsX4_income (wsV RX4 116 RX4 yX4_goes wsX4_goes) := goodIn_app (goodIn_of _ (by decide +kernel)) ggX4_income_X4_goes
set_option maxRecDepth 20000 in
theorem ggX4_income_X4_enters : GoodIn wsX4_income wsX4_enters := goodIn_r _ [23, 24, 1, 25, 26, 27, 28, 29, 30, 31, 32, 33, 34, 35, 36, 37, 38, 39, 40, 41, 42, 43, 44, 45, 46, 47, 48, 49, 50, 51, 52] (by decide +kernel) (by decide +kernel)
set_option maxRecDepth 20000 in
theorem gX4_income_X4_enters : GoodIn wsX4_income (wsV RX4 137 RX4 yX4_enters wsX4_enters) := goodIn_app (goodIn_of _ (by decide +kernel)) ggX4_income_X4_enters
theorem dX4_income_0 : decode cX4_income 0 = .ok (.aload_n 0, 1) := by decide +kernel
theorem dX4_income_1 : decode cX4_income 1 = .ok (.aload_n 0, 1) := by decide +kernel
theorem dX4_income_2 : decode cX4_income 2 = .ok (.iload_n 1, 1) := by decide +kernel
theorem dX4_income_3 : decode cX4_income 3 = .ok (.invokevirtual 124, 3) := by decide +kernel
theorem dX4_income_6 : decode cX4_income 6 = .ok (.iload_n 2, 1) := by decide +kernel
theorem dX4_income_7 : decode cX4_income 7 = .ok (.invokestatic 134, 3) := by decide +kernel
theorem dX4_income_10 : decode cX4_income 10 = .ok (.aload_n 0, 1) := by decide +kernel
theorem dX4_income_11 : decode cX4_income 11 = .ok (.getfield 83, 3) := by decide +kernel
theorem dX4_income_14 : decode cX4_income 14 = .ok (.bipush 60, 2) := by decide +kernel
theorem dX4_income_16 : decode cX4_income 16 = .ok (.if_icmp .ge 7, 3) := by decide +kernel
theorem dX4_income_19 : decode cX4_income 19 = .ok (.iconst 1, 1) := by decide +kernel
theorem dX4_income_20 : decode cX4_income 20 = .ok (.goto 4, 3) := by decide +kernel
theorem dX4_income_23 : decode cX4_income 23 = .ok (.iconst 0, 1) := by decide +kernel
theorem dX4_income_24 : decode cX4_income 24 = .ok (.invokevirtual 116, 3) := by decide +kernel
theorem dX4_income_27 : decode cX4_income 27 = .ok (.ifCond .eq 13, 3) := by decide +kernel
theorem dX4_income_30 : decode cX4_income 30 = .ok (.aload_n 0, 1) := by decide +kernel
theorem dX4_income_31 : decode cX4_income 31 = .ok (.iload_n 1, 1) := by decide +kernel
theorem dX4_income_32 : decode cX4_income 32 = .ok (.iload_n 2, 1) := by decide +kernel
theorem dX4_income_33 : decode cX4_income 33 = .ok (.iconst 1, 1) := by decide +kernel
theorem dX4_income_34 : decode cX4_income 34 = .ok (.invokevirtual 137, 3) := by decide +kernel
theorem dX4_income_37 : decode cX4_income 37 = .ok (.goto 4, 3) := by decide +kernel
theorem dX4_income_40 : decode cX4_income 40 = .ok (.iconst 0, 1) := by decide +kernel
theorem dX4_income_41 : decode cX4_income 41 = .ok (.ireturn, 1) := by decide +kernel
set_option maxRecDepth 20000 in
theorem ggX4_move_X4_isVoucher : GoodIn wsX4_move wsX4_isVoucher := goodIn_r _ [8, 9, 10, 11, 7, 12, 23, 24, 25, 26, 27, 28, 29, 30, 31, 32, 33, 34, 35, 36, 37, 38, 39, 40, 41, 42, 43, 44, 45, 46, 47] (by decide +kernel) (by decide +kernel)
set_option maxRecDepth 20000 in
theorem gX4_move_X4_isVoucher : GoodIn wsX4_move (wsV RX4 141 RX4 yX4_isVoucher wsX4_isVoucher) := goodIn_app (goodIn_of _ (by decide +kernel)) ggX4_move_X4_isVoucher
set_option maxRecDepth 20000 in
theorem ggX4_move_X4_isWell : GoodIn wsX4_move wsX4_isWell := goodIn_r _ [16, 17, 10, 11, 7, 12, 23, 24, 25, 26, 27, 28, 29, 30, 31, 32, 33, 34, 35, 36, 37, 38, 39, 40, 41, 42, 43, 44, 45, 46, 47] (by decide +kernel) (by decide +kernel)
set_option maxRecDepth 20000 in
theorem gX4_move_X4_isWell : GoodIn wsX4_move (wsV RX4 124 RX4 yX4_isWell wsX4_isWell) := goodIn_app (goodIn_of _ (by decide +kernel)) ggX4_move_X4_isWell
set_option maxRecDepth 20000 in
theorem ggX4_move_X4_goes : GoodIn wsX4_move wsX4_goes := goodIn_r _ [21, 22, 23, 24, 25, 26, 27, 28, 29, 30, 31, 32, 33, 34, 35, 36, 37, 38, 39, 40, 41, 42, 43, 44, 45, 46, 47] (by decide +kernel) (by decide +kernel)
set_option maxRecDepth 20000 in
theorem gX4_move_X4_goes : GoodIn wsX4_move (wsV RX4 116 RX4 yX4_goes wsX4_goes) := goodIn_app (goodIn_of _ (by decide +kernel)) ggX4_move_X4_goes
theorem dX4_move_0 : decode cX4_move 0 = .ok (.aload_n 0, 1) := by decide +kernel
theorem dX4_move_1 : decode cX4_move 1 = .ok (.iload_n 1, 1) := by decide +kernel
theorem dX4_move_2 : decode cX4_move 2 = .ok (.invokevirtual 141, 3) := by decide +kernel
theorem dX4_move_5 : decode cX4_move 5 = .ok (.ifCond .eq 15, 3) := by decide +kernel
theorem dX4_move_8 : decode cX4_move 8 = .ok (.aload_n 0, 1) := by decide +kernel
theorem dX4_move_9 : decode cX4_move 9 = .ok (.iload_n 2, 1) := by decide +kernel
theorem dX4_move_10 : decode cX4_move 10 = .ok (.invokevirtual 124, 3) := by decide +kernel
theorem dX4_move_13 : decode cX4_move 13 = .ok (.ifCond .eq 7, 3) := by decide +kernel
theorem dX4_move_16 : decode cX4_move 16 = .ok (.iconst 1, 1) := by decide +kernel
theorem dX4_move_17 : decode cX4_move 17 = .ok (.goto 4, 3) := by decide +kernel
theorem dX4_move_20 : decode cX4_move 20 = .ok (.iconst 0, 1) := by decide +kernel
theorem dX4_move_21 : decode cX4_move 21 = .ok (.istore_n 3, 1) := by decide +kernel
theorem dX4_move_22 : decode cX4_move 22 = .ok (.aload_n 0, 1) := by decide +kernel
theorem dX4_move_23 : decode cX4_move 23 = .ok (.iload_n 3, 1) := by decide +kernel
theorem dX4_move_24 : decode cX4_move 24 = .ok (.iload_n 3, 1) := by decide +kernel
theorem dX4_move_25 : decode cX4_move 25 = .ok (.ifCond .eq 16, 3) := by decide +kernel
theorem dX4_move_28 : decode cX4_move 28 = .ok (.aload_n 0, 1) := by decide +kernel
theorem dX4_move_29 : decode cX4_move 29 = .ok (.getfield 33, 3) := by decide +kernel
theorem dX4_move_32 : decode cX4_move 32 = .ok (.iload_n 1, 1) := by decide +kernel
theorem dX4_move_33 : decode cX4_move 33 = .ok (.baload, 1) := by decide +kernel
theorem dX4_move_34 : decode cX4_move 34 = .ok (.ifCond .ne 7, 3) := by decide +kernel
theorem dX4_move_37 : decode cX4_move 37 = .ok (.iconst 1, 1) := by decide +kernel
theorem dX4_move_38 : decode cX4_move 38 = .ok (.goto 4, 3) := by decide +kernel
theorem dX4_move_41 : decode cX4_move 41 = .ok (.iconst 0, 1) := by decide +kernel
theorem dX4_move_42 : decode cX4_move 42 = .ok (.iconst 1, 1) := by decide +kernel
theorem dX4_move_43 : decode cX4_move 43 = .ok (.invokevirtual 116, 3) := by decide +kernel
theorem dX4_move_46 : decode cX4_move 46 = .ok (.ifCond .ne 5, 3) := by decide +kernel
theorem dX4_move_49 : decode cX4_move 49 = .ok (.iconst 0, 1) := by decide +kernel
theorem dX4_move_50 : decode cX4_move 50 = .ok (.ireturn, 1) := by decide +kernel
theorem dX4_move_51 : decode cX4_move 51 = .ok (.aload_n 0, 1) := by decide +kernel
theorem dX4_move_52 : decode cX4_move 52 = .ok (.getfield 27, 3) := by decide +kernel
theorem dX4_move_55 : decode cX4_move 55 = .ok (.iload_n 1, 1) := by decide +kernel
theorem dX4_move_56 : decode cX4_move 56 = .ok (.iaload, 1) := by decide +kernel
theorem dX4_move_57 : decode cX4_move 57 = .ok (.istore 4, 2) := by decide +kernel
theorem dX4_move_59 : decode cX4_move 59 = .ok (.aload_n 0, 1) := by decide +kernel
theorem dX4_move_60 : decode cX4_move 60 = .ok (.getfield 27, 3) := by decide +kernel
theorem dX4_move_63 : decode cX4_move 63 = .ok (.iload_n 1, 1) := by decide +kernel
theorem dX4_move_64 : decode cX4_move 64 = .ok (.iload_n 2, 1) := by decide +kernel
theorem dX4_move_65 : decode cX4_move 65 = .ok (.iastore, 1) := by decide +kernel
theorem dX4_move_66 : decode cX4_move 66 = .ok (.aload_n 0, 1) := by decide +kernel
theorem dX4_move_67 : decode cX4_move 67 = .ok (.getfield 20, 3) := by decide +kernel
theorem dX4_move_70 : decode cX4_move 70 = .ok (.iload_n 2, 1) := by decide +kernel
theorem dX4_move_71 : decode cX4_move 71 = .ok (.iconst 1, 1) := by decide +kernel
theorem dX4_move_72 : decode cX4_move 72 = .ok (.bastore, 1) := by decide +kernel
theorem dX4_move_73 : decode cX4_move 73 = .ok (.iload 4, 2) := by decide +kernel
theorem dX4_move_75 : decode cX4_move 75 = .ok (.ireturn, 1) := by decide +kernel
theorem dX4_vouchers_0 : decode cX4_vouchers 0 = .ok (.aload_n 0, 1) := by decide +kernel
theorem dX4_vouchers_1 : decode cX4_vouchers 1 = .ok (.iconst 0, 1) := by decide +kernel
theorem dX4_vouchers_2 : decode cX4_vouchers 2 = .ok (.putfield 73, 3) := by decide +kernel
theorem dX4_vouchers_5 : decode cX4_vouchers 5 = .ok (.aload_n 0, 1) := by decide +kernel
theorem dX4_vouchers_6 : decode cX4_vouchers 6 = .ok (.getfield 83, 3) := by decide +kernel
theorem dX4_vouchers_9 : decode cX4_vouchers 9 = .ok (.ireturn, 1) := by decide +kernel
set_option maxRecDepth 20000 in
theorem ggX4_wellOf_X4_isVoucher : GoodIn wsX4_wellOf wsX4_isVoucher := goodIn_r _ [6, 7, 8, 9, 5, 10, 16, 17, 18, 19, 20, 21, 22, 23, 24, 25, 26, 27, 28, 29, 30, 31, 32, 33, 34, 35, 36, 37, 38, 39, 40] (by decide +kernel) (by decide +kernel)
set_option maxRecDepth 20000 in
theorem gX4_wellOf_X4_isVoucher : GoodIn wsX4_wellOf (wsV RX4 141 RX4 yX4_isVoucher wsX4_isVoucher) := goodIn_app (goodIn_of _ (by decide +kernel)) ggX4_wellOf_X4_isVoucher
set_option maxRecDepth 20000 in
theorem ggX4_wellOf_X4_goes : GoodIn wsX4_wellOf wsX4_goes := goodIn_r _ [14, 15, 16, 17, 18, 19, 20, 21, 22, 23, 24, 25, 26, 27, 28, 29, 30, 31, 32, 33, 34, 35, 36, 37, 38, 39, 40] (by decide +kernel) (by decide +kernel)
set_option maxRecDepth 20000 in
theorem gX4_wellOf_X4_goes : GoodIn wsX4_wellOf (wsV RX4 116 RX4 yX4_goes wsX4_goes) := goodIn_app (goodIn_of _ (by decide +kernel)) ggX4_wellOf_X4_goes
theorem dX4_wellOf_0 : decode cX4_wellOf 0 = .ok (.aload_n 0, 1) := by decide +kernel
theorem dX4_wellOf_1 : decode cX4_wellOf 1 = .ok (.aload_n 0, 1) := by decide +kernel
theorem dX4_wellOf_2 : decode cX4_wellOf 2 = .ok (.iload_n 1, 1) := by decide +kernel
theorem dX4_wellOf_3 : decode cX4_wellOf 3 = .ok (.invokevirtual 141, 3) := by decide +kernel
theorem dX4_wellOf_6 : decode cX4_wellOf 6 = .ok (.iconst 1, 1) := by decide +kernel
theorem dX4_wellOf_7 : decode cX4_wellOf 7 = .ok (.iconst 1, 1) := by decide +kernel
theorem dX4_wellOf_8 : decode cX4_wellOf 8 = .ok (.invokevirtual 116, 3) := by decide +kernel
theorem dX4_wellOf_11 : decode cX4_wellOf 11 = .ok (.ifCond .eq 12, 3) := by decide +kernel
theorem dX4_wellOf_14 : decode cX4_wellOf 14 = .ok (.aload_n 0, 1) := by decide +kernel
theorem dX4_wellOf_15 : decode cX4_wellOf 15 = .ok (.getfield 27, 3) := by decide +kernel
theorem dX4_wellOf_18 : decode cX4_wellOf 18 = .ok (.iload_n 1, 1) := by decide +kernel
theorem dX4_wellOf_19 : decode cX4_wellOf 19 = .ok (.iaload, 1) := by decide +kernel
theorem dX4_wellOf_20 : decode cX4_wellOf 20 = .ok (.goto 4, 3) := by decide +kernel
theorem dX4_wellOf_23 : decode cX4_wellOf 23 = .ok (.iconst 0, 1) := by decide +kernel
theorem dX4_wellOf_24 : decode cX4_wellOf 24 = .ok (.ireturn, 1) := by decide +kernel
set_option maxRecDepth 20000 in
theorem ggX4_amountOf_X4_isVoucher : GoodIn wsX4_amountOf wsX4_isVoucher := goodIn_r _ [7, 8, 9, 10, 6, 11, 17, 18, 19, 20, 21, 22, 23, 24, 25, 26, 27, 28, 29, 30, 31, 32, 33, 34, 35, 36, 37, 38, 39, 40, 41] (by decide +kernel) (by decide +kernel)
set_option maxRecDepth 20000 in
theorem gX4_amountOf_X4_isVoucher : GoodIn wsX4_amountOf (wsV RX4 141 RX4 yX4_isVoucher wsX4_isVoucher) := goodIn_app (goodIn_of _ (by decide +kernel)) ggX4_amountOf_X4_isVoucher
set_option maxRecDepth 20000 in
theorem ggX4_amountOf_X4_goes : GoodIn wsX4_amountOf wsX4_goes := goodIn_r _ [15, 16, 17, 18, 19, 20, 21, 22, 23, 24, 25, 26, 27, 28, 29, 30, 31, 32, 33, 34, 35, 36, 37, 38, 39, 40, 41] (by decide +kernel) (by decide +kernel)
set_option maxRecDepth 20000 in
theorem gX4_amountOf_X4_goes : GoodIn wsX4_amountOf (wsV RX4 116 RX4 yX4_goes wsX4_goes) := goodIn_app (goodIn_of _ (by decide +kernel)) ggX4_amountOf_X4_goes
theorem dX4_amountOf_0 : decode cX4_amountOf 0 = .ok (.aload_n 0, 1) := by decide +kernel
theorem dX4_amountOf_1 : decode cX4_amountOf 1 = .ok (.aload_n 0, 1) := by decide +kernel
theorem dX4_amountOf_2 : decode cX4_amountOf 2 = .ok (.iload_n 1, 1) := by decide +kernel
theorem dX4_amountOf_3 : decode cX4_amountOf 3 = .ok (.invokevirtual 141, 3) := by decide +kernel
theorem dX4_amountOf_6 : decode cX4_amountOf 6 = .ok (.iconst 1, 1) := by decide +kernel
theorem dX4_amountOf_7 : decode cX4_amountOf 7 = .ok (.iconst 1, 1) := by decide +kernel
theorem dX4_amountOf_8 : decode cX4_amountOf 8 = .ok (.invokevirtual 116, 3) := by decide +kernel
theorem dX4_amountOf_11 : decode cX4_amountOf 11 = .ok (.ifCond .eq 31, 3) := by decide +kernel
theorem dX4_amountOf_14 : decode cX4_amountOf 14 = .ok (.aload_n 0, 1) := by decide +kernel
theorem dX4_amountOf_15 : decode cX4_amountOf 15 = .ok (.getfield 33, 3) := by decide +kernel
theorem dX4_amountOf_18 : decode cX4_amountOf 18 = .ok (.iload_n 1, 1) := by decide +kernel
theorem dX4_amountOf_19 : decode cX4_amountOf 19 = .ok (.baload, 1) := by decide +kernel
theorem dX4_amountOf_20 : decode cX4_amountOf 20 = .ok (.ifCond .eq 13, 3) := by decide +kernel
theorem dX4_amountOf_23 : decode cX4_amountOf 23 = .ok (.aload_n 0, 1) := by decide +kernel
theorem dX4_amountOf_24 : decode cX4_amountOf 24 = .ok (.getfield 30, 3) := by decide +kernel
theorem dX4_amountOf_27 : decode cX4_amountOf 27 = .ok (.iload_n 1, 1) := by decide +kernel
theorem dX4_amountOf_28 : decode cX4_amountOf 28 = .ok (.iaload, 1) := by decide +kernel
theorem dX4_amountOf_29 : decode cX4_amountOf 29 = .ok (.ineg, 1) := by decide +kernel
theorem dX4_amountOf_30 : decode cX4_amountOf 30 = .ok (.goto 13, 3) := by decide +kernel
theorem dX4_amountOf_33 : decode cX4_amountOf 33 = .ok (.aload_n 0, 1) := by decide +kernel
theorem dX4_amountOf_34 : decode cX4_amountOf 34 = .ok (.getfield 30, 3) := by decide +kernel
theorem dX4_amountOf_37 : decode cX4_amountOf 37 = .ok (.iload_n 1, 1) := by decide +kernel
theorem dX4_amountOf_38 : decode cX4_amountOf 38 = .ok (.iaload, 1) := by decide +kernel
theorem dX4_amountOf_39 : decode cX4_amountOf 39 = .ok (.goto 4, 3) := by decide +kernel
theorem dX4_amountOf_42 : decode cX4_amountOf 42 = .ok (.iconst 0, 1) := by decide +kernel
theorem dX4_amountOf_43 : decode cX4_amountOf 43 = .ok (.ireturn, 1) := by decide +kernel
set_option maxRecDepth 20000 in
theorem ggX4_accounts_X4_isWell : GoodIn wsX4_accounts wsX4_isWell := goodIn_r _ [5, 6, 7, 8, 4, 9, 60, 61, 62, 63, 64, 65, 66, 67, 68, 69, 70, 71, 72, 73, 74, 75, 76, 77, 78, 79, 80, 81, 82, 83, 84] (by decide +kernel) (by decide +kernel)
set_option maxRecDepth 20000 in
theorem gX4_accounts_X4_isWell : GoodIn wsX4_accounts (wsV RX4 124 RX4 yX4_isWell wsX4_isWell) := goodIn_app (goodIn_of _ (by decide +kernel)) ggX4_accounts_X4_isWell
set_option maxRecDepth 20000 in
theorem ggX4_accounts_X4_isPartner : GoodIn wsX4_accounts wsX4_isPartner := goodIn_r _ [12, 7, 8, 4, 9] (by decide +kernel) (by decide +kernel)
set_option maxRecDepth 20000 in
theorem gX4_accounts_X4_isPartner : GoodIn wsX4_accounts (va_wsS RX4 127 yX4_isPartner wsX4_isPartner) := goodIn_app (goodIn_of _ (by decide +kernel)) ggX4_accounts_X4_isPartner
set_option maxRecDepth 20000 in
theorem ggX4_accounts_X4_goes : GoodIn wsX4_accounts wsX4_goes := goodIn_r _ [16, 17, 60, 61, 62, 63, 64, 65, 66, 67, 68, 69, 70, 71, 72, 73, 74, 75, 76, 77, 78, 79, 80, 81, 82, 83, 84] (by decide +kernel) (by decide +kernel)
set_option maxRecDepth 20000 in
theorem gX4_accounts_X4_goes : GoodIn wsX4_accounts (wsV RX4 116 RX4 yX4_goes wsX4_goes) := goodIn_app (goodIn_of _ (by decide +kernel)) ggX4_accounts_X4_goes
set_option maxRecDepth 20000 in
theorem ggX4_accounts_X4_works : GoodIn wsX4_accounts wsX4_works := goodIn_r _ [21, 22, 23, 24, 25, 26, 27, 28, 29, 30, 31, 32, 33, 34, 35, 4, 36, 37, 38, 39, 40, 41, 42, 43, 44, 45, 46, 47, 48, 49, 50, 51, 52, 53, 54, 55, 56, 57, 58, 59, 60, 61, 62, 63, 64, 65, 66, 67, 68, 69, 70, 71, 72, 73, 74, 75, 76, 77, 78, 79, 80, 81, 82, 83, 84] (by decide +kernel) (by decide +kernel)
set_option maxRecDepth 20000 in
theorem gX4_accounts_X4_works : GoodIn wsX4_accounts (wsV RX4 144 RX4 yX4_works wsX4_works) := goodIn_app (goodIn_of _ (by decide +kernel)) ggX4_accounts_X4_works
theorem dX4_accounts_0 : decode cX4_accounts 0 = .ok (.aload_n 0, 1) := by decide +kernel
theorem dX4_accounts_1 : decode cX4_accounts 1 = .ok (.aload_n 0, 1) := by decide +kernel
theorem dX4_accounts_2 : decode cX4_accounts 2 = .ok (.iload_n 1, 1) := by decide +kernel
theorem dX4_accounts_3 : decode cX4_accounts 3 = .ok (.invokevirtual 124, 3) := by decide +kernel
theorem dX4_accounts_6 : decode cX4_accounts 6 = .ok (.ifCond .eq 14, 3) := by decide +kernel
theorem dX4_accounts_9 : decode cX4_accounts 9 = .ok (.iload_n 2, 1) := by decide +kernel
theorem dX4_accounts_10 : decode cX4_accounts 10 = .ok (.invokestatic 127, 3) := by decide +kernel
theorem dX4_accounts_13 : decode cX4_accounts 13 = .ok (.ifCond .eq 7, 3) := by decide +kernel
theorem dX4_accounts_16 : decode cX4_accounts 16 = .ok (.iconst 1, 1) := by decide +kernel
theorem dX4_accounts_17 : decode cX4_accounts 17 = .ok (.goto 4, 3) := by decide +kernel
theorem dX4_accounts_20 : decode cX4_accounts 20 = .ok (.iconst 0, 1) := by decide +kernel
theorem dX4_accounts_21 : decode cX4_accounts 21 = .ok (.iconst 1, 1) := by decide +kernel
theorem dX4_accounts_22 : decode cX4_accounts 22 = .ok (.iconst 1, 1) := by decide +kernel
theorem dX4_accounts_23 : decode cX4_accounts 23 = .ok (.invokevirtual 116, 3) := by decide +kernel
theorem dX4_accounts_26 : decode cX4_accounts 26 = .ok (.istore_n 3, 1) := by decide +kernel
theorem dX4_accounts_27 : decode cX4_accounts 27 = .ok (.iload_n 3, 1) := by decide +kernel
theorem dX4_accounts_28 : decode cX4_accounts 28 = .ok (.ifCond .eq 8, 3) := by decide +kernel
theorem dX4_accounts_31 : decode cX4_accounts 31 = .ok (.aload_n 0, 1) := by decide +kernel
theorem dX4_accounts_32 : decode cX4_accounts 32 = .ok (.iload_n 1, 1) := by decide +kernel
theorem dX4_accounts_33 : decode cX4_accounts 33 = .ok (.invokevirtual 144, 3) := by decide +kernel
theorem dX4_accounts_36 : decode cX4_accounts 36 = .ok (.iload_n 3, 1) := by decide +kernel
theorem dX4_accounts_37 : decode cX4_accounts 37 = .ok (.ireturn, 1) := by decide +kernel
set_option maxRecDepth 20000 in
theorem ggX4_isIn_X4_accounts : GoodIn wsX4_isIn wsX4_accounts := goodIn_r _ [6, 7, 8, 9, 5, 10, 11, 12, 13, 14, 15, 16, 17, 18, 19, 20, 21, 22, 23, 24, 25, 26, 1, 27, 28, 29, 30, 31, 32, 33, 34, 35, 36, 37, 38, 39, 40, 41, 42, 43, 44, 45, 46, 47, 48, 49, 50, 51, 52, 53, 54, 55, 56, 57, 58, 59, 60, 61, 62, 63, 64, 65, 66, 67, 68, 69, 70, 71, 72, 73, 74, 75, 76, 77, 78, 79, 80, 81, 82, 83, 84, 85, 86, 87, 88] (by decide +kernel) (by decide +kernel)
set_option maxRecDepth 20000 in
theorem gX4_isIn_X4_accounts : GoodIn wsX4_isIn (wsV RX4 147 RX4 yX4_accounts wsX4_accounts) := goodIn_app (goodIn_of _ (by decide +kernel)) ggX4_isIn_X4_accounts
theorem dX4_isIn_0 : decode cX4_isIn 0 = .ok (.aload_n 0, 1) := by decide +kernel
theorem dX4_isIn_1 : decode cX4_isIn 1 = .ok (.iload_n 1, 1) := by decide +kernel
theorem dX4_isIn_2 : decode cX4_isIn 2 = .ok (.iload_n 2, 1) := by decide +kernel
theorem dX4_isIn_3 : decode cX4_isIn 3 = .ok (.invokevirtual 147, 3) := by decide +kernel
theorem dX4_isIn_6 : decode cX4_isIn 6 = .ok (.ifCond .eq 16, 3) := by decide +kernel
theorem dX4_isIn_9 : decode cX4_isIn 9 = .ok (.aload_n 0, 1) := by decide +kernel
theorem dX4_isIn_10 : decode cX4_isIn 10 = .ok (.getfield 45, 3) := by decide +kernel
theorem dX4_isIn_13 : decode cX4_isIn 13 = .ok (.iload_n 2, 1) := by decide +kernel
theorem dX4_isIn_14 : decode cX4_isIn 14 = .ok (.baload, 1) := by decide +kernel
theorem dX4_isIn_15 : decode cX4_isIn 15 = .ok (.ifCond .eq 7, 3) := by decide +kernel
theorem dX4_isIn_18 : decode cX4_isIn 18 = .ok (.iconst 1, 1) := by decide +kernel
theorem dX4_isIn_19 : decode cX4_isIn 19 = .ok (.goto 4, 3) := by decide +kernel
theorem dX4_isIn_22 : decode cX4_isIn 22 = .ok (.iconst 0, 1) := by decide +kernel
theorem dX4_isIn_23 : decode cX4_isIn 23 = .ok (.ireturn, 1) := by decide +kernel
set_option maxRecDepth 20000 in
theorem ggX4_toEarn_X4_accounts : GoodIn wsX4_toEarn wsX4_accounts := goodIn_r _ [6, 7, 8, 9, 5, 10, 11, 12, 13, 14, 15, 16, 17, 18, 19, 20, 21, 22, 23, 24, 25, 26, 27, 28, 29, 1, 30, 31, 32, 33, 34, 35, 36, 37, 38, 39, 40, 41, 42, 43, 44, 45, 46, 47, 48, 49, 50, 51, 52, 53, 54, 55, 56, 57, 58, 59, 60, 61, 62, 63, 64, 65, 66, 67, 68, 69, 70, 71, 72, 73, 74, 75, 76, 77, 78, 79, 80, 81, 82, 83, 84, 85, 86, 87, 88] (by decide +kernel) (by decide +kernel)
set_option maxRecDepth 20000 in
theorem gX4_toEarn_X4_accounts : GoodIn wsX4_toEarn (wsV RX4 147 RX4 yX4_accounts wsX4_accounts) := goodIn_app (goodIn_of _ (by decide +kernel)) ggX4_toEarn_X4_accounts
theorem dX4_toEarn_0 : decode cX4_toEarn 0 = .ok (.aload_n 0, 1) := by decide +kernel
theorem dX4_toEarn_1 : decode cX4_toEarn 1 = .ok (.iload_n 1, 1) := by decide +kernel
theorem dX4_toEarn_2 : decode cX4_toEarn 2 = .ok (.iload_n 2, 1) := by decide +kernel
theorem dX4_toEarn_3 : decode cX4_toEarn 3 = .ok (.invokevirtual 147, 3) := by decide +kernel
theorem dX4_toEarn_6 : decode cX4_toEarn 6 = .ok (.ifCond .eq 12, 3) := by decide +kernel
theorem dX4_toEarn_9 : decode cX4_toEarn 9 = .ok (.aload_n 0, 1) := by decide +kernel
theorem dX4_toEarn_10 : decode cX4_toEarn 10 = .ok (.getfield 48, 3) := by decide +kernel
theorem dX4_toEarn_13 : decode cX4_toEarn 13 = .ok (.iload_n 2, 1) := by decide +kernel
theorem dX4_toEarn_14 : decode cX4_toEarn 14 = .ok (.laload, 1) := by decide +kernel
theorem dX4_toEarn_15 : decode cX4_toEarn 15 = .ok (.goto 4, 3) := by decide +kernel
theorem dX4_toEarn_18 : decode cX4_toEarn 18 = .ok (.lconst 0, 1) := by decide +kernel
theorem dX4_toEarn_19 : decode cX4_toEarn 19 = .ok (.lreturn, 1) := by decide +kernel
set_option maxRecDepth 20000 in
theorem ggX4_backAt_X4_accounts : GoodIn wsX4_backAt wsX4_accounts := goodIn_r _ [6, 7, 8, 9, 5, 10, 11, 12, 13, 14, 15, 16, 17, 18, 19, 20, 21, 22, 23, 24, 25, 26, 27, 28, 29, 30, 1, 31, 32, 33, 34, 35, 36, 37, 38, 39, 40, 41, 42, 43, 44, 45, 46, 47, 48, 49, 50, 51, 52, 53, 54, 55, 56, 57, 58, 59, 60, 61, 62, 63, 64, 65, 66, 67, 68, 69, 70, 71, 72, 73, 74, 75, 76, 77, 78, 79, 80, 81, 82, 83, 84, 85, 86, 87, 88] (by decide +kernel) (by decide +kernel)
set_option maxRecDepth 20000 in
theorem gX4_backAt_X4_accounts : GoodIn wsX4_backAt (wsV RX4 147 RX4 yX4_accounts wsX4_accounts) := goodIn_app (goodIn_of _ (by decide +kernel)) ggX4_backAt_X4_accounts
theorem dX4_backAt_0 : decode cX4_backAt 0 = .ok (.aload_n 0, 1) := by decide +kernel
theorem dX4_backAt_1 : decode cX4_backAt 1 = .ok (.iload_n 1, 1) := by decide +kernel
theorem dX4_backAt_2 : decode cX4_backAt 2 = .ok (.iload_n 2, 1) := by decide +kernel
theorem dX4_backAt_3 : decode cX4_backAt 3 = .ok (.invokevirtual 147, 3) := by decide +kernel
theorem dX4_backAt_6 : decode cX4_backAt 6 = .ok (.ifCond .eq 12, 3) := by decide +kernel
theorem dX4_backAt_9 : decode cX4_backAt 9 = .ok (.aload_n 0, 1) := by decide +kernel
theorem dX4_backAt_10 : decode cX4_backAt 10 = .ok (.getfield 52, 3) := by decide +kernel
theorem dX4_backAt_13 : decode cX4_backAt 13 = .ok (.iload_n 2, 1) := by decide +kernel
theorem dX4_backAt_14 : decode cX4_backAt 14 = .ok (.iaload, 1) := by decide +kernel
theorem dX4_backAt_15 : decode cX4_backAt 15 = .ok (.goto 4, 3) := by decide +kernel
theorem dX4_backAt_18 : decode cX4_backAt 18 = .ok (.iconst 0, 1) := by decide +kernel
theorem dX4_backAt_19 : decode cX4_backAt 19 = .ok (.ireturn, 1) := by decide +kernel
set_option maxRecDepth 20000 in
theorem ggX4_charged_X4_accounts : GoodIn wsX4_charged wsX4_accounts := goodIn_r _ [6, 7, 8, 9, 5, 10, 11, 12, 13, 14, 15, 16, 17, 18, 19, 20, 21, 22, 23, 24, 25, 26, 27, 28, 29, 30, 31, 1, 32, 33, 34, 35, 36, 37, 38, 39, 40, 41, 42, 43, 44, 45, 46, 47, 48, 49, 50, 51, 52, 53, 54, 55, 56, 57, 58, 59, 60, 61, 62, 63, 64, 65, 66, 67, 68, 69, 70, 71, 72, 73, 74, 75, 76, 77, 78, 79, 80, 81, 82, 83, 84, 85, 86, 87, 88] (by decide +kernel) (by decide +kernel)
set_option maxRecDepth 20000 in
theorem gX4_charged_X4_accounts : GoodIn wsX4_charged (wsV RX4 147 RX4 yX4_accounts wsX4_accounts) := goodIn_app (goodIn_of _ (by decide +kernel)) ggX4_charged_X4_accounts
theorem dX4_charged_0 : decode cX4_charged 0 = .ok (.aload_n 0, 1) := by decide +kernel
theorem dX4_charged_1 : decode cX4_charged 1 = .ok (.iload_n 1, 1) := by decide +kernel
theorem dX4_charged_2 : decode cX4_charged 2 = .ok (.iload_n 2, 1) := by decide +kernel
theorem dX4_charged_3 : decode cX4_charged 3 = .ok (.invokevirtual 147, 3) := by decide +kernel
theorem dX4_charged_6 : decode cX4_charged 6 = .ok (.ifCond .eq 12, 3) := by decide +kernel
theorem dX4_charged_9 : decode cX4_charged 9 = .ok (.aload_n 0, 1) := by decide +kernel
theorem dX4_charged_10 : decode cX4_charged 10 = .ok (.getfield 55, 3) := by decide +kernel
theorem dX4_charged_13 : decode cX4_charged 13 = .ok (.iload_n 2, 1) := by decide +kernel
theorem dX4_charged_14 : decode cX4_charged 14 = .ok (.iaload, 1) := by decide +kernel
theorem dX4_charged_15 : decode cX4_charged 15 = .ok (.goto 4, 3) := by decide +kernel
theorem dX4_charged_18 : decode cX4_charged 18 = .ok (.iconst 0, 1) := by decide +kernel
theorem dX4_charged_19 : decode cX4_charged 19 = .ok (.ireturn, 1) := by decide +kernel
set_option maxRecDepth 20000 in
theorem ggX4_credited_X4_accounts : GoodIn wsX4_credited wsX4_accounts := goodIn_r _ [6, 7, 8, 9, 5, 10, 11, 12, 13, 14, 15, 16, 17, 18, 19, 20, 21, 22, 23, 24, 25, 26, 27, 28, 29, 30, 31, 32, 1, 33, 34, 35, 36, 37, 38, 39, 40, 41, 42, 43, 44, 45, 46, 47, 48, 49, 50, 51, 52, 53, 54, 55, 56, 57, 58, 59, 60, 61, 62, 63, 64, 65, 66, 67, 68, 69, 70, 71, 72, 73, 74, 75, 76, 77, 78, 79, 80, 81, 82, 83, 84, 85, 86, 87, 88] (by decide +kernel) (by decide +kernel)
set_option maxRecDepth 20000 in
theorem gX4_credited_X4_accounts : GoodIn wsX4_credited (wsV RX4 147 RX4 yX4_accounts wsX4_accounts) := goodIn_app (goodIn_of _ (by decide +kernel)) ggX4_credited_X4_accounts
theorem dX4_credited_0 : decode cX4_credited 0 = .ok (.aload_n 0, 1) := by decide +kernel
theorem dX4_credited_1 : decode cX4_credited 1 = .ok (.iload_n 1, 1) := by decide +kernel
theorem dX4_credited_2 : decode cX4_credited 2 = .ok (.iload_n 2, 1) := by decide +kernel
theorem dX4_credited_3 : decode cX4_credited 3 = .ok (.invokevirtual 147, 3) := by decide +kernel
theorem dX4_credited_6 : decode cX4_credited 6 = .ok (.ifCond .eq 12, 3) := by decide +kernel
theorem dX4_credited_9 : decode cX4_credited 9 = .ok (.aload_n 0, 1) := by decide +kernel
theorem dX4_credited_10 : decode cX4_credited 10 = .ok (.getfield 58, 3) := by decide +kernel
theorem dX4_credited_13 : decode cX4_credited 13 = .ok (.iload_n 2, 1) := by decide +kernel
theorem dX4_credited_14 : decode cX4_credited 14 = .ok (.iaload, 1) := by decide +kernel
theorem dX4_credited_15 : decode cX4_credited 15 = .ok (.goto 4, 3) := by decide +kernel
theorem dX4_credited_18 : decode cX4_credited 18 = .ok (.iconst 0, 1) := by decide +kernel
theorem dX4_credited_19 : decode cX4_credited 19 = .ok (.ireturn, 1) := by decide +kernel
set_option maxRecDepth 20000 in
theorem ggX4_weighs_X4_works : GoodIn wsX4_weighs wsX4_works := goodIn_r _ [6, 7, 8, 9, 10, 11, 1, 12, 13, 14, 15, 16, 17, 18, 19, 5, 20, 21, 22, 23, 24, 25, 26, 27, 28, 29, 30, 31, 32, 33, 34, 35, 36, 37, 38, 39, 40, 41, 42, 43, 44, 45, 46, 47, 48, 49, 50, 51, 52, 53, 54, 55, 56, 57, 58, 59, 60, 61, 62, 63, 64, 65, 66, 67, 68] (by decide +kernel) (by decide +kernel)
set_option maxRecDepth 20000 in
theorem gX4_weighs_X4_works : GoodIn wsX4_weighs (wsV RX4 144 RX4 yX4_works wsX4_works) := goodIn_app (goodIn_of _ (by decide +kernel)) ggX4_weighs_X4_works
set_option maxRecDepth 20000 in
theorem ggX4_weighs_X4_costs : GoodIn wsX4_weighs wsX4_costs := goodIn_r _ [40, 8, 7, 21, 10, 41, 42, 43, 1, 22, 23, 24, 25, 5, 26, 27, 28, 29, 30, 31, 32, 33, 34, 35, 36, 44, 45, 46, 47, 48, 49, 50, 51, 52, 53, 54, 55, 56, 57, 58, 59, 60, 61, 62, 63, 64, 65, 66, 67, 68] (by decide +kernel) (by decide +kernel)
set_option maxRecDepth 20000 in
theorem gX4_weighs_X4_costs : GoodIn wsX4_weighs (wsV RX4 109 RX4 yX4_costs wsX4_costs) := goodIn_app (goodIn_of _ (by decide +kernel)) ggX4_weighs_X4_costs
theorem dX4_weighs_0 : decode cX4_weighs 0 = .ok (.aload_n 0, 1) := by decide +kernel
theorem dX4_weighs_1 : decode cX4_weighs 1 = .ok (.iload_n 1, 1) := by decide +kernel
theorem dX4_weighs_2 : decode cX4_weighs 2 = .ok (.invokevirtual 144, 3) := by decide +kernel
theorem dX4_weighs_5 : decode cX4_weighs 5 = .ok (.iconst 0, 1) := by decide +kernel
theorem dX4_weighs_6 : decode cX4_weighs 6 = .ok (.istore_n 2, 1) := by decide +kernel
theorem dX4_weighs_7 : decode cX4_weighs 7 = .ok (.iload_n 2, 1) := by decide +kernel
theorem dX4_weighs_8 : decode cX4_weighs 8 = .ok (.iconst 5, 1) := by decide +kernel
theorem dX4_weighs_9 : decode cX4_weighs 9 = .ok (.if_icmp .ge 16, 3) := by decide +kernel
theorem dX4_weighs_12 : decode cX4_weighs 12 = .ok (.aload_n 0, 1) := by decide +kernel
theorem dX4_weighs_13 : decode cX4_weighs 13 = .ok (.getfield 55, 3) := by decide +kernel
theorem dX4_weighs_16 : decode cX4_weighs 16 = .ok (.iload_n 2, 1) := by decide +kernel
theorem dX4_weighs_17 : decode cX4_weighs 17 = .ok (.iconst 0, 1) := by decide +kernel
theorem dX4_weighs_18 : decode cX4_weighs 18 = .ok (.iastore, 1) := by decide +kernel
theorem dX4_weighs_19 : decode cX4_weighs 19 = .ok (.iinc 2 1, 3) := by decide +kernel
theorem dX4_weighs_22 : decode cX4_weighs 22 = .ok (.goto (-15), 3) := by decide +kernel
theorem dX4_weighs_25 : decode cX4_weighs 25 = .ok (.aload_n 0, 1) := by decide +kernel
theorem dX4_weighs_26 : decode cX4_weighs 26 = .ok (.iload_n 1, 1) := by decide +kernel
theorem dX4_weighs_27 : decode cX4_weighs 27 = .ok (.sipush 10000, 3) := by decide +kernel
theorem dX4_weighs_30 : decode cX4_weighs 30 = .ok (.invokevirtual 109, 3) := by decide +kernel
theorem dX4_weighs_33 : decode cX4_weighs 33 = .ok (.return_, 1) := by decide +kernel
set_option maxRecDepth 20000 in
theorem ggX4_weight_X4_isWell : GoodIn wsX4_weight wsX4_isWell := goodIn_r _ [6, 7, 8, 9, 5, 10, 64, 65, 66, 67, 68, 69, 70, 71, 72, 73, 74, 75, 76, 77, 78, 79, 80, 81, 82, 83, 84, 85, 86, 87, 88] (by decide +kernel) (by decide +kernel)
set_option maxRecDepth 20000 in
theorem gX4_weight_X4_isWell : GoodIn wsX4_weight (wsV RX4 124 RX4 yX4_isWell wsX4_isWell) := goodIn_app (goodIn_of _ (by decide +kernel)) ggX4_weight_X4_isWell
set_option maxRecDepth 20000 in
theorem ggX4_weight_X4_isPartner : GoodIn wsX4_weight wsX4_isPartner := goodIn_r _ [13, 8, 9, 5, 10] (by decide +kernel) (by decide +kernel)
set_option maxRecDepth 20000 in
theorem gX4_weight_X4_isPartner : GoodIn wsX4_weight (va_wsS RX4 127 yX4_isPartner wsX4_isPartner) := goodIn_app (goodIn_of _ (by decide +kernel)) ggX4_weight_X4_isPartner
set_option maxRecDepth 20000 in
theorem ggX4_weight_X4_goes : GoodIn wsX4_weight wsX4_goes := goodIn_r _ [17, 18, 64, 65, 66, 67, 68, 69, 70, 71, 72, 73, 74, 75, 76, 77, 78, 79, 80, 81, 82, 83, 84, 85, 86, 87, 88] (by decide +kernel) (by decide +kernel)
set_option maxRecDepth 20000 in
theorem gX4_weight_X4_goes : GoodIn wsX4_weight (wsV RX4 116 RX4 yX4_goes wsX4_goes) := goodIn_app (goodIn_of _ (by decide +kernel)) ggX4_weight_X4_goes
set_option maxRecDepth 20000 in
theorem ggX4_weight_X4_weighs : GoodIn wsX4_weight wsX4_weighs := goodIn_r _ [22, 1, 23, 24, 25, 5, 26, 27, 28, 29, 30, 31, 32, 33, 34, 35, 36, 37, 38, 39, 40, 41, 42, 43, 44, 45, 46, 47, 48, 49, 50, 51, 52, 53, 54, 55, 56, 57, 58, 59, 60, 61, 62, 63, 64, 65, 66, 67, 68, 69, 70, 71, 72, 73, 74, 75, 76, 77, 78, 79, 80, 81, 82, 83, 84, 85, 86, 87, 88] (by decide +kernel) (by decide +kernel)
set_option maxRecDepth 20000 in
theorem gX4_weight_X4_weighs : GoodIn wsX4_weight (wsV RX4 150 RX4 yX4_weighs wsX4_weighs) := goodIn_app (goodIn_of _ (by decide +kernel)) ggX4_weight_X4_weighs
theorem dX4_weight_0 : decode cX4_weight 0 = .ok (.aload_n 0, 1) := by decide +kernel
theorem dX4_weight_1 : decode cX4_weight 1 = .ok (.aload_n 0, 1) := by decide +kernel
theorem dX4_weight_2 : decode cX4_weight 2 = .ok (.iload_n 1, 1) := by decide +kernel
theorem dX4_weight_3 : decode cX4_weight 3 = .ok (.invokevirtual 124, 3) := by decide +kernel
theorem dX4_weight_6 : decode cX4_weight 6 = .ok (.ifCond .eq 14, 3) := by decide +kernel
theorem dX4_weight_9 : decode cX4_weight 9 = .ok (.iload_n 2, 1) := by decide +kernel
theorem dX4_weight_10 : decode cX4_weight 10 = .ok (.invokestatic 127, 3) := by decide +kernel
theorem dX4_weight_13 : decode cX4_weight 13 = .ok (.ifCond .eq 7, 3) := by decide +kernel
theorem dX4_weight_16 : decode cX4_weight 16 = .ok (.iconst 1, 1) := by decide +kernel
theorem dX4_weight_17 : decode cX4_weight 17 = .ok (.goto 4, 3) := by decide +kernel
theorem dX4_weight_20 : decode cX4_weight 20 = .ok (.iconst 0, 1) := by decide +kernel
theorem dX4_weight_21 : decode cX4_weight 21 = .ok (.iconst 1, 1) := by decide +kernel
theorem dX4_weight_22 : decode cX4_weight 22 = .ok (.iconst 1, 1) := by decide +kernel
theorem dX4_weight_23 : decode cX4_weight 23 = .ok (.invokevirtual 116, 3) := by decide +kernel
theorem dX4_weight_26 : decode cX4_weight 26 = .ok (.ifCond .ne 5, 3) := by decide +kernel
theorem dX4_weight_29 : decode cX4_weight 29 = .ok (.iconst 0, 1) := by decide +kernel
theorem dX4_weight_30 : decode cX4_weight 30 = .ok (.ireturn, 1) := by decide +kernel
theorem dX4_weight_31 : decode cX4_weight 31 = .ok (.aload_n 0, 1) := by decide +kernel
theorem dX4_weight_32 : decode cX4_weight 32 = .ok (.iload_n 1, 1) := by decide +kernel
theorem dX4_weight_33 : decode cX4_weight 33 = .ok (.invokevirtual 150, 3) := by decide +kernel
theorem dX4_weight_36 : decode cX4_weight 36 = .ok (.aload_n 0, 1) := by decide +kernel
theorem dX4_weight_37 : decode cX4_weight 37 = .ok (.getfield 55, 3) := by decide +kernel
theorem dX4_weight_40 : decode cX4_weight 40 = .ok (.iload_n 2, 1) := by decide +kernel
theorem dX4_weight_41 : decode cX4_weight 41 = .ok (.iaload, 1) := by decide +kernel
theorem dX4_weight_42 : decode cX4_weight 42 = .ok (.ireturn, 1) := by decide +kernel
set_option maxRecDepth 20000 in
theorem ggX4_call_X4_isWell : GoodIn wsX4_call wsX4_isWell := goodIn_r _ [10, 11, 12, 13, 9, 14, 67, 68, 69, 70, 71, 72, 73, 74, 75, 76, 77, 78, 79, 80, 81, 82, 83, 84, 85, 86, 87, 88, 89, 90, 91] (by decide +kernel) (by decide +kernel)
set_option maxRecDepth 20000 in
theorem gX4_call_X4_isWell : GoodIn wsX4_call (wsV RX4 124 RX4 yX4_isWell wsX4_isWell) := goodIn_app (goodIn_of _ (by decide +kernel)) ggX4_call_X4_isWell
set_option maxRecDepth 20000 in
theorem ggX4_call_X4_isAmount : GoodIn wsX4_call wsX4_isAmount := goodIn_r _ [17, 18, 12, 13, 9, 14] (by decide +kernel) (by decide +kernel)
set_option maxRecDepth 20000 in
theorem gX4_call_X4_isAmount : GoodIn wsX4_call (va_wsS RX4 134 yX4_isAmount wsX4_isAmount) := goodIn_app (goodIn_of _ (by decide +kernel)) ggX4_call_X4_isAmount
set_option maxRecDepth 20000 in
theorem ggX4_call_X4_goes : GoodIn wsX4_call wsX4_goes := goodIn_r _ [22, 23, 67, 68, 69, 70, 71, 72, 73, 74, 75, 76, 77, 78, 79, 80, 81, 82, 83, 84, 85, 86, 87, 88, 89, 90, 91] (by decide +kernel) (by decide +kernel)
set_option maxRecDepth 20000 in
theorem gX4_call_X4_goes : GoodIn wsX4_call (wsV RX4 116 RX4 yX4_goes wsX4_goes) := goodIn_app (goodIn_of _ (by decide +kernel)) ggX4_call_X4_goes
set_option maxRecDepth 20000 in
theorem ggX4_call_X4_weighs : GoodIn wsX4_call wsX4_weighs := goodIn_r _ [27, 3, 28, 29, 30, 9, 31, 32, 33, 34, 35, 36, 37, 38, 39, 40, 41, 42, 43, 44, 45, 46, 5, 47, 48, 49, 50, 2, 51, 52, 53, 54, 55, 56, 57, 58, 59, 60, 61, 62, 63, 64, 65, 66, 67, 68, 69, 70, 71, 72, 73, 74, 75, 76, 77, 78, 79, 80, 81, 82, 83, 84, 85, 86, 87, 88, 89, 90, 91] (by decide +kernel) (by decide +kernel)
set_option maxRecDepth 20000 in
theorem gX4_call_X4_weighs : GoodIn wsX4_call (wsV RX4 150 RX4 yX4_weighs wsX4_weighs) := goodIn_app (goodIn_of _ (by decide +kernel)) ggX4_call_X4_weighs
set_option maxRecDepth 20000 in
theorem ggX4_call_X4_divides : GoodIn wsX4_call wsX4_divides := goodIn_r _ [54, 2, 5, 55, 67, 68, 69, 70, 71, 72, 73, 74, 75, 76, 77, 78, 79, 80, 81, 82, 83, 84, 85, 86, 87, 88, 89, 90, 91] (by decide +kernel) (by decide +kernel)
set_option maxRecDepth 20000 in
theorem gX4_call_X4_divides : GoodIn wsX4_call (wsV RX4 90 RX4 yX4_divides wsX4_divides) := goodIn_app (goodIn_of _ (by decide +kernel)) ggX4_call_X4_divides
theorem dX4_call_0 : decode cX4_call 0 = .ok (.aload_n 0, 1) := by decide +kernel
theorem dX4_call_1 : decode cX4_call 1 = .ok (.aload_n 0, 1) := by decide +kernel
theorem dX4_call_2 : decode cX4_call 2 = .ok (.iload_n 1, 1) := by decide +kernel
theorem dX4_call_3 : decode cX4_call 3 = .ok (.invokevirtual 124, 3) := by decide +kernel
theorem dX4_call_6 : decode cX4_call 6 = .ok (.iload_n 2, 1) := by decide +kernel
theorem dX4_call_7 : decode cX4_call 7 = .ok (.invokestatic 134, 3) := by decide +kernel
theorem dX4_call_10 : decode cX4_call 10 = .ok (.aload_n 0, 1) := by decide +kernel
theorem dX4_call_11 : decode cX4_call 11 = .ok (.getfield 86, 3) := by decide +kernel
theorem dX4_call_14 : decode cX4_call 14 = .ok (.bipush 20, 2) := by decide +kernel
theorem dX4_call_16 : decode cX4_call 16 = .ok (.if_icmp .ge 7, 3) := by decide +kernel
theorem dX4_call_19 : decode cX4_call 19 = .ok (.iconst 1, 1) := by decide +kernel
theorem dX4_call_20 : decode cX4_call 20 = .ok (.goto 4, 3) := by decide +kernel
theorem dX4_call_23 : decode cX4_call 23 = .ok (.iconst 0, 1) := by decide +kernel
theorem dX4_call_24 : decode cX4_call 24 = .ok (.invokevirtual 116, 3) := by decide +kernel
theorem dX4_call_27 : decode cX4_call 27 = .ok (.ifCond .ne 5, 3) := by decide +kernel
theorem dX4_call_30 : decode cX4_call 30 = .ok (.iconst 0, 1) := by decide +kernel
theorem dX4_call_31 : decode cX4_call 31 = .ok (.ireturn, 1) := by decide +kernel
theorem dX4_call_32 : decode cX4_call 32 = .ok (.aload_n 0, 1) := by decide +kernel
theorem dX4_call_33 : decode cX4_call 33 = .ok (.iload_n 1, 1) := by decide +kernel
theorem dX4_call_34 : decode cX4_call 34 = .ok (.invokevirtual 150, 3) := by decide +kernel
theorem dX4_call_37 : decode cX4_call 37 = .ok (.iconst 0, 1) := by decide +kernel
theorem dX4_call_38 : decode cX4_call 38 = .ok (.istore_n 3, 1) := by decide +kernel
theorem dX4_call_39 : decode cX4_call 39 = .ok (.iload_n 3, 1) := by decide +kernel
theorem dX4_call_40 : decode cX4_call 40 = .ok (.iconst 5, 1) := by decide +kernel
theorem dX4_call_41 : decode cX4_call 41 = .ok (.if_icmp .ge 21, 3) := by decide +kernel
theorem dX4_call_44 : decode cX4_call 44 = .ok (.aload_n 0, 1) := by decide +kernel
theorem dX4_call_45 : decode cX4_call 45 = .ok (.getfield 61, 3) := by decide +kernel
theorem dX4_call_48 : decode cX4_call 48 = .ok (.iload_n 3, 1) := by decide +kernel
theorem dX4_call_49 : decode cX4_call 49 = .ok (.aload_n 0, 1) := by decide +kernel
theorem dX4_call_50 : decode cX4_call 50 = .ok (.getfield 55, 3) := by decide +kernel
theorem dX4_call_53 : decode cX4_call 53 = .ok (.iload_n 3, 1) := by decide +kernel
theorem dX4_call_54 : decode cX4_call 54 = .ok (.iaload, 1) := by decide +kernel
theorem dX4_call_55 : decode cX4_call 55 = .ok (.iastore, 1) := by decide +kernel
theorem dX4_call_56 : decode cX4_call 56 = .ok (.iinc 3 1, 3) := by decide +kernel
theorem dX4_call_59 : decode cX4_call 59 = .ok (.goto (-20), 3) := by decide +kernel
theorem dX4_call_62 : decode cX4_call 62 = .ok (.aload_n 0, 1) := by decide +kernel
theorem dX4_call_63 : decode cX4_call 63 = .ok (.iload_n 2, 1) := by decide +kernel
theorem dX4_call_64 : decode cX4_call 64 = .ok (.i2l, 1) := by decide +kernel
theorem dX4_call_65 : decode cX4_call 65 = .ok (.invokevirtual 90, 3) := by decide +kernel
theorem dX4_call_68 : decode cX4_call 68 = .ok (.iconst 0, 1) := by decide +kernel
theorem dX4_call_69 : decode cX4_call 69 = .ok (.istore_n 3, 1) := by decide +kernel
theorem dX4_call_70 : decode cX4_call 70 = .ok (.iload_n 3, 1) := by decide +kernel
theorem dX4_call_71 : decode cX4_call 71 = .ok (.iconst 5, 1) := by decide +kernel
theorem dX4_call_72 : decode cX4_call 72 = .ok (.if_icmp .ge 28, 3) := by decide +kernel
theorem dX4_call_75 : decode cX4_call 75 = .ok (.aload_n 0, 1) := by decide +kernel
theorem dX4_call_76 : decode cX4_call 76 = .ok (.getfield 36, 3) := by decide +kernel
theorem dX4_call_79 : decode cX4_call 79 = .ok (.iconst 5, 1) := by decide +kernel
theorem dX4_call_80 : decode cX4_call 80 = .ok (.aload_n 0, 1) := by decide +kernel
theorem dX4_call_81 : decode cX4_call 81 = .ok (.getfield 86, 3) := by decide +kernel
theorem dX4_call_84 : decode cX4_call 84 = .ok (.imul, 1) := by decide +kernel
theorem dX4_call_85 : decode cX4_call 85 = .ok (.iload_n 3, 1) := by decide +kernel
theorem dX4_call_86 : decode cX4_call 86 = .ok (.iadd, 1) := by decide +kernel
theorem dX4_call_87 : decode cX4_call 87 = .ok (.aload_n 0, 1) := by decide +kernel
theorem dX4_call_88 : decode cX4_call 88 = .ok (.getfield 64, 3) := by decide +kernel
theorem dX4_call_91 : decode cX4_call 91 = .ok (.iload_n 3, 1) := by decide +kernel
theorem dX4_call_92 : decode cX4_call 92 = .ok (.iaload, 1) := by decide +kernel
theorem dX4_call_93 : decode cX4_call 93 = .ok (.iastore, 1) := by decide +kernel
theorem dX4_call_94 : decode cX4_call 94 = .ok (.iinc 3 1, 3) := by decide +kernel
theorem dX4_call_97 : decode cX4_call 97 = .ok (.goto (-27), 3) := by decide +kernel
theorem dX4_call_100 : decode cX4_call 100 = .ok (.aload_n 0, 1) := by decide +kernel
theorem dX4_call_101 : decode cX4_call 101 = .ok (.dup, 1) := by decide +kernel
theorem dX4_call_102 : decode cX4_call 102 = .ok (.getfield 86, 3) := by decide +kernel
theorem dX4_call_105 : decode cX4_call 105 = .ok (.iconst 1, 1) := by decide +kernel
theorem dX4_call_106 : decode cX4_call 106 = .ok (.iadd, 1) := by decide +kernel
theorem dX4_call_107 : decode cX4_call 107 = .ok (.putfield 86, 3) := by decide +kernel
theorem dX4_call_110 : decode cX4_call 110 = .ok (.aload_n 0, 1) := by decide +kernel
theorem dX4_call_111 : decode cX4_call 111 = .ok (.getfield 86, 3) := by decide +kernel
theorem dX4_call_114 : decode cX4_call 114 = .ok (.iconst 1, 1) := by decide +kernel
theorem dX4_call_115 : decode cX4_call 115 = .ok (.isub, 1) := by decide +kernel
theorem dX4_call_116 : decode cX4_call 116 = .ok (.ireturn, 1) := by decide +kernel
set_option maxRecDepth 20000 in
theorem ggX4_pay_X4_isCall : GoodIn wsX4_pay wsX4_isCall := goodIn_r _ [7, 8, 9, 10, 6, 11, 20, 21, 22, 23, 24, 25, 26, 27, 28, 29, 30, 31, 32, 33, 34, 35, 36, 37, 38, 39, 40, 41, 42, 43, 44] (by decide +kernel) (by decide +kernel)
set_option maxRecDepth 20000 in
theorem gX4_pay_X4_isCall : GoodIn wsX4_pay (wsV RX4 153 RX4 yX4_isCall wsX4_isCall) := goodIn_app (goodIn_of _ (by decide +kernel)) ggX4_pay_X4_isCall
set_option maxRecDepth 20000 in
theorem ggX4_pay_X4_isPartner : GoodIn wsX4_pay wsX4_isPartner := goodIn_r _ [14, 9, 10, 6, 11] (by decide +kernel) (by decide +kernel)
set_option maxRecDepth 20000 in
theorem gX4_pay_X4_isPartner : GoodIn wsX4_pay (va_wsS RX4 127 yX4_isPartner wsX4_isPartner) := goodIn_app (goodIn_of _ (by decide +kernel)) ggX4_pay_X4_isPartner
set_option maxRecDepth 20000 in
theorem ggX4_pay_X4_goes : GoodIn wsX4_pay wsX4_goes := goodIn_r _ [18, 19, 20, 21, 22, 23, 24, 25, 26, 27, 28, 29, 30, 31, 32, 33, 34, 35, 36, 37, 38, 39, 40, 41, 42, 43, 44] (by decide +kernel) (by decide +kernel)
set_option maxRecDepth 20000 in
theorem gX4_pay_X4_goes : GoodIn wsX4_pay (wsV RX4 116 RX4 yX4_goes wsX4_goes) := goodIn_app (goodIn_of _ (by decide +kernel)) ggX4_pay_X4_goes
theorem dX4_pay_0 : decode cX4_pay 0 = .ok (.aload_n 0, 1) := by decide +kernel
theorem dX4_pay_1 : decode cX4_pay 1 = .ok (.iload_n 1, 1) := by decide +kernel
theorem dX4_pay_2 : decode cX4_pay 2 = .ok (.invokevirtual 153, 3) := by decide +kernel
theorem dX4_pay_5 : decode cX4_pay 5 = .ok (.ifCond .eq 14, 3) := by decide +kernel
theorem dX4_pay_8 : decode cX4_pay 8 = .ok (.iload_n 2, 1) := by decide +kernel
theorem dX4_pay_9 : decode cX4_pay 9 = .ok (.invokestatic 127, 3) := by decide +kernel
theorem dX4_pay_12 : decode cX4_pay 12 = .ok (.ifCond .eq 7, 3) := by decide +kernel
theorem dX4_pay_15 : decode cX4_pay 15 = .ok (.iconst 1, 1) := by decide +kernel
theorem dX4_pay_16 : decode cX4_pay 16 = .ok (.goto 4, 3) := by decide +kernel
theorem dX4_pay_19 : decode cX4_pay 19 = .ok (.iconst 0, 1) := by decide +kernel
theorem dX4_pay_20 : decode cX4_pay 20 = .ok (.istore_n 3, 1) := by decide +kernel
theorem dX4_pay_21 : decode cX4_pay 21 = .ok (.iload_n 3, 1) := by decide +kernel
theorem dX4_pay_22 : decode cX4_pay 22 = .ok (.ifCond .eq 27, 3) := by decide +kernel
theorem dX4_pay_25 : decode cX4_pay 25 = .ok (.aload_n 0, 1) := by decide +kernel
theorem dX4_pay_26 : decode cX4_pay 26 = .ok (.getfield 36, 3) := by decide +kernel
theorem dX4_pay_29 : decode cX4_pay 29 = .ok (.iconst 5, 1) := by decide +kernel
theorem dX4_pay_30 : decode cX4_pay 30 = .ok (.iload_n 1, 1) := by decide +kernel
theorem dX4_pay_31 : decode cX4_pay 31 = .ok (.imul, 1) := by decide +kernel
theorem dX4_pay_32 : decode cX4_pay 32 = .ok (.iload_n 2, 1) := by decide +kernel
theorem dX4_pay_33 : decode cX4_pay 33 = .ok (.iadd, 1) := by decide +kernel
theorem dX4_pay_34 : decode cX4_pay 34 = .ok (.iaload, 1) := by decide +kernel
theorem dX4_pay_35 : decode cX4_pay 35 = .ok (.aload_n 0, 1) := by decide +kernel
theorem dX4_pay_36 : decode cX4_pay 36 = .ok (.getfield 39, 3) := by decide +kernel
theorem dX4_pay_39 : decode cX4_pay 39 = .ok (.iconst 5, 1) := by decide +kernel
theorem dX4_pay_40 : decode cX4_pay 40 = .ok (.iload_n 1, 1) := by decide +kernel
theorem dX4_pay_41 : decode cX4_pay 41 = .ok (.imul, 1) := by decide +kernel
theorem dX4_pay_42 : decode cX4_pay 42 = .ok (.iload_n 2, 1) := by decide +kernel
theorem dX4_pay_43 : decode cX4_pay 43 = .ok (.iadd, 1) := by decide +kernel
theorem dX4_pay_44 : decode cX4_pay 44 = .ok (.iaload, 1) := by decide +kernel
theorem dX4_pay_45 : decode cX4_pay 45 = .ok (.isub, 1) := by decide +kernel
theorem dX4_pay_46 : decode cX4_pay 46 = .ok (.goto 4, 3) := by decide +kernel
theorem dX4_pay_49 : decode cX4_pay 49 = .ok (.iconst 0, 1) := by decide +kernel
theorem dX4_pay_50 : decode cX4_pay 50 = .ok (.istore 4, 2) := by decide +kernel
theorem dX4_pay_52 : decode cX4_pay 52 = .ok (.aload_n 0, 1) := by decide +kernel
theorem dX4_pay_53 : decode cX4_pay 53 = .ok (.iload_n 3, 1) := by decide +kernel
theorem dX4_pay_54 : decode cX4_pay 54 = .ok (.iload 4, 2) := by decide +kernel
theorem dX4_pay_56 : decode cX4_pay 56 = .ok (.ifCond .le 7, 3) := by decide +kernel
theorem dX4_pay_59 : decode cX4_pay 59 = .ok (.iconst 1, 1) := by decide +kernel
theorem dX4_pay_60 : decode cX4_pay 60 = .ok (.goto 4, 3) := by decide +kernel
theorem dX4_pay_63 : decode cX4_pay 63 = .ok (.iconst 0, 1) := by decide +kernel
theorem dX4_pay_64 : decode cX4_pay 64 = .ok (.iconst 1, 1) := by decide +kernel
theorem dX4_pay_65 : decode cX4_pay 65 = .ok (.invokevirtual 116, 3) := by decide +kernel
theorem dX4_pay_68 : decode cX4_pay 68 = .ok (.ifCond .ne 5, 3) := by decide +kernel
theorem dX4_pay_71 : decode cX4_pay 71 = .ok (.iconst 0, 1) := by decide +kernel
theorem dX4_pay_72 : decode cX4_pay 72 = .ok (.ireturn, 1) := by decide +kernel
theorem dX4_pay_73 : decode cX4_pay 73 = .ok (.aload_n 0, 1) := by decide +kernel
theorem dX4_pay_74 : decode cX4_pay 74 = .ok (.getfield 39, 3) := by decide +kernel
theorem dX4_pay_77 : decode cX4_pay 77 = .ok (.iconst 5, 1) := by decide +kernel
theorem dX4_pay_78 : decode cX4_pay 78 = .ok (.iload_n 1, 1) := by decide +kernel
theorem dX4_pay_79 : decode cX4_pay 79 = .ok (.imul, 1) := by decide +kernel
theorem dX4_pay_80 : decode cX4_pay 80 = .ok (.iload_n 2, 1) := by decide +kernel
theorem dX4_pay_81 : decode cX4_pay 81 = .ok (.iadd, 1) := by decide +kernel
theorem dX4_pay_82 : decode cX4_pay 82 = .ok (.dup2, 1) := by decide +kernel
theorem dX4_pay_83 : decode cX4_pay 83 = .ok (.iaload, 1) := by decide +kernel
theorem dX4_pay_84 : decode cX4_pay 84 = .ok (.iload 4, 2) := by decide +kernel
theorem dX4_pay_86 : decode cX4_pay 86 = .ok (.iadd, 1) := by decide +kernel
theorem dX4_pay_87 : decode cX4_pay 87 = .ok (.iastore, 1) := by decide +kernel
theorem dX4_pay_88 : decode cX4_pay 88 = .ok (.iload 4, 2) := by decide +kernel
theorem dX4_pay_90 : decode cX4_pay 90 = .ok (.ireturn, 1) := by decide +kernel
set_option maxRecDepth 20000 in
theorem ggX4_shareOut_X4_isCall : GoodIn wsX4_shareOut wsX4_isCall := goodIn_r _ [10, 11, 12, 13, 9, 14, 25, 26, 27, 28, 29, 30, 31, 32, 33, 34, 35, 36, 37, 38, 39, 40, 41, 42, 43, 44, 45, 46, 47, 48, 49] (by decide +kernel) (by decide +kernel)
set_option maxRecDepth 20000 in
theorem gX4_shareOut_X4_isCall : GoodIn wsX4_shareOut (wsV RX4 153 RX4 yX4_isCall wsX4_isCall) := goodIn_app (goodIn_of _ (by decide +kernel)) ggX4_shareOut_X4_isCall
set_option maxRecDepth 20000 in
theorem ggX4_shareOut_X4_goes : GoodIn wsX4_shareOut wsX4_goes := goodIn_r _ [18, 19, 25, 26, 27, 28, 29, 30, 31, 32, 33, 34, 35, 36, 37, 38, 39, 40, 41, 42, 43, 44, 45, 46, 47, 48, 49] (by decide +kernel) (by decide +kernel)
set_option maxRecDepth 20000 in
theorem gX4_shareOut_X4_goes : GoodIn wsX4_shareOut (wsV RX4 116 RX4 yX4_goes wsX4_goes) := goodIn_app (goodIn_of _ (by decide +kernel)) ggX4_shareOut_X4_goes
set_option maxRecDepth 20000 in
theorem ggX4_shareOut_X4_divides : GoodIn wsX4_shareOut wsX4_divides := goodIn_r _ [23, 2, 5, 24, 25, 26, 27, 28, 29, 30, 31, 32, 33, 34, 35, 36, 37, 38, 39, 40, 41, 42, 43, 44, 45, 46, 47, 48, 49] (by decide +kernel) (by decide +kernel)
set_option maxRecDepth 20000 in
theorem gX4_shareOut_X4_divides : GoodIn wsX4_shareOut (wsV RX4 90 RX4 yX4_divides wsX4_divides) := goodIn_app (goodIn_of _ (by decide +kernel)) ggX4_shareOut_X4_divides
theorem dX4_shareOut_0 : decode cX4_shareOut 0 = .ok (.aload_n 0, 1) := by decide +kernel
theorem dX4_shareOut_1 : decode cX4_shareOut 1 = .ok (.iload_n 1, 1) := by decide +kernel
theorem dX4_shareOut_2 : decode cX4_shareOut 2 = .ok (.invokevirtual 153, 3) := by decide +kernel
theorem dX4_shareOut_5 : decode cX4_shareOut 5 = .ok (.istore_n 2, 1) := by decide +kernel
theorem dX4_shareOut_6 : decode cX4_shareOut 6 = .ok (.iconst 0, 1) := by decide +kernel
theorem dX4_shareOut_7 : decode cX4_shareOut 7 = .ok (.istore_n 3, 1) := by decide +kernel
theorem dX4_shareOut_8 : decode cX4_shareOut 8 = .ok (.iconst 0, 1) := by decide +kernel
theorem dX4_shareOut_9 : decode cX4_shareOut 9 = .ok (.istore 4, 2) := by decide +kernel
theorem dX4_shareOut_11 : decode cX4_shareOut 11 = .ok (.iconst 0, 1) := by decide +kernel
theorem dX4_shareOut_12 : decode cX4_shareOut 12 = .ok (.istore 5, 2) := by decide +kernel
theorem dX4_shareOut_14 : decode cX4_shareOut 14 = .ok (.iload 5, 2) := by decide +kernel
theorem dX4_shareOut_16 : decode cX4_shareOut 16 = .ok (.iconst 5, 1) := by decide +kernel
theorem dX4_shareOut_17 : decode cX4_shareOut 17 = .ok (.if_icmp .ge 101, 3) := by decide +kernel
theorem dX4_shareOut_20 : decode cX4_shareOut 20 = .ok (.iload_n 2, 1) := by decide +kernel
theorem dX4_shareOut_21 : decode cX4_shareOut 21 = .ok (.ifCond .eq 97, 3) := by decide +kernel
theorem dX4_shareOut_24 : decode cX4_shareOut 24 = .ok (.aload_n 0, 1) := by decide +kernel
theorem dX4_shareOut_25 : decode cX4_shareOut 25 = .ok (.getfield 39, 3) := by decide +kernel
theorem dX4_shareOut_28 : decode cX4_shareOut 28 = .ok (.iconst 5, 1) := by decide +kernel
theorem dX4_shareOut_29 : decode cX4_shareOut 29 = .ok (.iload_n 1, 1) := by decide +kernel
theorem dX4_shareOut_30 : decode cX4_shareOut 30 = .ok (.imul, 1) := by decide +kernel
theorem dX4_shareOut_31 : decode cX4_shareOut 31 = .ok (.iload 5, 2) := by decide +kernel
theorem dX4_shareOut_33 : decode cX4_shareOut 33 = .ok (.iadd, 1) := by decide +kernel
theorem dX4_shareOut_34 : decode cX4_shareOut 34 = .ok (.iaload, 1) := by decide +kernel
theorem dX4_shareOut_35 : decode cX4_shareOut 35 = .ok (.ifCond .le 7, 3) := by decide +kernel
theorem dX4_shareOut_38 : decode cX4_shareOut 38 = .ok (.iconst 1, 1) := by decide +kernel
theorem dX4_shareOut_39 : decode cX4_shareOut 39 = .ok (.goto 4, 3) := by decide +kernel
theorem dX4_shareOut_42 : decode cX4_shareOut 42 = .ok (.iconst 0, 1) := by decide +kernel
theorem dX4_shareOut_43 : decode cX4_shareOut 43 = .ok (.istore 6, 2) := by decide +kernel
theorem dX4_shareOut_45 : decode cX4_shareOut 45 = .ok (.iload_n 3, 1) := by decide +kernel
theorem dX4_shareOut_46 : decode cX4_shareOut 46 = .ok (.ifCond .ne 8, 3) := by decide +kernel
theorem dX4_shareOut_49 : decode cX4_shareOut 49 = .ok (.iload 6, 2) := by decide +kernel
theorem dX4_shareOut_51 : decode cX4_shareOut 51 = .ok (.ifCond .eq 7, 3) := by decide +kernel
theorem dX4_shareOut_54 : decode cX4_shareOut 54 = .ok (.iconst 1, 1) := by decide +kernel
theorem dX4_shareOut_55 : decode cX4_shareOut 55 = .ok (.goto 4, 3) := by decide +kernel
theorem dX4_shareOut_58 : decode cX4_shareOut 58 = .ok (.iconst 0, 1) := by decide +kernel
theorem dX4_shareOut_59 : decode cX4_shareOut 59 = .ok (.istore_n 3, 1) := by decide +kernel
theorem dX4_shareOut_60 : decode cX4_shareOut 60 = .ok (.aload_n 0, 1) := by decide +kernel
theorem dX4_shareOut_61 : decode cX4_shareOut 61 = .ok (.getfield 61, 3) := by decide +kernel
theorem dX4_shareOut_64 : decode cX4_shareOut 64 = .ok (.iload 5, 2) := by decide +kernel
theorem dX4_shareOut_66 : decode cX4_shareOut 66 = .ok (.iload 6, 2) := by decide +kernel
theorem dX4_shareOut_68 : decode cX4_shareOut 68 = .ok (.ifCond .eq 17, 3) := by decide +kernel
theorem dX4_shareOut_71 : decode cX4_shareOut 71 = .ok (.aload_n 0, 1) := by decide +kernel
theorem dX4_shareOut_72 : decode cX4_shareOut 72 = .ok (.getfield 36, 3) := by decide +kernel
theorem dX4_shareOut_75 : decode cX4_shareOut 75 = .ok (.iconst 5, 1) := by decide +kernel
theorem dX4_shareOut_76 : decode cX4_shareOut 76 = .ok (.iload_n 1, 1) := by decide +kernel
theorem dX4_shareOut_77 : decode cX4_shareOut 77 = .ok (.imul, 1) := by decide +kernel
theorem dX4_shareOut_78 : decode cX4_shareOut 78 = .ok (.iload 5, 2) := by decide +kernel
theorem dX4_shareOut_80 : decode cX4_shareOut 80 = .ok (.iadd, 1) := by decide +kernel
theorem dX4_shareOut_81 : decode cX4_shareOut 81 = .ok (.iaload, 1) := by decide +kernel
theorem dX4_shareOut_82 : decode cX4_shareOut 82 = .ok (.goto 4, 3) := by decide +kernel
theorem dX4_shareOut_85 : decode cX4_shareOut 85 = .ok (.iconst 0, 1) := by decide +kernel
theorem dX4_shareOut_86 : decode cX4_shareOut 86 = .ok (.iastore, 1) := by decide +kernel
theorem dX4_shareOut_87 : decode cX4_shareOut 87 = .ok (.iload 4, 2) := by decide +kernel
theorem dX4_shareOut_89 : decode cX4_shareOut 89 = .ok (.iload 6, 2) := by decide +kernel
theorem dX4_shareOut_91 : decode cX4_shareOut 91 = .ok (.ifCond .eq 7, 3) := by decide +kernel
theorem dX4_shareOut_94 : decode cX4_shareOut 94 = .ok (.iconst 0, 1) := by decide +kernel
theorem dX4_shareOut_95 : decode cX4_shareOut 95 = .ok (.goto 14, 3) := by decide +kernel
theorem dX4_shareOut_98 : decode cX4_shareOut 98 = .ok (.aload_n 0, 1) := by decide +kernel
theorem dX4_shareOut_99 : decode cX4_shareOut 99 = .ok (.getfield 36, 3) := by decide +kernel
theorem dX4_shareOut_102 : decode cX4_shareOut 102 = .ok (.iconst 5, 1) := by decide +kernel
theorem dX4_shareOut_103 : decode cX4_shareOut 103 = .ok (.iload_n 1, 1) := by decide +kernel
theorem dX4_shareOut_104 : decode cX4_shareOut 104 = .ok (.imul, 1) := by decide +kernel
theorem dX4_shareOut_105 : decode cX4_shareOut 105 = .ok (.iload 5, 2) := by decide +kernel
theorem dX4_shareOut_107 : decode cX4_shareOut 107 = .ok (.iadd, 1) := by decide +kernel
theorem dX4_shareOut_108 : decode cX4_shareOut 108 = .ok (.iaload, 1) := by decide +kernel
theorem dX4_shareOut_109 : decode cX4_shareOut 109 = .ok (.iadd, 1) := by decide +kernel
theorem dX4_shareOut_110 : decode cX4_shareOut 110 = .ok (.istore 4, 2) := by decide +kernel
theorem dX4_shareOut_112 : decode cX4_shareOut 112 = .ok (.iinc 5 1, 3) := by decide +kernel
theorem dX4_shareOut_115 : decode cX4_shareOut 115 = .ok (.goto (-101), 3) := by decide +kernel
theorem dX4_shareOut_118 : decode cX4_shareOut 118 = .ok (.aload_n 0, 1) := by decide +kernel
theorem dX4_shareOut_119 : decode cX4_shareOut 119 = .ok (.iload_n 2, 1) := by decide +kernel
theorem dX4_shareOut_120 : decode cX4_shareOut 120 = .ok (.iload_n 3, 1) := by decide +kernel
theorem dX4_shareOut_121 : decode cX4_shareOut 121 = .ok (.ifCond .eq 12, 3) := by decide +kernel
theorem dX4_shareOut_124 : decode cX4_shareOut 124 = .ok (.iload 4, 2) := by decide +kernel
theorem dX4_shareOut_126 : decode cX4_shareOut 126 = .ok (.ifCond .le 7, 3) := by decide +kernel
theorem dX4_shareOut_129 : decode cX4_shareOut 129 = .ok (.iconst 1, 1) := by decide +kernel
theorem dX4_shareOut_130 : decode cX4_shareOut 130 = .ok (.goto 4, 3) := by decide +kernel
theorem dX4_shareOut_133 : decode cX4_shareOut 133 = .ok (.iconst 0, 1) := by decide +kernel
theorem dX4_shareOut_134 : decode cX4_shareOut 134 = .ok (.iconst 1, 1) := by decide +kernel
theorem dX4_shareOut_135 : decode cX4_shareOut 135 = .ok (.invokevirtual 116, 3) := by decide +kernel
theorem dX4_shareOut_138 : decode cX4_shareOut 138 = .ok (.ifCond .ne 5, 3) := by decide +kernel
theorem dX4_shareOut_141 : decode cX4_shareOut 141 = .ok (.iconst 0, 1) := by decide +kernel
theorem dX4_shareOut_142 : decode cX4_shareOut 142 = .ok (.ireturn, 1) := by decide +kernel
theorem dX4_shareOut_143 : decode cX4_shareOut 143 = .ok (.aload_n 0, 1) := by decide +kernel
theorem dX4_shareOut_144 : decode cX4_shareOut 144 = .ok (.iload 4, 2) := by decide +kernel
theorem dX4_shareOut_146 : decode cX4_shareOut 146 = .ok (.i2l, 1) := by decide +kernel
theorem dX4_shareOut_147 : decode cX4_shareOut 147 = .ok (.invokevirtual 90, 3) := by decide +kernel
theorem dX4_shareOut_150 : decode cX4_shareOut 150 = .ok (.iconst 0, 1) := by decide +kernel
theorem dX4_shareOut_151 : decode cX4_shareOut 151 = .ok (.istore 5, 2) := by decide +kernel
theorem dX4_shareOut_153 : decode cX4_shareOut 153 = .ok (.iload 5, 2) := by decide +kernel
theorem dX4_shareOut_155 : decode cX4_shareOut 155 = .ok (.iconst 5, 1) := by decide +kernel
theorem dX4_shareOut_156 : decode cX4_shareOut 156 = .ok (.if_icmp .ge 84, 3) := by decide +kernel
theorem dX4_shareOut_159 : decode cX4_shareOut 159 = .ok (.iconst 5, 1) := by decide +kernel
theorem dX4_shareOut_160 : decode cX4_shareOut 160 = .ok (.iload_n 1, 1) := by decide +kernel
theorem dX4_shareOut_161 : decode cX4_shareOut 161 = .ok (.imul, 1) := by decide +kernel
theorem dX4_shareOut_162 : decode cX4_shareOut 162 = .ok (.iload 5, 2) := by decide +kernel
theorem dX4_shareOut_164 : decode cX4_shareOut 164 = .ok (.iadd, 1) := by decide +kernel
theorem dX4_shareOut_165 : decode cX4_shareOut 165 = .ok (.istore 6, 2) := by decide +kernel
theorem dX4_shareOut_167 : decode cX4_shareOut 167 = .ok (.aload_n 0, 1) := by decide +kernel
theorem dX4_shareOut_168 : decode cX4_shareOut 168 = .ok (.getfield 42, 3) := by decide +kernel
theorem dX4_shareOut_171 : decode cX4_shareOut 171 = .ok (.iload 5, 2) := by decide +kernel
theorem dX4_shareOut_173 : decode cX4_shareOut 173 = .ok (.dup2, 1) := by decide +kernel
theorem dX4_shareOut_174 : decode cX4_shareOut 174 = .ok (.iaload, 1) := by decide +kernel
theorem dX4_shareOut_175 : decode cX4_shareOut 175 = .ok (.aload_n 0, 1) := by decide +kernel
theorem dX4_shareOut_176 : decode cX4_shareOut 176 = .ok (.getfield 39, 3) := by decide +kernel
theorem dX4_shareOut_179 : decode cX4_shareOut 179 = .ok (.iload 6, 2) := by decide +kernel
theorem dX4_shareOut_181 : decode cX4_shareOut 181 = .ok (.iaload, 1) := by decide +kernel
theorem dX4_shareOut_182 : decode cX4_shareOut 182 = .ok (.ifCond .le 7, 3) := by decide +kernel
theorem dX4_shareOut_185 : decode cX4_shareOut 185 = .ok (.iconst 0, 1) := by decide +kernel
theorem dX4_shareOut_186 : decode cX4_shareOut 186 = .ok (.goto 10, 3) := by decide +kernel
theorem dX4_shareOut_189 : decode cX4_shareOut 189 = .ok (.aload_n 0, 1) := by decide +kernel
theorem dX4_shareOut_190 : decode cX4_shareOut 190 = .ok (.getfield 36, 3) := by decide +kernel
theorem dX4_shareOut_193 : decode cX4_shareOut 193 = .ok (.iload 6, 2) := by decide +kernel
theorem dX4_shareOut_195 : decode cX4_shareOut 195 = .ok (.iaload, 1) := by decide +kernel
theorem dX4_shareOut_196 : decode cX4_shareOut 196 = .ok (.iadd, 1) := by decide +kernel
theorem dX4_shareOut_197 : decode cX4_shareOut 197 = .ok (.iastore, 1) := by decide +kernel
theorem dX4_shareOut_198 : decode cX4_shareOut 198 = .ok (.aload_n 0, 1) := by decide +kernel
theorem dX4_shareOut_199 : decode cX4_shareOut 199 = .ok (.getfield 36, 3) := by decide +kernel
theorem dX4_shareOut_202 : decode cX4_shareOut 202 = .ok (.iload 6, 2) := by decide +kernel
theorem dX4_shareOut_204 : decode cX4_shareOut 204 = .ok (.aload_n 0, 1) := by decide +kernel
theorem dX4_shareOut_205 : decode cX4_shareOut 205 = .ok (.getfield 39, 3) := by decide +kernel
theorem dX4_shareOut_208 : decode cX4_shareOut 208 = .ok (.iload 6, 2) := by decide +kernel
theorem dX4_shareOut_210 : decode cX4_shareOut 210 = .ok (.iaload, 1) := by decide +kernel
theorem dX4_shareOut_211 : decode cX4_shareOut 211 = .ok (.ifCond .le 21, 3) := by decide +kernel
theorem dX4_shareOut_214 : decode cX4_shareOut 214 = .ok (.aload_n 0, 1) := by decide +kernel
theorem dX4_shareOut_215 : decode cX4_shareOut 215 = .ok (.getfield 36, 3) := by decide +kernel
theorem dX4_shareOut_218 : decode cX4_shareOut 218 = .ok (.iload 6, 2) := by decide +kernel
theorem dX4_shareOut_220 : decode cX4_shareOut 220 = .ok (.iaload, 1) := by decide +kernel
theorem dX4_shareOut_221 : decode cX4_shareOut 221 = .ok (.aload_n 0, 1) := by decide +kernel
theorem dX4_shareOut_222 : decode cX4_shareOut 222 = .ok (.getfield 64, 3) := by decide +kernel
theorem dX4_shareOut_225 : decode cX4_shareOut 225 = .ok (.iload 5, 2) := by decide +kernel
theorem dX4_shareOut_227 : decode cX4_shareOut 227 = .ok (.iaload, 1) := by decide +kernel
theorem dX4_shareOut_228 : decode cX4_shareOut 228 = .ok (.iadd, 1) := by decide +kernel
theorem dX4_shareOut_229 : decode cX4_shareOut 229 = .ok (.goto 4, 3) := by decide +kernel
theorem dX4_shareOut_232 : decode cX4_shareOut 232 = .ok (.iconst 0, 1) := by decide +kernel
theorem dX4_shareOut_233 : decode cX4_shareOut 233 = .ok (.iastore, 1) := by decide +kernel
theorem dX4_shareOut_234 : decode cX4_shareOut 234 = .ok (.iinc 5 1, 3) := by decide +kernel
theorem dX4_shareOut_237 : decode cX4_shareOut 237 = .ok (.goto (-84), 3) := by decide +kernel
theorem dX4_shareOut_240 : decode cX4_shareOut 240 = .ok (.iload 4, 2) := by decide +kernel
theorem dX4_shareOut_242 : decode cX4_shareOut 242 = .ok (.ireturn, 1) := by decide +kernel
set_option maxRecDepth 20000 in
theorem ggX4_asked_X4_isCall : GoodIn wsX4_asked wsX4_isCall := goodIn_r _ [6, 7, 8, 9, 5, 10, 19, 20, 21, 22, 23, 24, 25, 26, 27, 28, 29, 30, 31, 32, 33, 34, 35, 36, 37, 38, 39, 40, 41, 42, 43] (by decide +kernel) (by decide +kernel)
set_option maxRecDepth 20000 in
theorem gX4_asked_X4_isCall : GoodIn wsX4_asked (wsV RX4 153 RX4 yX4_isCall wsX4_isCall) := goodIn_app (goodIn_of _ (by decide +kernel)) ggX4_asked_X4_isCall
set_option maxRecDepth 20000 in
theorem ggX4_asked_X4_isPartner : GoodIn wsX4_asked wsX4_isPartner := goodIn_r _ [13, 8, 9, 5, 10] (by decide +kernel) (by decide +kernel)
set_option maxRecDepth 20000 in
theorem gX4_asked_X4_isPartner : GoodIn wsX4_asked (va_wsS RX4 127 yX4_isPartner wsX4_isPartner) := goodIn_app (goodIn_of _ (by decide +kernel)) ggX4_asked_X4_isPartner
set_option maxRecDepth 20000 in
theorem ggX4_asked_X4_goes : GoodIn wsX4_asked wsX4_goes := goodIn_r _ [17, 18, 19, 20, 21, 22, 23, 24, 25, 26, 27, 28, 29, 30, 31, 32, 33, 34, 35, 36, 37, 38, 39, 40, 41, 42, 43] (by decide +kernel) (by decide +kernel)
set_option maxRecDepth 20000 in
theorem gX4_asked_X4_goes : GoodIn wsX4_asked (wsV RX4 116 RX4 yX4_goes wsX4_goes) := goodIn_app (goodIn_of _ (by decide +kernel)) ggX4_asked_X4_goes
theorem dX4_asked_0 : decode cX4_asked 0 = .ok (.aload_n 0, 1) := by decide +kernel
theorem dX4_asked_1 : decode cX4_asked 1 = .ok (.aload_n 0, 1) := by decide +kernel
theorem dX4_asked_2 : decode cX4_asked 2 = .ok (.iload_n 1, 1) := by decide +kernel
theorem dX4_asked_3 : decode cX4_asked 3 = .ok (.invokevirtual 153, 3) := by decide +kernel
theorem dX4_asked_6 : decode cX4_asked 6 = .ok (.ifCond .eq 14, 3) := by decide +kernel
theorem dX4_asked_9 : decode cX4_asked 9 = .ok (.iload_n 2, 1) := by decide +kernel
theorem dX4_asked_10 : decode cX4_asked 10 = .ok (.invokestatic 127, 3) := by decide +kernel
theorem dX4_asked_13 : decode cX4_asked 13 = .ok (.ifCond .eq 7, 3) := by decide +kernel
theorem dX4_asked_16 : decode cX4_asked 16 = .ok (.iconst 1, 1) := by decide +kernel
theorem dX4_asked_17 : decode cX4_asked 17 = .ok (.goto 4, 3) := by decide +kernel
theorem dX4_asked_20 : decode cX4_asked 20 = .ok (.iconst 0, 1) := by decide +kernel
theorem dX4_asked_21 : decode cX4_asked 21 = .ok (.iconst 1, 1) := by decide +kernel
theorem dX4_asked_22 : decode cX4_asked 22 = .ok (.iconst 1, 1) := by decide +kernel
theorem dX4_asked_23 : decode cX4_asked 23 = .ok (.invokevirtual 116, 3) := by decide +kernel
theorem dX4_asked_26 : decode cX4_asked 26 = .ok (.ifCond .eq 16, 3) := by decide +kernel
theorem dX4_asked_29 : decode cX4_asked 29 = .ok (.aload_n 0, 1) := by decide +kernel
theorem dX4_asked_30 : decode cX4_asked 30 = .ok (.getfield 36, 3) := by decide +kernel
theorem dX4_asked_33 : decode cX4_asked 33 = .ok (.iconst 5, 1) := by decide +kernel
theorem dX4_asked_34 : decode cX4_asked 34 = .ok (.iload_n 1, 1) := by decide +kernel
theorem dX4_asked_35 : decode cX4_asked 35 = .ok (.imul, 1) := by decide +kernel
theorem dX4_asked_36 : decode cX4_asked 36 = .ok (.iload_n 2, 1) := by decide +kernel
theorem dX4_asked_37 : decode cX4_asked 37 = .ok (.iadd, 1) := by decide +kernel
theorem dX4_asked_38 : decode cX4_asked 38 = .ok (.iaload, 1) := by decide +kernel
theorem dX4_asked_39 : decode cX4_asked 39 = .ok (.goto 4, 3) := by decide +kernel
theorem dX4_asked_42 : decode cX4_asked 42 = .ok (.iconst 0, 1) := by decide +kernel
theorem dX4_asked_43 : decode cX4_asked 43 = .ok (.ireturn, 1) := by decide +kernel
theorem dX4_allPaid_0 : decode cX4_allPaid 0 = .ok (.iconst 0, 1) := by decide +kernel
theorem dX4_allPaid_1 : decode cX4_allPaid 1 = .ok (.istore_n 2, 1) := by decide +kernel
theorem dX4_allPaid_2 : decode cX4_allPaid 2 = .ok (.iconst 0, 1) := by decide +kernel
theorem dX4_allPaid_3 : decode cX4_allPaid 3 = .ok (.istore_n 3, 1) := by decide +kernel
theorem dX4_allPaid_4 : decode cX4_allPaid 4 = .ok (.iload_n 3, 1) := by decide +kernel
theorem dX4_allPaid_5 : decode cX4_allPaid 5 = .ok (.aload_n 0, 1) := by decide +kernel
theorem dX4_allPaid_6 : decode cX4_allPaid 6 = .ok (.getfield 86, 3) := by decide +kernel
theorem dX4_allPaid_9 : decode cX4_allPaid 9 = .ok (.if_icmp .ge 22, 3) := by decide +kernel
theorem dX4_allPaid_12 : decode cX4_allPaid 12 = .ok (.iload_n 2, 1) := by decide +kernel
theorem dX4_allPaid_13 : decode cX4_allPaid 13 = .ok (.aload_n 0, 1) := by decide +kernel
theorem dX4_allPaid_14 : decode cX4_allPaid 14 = .ok (.getfield 39, 3) := by decide +kernel
theorem dX4_allPaid_17 : decode cX4_allPaid 17 = .ok (.iconst 5, 1) := by decide +kernel
theorem dX4_allPaid_18 : decode cX4_allPaid 18 = .ok (.iload_n 3, 1) := by decide +kernel
theorem dX4_allPaid_19 : decode cX4_allPaid 19 = .ok (.imul, 1) := by decide +kernel
theorem dX4_allPaid_20 : decode cX4_allPaid 20 = .ok (.iload_n 1, 1) := by decide +kernel
theorem dX4_allPaid_21 : decode cX4_allPaid 21 = .ok (.iadd, 1) := by decide +kernel
theorem dX4_allPaid_22 : decode cX4_allPaid 22 = .ok (.iaload, 1) := by decide +kernel
theorem dX4_allPaid_23 : decode cX4_allPaid 23 = .ok (.iadd, 1) := by decide +kernel
theorem dX4_allPaid_24 : decode cX4_allPaid 24 = .ok (.istore_n 2, 1) := by decide +kernel
theorem dX4_allPaid_25 : decode cX4_allPaid 25 = .ok (.iinc 3 1, 3) := by decide +kernel
theorem dX4_allPaid_28 : decode cX4_allPaid 28 = .ok (.goto (-24), 3) := by decide +kernel
theorem dX4_allPaid_31 : decode cX4_allPaid 31 = .ok (.iload_n 2, 1) := by decide +kernel
theorem dX4_allPaid_32 : decode cX4_allPaid 32 = .ok (.ireturn, 1) := by decide +kernel
set_option maxRecDepth 20000 in
theorem ggX4_paid_X4_isPartner : GoodIn wsX4_paid wsX4_isPartner := goodIn_r _ [4, 5, 6, 3, 7] (by decide +kernel) (by decide +kernel)
set_option maxRecDepth 20000 in
theorem gX4_paid_X4_isPartner : GoodIn wsX4_paid (va_wsS RX4 127 yX4_isPartner wsX4_isPartner) := goodIn_app (goodIn_of _ (by decide +kernel)) ggX4_paid_X4_isPartner
set_option maxRecDepth 20000 in
theorem ggX4_paid_X4_goes : GoodIn wsX4_paid wsX4_goes := goodIn_r _ [11, 12, 19, 20, 21, 22, 23, 24, 25, 26, 27, 28, 29, 30, 31, 32, 33, 34, 35, 36, 37, 38, 39, 40, 41, 42, 43] (by decide +kernel) (by decide +kernel)
set_option maxRecDepth 20000 in
theorem gX4_paid_X4_goes : GoodIn wsX4_paid (wsV RX4 116 RX4 yX4_goes wsX4_goes) := goodIn_app (goodIn_of _ (by decide +kernel)) ggX4_paid_X4_goes
set_option maxRecDepth 20000 in
theorem ggX4_paid_X4_allPaid : GoodIn wsX4_paid wsX4_allPaid := goodIn_r _ [16, 17, 18, 19, 20, 21, 22, 23, 24, 25, 26, 27, 28, 29, 30, 31, 32, 33, 34, 35, 36, 37, 38, 39, 40, 41, 42, 43] (by decide +kernel) (by decide +kernel)
set_option maxRecDepth 20000 in
theorem gX4_paid_X4_allPaid : GoodIn wsX4_paid (wsV RX4 156 RX4 yX4_allPaid wsX4_allPaid) := goodIn_app (goodIn_of _ (by decide +kernel)) ggX4_paid_X4_allPaid
theorem dX4_paid_0 : decode cX4_paid 0 = .ok (.aload_n 0, 1) := by decide +kernel
theorem dX4_paid_1 : decode cX4_paid 1 = .ok (.iload_n 1, 1) := by decide +kernel
theorem dX4_paid_2 : decode cX4_paid 2 = .ok (.invokestatic 127, 3) := by decide +kernel
theorem dX4_paid_5 : decode cX4_paid 5 = .ok (.iconst 1, 1) := by decide +kernel
theorem dX4_paid_6 : decode cX4_paid 6 = .ok (.iconst 1, 1) := by decide +kernel
theorem dX4_paid_7 : decode cX4_paid 7 = .ok (.invokevirtual 116, 3) := by decide +kernel
theorem dX4_paid_10 : decode cX4_paid 10 = .ok (.ifCond .eq 11, 3) := by decide +kernel
theorem dX4_paid_13 : decode cX4_paid 13 = .ok (.aload_n 0, 1) := by decide +kernel
theorem dX4_paid_14 : decode cX4_paid 14 = .ok (.iload_n 1, 1) := by decide +kernel
theorem dX4_paid_15 : decode cX4_paid 15 = .ok (.invokevirtual 156, 3) := by decide +kernel
theorem dX4_paid_18 : decode cX4_paid 18 = .ok (.goto 4, 3) := by decide +kernel
theorem dX4_paid_21 : decode cX4_paid 21 = .ok (.iconst 0, 1) := by decide +kernel
theorem dX4_paid_22 : decode cX4_paid 22 = .ok (.ireturn, 1) := by decide +kernel
set_option maxRecDepth 20000 in
theorem ggX4_owes_X4_isPartner : GoodIn wsX4_owes wsX4_isPartner := goodIn_r _ [5, 6, 7, 4, 8] (by decide +kernel) (by decide +kernel)
set_option maxRecDepth 20000 in
theorem gX4_owes_X4_isPartner : GoodIn wsX4_owes (va_wsS RX4 127 yX4_isPartner wsX4_isPartner) := goodIn_app (goodIn_of _ (by decide +kernel)) ggX4_owes_X4_isPartner
set_option maxRecDepth 20000 in
theorem ggX4_owes_X4_goes : GoodIn wsX4_owes wsX4_goes := goodIn_r _ [12, 13, 14, 15, 16, 17, 18, 19, 20, 21, 22, 23, 24, 25, 26, 27, 28, 29, 30, 31, 32, 33, 34, 35, 36, 37, 38] (by decide +kernel) (by decide +kernel)
set_option maxRecDepth 20000 in
theorem gX4_owes_X4_goes : GoodIn wsX4_owes (wsV RX4 116 RX4 yX4_goes wsX4_goes) := goodIn_app (goodIn_of _ (by decide +kernel)) ggX4_owes_X4_goes
theorem dX4_owes_0 : decode cX4_owes 0 = .ok (.aload_n 0, 1) := by decide +kernel
theorem dX4_owes_1 : decode cX4_owes 1 = .ok (.iload_n 1, 1) := by decide +kernel
theorem dX4_owes_2 : decode cX4_owes 2 = .ok (.invokestatic 127, 3) := by decide +kernel
theorem dX4_owes_5 : decode cX4_owes 5 = .ok (.iconst 1, 1) := by decide +kernel
theorem dX4_owes_6 : decode cX4_owes 6 = .ok (.iconst 1, 1) := by decide +kernel
theorem dX4_owes_7 : decode cX4_owes 7 = .ok (.invokevirtual 116, 3) := by decide +kernel
theorem dX4_owes_10 : decode cX4_owes 10 = .ok (.ifCond .eq 12, 3) := by decide +kernel
theorem dX4_owes_13 : decode cX4_owes 13 = .ok (.aload_n 0, 1) := by decide +kernel
theorem dX4_owes_14 : decode cX4_owes 14 = .ok (.getfield 42, 3) := by decide +kernel
theorem dX4_owes_17 : decode cX4_owes 17 = .ok (.iload_n 1, 1) := by decide +kernel
theorem dX4_owes_18 : decode cX4_owes 18 = .ok (.iaload, 1) := by decide +kernel
theorem dX4_owes_19 : decode cX4_owes 19 = .ok (.goto 4, 3) := by decide +kernel
theorem dX4_owes_22 : decode cX4_owes 22 = .ok (.iconst 0, 1) := by decide +kernel
theorem dX4_owes_23 : decode cX4_owes 23 = .ok (.ireturn, 1) := by decide +kernel
set_option maxRecDepth 20000 in
theorem ggX4_balance_X4_isPartner : GoodIn wsX4_balance wsX4_isPartner := goodIn_r _ [8, 9, 10, 7, 11] (by decide +kernel) (by decide +kernel)
set_option maxRecDepth 20000 in
theorem gX4_balance_X4_isPartner : GoodIn wsX4_balance (va_wsS RX4 127 yX4_isPartner wsX4_isPartner) := goodIn_app (goodIn_of _ (by decide +kernel)) ggX4_balance_X4_isPartner
set_option maxRecDepth 20000 in
theorem ggX4_balance_X4_goes : GoodIn wsX4_balance wsX4_goes := goodIn_r _ [15, 16, 63, 64, 65, 66, 67, 68, 69, 70, 71, 72, 73, 74, 75, 76, 77, 78, 79, 80, 81, 82, 83, 84, 85, 86, 87] (by decide +kernel) (by decide +kernel)
set_option maxRecDepth 20000 in
theorem gX4_balance_X4_goes : GoodIn wsX4_balance (wsV RX4 116 RX4 yX4_goes wsX4_goes) := goodIn_app (goodIn_of _ (by decide +kernel)) ggX4_balance_X4_goes
set_option maxRecDepth 20000 in
theorem ggX4_balance_X4_allPaid : GoodIn wsX4_balance wsX4_allPaid := goodIn_r _ [20, 21, 22, 63, 64, 65, 66, 67, 68, 69, 70, 71, 72, 73, 74, 75, 76, 77, 78, 79, 80, 81, 82, 83, 84, 85, 86, 87] (by decide +kernel) (by decide +kernel)
set_option maxRecDepth 20000 in
theorem gX4_balance_X4_allPaid : GoodIn wsX4_balance (wsV RX4 156 RX4 yX4_allPaid wsX4_allPaid) := goodIn_app (goodIn_of _ (by decide +kernel)) ggX4_balance_X4_allPaid
set_option maxRecDepth 20000 in
theorem ggX4_balance_X4_works : GoodIn wsX4_balance wsX4_works := goodIn_r _ [26, 27, 28, 29, 30, 31, 4, 3, 32, 33, 34, 35, 36, 37, 38, 7, 39, 40, 41, 42, 43, 44, 45, 46, 47, 48, 49, 50, 51, 52, 53, 54, 55, 56, 57, 58, 59, 60, 61, 62, 63, 64, 65, 66, 67, 68, 69, 70, 71, 72, 73, 74, 75, 76, 77, 78, 79, 80, 81, 82, 83, 84, 85, 86, 87] (by decide +kernel) (by decide +kernel)
set_option maxRecDepth 20000 in
theorem gX4_balance_X4_works : GoodIn wsX4_balance (wsV RX4 144 RX4 yX4_works wsX4_works) := goodIn_app (goodIn_of _ (by decide +kernel)) ggX4_balance_X4_works
theorem dX4_balance_0 : decode cX4_balance 0 = .ok (.aload_n 0, 1) := by decide +kernel
theorem dX4_balance_1 : decode cX4_balance 1 = .ok (.iload_n 1, 1) := by decide +kernel
theorem dX4_balance_2 : decode cX4_balance 2 = .ok (.invokestatic 127, 3) := by decide +kernel
theorem dX4_balance_5 : decode cX4_balance 5 = .ok (.iconst 1, 1) := by decide +kernel
theorem dX4_balance_6 : decode cX4_balance 6 = .ok (.iconst 1, 1) := by decide +kernel
theorem dX4_balance_7 : decode cX4_balance 7 = .ok (.invokevirtual 116, 3) := by decide +kernel
theorem dX4_balance_10 : decode cX4_balance 10 = .ok (.ifCond .ne 5, 3) := by decide +kernel
theorem dX4_balance_13 : decode cX4_balance 13 = .ok (.lconst 0, 1) := by decide +kernel
theorem dX4_balance_14 : decode cX4_balance 14 = .ok (.lreturn, 1) := by decide +kernel
theorem dX4_balance_15 : decode cX4_balance 15 = .ok (.aload_n 0, 1) := by decide +kernel
theorem dX4_balance_16 : decode cX4_balance 16 = .ok (.iload_n 1, 1) := by decide +kernel
theorem dX4_balance_17 : decode cX4_balance 17 = .ok (.invokevirtual 156, 3) := by decide +kernel
theorem dX4_balance_20 : decode cX4_balance 20 = .ok (.i2l, 1) := by decide +kernel
theorem dX4_balance_21 : decode cX4_balance 21 = .ok (.aload_n 0, 1) := by decide +kernel
theorem dX4_balance_22 : decode cX4_balance 22 = .ok (.getfield 42, 3) := by decide +kernel
theorem dX4_balance_25 : decode cX4_balance 25 = .ok (.iload_n 1, 1) := by decide +kernel
theorem dX4_balance_26 : decode cX4_balance 26 = .ok (.iaload, 1) := by decide +kernel
theorem dX4_balance_27 : decode cX4_balance 27 = .ok (.i2l, 1) := by decide +kernel
theorem dX4_balance_28 : decode cX4_balance 28 = .ok (.lsub, 1) := by decide +kernel
theorem dX4_balance_29 : decode cX4_balance 29 = .ok (.lstore_n 2, 1) := by decide +kernel
theorem dX4_balance_30 : decode cX4_balance 30 = .ok (.iconst 0, 1) := by decide +kernel
theorem dX4_balance_31 : decode cX4_balance 31 = .ok (.istore 4, 2) := by decide +kernel
theorem dX4_balance_33 : decode cX4_balance 33 = .ok (.iload 4, 2) := by decide +kernel
theorem dX4_balance_35 : decode cX4_balance 35 = .ok (.aload_n 0, 1) := by decide +kernel
theorem dX4_balance_36 : decode cX4_balance 36 = .ok (.getfield 80, 3) := by decide +kernel
theorem dX4_balance_39 : decode cX4_balance 39 = .ok (.if_icmp .ge 32, 3) := by decide +kernel
theorem dX4_balance_42 : decode cX4_balance 42 = .ok (.aload_n 0, 1) := by decide +kernel
theorem dX4_balance_43 : decode cX4_balance 43 = .ok (.iload 4, 2) := by decide +kernel
theorem dX4_balance_45 : decode cX4_balance 45 = .ok (.invokevirtual 144, 3) := by decide +kernel
theorem dX4_balance_48 : decode cX4_balance 48 = .ok (.lload_n 2, 1) := by decide +kernel
theorem dX4_balance_49 : decode cX4_balance 49 = .ok (.aload_n 0, 1) := by decide +kernel
theorem dX4_balance_50 : decode cX4_balance 50 = .ok (.getfield 58, 3) := by decide +kernel
theorem dX4_balance_53 : decode cX4_balance 53 = .ok (.iload_n 1, 1) := by decide +kernel
theorem dX4_balance_54 : decode cX4_balance 54 = .ok (.iaload, 1) := by decide +kernel
theorem dX4_balance_55 : decode cX4_balance 55 = .ok (.aload_n 0, 1) := by decide +kernel
theorem dX4_balance_56 : decode cX4_balance 56 = .ok (.getfield 55, 3) := by decide +kernel
theorem dX4_balance_59 : decode cX4_balance 59 = .ok (.iload_n 1, 1) := by decide +kernel
theorem dX4_balance_60 : decode cX4_balance 60 = .ok (.iaload, 1) := by decide +kernel
theorem dX4_balance_61 : decode cX4_balance 61 = .ok (.isub, 1) := by decide +kernel
theorem dX4_balance_62 : decode cX4_balance 62 = .ok (.i2l, 1) := by decide +kernel
theorem dX4_balance_63 : decode cX4_balance 63 = .ok (.ladd, 1) := by decide +kernel
theorem dX4_balance_64 : decode cX4_balance 64 = .ok (.lstore_n 2, 1) := by decide +kernel
theorem dX4_balance_65 : decode cX4_balance 65 = .ok (.iinc 4 1, 3) := by decide +kernel
theorem dX4_balance_68 : decode cX4_balance 68 = .ok (.goto (-35), 3) := by decide +kernel
theorem dX4_balance_71 : decode cX4_balance 71 = .ok (.lload_n 2, 1) := by decide +kernel
theorem dX4_balance_72 : decode cX4_balance 72 = .ok (.lreturn, 1) := by decide +kernel
theorem dJ9_min_f86c9_0 : decode cJ9_min_f86c9 0 = .ok (.lload_n 0, 1) := by decide +kernel
theorem dJ9_min_f86c9_1 : decode cJ9_min_f86c9 1 = .ok (.lload_n 2, 1) := by decide +kernel
theorem dJ9_min_f86c9_2 : decode cJ9_min_f86c9 2 = .ok (.lcmp, 1) := by decide +kernel
theorem dJ9_min_f86c9_3 : decode cJ9_min_f86c9 3 = .ok (.ifCond .gt 7, 3) := by decide +kernel
theorem dJ9_min_f86c9_6 : decode cJ9_min_f86c9 6 = .ok (.lload_n 0, 1) := by decide +kernel
theorem dJ9_min_f86c9_7 : decode cJ9_min_f86c9 7 = .ok (.goto 4, 3) := by decide +kernel
theorem dJ9_min_f86c9_10 : decode cJ9_min_f86c9 10 = .ok (.lload_n 2, 1) := by decide +kernel
theorem dJ9_min_f86c9_11 : decode cJ9_min_f86c9 11 = .ok (.lreturn, 1) := by decide +kernel
theorem dJ7_fill_d0a16_0 : decode cJ7_fill_d0a16 0 = .ok (.iconst 0, 1) := by decide +kernel
theorem dJ7_fill_d0a16_1 : decode cJ7_fill_d0a16 1 = .ok (.istore_n 3, 1) := by decide +kernel
theorem dJ7_fill_d0a16_2 : decode cJ7_fill_d0a16 2 = .ok (.aload_n 0, 1) := by decide +kernel
theorem dJ7_fill_d0a16_3 : decode cJ7_fill_d0a16 3 = .ok (.arraylength, 1) := by decide +kernel
theorem dJ7_fill_d0a16_4 : decode cJ7_fill_d0a16 4 = .ok (.istore 4, 2) := by decide +kernel
theorem dJ7_fill_d0a16_6 : decode cJ7_fill_d0a16 6 = .ok (.iload_n 3, 1) := by decide +kernel
theorem dJ7_fill_d0a16_7 : decode cJ7_fill_d0a16 7 = .ok (.iload 4, 2) := by decide +kernel
theorem dJ7_fill_d0a16_9 : decode cJ7_fill_d0a16 9 = .ok (.if_icmp .ge 13, 3) := by decide +kernel
theorem dJ7_fill_d0a16_12 : decode cJ7_fill_d0a16 12 = .ok (.aload_n 0, 1) := by decide +kernel
theorem dJ7_fill_d0a16_13 : decode cJ7_fill_d0a16 13 = .ok (.iload_n 3, 1) := by decide +kernel
theorem dJ7_fill_d0a16_14 : decode cJ7_fill_d0a16 14 = .ok (.lload_n 1, 1) := by decide +kernel
theorem dJ7_fill_d0a16_15 : decode cJ7_fill_d0a16 15 = .ok (.lastore, 1) := by decide +kernel
theorem dJ7_fill_d0a16_16 : decode cJ7_fill_d0a16 16 = .ok (.iinc 3 1, 3) := by decide +kernel
theorem dJ7_fill_d0a16_19 : decode cJ7_fill_d0a16 19 = .ok (.goto (-13), 3) := by decide +kernel
theorem dJ7_fill_d0a16_22 : decode cJ7_fill_d0a16 22 = .ok (.return_, 1) := by decide +kernel
theorem dJ7_fill_53178_0 : decode cJ7_fill_53178 0 = .ok (.iconst 0, 1) := by decide +kernel
theorem dJ7_fill_53178_1 : decode cJ7_fill_53178 1 = .ok (.istore_n 2, 1) := by decide +kernel
theorem dJ7_fill_53178_2 : decode cJ7_fill_53178 2 = .ok (.aload_n 0, 1) := by decide +kernel
theorem dJ7_fill_53178_3 : decode cJ7_fill_53178 3 = .ok (.arraylength, 1) := by decide +kernel
theorem dJ7_fill_53178_4 : decode cJ7_fill_53178 4 = .ok (.istore_n 3, 1) := by decide +kernel
theorem dJ7_fill_53178_5 : decode cJ7_fill_53178 5 = .ok (.iload_n 2, 1) := by decide +kernel
theorem dJ7_fill_53178_6 : decode cJ7_fill_53178 6 = .ok (.iload_n 3, 1) := by decide +kernel
theorem dJ7_fill_53178_7 : decode cJ7_fill_53178 7 = .ok (.if_icmp .ge 13, 3) := by decide +kernel
theorem dJ7_fill_53178_10 : decode cJ7_fill_53178 10 = .ok (.aload_n 0, 1) := by decide +kernel
theorem dJ7_fill_53178_11 : decode cJ7_fill_53178 11 = .ok (.iload_n 2, 1) := by decide +kernel
theorem dJ7_fill_53178_12 : decode cJ7_fill_53178 12 = .ok (.iload_n 1, 1) := by decide +kernel
theorem dJ7_fill_53178_13 : decode cJ7_fill_53178 13 = .ok (.iastore, 1) := by decide +kernel
theorem dJ7_fill_53178_14 : decode cJ7_fill_53178 14 = .ok (.iinc 2 1, 3) := by decide +kernel
theorem dJ7_fill_53178_17 : decode cJ7_fill_53178 17 = .ok (.goto (-12), 3) := by decide +kernel
theorem dJ7_fill_53178_20 : decode cJ7_fill_53178 20 = .ok (.return_, 1) := by decide +kernel
set_option maxRecDepth 20000 in
theorem ggL_setShares_X3_setShares : GoodIn wsL_setShares wsX3_setShares := goodIn_ca (goodIn_ca (goodIn_r _ [7, 8, 9, 10, 11, 12, 13, 14, 15, 16, 6, 17, 18, 19, 20, 21, 22, 23, 24, 25, 26, 27, 28, 29, 30, 31, 32] (by decide +kernel) (by decide +kernel)) (goodIn_sub (fun _ h => List.mem_cons_of_mem _ (List.mem_append_left _ (List.mem_append_right _ h))) (by decide +kernel))) (goodIn_sub (fun _ h => List.mem_cons_of_mem _ (List.mem_append_right _ h)) (by decide +kernel))
set_option maxRecDepth 20000 in
theorem gL_setShares_X3_setShares : GoodIn wsL_setShares (wsV RL 7 RX3 yX3_setShares wsX3_setShares) := goodIn_app (goodIn_of _ (by decide +kernel)) ggL_setShares_X3_setShares
theorem dL_setShares_0 : decode cL_setShares 0 = .ok (.aload_n 0, 1) := by decide +kernel
theorem dL_setShares_1 : decode cL_setShares 1 = .ok (.iload_n 1, 1) := by decide +kernel
theorem dL_setShares_2 : decode cL_setShares 2 = .ok (.iload_n 2, 1) := by decide +kernel
theorem dL_setShares_3 : decode cL_setShares 3 = .ok (.iload_n 3, 1) := by decide +kernel
theorem dL_setShares_4 : decode cL_setShares 4 = .ok (.iload 4, 2) := by decide +kernel
theorem dL_setShares_6 : decode cL_setShares 6 = .ok (.iload 5, 2) := by decide +kernel
theorem dL_setShares_8 : decode cL_setShares 8 = .ok (.invokevirtual 7, 3) := by decide +kernel
theorem dL_setShares_11 : decode cL_setShares 11 = .ok (.goto 11, 3) := by decide +kernel
theorem dL_setShares_14 : decode cL_setShares 14 = .ok (.astore 6, 2) := by decide +kernel
theorem dL_setShares_16 : decode cL_setShares 16 = .ok (.iconst 1, 1) := by decide +kernel
theorem dL_setShares_17 : decode cL_setShares 17 = .ok (.ireturn, 1) := by decide +kernel
theorem dL_setShares_18 : decode cL_setShares 18 = .ok (.astore 6, 2) := by decide +kernel
theorem dL_setShares_20 : decode cL_setShares 20 = .ok (.iconst 2, 1) := by decide +kernel
theorem dL_setShares_21 : decode cL_setShares 21 = .ok (.ireturn, 1) := by decide +kernel
theorem dL_setShares_22 : decode cL_setShares 22 = .ok (.iconst 0, 1) := by decide +kernel
theorem dL_setShares_23 : decode cL_setShares 23 = .ok (.ireturn, 1) := by decide +kernel
set_option maxRecDepth 20000 in
theorem ggL_setPenalty_X3_setPenalty : GoodIn wsL_setPenalty wsX3_setPenalty := goodIn_ca (goodIn_r _ [6, 7, 8, 9, 10, 5, 11, 12, 13, 14, 15, 16, 17, 18, 19, 20, 21, 22, 23, 24, 25, 26, 27, 28] (by decide +kernel) (by decide +kernel)) (goodIn_sub (fun _ h => List.mem_cons_of_mem _ (List.mem_append_right _ h)) (by decide +kernel))
set_option maxRecDepth 20000 in
theorem gL_setPenalty_X3_setPenalty : GoodIn wsL_setPenalty (wsV RL 17 RX3 yX3_setPenalty wsX3_setPenalty) := goodIn_app (goodIn_of _ (by decide +kernel)) ggL_setPenalty_X3_setPenalty
theorem dL_setPenalty_0 : decode cL_setPenalty 0 = .ok (.aload_n 2, 1) := by decide +kernel
theorem dL_setPenalty_1 : decode cL_setPenalty 1 = .ok (.iconst 0, 1) := by decide +kernel
theorem dL_setPenalty_2 : decode cL_setPenalty 2 = .ok (.aload_n 0, 1) := by decide +kernel
theorem dL_setPenalty_3 : decode cL_setPenalty 3 = .ok (.iload_n 1, 1) := by decide +kernel
theorem dL_setPenalty_4 : decode cL_setPenalty 4 = .ok (.invokevirtual 17, 3) := by decide +kernel
theorem dL_setPenalty_7 : decode cL_setPenalty 7 = .ok (.i2l, 1) := by decide +kernel
theorem dL_setPenalty_8 : decode cL_setPenalty 8 = .ok (.lastore, 1) := by decide +kernel
theorem dL_setPenalty_9 : decode cL_setPenalty 9 = .ok (.goto 6, 3) := by decide +kernel
theorem dL_setPenalty_12 : decode cL_setPenalty 12 = .ok (.astore_n 3, 1) := by decide +kernel
theorem dL_setPenalty_13 : decode cL_setPenalty 13 = .ok (.iconst 1, 1) := by decide +kernel
theorem dL_setPenalty_14 : decode cL_setPenalty 14 = .ok (.ireturn, 1) := by decide +kernel
theorem dL_setPenalty_15 : decode cL_setPenalty 15 = .ok (.iconst 0, 1) := by decide +kernel
theorem dL_setPenalty_16 : decode cL_setPenalty 16 = .ok (.ireturn, 1) := by decide +kernel
set_option maxRecDepth 20000 in
theorem ggL_setOverhead_X3_setOverhead : GoodIn wsL_setOverhead wsX3_setOverhead := goodIn_ca (goodIn_r _ [6, 7, 8, 9, 10, 11, 5, 12, 13, 14, 15, 16, 17, 18, 19, 20, 21, 22, 23, 24, 25, 26, 27, 28, 29] (by decide +kernel) (by decide +kernel)) (goodIn_sub (fun _ h => List.mem_cons_of_mem _ (List.mem_append_right _ h)) (by decide +kernel))
set_option maxRecDepth 20000 in
theorem gL_setOverhead_X3_setOverhead : GoodIn wsL_setOverhead (wsV RL 21 RX3 yX3_setOverhead wsX3_setOverhead) := goodIn_app (goodIn_of _ (by decide +kernel)) ggL_setOverhead_X3_setOverhead
theorem dL_setOverhead_0 : decode cL_setOverhead 0 = .ok (.aload_n 2, 1) := by decide +kernel
theorem dL_setOverhead_1 : decode cL_setOverhead 1 = .ok (.iconst 0, 1) := by decide +kernel
theorem dL_setOverhead_2 : decode cL_setOverhead 2 = .ok (.aload_n 0, 1) := by decide +kernel
theorem dL_setOverhead_3 : decode cL_setOverhead 3 = .ok (.iload_n 1, 1) := by decide +kernel
theorem dL_setOverhead_4 : decode cL_setOverhead 4 = .ok (.invokevirtual 21, 3) := by decide +kernel
theorem dL_setOverhead_7 : decode cL_setOverhead 7 = .ok (.i2l, 1) := by decide +kernel
theorem dL_setOverhead_8 : decode cL_setOverhead 8 = .ok (.lastore, 1) := by decide +kernel
theorem dL_setOverhead_9 : decode cL_setOverhead 9 = .ok (.goto 6, 3) := by decide +kernel
theorem dL_setOverhead_12 : decode cL_setOverhead 12 = .ok (.astore_n 3, 1) := by decide +kernel
theorem dL_setOverhead_13 : decode cL_setOverhead 13 = .ok (.iconst 1, 1) := by decide +kernel
theorem dL_setOverhead_14 : decode cL_setOverhead 14 = .ok (.ireturn, 1) := by decide +kernel
theorem dL_setOverhead_15 : decode cL_setOverhead 15 = .ok (.iconst 0, 1) := by decide +kernel
theorem dL_setOverhead_16 : decode cL_setOverhead 16 = .ok (.ireturn, 1) := by decide +kernel
set_option maxRecDepth 20000 in
theorem ggL_addWell_X3_addWell : GoodIn wsL_addWell wsX3_addWell := goodIn_ca (goodIn_r _ [6, 7, 8, 9, 10, 11, 12, 13, 14, 15, 16, 17, 18, 19, 20, 21, 22, 23, 24, 25, 26, 27, 28, 29, 30, 31, 32, 33, 34, 35] (by decide +kernel) (by decide +kernel)) (goodIn_sub (fun _ h => List.mem_cons_of_mem _ (List.mem_append_right _ h)) (by decide +kernel))
set_option maxRecDepth 20000 in
theorem gL_addWell_X3_addWell : GoodIn wsL_addWell (wsV RL 24 RX3 yX3_addWell wsX3_addWell) := goodIn_app (goodIn_of _ (by decide +kernel)) ggL_addWell_X3_addWell
theorem dL_addWell_0 : decode cL_addWell 0 = .ok (.aload_n 1, 1) := by decide +kernel
theorem dL_addWell_1 : decode cL_addWell 1 = .ok (.iconst 0, 1) := by decide +kernel
theorem dL_addWell_2 : decode cL_addWell 2 = .ok (.aload_n 0, 1) := by decide +kernel
theorem dL_addWell_3 : decode cL_addWell 3 = .ok (.invokevirtual 24, 3) := by decide +kernel
theorem dL_addWell_6 : decode cL_addWell 6 = .ok (.i2l, 1) := by decide +kernel
theorem dL_addWell_7 : decode cL_addWell 7 = .ok (.lastore, 1) := by decide +kernel
theorem dL_addWell_8 : decode cL_addWell 8 = .ok (.goto 6, 3) := by decide +kernel
theorem dL_addWell_11 : decode cL_addWell 11 = .ok (.astore_n 2, 1) := by decide +kernel
theorem dL_addWell_12 : decode cL_addWell 12 = .ok (.iconst 1, 1) := by decide +kernel
theorem dL_addWell_13 : decode cL_addWell 13 = .ok (.ireturn, 1) := by decide +kernel
theorem dL_addWell_14 : decode cL_addWell 14 = .ok (.iconst 0, 1) := by decide +kernel
theorem dL_addWell_15 : decode cL_addWell 15 = .ok (.ireturn, 1) := by decide +kernel
set_option maxRecDepth 20000 in
theorem ggL_elect_X3_elect : GoodIn wsL_elect wsX3_elect := goodIn_ca (goodIn_ca (goodIn_r _ [7, 8, 9, 10, 11, 12, 13, 14, 15, 16, 17, 6, 18, 19, 20, 21, 22, 23, 24, 25, 26, 27, 28, 29, 30, 31, 32, 33, 34, 35, 36, 37, 38, 39, 40, 41, 42, 43, 44, 45, 46, 47, 48, 49, 50, 51, 52, 53, 54, 55, 56] (by decide +kernel) (by decide +kernel)) (goodIn_sub (fun _ h => List.mem_cons_of_mem _ (List.mem_append_left _ (List.mem_append_right _ h))) (by decide +kernel))) (goodIn_sub (fun _ h => List.mem_cons_of_mem _ (List.mem_append_right _ h)) (by decide +kernel))
set_option maxRecDepth 20000 in
theorem gL_elect_X3_elect : GoodIn wsL_elect (wsV RL 28 RX3 yX3_elect wsX3_elect) := goodIn_app (goodIn_of _ (by decide +kernel)) ggL_elect_X3_elect
theorem dL_elect_0 : decode cL_elect 0 = .ok (.aload 4, 2) := by decide +kernel
theorem dL_elect_2 : decode cL_elect 2 = .ok (.iconst 0, 1) := by decide +kernel
theorem dL_elect_3 : decode cL_elect 3 = .ok (.aload_n 0, 1) := by decide +kernel
theorem dL_elect_4 : decode cL_elect 4 = .ok (.iload_n 1, 1) := by decide +kernel
theorem dL_elect_5 : decode cL_elect 5 = .ok (.iload_n 2, 1) := by decide +kernel
theorem dL_elect_6 : decode cL_elect 6 = .ok (.iload_n 3, 1) := by decide +kernel
theorem dL_elect_7 : decode cL_elect 7 = .ok (.invokevirtual 28, 3) := by decide +kernel
theorem dL_elect_10 : decode cL_elect 10 = .ok (.ifCond .eq 7, 3) := by decide +kernel
theorem dL_elect_13 : decode cL_elect 13 = .ok (.lconst 1, 1) := by decide +kernel
theorem dL_elect_14 : decode cL_elect 14 = .ok (.goto 4, 3) := by decide +kernel
theorem dL_elect_17 : decode cL_elect 17 = .ok (.lconst 0, 1) := by decide +kernel
theorem dL_elect_18 : decode cL_elect 18 = .ok (.lastore, 1) := by decide +kernel
theorem dL_elect_19 : decode cL_elect 19 = .ok (.goto 11, 3) := by decide +kernel
theorem dL_elect_22 : decode cL_elect 22 = .ok (.astore 5, 2) := by decide +kernel
theorem dL_elect_24 : decode cL_elect 24 = .ok (.iconst 1, 1) := by decide +kernel
theorem dL_elect_25 : decode cL_elect 25 = .ok (.ireturn, 1) := by decide +kernel
theorem dL_elect_26 : decode cL_elect 26 = .ok (.astore 5, 2) := by decide +kernel
theorem dL_elect_28 : decode cL_elect 28 = .ok (.iconst 2, 1) := by decide +kernel
theorem dL_elect_29 : decode cL_elect 29 = .ok (.ireturn, 1) := by decide +kernel
theorem dL_elect_30 : decode cL_elect 30 = .ok (.iconst 0, 1) := by decide +kernel
theorem dL_elect_31 : decode cL_elect 31 = .ok (.ireturn, 1) := by decide +kernel
set_option maxRecDepth 20000 in
theorem ggL_cost_X3_cost : GoodIn wsL_cost wsX3_cost := goodIn_ca (goodIn_ca (goodIn_ca (goodIn_r _ [8, 9, 10, 11, 12, 7, 13, 14, 15, 16, 17, 18, 19, 20, 21, 22, 23, 24, 25, 26, 27, 28, 29, 30, 31, 32, 33, 34, 35, 36, 37, 38, 39, 40, 41, 42, 43, 44, 45, 46, 47, 48, 49, 50, 51, 52, 53, 54, 55, 56, 57, 58, 59, 60, 61, 62, 63, 64, 65, 66, 67, 68, 69, 70, 71, 72, 73, 74, 75, 76, 77, 78, 79, 80, 81, 82, 83, 84, 85, 86, 87, 88, 89, 90, 91, 92, 93, 94, 95, 96, 97, 98, 99, 100, 101, 102, 103, 104, 105, 106, 107, 108, 109, 110, 111, 112, 113, 114, 115, 116, 117, 118, 119, 120, 121, 122, 123, 124, 125, 126, 127, 128, 129, 130, 131, 132, 133, 134, 135, 136, 137, 138, 139, 140] (by decide +kernel) (by decide +kernel)) (goodIn_sub (fun _ h => List.mem_cons_of_mem _ (List.mem_append_left _ (List.mem_append_left _ (List.mem_append_right _ h)))) (by decide +kernel))) (goodIn_sub (fun _ h => List.mem_cons_of_mem _ (List.mem_append_left _ (List.mem_append_right _ h))) (by decide +kernel))) (goodIn_sub (fun _ h => List.mem_cons_of_mem _ (List.mem_append_right _ h)) (by decide +kernel))
set_option maxRecDepth 20000 in
theorem gL_cost_X3_cost : GoodIn wsL_cost (wsV RL 34 RX3 yX3_cost wsX3_cost) := goodIn_app (goodIn_of _ (by decide +kernel)) ggL_cost_X3_cost
theorem dL_cost_0 : decode cL_cost 0 = .ok (.aload_n 3, 1) := by decide +kernel
theorem dL_cost_1 : decode cL_cost 1 = .ok (.iconst 0, 1) := by decide +kernel
theorem dL_cost_2 : decode cL_cost 2 = .ok (.aload_n 0, 1) := by decide +kernel
theorem dL_cost_3 : decode cL_cost 3 = .ok (.iload_n 1, 1) := by decide +kernel
theorem dL_cost_4 : decode cL_cost 4 = .ok (.iload_n 2, 1) := by decide +kernel
theorem dL_cost_5 : decode cL_cost 5 = .ok (.invokevirtual 34, 3) := by decide +kernel
theorem dL_cost_8 : decode cL_cost 8 = .ok (.i2l, 1) := by decide +kernel
theorem dL_cost_9 : decode cL_cost 9 = .ok (.lastore, 1) := by decide +kernel
theorem dL_cost_10 : decode cL_cost 10 = .ok (.goto 15, 3) := by decide +kernel
theorem dL_cost_13 : decode cL_cost 13 = .ok (.astore 4, 2) := by decide +kernel
theorem dL_cost_15 : decode cL_cost 15 = .ok (.iconst 1, 1) := by decide +kernel
theorem dL_cost_16 : decode cL_cost 16 = .ok (.ireturn, 1) := by decide +kernel
theorem dL_cost_17 : decode cL_cost 17 = .ok (.astore 4, 2) := by decide +kernel
theorem dL_cost_19 : decode cL_cost 19 = .ok (.iconst 2, 1) := by decide +kernel
theorem dL_cost_20 : decode cL_cost 20 = .ok (.ireturn, 1) := by decide +kernel
theorem dL_cost_21 : decode cL_cost 21 = .ok (.astore 4, 2) := by decide +kernel
theorem dL_cost_23 : decode cL_cost 23 = .ok (.iconst 3, 1) := by decide +kernel
theorem dL_cost_24 : decode cL_cost 24 = .ok (.ireturn, 1) := by decide +kernel
theorem dL_cost_25 : decode cL_cost 25 = .ok (.iconst 0, 1) := by decide +kernel
theorem dL_cost_26 : decode cL_cost 26 = .ok (.ireturn, 1) := by decide +kernel
set_option maxRecDepth 20000 in
theorem ggL_overhead_X3_overhead : GoodIn wsL_overhead wsX3_overhead := goodIn_ca (goodIn_ca (goodIn_ca (goodIn_r _ [8, 9, 10, 11, 12, 13, 14, 7, 15, 16, 17, 18, 19, 20, 21, 22, 23, 24, 25, 26, 27, 28, 29, 30, 31, 32, 33, 34, 35, 36, 37, 38, 39, 40, 41, 42, 43, 44, 45, 46, 47, 48, 49, 50, 51, 52, 53, 54, 55, 56, 57, 58, 59, 60, 61, 62, 63, 64, 65, 66, 67, 68, 69, 70, 71, 72, 73, 74, 75, 76, 77, 78, 79, 80, 81, 82, 83, 84, 85, 86, 87, 88, 89, 90, 91, 92, 93, 94, 95, 96, 97, 98, 99, 100, 101, 102, 103, 104, 105, 106, 107, 108, 109, 110, 111, 112, 113, 114, 115, 116, 117, 118, 119, 120, 121, 122, 123, 124, 125, 126, 127, 128, 129, 130, 131, 132, 133, 134, 135, 136, 137, 138, 139, 140] (by decide +kernel) (by decide +kernel)) (goodIn_sub (fun _ h => List.mem_cons_of_mem _ (List.mem_append_left _ (List.mem_append_left _ (List.mem_append_right _ h)))) (by decide +kernel))) (goodIn_sub (fun _ h => List.mem_cons_of_mem _ (List.mem_append_left _ (List.mem_append_right _ h))) (by decide +kernel))) (goodIn_sub (fun _ h => List.mem_cons_of_mem _ (List.mem_append_right _ h)) (by decide +kernel))
set_option maxRecDepth 20000 in
theorem gL_overhead_X3_overhead : GoodIn wsL_overhead (wsV RL 38 RX3 yX3_overhead wsX3_overhead) := goodIn_app (goodIn_of _ (by decide +kernel)) ggL_overhead_X3_overhead
theorem dL_overhead_0 : decode cL_overhead 0 = .ok (.aload_n 3, 1) := by decide +kernel
theorem dL_overhead_1 : decode cL_overhead 1 = .ok (.iconst 0, 1) := by decide +kernel
theorem dL_overhead_2 : decode cL_overhead 2 = .ok (.aload_n 0, 1) := by decide +kernel
theorem dL_overhead_3 : decode cL_overhead 3 = .ok (.iload_n 1, 1) := by decide +kernel
theorem dL_overhead_4 : decode cL_overhead 4 = .ok (.iload_n 2, 1) := by decide +kernel
theorem dL_overhead_5 : decode cL_overhead 5 = .ok (.invokevirtual 38, 3) := by decide +kernel
theorem dL_overhead_8 : decode cL_overhead 8 = .ok (.i2l, 1) := by decide +kernel
theorem dL_overhead_9 : decode cL_overhead 9 = .ok (.lastore, 1) := by decide +kernel
theorem dL_overhead_10 : decode cL_overhead 10 = .ok (.goto 15, 3) := by decide +kernel
theorem dL_overhead_13 : decode cL_overhead 13 = .ok (.astore 4, 2) := by decide +kernel
theorem dL_overhead_15 : decode cL_overhead 15 = .ok (.iconst 1, 1) := by decide +kernel
theorem dL_overhead_16 : decode cL_overhead 16 = .ok (.ireturn, 1) := by decide +kernel
theorem dL_overhead_17 : decode cL_overhead 17 = .ok (.astore 4, 2) := by decide +kernel
theorem dL_overhead_19 : decode cL_overhead 19 = .ok (.iconst 2, 1) := by decide +kernel
theorem dL_overhead_20 : decode cL_overhead 20 = .ok (.ireturn, 1) := by decide +kernel
theorem dL_overhead_21 : decode cL_overhead 21 = .ok (.astore 4, 2) := by decide +kernel
theorem dL_overhead_23 : decode cL_overhead 23 = .ok (.iconst 3, 1) := by decide +kernel
theorem dL_overhead_24 : decode cL_overhead 24 = .ok (.ireturn, 1) := by decide +kernel
theorem dL_overhead_25 : decode cL_overhead 25 = .ok (.iconst 0, 1) := by decide +kernel
theorem dL_overhead_26 : decode cL_overhead 26 = .ok (.ireturn, 1) := by decide +kernel
set_option maxRecDepth 20000 in
theorem ggL_income_X3_income : GoodIn wsL_income wsX3_income := goodIn_ca (goodIn_ca (goodIn_ca (goodIn_r _ [8, 9, 10, 11, 12, 7, 13, 14, 15, 16, 17, 18, 19, 20, 21, 22, 23, 24, 25, 26, 27, 28, 29, 30, 31, 32, 33, 34, 35, 36, 37, 38, 39, 40, 41, 42, 43, 44, 45, 46, 47, 48, 49, 50, 51, 52, 53, 54, 55, 56, 57, 58, 59, 60, 61, 62, 63, 64, 65, 66, 67, 68, 69, 70, 71, 72, 73, 74, 75, 76, 77, 78, 79, 80, 81, 82, 83, 84, 85, 86, 87, 88, 89, 90, 91, 92, 93, 94, 95, 96, 97, 98, 99, 100, 101, 102, 103, 104, 105, 106, 107, 108, 109, 110, 111, 112, 113, 114, 115, 116, 117, 118, 119, 120, 121, 122, 123, 124, 125, 126, 127, 128, 129, 130, 131, 132, 133, 134, 135, 136, 137, 138, 139, 140] (by decide +kernel) (by decide +kernel)) (goodIn_sub (fun _ h => List.mem_cons_of_mem _ (List.mem_append_left _ (List.mem_append_left _ (List.mem_append_right _ h)))) (by decide +kernel))) (goodIn_sub (fun _ h => List.mem_cons_of_mem _ (List.mem_append_left _ (List.mem_append_right _ h))) (by decide +kernel))) (goodIn_sub (fun _ h => List.mem_cons_of_mem _ (List.mem_append_right _ h)) (by decide +kernel))
set_option maxRecDepth 20000 in
theorem gL_income_X3_income : GoodIn wsL_income (wsV RL 41 RX3 yX3_income wsX3_income) := goodIn_app (goodIn_of _ (by decide +kernel)) ggL_income_X3_income
theorem dL_income_0 : decode cL_income 0 = .ok (.aload_n 3, 1) := by decide +kernel
theorem dL_income_1 : decode cL_income 1 = .ok (.iconst 0, 1) := by decide +kernel
theorem dL_income_2 : decode cL_income 2 = .ok (.aload_n 0, 1) := by decide +kernel
theorem dL_income_3 : decode cL_income 3 = .ok (.iload_n 1, 1) := by decide +kernel
theorem dL_income_4 : decode cL_income 4 = .ok (.iload_n 2, 1) := by decide +kernel
theorem dL_income_5 : decode cL_income 5 = .ok (.invokevirtual 41, 3) := by decide +kernel
theorem dL_income_8 : decode cL_income 8 = .ok (.i2l, 1) := by decide +kernel
theorem dL_income_9 : decode cL_income 9 = .ok (.lastore, 1) := by decide +kernel
theorem dL_income_10 : decode cL_income 10 = .ok (.goto 15, 3) := by decide +kernel
theorem dL_income_13 : decode cL_income 13 = .ok (.astore 4, 2) := by decide +kernel
theorem dL_income_15 : decode cL_income 15 = .ok (.iconst 1, 1) := by decide +kernel
theorem dL_income_16 : decode cL_income 16 = .ok (.ireturn, 1) := by decide +kernel
theorem dL_income_17 : decode cL_income 17 = .ok (.astore 4, 2) := by decide +kernel
theorem dL_income_19 : decode cL_income 19 = .ok (.iconst 2, 1) := by decide +kernel
theorem dL_income_20 : decode cL_income 20 = .ok (.ireturn, 1) := by decide +kernel
theorem dL_income_21 : decode cL_income 21 = .ok (.astore 4, 2) := by decide +kernel
theorem dL_income_23 : decode cL_income 23 = .ok (.iconst 3, 1) := by decide +kernel
theorem dL_income_24 : decode cL_income 24 = .ok (.ireturn, 1) := by decide +kernel
theorem dL_income_25 : decode cL_income 25 = .ok (.iconst 0, 1) := by decide +kernel
theorem dL_income_26 : decode cL_income 26 = .ok (.ireturn, 1) := by decide +kernel
set_option maxRecDepth 20000 in
theorem ggL_move_X3_move : GoodIn wsL_move wsX3_move := goodIn_ca (goodIn_ca (goodIn_r _ [7, 8, 9, 10, 11, 12, 13, 14, 15, 16, 6, 17, 18, 19, 20, 21, 22, 23, 24, 25, 26, 27, 28, 29, 30, 31, 32, 33, 34, 35, 36, 37, 38, 39, 40, 41, 42, 43, 44, 45, 46, 47, 48, 49, 50, 51, 52, 53, 54, 55, 56, 57, 58, 59, 60, 61, 62, 63, 64, 65, 66, 67, 68, 69, 70, 71, 72, 73, 74, 75, 76, 77, 78, 79, 80, 81, 82, 83, 84, 85, 86, 87, 88, 89, 90, 91, 92, 93, 94, 95, 96, 97, 98, 99, 100, 101, 102, 103, 104, 105, 106, 107, 108, 109, 110, 111, 112, 113, 114, 115, 116, 117, 118, 119, 120, 121, 122, 123, 124, 125, 126, 127, 128, 129, 130, 131, 132, 133, 134, 135, 136, 137, 138, 139, 140, 141, 142, 143] (by decide +kernel) (by decide +kernel)) (goodIn_sub (fun _ h => List.mem_cons_of_mem _ (List.mem_append_left _ (List.mem_append_right _ h))) (by decide +kernel))) (goodIn_sub (fun _ h => List.mem_cons_of_mem _ (List.mem_append_right _ h)) (by decide +kernel))
set_option maxRecDepth 20000 in
theorem gL_move_X3_move : GoodIn wsL_move (wsV RL 44 RX3 yX3_move wsX3_move) := goodIn_app (goodIn_of _ (by decide +kernel)) ggL_move_X3_move
theorem dL_move_0 : decode cL_move 0 = .ok (.aload_n 3, 1) := by decide +kernel
theorem dL_move_1 : decode cL_move 1 = .ok (.iconst 0, 1) := by decide +kernel
theorem dL_move_2 : decode cL_move 2 = .ok (.aload_n 0, 1) := by decide +kernel
theorem dL_move_3 : decode cL_move 3 = .ok (.iload_n 1, 1) := by decide +kernel
theorem dL_move_4 : decode cL_move 4 = .ok (.iload_n 2, 1) := by decide +kernel
theorem dL_move_5 : decode cL_move 5 = .ok (.invokevirtual 44, 3) := by decide +kernel
theorem dL_move_8 : decode cL_move 8 = .ok (.i2l, 1) := by decide +kernel
theorem dL_move_9 : decode cL_move 9 = .ok (.lastore, 1) := by decide +kernel
theorem dL_move_10 : decode cL_move 10 = .ok (.goto 11, 3) := by decide +kernel
theorem dL_move_13 : decode cL_move 13 = .ok (.astore 4, 2) := by decide +kernel
theorem dL_move_15 : decode cL_move 15 = .ok (.iconst 1, 1) := by decide +kernel
theorem dL_move_16 : decode cL_move 16 = .ok (.ireturn, 1) := by decide +kernel
theorem dL_move_17 : decode cL_move 17 = .ok (.astore 4, 2) := by decide +kernel
theorem dL_move_19 : decode cL_move 19 = .ok (.iconst 2, 1) := by decide +kernel
theorem dL_move_20 : decode cL_move 20 = .ok (.ireturn, 1) := by decide +kernel
theorem dL_move_21 : decode cL_move 21 = .ok (.iconst 0, 1) := by decide +kernel
theorem dL_move_22 : decode cL_move 22 = .ok (.ireturn, 1) := by decide +kernel
set_option maxRecDepth 20000 in
theorem ggL_wellOf_X3_wellOf : GoodIn wsL_wellOf wsX3_wellOf := goodIn_ca (goodIn_r _ [6, 7, 8, 9, 10, 5, 11, 12, 13, 14, 15, 16, 17, 18, 19, 20, 21, 22, 23, 24, 25, 26, 27, 28, 29] (by decide +kernel) (by decide +kernel)) (goodIn_sub (fun _ h => List.mem_cons_of_mem _ (List.mem_append_right _ h)) (by decide +kernel))
set_option maxRecDepth 20000 in
theorem gL_wellOf_X3_wellOf : GoodIn wsL_wellOf (wsV RL 47 RX3 yX3_wellOf wsX3_wellOf) := goodIn_app (goodIn_of _ (by decide +kernel)) ggL_wellOf_X3_wellOf
theorem dL_wellOf_0 : decode cL_wellOf 0 = .ok (.aload_n 2, 1) := by decide +kernel
theorem dL_wellOf_1 : decode cL_wellOf 1 = .ok (.iconst 0, 1) := by decide +kernel
theorem dL_wellOf_2 : decode cL_wellOf 2 = .ok (.aload_n 0, 1) := by decide +kernel
theorem dL_wellOf_3 : decode cL_wellOf 3 = .ok (.iload_n 1, 1) := by decide +kernel
theorem dL_wellOf_4 : decode cL_wellOf 4 = .ok (.invokevirtual 47, 3) := by decide +kernel
theorem dL_wellOf_7 : decode cL_wellOf 7 = .ok (.i2l, 1) := by decide +kernel
theorem dL_wellOf_8 : decode cL_wellOf 8 = .ok (.lastore, 1) := by decide +kernel
theorem dL_wellOf_9 : decode cL_wellOf 9 = .ok (.goto 6, 3) := by decide +kernel
theorem dL_wellOf_12 : decode cL_wellOf 12 = .ok (.astore_n 3, 1) := by decide +kernel
theorem dL_wellOf_13 : decode cL_wellOf 13 = .ok (.iconst 1, 1) := by decide +kernel
theorem dL_wellOf_14 : decode cL_wellOf 14 = .ok (.ireturn, 1) := by decide +kernel
theorem dL_wellOf_15 : decode cL_wellOf 15 = .ok (.iconst 0, 1) := by decide +kernel
theorem dL_wellOf_16 : decode cL_wellOf 16 = .ok (.ireturn, 1) := by decide +kernel
set_option maxRecDepth 20000 in
theorem ggL_amountOf_X3_amountOf : GoodIn wsL_amountOf wsX3_amountOf := goodIn_ca (goodIn_r _ [6, 7, 8, 9, 10, 5, 11, 12, 13, 14, 15, 16, 17, 18, 19, 20, 21, 22, 23, 24, 25, 26, 27, 28, 29] (by decide +kernel) (by decide +kernel)) (goodIn_sub (fun _ h => List.mem_cons_of_mem _ (List.mem_append_right _ h)) (by decide +kernel))
set_option maxRecDepth 20000 in
theorem gL_amountOf_X3_amountOf : GoodIn wsL_amountOf (wsV RL 50 RX3 yX3_amountOf wsX3_amountOf) := goodIn_app (goodIn_of _ (by decide +kernel)) ggL_amountOf_X3_amountOf
theorem dL_amountOf_0 : decode cL_amountOf 0 = .ok (.aload_n 2, 1) := by decide +kernel
theorem dL_amountOf_1 : decode cL_amountOf 1 = .ok (.iconst 0, 1) := by decide +kernel
theorem dL_amountOf_2 : decode cL_amountOf 2 = .ok (.aload_n 0, 1) := by decide +kernel
theorem dL_amountOf_3 : decode cL_amountOf 3 = .ok (.iload_n 1, 1) := by decide +kernel
theorem dL_amountOf_4 : decode cL_amountOf 4 = .ok (.invokevirtual 50, 3) := by decide +kernel
theorem dL_amountOf_7 : decode cL_amountOf 7 = .ok (.i2l, 1) := by decide +kernel
theorem dL_amountOf_8 : decode cL_amountOf 8 = .ok (.lastore, 1) := by decide +kernel
theorem dL_amountOf_9 : decode cL_amountOf 9 = .ok (.goto 6, 3) := by decide +kernel
theorem dL_amountOf_12 : decode cL_amountOf 12 = .ok (.astore_n 3, 1) := by decide +kernel
theorem dL_amountOf_13 : decode cL_amountOf 13 = .ok (.iconst 1, 1) := by decide +kernel
theorem dL_amountOf_14 : decode cL_amountOf 14 = .ok (.ireturn, 1) := by decide +kernel
theorem dL_amountOf_15 : decode cL_amountOf 15 = .ok (.iconst 0, 1) := by decide +kernel
theorem dL_amountOf_16 : decode cL_amountOf 16 = .ok (.ireturn, 1) := by decide +kernel
set_option maxRecDepth 20000 in
theorem ggL_isIn_X3_isIn : GoodIn wsL_isIn wsX3_isIn := goodIn_ca (goodIn_r _ [6, 7, 8, 9, 10, 5, 11, 12, 13, 14, 15, 16, 17, 18, 19, 20, 21, 22, 23, 24, 25, 26, 27, 28, 29, 30, 31, 32, 33, 34, 35, 36, 37, 38, 39, 40, 41, 42, 43, 44, 45, 46, 47] (by decide +kernel) (by decide +kernel)) (goodIn_sub (fun _ h => List.mem_cons_of_mem _ (List.mem_append_right _ h)) (by decide +kernel))
set_option maxRecDepth 20000 in
theorem gL_isIn_X3_isIn : GoodIn wsL_isIn (wsV RL 53 RX3 yX3_isIn wsX3_isIn) := goodIn_app (goodIn_of _ (by decide +kernel)) ggL_isIn_X3_isIn
theorem dL_isIn_0 : decode cL_isIn 0 = .ok (.aload_n 3, 1) := by decide +kernel
theorem dL_isIn_1 : decode cL_isIn 1 = .ok (.iconst 0, 1) := by decide +kernel
theorem dL_isIn_2 : decode cL_isIn 2 = .ok (.aload_n 0, 1) := by decide +kernel
theorem dL_isIn_3 : decode cL_isIn 3 = .ok (.iload_n 1, 1) := by decide +kernel
theorem dL_isIn_4 : decode cL_isIn 4 = .ok (.iload_n 2, 1) := by decide +kernel
theorem dL_isIn_5 : decode cL_isIn 5 = .ok (.invokevirtual 53, 3) := by decide +kernel
theorem dL_isIn_8 : decode cL_isIn 8 = .ok (.ifCond .eq 7, 3) := by decide +kernel
theorem dL_isIn_11 : decode cL_isIn 11 = .ok (.lconst 1, 1) := by decide +kernel
theorem dL_isIn_12 : decode cL_isIn 12 = .ok (.goto 4, 3) := by decide +kernel
theorem dL_isIn_15 : decode cL_isIn 15 = .ok (.lconst 0, 1) := by decide +kernel
theorem dL_isIn_16 : decode cL_isIn 16 = .ok (.lastore, 1) := by decide +kernel
theorem dL_isIn_17 : decode cL_isIn 17 = .ok (.goto 7, 3) := by decide +kernel
theorem dL_isIn_20 : decode cL_isIn 20 = .ok (.astore 4, 2) := by decide +kernel
theorem dL_isIn_22 : decode cL_isIn 22 = .ok (.iconst 1, 1) := by decide +kernel
theorem dL_isIn_23 : decode cL_isIn 23 = .ok (.ireturn, 1) := by decide +kernel
theorem dL_isIn_24 : decode cL_isIn 24 = .ok (.iconst 0, 1) := by decide +kernel
theorem dL_isIn_25 : decode cL_isIn 25 = .ok (.ireturn, 1) := by decide +kernel
set_option maxRecDepth 20000 in
theorem ggL_toEarn_X3_toEarn : GoodIn wsL_toEarn wsX3_toEarn := goodIn_ca (goodIn_r _ [6, 7, 8, 9, 10, 11, 5, 12, 13, 14, 15, 16, 17, 18, 19, 20, 21, 22, 23, 24, 25, 26, 27, 28, 29, 30, 31, 32, 33, 34, 35, 36, 37, 38, 39, 40, 41, 42] (by decide +kernel) (by decide +kernel)) (goodIn_sub (fun _ h => List.mem_cons_of_mem _ (List.mem_append_right _ h)) (by decide +kernel))
set_option maxRecDepth 20000 in
theorem gL_toEarn_X3_toEarn : GoodIn wsL_toEarn (wsV RL 57 RX3 yX3_toEarn wsX3_toEarn) := goodIn_app (goodIn_of _ (by decide +kernel)) ggL_toEarn_X3_toEarn
theorem dL_toEarn_0 : decode cL_toEarn 0 = .ok (.aload_n 3, 1) := by decide +kernel
theorem dL_toEarn_1 : decode cL_toEarn 1 = .ok (.iconst 0, 1) := by decide +kernel
theorem dL_toEarn_2 : decode cL_toEarn 2 = .ok (.aload_n 0, 1) := by decide +kernel
theorem dL_toEarn_3 : decode cL_toEarn 3 = .ok (.iload_n 1, 1) := by decide +kernel
theorem dL_toEarn_4 : decode cL_toEarn 4 = .ok (.iload_n 2, 1) := by decide +kernel
theorem dL_toEarn_5 : decode cL_toEarn 5 = .ok (.invokevirtual 57, 3) := by decide +kernel
theorem dL_toEarn_8 : decode cL_toEarn 8 = .ok (.lastore, 1) := by decide +kernel
theorem dL_toEarn_9 : decode cL_toEarn 9 = .ok (.goto 7, 3) := by decide +kernel
theorem dL_toEarn_12 : decode cL_toEarn 12 = .ok (.astore 4, 2) := by decide +kernel
theorem dL_toEarn_14 : decode cL_toEarn 14 = .ok (.iconst 1, 1) := by decide +kernel
theorem dL_toEarn_15 : decode cL_toEarn 15 = .ok (.ireturn, 1) := by decide +kernel
theorem dL_toEarn_16 : decode cL_toEarn 16 = .ok (.iconst 0, 1) := by decide +kernel
theorem dL_toEarn_17 : decode cL_toEarn 17 = .ok (.ireturn, 1) := by decide +kernel
set_option maxRecDepth 20000 in
theorem ggL_backAt_X3_backAt : GoodIn wsL_backAt wsX3_backAt := goodIn_ca (goodIn_r _ [6, 7, 8, 9, 10, 11, 5, 12, 13, 14, 15, 16, 17, 18, 19, 20, 21, 22, 23, 24, 25, 26, 27, 28, 29, 30, 31, 32, 33, 34, 35, 36, 37, 38, 39, 40, 41, 42] (by decide +kernel) (by decide +kernel)) (goodIn_sub (fun _ h => List.mem_cons_of_mem _ (List.mem_append_right _ h)) (by decide +kernel))
set_option maxRecDepth 20000 in
theorem gL_backAt_X3_backAt : GoodIn wsL_backAt (wsV RL 61 RX3 yX3_backAt wsX3_backAt) := goodIn_app (goodIn_of _ (by decide +kernel)) ggL_backAt_X3_backAt
theorem dL_backAt_0 : decode cL_backAt 0 = .ok (.aload_n 3, 1) := by decide +kernel
theorem dL_backAt_1 : decode cL_backAt 1 = .ok (.iconst 0, 1) := by decide +kernel
theorem dL_backAt_2 : decode cL_backAt 2 = .ok (.aload_n 0, 1) := by decide +kernel
theorem dL_backAt_3 : decode cL_backAt 3 = .ok (.iload_n 1, 1) := by decide +kernel
theorem dL_backAt_4 : decode cL_backAt 4 = .ok (.iload_n 2, 1) := by decide +kernel
theorem dL_backAt_5 : decode cL_backAt 5 = .ok (.invokevirtual 61, 3) := by decide +kernel
theorem dL_backAt_8 : decode cL_backAt 8 = .ok (.i2l, 1) := by decide +kernel
theorem dL_backAt_9 : decode cL_backAt 9 = .ok (.lastore, 1) := by decide +kernel
theorem dL_backAt_10 : decode cL_backAt 10 = .ok (.goto 7, 3) := by decide +kernel
theorem dL_backAt_13 : decode cL_backAt 13 = .ok (.astore 4, 2) := by decide +kernel
theorem dL_backAt_15 : decode cL_backAt 15 = .ok (.iconst 1, 1) := by decide +kernel
theorem dL_backAt_16 : decode cL_backAt 16 = .ok (.ireturn, 1) := by decide +kernel
theorem dL_backAt_17 : decode cL_backAt 17 = .ok (.iconst 0, 1) := by decide +kernel
theorem dL_backAt_18 : decode cL_backAt 18 = .ok (.ireturn, 1) := by decide +kernel
set_option maxRecDepth 20000 in
theorem ggL_charged_X3_charged : GoodIn wsL_charged wsX3_charged := goodIn_ca (goodIn_r _ [6, 7, 8, 9, 10, 11, 5, 12, 13, 14, 15, 16, 17, 18, 19, 20, 21, 22, 23, 24, 25, 26, 27, 28, 29, 30, 31, 32, 33, 34, 35, 36, 37, 38, 39, 40, 41, 42] (by decide +kernel) (by decide +kernel)) (goodIn_sub (fun _ h => List.mem_cons_of_mem _ (List.mem_append_right _ h)) (by decide +kernel))
set_option maxRecDepth 20000 in
theorem gL_charged_X3_charged : GoodIn wsL_charged (wsV RL 64 RX3 yX3_charged wsX3_charged) := goodIn_app (goodIn_of _ (by decide +kernel)) ggL_charged_X3_charged
theorem dL_charged_0 : decode cL_charged 0 = .ok (.aload_n 3, 1) := by decide +kernel
theorem dL_charged_1 : decode cL_charged 1 = .ok (.iconst 0, 1) := by decide +kernel
theorem dL_charged_2 : decode cL_charged 2 = .ok (.aload_n 0, 1) := by decide +kernel
theorem dL_charged_3 : decode cL_charged 3 = .ok (.iload_n 1, 1) := by decide +kernel
theorem dL_charged_4 : decode cL_charged 4 = .ok (.iload_n 2, 1) := by decide +kernel
theorem dL_charged_5 : decode cL_charged 5 = .ok (.invokevirtual 64, 3) := by decide +kernel
theorem dL_charged_8 : decode cL_charged 8 = .ok (.i2l, 1) := by decide +kernel
theorem dL_charged_9 : decode cL_charged 9 = .ok (.lastore, 1) := by decide +kernel
theorem dL_charged_10 : decode cL_charged 10 = .ok (.goto 7, 3) := by decide +kernel
theorem dL_charged_13 : decode cL_charged 13 = .ok (.astore 4, 2) := by decide +kernel
theorem dL_charged_15 : decode cL_charged 15 = .ok (.iconst 1, 1) := by decide +kernel
theorem dL_charged_16 : decode cL_charged 16 = .ok (.ireturn, 1) := by decide +kernel
theorem dL_charged_17 : decode cL_charged 17 = .ok (.iconst 0, 1) := by decide +kernel
theorem dL_charged_18 : decode cL_charged 18 = .ok (.ireturn, 1) := by decide +kernel
set_option maxRecDepth 20000 in
theorem ggL_credited_X3_credited : GoodIn wsL_credited wsX3_credited := goodIn_ca (goodIn_r _ [6, 7, 8, 9, 10, 11, 5, 12, 13, 14, 15, 16, 17, 18, 19, 20, 21, 22, 23, 24, 25, 26, 27, 28, 29, 30, 31, 32, 33, 34, 35, 36, 37, 38, 39, 40, 41, 42] (by decide +kernel) (by decide +kernel)) (goodIn_sub (fun _ h => List.mem_cons_of_mem _ (List.mem_append_right _ h)) (by decide +kernel))
set_option maxRecDepth 20000 in
theorem gL_credited_X3_credited : GoodIn wsL_credited (wsV RL 67 RX3 yX3_credited wsX3_credited) := goodIn_app (goodIn_of _ (by decide +kernel)) ggL_credited_X3_credited
theorem dL_credited_0 : decode cL_credited 0 = .ok (.aload_n 3, 1) := by decide +kernel
theorem dL_credited_1 : decode cL_credited 1 = .ok (.iconst 0, 1) := by decide +kernel
theorem dL_credited_2 : decode cL_credited 2 = .ok (.aload_n 0, 1) := by decide +kernel
theorem dL_credited_3 : decode cL_credited 3 = .ok (.iload_n 1, 1) := by decide +kernel
theorem dL_credited_4 : decode cL_credited 4 = .ok (.iload_n 2, 1) := by decide +kernel
theorem dL_credited_5 : decode cL_credited 5 = .ok (.invokevirtual 67, 3) := by decide +kernel
theorem dL_credited_8 : decode cL_credited 8 = .ok (.i2l, 1) := by decide +kernel
theorem dL_credited_9 : decode cL_credited 9 = .ok (.lastore, 1) := by decide +kernel
theorem dL_credited_10 : decode cL_credited 10 = .ok (.goto 7, 3) := by decide +kernel
theorem dL_credited_13 : decode cL_credited 13 = .ok (.astore 4, 2) := by decide +kernel
theorem dL_credited_15 : decode cL_credited 15 = .ok (.iconst 1, 1) := by decide +kernel
theorem dL_credited_16 : decode cL_credited 16 = .ok (.ireturn, 1) := by decide +kernel
theorem dL_credited_17 : decode cL_credited 17 = .ok (.iconst 0, 1) := by decide +kernel
theorem dL_credited_18 : decode cL_credited 18 = .ok (.ireturn, 1) := by decide +kernel
set_option maxRecDepth 20000 in
theorem ggL_weight_X3_weight : GoodIn wsL_weight wsX3_weight := goodIn_ca (goodIn_r _ [6, 7, 8, 9, 10, 11, 5, 12, 13, 14, 15, 16, 17, 18, 19, 20, 21, 22, 23, 24, 25, 26, 27, 28, 29, 30, 31, 32, 33, 34, 35, 36, 37, 38, 39, 40, 41, 42, 43, 44, 45, 46, 47, 48, 49, 50, 51, 52, 53, 54, 55, 56, 57, 58, 59, 60, 61, 62, 63, 64, 65, 66, 67, 68, 69, 70, 71, 72, 73, 74, 75, 76, 77, 78, 79] (by decide +kernel) (by decide +kernel)) (goodIn_sub (fun _ h => List.mem_cons_of_mem _ (List.mem_append_right _ h)) (by decide +kernel))
set_option maxRecDepth 20000 in
theorem gL_weight_X3_weight : GoodIn wsL_weight (wsV RL 70 RX3 yX3_weight wsX3_weight) := goodIn_app (goodIn_of _ (by decide +kernel)) ggL_weight_X3_weight
theorem dL_weight_0 : decode cL_weight 0 = .ok (.aload_n 3, 1) := by decide +kernel
theorem dL_weight_1 : decode cL_weight 1 = .ok (.iconst 0, 1) := by decide +kernel
theorem dL_weight_2 : decode cL_weight 2 = .ok (.aload_n 0, 1) := by decide +kernel
theorem dL_weight_3 : decode cL_weight 3 = .ok (.iload_n 1, 1) := by decide +kernel
theorem dL_weight_4 : decode cL_weight 4 = .ok (.iload_n 2, 1) := by decide +kernel
theorem dL_weight_5 : decode cL_weight 5 = .ok (.invokevirtual 70, 3) := by decide +kernel
theorem dL_weight_8 : decode cL_weight 8 = .ok (.i2l, 1) := by decide +kernel
theorem dL_weight_9 : decode cL_weight 9 = .ok (.lastore, 1) := by decide +kernel
theorem dL_weight_10 : decode cL_weight 10 = .ok (.goto 7, 3) := by decide +kernel
theorem dL_weight_13 : decode cL_weight 13 = .ok (.astore 4, 2) := by decide +kernel
theorem dL_weight_15 : decode cL_weight 15 = .ok (.iconst 1, 1) := by decide +kernel
theorem dL_weight_16 : decode cL_weight 16 = .ok (.ireturn, 1) := by decide +kernel
theorem dL_weight_17 : decode cL_weight 17 = .ok (.iconst 0, 1) := by decide +kernel
theorem dL_weight_18 : decode cL_weight 18 = .ok (.ireturn, 1) := by decide +kernel
set_option maxRecDepth 20000 in
theorem ggL_call_X3_call : GoodIn wsL_call wsX3_call := goodIn_ca (goodIn_ca (goodIn_ca (goodIn_r _ [8, 9, 10, 11, 12, 13, 14, 15, 16, 17, 18, 19, 20, 7, 21, 22, 23, 24, 25, 26, 27, 28, 29, 30, 31, 32, 33, 34, 35, 36, 37, 38, 39, 40, 41, 42, 43, 44, 45, 46, 47, 48, 49, 50, 51, 52, 53, 54, 55, 56, 57, 58, 59, 60, 61, 62, 63, 64, 65, 66, 67, 68, 69, 70, 71, 72, 73, 74, 75, 76, 77, 78, 79, 80, 81, 82, 83, 84, 85, 86, 87, 88, 89, 90, 91] (by decide +kernel) (by decide +kernel)) (goodIn_sub (fun _ h => List.mem_cons_of_mem _ (List.mem_append_left _ (List.mem_append_left _ (List.mem_append_right _ h)))) (by decide +kernel))) (goodIn_sub (fun _ h => List.mem_cons_of_mem _ (List.mem_append_left _ (List.mem_append_right _ h))) (by decide +kernel))) (goodIn_sub (fun _ h => List.mem_cons_of_mem _ (List.mem_append_right _ h)) (by decide +kernel))
set_option maxRecDepth 20000 in
theorem gL_call_X3_call : GoodIn wsL_call (wsV RL 73 RX3 yX3_call wsX3_call) := goodIn_app (goodIn_of _ (by decide +kernel)) ggL_call_X3_call
theorem dL_call_0 : decode cL_call 0 = .ok (.aload_n 3, 1) := by decide +kernel
theorem dL_call_1 : decode cL_call 1 = .ok (.iconst 0, 1) := by decide +kernel
theorem dL_call_2 : decode cL_call 2 = .ok (.aload_n 0, 1) := by decide +kernel
theorem dL_call_3 : decode cL_call 3 = .ok (.iload_n 1, 1) := by decide +kernel
theorem dL_call_4 : decode cL_call 4 = .ok (.iload_n 2, 1) := by decide +kernel
theorem dL_call_5 : decode cL_call 5 = .ok (.invokevirtual 73, 3) := by decide +kernel
theorem dL_call_8 : decode cL_call 8 = .ok (.i2l, 1) := by decide +kernel
theorem dL_call_9 : decode cL_call 9 = .ok (.lastore, 1) := by decide +kernel
theorem dL_call_10 : decode cL_call 10 = .ok (.goto 15, 3) := by decide +kernel
theorem dL_call_13 : decode cL_call 13 = .ok (.astore 4, 2) := by decide +kernel
theorem dL_call_15 : decode cL_call 15 = .ok (.iconst 1, 1) := by decide +kernel
theorem dL_call_16 : decode cL_call 16 = .ok (.ireturn, 1) := by decide +kernel
theorem dL_call_17 : decode cL_call 17 = .ok (.astore 4, 2) := by decide +kernel
theorem dL_call_19 : decode cL_call 19 = .ok (.iconst 2, 1) := by decide +kernel
theorem dL_call_20 : decode cL_call 20 = .ok (.ireturn, 1) := by decide +kernel
theorem dL_call_21 : decode cL_call 21 = .ok (.astore 4, 2) := by decide +kernel
theorem dL_call_23 : decode cL_call 23 = .ok (.iconst 3, 1) := by decide +kernel
theorem dL_call_24 : decode cL_call 24 = .ok (.ireturn, 1) := by decide +kernel
theorem dL_call_25 : decode cL_call 25 = .ok (.iconst 0, 1) := by decide +kernel
theorem dL_call_26 : decode cL_call 26 = .ok (.ireturn, 1) := by decide +kernel
set_option maxRecDepth 20000 in
theorem ggL_pay_X3_pay : GoodIn wsL_pay wsX3_pay := goodIn_ca (goodIn_ca (goodIn_r _ [7, 8, 9, 10, 11, 12, 13, 14, 15, 6, 16, 17, 18, 19, 20, 21, 22, 23, 24, 25, 26, 27, 28, 29, 30, 31, 32, 33, 34, 35, 36, 37, 38, 39, 40] (by decide +kernel) (by decide +kernel)) (goodIn_sub (fun _ h => List.mem_cons_of_mem _ (List.mem_append_left _ (List.mem_append_right _ h))) (by decide +kernel))) (goodIn_sub (fun _ h => List.mem_cons_of_mem _ (List.mem_append_right _ h)) (by decide +kernel))
set_option maxRecDepth 20000 in
theorem gL_pay_X3_pay : GoodIn wsL_pay (wsV RL 76 RX3 yX3_pay wsX3_pay) := goodIn_app (goodIn_of _ (by decide +kernel)) ggL_pay_X3_pay
theorem dL_pay_0 : decode cL_pay 0 = .ok (.aload_n 3, 1) := by decide +kernel
theorem dL_pay_1 : decode cL_pay 1 = .ok (.iconst 0, 1) := by decide +kernel
theorem dL_pay_2 : decode cL_pay 2 = .ok (.aload_n 0, 1) := by decide +kernel
theorem dL_pay_3 : decode cL_pay 3 = .ok (.iload_n 1, 1) := by decide +kernel
theorem dL_pay_4 : decode cL_pay 4 = .ok (.iload_n 2, 1) := by decide +kernel
theorem dL_pay_5 : decode cL_pay 5 = .ok (.invokevirtual 76, 3) := by decide +kernel
theorem dL_pay_8 : decode cL_pay 8 = .ok (.i2l, 1) := by decide +kernel
theorem dL_pay_9 : decode cL_pay 9 = .ok (.lastore, 1) := by decide +kernel
theorem dL_pay_10 : decode cL_pay 10 = .ok (.goto 11, 3) := by decide +kernel
theorem dL_pay_13 : decode cL_pay 13 = .ok (.astore 4, 2) := by decide +kernel
theorem dL_pay_15 : decode cL_pay 15 = .ok (.iconst 1, 1) := by decide +kernel
theorem dL_pay_16 : decode cL_pay 16 = .ok (.ireturn, 1) := by decide +kernel
theorem dL_pay_17 : decode cL_pay 17 = .ok (.astore 4, 2) := by decide +kernel
theorem dL_pay_19 : decode cL_pay 19 = .ok (.iconst 2, 1) := by decide +kernel
theorem dL_pay_20 : decode cL_pay 20 = .ok (.ireturn, 1) := by decide +kernel
theorem dL_pay_21 : decode cL_pay 21 = .ok (.iconst 0, 1) := by decide +kernel
theorem dL_pay_22 : decode cL_pay 22 = .ok (.ireturn, 1) := by decide +kernel
set_option maxRecDepth 20000 in
theorem ggL_shareOut_X3_shareOut : GoodIn wsL_shareOut wsX3_shareOut := goodIn_ca (goodIn_ca (goodIn_r _ [7, 8, 9, 10, 11, 12, 13, 6, 14, 15, 16, 17, 18, 19, 20, 21, 22, 23, 24, 25, 26, 27, 28, 29, 30, 31, 32, 33, 34, 35, 36, 37, 38, 39, 40, 41, 42, 43, 44, 45, 46, 47, 48, 49, 50, 51, 52, 53, 54, 55, 56, 57, 58, 59, 60, 61, 62, 63, 64, 65, 66, 67, 68, 69, 70, 71] (by decide +kernel) (by decide +kernel)) (goodIn_sub (fun _ h => List.mem_cons_of_mem _ (List.mem_append_left _ (List.mem_append_right _ h))) (by decide +kernel))) (goodIn_sub (fun _ h => List.mem_cons_of_mem _ (List.mem_append_right _ h)) (by decide +kernel))
set_option maxRecDepth 20000 in
theorem gL_shareOut_X3_shareOut : GoodIn wsL_shareOut (wsV RL 79 RX3 yX3_shareOut wsX3_shareOut) := goodIn_app (goodIn_of _ (by decide +kernel)) ggL_shareOut_X3_shareOut
theorem dL_shareOut_0 : decode cL_shareOut 0 = .ok (.aload_n 2, 1) := by decide +kernel
theorem dL_shareOut_1 : decode cL_shareOut 1 = .ok (.iconst 0, 1) := by decide +kernel
theorem dL_shareOut_2 : decode cL_shareOut 2 = .ok (.aload_n 0, 1) := by decide +kernel
theorem dL_shareOut_3 : decode cL_shareOut 3 = .ok (.iload_n 1, 1) := by decide +kernel
theorem dL_shareOut_4 : decode cL_shareOut 4 = .ok (.invokevirtual 79, 3) := by decide +kernel
theorem dL_shareOut_7 : decode cL_shareOut 7 = .ok (.i2l, 1) := by decide +kernel
theorem dL_shareOut_8 : decode cL_shareOut 8 = .ok (.lastore, 1) := by decide +kernel
theorem dL_shareOut_9 : decode cL_shareOut 9 = .ok (.goto 9, 3) := by decide +kernel
theorem dL_shareOut_12 : decode cL_shareOut 12 = .ok (.astore_n 3, 1) := by decide +kernel
theorem dL_shareOut_13 : decode cL_shareOut 13 = .ok (.iconst 1, 1) := by decide +kernel
theorem dL_shareOut_14 : decode cL_shareOut 14 = .ok (.ireturn, 1) := by decide +kernel
theorem dL_shareOut_15 : decode cL_shareOut 15 = .ok (.astore_n 3, 1) := by decide +kernel
theorem dL_shareOut_16 : decode cL_shareOut 16 = .ok (.iconst 2, 1) := by decide +kernel
theorem dL_shareOut_17 : decode cL_shareOut 17 = .ok (.ireturn, 1) := by decide +kernel
theorem dL_shareOut_18 : decode cL_shareOut 18 = .ok (.iconst 0, 1) := by decide +kernel
theorem dL_shareOut_19 : decode cL_shareOut 19 = .ok (.ireturn, 1) := by decide +kernel
set_option maxRecDepth 20000 in
theorem ggL_asked_X3_asked : GoodIn wsL_asked wsX3_asked := goodIn_ca (goodIn_r _ [6, 7, 8, 9, 10, 11, 5, 12, 13, 14, 15, 16, 17, 18, 19, 20, 21, 22, 23, 24, 25, 26, 27, 28, 29, 30, 31, 32, 33, 34, 35, 36] (by decide +kernel) (by decide +kernel)) (goodIn_sub (fun _ h => List.mem_cons_of_mem _ (List.mem_append_right _ h)) (by decide +kernel))
set_option maxRecDepth 20000 in
theorem gL_asked_X3_asked : GoodIn wsL_asked (wsV RL 82 RX3 yX3_asked wsX3_asked) := goodIn_app (goodIn_of _ (by decide +kernel)) ggL_asked_X3_asked
theorem dL_asked_0 : decode cL_asked 0 = .ok (.aload_n 3, 1) := by decide +kernel
theorem dL_asked_1 : decode cL_asked 1 = .ok (.iconst 0, 1) := by decide +kernel
theorem dL_asked_2 : decode cL_asked 2 = .ok (.aload_n 0, 1) := by decide +kernel
theorem dL_asked_3 : decode cL_asked 3 = .ok (.iload_n 1, 1) := by decide +kernel
theorem dL_asked_4 : decode cL_asked 4 = .ok (.iload_n 2, 1) := by decide +kernel
theorem dL_asked_5 : decode cL_asked 5 = .ok (.invokevirtual 82, 3) := by decide +kernel
theorem dL_asked_8 : decode cL_asked 8 = .ok (.i2l, 1) := by decide +kernel
theorem dL_asked_9 : decode cL_asked 9 = .ok (.lastore, 1) := by decide +kernel
theorem dL_asked_10 : decode cL_asked 10 = .ok (.goto 7, 3) := by decide +kernel
theorem dL_asked_13 : decode cL_asked 13 = .ok (.astore 4, 2) := by decide +kernel
theorem dL_asked_15 : decode cL_asked 15 = .ok (.iconst 1, 1) := by decide +kernel
theorem dL_asked_16 : decode cL_asked 16 = .ok (.ireturn, 1) := by decide +kernel
theorem dL_asked_17 : decode cL_asked 17 = .ok (.iconst 0, 1) := by decide +kernel
theorem dL_asked_18 : decode cL_asked 18 = .ok (.ireturn, 1) := by decide +kernel
set_option maxRecDepth 20000 in
theorem ggL_paid_X3_paid : GoodIn wsL_paid wsX3_paid := goodIn_ca (goodIn_r _ [6, 7, 8, 9, 5, 10, 11, 12, 13, 14, 15, 16, 17, 18, 19, 20, 21, 22, 23, 24, 25, 26, 27, 28, 29, 30, 31, 32, 33, 34, 35, 36] (by decide +kernel) (by decide +kernel)) (goodIn_sub (fun _ h => List.mem_cons_of_mem _ (List.mem_append_right _ h)) (by decide +kernel))
set_option maxRecDepth 20000 in
theorem gL_paid_X3_paid : GoodIn wsL_paid (wsV RL 85 RX3 yX3_paid wsX3_paid) := goodIn_app (goodIn_of _ (by decide +kernel)) ggL_paid_X3_paid
theorem dL_paid_0 : decode cL_paid 0 = .ok (.aload_n 2, 1) := by decide +kernel
theorem dL_paid_1 : decode cL_paid 1 = .ok (.iconst 0, 1) := by decide +kernel
theorem dL_paid_2 : decode cL_paid 2 = .ok (.aload_n 0, 1) := by decide +kernel
theorem dL_paid_3 : decode cL_paid 3 = .ok (.iload_n 1, 1) := by decide +kernel
theorem dL_paid_4 : decode cL_paid 4 = .ok (.invokevirtual 85, 3) := by decide +kernel
theorem dL_paid_7 : decode cL_paid 7 = .ok (.i2l, 1) := by decide +kernel
theorem dL_paid_8 : decode cL_paid 8 = .ok (.lastore, 1) := by decide +kernel
theorem dL_paid_9 : decode cL_paid 9 = .ok (.goto 6, 3) := by decide +kernel
theorem dL_paid_12 : decode cL_paid 12 = .ok (.astore_n 3, 1) := by decide +kernel
theorem dL_paid_13 : decode cL_paid 13 = .ok (.iconst 1, 1) := by decide +kernel
theorem dL_paid_14 : decode cL_paid 14 = .ok (.ireturn, 1) := by decide +kernel
theorem dL_paid_15 : decode cL_paid 15 = .ok (.iconst 0, 1) := by decide +kernel
theorem dL_paid_16 : decode cL_paid 16 = .ok (.ireturn, 1) := by decide +kernel
set_option maxRecDepth 20000 in
theorem ggL_owes_X3_owes : GoodIn wsL_owes wsX3_owes := goodIn_ca (goodIn_r _ [6, 7, 8, 9, 10, 5, 11, 12, 13, 14, 15, 16, 17, 18, 19, 20, 21, 22, 23, 24, 25, 26, 27, 28] (by decide +kernel) (by decide +kernel)) (goodIn_sub (fun _ h => List.mem_cons_of_mem _ (List.mem_append_right _ h)) (by decide +kernel))
set_option maxRecDepth 20000 in
theorem gL_owes_X3_owes : GoodIn wsL_owes (wsV RL 88 RX3 yX3_owes wsX3_owes) := goodIn_app (goodIn_of _ (by decide +kernel)) ggL_owes_X3_owes
theorem dL_owes_0 : decode cL_owes 0 = .ok (.aload_n 2, 1) := by decide +kernel
theorem dL_owes_1 : decode cL_owes 1 = .ok (.iconst 0, 1) := by decide +kernel
theorem dL_owes_2 : decode cL_owes 2 = .ok (.aload_n 0, 1) := by decide +kernel
theorem dL_owes_3 : decode cL_owes 3 = .ok (.iload_n 1, 1) := by decide +kernel
theorem dL_owes_4 : decode cL_owes 4 = .ok (.invokevirtual 88, 3) := by decide +kernel
theorem dL_owes_7 : decode cL_owes 7 = .ok (.i2l, 1) := by decide +kernel
theorem dL_owes_8 : decode cL_owes 8 = .ok (.lastore, 1) := by decide +kernel
theorem dL_owes_9 : decode cL_owes 9 = .ok (.goto 6, 3) := by decide +kernel
theorem dL_owes_12 : decode cL_owes 12 = .ok (.astore_n 3, 1) := by decide +kernel
theorem dL_owes_13 : decode cL_owes 13 = .ok (.iconst 1, 1) := by decide +kernel
theorem dL_owes_14 : decode cL_owes 14 = .ok (.ireturn, 1) := by decide +kernel
theorem dL_owes_15 : decode cL_owes 15 = .ok (.iconst 0, 1) := by decide +kernel
theorem dL_owes_16 : decode cL_owes 16 = .ok (.ireturn, 1) := by decide +kernel
set_option maxRecDepth 20000 in
theorem ggL_balance_X3_balance : GoodIn wsL_balance wsX3_balance := goodIn_ca (goodIn_r _ [6, 7, 8, 9, 10, 11, 12, 13, 14, 5, 15, 16, 17, 18, 19, 20, 21, 22, 23, 24, 25, 26, 27, 28, 29, 30, 31, 32, 33, 34, 35, 36, 37, 38, 39, 40, 41, 42, 43, 44, 45, 46, 47, 48, 49] (by decide +kernel) (by decide +kernel)) (goodIn_sub (fun _ h => List.mem_cons_of_mem _ (List.mem_append_right _ h)) (by decide +kernel))
set_option maxRecDepth 20000 in
theorem gL_balance_X3_balance : GoodIn wsL_balance (wsV RL 91 RX3 yX3_balance wsX3_balance) := goodIn_app (goodIn_of _ (by decide +kernel)) ggL_balance_X3_balance
theorem dL_balance_0 : decode cL_balance 0 = .ok (.aload_n 2, 1) := by decide +kernel
theorem dL_balance_1 : decode cL_balance 1 = .ok (.iconst 0, 1) := by decide +kernel
theorem dL_balance_2 : decode cL_balance 2 = .ok (.aload_n 0, 1) := by decide +kernel
theorem dL_balance_3 : decode cL_balance 3 = .ok (.iload_n 1, 1) := by decide +kernel
theorem dL_balance_4 : decode cL_balance 4 = .ok (.invokevirtual 91, 3) := by decide +kernel
theorem dL_balance_7 : decode cL_balance 7 = .ok (.lastore, 1) := by decide +kernel
theorem dL_balance_8 : decode cL_balance 8 = .ok (.goto 6, 3) := by decide +kernel
theorem dL_balance_11 : decode cL_balance 11 = .ok (.astore_n 3, 1) := by decide +kernel
theorem dL_balance_12 : decode cL_balance 12 = .ok (.iconst 1, 1) := by decide +kernel
theorem dL_balance_13 : decode cL_balance 13 = .ok (.ireturn, 1) := by decide +kernel
theorem dL_balance_14 : decode cL_balance 14 = .ok (.iconst 0, 1) := by decide +kernel
theorem dL_balance_15 : decode cL_balance 15 = .ok (.ireturn, 1) := by decide +kernel
set_option maxRecDepth 20000 in
theorem ggL_law_X3_init : GoodIn wsL_law wsX3_init := goodIn_r _ [9, 10, 11, 12, 13, 14, 15, 16, 17, 18, 19, 20, 21, 22, 23, 24, 25, 26, 27, 28, 29, 30, 31, 32, 33, 34, 35, 36, 37, 38, 39, 40, 6, 41, 42, 43, 44, 45, 46, 47, 48, 49, 50, 51, 52, 53, 54, 55, 56, 57, 58, 59, 60, 61, 62, 63, 586, 587, 588, 589, 590, 591, 592, 593, 594, 595, 596, 597, 598, 599, 600, 626, 627, 628, 629, 630, 631, 632, 633, 634, 635, 636] (by decide +kernel) (by decide +kernel)
set_option maxRecDepth 20000 in
theorem gL_law_X3_init : GoodIn wsL_law (wsX3_init) := ggL_law_X3_init
set_option maxRecDepth 20000 in
theorem ggL_law_X4_init : GoodIn wsL_law wsX4_init := goodIn_r _ [66, 67, 11, 12, 13, 68, 69, 70, 48, 71, 72, 73, 74, 75, 76, 77, 78, 79, 6, 80, 81, 82, 83, 84, 85, 86, 87, 601, 602, 603, 604, 605, 606, 607, 608, 609, 610, 611, 612, 613, 614, 615, 616, 617, 618, 619, 620, 621, 622, 623, 624, 625] (by decide +kernel) (by decide +kernel)
set_option maxRecDepth 20000 in
theorem gL_law_X4_init : GoodIn wsL_law (wsX4_init) := ggL_law_X4_init
set_option maxRecDepth 20000 in
theorem ggL_law_L_setShares : GoodIn wsL_law wsL_setShares := goodIn_ca (goodIn_ca (goodIn_r _ [91, 92, 93, 94, 95, 96, 2, 97, 98, 99, 100, 101, 19, 14, 102, 103, 104, 105, 586, 587, 588, 589, 590, 591, 592, 593, 594, 595, 596, 597, 598, 599, 600] (by decide +kernel) (by decide +kernel)) (goodIn_sub (fun _ h => List.mem_append_left _ (List.mem_append_left _ (List.mem_append_right _ h))) (by decide +kernel))) (goodIn_sub (fun _ h => List.mem_append_left _ (List.mem_append_right _ h)) (by decide +kernel))
set_option maxRecDepth 20000 in
theorem gL_law_L_setShares : GoodIn wsL_law (va_wsS RL 99 yL_setShares wsL_setShares) := goodIn_app (goodIn_of _ (by decide +kernel)) ggL_law_L_setShares
set_option maxRecDepth 20000 in
theorem ggL_law_X4_setShares : GoodIn wsL_law wsX4_setShares := goodIn_r _ [109, 110, 68, 111, 112, 5, 113, 114, 115, 116, 117, 118, 119, 120, 121, 601, 602, 603, 604, 605, 606, 607, 608, 609, 610, 611, 612, 613, 614, 615, 616, 617, 618, 619, 620, 621, 622, 623, 624, 625] (by decide +kernel) (by decide +kernel)
set_option maxRecDepth 20000 in
theorem gL_law_X4_setShares : GoodIn wsL_law (wsV RL 104 RX4 yX4_setShares wsX4_setShares) := goodIn_app (goodIn_of _ (by decide +kernel)) ggL_law_X4_setShares
set_option maxRecDepth 20000 in
theorem ggL_law_X4_thrown : GoodIn wsL_law wsX4_thrown := goodIn_r _ [125, 121, 601, 602, 603, 604, 605, 606, 607, 608, 609, 610, 611, 612, 613, 614, 615, 616, 617, 618, 619, 620, 621, 622, 623, 624, 625] (by decide +kernel) (by decide +kernel)
set_option maxRecDepth 20000 in
theorem gL_law_X4_thrown : GoodIn wsL_law (wsV RL 105 RX4 yX4_thrown wsX4_thrown) := goodIn_app (goodIn_of _ (by decide +kernel)) ggL_law_X4_thrown
set_option maxRecDepth 20000 in
theorem ggL_law_L_setPenalty : GoodIn wsL_law wsL_setPenalty := goodIn_ca (goodIn_r _ [128, 92, 129, 130, 131, 2, 132, 15, 102, 103, 104, 105, 98, 99, 586, 587, 588, 589, 590, 591, 592, 593, 594, 595, 596, 597, 598, 599, 600] (by decide +kernel) (by decide +kernel)) (goodIn_sub (fun _ h => List.mem_append_left _ (List.mem_append_left _ (List.mem_append_right _ h))) (by decide +kernel))
set_option maxRecDepth 20000 in
theorem gL_law_L_setPenalty : GoodIn wsL_law (va_wsS RL 108 yL_setPenalty wsL_setPenalty) := goodIn_app (goodIn_of _ (by decide +kernel)) ggL_law_L_setPenalty
set_option maxRecDepth 20000 in
theorem ggL_law_X4_setPenalty : GoodIn wsL_law wsX4_setPenalty := goodIn_r _ [136, 69, 114, 115, 5, 116, 117, 118, 119, 120, 121, 601, 602, 603, 604, 605, 606, 607, 608, 609, 610, 611, 612, 613, 614, 615, 616, 617, 618, 619, 620, 621, 622, 623, 624, 625] (by decide +kernel) (by decide +kernel)
set_option maxRecDepth 20000 in
theorem gL_law_X4_setPenalty : GoodIn wsL_law (wsV RL 111 RX4 yX4_setPenalty wsX4_setPenalty) := goodIn_app (goodIn_of _ (by decide +kernel)) ggL_law_X4_setPenalty
set_option maxRecDepth 20000 in
theorem ggL_law_L_setOverhead : GoodIn wsL_law wsL_setOverhead := goodIn_ca (goodIn_r _ [139, 92, 140, 141, 142, 2, 143, 144, 16, 102, 103, 104, 105, 98, 99, 586, 587, 588, 589, 590, 591, 592, 593, 594, 595, 596, 597, 598, 599, 600] (by decide +kernel) (by decide +kernel)) (goodIn_sub (fun _ h => List.mem_append_left _ (List.mem_append_left _ (List.mem_append_right _ h))) (by decide +kernel))
set_option maxRecDepth 20000 in
theorem gL_law_L_setOverhead : GoodIn wsL_law (va_wsS RL 112 yL_setOverhead wsL_setOverhead) := goodIn_app (goodIn_of _ (by decide +kernel)) ggL_law_L_setOverhead
set_option maxRecDepth 20000 in
theorem ggL_law_X4_setOverhead : GoodIn wsL_law wsX4_setOverhead := goodIn_r _ [148, 149, 150, 114, 115, 5, 116, 117, 118, 119, 120, 121, 601, 602, 603, 604, 605, 606, 607, 608, 609, 610, 611, 612, 613, 614, 615, 616, 617, 618, 619, 620, 621, 622, 623, 624, 625] (by decide +kernel) (by decide +kernel)
set_option maxRecDepth 20000 in
theorem gL_law_X4_setOverhead : GoodIn wsL_law (wsV RL 114 RX4 yX4_setOverhead wsX4_setOverhead) := goodIn_app (goodIn_of _ (by decide +kernel)) ggL_law_X4_setOverhead
set_option maxRecDepth 20000 in
theorem ggL_law_L_addWell : GoodIn wsL_law wsL_addWell := goodIn_ca (goodIn_r _ [153, 93, 154, 155, 156, 2, 157, 100, 101, 19, 18, 15, 158, 586, 587, 588, 589, 590, 591, 592, 593, 594, 595, 596, 597, 598, 599, 600, 627, 628, 629, 630, 631, 632, 633, 634] (by decide +kernel) (by decide +kernel)) (goodIn_sub (fun _ h => List.mem_append_left _ (List.mem_append_right _ h)) (by decide +kernel))
set_option maxRecDepth 20000 in
theorem gL_law_L_addWell : GoodIn wsL_law (va_wsS RL 115 yL_addWell wsL_addWell) := goodIn_app (goodIn_of _ (by decide +kernel)) ggL_law_L_addWell
set_option maxRecDepth 20000 in
theorem ggL_law_X4_addWell : GoodIn wsL_law wsX4_addWell := goodIn_r _ [162, 110, 70, 69, 117, 118, 119, 5, 120, 121, 601, 602, 603, 604, 605, 606, 607, 608, 609, 610, 611, 612, 613, 614, 615, 616, 617, 618, 619, 620, 621, 622, 623, 624, 625] (by decide +kernel) (by decide +kernel)
set_option maxRecDepth 20000 in
theorem gL_law_X4_addWell : GoodIn wsL_law (wsV RL 118 RX4 yX4_addWell wsX4_addWell) := goodIn_app (goodIn_of _ (by decide +kernel)) ggL_law_X4_addWell
set_option maxRecDepth 20000 in
theorem ggL_law_L_elect : GoodIn wsL_law wsL_elect := goodIn_ca (goodIn_ca (goodIn_r _ [165, 166, 93, 167, 168, 169, 2, 170, 100, 101, 18, 171, 14, 172, 173, 174, 175, 176, 177, 178, 179, 19, 180, 181, 182, 183, 184, 185, 186, 187, 188, 189, 190, 191, 586, 587, 588, 589, 590, 591, 592, 593, 594, 595, 596, 597, 598, 599, 600, 627, 628, 629, 630, 631, 632, 633, 634] (by decide +kernel) (by decide +kernel)) (goodIn_sub (fun _ h => List.mem_append_left _ (List.mem_append_right _ h)) (by decide +kernel))) (goodIn_sub (fun _ h => List.mem_append_right _ h) (by decide +kernel))
set_option maxRecDepth 20000 in
theorem gL_law_L_elect : GoodIn wsL_law (va_wsS RL 119 yL_elect wsL_elect) := goodIn_app (goodIn_of _ (by decide +kernel)) ggL_law_L_elect
set_option maxRecDepth 20000 in
theorem ggL_law_X4_elect : GoodIn wsL_law wsX4_elect := goodIn_r _ [195, 71, 68, 72, 196, 197, 198, 5, 199, 110, 114, 115, 116, 200, 201, 202, 203, 204, 205, 206, 117, 118, 119, 120, 121, 601, 602, 603, 604, 605, 606, 607, 608, 609, 610, 611, 612, 613, 614, 615, 616, 617, 618, 619, 620, 621, 622, 623, 624, 625] (by decide +kernel) (by decide +kernel)
set_option maxRecDepth 20000 in
theorem gL_law_X4_elect : GoodIn wsL_law (wsV RL 122 RX4 yX4_elect wsX4_elect) := goodIn_app (goodIn_of _ (by decide +kernel)) ggL_law_X4_elect
set_option maxRecDepth 20000 in
theorem ggL_law_L_cost : GoodIn wsL_law wsL_cost := goodIn_ca (goodIn_ca (goodIn_ca (goodIn_r _ [209, 166, 92, 93, 210, 211, 212, 2, 213, 214, 174, 175, 176, 177, 178, 179, 19, 102, 103, 104, 105, 98, 99, 215, 216, 217, 218, 100, 101, 22, 219, 220, 221, 222, 20, 21, 18, 171, 223, 224, 225, 226, 227, 228, 229, 230, 231, 33, 173, 232, 31, 158, 233, 234, 235, 236, 30, 14, 32, 237, 238, 239, 29, 240, 41, 241, 242, 56, 57, 58, 243, 244, 245, 246, 247, 248, 249, 250, 188, 189, 190, 191, 251, 252, 253, 254, 255, 256, 257, 258, 259, 260, 261, 262, 263, 264, 265, 266, 267, 268, 35, 269, 50, 51, 270, 271, 272, 273, 274, 275, 276, 277, 278, 279, 280, 281, 52, 586, 587, 588, 589, 590, 591, 592, 593, 594, 595, 596, 597, 598, 599, 600, 627, 628, 629, 630, 631, 632, 633, 634, 626] (by decide +kernel) (by decide +kernel)) (goodIn_sub (fun _ h => List.mem_append_right _ h) (by decide +kernel))) (goodIn_sub (fun _ h => List.mem_append_left _ (List.mem_append_left _ (List.mem_append_right _ h))) (by decide +kernel))) (goodIn_sub (fun _ h => List.mem_append_left _ (List.mem_append_right _ h)) (by decide +kernel))
set_option maxRecDepth 20000 in
theorem gL_law_L_cost : GoodIn wsL_law (va_wsS RL 123 yL_cost wsL_cost) := goodIn_app (goodIn_of _ (by decide +kernel)) ggL_law_L_cost
set_option maxRecDepth 20000 in
theorem ggL_law_X4_cost : GoodIn wsL_law wsX4_cost := goodIn_r _ [285, 286, 196, 197, 198, 5, 199, 110, 114, 115, 116, 287, 288, 289, 290, 117, 118, 119, 120, 121, 291, 292, 293, 294, 73, 74, 75, 71, 601, 602, 603, 604, 605, 606, 607, 608, 609, 610, 611, 612, 613, 614, 615, 616, 617, 618, 619, 620, 621, 622, 623, 624, 625] (by decide +kernel) (by decide +kernel)
set_option maxRecDepth 20000 in
theorem gL_law_X4_cost : GoodIn wsL_law (wsV RL 126 RX4 yX4_cost wsX4_cost) := goodIn_app (goodIn_of _ (by decide +kernel)) ggL_law_X4_cost
set_option maxRecDepth 20000 in
theorem ggL_law_L_overhead : GoodIn wsL_law wsL_overhead := goodIn_ca (goodIn_ca (goodIn_ca (goodIn_r _ [297, 166, 92, 93, 298, 299, 300, 2, 301, 100, 101, 16, 174, 175, 176, 177, 178, 179, 19, 102, 103, 104, 105, 98, 99, 215, 216, 217, 218, 22, 219, 220, 221, 222, 20, 21, 18, 171, 223, 224, 225, 226, 227, 228, 229, 230, 231, 33, 173, 232, 31, 158, 233, 234, 235, 236, 30, 14, 32, 237, 238, 239, 29, 240, 41, 241, 242, 56, 57, 58, 243, 244, 245, 246, 247, 248, 249, 250, 188, 189, 190, 191, 251, 252, 253, 254, 255, 256, 257, 258, 259, 260, 261, 262, 263, 264, 265, 266, 267, 268, 35, 269, 50, 51, 270, 271, 272, 273, 274, 275, 276, 277, 278, 279, 280, 281, 52, 586, 587, 588, 589, 590, 591, 592, 593, 594, 595, 596, 597, 598, 599, 600, 627, 628, 629, 630, 631, 632, 633, 634, 626] (by decide +kernel) (by decide +kernel)) (goodIn_sub (fun _ h => List.mem_append_left _ (List.mem_append_right _ h)) (by decide +kernel))) (goodIn_sub (fun _ h => List.mem_append_right _ h) (by decide +kernel))) (goodIn_sub (fun _ h => List.mem_append_left _ (List.mem_append_left _ (List.mem_append_right _ h))) (by decide +kernel))
set_option maxRecDepth 20000 in
theorem gL_law_L_overhead : GoodIn wsL_law (va_wsS RL 127 yL_overhead wsL_overhead) := goodIn_app (goodIn_of _ (by decide +kernel)) ggL_law_L_overhead
set_option maxRecDepth 20000 in
theorem ggL_law_X4_overhead : GoodIn wsL_law wsX4_overhead := goodIn_r _ [305, 286, 150, 196, 197, 198, 5, 199, 110, 114, 115, 116, 117, 118, 119, 120, 121, 291, 292, 293, 294, 73, 74, 75, 71, 601, 602, 603, 604, 605, 606, 607, 608, 609, 610, 611, 612, 613, 614, 615, 616, 617, 618, 619, 620, 621, 622, 623, 624, 625] (by decide +kernel) (by decide +kernel)
set_option maxRecDepth 20000 in
theorem gL_law_X4_overhead : GoodIn wsL_law (wsV RL 129 RX4 yX4_overhead wsX4_overhead) := goodIn_app (goodIn_of _ (by decide +kernel)) ggL_law_X4_overhead
set_option maxRecDepth 20000 in
theorem ggL_law_L_income : GoodIn wsL_law wsL_income := goodIn_ca (goodIn_ca (goodIn_ca (goodIn_r _ [308, 166, 92, 93, 309, 310, 311, 2, 312, 214, 174, 175, 176, 177, 178, 179, 19, 102, 103, 104, 105, 98, 99, 215, 216, 217, 218, 100, 101, 22, 219, 220, 221, 222, 20, 21, 18, 171, 223, 224, 225, 226, 227, 228, 229, 230, 231, 33, 173, 232, 31, 158, 233, 234, 235, 236, 30, 14, 32, 237, 238, 239, 29, 240, 41, 241, 242, 56, 57, 58, 243, 244, 245, 246, 247, 248, 249, 250, 188, 189, 190, 191, 251, 252, 253, 254, 255, 256, 257, 258, 259, 260, 261, 262, 263, 264, 265, 266, 267, 268, 35, 269, 50, 51, 270, 271, 272, 273, 274, 275, 276, 277, 278, 279, 280, 281, 52, 586, 587, 588, 589, 590, 591, 592, 593, 594, 595, 596, 597, 598, 599, 600, 627, 628, 629, 630, 631, 632, 633, 634, 626] (by decide +kernel) (by decide +kernel)) (goodIn_sub (fun _ h => List.mem_append_right _ h) (by decide +kernel))) (goodIn_sub (fun _ h => List.mem_append_left _ (List.mem_append_left _ (List.mem_append_right _ h))) (by decide +kernel))) (goodIn_sub (fun _ h => List.mem_append_left _ (List.mem_append_right _ h)) (by decide +kernel))
set_option maxRecDepth 20000 in
theorem gL_law_L_income : GoodIn wsL_law (va_wsS RL 130 yL_income wsL_income) := goodIn_app (goodIn_of _ (by decide +kernel)) ggL_law_L_income
set_option maxRecDepth 20000 in
theorem ggL_law_X4_income : GoodIn wsL_law wsX4_income := goodIn_r _ [316, 286, 196, 197, 198, 5, 199, 110, 114, 115, 116, 287, 288, 289, 290, 117, 118, 119, 120, 121, 291, 292, 293, 294, 73, 74, 75, 71, 601, 602, 603, 604, 605, 606, 607, 608, 609, 610, 611, 612, 613, 614, 615, 616, 617, 618, 619, 620, 621, 622, 623, 624, 625] (by decide +kernel) (by decide +kernel)
set_option maxRecDepth 20000 in
theorem gL_law_X4_income : GoodIn wsL_law (wsV RL 132 RX4 yX4_income wsX4_income) := goodIn_app (goodIn_of _ (by decide +kernel)) ggL_law_X4_income
set_option maxRecDepth 20000 in
theorem ggL_law_L_move : GoodIn wsL_law wsL_move := goodIn_ca (goodIn_ca (goodIn_r _ [319, 166, 93, 320, 321, 322, 2, 323, 100, 101, 21, 20, 18, 171, 324, 325, 326, 327, 178, 179, 22, 174, 175, 176, 177, 19, 328, 329, 330, 331, 332, 333, 334, 35, 335, 51, 52, 53, 54, 50, 49, 336, 337, 57, 338, 55, 56, 58, 223, 224, 225, 226, 227, 228, 229, 230, 231, 33, 173, 232, 31, 158, 233, 234, 235, 236, 30, 14, 32, 237, 238, 239, 29, 240, 41, 241, 242, 243, 244, 245, 246, 247, 248, 249, 250, 188, 189, 190, 191, 251, 252, 253, 254, 255, 256, 257, 258, 259, 260, 261, 262, 263, 264, 265, 266, 267, 268, 269, 270, 271, 272, 273, 274, 275, 276, 277, 278, 279, 280, 281, 586, 587, 588, 589, 590, 591, 592, 593, 594, 595, 596, 597, 598, 599, 600, 627, 628, 629, 630, 631, 632, 633, 634, 626] (by decide +kernel) (by decide +kernel)) (goodIn_sub (fun _ h => List.mem_append_left _ (List.mem_append_right _ h)) (by decide +kernel))) (goodIn_sub (fun _ h => List.mem_append_right _ h) (by decide +kernel))
set_option maxRecDepth 20000 in
theorem gL_law_L_move : GoodIn wsL_law (va_wsS RL 133 yL_move wsL_move) := goodIn_app (goodIn_of _ (by decide +kernel)) ggL_law_L_move
set_option maxRecDepth 20000 in
theorem ggL_law_X4_move : GoodIn wsL_law wsX4_move := goodIn_r _ [342, 75, 73, 71, 343, 344, 345, 5, 346, 286, 114, 115, 116, 196, 197, 198, 199, 110, 117, 118, 119, 120, 121, 601, 602, 603, 604, 605, 606, 607, 608, 609, 610, 611, 612, 613, 614, 615, 616, 617, 618, 619, 620, 621, 622, 623, 624, 625] (by decide +kernel) (by decide +kernel)
set_option maxRecDepth 20000 in
theorem gL_law_X4_move : GoodIn wsL_law (wsV RL 135 RX4 yX4_move wsX4_move) := goodIn_app (goodIn_of _ (by decide +kernel)) ggL_law_X4_move
set_option maxRecDepth 20000 in
theorem ggL_law_X3_vouchers : GoodIn wsL_law wsX3_vouchers := goodIn_r _ [350, 22, 586, 587, 588, 589, 590, 591, 592, 593, 594, 595, 596, 597, 598, 599, 600] (by decide +kernel) (by decide +kernel)
set_option maxRecDepth 20000 in
theorem gL_law_X3_vouchers : GoodIn wsL_law (wsV RL 136 RX3 yX3_vouchers wsX3_vouchers) := goodIn_app (goodIn_of _ (by decide +kernel)) ggL_law_X3_vouchers
set_option maxRecDepth 20000 in
theorem ggL_law_X4_vouchers : GoodIn wsL_law wsX4_vouchers := goodIn_r _ [354, 121, 286, 601, 602, 603, 604, 605, 606, 607, 608, 609, 610, 611, 612, 613, 614, 615, 616, 617, 618, 619, 620, 621, 622, 623, 624, 625] (by decide +kernel) (by decide +kernel)
set_option maxRecDepth 20000 in
theorem gL_law_X4_vouchers : GoodIn wsL_law (wsV RL 139 RX4 yX4_vouchers wsX4_vouchers) := goodIn_app (goodIn_of _ (by decide +kernel)) ggL_law_X4_vouchers
set_option maxRecDepth 20000 in
theorem ggL_law_L_wellOf : GoodIn wsL_law wsL_wellOf := goodIn_ca (goodIn_r _ [357, 166, 358, 359, 360, 2, 361, 20, 324, 325, 326, 327, 178, 179, 22, 586, 587, 588, 589, 590, 591, 592, 593, 594, 595, 596, 597, 598, 599, 600] (by decide +kernel) (by decide +kernel)) (goodIn_sub (fun _ h => List.mem_append_right _ h) (by decide +kernel))
set_option maxRecDepth 20000 in
theorem gL_law_L_wellOf : GoodIn wsL_law (va_wsS RL 140 yL_wellOf wsL_wellOf) := goodIn_app (goodIn_of _ (by decide +kernel)) ggL_law_L_wellOf
set_option maxRecDepth 20000 in
theorem ggL_law_X4_wellOf : GoodIn wsL_law wsX4_wellOf := goodIn_r _ [365, 73, 343, 344, 345, 5, 346, 286, 114, 115, 116, 117, 118, 119, 120, 121, 601, 602, 603, 604, 605, 606, 607, 608, 609, 610, 611, 612, 613, 614, 615, 616, 617, 618, 619, 620, 621, 622, 623, 624, 625] (by decide +kernel) (by decide +kernel)
set_option maxRecDepth 20000 in
theorem gL_law_X4_wellOf : GoodIn wsL_law (wsV RL 142 RX4 yX4_wellOf wsX4_wellOf) := goodIn_app (goodIn_of _ (by decide +kernel)) ggL_law_X4_wellOf
set_option maxRecDepth 20000 in
theorem ggL_law_L_amountOf : GoodIn wsL_law wsL_amountOf := goodIn_ca (goodIn_r _ [368, 166, 369, 370, 371, 2, 372, 21, 324, 325, 326, 327, 178, 179, 22, 586, 587, 588, 589, 590, 591, 592, 593, 594, 595, 596, 597, 598, 599, 600] (by decide +kernel) (by decide +kernel)) (goodIn_sub (fun _ h => List.mem_append_right _ h) (by decide +kernel))
set_option maxRecDepth 20000 in
theorem gL_law_L_amountOf : GoodIn wsL_law (va_wsS RL 143 yL_amountOf wsL_amountOf) := goodIn_app (goodIn_of _ (by decide +kernel)) ggL_law_L_amountOf
set_option maxRecDepth 20000 in
theorem ggL_law_X4_amountOf : GoodIn wsL_law wsX4_amountOf := goodIn_r _ [376, 75, 74, 343, 344, 345, 5, 346, 286, 114, 115, 116, 117, 118, 119, 120, 121, 601, 602, 603, 604, 605, 606, 607, 608, 609, 610, 611, 612, 613, 614, 615, 616, 617, 618, 619, 620, 621, 622, 623, 624, 625] (by decide +kernel) (by decide +kernel)
set_option maxRecDepth 20000 in
theorem gL_law_X4_amountOf : GoodIn wsL_law (wsV RL 145 RX4 yX4_amountOf wsX4_amountOf) := goodIn_app (goodIn_of _ (by decide +kernel)) ggL_law_X4_amountOf
set_option maxRecDepth 20000 in
theorem ggL_law_L_isIn : GoodIn wsL_law wsL_isIn := goodIn_ca (goodIn_r _ [379, 166, 380, 381, 382, 2, 383, 18, 174, 175, 176, 177, 178, 179, 19, 180, 181, 182, 183, 188, 189, 190, 191, 173, 14, 586, 587, 588, 589, 590, 591, 592, 593, 594, 595, 596, 597, 598, 599, 600, 627, 628, 629, 630, 631, 632, 633, 634] (by decide +kernel) (by decide +kernel)) (goodIn_sub (fun _ h => List.mem_append_right _ h) (by decide +kernel))
set_option maxRecDepth 20000 in
theorem gL_law_L_isIn : GoodIn wsL_law (va_wsS RL 146 yL_isIn wsL_isIn) := goodIn_app (goodIn_of _ (by decide +kernel)) ggL_law_L_isIn
set_option maxRecDepth 20000 in
theorem ggL_law_X4_isIn : GoodIn wsL_law wsX4_isIn := goodIn_r _ [387, 79, 388, 389, 390, 5, 391, 196, 197, 198, 199, 110, 114, 115, 116, 200, 201, 202, 117, 118, 119, 120, 121, 392, 393, 394, 395, 68, 72, 80, 81, 82, 83, 286, 73, 75, 74, 396, 397, 398, 399, 86, 85, 400, 401, 402, 403, 84, 404, 405, 406, 407, 87, 408, 409, 410, 411, 412, 413, 414, 415, 70, 416, 417, 601, 602, 603, 604, 605, 606, 607, 608, 609, 610, 611, 612, 613, 614, 615, 616, 617, 618, 619, 620, 621, 622, 623, 624, 625] (by decide +kernel) (by decide +kernel)
set_option maxRecDepth 20000 in
theorem gL_law_X4_isIn : GoodIn wsL_law (wsV RL 148 RX4 yX4_isIn wsX4_isIn) := goodIn_app (goodIn_of _ (by decide +kernel)) ggL_law_X4_isIn
set_option maxRecDepth 20000 in
theorem ggL_law_L_toEarn : GoodIn wsL_law wsL_toEarn := goodIn_ca (goodIn_r _ [420, 166, 421, 422, 423, 2, 424, 18, 232, 174, 175, 176, 177, 178, 179, 19, 180, 181, 182, 183, 586, 587, 588, 589, 590, 591, 592, 593, 594, 595, 596, 597, 598, 599, 600, 627, 628, 629, 630, 631, 632, 633, 634] (by decide +kernel) (by decide +kernel)) (goodIn_sub (fun _ h => List.mem_append_right _ h) (by decide +kernel))
set_option maxRecDepth 20000 in
theorem gL_law_L_toEarn : GoodIn wsL_law (va_wsS RL 149 yL_toEarn wsL_toEarn) := goodIn_app (goodIn_of _ (by decide +kernel)) ggL_law_L_toEarn
set_option maxRecDepth 20000 in
theorem ggL_law_X4_toEarn : GoodIn wsL_law wsX4_toEarn := goodIn_r _ [428, 80, 388, 389, 390, 5, 391, 196, 197, 198, 199, 110, 114, 115, 116, 200, 201, 202, 117, 118, 119, 120, 121, 392, 393, 394, 395, 79, 68, 72, 81, 82, 83, 286, 73, 75, 74, 396, 397, 398, 399, 86, 85, 400, 401, 402, 403, 84, 404, 405, 406, 407, 87, 408, 409, 410, 411, 412, 413, 414, 415, 70, 416, 417, 601, 602, 603, 604, 605, 606, 607, 608, 609, 610, 611, 612, 613, 614, 615, 616, 617, 618, 619, 620, 621, 622, 623, 624, 625] (by decide +kernel) (by decide +kernel)
set_option maxRecDepth 20000 in
theorem gL_law_X4_toEarn : GoodIn wsL_law (wsV RL 151 RX4 yX4_toEarn wsX4_toEarn) := goodIn_app (goodIn_of _ (by decide +kernel)) ggL_law_X4_toEarn
set_option maxRecDepth 20000 in
theorem ggL_law_L_backAt : GoodIn wsL_law wsL_backAt := goodIn_ca (goodIn_r _ [431, 166, 432, 433, 434, 2, 435, 18, 436, 174, 175, 176, 177, 178, 179, 19, 180, 181, 182, 183, 586, 587, 588, 589, 590, 591, 592, 593, 594, 595, 596, 597, 598, 599, 600, 627, 628, 629, 630, 631, 632, 633, 634] (by decide +kernel) (by decide +kernel)) (goodIn_sub (fun _ h => List.mem_append_right _ h) (by decide +kernel))
set_option maxRecDepth 20000 in
theorem gL_law_L_backAt : GoodIn wsL_law (va_wsS RL 152 yL_backAt wsL_backAt) := goodIn_app (goodIn_of _ (by decide +kernel)) ggL_law_L_backAt
set_option maxRecDepth 20000 in
theorem ggL_law_X4_backAt : GoodIn wsL_law wsX4_backAt := goodIn_r _ [440, 81, 388, 389, 390, 5, 391, 196, 197, 198, 199, 110, 114, 115, 116, 200, 201, 202, 117, 118, 119, 120, 121, 392, 393, 394, 395, 79, 68, 72, 80, 82, 83, 286, 73, 75, 74, 396, 397, 398, 399, 86, 85, 400, 401, 402, 403, 84, 404, 405, 406, 407, 87, 408, 409, 410, 411, 412, 413, 414, 415, 70, 416, 417, 601, 602, 603, 604, 605, 606, 607, 608, 609, 610, 611, 612, 613, 614, 615, 616, 617, 618, 619, 620, 621, 622, 623, 624, 625] (by decide +kernel) (by decide +kernel)
set_option maxRecDepth 20000 in
theorem gL_law_X4_backAt : GoodIn wsL_law (wsV RL 154 RX4 yX4_backAt wsX4_backAt) := goodIn_app (goodIn_of _ (by decide +kernel)) ggL_law_X4_backAt
set_option maxRecDepth 20000 in
theorem ggL_law_L_charged : GoodIn wsL_law wsL_charged := goodIn_ca (goodIn_r _ [443, 166, 444, 445, 446, 2, 447, 18, 231, 174, 175, 176, 177, 178, 179, 19, 180, 181, 182, 183, 586, 587, 588, 589, 590, 591, 592, 593, 594, 595, 596, 597, 598, 599, 600, 627, 628, 629, 630, 631, 632, 633, 634] (by decide +kernel) (by decide +kernel)) (goodIn_sub (fun _ h => List.mem_append_right _ h) (by decide +kernel))
set_option maxRecDepth 20000 in
theorem gL_law_L_charged : GoodIn wsL_law (va_wsS RL 155 yL_charged wsL_charged) := goodIn_app (goodIn_of _ (by decide +kernel)) ggL_law_L_charged
set_option maxRecDepth 20000 in
theorem ggL_law_X4_charged : GoodIn wsL_law wsX4_charged := goodIn_r _ [451, 82, 388, 389, 390, 5, 391, 196, 197, 198, 199, 110, 114, 115, 116, 200, 201, 202, 117, 118, 119, 120, 121, 392, 393, 394, 395, 79, 68, 72, 80, 81, 83, 286, 73, 75, 74, 396, 397, 398, 399, 86, 85, 400, 401, 402, 403, 84, 404, 405, 406, 407, 87, 408, 409, 410, 411, 412, 413, 414, 415, 70, 416, 417, 601, 602, 603, 604, 605, 606, 607, 608, 609, 610, 611, 612, 613, 614, 615, 616, 617, 618, 619, 620, 621, 622, 623, 624, 625] (by decide +kernel) (by decide +kernel)
set_option maxRecDepth 20000 in
theorem gL_law_X4_charged : GoodIn wsL_law (wsV RL 157 RX4 yX4_charged wsX4_charged) := goodIn_app (goodIn_of _ (by decide +kernel)) ggL_law_X4_charged
set_option maxRecDepth 20000 in
theorem ggL_law_L_credited : GoodIn wsL_law wsL_credited := goodIn_ca (goodIn_r _ [454, 166, 455, 456, 457, 2, 458, 18, 265, 174, 175, 176, 177, 178, 179, 19, 180, 181, 182, 183, 586, 587, 588, 589, 590, 591, 592, 593, 594, 595, 596, 597, 598, 599, 600, 627, 628, 629, 630, 631, 632, 633, 634] (by decide +kernel) (by decide +kernel)) (goodIn_sub (fun _ h => List.mem_append_right _ h) (by decide +kernel))
set_option maxRecDepth 20000 in
theorem gL_law_L_credited : GoodIn wsL_law (va_wsS RL 158 yL_credited wsL_credited) := goodIn_app (goodIn_of _ (by decide +kernel)) ggL_law_L_credited
set_option maxRecDepth 20000 in
theorem ggL_law_X4_credited : GoodIn wsL_law wsX4_credited := goodIn_r _ [462, 83, 388, 389, 390, 5, 391, 196, 197, 198, 199, 110, 114, 115, 116, 200, 201, 202, 117, 118, 119, 120, 121, 392, 393, 394, 395, 79, 68, 72, 80, 81, 82, 286, 73, 75, 74, 396, 397, 398, 399, 86, 85, 400, 401, 402, 403, 84, 404, 405, 406, 407, 87, 408, 409, 410, 411, 412, 413, 414, 415, 70, 416, 417, 601, 602, 603, 604, 605, 606, 607, 608, 609, 610, 611, 612, 613, 614, 615, 616, 617, 618, 619, 620, 621, 622, 623, 624, 625] (by decide +kernel) (by decide +kernel)
set_option maxRecDepth 20000 in
theorem gL_law_X4_credited : GoodIn wsL_law (wsV RL 160 RX4 yX4_credited wsX4_credited) := goodIn_app (goodIn_of _ (by decide +kernel)) ggL_law_X4_credited
set_option maxRecDepth 20000 in
theorem ggL_law_L_weight : GoodIn wsL_law wsL_weight := goodIn_ca (goodIn_r _ [465, 166, 466, 467, 468, 2, 469, 18, 33, 174, 175, 176, 177, 178, 179, 19, 180, 181, 182, 183, 233, 234, 235, 236, 30, 14, 31, 32, 173, 237, 238, 239, 29, 240, 41, 241, 242, 56, 57, 58, 243, 244, 245, 246, 247, 248, 249, 250, 188, 189, 190, 191, 251, 252, 253, 254, 586, 587, 588, 589, 590, 591, 592, 593, 594, 595, 596, 597, 598, 599, 600, 627, 628, 629, 630, 631, 632, 633, 634, 626] (by decide +kernel) (by decide +kernel)) (goodIn_sub (fun _ h => List.mem_append_right _ h) (by decide +kernel))
set_option maxRecDepth 20000 in
theorem gL_law_L_weight : GoodIn wsL_law (va_wsS RL 161 yL_weight wsL_weight) := goodIn_app (goodIn_of _ (by decide +kernel)) ggL_law_L_weight
set_option maxRecDepth 20000 in
theorem ggL_law_X4_weight : GoodIn wsL_law wsX4_weight := goodIn_r _ [473, 82, 196, 197, 198, 5, 199, 110, 114, 115, 116, 200, 201, 202, 117, 118, 119, 120, 121, 474, 475, 476, 477, 392, 393, 394, 395, 79, 68, 72, 80, 81, 83, 286, 73, 75, 74, 396, 397, 398, 399, 86, 85, 400, 401, 402, 403, 84, 404, 405, 406, 407, 87, 408, 409, 410, 411, 412, 413, 414, 415, 70, 416, 417, 601, 602, 603, 604, 605, 606, 607, 608, 609, 610, 611, 612, 613, 614, 615, 616, 617, 618, 619, 620, 621, 622, 623, 624, 625] (by decide +kernel) (by decide +kernel)
set_option maxRecDepth 20000 in
theorem gL_law_X4_weight : GoodIn wsL_law (wsV RL 163 RX4 yX4_weight wsX4_weight) := goodIn_app (goodIn_of _ (by decide +kernel)) ggL_law_X4_weight
set_option maxRecDepth 20000 in
theorem ggL_law_L_call : GoodIn wsL_law wsL_call := goodIn_ca (goodIn_ca (goodIn_ca (goodIn_r _ [480, 166, 92, 93, 481, 482, 483, 2, 484, 100, 101, 214, 25, 18, 30, 33, 24, 485, 174, 175, 176, 177, 178, 179, 19, 102, 103, 104, 105, 98, 99, 233, 234, 235, 236, 14, 31, 32, 173, 237, 238, 239, 29, 240, 41, 241, 242, 56, 57, 58, 243, 244, 245, 246, 247, 248, 249, 250, 188, 189, 190, 191, 251, 252, 253, 254, 586, 587, 588, 589, 590, 591, 592, 593, 594, 595, 596, 597, 598, 599, 600, 635, 636, 627, 628, 629, 630, 631, 632, 633, 634, 626] (by decide +kernel) (by decide +kernel)) (goodIn_sub (fun _ h => List.mem_append_left _ (List.mem_append_right _ h)) (by decide +kernel))) (goodIn_sub (fun _ h => List.mem_append_right _ h) (by decide +kernel))) (goodIn_sub (fun _ h => List.mem_append_left _ (List.mem_append_left _ (List.mem_append_right _ h))) (by decide +kernel))
set_option maxRecDepth 20000 in
theorem gL_law_L_call : GoodIn wsL_law (va_wsS RL 164 yL_call wsL_call) := goodIn_app (goodIn_of _ (by decide +kernel)) ggL_law_L_call
set_option maxRecDepth 20000 in
theorem ggL_law_X4_call : GoodIn wsL_law wsX4_call := goodIn_r _ [489, 490, 84, 82, 76, 85, 196, 197, 198, 5, 199, 110, 114, 115, 116, 287, 288, 289, 290, 117, 118, 119, 120, 121, 474, 475, 476, 477, 392, 393, 394, 395, 79, 68, 72, 80, 81, 83, 286, 73, 75, 74, 396, 397, 398, 399, 86, 400, 401, 402, 403, 404, 405, 406, 407, 87, 408, 409, 410, 411, 412, 413, 414, 415, 70, 416, 417, 601, 602, 603, 604, 605, 606, 607, 608, 609, 610, 611, 612, 613, 614, 615, 616, 617, 618, 619, 620, 621, 622, 623, 624, 625] (by decide +kernel) (by decide +kernel)
set_option maxRecDepth 20000 in
theorem gL_law_X4_call : GoodIn wsL_law (wsV RL 166 RX4 yX4_call wsX4_call) := goodIn_app (goodIn_of _ (by decide +kernel)) ggL_law_X4_call
set_option maxRecDepth 20000 in
theorem ggL_law_L_pay : GoodIn wsL_law wsL_pay := goodIn_ca (goodIn_ca (goodIn_r _ [493, 166, 93, 494, 495, 496, 2, 497, 100, 101, 24, 485, 498, 499, 500, 501, 502, 178, 179, 25, 180, 181, 182, 183, 586, 587, 588, 589, 590, 591, 592, 593, 594, 595, 596, 597, 598, 599, 600, 635, 636] (by decide +kernel) (by decide +kernel)) (goodIn_sub (fun _ h => List.mem_append_left _ (List.mem_append_right _ h)) (by decide +kernel))) (goodIn_sub (fun _ h => List.mem_append_right _ h) (by decide +kernel))
set_option maxRecDepth 20000 in
theorem gL_law_L_pay : GoodIn wsL_law (va_wsS RL 167 yL_pay wsL_pay) := goodIn_app (goodIn_of _ (by decide +kernel)) ggL_law_L_pay
set_option maxRecDepth 20000 in
theorem ggL_law_X4_pay : GoodIn wsL_law wsX4_pay := goodIn_r _ [506, 76, 77, 507, 508, 509, 5, 510, 490, 114, 115, 116, 200, 201, 202, 117, 118, 119, 120, 121, 601, 602, 603, 604, 605, 606, 607, 608, 609, 610, 611, 612, 613, 614, 615, 616, 617, 618, 619, 620, 621, 622, 623, 624, 625] (by decide +kernel) (by decide +kernel)
set_option maxRecDepth 20000 in
theorem gL_law_X4_pay : GoodIn wsL_law (wsV RL 169 RX4 yX4_pay wsX4_pay) := goodIn_app (goodIn_of _ (by decide +kernel)) ggL_law_X4_pay
set_option maxRecDepth 20000 in
theorem ggL_law_L_shareOut : GoodIn wsL_law wsL_shareOut := goodIn_ca (goodIn_ca (goodIn_r _ [513, 166, 93, 514, 515, 516, 2, 517, 100, 101, 24, 499, 500, 501, 502, 178, 179, 25, 518, 519, 520, 37, 521, 63, 522, 523, 524, 525, 62, 526, 527, 528, 529, 32, 498, 485, 30, 33, 26, 237, 238, 239, 29, 240, 41, 241, 242, 56, 57, 58, 243, 244, 245, 246, 586, 587, 588, 589, 590, 591, 592, 593, 594, 595, 596, 597, 598, 599, 600, 635, 636, 626] (by decide +kernel) (by decide +kernel)) (goodIn_sub (fun _ h => List.mem_append_left _ (List.mem_append_right _ h)) (by decide +kernel))) (goodIn_sub (fun _ h => List.mem_append_right _ h) (by decide +kernel))
set_option maxRecDepth 20000 in
theorem gL_law_L_shareOut : GoodIn wsL_law (va_wsS RL 170 yL_shareOut wsL_shareOut) := goodIn_app (goodIn_of _ (by decide +kernel)) ggL_law_L_shareOut
set_option maxRecDepth 20000 in
theorem ggL_law_X4_shareOut : GoodIn wsL_law wsX4_shareOut := goodIn_r _ [533, 77, 84, 76, 78, 85, 507, 508, 509, 5, 510, 490, 114, 115, 116, 117, 118, 119, 120, 121, 404, 405, 406, 407, 87, 601, 602, 603, 604, 605, 606, 607, 608, 609, 610, 611, 612, 613, 614, 615, 616, 617, 618, 619, 620, 621, 622, 623, 624, 625] (by decide +kernel) (by decide +kernel)
set_option maxRecDepth 20000 in
theorem gL_law_X4_shareOut : GoodIn wsL_law (wsV RL 172 RX4 yX4_shareOut wsX4_shareOut) := goodIn_app (goodIn_of _ (by decide +kernel)) ggL_law_X4_shareOut
set_option maxRecDepth 20000 in
theorem ggL_law_L_asked : GoodIn wsL_law wsL_asked := goodIn_ca (goodIn_r _ [536, 166, 537, 538, 539, 2, 540, 24, 485, 499, 500, 501, 502, 178, 179, 25, 180, 181, 182, 183, 586, 587, 588, 589, 590, 591, 592, 593, 594, 595, 596, 597, 598, 599, 600, 635, 636] (by decide +kernel) (by decide +kernel)) (goodIn_sub (fun _ h => List.mem_append_right _ h) (by decide +kernel))
set_option maxRecDepth 20000 in
theorem gL_law_L_asked : GoodIn wsL_law (va_wsS RL 173 yL_asked wsL_asked) := goodIn_app (goodIn_of _ (by decide +kernel)) ggL_law_L_asked
set_option maxRecDepth 20000 in
theorem ggL_law_X4_asked : GoodIn wsL_law wsX4_asked := goodIn_r _ [544, 76, 507, 508, 509, 5, 510, 490, 114, 115, 116, 200, 201, 202, 117, 118, 119, 120, 121, 601, 602, 603, 604, 605, 606, 607, 608, 609, 610, 611, 612, 613, 614, 615, 616, 617, 618, 619, 620, 621, 622, 623, 624, 625] (by decide +kernel) (by decide +kernel)
set_option maxRecDepth 20000 in
theorem gL_law_X4_asked : GoodIn wsL_law (wsV RL 175 RX4 yX4_asked wsX4_asked) := goodIn_app (goodIn_of _ (by decide +kernel)) ggL_law_X4_asked
set_option maxRecDepth 20000 in
theorem ggL_law_L_paid : GoodIn wsL_law wsL_paid := goodIn_ca (goodIn_r _ [547, 166, 548, 549, 550, 2, 551, 180, 181, 182, 183, 178, 179, 552, 553, 554, 555, 25, 24, 498, 586, 587, 588, 589, 590, 591, 592, 593, 594, 595, 596, 597, 598, 599, 600, 635, 636] (by decide +kernel) (by decide +kernel)) (goodIn_sub (fun _ h => List.mem_append_right _ h) (by decide +kernel))
set_option maxRecDepth 20000 in
theorem gL_law_L_paid : GoodIn wsL_law (va_wsS RL 176 yL_paid wsL_paid) := goodIn_app (goodIn_of _ (by decide +kernel)) ggL_law_L_paid
set_option maxRecDepth 20000 in
theorem ggL_law_X4_paid : GoodIn wsL_law wsX4_paid := goodIn_r _ [559, 200, 201, 5, 202, 114, 115, 116, 117, 118, 119, 120, 121, 560, 561, 562, 563, 490, 77, 601, 602, 603, 604, 605, 606, 607, 608, 609, 610, 611, 612, 613, 614, 615, 616, 617, 618, 619, 620, 621, 622, 623, 624, 625] (by decide +kernel) (by decide +kernel)
set_option maxRecDepth 20000 in
theorem gL_law_X4_paid : GoodIn wsL_law (wsV RL 178 RX4 yX4_paid wsX4_paid) := goodIn_app (goodIn_of _ (by decide +kernel)) ggL_law_X4_paid
set_option maxRecDepth 20000 in
theorem ggL_law_L_owes : GoodIn wsL_law wsL_owes := goodIn_ca (goodIn_r _ [566, 166, 567, 568, 569, 2, 570, 26, 180, 181, 182, 183, 178, 179, 586, 587, 588, 589, 590, 591, 592, 593, 594, 595, 596, 597, 598, 599, 600] (by decide +kernel) (by decide +kernel)) (goodIn_sub (fun _ h => List.mem_append_right _ h) (by decide +kernel))
set_option maxRecDepth 20000 in
theorem gL_law_L_owes : GoodIn wsL_law (va_wsS RL 179 yL_owes wsL_owes) := goodIn_app (goodIn_of _ (by decide +kernel)) ggL_law_L_owes
set_option maxRecDepth 20000 in
theorem ggL_law_X4_owes : GoodIn wsL_law wsX4_owes := goodIn_r _ [574, 78, 200, 201, 5, 202, 114, 115, 116, 117, 118, 119, 120, 121, 601, 602, 603, 604, 605, 606, 607, 608, 609, 610, 611, 612, 613, 614, 615, 616, 617, 618, 619, 620, 621, 622, 623, 624, 625] (by decide +kernel) (by decide +kernel)
set_option maxRecDepth 20000 in
theorem gL_law_X4_owes : GoodIn wsL_law (wsV RL 181 RX4 yX4_owes wsX4_owes) := goodIn_app (goodIn_of _ (by decide +kernel)) ggL_law_X4_owes
set_option maxRecDepth 20000 in
theorem ggL_law_L_balance : GoodIn wsL_law wsL_balance := goodIn_ca (goodIn_r _ [577, 166, 578, 579, 580, 2, 581, 26, 19, 18, 265, 231, 180, 181, 182, 183, 178, 179, 552, 553, 554, 555, 25, 24, 498, 586, 587, 588, 589, 590, 591, 592, 593, 594, 595, 596, 597, 598, 599, 600, 627, 628, 629, 630, 631, 632, 633, 634, 635, 636] (by decide +kernel) (by decide +kernel)) (goodIn_sub (fun _ h => List.mem_append_right _ h) (by decide +kernel))
set_option maxRecDepth 20000 in
theorem gL_law_L_balance : GoodIn wsL_law (va_wsS RL 182 yL_balance wsL_balance) := goodIn_app (goodIn_of _ (by decide +kernel)) ggL_law_L_balance
set_option maxRecDepth 20000 in
theorem ggL_law_X4_balance : GoodIn wsL_law wsX4_balance := goodIn_r _ [585, 78, 110, 83, 82, 200, 201, 5, 202, 114, 115, 116, 117, 118, 119, 120, 121, 560, 561, 562, 563, 490, 77, 392, 393, 394, 395, 79, 68, 72, 80, 81, 286, 73, 75, 74, 396, 397, 398, 399, 86, 85, 400, 401, 402, 403, 84, 404, 405, 406, 407, 87, 408, 409, 410, 411, 412, 413, 414, 415, 70, 416, 417, 601, 602, 603, 604, 605, 606, 607, 608, 609, 610, 611, 612, 613, 614, 615, 616, 617, 618, 619, 620, 621, 622, 623, 624, 625] (by decide +kernel) (by decide +kernel)
set_option maxRecDepth 20000 in
theorem gL_law_X4_balance : GoodIn wsL_law (wsV RL 184 RX4 yX4_balance wsX4_balance) := goodIn_app (goodIn_of _ (by decide +kernel)) ggL_law_X4_balance
theorem dL_law_0 : decode cL_law 0 = .ok (.new 8, 3) := by decide +kernel
theorem dL_law_3 : decode cL_law 3 = .ok (.dup, 1) := by decide +kernel
theorem dL_law_4 : decode cL_law 4 = .ok (.invokespecial 95, 3) := by decide +kernel
theorem dL_law_7 : decode cL_law 7 = .ok (.astore_n 1, 1) := by decide +kernel
theorem dL_law_8 : decode cL_law 8 = .ok (.new 96, 3) := by decide +kernel
theorem dL_law_11 : decode cL_law 11 = .ok (.dup, 1) := by decide +kernel
theorem dL_law_12 : decode cL_law 12 = .ok (.invokespecial 98, 3) := by decide +kernel
theorem dL_law_15 : decode cL_law 15 = .ok (.astore_n 2, 1) := by decide +kernel
theorem dL_law_16 : decode cL_law 16 = .ok (.iconst 1, 1) := by decide +kernel
theorem dL_law_17 : decode cL_law 17 = .ok (.newarray .long, 2) := by decide +kernel
theorem dL_law_19 : decode cL_law 19 = .ok (.astore_n 3, 1) := by decide +kernel
theorem dL_law_20 : decode cL_law 20 = .ok (.iconst 0, 1) := by decide +kernel
theorem dL_law_21 : decode cL_law 21 = .ok (.istore 4, 2) := by decide +kernel
theorem dL_law_23 : decode cL_law 23 = .ok (.iload 4, 2) := by decide +kernel
theorem dL_law_25 : decode cL_law 25 = .ok (.aload_n 0, 1) := by decide +kernel
theorem dL_law_26 : decode cL_law 26 = .ok (.arraylength, 1) := by decide +kernel
theorem dL_law_27 : decode cL_law 27 = .ok (.bipush 6, 2) := by decide +kernel
theorem dL_law_29 : decode cL_law 29 = .ok (.isub, 1) := by decide +kernel
theorem dL_law_30 : decode cL_law 30 = .ok (.if_icmp .gt 1713, 3) := by decide +kernel
theorem dL_law_33 : decode cL_law 33 = .ok (.aload_n 0, 1) := by decide +kernel
theorem dL_law_34 : decode cL_law 34 = .ok (.iload 4, 2) := by decide +kernel
theorem dL_law_36 : decode cL_law 36 = .ok (.iaload, 1) := by decide +kernel
theorem dL_law_37 : decode cL_law 37 = .ok (.bipush 31, 2) := by decide +kernel
theorem dL_law_39 : decode cL_law 39 = .ok (.iand, 1) := by decide +kernel
theorem dL_law_40 : decode cL_law 40 = .ok (.tableswitch 1697 0 24 #[116, 200, 256, 312, 356, 459, 527, 595, 663, 731, 744, 800, 856, 931, 998, 1066, 1134, 1202, 1270, 1338, 1406, 1462, 1530, 1586, 1642], 116) := by decide +kernel
theorem dL_law_156 : decode cL_law 156 = .ok (.aload_n 1, 1) := by decide +kernel
theorem dL_law_157 : decode cL_law 157 = .ok (.aload_n 0, 1) := by decide +kernel
theorem dL_law_158 : decode cL_law 158 = .ok (.iload 4, 2) := by decide +kernel
theorem dL_law_160 : decode cL_law 160 = .ok (.iconst 1, 1) := by decide +kernel
theorem dL_law_161 : decode cL_law 161 = .ok (.iadd, 1) := by decide +kernel
theorem dL_law_162 : decode cL_law 162 = .ok (.iaload, 1) := by decide +kernel
theorem dL_law_163 : decode cL_law 163 = .ok (.aload_n 0, 1) := by decide +kernel
theorem dL_law_164 : decode cL_law 164 = .ok (.iload 4, 2) := by decide +kernel
theorem dL_law_166 : decode cL_law 166 = .ok (.iconst 2, 1) := by decide +kernel
theorem dL_law_167 : decode cL_law 167 = .ok (.iadd, 1) := by decide +kernel
theorem dL_law_168 : decode cL_law 168 = .ok (.iaload, 1) := by decide +kernel
theorem dL_law_169 : decode cL_law 169 = .ok (.aload_n 0, 1) := by decide +kernel
theorem dL_law_170 : decode cL_law 170 = .ok (.iload 4, 2) := by decide +kernel
theorem dL_law_172 : decode cL_law 172 = .ok (.iconst 3, 1) := by decide +kernel
theorem dL_law_173 : decode cL_law 173 = .ok (.iadd, 1) := by decide +kernel
theorem dL_law_174 : decode cL_law 174 = .ok (.iaload, 1) := by decide +kernel
theorem dL_law_175 : decode cL_law 175 = .ok (.aload_n 0, 1) := by decide +kernel
theorem dL_law_176 : decode cL_law 176 = .ok (.iload 4, 2) := by decide +kernel
theorem dL_law_178 : decode cL_law 178 = .ok (.iconst 4, 1) := by decide +kernel
theorem dL_law_179 : decode cL_law 179 = .ok (.iadd, 1) := by decide +kernel
theorem dL_law_180 : decode cL_law 180 = .ok (.iaload, 1) := by decide +kernel
theorem dL_law_181 : decode cL_law 181 = .ok (.aload_n 0, 1) := by decide +kernel
theorem dL_law_182 : decode cL_law 182 = .ok (.iload 4, 2) := by decide +kernel
theorem dL_law_184 : decode cL_law 184 = .ok (.iconst 5, 1) := by decide +kernel
theorem dL_law_185 : decode cL_law 185 = .ok (.iadd, 1) := by decide +kernel
theorem dL_law_186 : decode cL_law 186 = .ok (.iaload, 1) := by decide +kernel
theorem dL_law_187 : decode cL_law 187 = .ok (.invokestatic 99, 3) := by decide +kernel
theorem dL_law_190 : decode cL_law 190 = .ok (.istore 5, 2) := by decide +kernel
theorem dL_law_192 : decode cL_law 192 = .ok (.aload_n 2, 1) := by decide +kernel
theorem dL_law_193 : decode cL_law 193 = .ok (.aload_n 0, 1) := by decide +kernel
theorem dL_law_194 : decode cL_law 194 = .ok (.iload 4, 2) := by decide +kernel
theorem dL_law_196 : decode cL_law 196 = .ok (.iconst 1, 1) := by decide +kernel
theorem dL_law_197 : decode cL_law 197 = .ok (.iadd, 1) := by decide +kernel
theorem dL_law_198 : decode cL_law 198 = .ok (.iaload, 1) := by decide +kernel
theorem dL_law_199 : decode cL_law 199 = .ok (.aload_n 0, 1) := by decide +kernel
theorem dL_law_200 : decode cL_law 200 = .ok (.iload 4, 2) := by decide +kernel
theorem dL_law_202 : decode cL_law 202 = .ok (.iconst 2, 1) := by decide +kernel
theorem dL_law_203 : decode cL_law 203 = .ok (.iadd, 1) := by decide +kernel
theorem dL_law_204 : decode cL_law 204 = .ok (.iaload, 1) := by decide +kernel
theorem dL_law_205 : decode cL_law 205 = .ok (.aload_n 0, 1) := by decide +kernel
theorem dL_law_206 : decode cL_law 206 = .ok (.iload 4, 2) := by decide +kernel
theorem dL_law_208 : decode cL_law 208 = .ok (.iconst 3, 1) := by decide +kernel
theorem dL_law_209 : decode cL_law 209 = .ok (.iadd, 1) := by decide +kernel
theorem dL_law_210 : decode cL_law 210 = .ok (.iaload, 1) := by decide +kernel
theorem dL_law_211 : decode cL_law 211 = .ok (.aload_n 0, 1) := by decide +kernel
theorem dL_law_212 : decode cL_law 212 = .ok (.iload 4, 2) := by decide +kernel
theorem dL_law_214 : decode cL_law 214 = .ok (.iconst 4, 1) := by decide +kernel
theorem dL_law_215 : decode cL_law 215 = .ok (.iadd, 1) := by decide +kernel
theorem dL_law_216 : decode cL_law 216 = .ok (.iaload, 1) := by decide +kernel
theorem dL_law_217 : decode cL_law 217 = .ok (.aload_n 0, 1) := by decide +kernel
theorem dL_law_218 : decode cL_law 218 = .ok (.iload 4, 2) := by decide +kernel
theorem dL_law_220 : decode cL_law 220 = .ok (.iconst 5, 1) := by decide +kernel
theorem dL_law_221 : decode cL_law 221 = .ok (.iadd, 1) := by decide +kernel
theorem dL_law_222 : decode cL_law 222 = .ok (.iaload, 1) := by decide +kernel
theorem dL_law_223 : decode cL_law 223 = .ok (.invokevirtual 104, 3) := by decide +kernel
theorem dL_law_226 : decode cL_law 226 = .ok (.aload_n 2, 1) := by decide +kernel
theorem dL_law_227 : decode cL_law 227 = .ok (.invokevirtual 105, 3) := by decide +kernel
theorem dL_law_230 : decode cL_law 230 = .ok (.iload 5, 2) := by decide +kernel
theorem dL_law_232 : decode cL_law 232 = .ok (.if_icmp .eq 5, 3) := by decide +kernel
theorem dL_law_235 : decode cL_law 235 = .ok (.iconst 0, 1) := by decide +kernel
theorem dL_law_236 : decode cL_law 236 = .ok (.ireturn, 1) := by decide +kernel
theorem dL_law_237 : decode cL_law 237 = .ok (.goto 1500, 3) := by decide +kernel
theorem dL_law_240 : decode cL_law 240 = .ok (.aload_n 1, 1) := by decide +kernel
theorem dL_law_241 : decode cL_law 241 = .ok (.aload_n 0, 1) := by decide +kernel
theorem dL_law_242 : decode cL_law 242 = .ok (.iload 4, 2) := by decide +kernel
theorem dL_law_244 : decode cL_law 244 = .ok (.iconst 1, 1) := by decide +kernel
theorem dL_law_245 : decode cL_law 245 = .ok (.iadd, 1) := by decide +kernel
theorem dL_law_246 : decode cL_law 246 = .ok (.iaload, 1) := by decide +kernel
theorem dL_law_247 : decode cL_law 247 = .ok (.aload_n 3, 1) := by decide +kernel
theorem dL_law_248 : decode cL_law 248 = .ok (.invokestatic 108, 3) := by decide +kernel
theorem dL_law_251 : decode cL_law 251 = .ok (.istore 5, 2) := by decide +kernel
theorem dL_law_253 : decode cL_law 253 = .ok (.aload_n 2, 1) := by decide +kernel
theorem dL_law_254 : decode cL_law 254 = .ok (.aload_n 0, 1) := by decide +kernel
theorem dL_law_255 : decode cL_law 255 = .ok (.iload 4, 2) := by decide +kernel
theorem dL_law_257 : decode cL_law 257 = .ok (.iconst 1, 1) := by decide +kernel
theorem dL_law_258 : decode cL_law 258 = .ok (.iadd, 1) := by decide +kernel
theorem dL_law_259 : decode cL_law 259 = .ok (.iaload, 1) := by decide +kernel
theorem dL_law_260 : decode cL_law 260 = .ok (.invokevirtual 111, 3) := by decide +kernel
theorem dL_law_263 : decode cL_law 263 = .ok (.istore 6, 2) := by decide +kernel
theorem dL_law_265 : decode cL_law 265 = .ok (.aload_n 2, 1) := by decide +kernel
theorem dL_law_266 : decode cL_law 266 = .ok (.invokevirtual 105, 3) := by decide +kernel
theorem dL_law_269 : decode cL_law 269 = .ok (.iload 5, 2) := by decide +kernel
theorem dL_law_271 : decode cL_law 271 = .ok (.if_icmp .eq 5, 3) := by decide +kernel
theorem dL_law_274 : decode cL_law 274 = .ok (.iconst 0, 1) := by decide +kernel
theorem dL_law_275 : decode cL_law 275 = .ok (.ireturn, 1) := by decide +kernel
theorem dL_law_276 : decode cL_law 276 = .ok (.iload 5, 2) := by decide +kernel
theorem dL_law_278 : decode cL_law 278 = .ok (.ifCond .ne 15, 3) := by decide +kernel
theorem dL_law_281 : decode cL_law 281 = .ok (.aload_n 3, 1) := by decide +kernel
theorem dL_law_282 : decode cL_law 282 = .ok (.iconst 0, 1) := by decide +kernel
theorem dL_law_283 : decode cL_law 283 = .ok (.laload, 1) := by decide +kernel
theorem dL_law_284 : decode cL_law 284 = .ok (.iload 6, 2) := by decide +kernel
theorem dL_law_286 : decode cL_law 286 = .ok (.i2l, 1) := by decide +kernel
theorem dL_law_287 : decode cL_law 287 = .ok (.lcmp, 1) := by decide +kernel
theorem dL_law_288 : decode cL_law 288 = .ok (.ifCond .eq 5, 3) := by decide +kernel
theorem dL_law_291 : decode cL_law 291 = .ok (.iconst 0, 1) := by decide +kernel
theorem dL_law_292 : decode cL_law 292 = .ok (.ireturn, 1) := by decide +kernel
theorem dL_law_293 : decode cL_law 293 = .ok (.goto 1444, 3) := by decide +kernel
theorem dL_law_296 : decode cL_law 296 = .ok (.aload_n 1, 1) := by decide +kernel
theorem dL_law_297 : decode cL_law 297 = .ok (.aload_n 0, 1) := by decide +kernel
theorem dL_law_298 : decode cL_law 298 = .ok (.iload 4, 2) := by decide +kernel
theorem dL_law_300 : decode cL_law 300 = .ok (.iconst 1, 1) := by decide +kernel
theorem dL_law_301 : decode cL_law 301 = .ok (.iadd, 1) := by decide +kernel
theorem dL_law_302 : decode cL_law 302 = .ok (.iaload, 1) := by decide +kernel
theorem dL_law_303 : decode cL_law 303 = .ok (.aload_n 3, 1) := by decide +kernel
theorem dL_law_304 : decode cL_law 304 = .ok (.invokestatic 112, 3) := by decide +kernel
theorem dL_law_307 : decode cL_law 307 = .ok (.istore 5, 2) := by decide +kernel
theorem dL_law_309 : decode cL_law 309 = .ok (.aload_n 2, 1) := by decide +kernel
theorem dL_law_310 : decode cL_law 310 = .ok (.aload_n 0, 1) := by decide +kernel
theorem dL_law_311 : decode cL_law 311 = .ok (.iload 4, 2) := by decide +kernel
theorem dL_law_313 : decode cL_law 313 = .ok (.iconst 1, 1) := by decide +kernel
theorem dL_law_314 : decode cL_law 314 = .ok (.iadd, 1) := by decide +kernel
theorem dL_law_315 : decode cL_law 315 = .ok (.iaload, 1) := by decide +kernel
theorem dL_law_316 : decode cL_law 316 = .ok (.invokevirtual 114, 3) := by decide +kernel
theorem dL_law_319 : decode cL_law 319 = .ok (.istore 6, 2) := by decide +kernel
theorem dL_law_321 : decode cL_law 321 = .ok (.aload_n 2, 1) := by decide +kernel
theorem dL_law_322 : decode cL_law 322 = .ok (.invokevirtual 105, 3) := by decide +kernel
theorem dL_law_325 : decode cL_law 325 = .ok (.iload 5, 2) := by decide +kernel
theorem dL_law_327 : decode cL_law 327 = .ok (.if_icmp .eq 5, 3) := by decide +kernel
theorem dL_law_330 : decode cL_law 330 = .ok (.iconst 0, 1) := by decide +kernel
theorem dL_law_331 : decode cL_law 331 = .ok (.ireturn, 1) := by decide +kernel
theorem dL_law_332 : decode cL_law 332 = .ok (.iload 5, 2) := by decide +kernel
theorem dL_law_334 : decode cL_law 334 = .ok (.ifCond .ne 15, 3) := by decide +kernel
theorem dL_law_337 : decode cL_law 337 = .ok (.aload_n 3, 1) := by decide +kernel
theorem dL_law_338 : decode cL_law 338 = .ok (.iconst 0, 1) := by decide +kernel
theorem dL_law_339 : decode cL_law 339 = .ok (.laload, 1) := by decide +kernel
theorem dL_law_340 : decode cL_law 340 = .ok (.iload 6, 2) := by decide +kernel
theorem dL_law_342 : decode cL_law 342 = .ok (.i2l, 1) := by decide +kernel
theorem dL_law_343 : decode cL_law 343 = .ok (.lcmp, 1) := by decide +kernel
theorem dL_law_344 : decode cL_law 344 = .ok (.ifCond .eq 5, 3) := by decide +kernel
theorem dL_law_347 : decode cL_law 347 = .ok (.iconst 0, 1) := by decide +kernel
theorem dL_law_348 : decode cL_law 348 = .ok (.ireturn, 1) := by decide +kernel
theorem dL_law_349 : decode cL_law 349 = .ok (.goto 1388, 3) := by decide +kernel
theorem dL_law_352 : decode cL_law 352 = .ok (.aload_n 1, 1) := by decide +kernel
theorem dL_law_353 : decode cL_law 353 = .ok (.aload_n 3, 1) := by decide +kernel
theorem dL_law_354 : decode cL_law 354 = .ok (.invokestatic 115, 3) := by decide +kernel
theorem dL_law_357 : decode cL_law 357 = .ok (.istore 5, 2) := by decide +kernel
theorem dL_law_359 : decode cL_law 359 = .ok (.aload_n 2, 1) := by decide +kernel
theorem dL_law_360 : decode cL_law 360 = .ok (.invokevirtual 118, 3) := by decide +kernel
theorem dL_law_363 : decode cL_law 363 = .ok (.istore 6, 2) := by decide +kernel
theorem dL_law_365 : decode cL_law 365 = .ok (.aload_n 2, 1) := by decide +kernel
theorem dL_law_366 : decode cL_law 366 = .ok (.invokevirtual 105, 3) := by decide +kernel
theorem dL_law_369 : decode cL_law 369 = .ok (.iload 5, 2) := by decide +kernel
theorem dL_law_371 : decode cL_law 371 = .ok (.if_icmp .eq 5, 3) := by decide +kernel
theorem dL_law_374 : decode cL_law 374 = .ok (.iconst 0, 1) := by decide +kernel
theorem dL_law_375 : decode cL_law 375 = .ok (.ireturn, 1) := by decide +kernel
theorem dL_law_376 : decode cL_law 376 = .ok (.iload 5, 2) := by decide +kernel
theorem dL_law_378 : decode cL_law 378 = .ok (.ifCond .ne 15, 3) := by decide +kernel
theorem dL_law_381 : decode cL_law 381 = .ok (.aload_n 3, 1) := by decide +kernel
theorem dL_law_382 : decode cL_law 382 = .ok (.iconst 0, 1) := by decide +kernel
theorem dL_law_383 : decode cL_law 383 = .ok (.laload, 1) := by decide +kernel
theorem dL_law_384 : decode cL_law 384 = .ok (.iload 6, 2) := by decide +kernel
theorem dL_law_386 : decode cL_law 386 = .ok (.i2l, 1) := by decide +kernel
theorem dL_law_387 : decode cL_law 387 = .ok (.lcmp, 1) := by decide +kernel
theorem dL_law_388 : decode cL_law 388 = .ok (.ifCond .eq 5, 3) := by decide +kernel
theorem dL_law_391 : decode cL_law 391 = .ok (.iconst 0, 1) := by decide +kernel
theorem dL_law_392 : decode cL_law 392 = .ok (.ireturn, 1) := by decide +kernel
theorem dL_law_393 : decode cL_law 393 = .ok (.goto 1344, 3) := by decide +kernel
theorem dL_law_396 : decode cL_law 396 = .ok (.aload_n 1, 1) := by decide +kernel
theorem dL_law_397 : decode cL_law 397 = .ok (.aload_n 0, 1) := by decide +kernel
theorem dL_law_398 : decode cL_law 398 = .ok (.iload 4, 2) := by decide +kernel
theorem dL_law_400 : decode cL_law 400 = .ok (.iconst 1, 1) := by decide +kernel
theorem dL_law_401 : decode cL_law 401 = .ok (.iadd, 1) := by decide +kernel
theorem dL_law_402 : decode cL_law 402 = .ok (.iaload, 1) := by decide +kernel
theorem dL_law_403 : decode cL_law 403 = .ok (.aload_n 0, 1) := by decide +kernel
theorem dL_law_404 : decode cL_law 404 = .ok (.iload 4, 2) := by decide +kernel
theorem dL_law_406 : decode cL_law 406 = .ok (.iconst 2, 1) := by decide +kernel
theorem dL_law_407 : decode cL_law 407 = .ok (.iadd, 1) := by decide +kernel
theorem dL_law_408 : decode cL_law 408 = .ok (.iaload, 1) := by decide +kernel
theorem dL_law_409 : decode cL_law 409 = .ok (.aload_n 0, 1) := by decide +kernel
theorem dL_law_410 : decode cL_law 410 = .ok (.iload 4, 2) := by decide +kernel
theorem dL_law_412 : decode cL_law 412 = .ok (.iconst 3, 1) := by decide +kernel
theorem dL_law_413 : decode cL_law 413 = .ok (.iadd, 1) := by decide +kernel
theorem dL_law_414 : decode cL_law 414 = .ok (.iaload, 1) := by decide +kernel
theorem dL_law_415 : decode cL_law 415 = .ok (.ifCond .eq 7, 3) := by decide +kernel
theorem dL_law_418 : decode cL_law 418 = .ok (.iconst 1, 1) := by decide +kernel
theorem dL_law_419 : decode cL_law 419 = .ok (.goto 4, 3) := by decide +kernel
theorem dL_law_422 : decode cL_law 422 = .ok (.iconst 0, 1) := by decide +kernel
theorem dL_law_423 : decode cL_law 423 = .ok (.aload_n 3, 1) := by decide +kernel
theorem dL_law_424 : decode cL_law 424 = .ok (.invokestatic 119, 3) := by decide +kernel
theorem dL_law_427 : decode cL_law 427 = .ok (.istore 5, 2) := by decide +kernel
theorem dL_law_429 : decode cL_law 429 = .ok (.aload_n 2, 1) := by decide +kernel
theorem dL_law_430 : decode cL_law 430 = .ok (.aload_n 0, 1) := by decide +kernel
theorem dL_law_431 : decode cL_law 431 = .ok (.iload 4, 2) := by decide +kernel
theorem dL_law_433 : decode cL_law 433 = .ok (.iconst 1, 1) := by decide +kernel
theorem dL_law_434 : decode cL_law 434 = .ok (.iadd, 1) := by decide +kernel
theorem dL_law_435 : decode cL_law 435 = .ok (.iaload, 1) := by decide +kernel
theorem dL_law_436 : decode cL_law 436 = .ok (.aload_n 0, 1) := by decide +kernel
theorem dL_law_437 : decode cL_law 437 = .ok (.iload 4, 2) := by decide +kernel
theorem dL_law_439 : decode cL_law 439 = .ok (.iconst 2, 1) := by decide +kernel
theorem dL_law_440 : decode cL_law 440 = .ok (.iadd, 1) := by decide +kernel
theorem dL_law_441 : decode cL_law 441 = .ok (.iaload, 1) := by decide +kernel
theorem dL_law_442 : decode cL_law 442 = .ok (.aload_n 0, 1) := by decide +kernel
theorem dL_law_443 : decode cL_law 443 = .ok (.iload 4, 2) := by decide +kernel
theorem dL_law_445 : decode cL_law 445 = .ok (.iconst 3, 1) := by decide +kernel
theorem dL_law_446 : decode cL_law 446 = .ok (.iadd, 1) := by decide +kernel
theorem dL_law_447 : decode cL_law 447 = .ok (.iaload, 1) := by decide +kernel
theorem dL_law_448 : decode cL_law 448 = .ok (.ifCond .eq 7, 3) := by decide +kernel
theorem dL_law_451 : decode cL_law 451 = .ok (.iconst 1, 1) := by decide +kernel
theorem dL_law_452 : decode cL_law 452 = .ok (.goto 4, 3) := by decide +kernel
theorem dL_law_455 : decode cL_law 455 = .ok (.iconst 0, 1) := by decide +kernel
theorem dL_law_456 : decode cL_law 456 = .ok (.invokevirtual 122, 3) := by decide +kernel
theorem dL_law_459 : decode cL_law 459 = .ok (.istore 6, 2) := by decide +kernel
theorem dL_law_461 : decode cL_law 461 = .ok (.aload_n 2, 1) := by decide +kernel
theorem dL_law_462 : decode cL_law 462 = .ok (.invokevirtual 105, 3) := by decide +kernel
theorem dL_law_465 : decode cL_law 465 = .ok (.iload 5, 2) := by decide +kernel
theorem dL_law_467 : decode cL_law 467 = .ok (.if_icmp .eq 5, 3) := by decide +kernel
theorem dL_law_470 : decode cL_law 470 = .ok (.iconst 0, 1) := by decide +kernel
theorem dL_law_471 : decode cL_law 471 = .ok (.ireturn, 1) := by decide +kernel
theorem dL_law_472 : decode cL_law 472 = .ok (.iload 5, 2) := by decide +kernel
theorem dL_law_474 : decode cL_law 474 = .ok (.ifCond .ne 22, 3) := by decide +kernel
theorem dL_law_477 : decode cL_law 477 = .ok (.aload_n 3, 1) := by decide +kernel
theorem dL_law_478 : decode cL_law 478 = .ok (.iconst 0, 1) := by decide +kernel
theorem dL_law_479 : decode cL_law 479 = .ok (.laload, 1) := by decide +kernel
theorem dL_law_480 : decode cL_law 480 = .ok (.iload 6, 2) := by decide +kernel
theorem dL_law_482 : decode cL_law 482 = .ok (.ifCond .eq 7, 3) := by decide +kernel
theorem dL_law_485 : decode cL_law 485 = .ok (.lconst 1, 1) := by decide +kernel
theorem dL_law_486 : decode cL_law 486 = .ok (.goto 4, 3) := by decide +kernel
theorem dL_law_489 : decode cL_law 489 = .ok (.lconst 0, 1) := by decide +kernel
theorem dL_law_490 : decode cL_law 490 = .ok (.lcmp, 1) := by decide +kernel
theorem dL_law_491 : decode cL_law 491 = .ok (.ifCond .eq 5, 3) := by decide +kernel
theorem dL_law_494 : decode cL_law 494 = .ok (.iconst 0, 1) := by decide +kernel
theorem dL_law_495 : decode cL_law 495 = .ok (.ireturn, 1) := by decide +kernel
theorem dL_law_496 : decode cL_law 496 = .ok (.goto 1241, 3) := by decide +kernel
theorem dL_law_499 : decode cL_law 499 = .ok (.aload_n 1, 1) := by decide +kernel
theorem dL_law_500 : decode cL_law 500 = .ok (.aload_n 0, 1) := by decide +kernel
theorem dL_law_501 : decode cL_law 501 = .ok (.iload 4, 2) := by decide +kernel
theorem dL_law_503 : decode cL_law 503 = .ok (.iconst 1, 1) := by decide +kernel
theorem dL_law_504 : decode cL_law 504 = .ok (.iadd, 1) := by decide +kernel
theorem dL_law_505 : decode cL_law 505 = .ok (.iaload, 1) := by decide +kernel
theorem dL_law_506 : decode cL_law 506 = .ok (.aload_n 0, 1) := by decide +kernel
theorem dL_law_507 : decode cL_law 507 = .ok (.iload 4, 2) := by decide +kernel
theorem dL_law_509 : decode cL_law 509 = .ok (.iconst 2, 1) := by decide +kernel
theorem dL_law_510 : decode cL_law 510 = .ok (.iadd, 1) := by decide +kernel
theorem dL_law_511 : decode cL_law 511 = .ok (.iaload, 1) := by decide +kernel
theorem dL_law_512 : decode cL_law 512 = .ok (.aload_n 3, 1) := by decide +kernel
theorem dL_law_513 : decode cL_law 513 = .ok (.invokestatic 123, 3) := by decide +kernel
theorem dL_law_516 : decode cL_law 516 = .ok (.istore 5, 2) := by decide +kernel
theorem dL_law_518 : decode cL_law 518 = .ok (.aload_n 2, 1) := by decide +kernel
theorem dL_law_519 : decode cL_law 519 = .ok (.aload_n 0, 1) := by decide +kernel
theorem dL_law_520 : decode cL_law 520 = .ok (.iload 4, 2) := by decide +kernel
theorem dL_law_522 : decode cL_law 522 = .ok (.iconst 1, 1) := by decide +kernel
theorem dL_law_523 : decode cL_law 523 = .ok (.iadd, 1) := by decide +kernel
theorem dL_law_524 : decode cL_law 524 = .ok (.iaload, 1) := by decide +kernel
theorem dL_law_525 : decode cL_law 525 = .ok (.aload_n 0, 1) := by decide +kernel
theorem dL_law_526 : decode cL_law 526 = .ok (.iload 4, 2) := by decide +kernel
theorem dL_law_528 : decode cL_law 528 = .ok (.iconst 2, 1) := by decide +kernel
theorem dL_law_529 : decode cL_law 529 = .ok (.iadd, 1) := by decide +kernel
theorem dL_law_530 : decode cL_law 530 = .ok (.iaload, 1) := by decide +kernel
theorem dL_law_531 : decode cL_law 531 = .ok (.invokevirtual 126, 3) := by decide +kernel
theorem dL_law_534 : decode cL_law 534 = .ok (.istore 6, 2) := by decide +kernel
theorem dL_law_536 : decode cL_law 536 = .ok (.aload_n 2, 1) := by decide +kernel
theorem dL_law_537 : decode cL_law 537 = .ok (.invokevirtual 105, 3) := by decide +kernel
theorem dL_law_540 : decode cL_law 540 = .ok (.iload 5, 2) := by decide +kernel
theorem dL_law_542 : decode cL_law 542 = .ok (.if_icmp .eq 5, 3) := by decide +kernel
theorem dL_law_545 : decode cL_law 545 = .ok (.iconst 0, 1) := by decide +kernel
theorem dL_law_546 : decode cL_law 546 = .ok (.ireturn, 1) := by decide +kernel
theorem dL_law_547 : decode cL_law 547 = .ok (.iload 5, 2) := by decide +kernel
theorem dL_law_549 : decode cL_law 549 = .ok (.ifCond .ne 15, 3) := by decide +kernel
theorem dL_law_552 : decode cL_law 552 = .ok (.aload_n 3, 1) := by decide +kernel
theorem dL_law_553 : decode cL_law 553 = .ok (.iconst 0, 1) := by decide +kernel
theorem dL_law_554 : decode cL_law 554 = .ok (.laload, 1) := by decide +kernel
theorem dL_law_555 : decode cL_law 555 = .ok (.iload 6, 2) := by decide +kernel
theorem dL_law_557 : decode cL_law 557 = .ok (.i2l, 1) := by decide +kernel
theorem dL_law_558 : decode cL_law 558 = .ok (.lcmp, 1) := by decide +kernel
theorem dL_law_559 : decode cL_law 559 = .ok (.ifCond .eq 5, 3) := by decide +kernel
theorem dL_law_562 : decode cL_law 562 = .ok (.iconst 0, 1) := by decide +kernel
theorem dL_law_563 : decode cL_law 563 = .ok (.ireturn, 1) := by decide +kernel
theorem dL_law_564 : decode cL_law 564 = .ok (.goto 1173, 3) := by decide +kernel
theorem dL_law_567 : decode cL_law 567 = .ok (.aload_n 1, 1) := by decide +kernel
theorem dL_law_568 : decode cL_law 568 = .ok (.aload_n 0, 1) := by decide +kernel
theorem dL_law_569 : decode cL_law 569 = .ok (.iload 4, 2) := by decide +kernel
theorem dL_law_571 : decode cL_law 571 = .ok (.iconst 1, 1) := by decide +kernel
theorem dL_law_572 : decode cL_law 572 = .ok (.iadd, 1) := by decide +kernel
theorem dL_law_573 : decode cL_law 573 = .ok (.iaload, 1) := by decide +kernel
theorem dL_law_574 : decode cL_law 574 = .ok (.aload_n 0, 1) := by decide +kernel
theorem dL_law_575 : decode cL_law 575 = .ok (.iload 4, 2) := by decide +kernel
theorem dL_law_577 : decode cL_law 577 = .ok (.iconst 2, 1) := by decide +kernel
theorem dL_law_578 : decode cL_law 578 = .ok (.iadd, 1) := by decide +kernel
theorem dL_law_579 : decode cL_law 579 = .ok (.iaload, 1) := by decide +kernel
theorem dL_law_580 : decode cL_law 580 = .ok (.aload_n 3, 1) := by decide +kernel
theorem dL_law_581 : decode cL_law 581 = .ok (.invokestatic 127, 3) := by decide +kernel
theorem dL_law_584 : decode cL_law 584 = .ok (.istore 5, 2) := by decide +kernel
theorem dL_law_586 : decode cL_law 586 = .ok (.aload_n 2, 1) := by decide +kernel
theorem dL_law_587 : decode cL_law 587 = .ok (.aload_n 0, 1) := by decide +kernel
theorem dL_law_588 : decode cL_law 588 = .ok (.iload 4, 2) := by decide +kernel
theorem dL_law_590 : decode cL_law 590 = .ok (.iconst 1, 1) := by decide +kernel
theorem dL_law_591 : decode cL_law 591 = .ok (.iadd, 1) := by decide +kernel
theorem dL_law_592 : decode cL_law 592 = .ok (.iaload, 1) := by decide +kernel
theorem dL_law_593 : decode cL_law 593 = .ok (.aload_n 0, 1) := by decide +kernel
theorem dL_law_594 : decode cL_law 594 = .ok (.iload 4, 2) := by decide +kernel
theorem dL_law_596 : decode cL_law 596 = .ok (.iconst 2, 1) := by decide +kernel
theorem dL_law_597 : decode cL_law 597 = .ok (.iadd, 1) := by decide +kernel
theorem dL_law_598 : decode cL_law 598 = .ok (.iaload, 1) := by decide +kernel
theorem dL_law_599 : decode cL_law 599 = .ok (.invokevirtual 129, 3) := by decide +kernel
theorem dL_law_602 : decode cL_law 602 = .ok (.istore 6, 2) := by decide +kernel
theorem dL_law_604 : decode cL_law 604 = .ok (.aload_n 2, 1) := by decide +kernel
theorem dL_law_605 : decode cL_law 605 = .ok (.invokevirtual 105, 3) := by decide +kernel
theorem dL_law_608 : decode cL_law 608 = .ok (.iload 5, 2) := by decide +kernel
theorem dL_law_610 : decode cL_law 610 = .ok (.if_icmp .eq 5, 3) := by decide +kernel
theorem dL_law_613 : decode cL_law 613 = .ok (.iconst 0, 1) := by decide +kernel
theorem dL_law_614 : decode cL_law 614 = .ok (.ireturn, 1) := by decide +kernel
theorem dL_law_615 : decode cL_law 615 = .ok (.iload 5, 2) := by decide +kernel
theorem dL_law_617 : decode cL_law 617 = .ok (.ifCond .ne 15, 3) := by decide +kernel
theorem dL_law_620 : decode cL_law 620 = .ok (.aload_n 3, 1) := by decide +kernel
theorem dL_law_621 : decode cL_law 621 = .ok (.iconst 0, 1) := by decide +kernel
theorem dL_law_622 : decode cL_law 622 = .ok (.laload, 1) := by decide +kernel
theorem dL_law_623 : decode cL_law 623 = .ok (.iload 6, 2) := by decide +kernel
theorem dL_law_625 : decode cL_law 625 = .ok (.i2l, 1) := by decide +kernel
theorem dL_law_626 : decode cL_law 626 = .ok (.lcmp, 1) := by decide +kernel
theorem dL_law_627 : decode cL_law 627 = .ok (.ifCond .eq 5, 3) := by decide +kernel
theorem dL_law_630 : decode cL_law 630 = .ok (.iconst 0, 1) := by decide +kernel
theorem dL_law_631 : decode cL_law 631 = .ok (.ireturn, 1) := by decide +kernel
theorem dL_law_632 : decode cL_law 632 = .ok (.goto 1105, 3) := by decide +kernel
theorem dL_law_635 : decode cL_law 635 = .ok (.aload_n 1, 1) := by decide +kernel
theorem dL_law_636 : decode cL_law 636 = .ok (.aload_n 0, 1) := by decide +kernel
theorem dL_law_637 : decode cL_law 637 = .ok (.iload 4, 2) := by decide +kernel
theorem dL_law_639 : decode cL_law 639 = .ok (.iconst 1, 1) := by decide +kernel
theorem dL_law_640 : decode cL_law 640 = .ok (.iadd, 1) := by decide +kernel
theorem dL_law_641 : decode cL_law 641 = .ok (.iaload, 1) := by decide +kernel
theorem dL_law_642 : decode cL_law 642 = .ok (.aload_n 0, 1) := by decide +kernel
theorem dL_law_643 : decode cL_law 643 = .ok (.iload 4, 2) := by decide +kernel
theorem dL_law_645 : decode cL_law 645 = .ok (.iconst 2, 1) := by decide +kernel
theorem dL_law_646 : decode cL_law 646 = .ok (.iadd, 1) := by decide +kernel
theorem dL_law_647 : decode cL_law 647 = .ok (.iaload, 1) := by decide +kernel
theorem dL_law_648 : decode cL_law 648 = .ok (.aload_n 3, 1) := by decide +kernel
theorem dL_law_649 : decode cL_law 649 = .ok (.invokestatic 130, 3) := by decide +kernel
theorem dL_law_652 : decode cL_law 652 = .ok (.istore 5, 2) := by decide +kernel
theorem dL_law_654 : decode cL_law 654 = .ok (.aload_n 2, 1) := by decide +kernel
theorem dL_law_655 : decode cL_law 655 = .ok (.aload_n 0, 1) := by decide +kernel
theorem dL_law_656 : decode cL_law 656 = .ok (.iload 4, 2) := by decide +kernel
theorem dL_law_658 : decode cL_law 658 = .ok (.iconst 1, 1) := by decide +kernel
theorem dL_law_659 : decode cL_law 659 = .ok (.iadd, 1) := by decide +kernel
theorem dL_law_660 : decode cL_law 660 = .ok (.iaload, 1) := by decide +kernel
theorem dL_law_661 : decode cL_law 661 = .ok (.aload_n 0, 1) := by decide +kernel
theorem dL_law_662 : decode cL_law 662 = .ok (.iload 4, 2) := by decide +kernel
theorem dL_law_664 : decode cL_law 664 = .ok (.iconst 2, 1) := by decide +kernel
theorem dL_law_665 : decode cL_law 665 = .ok (.iadd, 1) := by decide +kernel
theorem dL_law_666 : decode cL_law 666 = .ok (.iaload, 1) := by decide +kernel
theorem dL_law_667 : decode cL_law 667 = .ok (.invokevirtual 132, 3) := by decide +kernel
theorem dL_law_670 : decode cL_law 670 = .ok (.istore 6, 2) := by decide +kernel
theorem dL_law_672 : decode cL_law 672 = .ok (.aload_n 2, 1) := by decide +kernel
theorem dL_law_673 : decode cL_law 673 = .ok (.invokevirtual 105, 3) := by decide +kernel
theorem dL_law_676 : decode cL_law 676 = .ok (.iload 5, 2) := by decide +kernel
theorem dL_law_678 : decode cL_law 678 = .ok (.if_icmp .eq 5, 3) := by decide +kernel
theorem dL_law_681 : decode cL_law 681 = .ok (.iconst 0, 1) := by decide +kernel
theorem dL_law_682 : decode cL_law 682 = .ok (.ireturn, 1) := by decide +kernel
theorem dL_law_683 : decode cL_law 683 = .ok (.iload 5, 2) := by decide +kernel
theorem dL_law_685 : decode cL_law 685 = .ok (.ifCond .ne 15, 3) := by decide +kernel
theorem dL_law_688 : decode cL_law 688 = .ok (.aload_n 3, 1) := by decide +kernel
theorem dL_law_689 : decode cL_law 689 = .ok (.iconst 0, 1) := by decide +kernel
theorem dL_law_690 : decode cL_law 690 = .ok (.laload, 1) := by decide +kernel
theorem dL_law_691 : decode cL_law 691 = .ok (.iload 6, 2) := by decide +kernel
theorem dL_law_693 : decode cL_law 693 = .ok (.i2l, 1) := by decide +kernel
theorem dL_law_694 : decode cL_law 694 = .ok (.lcmp, 1) := by decide +kernel
theorem dL_law_695 : decode cL_law 695 = .ok (.ifCond .eq 5, 3) := by decide +kernel
theorem dL_law_698 : decode cL_law 698 = .ok (.iconst 0, 1) := by decide +kernel
theorem dL_law_699 : decode cL_law 699 = .ok (.ireturn, 1) := by decide +kernel
theorem dL_law_700 : decode cL_law 700 = .ok (.goto 1037, 3) := by decide +kernel
theorem dL_law_703 : decode cL_law 703 = .ok (.aload_n 1, 1) := by decide +kernel
theorem dL_law_704 : decode cL_law 704 = .ok (.aload_n 0, 1) := by decide +kernel
theorem dL_law_705 : decode cL_law 705 = .ok (.iload 4, 2) := by decide +kernel
theorem dL_law_707 : decode cL_law 707 = .ok (.iconst 1, 1) := by decide +kernel
theorem dL_law_708 : decode cL_law 708 = .ok (.iadd, 1) := by decide +kernel
theorem dL_law_709 : decode cL_law 709 = .ok (.iaload, 1) := by decide +kernel
theorem dL_law_710 : decode cL_law 710 = .ok (.aload_n 0, 1) := by decide +kernel
theorem dL_law_711 : decode cL_law 711 = .ok (.iload 4, 2) := by decide +kernel
theorem dL_law_713 : decode cL_law 713 = .ok (.iconst 2, 1) := by decide +kernel
theorem dL_law_714 : decode cL_law 714 = .ok (.iadd, 1) := by decide +kernel
theorem dL_law_715 : decode cL_law 715 = .ok (.iaload, 1) := by decide +kernel
theorem dL_law_716 : decode cL_law 716 = .ok (.aload_n 3, 1) := by decide +kernel
theorem dL_law_717 : decode cL_law 717 = .ok (.invokestatic 133, 3) := by decide +kernel
theorem dL_law_720 : decode cL_law 720 = .ok (.istore 5, 2) := by decide +kernel
theorem dL_law_722 : decode cL_law 722 = .ok (.aload_n 2, 1) := by decide +kernel
theorem dL_law_723 : decode cL_law 723 = .ok (.aload_n 0, 1) := by decide +kernel
theorem dL_law_724 : decode cL_law 724 = .ok (.iload 4, 2) := by decide +kernel
theorem dL_law_726 : decode cL_law 726 = .ok (.iconst 1, 1) := by decide +kernel
theorem dL_law_727 : decode cL_law 727 = .ok (.iadd, 1) := by decide +kernel
theorem dL_law_728 : decode cL_law 728 = .ok (.iaload, 1) := by decide +kernel
theorem dL_law_729 : decode cL_law 729 = .ok (.aload_n 0, 1) := by decide +kernel
theorem dL_law_730 : decode cL_law 730 = .ok (.iload 4, 2) := by decide +kernel
theorem dL_law_732 : decode cL_law 732 = .ok (.iconst 2, 1) := by decide +kernel
theorem dL_law_733 : decode cL_law 733 = .ok (.iadd, 1) := by decide +kernel
theorem dL_law_734 : decode cL_law 734 = .ok (.iaload, 1) := by decide +kernel
theorem dL_law_735 : decode cL_law 735 = .ok (.invokevirtual 135, 3) := by decide +kernel
theorem dL_law_738 : decode cL_law 738 = .ok (.istore 6, 2) := by decide +kernel
theorem dL_law_740 : decode cL_law 740 = .ok (.aload_n 2, 1) := by decide +kernel
theorem dL_law_741 : decode cL_law 741 = .ok (.invokevirtual 105, 3) := by decide +kernel
theorem dL_law_744 : decode cL_law 744 = .ok (.iload 5, 2) := by decide +kernel
theorem dL_law_746 : decode cL_law 746 = .ok (.if_icmp .eq 5, 3) := by decide +kernel
theorem dL_law_749 : decode cL_law 749 = .ok (.iconst 0, 1) := by decide +kernel
theorem dL_law_750 : decode cL_law 750 = .ok (.ireturn, 1) := by decide +kernel
theorem dL_law_751 : decode cL_law 751 = .ok (.iload 5, 2) := by decide +kernel
theorem dL_law_753 : decode cL_law 753 = .ok (.ifCond .ne 15, 3) := by decide +kernel
theorem dL_law_756 : decode cL_law 756 = .ok (.aload_n 3, 1) := by decide +kernel
theorem dL_law_757 : decode cL_law 757 = .ok (.iconst 0, 1) := by decide +kernel
theorem dL_law_758 : decode cL_law 758 = .ok (.laload, 1) := by decide +kernel
theorem dL_law_759 : decode cL_law 759 = .ok (.iload 6, 2) := by decide +kernel
theorem dL_law_761 : decode cL_law 761 = .ok (.i2l, 1) := by decide +kernel
theorem dL_law_762 : decode cL_law 762 = .ok (.lcmp, 1) := by decide +kernel
theorem dL_law_763 : decode cL_law 763 = .ok (.ifCond .eq 5, 3) := by decide +kernel
theorem dL_law_766 : decode cL_law 766 = .ok (.iconst 0, 1) := by decide +kernel
theorem dL_law_767 : decode cL_law 767 = .ok (.ireturn, 1) := by decide +kernel
theorem dL_law_768 : decode cL_law 768 = .ok (.goto 969, 3) := by decide +kernel
theorem dL_law_771 : decode cL_law 771 = .ok (.aload_n 1, 1) := by decide +kernel
theorem dL_law_772 : decode cL_law 772 = .ok (.invokevirtual 136, 3) := by decide +kernel
theorem dL_law_775 : decode cL_law 775 = .ok (.aload_n 2, 1) := by decide +kernel
theorem dL_law_776 : decode cL_law 776 = .ok (.invokevirtual 139, 3) := by decide +kernel
theorem dL_law_779 : decode cL_law 779 = .ok (.if_icmp .eq 958, 3) := by decide +kernel
theorem dL_law_782 : decode cL_law 782 = .ok (.iconst 0, 1) := by decide +kernel
theorem dL_law_783 : decode cL_law 783 = .ok (.ireturn, 1) := by decide +kernel
theorem dL_law_784 : decode cL_law 784 = .ok (.aload_n 1, 1) := by decide +kernel
theorem dL_law_785 : decode cL_law 785 = .ok (.aload_n 0, 1) := by decide +kernel
theorem dL_law_786 : decode cL_law 786 = .ok (.iload 4, 2) := by decide +kernel
theorem dL_law_788 : decode cL_law 788 = .ok (.iconst 1, 1) := by decide +kernel
theorem dL_law_789 : decode cL_law 789 = .ok (.iadd, 1) := by decide +kernel
theorem dL_law_790 : decode cL_law 790 = .ok (.iaload, 1) := by decide +kernel
theorem dL_law_791 : decode cL_law 791 = .ok (.aload_n 3, 1) := by decide +kernel
theorem dL_law_792 : decode cL_law 792 = .ok (.invokestatic 140, 3) := by decide +kernel
theorem dL_law_795 : decode cL_law 795 = .ok (.istore 5, 2) := by decide +kernel
theorem dL_law_797 : decode cL_law 797 = .ok (.aload_n 2, 1) := by decide +kernel
theorem dL_law_798 : decode cL_law 798 = .ok (.aload_n 0, 1) := by decide +kernel
theorem dL_law_799 : decode cL_law 799 = .ok (.iload 4, 2) := by decide +kernel
theorem dL_law_801 : decode cL_law 801 = .ok (.iconst 1, 1) := by decide +kernel
theorem dL_law_802 : decode cL_law 802 = .ok (.iadd, 1) := by decide +kernel
theorem dL_law_803 : decode cL_law 803 = .ok (.iaload, 1) := by decide +kernel
theorem dL_law_804 : decode cL_law 804 = .ok (.invokevirtual 142, 3) := by decide +kernel
theorem dL_law_807 : decode cL_law 807 = .ok (.istore 6, 2) := by decide +kernel
theorem dL_law_809 : decode cL_law 809 = .ok (.aload_n 2, 1) := by decide +kernel
theorem dL_law_810 : decode cL_law 810 = .ok (.invokevirtual 105, 3) := by decide +kernel
theorem dL_law_813 : decode cL_law 813 = .ok (.iload 5, 2) := by decide +kernel
theorem dL_law_815 : decode cL_law 815 = .ok (.if_icmp .eq 5, 3) := by decide +kernel
theorem dL_law_818 : decode cL_law 818 = .ok (.iconst 0, 1) := by decide +kernel
theorem dL_law_819 : decode cL_law 819 = .ok (.ireturn, 1) := by decide +kernel
theorem dL_law_820 : decode cL_law 820 = .ok (.iload 5, 2) := by decide +kernel
theorem dL_law_822 : decode cL_law 822 = .ok (.ifCond .ne 15, 3) := by decide +kernel
theorem dL_law_825 : decode cL_law 825 = .ok (.aload_n 3, 1) := by decide +kernel
theorem dL_law_826 : decode cL_law 826 = .ok (.iconst 0, 1) := by decide +kernel
theorem dL_law_827 : decode cL_law 827 = .ok (.laload, 1) := by decide +kernel
theorem dL_law_828 : decode cL_law 828 = .ok (.iload 6, 2) := by decide +kernel
theorem dL_law_830 : decode cL_law 830 = .ok (.i2l, 1) := by decide +kernel
theorem dL_law_831 : decode cL_law 831 = .ok (.lcmp, 1) := by decide +kernel
theorem dL_law_832 : decode cL_law 832 = .ok (.ifCond .eq 5, 3) := by decide +kernel
theorem dL_law_835 : decode cL_law 835 = .ok (.iconst 0, 1) := by decide +kernel
theorem dL_law_836 : decode cL_law 836 = .ok (.ireturn, 1) := by decide +kernel
theorem dL_law_837 : decode cL_law 837 = .ok (.goto 900, 3) := by decide +kernel
theorem dL_law_840 : decode cL_law 840 = .ok (.aload_n 1, 1) := by decide +kernel
theorem dL_law_841 : decode cL_law 841 = .ok (.aload_n 0, 1) := by decide +kernel
theorem dL_law_842 : decode cL_law 842 = .ok (.iload 4, 2) := by decide +kernel
theorem dL_law_844 : decode cL_law 844 = .ok (.iconst 1, 1) := by decide +kernel
theorem dL_law_845 : decode cL_law 845 = .ok (.iadd, 1) := by decide +kernel
theorem dL_law_846 : decode cL_law 846 = .ok (.iaload, 1) := by decide +kernel
theorem dL_law_847 : decode cL_law 847 = .ok (.aload_n 3, 1) := by decide +kernel
theorem dL_law_848 : decode cL_law 848 = .ok (.invokestatic 143, 3) := by decide +kernel
theorem dL_law_851 : decode cL_law 851 = .ok (.istore 5, 2) := by decide +kernel
theorem dL_law_853 : decode cL_law 853 = .ok (.aload_n 2, 1) := by decide +kernel
theorem dL_law_854 : decode cL_law 854 = .ok (.aload_n 0, 1) := by decide +kernel
theorem dL_law_855 : decode cL_law 855 = .ok (.iload 4, 2) := by decide +kernel
theorem dL_law_857 : decode cL_law 857 = .ok (.iconst 1, 1) := by decide +kernel
theorem dL_law_858 : decode cL_law 858 = .ok (.iadd, 1) := by decide +kernel
theorem dL_law_859 : decode cL_law 859 = .ok (.iaload, 1) := by decide +kernel
theorem dL_law_860 : decode cL_law 860 = .ok (.invokevirtual 145, 3) := by decide +kernel
theorem dL_law_863 : decode cL_law 863 = .ok (.istore 6, 2) := by decide +kernel
theorem dL_law_865 : decode cL_law 865 = .ok (.aload_n 2, 1) := by decide +kernel
theorem dL_law_866 : decode cL_law 866 = .ok (.invokevirtual 105, 3) := by decide +kernel
theorem dL_law_869 : decode cL_law 869 = .ok (.iload 5, 2) := by decide +kernel
theorem dL_law_871 : decode cL_law 871 = .ok (.if_icmp .eq 5, 3) := by decide +kernel
theorem dL_law_874 : decode cL_law 874 = .ok (.iconst 0, 1) := by decide +kernel
theorem dL_law_875 : decode cL_law 875 = .ok (.ireturn, 1) := by decide +kernel
theorem dL_law_876 : decode cL_law 876 = .ok (.iload 5, 2) := by decide +kernel
theorem dL_law_878 : decode cL_law 878 = .ok (.ifCond .ne 15, 3) := by decide +kernel
theorem dL_law_881 : decode cL_law 881 = .ok (.aload_n 3, 1) := by decide +kernel
theorem dL_law_882 : decode cL_law 882 = .ok (.iconst 0, 1) := by decide +kernel
theorem dL_law_883 : decode cL_law 883 = .ok (.laload, 1) := by decide +kernel
theorem dL_law_884 : decode cL_law 884 = .ok (.iload 6, 2) := by decide +kernel
theorem dL_law_886 : decode cL_law 886 = .ok (.i2l, 1) := by decide +kernel
theorem dL_law_887 : decode cL_law 887 = .ok (.lcmp, 1) := by decide +kernel
theorem dL_law_888 : decode cL_law 888 = .ok (.ifCond .eq 5, 3) := by decide +kernel
theorem dL_law_891 : decode cL_law 891 = .ok (.iconst 0, 1) := by decide +kernel
theorem dL_law_892 : decode cL_law 892 = .ok (.ireturn, 1) := by decide +kernel
theorem dL_law_893 : decode cL_law 893 = .ok (.goto 844, 3) := by decide +kernel
theorem dL_law_896 : decode cL_law 896 = .ok (.aload_n 1, 1) := by decide +kernel
theorem dL_law_897 : decode cL_law 897 = .ok (.aload_n 0, 1) := by decide +kernel
theorem dL_law_898 : decode cL_law 898 = .ok (.iload 4, 2) := by decide +kernel
theorem dL_law_900 : decode cL_law 900 = .ok (.iconst 1, 1) := by decide +kernel
theorem dL_law_901 : decode cL_law 901 = .ok (.iadd, 1) := by decide +kernel
theorem dL_law_902 : decode cL_law 902 = .ok (.iaload, 1) := by decide +kernel
theorem dL_law_903 : decode cL_law 903 = .ok (.aload_n 0, 1) := by decide +kernel
theorem dL_law_904 : decode cL_law 904 = .ok (.iload 4, 2) := by decide +kernel
theorem dL_law_906 : decode cL_law 906 = .ok (.iconst 2, 1) := by decide +kernel
theorem dL_law_907 : decode cL_law 907 = .ok (.iadd, 1) := by decide +kernel
theorem dL_law_908 : decode cL_law 908 = .ok (.iaload, 1) := by decide +kernel
theorem dL_law_909 : decode cL_law 909 = .ok (.aload_n 3, 1) := by decide +kernel
theorem dL_law_910 : decode cL_law 910 = .ok (.invokestatic 146, 3) := by decide +kernel
theorem dL_law_913 : decode cL_law 913 = .ok (.istore 5, 2) := by decide +kernel
theorem dL_law_915 : decode cL_law 915 = .ok (.aload_n 2, 1) := by decide +kernel
theorem dL_law_916 : decode cL_law 916 = .ok (.aload_n 0, 1) := by decide +kernel
theorem dL_law_917 : decode cL_law 917 = .ok (.iload 4, 2) := by decide +kernel
theorem dL_law_919 : decode cL_law 919 = .ok (.iconst 1, 1) := by decide +kernel
theorem dL_law_920 : decode cL_law 920 = .ok (.iadd, 1) := by decide +kernel
theorem dL_law_921 : decode cL_law 921 = .ok (.iaload, 1) := by decide +kernel
theorem dL_law_922 : decode cL_law 922 = .ok (.aload_n 0, 1) := by decide +kernel
theorem dL_law_923 : decode cL_law 923 = .ok (.iload 4, 2) := by decide +kernel
theorem dL_law_925 : decode cL_law 925 = .ok (.iconst 2, 1) := by decide +kernel
theorem dL_law_926 : decode cL_law 926 = .ok (.iadd, 1) := by decide +kernel
theorem dL_law_927 : decode cL_law 927 = .ok (.iaload, 1) := by decide +kernel
theorem dL_law_928 : decode cL_law 928 = .ok (.invokevirtual 148, 3) := by decide +kernel
theorem dL_law_931 : decode cL_law 931 = .ok (.istore 6, 2) := by decide +kernel
theorem dL_law_933 : decode cL_law 933 = .ok (.aload_n 2, 1) := by decide +kernel
theorem dL_law_934 : decode cL_law 934 = .ok (.invokevirtual 105, 3) := by decide +kernel
theorem dL_law_937 : decode cL_law 937 = .ok (.iload 5, 2) := by decide +kernel
theorem dL_law_939 : decode cL_law 939 = .ok (.if_icmp .eq 5, 3) := by decide +kernel
theorem dL_law_942 : decode cL_law 942 = .ok (.iconst 0, 1) := by decide +kernel
theorem dL_law_943 : decode cL_law 943 = .ok (.ireturn, 1) := by decide +kernel
theorem dL_law_944 : decode cL_law 944 = .ok (.iload 5, 2) := by decide +kernel
theorem dL_law_946 : decode cL_law 946 = .ok (.ifCond .ne 22, 3) := by decide +kernel
theorem dL_law_949 : decode cL_law 949 = .ok (.aload_n 3, 1) := by decide +kernel
theorem dL_law_950 : decode cL_law 950 = .ok (.iconst 0, 1) := by decide +kernel
theorem dL_law_951 : decode cL_law 951 = .ok (.laload, 1) := by decide +kernel
theorem dL_law_952 : decode cL_law 952 = .ok (.iload 6, 2) := by decide +kernel
theorem dL_law_954 : decode cL_law 954 = .ok (.ifCond .eq 7, 3) := by decide +kernel
theorem dL_law_957 : decode cL_law 957 = .ok (.lconst 1, 1) := by decide +kernel
theorem dL_law_958 : decode cL_law 958 = .ok (.goto 4, 3) := by decide +kernel
theorem dL_law_961 : decode cL_law 961 = .ok (.lconst 0, 1) := by decide +kernel
theorem dL_law_962 : decode cL_law 962 = .ok (.lcmp, 1) := by decide +kernel
theorem dL_law_963 : decode cL_law 963 = .ok (.ifCond .eq 5, 3) := by decide +kernel
theorem dL_law_966 : decode cL_law 966 = .ok (.iconst 0, 1) := by decide +kernel
theorem dL_law_967 : decode cL_law 967 = .ok (.ireturn, 1) := by decide +kernel
theorem dL_law_968 : decode cL_law 968 = .ok (.goto 769, 3) := by decide +kernel
theorem dL_law_971 : decode cL_law 971 = .ok (.aload_n 1, 1) := by decide +kernel
theorem dL_law_972 : decode cL_law 972 = .ok (.aload_n 0, 1) := by decide +kernel
theorem dL_law_973 : decode cL_law 973 = .ok (.iload 4, 2) := by decide +kernel
theorem dL_law_975 : decode cL_law 975 = .ok (.iconst 1, 1) := by decide +kernel
theorem dL_law_976 : decode cL_law 976 = .ok (.iadd, 1) := by decide +kernel
theorem dL_law_977 : decode cL_law 977 = .ok (.iaload, 1) := by decide +kernel
theorem dL_law_978 : decode cL_law 978 = .ok (.aload_n 0, 1) := by decide +kernel
theorem dL_law_979 : decode cL_law 979 = .ok (.iload 4, 2) := by decide +kernel
theorem dL_law_981 : decode cL_law 981 = .ok (.iconst 2, 1) := by decide +kernel
theorem dL_law_982 : decode cL_law 982 = .ok (.iadd, 1) := by decide +kernel
theorem dL_law_983 : decode cL_law 983 = .ok (.iaload, 1) := by decide +kernel
theorem dL_law_984 : decode cL_law 984 = .ok (.aload_n 3, 1) := by decide +kernel
theorem dL_law_985 : decode cL_law 985 = .ok (.invokestatic 149, 3) := by decide +kernel
theorem dL_law_988 : decode cL_law 988 = .ok (.istore 5, 2) := by decide +kernel
theorem dL_law_990 : decode cL_law 990 = .ok (.aload_n 2, 1) := by decide +kernel
theorem dL_law_991 : decode cL_law 991 = .ok (.aload_n 0, 1) := by decide +kernel
theorem dL_law_992 : decode cL_law 992 = .ok (.iload 4, 2) := by decide +kernel
theorem dL_law_994 : decode cL_law 994 = .ok (.iconst 1, 1) := by decide +kernel
theorem dL_law_995 : decode cL_law 995 = .ok (.iadd, 1) := by decide +kernel
theorem dL_law_996 : decode cL_law 996 = .ok (.iaload, 1) := by decide +kernel
theorem dL_law_997 : decode cL_law 997 = .ok (.aload_n 0, 1) := by decide +kernel
theorem dL_law_998 : decode cL_law 998 = .ok (.iload 4, 2) := by decide +kernel
theorem dL_law_1000 : decode cL_law 1000 = .ok (.iconst 2, 1) := by decide +kernel
theorem dL_law_1001 : decode cL_law 1001 = .ok (.iadd, 1) := by decide +kernel
theorem dL_law_1002 : decode cL_law 1002 = .ok (.iaload, 1) := by decide +kernel
theorem dL_law_1003 : decode cL_law 1003 = .ok (.invokevirtual 151, 3) := by decide +kernel
theorem dL_law_1006 : decode cL_law 1006 = .ok (.lstore 6, 2) := by decide +kernel
theorem dL_law_1008 : decode cL_law 1008 = .ok (.aload_n 2, 1) := by decide +kernel
theorem dL_law_1009 : decode cL_law 1009 = .ok (.invokevirtual 105, 3) := by decide +kernel
theorem dL_law_1012 : decode cL_law 1012 = .ok (.iload 5, 2) := by decide +kernel
theorem dL_law_1014 : decode cL_law 1014 = .ok (.if_icmp .eq 5, 3) := by decide +kernel
theorem dL_law_1017 : decode cL_law 1017 = .ok (.iconst 0, 1) := by decide +kernel
theorem dL_law_1018 : decode cL_law 1018 = .ok (.ireturn, 1) := by decide +kernel
theorem dL_law_1019 : decode cL_law 1019 = .ok (.iload 5, 2) := by decide +kernel
theorem dL_law_1021 : decode cL_law 1021 = .ok (.ifCond .ne 14, 3) := by decide +kernel
theorem dL_law_1024 : decode cL_law 1024 = .ok (.aload_n 3, 1) := by decide +kernel
theorem dL_law_1025 : decode cL_law 1025 = .ok (.iconst 0, 1) := by decide +kernel
theorem dL_law_1026 : decode cL_law 1026 = .ok (.laload, 1) := by decide +kernel
theorem dL_law_1027 : decode cL_law 1027 = .ok (.lload 6, 2) := by decide +kernel
theorem dL_law_1029 : decode cL_law 1029 = .ok (.lcmp, 1) := by decide +kernel
theorem dL_law_1030 : decode cL_law 1030 = .ok (.ifCond .eq 5, 3) := by decide +kernel
theorem dL_law_1033 : decode cL_law 1033 = .ok (.iconst 0, 1) := by decide +kernel
theorem dL_law_1034 : decode cL_law 1034 = .ok (.ireturn, 1) := by decide +kernel
theorem dL_law_1035 : decode cL_law 1035 = .ok (.goto 702, 3) := by decide +kernel
theorem dL_law_1038 : decode cL_law 1038 = .ok (.aload_n 1, 1) := by decide +kernel
theorem dL_law_1039 : decode cL_law 1039 = .ok (.aload_n 0, 1) := by decide +kernel
theorem dL_law_1040 : decode cL_law 1040 = .ok (.iload 4, 2) := by decide +kernel
theorem dL_law_1042 : decode cL_law 1042 = .ok (.iconst 1, 1) := by decide +kernel
theorem dL_law_1043 : decode cL_law 1043 = .ok (.iadd, 1) := by decide +kernel
theorem dL_law_1044 : decode cL_law 1044 = .ok (.iaload, 1) := by decide +kernel
theorem dL_law_1045 : decode cL_law 1045 = .ok (.aload_n 0, 1) := by decide +kernel
theorem dL_law_1046 : decode cL_law 1046 = .ok (.iload 4, 2) := by decide +kernel
theorem dL_law_1048 : decode cL_law 1048 = .ok (.iconst 2, 1) := by decide +kernel
theorem dL_law_1049 : decode cL_law 1049 = .ok (.iadd, 1) := by decide +kernel
theorem dL_law_1050 : decode cL_law 1050 = .ok (.iaload, 1) := by decide +kernel
theorem dL_law_1051 : decode cL_law 1051 = .ok (.aload_n 3, 1) := by decide +kernel
theorem dL_law_1052 : decode cL_law 1052 = .ok (.invokestatic 152, 3) := by decide +kernel
theorem dL_law_1055 : decode cL_law 1055 = .ok (.istore 5, 2) := by decide +kernel
theorem dL_law_1057 : decode cL_law 1057 = .ok (.aload_n 2, 1) := by decide +kernel
theorem dL_law_1058 : decode cL_law 1058 = .ok (.aload_n 0, 1) := by decide +kernel
theorem dL_law_1059 : decode cL_law 1059 = .ok (.iload 4, 2) := by decide +kernel
theorem dL_law_1061 : decode cL_law 1061 = .ok (.iconst 1, 1) := by decide +kernel
theorem dL_law_1062 : decode cL_law 1062 = .ok (.iadd, 1) := by decide +kernel
theorem dL_law_1063 : decode cL_law 1063 = .ok (.iaload, 1) := by decide +kernel
theorem dL_law_1064 : decode cL_law 1064 = .ok (.aload_n 0, 1) := by decide +kernel
theorem dL_law_1065 : decode cL_law 1065 = .ok (.iload 4, 2) := by decide +kernel
theorem dL_law_1067 : decode cL_law 1067 = .ok (.iconst 2, 1) := by decide +kernel
theorem dL_law_1068 : decode cL_law 1068 = .ok (.iadd, 1) := by decide +kernel
theorem dL_law_1069 : decode cL_law 1069 = .ok (.iaload, 1) := by decide +kernel
theorem dL_law_1070 : decode cL_law 1070 = .ok (.invokevirtual 154, 3) := by decide +kernel
theorem dL_law_1073 : decode cL_law 1073 = .ok (.istore 6, 2) := by decide +kernel
theorem dL_law_1075 : decode cL_law 1075 = .ok (.aload_n 2, 1) := by decide +kernel
theorem dL_law_1076 : decode cL_law 1076 = .ok (.invokevirtual 105, 3) := by decide +kernel
theorem dL_law_1079 : decode cL_law 1079 = .ok (.iload 5, 2) := by decide +kernel
theorem dL_law_1081 : decode cL_law 1081 = .ok (.if_icmp .eq 5, 3) := by decide +kernel
theorem dL_law_1084 : decode cL_law 1084 = .ok (.iconst 0, 1) := by decide +kernel
theorem dL_law_1085 : decode cL_law 1085 = .ok (.ireturn, 1) := by decide +kernel
theorem dL_law_1086 : decode cL_law 1086 = .ok (.iload 5, 2) := by decide +kernel
theorem dL_law_1088 : decode cL_law 1088 = .ok (.ifCond .ne 15, 3) := by decide +kernel
theorem dL_law_1091 : decode cL_law 1091 = .ok (.aload_n 3, 1) := by decide +kernel
theorem dL_law_1092 : decode cL_law 1092 = .ok (.iconst 0, 1) := by decide +kernel
theorem dL_law_1093 : decode cL_law 1093 = .ok (.laload, 1) := by decide +kernel
theorem dL_law_1094 : decode cL_law 1094 = .ok (.iload 6, 2) := by decide +kernel
theorem dL_law_1096 : decode cL_law 1096 = .ok (.i2l, 1) := by decide +kernel
theorem dL_law_1097 : decode cL_law 1097 = .ok (.lcmp, 1) := by decide +kernel
theorem dL_law_1098 : decode cL_law 1098 = .ok (.ifCond .eq 5, 3) := by decide +kernel
theorem dL_law_1101 : decode cL_law 1101 = .ok (.iconst 0, 1) := by decide +kernel
theorem dL_law_1102 : decode cL_law 1102 = .ok (.ireturn, 1) := by decide +kernel
theorem dL_law_1103 : decode cL_law 1103 = .ok (.goto 634, 3) := by decide +kernel
theorem dL_law_1106 : decode cL_law 1106 = .ok (.aload_n 1, 1) := by decide +kernel
theorem dL_law_1107 : decode cL_law 1107 = .ok (.aload_n 0, 1) := by decide +kernel
theorem dL_law_1108 : decode cL_law 1108 = .ok (.iload 4, 2) := by decide +kernel
theorem dL_law_1110 : decode cL_law 1110 = .ok (.iconst 1, 1) := by decide +kernel
theorem dL_law_1111 : decode cL_law 1111 = .ok (.iadd, 1) := by decide +kernel
theorem dL_law_1112 : decode cL_law 1112 = .ok (.iaload, 1) := by decide +kernel
theorem dL_law_1113 : decode cL_law 1113 = .ok (.aload_n 0, 1) := by decide +kernel
theorem dL_law_1114 : decode cL_law 1114 = .ok (.iload 4, 2) := by decide +kernel
theorem dL_law_1116 : decode cL_law 1116 = .ok (.iconst 2, 1) := by decide +kernel
theorem dL_law_1117 : decode cL_law 1117 = .ok (.iadd, 1) := by decide +kernel
theorem dL_law_1118 : decode cL_law 1118 = .ok (.iaload, 1) := by decide +kernel
theorem dL_law_1119 : decode cL_law 1119 = .ok (.aload_n 3, 1) := by decide +kernel
theorem dL_law_1120 : decode cL_law 1120 = .ok (.invokestatic 155, 3) := by decide +kernel
theorem dL_law_1123 : decode cL_law 1123 = .ok (.istore 5, 2) := by decide +kernel
theorem dL_law_1125 : decode cL_law 1125 = .ok (.aload_n 2, 1) := by decide +kernel
theorem dL_law_1126 : decode cL_law 1126 = .ok (.aload_n 0, 1) := by decide +kernel
theorem dL_law_1127 : decode cL_law 1127 = .ok (.iload 4, 2) := by decide +kernel
theorem dL_law_1129 : decode cL_law 1129 = .ok (.iconst 1, 1) := by decide +kernel
theorem dL_law_1130 : decode cL_law 1130 = .ok (.iadd, 1) := by decide +kernel
theorem dL_law_1131 : decode cL_law 1131 = .ok (.iaload, 1) := by decide +kernel
theorem dL_law_1132 : decode cL_law 1132 = .ok (.aload_n 0, 1) := by decide +kernel
theorem dL_law_1133 : decode cL_law 1133 = .ok (.iload 4, 2) := by decide +kernel
theorem dL_law_1135 : decode cL_law 1135 = .ok (.iconst 2, 1) := by decide +kernel
theorem dL_law_1136 : decode cL_law 1136 = .ok (.iadd, 1) := by decide +kernel
theorem dL_law_1137 : decode cL_law 1137 = .ok (.iaload, 1) := by decide +kernel
theorem dL_law_1138 : decode cL_law 1138 = .ok (.invokevirtual 157, 3) := by decide +kernel
theorem dL_law_1141 : decode cL_law 1141 = .ok (.istore 6, 2) := by decide +kernel
theorem dL_law_1143 : decode cL_law 1143 = .ok (.aload_n 2, 1) := by decide +kernel
theorem dL_law_1144 : decode cL_law 1144 = .ok (.invokevirtual 105, 3) := by decide +kernel
theorem dL_law_1147 : decode cL_law 1147 = .ok (.iload 5, 2) := by decide +kernel
theorem dL_law_1149 : decode cL_law 1149 = .ok (.if_icmp .eq 5, 3) := by decide +kernel
theorem dL_law_1152 : decode cL_law 1152 = .ok (.iconst 0, 1) := by decide +kernel
theorem dL_law_1153 : decode cL_law 1153 = .ok (.ireturn, 1) := by decide +kernel
theorem dL_law_1154 : decode cL_law 1154 = .ok (.iload 5, 2) := by decide +kernel
theorem dL_law_1156 : decode cL_law 1156 = .ok (.ifCond .ne 15, 3) := by decide +kernel
theorem dL_law_1159 : decode cL_law 1159 = .ok (.aload_n 3, 1) := by decide +kernel
theorem dL_law_1160 : decode cL_law 1160 = .ok (.iconst 0, 1) := by decide +kernel
theorem dL_law_1161 : decode cL_law 1161 = .ok (.laload, 1) := by decide +kernel
theorem dL_law_1162 : decode cL_law 1162 = .ok (.iload 6, 2) := by decide +kernel
theorem dL_law_1164 : decode cL_law 1164 = .ok (.i2l, 1) := by decide +kernel
theorem dL_law_1165 : decode cL_law 1165 = .ok (.lcmp, 1) := by decide +kernel
theorem dL_law_1166 : decode cL_law 1166 = .ok (.ifCond .eq 5, 3) := by decide +kernel
theorem dL_law_1169 : decode cL_law 1169 = .ok (.iconst 0, 1) := by decide +kernel
theorem dL_law_1170 : decode cL_law 1170 = .ok (.ireturn, 1) := by decide +kernel
theorem dL_law_1171 : decode cL_law 1171 = .ok (.goto 566, 3) := by decide +kernel
theorem dL_law_1174 : decode cL_law 1174 = .ok (.aload_n 1, 1) := by decide +kernel
theorem dL_law_1175 : decode cL_law 1175 = .ok (.aload_n 0, 1) := by decide +kernel
theorem dL_law_1176 : decode cL_law 1176 = .ok (.iload 4, 2) := by decide +kernel
theorem dL_law_1178 : decode cL_law 1178 = .ok (.iconst 1, 1) := by decide +kernel
theorem dL_law_1179 : decode cL_law 1179 = .ok (.iadd, 1) := by decide +kernel
theorem dL_law_1180 : decode cL_law 1180 = .ok (.iaload, 1) := by decide +kernel
theorem dL_law_1181 : decode cL_law 1181 = .ok (.aload_n 0, 1) := by decide +kernel
theorem dL_law_1182 : decode cL_law 1182 = .ok (.iload 4, 2) := by decide +kernel
theorem dL_law_1184 : decode cL_law 1184 = .ok (.iconst 2, 1) := by decide +kernel
theorem dL_law_1185 : decode cL_law 1185 = .ok (.iadd, 1) := by decide +kernel
theorem dL_law_1186 : decode cL_law 1186 = .ok (.iaload, 1) := by decide +kernel
theorem dL_law_1187 : decode cL_law 1187 = .ok (.aload_n 3, 1) := by decide +kernel
theorem dL_law_1188 : decode cL_law 1188 = .ok (.invokestatic 158, 3) := by decide +kernel
theorem dL_law_1191 : decode cL_law 1191 = .ok (.istore 5, 2) := by decide +kernel
theorem dL_law_1193 : decode cL_law 1193 = .ok (.aload_n 2, 1) := by decide +kernel
theorem dL_law_1194 : decode cL_law 1194 = .ok (.aload_n 0, 1) := by decide +kernel
theorem dL_law_1195 : decode cL_law 1195 = .ok (.iload 4, 2) := by decide +kernel
theorem dL_law_1197 : decode cL_law 1197 = .ok (.iconst 1, 1) := by decide +kernel
theorem dL_law_1198 : decode cL_law 1198 = .ok (.iadd, 1) := by decide +kernel
theorem dL_law_1199 : decode cL_law 1199 = .ok (.iaload, 1) := by decide +kernel
theorem dL_law_1200 : decode cL_law 1200 = .ok (.aload_n 0, 1) := by decide +kernel
theorem dL_law_1201 : decode cL_law 1201 = .ok (.iload 4, 2) := by decide +kernel
theorem dL_law_1203 : decode cL_law 1203 = .ok (.iconst 2, 1) := by decide +kernel
theorem dL_law_1204 : decode cL_law 1204 = .ok (.iadd, 1) := by decide +kernel
theorem dL_law_1205 : decode cL_law 1205 = .ok (.iaload, 1) := by decide +kernel
theorem dL_law_1206 : decode cL_law 1206 = .ok (.invokevirtual 160, 3) := by decide +kernel
theorem dL_law_1209 : decode cL_law 1209 = .ok (.istore 6, 2) := by decide +kernel
theorem dL_law_1211 : decode cL_law 1211 = .ok (.aload_n 2, 1) := by decide +kernel
theorem dL_law_1212 : decode cL_law 1212 = .ok (.invokevirtual 105, 3) := by decide +kernel
theorem dL_law_1215 : decode cL_law 1215 = .ok (.iload 5, 2) := by decide +kernel
theorem dL_law_1217 : decode cL_law 1217 = .ok (.if_icmp .eq 5, 3) := by decide +kernel
theorem dL_law_1220 : decode cL_law 1220 = .ok (.iconst 0, 1) := by decide +kernel
theorem dL_law_1221 : decode cL_law 1221 = .ok (.ireturn, 1) := by decide +kernel
theorem dL_law_1222 : decode cL_law 1222 = .ok (.iload 5, 2) := by decide +kernel
theorem dL_law_1224 : decode cL_law 1224 = .ok (.ifCond .ne 15, 3) := by decide +kernel
theorem dL_law_1227 : decode cL_law 1227 = .ok (.aload_n 3, 1) := by decide +kernel
theorem dL_law_1228 : decode cL_law 1228 = .ok (.iconst 0, 1) := by decide +kernel
theorem dL_law_1229 : decode cL_law 1229 = .ok (.laload, 1) := by decide +kernel
theorem dL_law_1230 : decode cL_law 1230 = .ok (.iload 6, 2) := by decide +kernel
theorem dL_law_1232 : decode cL_law 1232 = .ok (.i2l, 1) := by decide +kernel
theorem dL_law_1233 : decode cL_law 1233 = .ok (.lcmp, 1) := by decide +kernel
theorem dL_law_1234 : decode cL_law 1234 = .ok (.ifCond .eq 5, 3) := by decide +kernel
theorem dL_law_1237 : decode cL_law 1237 = .ok (.iconst 0, 1) := by decide +kernel
theorem dL_law_1238 : decode cL_law 1238 = .ok (.ireturn, 1) := by decide +kernel
theorem dL_law_1239 : decode cL_law 1239 = .ok (.goto 498, 3) := by decide +kernel
theorem dL_law_1242 : decode cL_law 1242 = .ok (.aload_n 1, 1) := by decide +kernel
theorem dL_law_1243 : decode cL_law 1243 = .ok (.aload_n 0, 1) := by decide +kernel
theorem dL_law_1244 : decode cL_law 1244 = .ok (.iload 4, 2) := by decide +kernel
theorem dL_law_1246 : decode cL_law 1246 = .ok (.iconst 1, 1) := by decide +kernel
theorem dL_law_1247 : decode cL_law 1247 = .ok (.iadd, 1) := by decide +kernel
theorem dL_law_1248 : decode cL_law 1248 = .ok (.iaload, 1) := by decide +kernel
theorem dL_law_1249 : decode cL_law 1249 = .ok (.aload_n 0, 1) := by decide +kernel
theorem dL_law_1250 : decode cL_law 1250 = .ok (.iload 4, 2) := by decide +kernel
theorem dL_law_1252 : decode cL_law 1252 = .ok (.iconst 2, 1) := by decide +kernel
theorem dL_law_1253 : decode cL_law 1253 = .ok (.iadd, 1) := by decide +kernel
theorem dL_law_1254 : decode cL_law 1254 = .ok (.iaload, 1) := by decide +kernel
theorem dL_law_1255 : decode cL_law 1255 = .ok (.aload_n 3, 1) := by decide +kernel
theorem dL_law_1256 : decode cL_law 1256 = .ok (.invokestatic 161, 3) := by decide +kernel
theorem dL_law_1259 : decode cL_law 1259 = .ok (.istore 5, 2) := by decide +kernel
theorem dL_law_1261 : decode cL_law 1261 = .ok (.aload_n 2, 1) := by decide +kernel
theorem dL_law_1262 : decode cL_law 1262 = .ok (.aload_n 0, 1) := by decide +kernel
theorem dL_law_1263 : decode cL_law 1263 = .ok (.iload 4, 2) := by decide +kernel
theorem dL_law_1265 : decode cL_law 1265 = .ok (.iconst 1, 1) := by decide +kernel
theorem dL_law_1266 : decode cL_law 1266 = .ok (.iadd, 1) := by decide +kernel
theorem dL_law_1267 : decode cL_law 1267 = .ok (.iaload, 1) := by decide +kernel
theorem dL_law_1268 : decode cL_law 1268 = .ok (.aload_n 0, 1) := by decide +kernel
theorem dL_law_1269 : decode cL_law 1269 = .ok (.iload 4, 2) := by decide +kernel
theorem dL_law_1271 : decode cL_law 1271 = .ok (.iconst 2, 1) := by decide +kernel
theorem dL_law_1272 : decode cL_law 1272 = .ok (.iadd, 1) := by decide +kernel
theorem dL_law_1273 : decode cL_law 1273 = .ok (.iaload, 1) := by decide +kernel
theorem dL_law_1274 : decode cL_law 1274 = .ok (.invokevirtual 163, 3) := by decide +kernel
theorem dL_law_1277 : decode cL_law 1277 = .ok (.istore 6, 2) := by decide +kernel
theorem dL_law_1279 : decode cL_law 1279 = .ok (.aload_n 2, 1) := by decide +kernel
theorem dL_law_1280 : decode cL_law 1280 = .ok (.invokevirtual 105, 3) := by decide +kernel
theorem dL_law_1283 : decode cL_law 1283 = .ok (.iload 5, 2) := by decide +kernel
theorem dL_law_1285 : decode cL_law 1285 = .ok (.if_icmp .eq 5, 3) := by decide +kernel
theorem dL_law_1288 : decode cL_law 1288 = .ok (.iconst 0, 1) := by decide +kernel
theorem dL_law_1289 : decode cL_law 1289 = .ok (.ireturn, 1) := by decide +kernel
theorem dL_law_1290 : decode cL_law 1290 = .ok (.iload 5, 2) := by decide +kernel
theorem dL_law_1292 : decode cL_law 1292 = .ok (.ifCond .ne 15, 3) := by decide +kernel
theorem dL_law_1295 : decode cL_law 1295 = .ok (.aload_n 3, 1) := by decide +kernel
theorem dL_law_1296 : decode cL_law 1296 = .ok (.iconst 0, 1) := by decide +kernel
theorem dL_law_1297 : decode cL_law 1297 = .ok (.laload, 1) := by decide +kernel
theorem dL_law_1298 : decode cL_law 1298 = .ok (.iload 6, 2) := by decide +kernel
theorem dL_law_1300 : decode cL_law 1300 = .ok (.i2l, 1) := by decide +kernel
theorem dL_law_1301 : decode cL_law 1301 = .ok (.lcmp, 1) := by decide +kernel
theorem dL_law_1302 : decode cL_law 1302 = .ok (.ifCond .eq 5, 3) := by decide +kernel
theorem dL_law_1305 : decode cL_law 1305 = .ok (.iconst 0, 1) := by decide +kernel
theorem dL_law_1306 : decode cL_law 1306 = .ok (.ireturn, 1) := by decide +kernel
theorem dL_law_1307 : decode cL_law 1307 = .ok (.goto 430, 3) := by decide +kernel
theorem dL_law_1310 : decode cL_law 1310 = .ok (.aload_n 1, 1) := by decide +kernel
theorem dL_law_1311 : decode cL_law 1311 = .ok (.aload_n 0, 1) := by decide +kernel
theorem dL_law_1312 : decode cL_law 1312 = .ok (.iload 4, 2) := by decide +kernel
theorem dL_law_1314 : decode cL_law 1314 = .ok (.iconst 1, 1) := by decide +kernel
theorem dL_law_1315 : decode cL_law 1315 = .ok (.iadd, 1) := by decide +kernel
theorem dL_law_1316 : decode cL_law 1316 = .ok (.iaload, 1) := by decide +kernel
theorem dL_law_1317 : decode cL_law 1317 = .ok (.aload_n 0, 1) := by decide +kernel
theorem dL_law_1318 : decode cL_law 1318 = .ok (.iload 4, 2) := by decide +kernel
theorem dL_law_1320 : decode cL_law 1320 = .ok (.iconst 2, 1) := by decide +kernel
theorem dL_law_1321 : decode cL_law 1321 = .ok (.iadd, 1) := by decide +kernel
theorem dL_law_1322 : decode cL_law 1322 = .ok (.iaload, 1) := by decide +kernel
theorem dL_law_1323 : decode cL_law 1323 = .ok (.aload_n 3, 1) := by decide +kernel
theorem dL_law_1324 : decode cL_law 1324 = .ok (.invokestatic 164, 3) := by decide +kernel
theorem dL_law_1327 : decode cL_law 1327 = .ok (.istore 5, 2) := by decide +kernel
theorem dL_law_1329 : decode cL_law 1329 = .ok (.aload_n 2, 1) := by decide +kernel
theorem dL_law_1330 : decode cL_law 1330 = .ok (.aload_n 0, 1) := by decide +kernel
theorem dL_law_1331 : decode cL_law 1331 = .ok (.iload 4, 2) := by decide +kernel
theorem dL_law_1333 : decode cL_law 1333 = .ok (.iconst 1, 1) := by decide +kernel
theorem dL_law_1334 : decode cL_law 1334 = .ok (.iadd, 1) := by decide +kernel
theorem dL_law_1335 : decode cL_law 1335 = .ok (.iaload, 1) := by decide +kernel
theorem dL_law_1336 : decode cL_law 1336 = .ok (.aload_n 0, 1) := by decide +kernel
theorem dL_law_1337 : decode cL_law 1337 = .ok (.iload 4, 2) := by decide +kernel
theorem dL_law_1339 : decode cL_law 1339 = .ok (.iconst 2, 1) := by decide +kernel
theorem dL_law_1340 : decode cL_law 1340 = .ok (.iadd, 1) := by decide +kernel
theorem dL_law_1341 : decode cL_law 1341 = .ok (.iaload, 1) := by decide +kernel
theorem dL_law_1342 : decode cL_law 1342 = .ok (.invokevirtual 166, 3) := by decide +kernel
theorem dL_law_1345 : decode cL_law 1345 = .ok (.istore 6, 2) := by decide +kernel
theorem dL_law_1347 : decode cL_law 1347 = .ok (.aload_n 2, 1) := by decide +kernel
theorem dL_law_1348 : decode cL_law 1348 = .ok (.invokevirtual 105, 3) := by decide +kernel
theorem dL_law_1351 : decode cL_law 1351 = .ok (.iload 5, 2) := by decide +kernel
theorem dL_law_1353 : decode cL_law 1353 = .ok (.if_icmp .eq 5, 3) := by decide +kernel
theorem dL_law_1356 : decode cL_law 1356 = .ok (.iconst 0, 1) := by decide +kernel
theorem dL_law_1357 : decode cL_law 1357 = .ok (.ireturn, 1) := by decide +kernel
theorem dL_law_1358 : decode cL_law 1358 = .ok (.iload 5, 2) := by decide +kernel
theorem dL_law_1360 : decode cL_law 1360 = .ok (.ifCond .ne 15, 3) := by decide +kernel
theorem dL_law_1363 : decode cL_law 1363 = .ok (.aload_n 3, 1) := by decide +kernel
theorem dL_law_1364 : decode cL_law 1364 = .ok (.iconst 0, 1) := by decide +kernel
theorem dL_law_1365 : decode cL_law 1365 = .ok (.laload, 1) := by decide +kernel
theorem dL_law_1366 : decode cL_law 1366 = .ok (.iload 6, 2) := by decide +kernel
theorem dL_law_1368 : decode cL_law 1368 = .ok (.i2l, 1) := by decide +kernel
theorem dL_law_1369 : decode cL_law 1369 = .ok (.lcmp, 1) := by decide +kernel
theorem dL_law_1370 : decode cL_law 1370 = .ok (.ifCond .eq 5, 3) := by decide +kernel
theorem dL_law_1373 : decode cL_law 1373 = .ok (.iconst 0, 1) := by decide +kernel
theorem dL_law_1374 : decode cL_law 1374 = .ok (.ireturn, 1) := by decide +kernel
theorem dL_law_1375 : decode cL_law 1375 = .ok (.goto 362, 3) := by decide +kernel
theorem dL_law_1378 : decode cL_law 1378 = .ok (.aload_n 1, 1) := by decide +kernel
theorem dL_law_1379 : decode cL_law 1379 = .ok (.aload_n 0, 1) := by decide +kernel
theorem dL_law_1380 : decode cL_law 1380 = .ok (.iload 4, 2) := by decide +kernel
theorem dL_law_1382 : decode cL_law 1382 = .ok (.iconst 1, 1) := by decide +kernel
theorem dL_law_1383 : decode cL_law 1383 = .ok (.iadd, 1) := by decide +kernel
theorem dL_law_1384 : decode cL_law 1384 = .ok (.iaload, 1) := by decide +kernel
theorem dL_law_1385 : decode cL_law 1385 = .ok (.aload_n 0, 1) := by decide +kernel
theorem dL_law_1386 : decode cL_law 1386 = .ok (.iload 4, 2) := by decide +kernel
theorem dL_law_1388 : decode cL_law 1388 = .ok (.iconst 2, 1) := by decide +kernel
theorem dL_law_1389 : decode cL_law 1389 = .ok (.iadd, 1) := by decide +kernel
theorem dL_law_1390 : decode cL_law 1390 = .ok (.iaload, 1) := by decide +kernel
theorem dL_law_1391 : decode cL_law 1391 = .ok (.aload_n 3, 1) := by decide +kernel
theorem dL_law_1392 : decode cL_law 1392 = .ok (.invokestatic 167, 3) := by decide +kernel
theorem dL_law_1395 : decode cL_law 1395 = .ok (.istore 5, 2) := by decide +kernel
theorem dL_law_1397 : decode cL_law 1397 = .ok (.aload_n 2, 1) := by decide +kernel
theorem dL_law_1398 : decode cL_law 1398 = .ok (.aload_n 0, 1) := by decide +kernel
theorem dL_law_1399 : decode cL_law 1399 = .ok (.iload 4, 2) := by decide +kernel
theorem dL_law_1401 : decode cL_law 1401 = .ok (.iconst 1, 1) := by decide +kernel
theorem dL_law_1402 : decode cL_law 1402 = .ok (.iadd, 1) := by decide +kernel
theorem dL_law_1403 : decode cL_law 1403 = .ok (.iaload, 1) := by decide +kernel
theorem dL_law_1404 : decode cL_law 1404 = .ok (.aload_n 0, 1) := by decide +kernel
theorem dL_law_1405 : decode cL_law 1405 = .ok (.iload 4, 2) := by decide +kernel
theorem dL_law_1407 : decode cL_law 1407 = .ok (.iconst 2, 1) := by decide +kernel
theorem dL_law_1408 : decode cL_law 1408 = .ok (.iadd, 1) := by decide +kernel
theorem dL_law_1409 : decode cL_law 1409 = .ok (.iaload, 1) := by decide +kernel
theorem dL_law_1410 : decode cL_law 1410 = .ok (.invokevirtual 169, 3) := by decide +kernel
theorem dL_law_1413 : decode cL_law 1413 = .ok (.istore 6, 2) := by decide +kernel
theorem dL_law_1415 : decode cL_law 1415 = .ok (.aload_n 2, 1) := by decide +kernel
theorem dL_law_1416 : decode cL_law 1416 = .ok (.invokevirtual 105, 3) := by decide +kernel
theorem dL_law_1419 : decode cL_law 1419 = .ok (.iload 5, 2) := by decide +kernel
theorem dL_law_1421 : decode cL_law 1421 = .ok (.if_icmp .eq 5, 3) := by decide +kernel
theorem dL_law_1424 : decode cL_law 1424 = .ok (.iconst 0, 1) := by decide +kernel
theorem dL_law_1425 : decode cL_law 1425 = .ok (.ireturn, 1) := by decide +kernel
theorem dL_law_1426 : decode cL_law 1426 = .ok (.iload 5, 2) := by decide +kernel
theorem dL_law_1428 : decode cL_law 1428 = .ok (.ifCond .ne 15, 3) := by decide +kernel
theorem dL_law_1431 : decode cL_law 1431 = .ok (.aload_n 3, 1) := by decide +kernel
theorem dL_law_1432 : decode cL_law 1432 = .ok (.iconst 0, 1) := by decide +kernel
theorem dL_law_1433 : decode cL_law 1433 = .ok (.laload, 1) := by decide +kernel
theorem dL_law_1434 : decode cL_law 1434 = .ok (.iload 6, 2) := by decide +kernel
theorem dL_law_1436 : decode cL_law 1436 = .ok (.i2l, 1) := by decide +kernel
theorem dL_law_1437 : decode cL_law 1437 = .ok (.lcmp, 1) := by decide +kernel
theorem dL_law_1438 : decode cL_law 1438 = .ok (.ifCond .eq 5, 3) := by decide +kernel
theorem dL_law_1441 : decode cL_law 1441 = .ok (.iconst 0, 1) := by decide +kernel
theorem dL_law_1442 : decode cL_law 1442 = .ok (.ireturn, 1) := by decide +kernel
theorem dL_law_1443 : decode cL_law 1443 = .ok (.goto 294, 3) := by decide +kernel
theorem dL_law_1446 : decode cL_law 1446 = .ok (.aload_n 1, 1) := by decide +kernel
theorem dL_law_1447 : decode cL_law 1447 = .ok (.aload_n 0, 1) := by decide +kernel
theorem dL_law_1448 : decode cL_law 1448 = .ok (.iload 4, 2) := by decide +kernel
theorem dL_law_1450 : decode cL_law 1450 = .ok (.iconst 1, 1) := by decide +kernel
theorem dL_law_1451 : decode cL_law 1451 = .ok (.iadd, 1) := by decide +kernel
theorem dL_law_1452 : decode cL_law 1452 = .ok (.iaload, 1) := by decide +kernel
theorem dL_law_1453 : decode cL_law 1453 = .ok (.aload_n 3, 1) := by decide +kernel
theorem dL_law_1454 : decode cL_law 1454 = .ok (.invokestatic 170, 3) := by decide +kernel
theorem dL_law_1457 : decode cL_law 1457 = .ok (.istore 5, 2) := by decide +kernel
theorem dL_law_1459 : decode cL_law 1459 = .ok (.aload_n 2, 1) := by decide +kernel
theorem dL_law_1460 : decode cL_law 1460 = .ok (.aload_n 0, 1) := by decide +kernel
theorem dL_law_1461 : decode cL_law 1461 = .ok (.iload 4, 2) := by decide +kernel
theorem dL_law_1463 : decode cL_law 1463 = .ok (.iconst 1, 1) := by decide +kernel
theorem dL_law_1464 : decode cL_law 1464 = .ok (.iadd, 1) := by decide +kernel
theorem dL_law_1465 : decode cL_law 1465 = .ok (.iaload, 1) := by decide +kernel
theorem dL_law_1466 : decode cL_law 1466 = .ok (.invokevirtual 172, 3) := by decide +kernel
theorem dL_law_1469 : decode cL_law 1469 = .ok (.istore 6, 2) := by decide +kernel
theorem dL_law_1471 : decode cL_law 1471 = .ok (.aload_n 2, 1) := by decide +kernel
theorem dL_law_1472 : decode cL_law 1472 = .ok (.invokevirtual 105, 3) := by decide +kernel
theorem dL_law_1475 : decode cL_law 1475 = .ok (.iload 5, 2) := by decide +kernel
theorem dL_law_1477 : decode cL_law 1477 = .ok (.if_icmp .eq 5, 3) := by decide +kernel
theorem dL_law_1480 : decode cL_law 1480 = .ok (.iconst 0, 1) := by decide +kernel
theorem dL_law_1481 : decode cL_law 1481 = .ok (.ireturn, 1) := by decide +kernel
theorem dL_law_1482 : decode cL_law 1482 = .ok (.iload 5, 2) := by decide +kernel
theorem dL_law_1484 : decode cL_law 1484 = .ok (.ifCond .ne 15, 3) := by decide +kernel
theorem dL_law_1487 : decode cL_law 1487 = .ok (.aload_n 3, 1) := by decide +kernel
theorem dL_law_1488 : decode cL_law 1488 = .ok (.iconst 0, 1) := by decide +kernel
theorem dL_law_1489 : decode cL_law 1489 = .ok (.laload, 1) := by decide +kernel
theorem dL_law_1490 : decode cL_law 1490 = .ok (.iload 6, 2) := by decide +kernel
theorem dL_law_1492 : decode cL_law 1492 = .ok (.i2l, 1) := by decide +kernel
theorem dL_law_1493 : decode cL_law 1493 = .ok (.lcmp, 1) := by decide +kernel
theorem dL_law_1494 : decode cL_law 1494 = .ok (.ifCond .eq 5, 3) := by decide +kernel
theorem dL_law_1497 : decode cL_law 1497 = .ok (.iconst 0, 1) := by decide +kernel
theorem dL_law_1498 : decode cL_law 1498 = .ok (.ireturn, 1) := by decide +kernel
theorem dL_law_1499 : decode cL_law 1499 = .ok (.goto 238, 3) := by decide +kernel
theorem dL_law_1502 : decode cL_law 1502 = .ok (.aload_n 1, 1) := by decide +kernel
theorem dL_law_1503 : decode cL_law 1503 = .ok (.aload_n 0, 1) := by decide +kernel
theorem dL_law_1504 : decode cL_law 1504 = .ok (.iload 4, 2) := by decide +kernel
theorem dL_law_1506 : decode cL_law 1506 = .ok (.iconst 1, 1) := by decide +kernel
theorem dL_law_1507 : decode cL_law 1507 = .ok (.iadd, 1) := by decide +kernel
theorem dL_law_1508 : decode cL_law 1508 = .ok (.iaload, 1) := by decide +kernel
theorem dL_law_1509 : decode cL_law 1509 = .ok (.aload_n 0, 1) := by decide +kernel
theorem dL_law_1510 : decode cL_law 1510 = .ok (.iload 4, 2) := by decide +kernel
theorem dL_law_1512 : decode cL_law 1512 = .ok (.iconst 2, 1) := by decide +kernel
theorem dL_law_1513 : decode cL_law 1513 = .ok (.iadd, 1) := by decide +kernel
theorem dL_law_1514 : decode cL_law 1514 = .ok (.iaload, 1) := by decide +kernel
theorem dL_law_1515 : decode cL_law 1515 = .ok (.aload_n 3, 1) := by decide +kernel
theorem dL_law_1516 : decode cL_law 1516 = .ok (.invokestatic 173, 3) := by decide +kernel
theorem dL_law_1519 : decode cL_law 1519 = .ok (.istore 5, 2) := by decide +kernel
theorem dL_law_1521 : decode cL_law 1521 = .ok (.aload_n 2, 1) := by decide +kernel
theorem dL_law_1522 : decode cL_law 1522 = .ok (.aload_n 0, 1) := by decide +kernel
theorem dL_law_1523 : decode cL_law 1523 = .ok (.iload 4, 2) := by decide +kernel
theorem dL_law_1525 : decode cL_law 1525 = .ok (.iconst 1, 1) := by decide +kernel
theorem dL_law_1526 : decode cL_law 1526 = .ok (.iadd, 1) := by decide +kernel
theorem dL_law_1527 : decode cL_law 1527 = .ok (.iaload, 1) := by decide +kernel
theorem dL_law_1528 : decode cL_law 1528 = .ok (.aload_n 0, 1) := by decide +kernel
theorem dL_law_1529 : decode cL_law 1529 = .ok (.iload 4, 2) := by decide +kernel
theorem dL_law_1531 : decode cL_law 1531 = .ok (.iconst 2, 1) := by decide +kernel
theorem dL_law_1532 : decode cL_law 1532 = .ok (.iadd, 1) := by decide +kernel
theorem dL_law_1533 : decode cL_law 1533 = .ok (.iaload, 1) := by decide +kernel
theorem dL_law_1534 : decode cL_law 1534 = .ok (.invokevirtual 175, 3) := by decide +kernel
theorem dL_law_1537 : decode cL_law 1537 = .ok (.istore 6, 2) := by decide +kernel
theorem dL_law_1539 : decode cL_law 1539 = .ok (.aload_n 2, 1) := by decide +kernel
theorem dL_law_1540 : decode cL_law 1540 = .ok (.invokevirtual 105, 3) := by decide +kernel
theorem dL_law_1543 : decode cL_law 1543 = .ok (.iload 5, 2) := by decide +kernel
theorem dL_law_1545 : decode cL_law 1545 = .ok (.if_icmp .eq 5, 3) := by decide +kernel
theorem dL_law_1548 : decode cL_law 1548 = .ok (.iconst 0, 1) := by decide +kernel
theorem dL_law_1549 : decode cL_law 1549 = .ok (.ireturn, 1) := by decide +kernel
theorem dL_law_1550 : decode cL_law 1550 = .ok (.iload 5, 2) := by decide +kernel
theorem dL_law_1552 : decode cL_law 1552 = .ok (.ifCond .ne 15, 3) := by decide +kernel
theorem dL_law_1555 : decode cL_law 1555 = .ok (.aload_n 3, 1) := by decide +kernel
theorem dL_law_1556 : decode cL_law 1556 = .ok (.iconst 0, 1) := by decide +kernel
theorem dL_law_1557 : decode cL_law 1557 = .ok (.laload, 1) := by decide +kernel
theorem dL_law_1558 : decode cL_law 1558 = .ok (.iload 6, 2) := by decide +kernel
theorem dL_law_1560 : decode cL_law 1560 = .ok (.i2l, 1) := by decide +kernel
theorem dL_law_1561 : decode cL_law 1561 = .ok (.lcmp, 1) := by decide +kernel
theorem dL_law_1562 : decode cL_law 1562 = .ok (.ifCond .eq 5, 3) := by decide +kernel
theorem dL_law_1565 : decode cL_law 1565 = .ok (.iconst 0, 1) := by decide +kernel
theorem dL_law_1566 : decode cL_law 1566 = .ok (.ireturn, 1) := by decide +kernel
theorem dL_law_1567 : decode cL_law 1567 = .ok (.goto 170, 3) := by decide +kernel
theorem dL_law_1570 : decode cL_law 1570 = .ok (.aload_n 1, 1) := by decide +kernel
theorem dL_law_1571 : decode cL_law 1571 = .ok (.aload_n 0, 1) := by decide +kernel
theorem dL_law_1572 : decode cL_law 1572 = .ok (.iload 4, 2) := by decide +kernel
theorem dL_law_1574 : decode cL_law 1574 = .ok (.iconst 1, 1) := by decide +kernel
theorem dL_law_1575 : decode cL_law 1575 = .ok (.iadd, 1) := by decide +kernel
theorem dL_law_1576 : decode cL_law 1576 = .ok (.iaload, 1) := by decide +kernel
theorem dL_law_1577 : decode cL_law 1577 = .ok (.aload_n 3, 1) := by decide +kernel
theorem dL_law_1578 : decode cL_law 1578 = .ok (.invokestatic 176, 3) := by decide +kernel
theorem dL_law_1581 : decode cL_law 1581 = .ok (.istore 5, 2) := by decide +kernel
theorem dL_law_1583 : decode cL_law 1583 = .ok (.aload_n 2, 1) := by decide +kernel
theorem dL_law_1584 : decode cL_law 1584 = .ok (.aload_n 0, 1) := by decide +kernel
theorem dL_law_1585 : decode cL_law 1585 = .ok (.iload 4, 2) := by decide +kernel
theorem dL_law_1587 : decode cL_law 1587 = .ok (.iconst 1, 1) := by decide +kernel
theorem dL_law_1588 : decode cL_law 1588 = .ok (.iadd, 1) := by decide +kernel
theorem dL_law_1589 : decode cL_law 1589 = .ok (.iaload, 1) := by decide +kernel
theorem dL_law_1590 : decode cL_law 1590 = .ok (.invokevirtual 178, 3) := by decide +kernel
theorem dL_law_1593 : decode cL_law 1593 = .ok (.istore 6, 2) := by decide +kernel
theorem dL_law_1595 : decode cL_law 1595 = .ok (.aload_n 2, 1) := by decide +kernel
theorem dL_law_1596 : decode cL_law 1596 = .ok (.invokevirtual 105, 3) := by decide +kernel
theorem dL_law_1599 : decode cL_law 1599 = .ok (.iload 5, 2) := by decide +kernel
theorem dL_law_1601 : decode cL_law 1601 = .ok (.if_icmp .eq 5, 3) := by decide +kernel
theorem dL_law_1604 : decode cL_law 1604 = .ok (.iconst 0, 1) := by decide +kernel
theorem dL_law_1605 : decode cL_law 1605 = .ok (.ireturn, 1) := by decide +kernel
theorem dL_law_1606 : decode cL_law 1606 = .ok (.iload 5, 2) := by decide +kernel
theorem dL_law_1608 : decode cL_law 1608 = .ok (.ifCond .ne 15, 3) := by decide +kernel
theorem dL_law_1611 : decode cL_law 1611 = .ok (.aload_n 3, 1) := by decide +kernel
theorem dL_law_1612 : decode cL_law 1612 = .ok (.iconst 0, 1) := by decide +kernel
theorem dL_law_1613 : decode cL_law 1613 = .ok (.laload, 1) := by decide +kernel
theorem dL_law_1614 : decode cL_law 1614 = .ok (.iload 6, 2) := by decide +kernel
theorem dL_law_1616 : decode cL_law 1616 = .ok (.i2l, 1) := by decide +kernel
theorem dL_law_1617 : decode cL_law 1617 = .ok (.lcmp, 1) := by decide +kernel
theorem dL_law_1618 : decode cL_law 1618 = .ok (.ifCond .eq 5, 3) := by decide +kernel
theorem dL_law_1621 : decode cL_law 1621 = .ok (.iconst 0, 1) := by decide +kernel
theorem dL_law_1622 : decode cL_law 1622 = .ok (.ireturn, 1) := by decide +kernel
theorem dL_law_1623 : decode cL_law 1623 = .ok (.goto 114, 3) := by decide +kernel
theorem dL_law_1626 : decode cL_law 1626 = .ok (.aload_n 1, 1) := by decide +kernel
theorem dL_law_1627 : decode cL_law 1627 = .ok (.aload_n 0, 1) := by decide +kernel
theorem dL_law_1628 : decode cL_law 1628 = .ok (.iload 4, 2) := by decide +kernel
theorem dL_law_1630 : decode cL_law 1630 = .ok (.iconst 1, 1) := by decide +kernel
theorem dL_law_1631 : decode cL_law 1631 = .ok (.iadd, 1) := by decide +kernel
theorem dL_law_1632 : decode cL_law 1632 = .ok (.iaload, 1) := by decide +kernel
theorem dL_law_1633 : decode cL_law 1633 = .ok (.aload_n 3, 1) := by decide +kernel
theorem dL_law_1634 : decode cL_law 1634 = .ok (.invokestatic 179, 3) := by decide +kernel
theorem dL_law_1637 : decode cL_law 1637 = .ok (.istore 5, 2) := by decide +kernel
theorem dL_law_1639 : decode cL_law 1639 = .ok (.aload_n 2, 1) := by decide +kernel
theorem dL_law_1640 : decode cL_law 1640 = .ok (.aload_n 0, 1) := by decide +kernel
theorem dL_law_1641 : decode cL_law 1641 = .ok (.iload 4, 2) := by decide +kernel
theorem dL_law_1643 : decode cL_law 1643 = .ok (.iconst 1, 1) := by decide +kernel
theorem dL_law_1644 : decode cL_law 1644 = .ok (.iadd, 1) := by decide +kernel
theorem dL_law_1645 : decode cL_law 1645 = .ok (.iaload, 1) := by decide +kernel
theorem dL_law_1646 : decode cL_law 1646 = .ok (.invokevirtual 181, 3) := by decide +kernel
theorem dL_law_1649 : decode cL_law 1649 = .ok (.istore 6, 2) := by decide +kernel
theorem dL_law_1651 : decode cL_law 1651 = .ok (.aload_n 2, 1) := by decide +kernel
theorem dL_law_1652 : decode cL_law 1652 = .ok (.invokevirtual 105, 3) := by decide +kernel
theorem dL_law_1655 : decode cL_law 1655 = .ok (.iload 5, 2) := by decide +kernel
theorem dL_law_1657 : decode cL_law 1657 = .ok (.if_icmp .eq 5, 3) := by decide +kernel
theorem dL_law_1660 : decode cL_law 1660 = .ok (.iconst 0, 1) := by decide +kernel
theorem dL_law_1661 : decode cL_law 1661 = .ok (.ireturn, 1) := by decide +kernel
theorem dL_law_1662 : decode cL_law 1662 = .ok (.iload 5, 2) := by decide +kernel
theorem dL_law_1664 : decode cL_law 1664 = .ok (.ifCond .ne 15, 3) := by decide +kernel
theorem dL_law_1667 : decode cL_law 1667 = .ok (.aload_n 3, 1) := by decide +kernel
theorem dL_law_1668 : decode cL_law 1668 = .ok (.iconst 0, 1) := by decide +kernel
theorem dL_law_1669 : decode cL_law 1669 = .ok (.laload, 1) := by decide +kernel
theorem dL_law_1670 : decode cL_law 1670 = .ok (.iload 6, 2) := by decide +kernel
theorem dL_law_1672 : decode cL_law 1672 = .ok (.i2l, 1) := by decide +kernel
theorem dL_law_1673 : decode cL_law 1673 = .ok (.lcmp, 1) := by decide +kernel
theorem dL_law_1674 : decode cL_law 1674 = .ok (.ifCond .eq 5, 3) := by decide +kernel
theorem dL_law_1677 : decode cL_law 1677 = .ok (.iconst 0, 1) := by decide +kernel
theorem dL_law_1678 : decode cL_law 1678 = .ok (.ireturn, 1) := by decide +kernel
theorem dL_law_1679 : decode cL_law 1679 = .ok (.goto 58, 3) := by decide +kernel
theorem dL_law_1682 : decode cL_law 1682 = .ok (.aload_n 1, 1) := by decide +kernel
theorem dL_law_1683 : decode cL_law 1683 = .ok (.aload_n 0, 1) := by decide +kernel
theorem dL_law_1684 : decode cL_law 1684 = .ok (.iload 4, 2) := by decide +kernel
theorem dL_law_1686 : decode cL_law 1686 = .ok (.iconst 1, 1) := by decide +kernel
theorem dL_law_1687 : decode cL_law 1687 = .ok (.iadd, 1) := by decide +kernel
theorem dL_law_1688 : decode cL_law 1688 = .ok (.iaload, 1) := by decide +kernel
theorem dL_law_1689 : decode cL_law 1689 = .ok (.aload_n 3, 1) := by decide +kernel
theorem dL_law_1690 : decode cL_law 1690 = .ok (.invokestatic 182, 3) := by decide +kernel
theorem dL_law_1693 : decode cL_law 1693 = .ok (.istore 5, 2) := by decide +kernel
theorem dL_law_1695 : decode cL_law 1695 = .ok (.aload_n 2, 1) := by decide +kernel
theorem dL_law_1696 : decode cL_law 1696 = .ok (.aload_n 0, 1) := by decide +kernel
theorem dL_law_1697 : decode cL_law 1697 = .ok (.iload 4, 2) := by decide +kernel
theorem dL_law_1699 : decode cL_law 1699 = .ok (.iconst 1, 1) := by decide +kernel
theorem dL_law_1700 : decode cL_law 1700 = .ok (.iadd, 1) := by decide +kernel
theorem dL_law_1701 : decode cL_law 1701 = .ok (.iaload, 1) := by decide +kernel
theorem dL_law_1702 : decode cL_law 1702 = .ok (.invokevirtual 184, 3) := by decide +kernel
theorem dL_law_1705 : decode cL_law 1705 = .ok (.lstore 6, 2) := by decide +kernel
theorem dL_law_1707 : decode cL_law 1707 = .ok (.aload_n 2, 1) := by decide +kernel
theorem dL_law_1708 : decode cL_law 1708 = .ok (.invokevirtual 105, 3) := by decide +kernel
theorem dL_law_1711 : decode cL_law 1711 = .ok (.iload 5, 2) := by decide +kernel
theorem dL_law_1713 : decode cL_law 1713 = .ok (.if_icmp .eq 5, 3) := by decide +kernel
theorem dL_law_1716 : decode cL_law 1716 = .ok (.iconst 0, 1) := by decide +kernel
theorem dL_law_1717 : decode cL_law 1717 = .ok (.ireturn, 1) := by decide +kernel
theorem dL_law_1718 : decode cL_law 1718 = .ok (.iload 5, 2) := by decide +kernel
theorem dL_law_1720 : decode cL_law 1720 = .ok (.ifCond .ne 14, 3) := by decide +kernel
theorem dL_law_1723 : decode cL_law 1723 = .ok (.aload_n 3, 1) := by decide +kernel
theorem dL_law_1724 : decode cL_law 1724 = .ok (.iconst 0, 1) := by decide +kernel
theorem dL_law_1725 : decode cL_law 1725 = .ok (.laload, 1) := by decide +kernel
theorem dL_law_1726 : decode cL_law 1726 = .ok (.lload 6, 2) := by decide +kernel
theorem dL_law_1728 : decode cL_law 1728 = .ok (.lcmp, 1) := by decide +kernel
theorem dL_law_1729 : decode cL_law 1729 = .ok (.ifCond .eq 5, 3) := by decide +kernel
theorem dL_law_1732 : decode cL_law 1732 = .ok (.iconst 0, 1) := by decide +kernel
theorem dL_law_1733 : decode cL_law 1733 = .ok (.ireturn, 1) := by decide +kernel
theorem dL_law_1734 : decode cL_law 1734 = .ok (.goto 3, 3) := by decide +kernel
theorem dL_law_1737 : decode cL_law 1737 = .ok (.iinc 4 6, 3) := by decide +kernel
theorem dL_law_1740 : decode cL_law 1740 = .ok (.goto (-1717), 3) := by decide +kernel
theorem dL_law_1743 : decode cL_law 1743 = .ok (.iconst 1, 1) := by decide +kernel
theorem dL_law_1744 : decode cL_law 1744 = .ok (.ireturn, 1) := by decide +kernel
abbrev vwCl : List vw_C := [(RX0, TX0, 2), (RX1, TX1, 1), (RX2, TX2, 8), (RX3, TX3, 15), (RX4, TX4, 25)]
end
