set_option maxRecDepth 20000 in
theorem w_X3_requireRange_k72 : Cond.classLink RX3 72 nIAE ∈ wsX3_requireRange := by decide +kernel
set_option maxRecDepth 20000 in
theorem w_X3_requireRange_i72 : Cond.initialized nIAE ∈ wsX3_requireRange := by decide +kernel
set_option maxHeartbeats 4000000 in
set_option maxRecDepth 100000 in
theorem c_X3_requireRange {l : Launch} (hfl : l.stackTraces = false) {cy : Nat → ClassId} {D : va_G} {ad : Ad} (hI : Inj ad) (σ : Sg) (v lo hi : Int) (h1 : I32 v) (h2 : I32 lo) (h3 : I32 hi) : XV l yX3_requireRange wsX3_requireRange ({ frames := 6, cells := 1, slots := 6, locals := 82 } : Room) cy D ad σ [.ref (ad 0 0), .int (iI v), .int (iI lo), .int (iI hi)] (fun σ' => σ' = σ ∧ (lo ≤ v ∧ v ≤ hi)) (fun E σ' => E = nIAE ∧ σ' = σ ∧ ¬ (lo ≤ v ∧ v ≤ hi)) 1 6 := by
  refine XV.of (lv0 := [some (.ref (ad 0 0)), some (.int (iI v)), some (.int (iI lo)), some (.int (iI hi))]) hfl hI (by decide) rfl (Nat.le_of_ble_eq_true rfl) rfl ?_
  intro p e s m args below meth c C hr hT
  refine J_iload_1 C dX3_requireRange_0 ?_
  refine J_iload_2 C dX3_requireRange_1 ?_
  refine J_icmp_lt (tgt := 10) C (by omega) (by omega) dX3_requireRange_2 (by decide) (fun c_2 => ?_) (fun c_2 => ?_)
  · refine J_throw_IAE (text := "an argument is out of its range") C hT w_X3_requireRange_k72 w_X3_requireRange_i72 (by decide +kernel) (by decide) (by decide) (by decide) (by decide) ⟨by decide, by decide⟩ dX3_requireRange_10 dX3_requireRange_13 dX3_requireRange_14 dX3_requireRange_16 dX3_requireRange_19 ?_
    exact ⟨rfl, rfl, by omega⟩
  · refine J_iload_1 C dX3_requireRange_5 ?_
    refine J_iload_3 C dX3_requireRange_6 ?_
    refine J_icmp_le (tgt := 20) C (by omega) (by omega) dX3_requireRange_7 (by decide) (fun c_7 => ?_) (fun c_7 => ?_)
    · refine J_vx ?_
      refine J_retV C hr (by decide) (by decide) dX3_requireRange_20 ?_
      exact ⟨rfl, by omega⟩
    · refine J_throw_IAE (text := "an argument is out of its range") C hT w_X3_requireRange_k72 w_X3_requireRange_i72 (by decide +kernel) (by decide) (by decide) (by decide) (by decide) ⟨by decide, by decide⟩ dX3_requireRange_10 dX3_requireRange_13 dX3_requireRange_14 dX3_requireRange_16 dX3_requireRange_19 ?_
      exact ⟨rfl, rfl, by omega⟩
set_option maxRecDepth 20000 in
theorem w_X3_requirePartner_k196 : Cond.classLink RX3 196 nIOE ∈ wsX3_requirePartner := by decide +kernel
set_option maxRecDepth 20000 in
theorem w_X3_requirePartner_i196 : Cond.initialized nIOE ∈ wsX3_requirePartner := by decide +kernel
set_option maxHeartbeats 4000000 in
set_option maxRecDepth 100000 in
theorem c_X3_requirePartner {l : Launch} (hfl : l.stackTraces = false) {cy : Nat → ClassId} {D : va_G} {ad : Ad} (hI : Inj ad) (σ : Sg) (q : Int) (hq : I32 q) : XV l yX3_requirePartner wsX3_requirePartner ({ frames := 6, cells := 1, slots := 6, locals := 82 } : Room) cy D ad σ [.ref (ad 0 0), .int (iI q)] (fun σ' => σ' = σ ∧ (0 ≤ q ∧ q < 5)) (fun E σ' => E = nIOE ∧ σ' = σ ∧ ¬ (0 ≤ q ∧ q < 5)) 1 6 := by
  refine XV.of (lv0 := [some (.ref (ad 0 0)), some (.int (iI q))]) hfl hI (by decide) rfl (Nat.le_of_ble_eq_true rfl) rfl ?_
  intro p e s m args below meth c C hr hT
  refine J_iload_1 C dX3_requirePartner_0 ?_
  refine J_if_lt (tgt := 9) C (by omega) dX3_requirePartner_1 (by decide) (fun c_1 => ?_) (fun c_1 => ?_)
  · refine J_throw_IOE (text := "there is no such partner") C hT w_X3_requirePartner_k196 w_X3_requirePartner_i196 (by decide +kernel) (by decide) (by decide) (by decide) (by decide) ⟨by decide, by decide⟩ dX3_requirePartner_9 dX3_requirePartner_12 dX3_requirePartner_13 dX3_requirePartner_15 dX3_requirePartner_18 ?_
    exact ⟨rfl, rfl, by omega⟩
  · refine J_iload_1 C dX3_requirePartner_4 ?_
    refine J_iconst C dX3_requirePartner_5 ?_
    refine J_icmp_lt (tgt := 19) C (by omega) (by omega) dX3_requirePartner_6 (by decide) (fun c_6 => ?_) (fun c_6 => ?_)
    · refine J_vx ?_
      refine J_retV C hr (by decide) (by decide) dX3_requirePartner_19 ?_
      exact ⟨rfl, by omega⟩
    · refine J_throw_IOE (text := "there is no such partner") C hT w_X3_requirePartner_k196 w_X3_requirePartner_i196 (by decide +kernel) (by decide) (by decide) (by decide) (by decide) ⟨by decide, by decide⟩ dX3_requirePartner_9 dX3_requirePartner_12 dX3_requirePartner_13 dX3_requirePartner_15 dX3_requirePartner_18 ?_
      exact ⟨rfl, rfl, by omega⟩
set_option maxRecDepth 20000 in
theorem w_X3_requireWell_k196 : Cond.classLink RX3 196 nIOE ∈ wsX3_requireWell := by decide +kernel
set_option maxRecDepth 20000 in
theorem w_X3_requireWell_i196 : Cond.initialized nIOE ∈ wsX3_requireWell := by decide +kernel
set_option maxRecDepth 20000 in
theorem in_X3_requireWell_X3 : ∀ w ∈ wsX30, w ∈ wsX3_requireWell := by decide +kernel
set_option maxRecDepth 20000 in
theorem fl_X3_requireWell_26 : Cond.fieldLink RX3 26 "JointVenture" "wellCount" "I" ∈ wsX3_requireWell := by decide +kernel
set_option maxHeartbeats 4000000 in
set_option maxRecDepth 100000 in
theorem c_X3_requireWell {l : Launch} (hfl : l.stackTraces = false) {cy : Nat → ClassId} {D : va_G} {ad : Ad} (hI : Inj ad) (σ : Sg) (w : Int) (hwc : 0 ≤ σ 0 0 4 ∧ σ 0 0 4 ≤ 6) (hw9 : I32 w) : XV l yX3_requireWell wsX3_requireWell ({ frames := 6, cells := 1, slots := 6, locals := 82 } : Room) cy D ad σ [.ref (ad 0 0), .int (iI w)] (fun σ' => σ' = σ ∧ (0 ≤ w ∧ w < σ 0 0 4)) (fun E σ' => E = nIOE ∧ σ' = σ ∧ ¬ (0 ≤ w ∧ w < σ 0 0 4)) 1 6 := by
  refine XV.of (lv0 := [some (.ref (ad 0 0)), some (.int (iI w))]) hfl hI (by decide) rfl (Nat.le_of_ble_eq_true rfl) rfl ?_
  intro p e s m args below meth c C hr hT
  refine J_iload_1 C dX3_requireWell_0 ?_
  refine J_if_lt (tgt := 12) C (by omega) dX3_requireWell_1 (by decide) (fun c_1 => ?_) (fun c_1 => ?_)
  · refine J_throw_IOE (text := "there is no such well") C hT w_X3_requireWell_k196 w_X3_requireWell_i196 (by decide +kernel) (by decide) (by decide) (by decide) (by decide) ⟨by decide, by decide⟩ dX3_requireWell_12 dX3_requireWell_15 dX3_requireWell_16 dX3_requireWell_18 dX3_requireWell_21 ?_
    exact ⟨rfl, rfl, by omega⟩
  · refine J_iload_1 C dX3_requireWell_4 ?_
    refine J_aload_0 C dX3_requireWell_5 ?_
    refine J_get_3_4 C in_X3_requireWell_X3 fl_X3_requireWell_26 (by decide) dX3_requireWell_6 ?_
    refine J_icmp_lt (tgt := 22) C (by omega) (by omega) dX3_requireWell_9 (by decide) (fun c_9 => ?_) (fun c_9 => ?_)
    · refine J_vx ?_
      refine J_retV C hr (by decide) (by decide) dX3_requireWell_22 ?_
      exact ⟨rfl, by omega⟩
    · refine J_throw_IOE (text := "there is no such well") C hT w_X3_requireWell_k196 w_X3_requireWell_i196 (by decide +kernel) (by decide) (by decide) (by decide) (by decide) ⟨by decide, by decide⟩ dX3_requireWell_12 dX3_requireWell_15 dX3_requireWell_16 dX3_requireWell_18 dX3_requireWell_21 ?_
      exact ⟨rfl, rfl, by omega⟩
set_option maxRecDepth 20000 in
theorem w_X3_requireVoucher_k196 : Cond.classLink RX3 196 nIOE ∈ wsX3_requireVoucher := by decide +kernel
set_option maxRecDepth 20000 in
theorem w_X3_requireVoucher_i196 : Cond.initialized nIOE ∈ wsX3_requireVoucher := by decide +kernel
set_option maxRecDepth 20000 in
theorem in_X3_requireVoucher_X3 : ∀ w ∈ wsX30, w ∈ wsX3_requireVoucher := by decide +kernel
set_option maxRecDepth 20000 in
theorem fl_X3_requireVoucher_35 : Cond.fieldLink RX3 35 "JointVenture" "voucherCount" "I" ∈ wsX3_requireVoucher := by decide +kernel
set_option maxHeartbeats 4000000 in
set_option maxRecDepth 100000 in
theorem c_X3_requireVoucher {l : Launch} (hfl : l.stackTraces = false) {cy : Nat → ClassId} {D : va_G} {ad : Ad} (hI : Inj ad) (σ : Sg) (v : Int) (hvc : 0 ≤ σ 0 0 7 ∧ σ 0 0 7 ≤ 60) (hv9 : I32 v) : XV l yX3_requireVoucher wsX3_requireVoucher ({ frames := 6, cells := 1, slots := 6, locals := 82 } : Room) cy D ad σ [.ref (ad 0 0), .int (iI v)] (fun σ' => σ' = σ ∧ (0 ≤ v ∧ v < σ 0 0 7)) (fun E σ' => E = nIOE ∧ σ' = σ ∧ ¬ (0 ≤ v ∧ v < σ 0 0 7)) 1 6 := by
  refine XV.of (lv0 := [some (.ref (ad 0 0)), some (.int (iI v))]) hfl hI (by decide) rfl (Nat.le_of_ble_eq_true rfl) rfl ?_
  intro p e s m args below meth c C hr hT
  refine J_iload_1 C dX3_requireVoucher_0 ?_
  refine J_if_lt (tgt := 12) C (by omega) dX3_requireVoucher_1 (by decide) (fun c_1 => ?_) (fun c_1 => ?_)
  · refine J_throw_IOE (text := "there is no such voucher") C hT w_X3_requireVoucher_k196 w_X3_requireVoucher_i196 (by decide +kernel) (by decide) (by decide) (by decide) (by decide) ⟨by decide, by decide⟩ dX3_requireVoucher_12 dX3_requireVoucher_15 dX3_requireVoucher_16 dX3_requireVoucher_18 dX3_requireVoucher_21 ?_
    exact ⟨rfl, rfl, by omega⟩
  · refine J_iload_1 C dX3_requireVoucher_4 ?_
    refine J_aload_0 C dX3_requireVoucher_5 ?_
    refine J_get_3_7 C in_X3_requireVoucher_X3 fl_X3_requireVoucher_35 (by decide) dX3_requireVoucher_6 ?_
    refine J_icmp_lt (tgt := 22) C (by omega) (by omega) dX3_requireVoucher_9 (by decide) (fun c_9 => ?_) (fun c_9 => ?_)
    · refine J_vx ?_
      refine J_retV C hr (by decide) (by decide) dX3_requireVoucher_22 ?_
      exact ⟨rfl, by omega⟩
    · refine J_throw_IOE (text := "there is no such voucher") C hT w_X3_requireVoucher_k196 w_X3_requireVoucher_i196 (by decide +kernel) (by decide) (by decide) (by decide) (by decide) ⟨by decide, by decide⟩ dX3_requireVoucher_12 dX3_requireVoucher_15 dX3_requireVoucher_16 dX3_requireVoucher_18 dX3_requireVoucher_21 ?_
      exact ⟨rfl, rfl, by omega⟩
set_option maxRecDepth 20000 in
theorem w_X3_requireCashCall_k196 : Cond.classLink RX3 196 nIOE ∈ wsX3_requireCashCall := by decide +kernel
set_option maxRecDepth 20000 in
theorem w_X3_requireCashCall_i196 : Cond.initialized nIOE ∈ wsX3_requireCashCall := by decide +kernel
set_option maxRecDepth 20000 in
theorem in_X3_requireCashCall_X3 : ∀ w ∈ wsX30, w ∈ wsX3_requireCashCall := by decide +kernel
set_option maxRecDepth 20000 in
theorem fl_X3_requireCashCall_44 : Cond.fieldLink RX3 44 "JointVenture" "cashCallCount" "I" ∈ wsX3_requireCashCall := by decide +kernel
set_option maxHeartbeats 4000000 in
set_option maxRecDepth 100000 in
theorem c_X3_requireCashCall {l : Launch} (hfl : l.stackTraces = false) {cy : Nat → ClassId} {D : va_G} {ad : Ad} (hI : Inj ad) (σ : Sg) (k9 : Int) (hcc : 0 ≤ σ 0 0 9 ∧ σ 0 0 9 ≤ 20) (hk9 : I32 k9) : XV l yX3_requireCashCall wsX3_requireCashCall ({ frames := 6, cells := 1, slots := 6, locals := 82 } : Room) cy D ad σ [.ref (ad 0 0), .int (iI k9)] (fun σ' => σ' = σ ∧ (0 ≤ k9 ∧ k9 < σ 0 0 9)) (fun E σ' => E = nIOE ∧ σ' = σ ∧ ¬ (0 ≤ k9 ∧ k9 < σ 0 0 9)) 1 6 := by
  refine XV.of (lv0 := [some (.ref (ad 0 0)), some (.int (iI k9))]) hfl hI (by decide) rfl (Nat.le_of_ble_eq_true rfl) rfl ?_
  intro p e s m args below meth c C hr hT
  refine J_iload_1 C dX3_requireCashCall_0 ?_
  refine J_if_lt (tgt := 12) C (by omega) dX3_requireCashCall_1 (by decide) (fun c_1 => ?_) (fun c_1 => ?_)
  · refine J_throw_IOE (text := "there is no such call") C hT w_X3_requireCashCall_k196 w_X3_requireCashCall_i196 (by decide +kernel) (by decide) (by decide) (by decide) (by decide) ⟨by decide, by decide⟩ dX3_requireCashCall_12 dX3_requireCashCall_15 dX3_requireCashCall_16 dX3_requireCashCall_18 dX3_requireCashCall_21 ?_
    exact ⟨rfl, rfl, by omega⟩
  · refine J_iload_1 C dX3_requireCashCall_4 ?_
    refine J_aload_0 C dX3_requireCashCall_5 ?_
    refine J_get_3_9 C in_X3_requireCashCall_X3 fl_X3_requireCashCall_44 (by decide) dX3_requireCashCall_6 ?_
    refine J_icmp_lt (tgt := 22) C (by omega) (by omega) dX3_requireCashCall_9 (by decide) (fun c_9 => ?_) (fun c_9 => ?_)
    · refine J_vx ?_
      refine J_retV C hr (by decide) (by decide) dX3_requireCashCall_22 ?_
      exact ⟨rfl, by omega⟩
    · refine J_throw_IOE (text := "there is no such call") C hT w_X3_requireCashCall_k196 w_X3_requireCashCall_i196 (by decide +kernel) (by decide) (by decide) (by decide) (by decide) ⟨by decide, by decide⟩ dX3_requireCashCall_12 dX3_requireCashCall_15 dX3_requireCashCall_16 dX3_requireCashCall_18 dX3_requireCashCall_21 ?_
      exact ⟨rfl, rfl, by omega⟩
set_option maxRecDepth 20000 in
theorem in_X3_requireRoomForVoucher_X3 : ∀ w ∈ wsX30, w ∈ wsX3_requireRoomForVoucher := by decide +kernel
set_option maxRecDepth 20000 in
theorem fl_X3_requireRoomForVoucher_35 : Cond.fieldLink RX3 35 "JointVenture" "voucherCount" "I" ∈ wsX3_requireRoomForVoucher := by decide +kernel
set_option maxRecDepth 20000 in
theorem w_X3_requireRoomForVoucher_k79 : Cond.classLink RX3 79 nISE ∈ wsX3_requireRoomForVoucher := by decide +kernel
set_option maxRecDepth 20000 in
theorem w_X3_requireRoomForVoucher_i79 : Cond.initialized nISE ∈ wsX3_requireRoomForVoucher := by decide +kernel
set_option maxHeartbeats 4000000 in
set_option maxRecDepth 100000 in
theorem c_X3_requireRoomForVoucher {l : Launch} (hfl : l.stackTraces = false) {cy : Nat → ClassId} {D : va_G} {ad : Ad} (hI : Inj ad) (σ : Sg) (hvc : 0 ≤ σ 0 0 7 ∧ σ 0 0 7 ≤ 60) : XV l yX3_requireRoomForVoucher wsX3_requireRoomForVoucher ({ frames := 6, cells := 1, slots := 6, locals := 82 } : Room) cy D ad σ [.ref (ad 0 0)] (fun σ' => σ' = σ ∧ (σ 0 0 7 < 60)) (fun E σ' => E = nISE ∧ σ' = σ ∧ ¬ (σ 0 0 7 < 60)) 1 6 := by
  refine XV.of (lv0 := [some (.ref (ad 0 0))]) hfl hI (by decide) rfl (Nat.le_of_ble_eq_true rfl) rfl ?_
  intro p e s m args below meth c C hr hT
  refine J_aload_0 C dX3_requireRoomForVoucher_0 ?_
  refine J_get_3_7 C in_X3_requireRoomForVoucher_X3 fl_X3_requireRoomForVoucher_35 (by decide) dX3_requireRoomForVoucher_1 ?_
  refine J_bipush C (by decide) dX3_requireRoomForVoucher_4 ?_
  refine J_icmp_lt (tgt := 19) C (by omega) (by omega) dX3_requireRoomForVoucher_6 (by decide) (fun c_6 => ?_) (fun c_6 => ?_)
  · refine J_vx ?_
    refine J_retV C hr (by decide) (by decide) dX3_requireRoomForVoucher_19 ?_
    exact ⟨rfl, by omega⟩
  · refine J_throw_ISE (text := "there are 60 vouchers") C hT w_X3_requireRoomForVoucher_k79 w_X3_requireRoomForVoucher_i79 (by decide +kernel) (by decide) (by decide) (by decide) (by decide) ⟨by decide, by decide⟩ dX3_requireRoomForVoucher_9 dX3_requireRoomForVoucher_12 dX3_requireRoomForVoucher_13 dX3_requireRoomForVoucher_15 dX3_requireRoomForVoucher_18 ?_
    exact ⟨rfl, rfl, by omega⟩
set_option maxRecDepth 20000 in
theorem in_X3_toEarn_X3 : ∀ w ∈ wsX30, w ∈ wsX3_toEarn := by decide +kernel
set_option maxRecDepth 20000 in
theorem fl_X3_toEarn_22 : Cond.fieldLink RX3 22 "JointVenture" "wells" "[LJointVenture$Well;" ∈ wsX3_toEarn := by decide +kernel
set_option maxRecDepth 20000 in
theorem in_X3_toEarn_X2 : ∀ w ∈ wsX20, w ∈ wsX3_toEarn := by decide +kernel
set_option maxRecDepth 20000 in
theorem fl_X3_toEarn_140 : Cond.fieldLink RX3 140 "JointVenture$Well" "toEarn" "[J" ∈ wsX3_toEarn := by decide +kernel
set_option maxHeartbeats 4000000 in
set_option maxRecDepth 100000 in
theorem c_X3_toEarn {l : Launch} (hfl : l.stackTraces = false) {cy : Nat → ClassId} {D : va_G} {ad : Ad} (hI : Inj ad) (σ : Sg) (w q : Int) (hwc : 0 ≤ σ 0 0 4 ∧ σ 0 0 4 ≤ 6) (hw9 : I32 w) (hq9 : I32 q) : XL l yX3_toEarn wsX3_toEarn ({ frames := 7, cells := 6, slots := 36, locals := 103 } : Room) cy D ad σ [.ref (ad 0 0), .int (iI w), .int (iI q)] (fun z σ' => z = σ 15 w q ∧ σ' = σ ∧ (0 ≤ w ∧ w < σ 0 0 4) ∧ (0 ≤ q ∧ q < 5)) (fun E σ' => σ' = σ ∧ E = nIOE ∧ ¬ ((0 ≤ w ∧ w < σ 0 0 4) ∧ (0 ≤ q ∧ q < 5))) 6 36 := by
  refine XL.of (lv0 := [some (.ref (ad 0 0)), some (.int (iI w)), some (.int (iI q))]) hfl hI (by decide) rfl (Nat.le_of_ble_eq_true rfl) rfl ?_
  intro p e s m args below meth c C hr hT
  refine J_aload_0 C dX3_toEarn_0 ?_
  refine J_iload_1 C dX3_toEarn_1 ?_
  refine J_XVV C (c_X3_requireWell hfl hI _ w hwc hw9) (cwV 1 C.1.2.2.2.2 gX3_toEarn_X3_requireWell rfl rfl rfl (by decide +kernel) ⟨Nat.le_of_ble_eq_true rfl, Nat.le_of_ble_eq_true rfl⟩) rc3 (by decide) rfl rfl (Nat.le_of_ble_eq_true rfl) dX3_toEarn_2 ⟨Nat.le_of_ble_eq_true rfl, Nat.le_of_ble_eq_true rfl⟩ (fun E σ_2 hx => ?_) (fun σ_2 hp => ?_)
  · skip
    obtain ⟨rfl, hs_, hn_⟩ := hx
    have hs_ := hs_.symm
    subst hs_
    refine J_out C hT (by decide) (by decide) ?_
    refine ⟨rfl, ?_⟩
    first
      | exact ⟨rfl, by omega⟩
      | exact Or.inl ⟨rfl, by omega⟩
      | exact Or.inr ⟨rfl, by omega⟩
      | exact Or.inr (Or.inl ⟨rfl, by omega⟩)
      | exact Or.inr (Or.inr ⟨rfl, by omega⟩)
  obtain ⟨hs_, hw⟩ := hp
  have hs_ := hs_.symm
  subst hs_
  refine J_aload_0 C dX3_toEarn_5 ?_
  refine J_iload_2 C dX3_toEarn_6 ?_
  refine J_XVV C (c_X3_requirePartner hfl hI _ q hq9) (cwV 1 C.1.2.2.2.2 gX3_toEarn_X3_requirePartner rfl rfl rfl (by decide +kernel) ⟨Nat.le_of_ble_eq_true rfl, Nat.le_of_ble_eq_true rfl⟩) rc3 (by decide) rfl rfl (Nat.le_of_ble_eq_true rfl) dX3_toEarn_7 ⟨Nat.le_of_ble_eq_true rfl, Nat.le_of_ble_eq_true rfl⟩ (fun E σ_7 hx => ?_) (fun σ_7 hp => ?_)
  · skip
    obtain ⟨rfl, hs_, hn_⟩ := hx
    have hs_ := hs_.symm
    subst hs_
    refine J_out C hT (by decide) (by decide) ?_
    refine ⟨rfl, ?_⟩
    first
      | exact ⟨rfl, by omega⟩
      | exact Or.inl ⟨rfl, by omega⟩
      | exact Or.inr ⟨rfl, by omega⟩
      | exact Or.inr (Or.inl ⟨rfl, by omega⟩)
      | exact Or.inr (Or.inr ⟨rfl, by omega⟩)
  obtain ⟨hs_, hq⟩ := hp
  have hs_ := hs_.symm
  subst hs_
  refine J_aload_0 C dX3_toEarn_10 ?_
  refine J_get_3_3 C in_X3_toEarn_X3 fl_X3_toEarn_22 (by decide) dX3_toEarn_11 ?_
  refine J_iload_1 C dX3_toEarn_14 ?_
  refine J_aaloadW C (by omega) dX3_toEarn_15 ?_
  refine J_get_2_4 C in_X3_toEarn_X2 fl_X3_toEarn_140 ⟨by omega, by show w < 6; omega⟩ dX3_toEarn_16 ?_
  refine J_iload_2 C dX3_toEarn_19 ?_
  refine J_laload C k15 ⟨by omega, by show w < 6; omega⟩ (by omega) dX3_toEarn_20 ?_
  refine J_vx ?_
  refine J_retL C hr (by decide) (by decide) dX3_toEarn_21 ?_
  exact ⟨rfl, rfl, hw, hq⟩
set_option maxRecDepth 20000 in
theorem in_X3_backAt_X3 : ∀ w ∈ wsX30, w ∈ wsX3_backAt := by decide +kernel
set_option maxRecDepth 20000 in
theorem fl_X3_backAt_22 : Cond.fieldLink RX3 22 "JointVenture" "wells" "[LJointVenture$Well;" ∈ wsX3_backAt := by decide +kernel
set_option maxRecDepth 20000 in
theorem in_X3_backAt_X2 : ∀ w ∈ wsX20, w ∈ wsX3_backAt := by decide +kernel
set_option maxRecDepth 20000 in
theorem fl_X3_backAt_144 : Cond.fieldLink RX3 144 "JointVenture$Well" "backAt" "[I" ∈ wsX3_backAt := by decide +kernel
set_option maxHeartbeats 4000000 in
set_option maxRecDepth 100000 in
theorem c_X3_backAt {l : Launch} (hfl : l.stackTraces = false) {cy : Nat → ClassId} {D : va_G} {ad : Ad} (hI : Inj ad) (σ : Sg) (w q : Int) (hwc : 0 ≤ σ 0 0 4 ∧ σ 0 0 4 ≤ 6) (hw9 : I32 w) (hq9 : I32 q) : XI l yX3_backAt wsX3_backAt ({ frames := 7, cells := 6, slots := 36, locals := 103 } : Room) cy D ad σ [.ref (ad 0 0), .int (iI w), .int (iI q)] (fun z σ' => z = σ 16 w q ∧ σ' = σ ∧ (0 ≤ w ∧ w < σ 0 0 4) ∧ (0 ≤ q ∧ q < 5)) (fun E σ' => σ' = σ ∧ E = nIOE ∧ ¬ ((0 ≤ w ∧ w < σ 0 0 4) ∧ (0 ≤ q ∧ q < 5))) 6 36 := by
  refine XI.of (lv0 := [some (.ref (ad 0 0)), some (.int (iI w)), some (.int (iI q))]) hfl hI (by decide) rfl (Nat.le_of_ble_eq_true rfl) rfl ?_
  intro p e s m args below meth c C hr hT
  refine J_aload_0 C dX3_backAt_0 ?_
  refine J_iload_1 C dX3_backAt_1 ?_
  refine J_XVV C (c_X3_requireWell hfl hI _ w hwc hw9) (cwV 1 C.1.2.2.2.2 gX3_backAt_X3_requireWell rfl rfl rfl (by decide +kernel) ⟨Nat.le_of_ble_eq_true rfl, Nat.le_of_ble_eq_true rfl⟩) rc3 (by decide) rfl rfl (Nat.le_of_ble_eq_true rfl) dX3_backAt_2 ⟨Nat.le_of_ble_eq_true rfl, Nat.le_of_ble_eq_true rfl⟩ (fun E σ_2 hx => ?_) (fun σ_2 hp => ?_)
  · skip
    obtain ⟨rfl, hs_, hn_⟩ := hx
    have hs_ := hs_.symm
    subst hs_
    refine J_out C hT (by decide) (by decide) ?_
    refine ⟨rfl, ?_⟩
    first
      | exact ⟨rfl, by omega⟩
      | exact Or.inl ⟨rfl, by omega⟩
      | exact Or.inr ⟨rfl, by omega⟩
      | exact Or.inr (Or.inl ⟨rfl, by omega⟩)
      | exact Or.inr (Or.inr ⟨rfl, by omega⟩)
  obtain ⟨hs_, hw⟩ := hp
  have hs_ := hs_.symm
  subst hs_
  refine J_aload_0 C dX3_backAt_5 ?_
  refine J_iload_2 C dX3_backAt_6 ?_
  refine J_XVV C (c_X3_requirePartner hfl hI _ q hq9) (cwV 1 C.1.2.2.2.2 gX3_backAt_X3_requirePartner rfl rfl rfl (by decide +kernel) ⟨Nat.le_of_ble_eq_true rfl, Nat.le_of_ble_eq_true rfl⟩) rc3 (by decide) rfl rfl (Nat.le_of_ble_eq_true rfl) dX3_backAt_7 ⟨Nat.le_of_ble_eq_true rfl, Nat.le_of_ble_eq_true rfl⟩ (fun E σ_7 hx => ?_) (fun σ_7 hp => ?_)
  · skip
    obtain ⟨rfl, hs_, hn_⟩ := hx
    have hs_ := hs_.symm
    subst hs_
    refine J_out C hT (by decide) (by decide) ?_
    refine ⟨rfl, ?_⟩
    first
      | exact ⟨rfl, by omega⟩
      | exact Or.inl ⟨rfl, by omega⟩
      | exact Or.inr ⟨rfl, by omega⟩
      | exact Or.inr (Or.inl ⟨rfl, by omega⟩)
      | exact Or.inr (Or.inr ⟨rfl, by omega⟩)
  obtain ⟨hs_, hq⟩ := hp
  have hs_ := hs_.symm
  subst hs_
  refine J_aload_0 C dX3_backAt_10 ?_
  refine J_get_3_3 C in_X3_backAt_X3 fl_X3_backAt_22 (by decide) dX3_backAt_11 ?_
  refine J_iload_1 C dX3_backAt_14 ?_
  refine J_aaloadW C (by omega) dX3_backAt_15 ?_
  refine J_get_2_5 C in_X3_backAt_X2 fl_X3_backAt_144 ⟨by omega, by show w < 6; omega⟩ dX3_backAt_16 ?_
  refine J_iload_2 C dX3_backAt_19 ?_
  refine J_iaload C k16 ⟨by omega, by show w < 6; omega⟩ (by omega) dX3_backAt_20 ?_
  refine J_vx ?_
  refine J_retI C hr (by decide) (by decide) dX3_backAt_21 ?_
  exact ⟨rfl, rfl, hw, hq⟩
set_option maxRecDepth 20000 in
theorem in_X3_charged_X3 : ∀ w ∈ wsX30, w ∈ wsX3_charged := by decide +kernel
set_option maxRecDepth 20000 in
theorem fl_X3_charged_22 : Cond.fieldLink RX3 22 "JointVenture" "wells" "[LJointVenture$Well;" ∈ wsX3_charged := by decide +kernel
set_option maxRecDepth 20000 in
theorem in_X3_charged_X2 : ∀ w ∈ wsX20, w ∈ wsX3_charged := by decide +kernel
set_option maxRecDepth 20000 in
theorem fl_X3_charged_147 : Cond.fieldLink RX3 147 "JointVenture$Well" "charged" "[I" ∈ wsX3_charged := by decide +kernel
set_option maxHeartbeats 4000000 in
set_option maxRecDepth 100000 in
theorem c_X3_charged {l : Launch} (hfl : l.stackTraces = false) {cy : Nat → ClassId} {D : va_G} {ad : Ad} (hI : Inj ad) (σ : Sg) (w q : Int) (hwc : 0 ≤ σ 0 0 4 ∧ σ 0 0 4 ≤ 6) (hw9 : I32 w) (hq9 : I32 q) : XI l yX3_charged wsX3_charged ({ frames := 7, cells := 6, slots := 36, locals := 103 } : Room) cy D ad σ [.ref (ad 0 0), .int (iI w), .int (iI q)] (fun z σ' => z = σ 17 w q ∧ σ' = σ ∧ (0 ≤ w ∧ w < σ 0 0 4) ∧ (0 ≤ q ∧ q < 5)) (fun E σ' => σ' = σ ∧ E = nIOE ∧ ¬ ((0 ≤ w ∧ w < σ 0 0 4) ∧ (0 ≤ q ∧ q < 5))) 6 36 := by
  refine XI.of (lv0 := [some (.ref (ad 0 0)), some (.int (iI w)), some (.int (iI q))]) hfl hI (by decide) rfl (Nat.le_of_ble_eq_true rfl) rfl ?_
  intro p e s m args below meth c C hr hT
  refine J_aload_0 C dX3_charged_0 ?_
  refine J_iload_1 C dX3_charged_1 ?_
  refine J_XVV C (c_X3_requireWell hfl hI _ w hwc hw9) (cwV 1 C.1.2.2.2.2 gX3_charged_X3_requireWell rfl rfl rfl (by decide +kernel) ⟨Nat.le_of_ble_eq_true rfl, Nat.le_of_ble_eq_true rfl⟩) rc3 (by decide) rfl rfl (Nat.le_of_ble_eq_true rfl) dX3_charged_2 ⟨Nat.le_of_ble_eq_true rfl, Nat.le_of_ble_eq_true rfl⟩ (fun E σ_2 hx => ?_) (fun σ_2 hp => ?_)
  · skip
    obtain ⟨rfl, hs_, hn_⟩ := hx
    have hs_ := hs_.symm
    subst hs_
    refine J_out C hT (by decide) (by decide) ?_
    refine ⟨rfl, ?_⟩
    first
      | exact ⟨rfl, by omega⟩
      | exact Or.inl ⟨rfl, by omega⟩
      | exact Or.inr ⟨rfl, by omega⟩
      | exact Or.inr (Or.inl ⟨rfl, by omega⟩)
      | exact Or.inr (Or.inr ⟨rfl, by omega⟩)
  obtain ⟨hs_, hw⟩ := hp
  have hs_ := hs_.symm
  subst hs_
  refine J_aload_0 C dX3_charged_5 ?_
  refine J_iload_2 C dX3_charged_6 ?_
  refine J_XVV C (c_X3_requirePartner hfl hI _ q hq9) (cwV 1 C.1.2.2.2.2 gX3_charged_X3_requirePartner rfl rfl rfl (by decide +kernel) ⟨Nat.le_of_ble_eq_true rfl, Nat.le_of_ble_eq_true rfl⟩) rc3 (by decide) rfl rfl (Nat.le_of_ble_eq_true rfl) dX3_charged_7 ⟨Nat.le_of_ble_eq_true rfl, Nat.le_of_ble_eq_true rfl⟩ (fun E σ_7 hx => ?_) (fun σ_7 hp => ?_)
  · skip
    obtain ⟨rfl, hs_, hn_⟩ := hx
    have hs_ := hs_.symm
    subst hs_
    refine J_out C hT (by decide) (by decide) ?_
    refine ⟨rfl, ?_⟩
    first
      | exact ⟨rfl, by omega⟩
      | exact Or.inl ⟨rfl, by omega⟩
      | exact Or.inr ⟨rfl, by omega⟩
      | exact Or.inr (Or.inl ⟨rfl, by omega⟩)
      | exact Or.inr (Or.inr ⟨rfl, by omega⟩)
  obtain ⟨hs_, hq⟩ := hp
  have hs_ := hs_.symm
  subst hs_
  refine J_aload_0 C dX3_charged_10 ?_
  refine J_get_3_3 C in_X3_charged_X3 fl_X3_charged_22 (by decide) dX3_charged_11 ?_
  refine J_iload_1 C dX3_charged_14 ?_
  refine J_aaloadW C (by omega) dX3_charged_15 ?_
  refine J_get_2_6 C in_X3_charged_X2 fl_X3_charged_147 ⟨by omega, by show w < 6; omega⟩ dX3_charged_16 ?_
  refine J_iload_2 C dX3_charged_19 ?_
  refine J_iaload C k17 ⟨by omega, by show w < 6; omega⟩ (by omega) dX3_charged_20 ?_
  refine J_vx ?_
  refine J_retI C hr (by decide) (by decide) dX3_charged_21 ?_
  exact ⟨rfl, rfl, hw, hq⟩
set_option maxRecDepth 20000 in
theorem in_X3_credited_X3 : ∀ w ∈ wsX30, w ∈ wsX3_credited := by decide +kernel
set_option maxRecDepth 20000 in
theorem fl_X3_credited_22 : Cond.fieldLink RX3 22 "JointVenture" "wells" "[LJointVenture$Well;" ∈ wsX3_credited := by decide +kernel
set_option maxRecDepth 20000 in
theorem in_X3_credited_X2 : ∀ w ∈ wsX20, w ∈ wsX3_credited := by decide +kernel
set_option maxRecDepth 20000 in
theorem fl_X3_credited_150 : Cond.fieldLink RX3 150 "JointVenture$Well" "credited" "[I" ∈ wsX3_credited := by decide +kernel
set_option maxHeartbeats 4000000 in
set_option maxRecDepth 100000 in
theorem c_X3_credited {l : Launch} (hfl : l.stackTraces = false) {cy : Nat → ClassId} {D : va_G} {ad : Ad} (hI : Inj ad) (σ : Sg) (w q : Int) (hwc : 0 ≤ σ 0 0 4 ∧ σ 0 0 4 ≤ 6) (hw9 : I32 w) (hq9 : I32 q) : XI l yX3_credited wsX3_credited ({ frames := 7, cells := 6, slots := 36, locals := 103 } : Room) cy D ad σ [.ref (ad 0 0), .int (iI w), .int (iI q)] (fun z σ' => z = σ 18 w q ∧ σ' = σ ∧ (0 ≤ w ∧ w < σ 0 0 4) ∧ (0 ≤ q ∧ q < 5)) (fun E σ' => σ' = σ ∧ E = nIOE ∧ ¬ ((0 ≤ w ∧ w < σ 0 0 4) ∧ (0 ≤ q ∧ q < 5))) 6 36 := by
  refine XI.of (lv0 := [some (.ref (ad 0 0)), some (.int (iI w)), some (.int (iI q))]) hfl hI (by decide) rfl (Nat.le_of_ble_eq_true rfl) rfl ?_
  intro p e s m args below meth c C hr hT
  refine J_aload_0 C dX3_credited_0 ?_
  refine J_iload_1 C dX3_credited_1 ?_
  refine J_XVV C (c_X3_requireWell hfl hI _ w hwc hw9) (cwV 1 C.1.2.2.2.2 gX3_credited_X3_requireWell rfl rfl rfl (by decide +kernel) ⟨Nat.le_of_ble_eq_true rfl, Nat.le_of_ble_eq_true rfl⟩) rc3 (by decide) rfl rfl (Nat.le_of_ble_eq_true rfl) dX3_credited_2 ⟨Nat.le_of_ble_eq_true rfl, Nat.le_of_ble_eq_true rfl⟩ (fun E σ_2 hx => ?_) (fun σ_2 hp => ?_)
  · skip
    obtain ⟨rfl, hs_, hn_⟩ := hx
    have hs_ := hs_.symm
    subst hs_
    refine J_out C hT (by decide) (by decide) ?_
    refine ⟨rfl, ?_⟩
    first
      | exact ⟨rfl, by omega⟩
      | exact Or.inl ⟨rfl, by omega⟩
      | exact Or.inr ⟨rfl, by omega⟩
      | exact Or.inr (Or.inl ⟨rfl, by omega⟩)
      | exact Or.inr (Or.inr ⟨rfl, by omega⟩)
  obtain ⟨hs_, hw⟩ := hp
  have hs_ := hs_.symm
  subst hs_
  refine J_aload_0 C dX3_credited_5 ?_
  refine J_iload_2 C dX3_credited_6 ?_
  refine J_XVV C (c_X3_requirePartner hfl hI _ q hq9) (cwV 1 C.1.2.2.2.2 gX3_credited_X3_requirePartner rfl rfl rfl (by decide +kernel) ⟨Nat.le_of_ble_eq_true rfl, Nat.le_of_ble_eq_true rfl⟩) rc3 (by decide) rfl rfl (Nat.le_of_ble_eq_true rfl) dX3_credited_7 ⟨Nat.le_of_ble_eq_true rfl, Nat.le_of_ble_eq_true rfl⟩ (fun E σ_7 hx => ?_) (fun σ_7 hp => ?_)
  · skip
    obtain ⟨rfl, hs_, hn_⟩ := hx
    have hs_ := hs_.symm
    subst hs_
    refine J_out C hT (by decide) (by decide) ?_
    refine ⟨rfl, ?_⟩
    first
      | exact ⟨rfl, by omega⟩
      | exact Or.inl ⟨rfl, by omega⟩
      | exact Or.inr ⟨rfl, by omega⟩
      | exact Or.inr (Or.inl ⟨rfl, by omega⟩)
      | exact Or.inr (Or.inr ⟨rfl, by omega⟩)
  obtain ⟨hs_, hq⟩ := hp
  have hs_ := hs_.symm
  subst hs_
  refine J_aload_0 C dX3_credited_10 ?_
  refine J_get_3_3 C in_X3_credited_X3 fl_X3_credited_22 (by decide) dX3_credited_11 ?_
  refine J_iload_1 C dX3_credited_14 ?_
  refine J_aaloadW C (by omega) dX3_credited_15 ?_
  refine J_get_2_7 C in_X3_credited_X2 fl_X3_credited_150 ⟨by omega, by show w < 6; omega⟩ dX3_credited_16 ?_
  refine J_iload_2 C dX3_credited_19 ?_
  refine J_iaload C k18 ⟨by omega, by show w < 6; omega⟩ (by omega) dX3_credited_20 ?_
  refine J_vx ?_
  refine J_retI C hr (by decide) (by decide) dX3_credited_21 ?_
  exact ⟨rfl, rfl, hw, hq⟩
set_option maxRecDepth 20000 in
theorem in_X3_isIn_X3 : ∀ w ∈ wsX30, w ∈ wsX3_isIn := by decide +kernel
set_option maxRecDepth 20000 in
theorem fl_X3_isIn_22 : Cond.fieldLink RX3 22 "JointVenture" "wells" "[LJointVenture$Well;" ∈ wsX3_isIn := by decide +kernel
set_option maxHeartbeats 4000000 in
set_option maxRecDepth 100000 in
theorem c_X3_isIn {l : Launch} (hfl : l.stackTraces = false) {cy : Nat → ClassId} {D : va_G} {ad : Ad} (hI : Inj ad) (σ : Sg) (w q : Int) (hwc : 0 ≤ σ 0 0 4 ∧ σ 0 0 4 ≤ 6) (hw9 : I32 w) (hq9 : I32 q) (hf : ∀ w q, 0 ≤ w → w < 6 → 0 ≤ q → q < 5 → σ 14 w q = 0 ∨ σ 14 w q = 1) (hs : ∀ q, 0 ≤ q → q < 5 → 0 ≤ σ 1 0 q ∧ σ 1 0 q ≤ 10000) : XI l yX3_isIn wsX3_isIn ({ frames := 7, cells := 6, slots := 36, locals := 103 } : Room) cy D ad σ [.ref (ad 0 0), .int (iI w), .int (iI q)] (fun z σ' => z = (if σ 14 w q = 0 ∧ 0 < σ 1 0 q then 1 else 0) ∧ σ' = σ ∧ (0 ≤ w ∧ w < σ 0 0 4) ∧ (0 ≤ q ∧ q < 5)) (fun E σ' => σ' = σ ∧ E = nIOE ∧ ¬ ((0 ≤ w ∧ w < σ 0 0 4) ∧ (0 ≤ q ∧ q < 5))) 6 36 := by
  refine XI.of (lv0 := [some (.ref (ad 0 0)), some (.int (iI w)), some (.int (iI q))]) hfl hI (by decide) rfl (Nat.le_of_ble_eq_true rfl) rfl ?_
  intro p e s m args below meth c C hr hT
  refine J_aload_0 C dX3_isIn_0 ?_
  refine J_iload_1 C dX3_isIn_1 ?_
  refine J_XVV C (c_X3_requireWell hfl hI _ w hwc hw9) (cwV 1 C.1.2.2.2.2 gX3_isIn_X3_requireWell rfl rfl rfl (by decide +kernel) ⟨Nat.le_of_ble_eq_true rfl, Nat.le_of_ble_eq_true rfl⟩) rc3 (by decide) rfl rfl (Nat.le_of_ble_eq_true rfl) dX3_isIn_2 ⟨Nat.le_of_ble_eq_true rfl, Nat.le_of_ble_eq_true rfl⟩ (fun E σ_2 hx => ?_) (fun σ_2 hp => ?_)
  · skip
    obtain ⟨rfl, hs_, hn_⟩ := hx
    have hs_ := hs_.symm
    subst hs_
    refine J_out C hT (by decide) (by decide) ?_
    refine ⟨rfl, ?_⟩
    first
      | exact ⟨rfl, by omega⟩
      | exact Or.inl ⟨rfl, by omega⟩
      | exact Or.inr ⟨rfl, by omega⟩
      | exact Or.inr (Or.inl ⟨rfl, by omega⟩)
      | exact Or.inr (Or.inr ⟨rfl, by omega⟩)
  obtain ⟨hs_, hw⟩ := hp
  have hs_ := hs_.symm
  subst hs_
  refine J_aload_0 C dX3_isIn_5 ?_
  refine J_iload_2 C dX3_isIn_6 ?_
  refine J_XVV C (c_X3_requirePartner hfl hI _ q hq9) (cwV 1 C.1.2.2.2.2 gX3_isIn_X3_requirePartner rfl rfl rfl (by decide +kernel) ⟨Nat.le_of_ble_eq_true rfl, Nat.le_of_ble_eq_true rfl⟩) rc3 (by decide) rfl rfl (Nat.le_of_ble_eq_true rfl) dX3_isIn_7 ⟨Nat.le_of_ble_eq_true rfl, Nat.le_of_ble_eq_true rfl⟩ (fun E σ_7 hx => ?_) (fun σ_7 hp => ?_)
  · skip
    obtain ⟨rfl, hs_, hn_⟩ := hx
    have hs_ := hs_.symm
    subst hs_
    refine J_out C hT (by decide) (by decide) ?_
    refine ⟨rfl, ?_⟩
    first
      | exact ⟨rfl, by omega⟩
      | exact Or.inl ⟨rfl, by omega⟩
      | exact Or.inr ⟨rfl, by omega⟩
      | exact Or.inr (Or.inl ⟨rfl, by omega⟩)
      | exact Or.inr (Or.inr ⟨rfl, by omega⟩)
  obtain ⟨hs_, hq⟩ := hp
  have hs_ := hs_.symm
  subst hs_
  refine J_aload_0 C dX3_isIn_10 ?_
  refine J_aload_0 C dX3_isIn_11 ?_
  refine J_get_3_3 C in_X3_isIn_X3 fl_X3_isIn_22 (by decide) dX3_isIn_12 ?_
  refine J_iload_1 C dX3_isIn_15 ?_
  refine J_aaloadW C (by omega) dX3_isIn_16 ?_
  refine J_iload_2 C dX3_isIn_17 ?_
  refine J_KVI C (c_X3_shareIfIn hfl hI _ w q (by omega) hq (hf w q (by omega) (by omega) hq.1 hq.2)) (cwV 2 C.1.2.2.2.2 gX3_isIn_X3_shareIfIn rfl rfl rfl (by decide +kernel) ⟨Nat.le_of_ble_eq_true rfl, Nat.le_of_ble_eq_true rfl⟩) rc3 (by decide) rfl rfl (Nat.le_of_ble_eq_true rfl) dX3_isIn_18 ⟨Nat.le_of_ble_eq_true rfl, Nat.le_of_ble_eq_true rfl⟩ (fun z_18 σ_18 hp => ?_)
  obtain ⟨hz_, hs_⟩ := hp
  have hz_ := hz_.symm
  have hs_ := hs_.symm
  subst hz_
  subst hs_
  refine J_if_le (tgt := 28) C (by have := hs q hq.1 hq.2; split <;> omega) dX3_isIn_21 (by decide) (fun c_21 => ?_) (fun c_21 => ?_)
  · refine J_iconst C dX3_isIn_28 ?_
    refine J_vx ?_
    refine J_retZ C hr (by first | exact Or.inl rfl | exact Or.inr rfl) (by decide) (by decide) dX3_isIn_29 ?_
    refine ⟨?_, rfl, hw, hq⟩
    have h9 := c_21
    split at h9 <;> split <;> omega
  · refine J_iconst C dX3_isIn_24 ?_
    refine J_goto (tgt := 29) C dX3_isIn_25 (by decide) ?_
    refine J_vx ?_
    refine J_retZ C hr (by first | exact Or.inl rfl | exact Or.inr rfl) (by decide) (by decide) dX3_isIn_29 ?_
    refine ⟨?_, rfl, hw, hq⟩
    have h9 := c_21
    split at h9 <;> split <;> omega
set_option maxRecDepth 20000 in
theorem in_X3_wellOf_X3 : ∀ w ∈ wsX30, w ∈ wsX3_wellOf := by decide +kernel
set_option maxRecDepth 20000 in
theorem fl_X3_wellOf_29 : Cond.fieldLink RX3 29 "JointVenture" "voucherWells" "[I" ∈ wsX3_wellOf := by decide +kernel
set_option maxHeartbeats 4000000 in
set_option maxRecDepth 100000 in
theorem c_X3_wellOf {l : Launch} (hfl : l.stackTraces = false) {cy : Nat → ClassId} {D : va_G} {ad : Ad} (hI : Inj ad) (σ : Sg) (v : Int) (hvc : 0 ≤ σ 0 0 7 ∧ σ 0 0 7 ≤ 60) (hv9 : I32 v) : XI l yX3_wellOf wsX3_wellOf ({ frames := 7, cells := 6, slots := 36, locals := 103 } : Room) cy D ad σ [.ref (ad 0 0), .int (iI v)] (fun z σ' => z = σ 3 0 v ∧ σ' = σ ∧ (0 ≤ v ∧ v < σ 0 0 7)) (fun E σ' => σ' = σ ∧ E = nIOE ∧ ¬ (0 ≤ v ∧ v < σ 0 0 7)) 6 36 := by
  refine XI.of (lv0 := [some (.ref (ad 0 0)), some (.int (iI v))]) hfl hI (by decide) rfl (Nat.le_of_ble_eq_true rfl) rfl ?_
  intro p e s m args below meth c C hr hT
  refine J_aload_0 C dX3_wellOf_0 ?_
  refine J_iload_1 C dX3_wellOf_1 ?_
  refine J_XVV C (c_X3_requireVoucher hfl hI _ v hvc hv9) (cwV 1 C.1.2.2.2.2 gX3_wellOf_X3_requireVoucher rfl rfl rfl (by decide +kernel) ⟨Nat.le_of_ble_eq_true rfl, Nat.le_of_ble_eq_true rfl⟩) rc3 (by decide) rfl rfl (Nat.le_of_ble_eq_true rfl) dX3_wellOf_2 ⟨Nat.le_of_ble_eq_true rfl, Nat.le_of_ble_eq_true rfl⟩ (fun E σ_2 hx => ?_) (fun σ_2 hp => ?_)
  · skip
    obtain ⟨rfl, hs_, hn_⟩ := hx
    have hs_ := hs_.symm
    subst hs_
    refine J_out C hT (by decide) (by decide) ?_
    refine ⟨rfl, ?_⟩
    first
      | exact ⟨rfl, by omega⟩
      | exact Or.inl ⟨rfl, by omega⟩
      | exact Or.inr ⟨rfl, by omega⟩
      | exact Or.inr (Or.inl ⟨rfl, by omega⟩)
      | exact Or.inr (Or.inr ⟨rfl, by omega⟩)
  obtain ⟨hs_, hv⟩ := hp
  have hs_ := hs_.symm
  subst hs_
  refine J_aload_0 C dX3_wellOf_5 ?_
  refine J_get_3_5 C in_X3_wellOf_X3 fl_X3_wellOf_29 (by decide) dX3_wellOf_6 ?_
  refine J_iload_1 C dX3_wellOf_9 ?_
  refine J_iaload C k3 (by decide) (by omega) dX3_wellOf_10 ?_
  refine J_vx ?_
  refine J_retI C hr (by decide) (by decide) dX3_wellOf_11 ?_
  exact ⟨rfl, rfl, hv⟩
set_option maxRecDepth 20000 in
theorem in_X3_amountOf_X3 : ∀ w ∈ wsX30, w ∈ wsX3_amountOf := by decide +kernel
set_option maxRecDepth 20000 in
theorem fl_X3_amountOf_32 : Cond.fieldLink RX3 32 "JointVenture" "voucherAmounts" "[I" ∈ wsX3_amountOf := by decide +kernel
set_option maxHeartbeats 4000000 in
set_option maxRecDepth 100000 in
theorem c_X3_amountOf {l : Launch} (hfl : l.stackTraces = false) {cy : Nat → ClassId} {D : va_G} {ad : Ad} (hI : Inj ad) (σ : Sg) (v : Int) (hvc : 0 ≤ σ 0 0 7 ∧ σ 0 0 7 ≤ 60) (hv9 : I32 v) : XI l yX3_amountOf wsX3_amountOf ({ frames := 7, cells := 6, slots := 36, locals := 103 } : Room) cy D ad σ [.ref (ad 0 0), .int (iI v)] (fun z σ' => z = σ 4 0 v ∧ σ' = σ ∧ (0 ≤ v ∧ v < σ 0 0 7)) (fun E σ' => σ' = σ ∧ E = nIOE ∧ ¬ (0 ≤ v ∧ v < σ 0 0 7)) 6 36 := by
  refine XI.of (lv0 := [some (.ref (ad 0 0)), some (.int (iI v))]) hfl hI (by decide) rfl (Nat.le_of_ble_eq_true rfl) rfl ?_
  intro p e s m args below meth c C hr hT
  refine J_aload_0 C dX3_amountOf_0 ?_
  refine J_iload_1 C dX3_amountOf_1 ?_
  refine J_XVV C (c_X3_requireVoucher hfl hI _ v hvc hv9) (cwV 1 C.1.2.2.2.2 gX3_amountOf_X3_requireVoucher rfl rfl rfl (by decide +kernel) ⟨Nat.le_of_ble_eq_true rfl, Nat.le_of_ble_eq_true rfl⟩) rc3 (by decide) rfl rfl (Nat.le_of_ble_eq_true rfl) dX3_amountOf_2 ⟨Nat.le_of_ble_eq_true rfl, Nat.le_of_ble_eq_true rfl⟩ (fun E σ_2 hx => ?_) (fun σ_2 hp => ?_)
  · skip
    obtain ⟨rfl, hs_, hn_⟩ := hx
    have hs_ := hs_.symm
    subst hs_
    refine J_out C hT (by decide) (by decide) ?_
    refine ⟨rfl, ?_⟩
    first
      | exact ⟨rfl, by omega⟩
      | exact Or.inl ⟨rfl, by omega⟩
      | exact Or.inr ⟨rfl, by omega⟩
      | exact Or.inr (Or.inl ⟨rfl, by omega⟩)
      | exact Or.inr (Or.inr ⟨rfl, by omega⟩)
  obtain ⟨hs_, hv⟩ := hp
  have hs_ := hs_.symm
  subst hs_
  refine J_aload_0 C dX3_amountOf_5 ?_
  refine J_get_3_6 C in_X3_amountOf_X3 fl_X3_amountOf_32 (by decide) dX3_amountOf_6 ?_
  refine J_iload_1 C dX3_amountOf_9 ?_
  refine J_iaload C k4 (by decide) (by omega) dX3_amountOf_10 ?_
  refine J_vx ?_
  refine J_retI C hr (by decide) (by decide) dX3_amountOf_11 ?_
  exact ⟨rfl, rfl, hv⟩
set_option maxRecDepth 20000 in
theorem in_X3_vouchers_X3 : ∀ w ∈ wsX30, w ∈ wsX3_vouchers := by decide +kernel
set_option maxRecDepth 20000 in
theorem fl_X3_vouchers_35 : Cond.fieldLink RX3 35 "JointVenture" "voucherCount" "I" ∈ wsX3_vouchers := by decide +kernel
set_option maxHeartbeats 4000000 in
set_option maxRecDepth 100000 in
theorem c_X3_vouchers {l : Launch} (hfl : l.stackTraces = false) {cy : Nat → ClassId} {D : va_G} {ad : Ad} (hI : Inj ad) (σ : Sg) : KI l yX3_vouchers wsX3_vouchers ({ frames := 0, cells := 0, slots := 0, locals := 0 } : Room) cy D ad σ [.ref (ad 0 0)] (fun z σ' => z = σ 0 0 7 ∧ σ' = σ) 0 0 := by
  refine KI.of (lv0 := [some (.ref (ad 0 0))]) hfl hI (by decide) rfl (Nat.le_of_ble_eq_true rfl) rfl ?_
  intro p e s m args below meth c C hr
  refine J_aload_0 C dX3_vouchers_0 ?_
  refine J_get_3_7 C in_X3_vouchers_X3 fl_X3_vouchers_35 (by decide) dX3_vouchers_1 ?_
  refine J_retI C hr (by decide) (by decide) dX3_vouchers_4 ?_
  exact ⟨rfl, rfl⟩
set_option maxRecDepth 20000 in
theorem in_X3_asked_X3 : ∀ w ∈ wsX30, w ∈ wsX3_asked := by decide +kernel
set_option maxRecDepth 20000 in
theorem fl_X3_asked_40 : Cond.fieldLink RX3 40 "JointVenture" "cashCalls" "[LJointVenture$CashCall;" ∈ wsX3_asked := by decide +kernel
set_option maxRecDepth 20000 in
theorem in_X3_asked_X0 : ∀ w ∈ wsX00, w ∈ wsX3_asked := by decide +kernel
set_option maxRecDepth 20000 in
theorem fl_X3_asked_159 : Cond.fieldLink RX3 159 "JointVenture$CashCall" "asked" "[I" ∈ wsX3_asked := by decide +kernel
set_option maxHeartbeats 4000000 in
set_option maxRecDepth 100000 in
theorem c_X3_asked {l : Launch} (hfl : l.stackTraces = false) {cy : Nat → ClassId} {D : va_G} {ad : Ad} (hI : Inj ad) (σ : Sg) (k9 q : Int) (hcc : 0 ≤ σ 0 0 9 ∧ σ 0 0 9 ≤ 20) (hk9 : I32 k9) (hq9 : I32 q) : XI l yX3_asked wsX3_asked ({ frames := 7, cells := 6, slots := 36, locals := 103 } : Room) cy D ad σ [.ref (ad 0 0), .int (iI k9), .int (iI q)] (fun z σ' => z = σ 20 k9 q ∧ σ' = σ ∧ (0 ≤ k9 ∧ k9 < σ 0 0 9) ∧ (0 ≤ q ∧ q < 5)) (fun E σ' => σ' = σ ∧ E = nIOE ∧ ¬ ((0 ≤ k9 ∧ k9 < σ 0 0 9) ∧ (0 ≤ q ∧ q < 5))) 6 36 := by
  refine XI.of (lv0 := [some (.ref (ad 0 0)), some (.int (iI k9)), some (.int (iI q))]) hfl hI (by decide) rfl (Nat.le_of_ble_eq_true rfl) rfl ?_
  intro p e s m args below meth c C hr hT
  refine J_aload_0 C dX3_asked_0 ?_
  refine J_iload_1 C dX3_asked_1 ?_
  refine J_XVV C (c_X3_requireCashCall hfl hI _ k9 hcc hk9) (cwV 1 C.1.2.2.2.2 gX3_asked_X3_requireCashCall rfl rfl rfl (by decide +kernel) ⟨Nat.le_of_ble_eq_true rfl, Nat.le_of_ble_eq_true rfl⟩) rc3 (by decide) rfl rfl (Nat.le_of_ble_eq_true rfl) dX3_asked_2 ⟨Nat.le_of_ble_eq_true rfl, Nat.le_of_ble_eq_true rfl⟩ (fun E σ_2 hx => ?_) (fun σ_2 hp => ?_)
  · skip
    obtain ⟨rfl, hs_, hn_⟩ := hx
    have hs_ := hs_.symm
    subst hs_
    refine J_out C hT (by decide) (by decide) ?_
    refine ⟨rfl, ?_⟩
    first
      | exact ⟨rfl, by omega⟩
      | exact Or.inl ⟨rfl, by omega⟩
      | exact Or.inr ⟨rfl, by omega⟩
      | exact Or.inr (Or.inl ⟨rfl, by omega⟩)
      | exact Or.inr (Or.inr ⟨rfl, by omega⟩)
  obtain ⟨hs_, hk⟩ := hp
  have hs_ := hs_.symm
  subst hs_
  refine J_aload_0 C dX3_asked_5 ?_
  refine J_iload_2 C dX3_asked_6 ?_
  refine J_XVV C (c_X3_requirePartner hfl hI _ q hq9) (cwV 1 C.1.2.2.2.2 gX3_asked_X3_requirePartner rfl rfl rfl (by decide +kernel) ⟨Nat.le_of_ble_eq_true rfl, Nat.le_of_ble_eq_true rfl⟩) rc3 (by decide) rfl rfl (Nat.le_of_ble_eq_true rfl) dX3_asked_7 ⟨Nat.le_of_ble_eq_true rfl, Nat.le_of_ble_eq_true rfl⟩ (fun E σ_7 hx => ?_) (fun σ_7 hp => ?_)
  · skip
    obtain ⟨rfl, hs_, hn_⟩ := hx
    have hs_ := hs_.symm
    subst hs_
    refine J_out C hT (by decide) (by decide) ?_
    refine ⟨rfl, ?_⟩
    first
      | exact ⟨rfl, by omega⟩
      | exact Or.inl ⟨rfl, by omega⟩
      | exact Or.inr ⟨rfl, by omega⟩
      | exact Or.inr (Or.inl ⟨rfl, by omega⟩)
      | exact Or.inr (Or.inr ⟨rfl, by omega⟩)
  obtain ⟨hs_, hq⟩ := hp
  have hs_ := hs_.symm
  subst hs_
  refine J_aload_0 C dX3_asked_10 ?_
  refine J_get_3_8 C in_X3_asked_X3 fl_X3_asked_40 (by decide) dX3_asked_11 ?_
  refine J_iload_1 C dX3_asked_14 ?_
  refine J_aaloadC C (by omega) dX3_asked_15 ?_
  refine J_get_0_0 C in_X3_asked_X0 fl_X3_asked_159 ⟨by omega, by show k9 < 20; omega⟩ dX3_asked_16 ?_
  refine J_iload_2 C dX3_asked_19 ?_
  refine J_iaload C k20 ⟨by omega, by show k9 < 20; omega⟩ (by omega) dX3_asked_20 ?_
  refine J_vx ?_
  refine J_retI C hr (by decide) (by decide) dX3_asked_21 ?_
  exact ⟨rfl, rfl, hk, hq⟩
set_option maxHeartbeats 4000000 in
set_option maxRecDepth 100000 in
theorem c_X3_paid {l : Launch} (hfl : l.stackTraces = false) {cy : Nat → ClassId} {D : va_G} {ad : Ad} (hI : Inj ad) (σ : Sg) (q : Int) (hcc : 0 ≤ σ 0 0 9 ∧ σ 0 0 9 ≤ 20) (hq9 : I32 q) : XI l yX3_paid wsX3_paid ({ frames := 7, cells := 6, slots := 36, locals := 103 } : Room) cy D ad σ [.ref (ad 0 0), .int (iI q)] (fun z σ' => z = sN (fun k => σ 21 k q) (σ 0 0 9).toNat ∧ σ' = σ ∧ (0 ≤ q ∧ q < 5)) (fun E σ' => σ' = σ ∧ E = nIOE ∧ ¬ (0 ≤ q ∧ q < 5)) 6 36 := by
  refine XI.of (lv0 := [some (.ref (ad 0 0)), some (.int (iI q))]) hfl hI (by decide) rfl (Nat.le_of_ble_eq_true rfl) rfl ?_
  intro p e s m args below meth c C hr hT
  refine J_aload_0 C dX3_paid_0 ?_
  refine J_iload_1 C dX3_paid_1 ?_
  refine J_XVV C (c_X3_requirePartner hfl hI _ q hq9) (cwV 1 C.1.2.2.2.2 gX3_paid_X3_requirePartner rfl rfl rfl (by decide +kernel) ⟨Nat.le_of_ble_eq_true rfl, Nat.le_of_ble_eq_true rfl⟩) rc3 (by decide) rfl rfl (Nat.le_of_ble_eq_true rfl) dX3_paid_2 ⟨Nat.le_of_ble_eq_true rfl, Nat.le_of_ble_eq_true rfl⟩ (fun E σ_2 hx => ?_) (fun σ_2 hp => ?_)
  · skip
    obtain ⟨rfl, hs_, hn_⟩ := hx
    have hs_ := hs_.symm
    subst hs_
    refine J_out C hT (by decide) (by decide) ?_
    refine ⟨rfl, ?_⟩
    first
      | exact ⟨rfl, by omega⟩
      | exact Or.inl ⟨rfl, by omega⟩
      | exact Or.inr ⟨rfl, by omega⟩
      | exact Or.inr (Or.inl ⟨rfl, by omega⟩)
      | exact Or.inr (Or.inr ⟨rfl, by omega⟩)
  obtain ⟨hs_, hq⟩ := hp
  have hs_ := hs_.symm
  subst hs_
  refine J_aload_0 C dX3_paid_5 ?_
  refine J_iload_1 C dX3_paid_6 ?_
  refine J_KVI C (c_X3_paidOfAllCalls hfl hI _ q hq hcc) (cwV 1 C.1.2.2.2.2 gX3_paid_X3_paidOfAllCalls rfl rfl rfl (by decide +kernel) ⟨Nat.le_of_ble_eq_true rfl, Nat.le_of_ble_eq_true rfl⟩) rc3 (by decide) rfl rfl (Nat.le_of_ble_eq_true rfl) dX3_paid_7 ⟨Nat.le_of_ble_eq_true rfl, Nat.le_of_ble_eq_true rfl⟩ (fun z_7 σ_7 hp => ?_)
  obtain ⟨hz_, hs_⟩ := hp
  have hz_ := hz_.symm
  have hs_ := hs_.symm
  subst hz_
  subst hs_
  refine J_vx ?_
  refine J_retI C hr (by decide) (by decide) dX3_paid_10 ?_
  exact ⟨rfl, rfl, hq⟩
set_option maxRecDepth 20000 in
theorem in_X3_owes_X3 : ∀ w ∈ wsX30, w ∈ wsX3_owes := by decide +kernel
set_option maxRecDepth 20000 in
theorem fl_X3_owes_47 : Cond.fieldLink RX3 47 "JointVenture" "owed" "[I" ∈ wsX3_owes := by decide +kernel
set_option maxHeartbeats 4000000 in
set_option maxRecDepth 100000 in
theorem c_X3_owes {l : Launch} (hfl : l.stackTraces = false) {cy : Nat → ClassId} {D : va_G} {ad : Ad} (hI : Inj ad) (σ : Sg) (q : Int) (hq9 : I32 q) : XI l yX3_owes wsX3_owes ({ frames := 7, cells := 6, slots := 36, locals := 103 } : Room) cy D ad σ [.ref (ad 0 0), .int (iI q)] (fun z σ' => z = σ 6 0 q ∧ σ' = σ ∧ (0 ≤ q ∧ q < 5)) (fun E σ' => σ' = σ ∧ E = nIOE ∧ ¬ (0 ≤ q ∧ q < 5)) 6 36 := by
  refine XI.of (lv0 := [some (.ref (ad 0 0)), some (.int (iI q))]) hfl hI (by decide) rfl (Nat.le_of_ble_eq_true rfl) rfl ?_
  intro p e s m args below meth c C hr hT
  refine J_aload_0 C dX3_owes_0 ?_
  refine J_iload_1 C dX3_owes_1 ?_
  refine J_XVV C (c_X3_requirePartner hfl hI _ q hq9) (cwV 1 C.1.2.2.2.2 gX3_owes_X3_requirePartner rfl rfl rfl (by decide +kernel) ⟨Nat.le_of_ble_eq_true rfl, Nat.le_of_ble_eq_true rfl⟩) rc3 (by decide) rfl rfl (Nat.le_of_ble_eq_true rfl) dX3_owes_2 ⟨Nat.le_of_ble_eq_true rfl, Nat.le_of_ble_eq_true rfl⟩ (fun E σ_2 hx => ?_) (fun σ_2 hp => ?_)
  · skip
    obtain ⟨rfl, hs_, hn_⟩ := hx
    have hs_ := hs_.symm
    subst hs_
    refine J_out C hT (by decide) (by decide) ?_
    refine ⟨rfl, ?_⟩
    first
      | exact ⟨rfl, by omega⟩
      | exact Or.inl ⟨rfl, by omega⟩
      | exact Or.inr ⟨rfl, by omega⟩
      | exact Or.inr (Or.inl ⟨rfl, by omega⟩)
      | exact Or.inr (Or.inr ⟨rfl, by omega⟩)
  obtain ⟨hs_, hq⟩ := hp
  have hs_ := hs_.symm
  subst hs_
  refine J_aload_0 C dX3_owes_5 ?_
  refine J_get_3_10 C in_X3_owes_X3 fl_X3_owes_47 (by decide) dX3_owes_6 ?_
  refine J_iload_1 C dX3_owes_9 ?_
  refine J_iaload C k6 (by decide) (by omega) dX3_owes_10 ?_
  refine J_vx ?_
  refine J_retI C hr (by decide) (by decide) dX3_owes_11 ?_
  exact ⟨rfl, rfl, hq⟩
set_option maxRecDepth 20000 in
theorem in_X3_balance_X3 : ∀ w ∈ wsX30, w ∈ wsX3_balance := by decide +kernel
set_option maxRecDepth 20000 in
theorem fl_X3_balance_26 : Cond.fieldLink RX3 26 "JointVenture" "wellCount" "I" ∈ wsX3_balance := by decide +kernel
set_option maxRecDepth 20000 in
theorem fl_X3_balance_22 : Cond.fieldLink RX3 22 "JointVenture" "wells" "[LJointVenture$Well;" ∈ wsX3_balance := by decide +kernel
set_option maxRecDepth 20000 in
theorem in_X3_balance_X2 : ∀ w ∈ wsX20, w ∈ wsX3_balance := by decide +kernel
set_option maxRecDepth 20000 in
theorem fl_X3_balance_150 : Cond.fieldLink RX3 150 "JointVenture$Well" "credited" "[I" ∈ wsX3_balance := by decide +kernel
set_option maxRecDepth 20000 in
theorem fl_X3_balance_147 : Cond.fieldLink RX3 147 "JointVenture$Well" "charged" "[I" ∈ wsX3_balance := by decide +kernel
set_option maxRecDepth 20000 in
theorem fl_X3_balance_47 : Cond.fieldLink RX3 47 "JointVenture" "owed" "[I" ∈ wsX3_balance := by decide +kernel
set_option maxHeartbeats 4000000 in
set_option maxRecDepth 100000 in
theorem c_X3_balance {l : Launch} (hfl : l.stackTraces = false) {cy : Nat → ClassId} {D : va_G} {ad : Ad} (hI : Inj ad) (σ : Sg) (q : Int) (hwc : 0 ≤ σ 0 0 4 ∧ σ 0 0 4 ≤ 6) (hcc : 0 ≤ σ 0 0 9 ∧ σ 0 0 9 ≤ 20) (hq9 : I32 q) (hr9 : ∀ w q, 0 ≤ w → w < 6 → 0 ≤ q → q < 5 → I32 (σ 17 w q) ∧ I32 (σ 18 w q)) : XL l yX3_balance wsX3_balance ({ frames := 7, cells := 6, slots := 36, locals := 103 } : Room) cy D ad σ [.ref (ad 0 0), .int (iI q)] (fun z σ' => z = w32 (sN (fun k => σ 21 k q) (σ 0 0 9).toNat) - w32 (σ 6 0 q) + sN (fun w => σ 18 w q - σ 17 w q) (σ 0 0 4).toNat ∧ σ' = σ ∧ (0 ≤ q ∧ q < 5)) (fun E σ' => σ' = σ ∧ E = nIOE ∧ ¬ (0 ≤ q ∧ q < 5)) 6 36 := by
  refine XL.of (lv0 := [some (.ref (ad 0 0)), some (.int (iI q)), none, none, none]) hfl hI (by decide) rfl (Nat.le_of_ble_eq_true rfl) rfl ?_
  intro p e s m args below meth c C hr hT
  have K_23 : ∀ (n_ : Nat) (t : Int) (i : Int), (∃ j : Nat, i = (j : Int) ∧ (j : Int) ≤ σ 0 0 4 ∧ t = w32 (sN (fun k => σ 21 k q) (σ 0 0 9).toNat) - w32 (σ 6 0 q) + sN (fun w => σ 18 w q - σ 17 w q) j) → (σ 0 0 4 - i < n_) → (0 ≤ i ∧ i ≤ σ 0 0 4) → (0 ≤ q ∧ q < 5) → JW p l e ({ frames := 7, cells := 6, slots := 36, locals := 103 } : Room) s m args below meth c cy D ad (Ar ad s.heap.size) 5 (0 + 1 + 0) (0 + 6 + 0) (vx_MQ below (QcL cy D ad (fun z σ' => z = w32 (sN (fun k => σ 21 k q) (σ 0 0 9).toNat) - w32 (σ 6 0 q) + sN (fun w => σ 18 w q - σ 17 w q) (σ 0 0 4).toNat ∧ σ' = σ ∧ (0 ≤ q ∧ q < 5)) s.heap.size) (XcW cy D ad (fun E σ' => σ' = σ ∧ E = nIOE ∧ ¬ (0 ≤ q ∧ q < 5)) s.heap.size) args s 6 36 (Ar ad s.heap.size)) σ 23 [some (.ref (ad 0 0)), some (.int (iI q)), some (.long (lI t)), none, some (.int (iI i))] [] := by
    intro n_
    induction n_ with
    | zero => intro t i g0 g1 g2 g3; omega
    | succ n_ ih_23 =>
      intro t i g0 g1 g2 g3
      obtain ⟨j, rfl, hj, rfl⟩ := g0
      have hq := g3
      refine J_iload4 C dX3_balance_23 ?_
      refine J_aload_0 C dX3_balance_25 ?_
      refine J_get_3_4 C in_X3_balance_X3 fl_X3_balance_26 (by decide) dX3_balance_26 ?_
      refine J_icmp_ge (tgt := 68) C (by omega) (by omega) dX3_balance_29 (by decide) (fun c_29 => ?_) (fun c_29 => ?_)
      · refine J_lload_2 C dX3_balance_68 ?_
        refine J_vx ?_
        refine J_retL C hr (by decide) (by decide) dX3_balance_69 ?_
        have e : (σ 0 0 4).toNat = j := by omega
        rw [e]
        exact ⟨rfl, rfl, hq⟩
      · refine J_lload_2 C dX3_balance_32 ?_
        refine J_aload_0 C dX3_balance_33 ?_
        refine J_get_3_3 C in_X3_balance_X3 fl_X3_balance_22 (by decide) dX3_balance_34 ?_
        refine J_iload4 C dX3_balance_37 ?_
        refine J_aaloadW C (by omega) dX3_balance_39 ?_
        refine J_get_2_7 C in_X3_balance_X2 fl_X3_balance_150 ⟨by omega, by show (j : Int) < 6; omega⟩ dX3_balance_40 ?_
        refine J_iload_1 C dX3_balance_43 ?_
        refine J_iaload C k18 ⟨by omega, by show (j : Int) < 6; omega⟩ (by omega) dX3_balance_44 ?_
        refine J_i2l C (by exact (hr9 j q (by omega) (by omega) hq.1 hq.2).2) dX3_balance_45 ?_
        refine J_aload_0 C dX3_balance_46 ?_
        refine J_get_3_3 C in_X3_balance_X3 fl_X3_balance_22 (by decide) dX3_balance_47 ?_
        refine J_iload4 C dX3_balance_50 ?_
        refine J_aaloadW C (by omega) dX3_balance_52 ?_
        refine J_get_2_6 C in_X3_balance_X2 fl_X3_balance_147 ⟨by omega, by show (j : Int) < 6; omega⟩ dX3_balance_53 ?_
        refine J_iload_1 C dX3_balance_56 ?_
        refine J_iaload C k17 ⟨by omega, by show (j : Int) < 6; omega⟩ (by omega) dX3_balance_57 ?_
        refine J_i2l C (by exact (hr9 j q (by omega) (by omega) hq.1 hq.2).1) dX3_balance_58 ?_
        refine J_lsub C dX3_balance_59 ?_
        refine J_ladd C dX3_balance_60 ?_
        refine J_lstore_2 C (by decide) rfl dX3_balance_61 ?_
        refine J_iinc4 C (by decide) rfl dX3_balance_62 ?_
        refine J_goto (tgt := 23) C dX3_balance_65 (by decide) ?_
        -- to the cut at 23
        refine ih_23 _ _ ?_ ?_ ?_ ?_
        · exact ⟨j + 1, by omega, by omega, by simp only [sN]; omega⟩
        · omega
        · omega
        · exact hq
  refine J_aload_0 C dX3_balance_0 ?_
  refine J_iload_1 C dX3_balance_1 ?_
  refine J_XVV C (c_X3_requirePartner hfl hI _ q hq9) (cwV 1 C.1.2.2.2.2 gX3_balance_X3_requirePartner rfl rfl rfl (by decide +kernel) ⟨Nat.le_of_ble_eq_true rfl, Nat.le_of_ble_eq_true rfl⟩) rc3 (by decide) rfl rfl (Nat.le_of_ble_eq_true rfl) dX3_balance_2 ⟨Nat.le_of_ble_eq_true rfl, Nat.le_of_ble_eq_true rfl⟩ (fun E σ_2 hx => ?_) (fun σ_2 hp => ?_)
  · skip
    obtain ⟨rfl, hs_, hn_⟩ := hx
    have hs_ := hs_.symm
    subst hs_
    refine J_out C hT (by decide) (by decide) ?_
    refine ⟨rfl, ?_⟩
    first
      | exact ⟨rfl, by omega⟩
      | exact Or.inl ⟨rfl, by omega⟩
      | exact Or.inr ⟨rfl, by omega⟩
      | exact Or.inr (Or.inl ⟨rfl, by omega⟩)
      | exact Or.inr (Or.inr ⟨rfl, by omega⟩)
  obtain ⟨hs_, hq⟩ := hp
  have hs_ := hs_.symm
  subst hs_
  refine J_aload_0 C dX3_balance_5 ?_
  refine J_iload_1 C dX3_balance_6 ?_
  refine J_KVI C (c_X3_paidOfAllCalls hfl hI _ q hq hcc) (cwV 1 C.1.2.2.2.2 gX3_balance_X3_paidOfAllCalls rfl rfl rfl (by decide +kernel) ⟨Nat.le_of_ble_eq_true rfl, Nat.le_of_ble_eq_true rfl⟩) rc3 (by decide) rfl rfl (Nat.le_of_ble_eq_true rfl) dX3_balance_7 ⟨Nat.le_of_ble_eq_true rfl, Nat.le_of_ble_eq_true rfl⟩ (fun z_7 σ_7 hp => ?_)
  obtain ⟨hz_, hs_⟩ := hp
  have hz_ := hz_.symm
  have hs_ := hs_.symm
  subst hz_
  subst hs_
  refine J_i2lw C dX3_balance_10 ?_
  refine J_aload_0 C dX3_balance_11 ?_
  refine J_get_3_10 C in_X3_balance_X3 fl_X3_balance_47 (by decide) dX3_balance_12 ?_
  refine J_iload_1 C dX3_balance_15 ?_
  refine J_iaload C k6 (by decide) (by omega) dX3_balance_16 ?_
  refine J_i2lw C dX3_balance_17 ?_
  refine J_lsub C dX3_balance_18 ?_
  refine J_lstore_2 C (by decide) rfl dX3_balance_19 ?_
  refine J_iconst C dX3_balance_20 ?_
  refine J_istore4 C (by decide) rfl dX3_balance_21 ?_
  -- to the cut at 23
  refine K_23 7 _ _ ?_ ?_ ?_ ?_
  · exact ⟨0, rfl, by omega, by simp [sN]⟩
  · omega
  · omega
  · exact hq
