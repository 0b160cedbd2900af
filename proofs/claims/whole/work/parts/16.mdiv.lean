set_option maxHeartbeats 4000000 in
set_option maxRecDepth 100000 in
theorem c_X4_within {l : Launch} (hfl : l.stackTraces = false) {cy : Nat → ClassId} {D : va_G} {ad : Ad} (hI : Inj ad) (σ : Sg) (v lo hi : Int) (h1 : I32 v) (h2 : I32 lo) (h3 : I32 hi) : KI l yX4_within wsX4_within ({ frames := 0, cells := 0, slots := 0, locals := 0 } : Room) cy D ad σ [.int (iI v), .int (iI lo), .int (iI hi)] (fun z σ' => z = (if lo ≤ v ∧ v ≤ hi then 1 else 0) ∧ σ' = σ) 0 0 := by
  refine KI.of (lv0 := [some (.int (iI v)), some (.int (iI lo)), some (.int (iI hi))]) hfl hI (by decide) rfl (Nat.le_of_ble_eq_true rfl) rfl ?_
  intro p e s m args below meth c C hr
  refine J_iload_0 C dX4_within_0 ?_
  refine J_iload_1 C dX4_within_1 ?_
  refine J_icmp_lt (tgt := 14) C (by omega) (by omega) dX4_within_2 (by decide) (fun c_2 => ?_) (fun c_2 => ?_)
  · refine J_iconst C dX4_within_14 ?_
    refine J_retZ C hr (by first | exact Or.inl rfl | exact Or.inr rfl) (by decide) (by decide) dX4_within_15 ?_
    refine ⟨?_, rfl⟩
    split <;> omega
  · refine J_iload_0 C dX4_within_5 ?_
    refine J_iload_2 C dX4_within_6 ?_
    refine J_icmp_gt (tgt := 14) C (by omega) (by omega) dX4_within_7 (by decide) (fun c_7 => ?_) (fun c_7 => ?_)
    · refine J_iconst C dX4_within_14 ?_
      refine J_retZ C hr (by first | exact Or.inl rfl | exact Or.inr rfl) (by decide) (by decide) dX4_within_15 ?_
      refine ⟨?_, rfl⟩
      split <;> omega
    · refine J_iconst C dX4_within_10 ?_
      refine J_goto (tgt := 15) C dX4_within_11 (by decide) ?_
      refine J_retZ C hr (by first | exact Or.inl rfl | exact Or.inr rfl) (by decide) (by decide) dX4_within_15 ?_
      refine ⟨?_, rfl⟩
      split <;> omega
set_option maxRecDepth 20000 in
theorem in_X4_goes_X4 : ∀ w ∈ wsX40, w ∈ wsX4_goes := by decide +kernel
set_option maxRecDepth 20000 in
theorem fl_X4_goes_73 : Cond.fieldLink RX4 73 "JointVentureModel" "last" "I" ∈ wsX4_goes := by decide +kernel
set_option maxHeartbeats 4000000 in
set_option maxRecDepth 100000 in
theorem c_X4_goes {l : Launch} (hfl : l.stackTraces = false) {cy : Nat → ClassId} {D : va_G} {ad : Ad} (hI : Inj ad) (σ : Sg) (f1 f2 f3 : Int) (hf1 : f1 = 0 ∨ f1 = 1) (hf2 : f2 = 0 ∨ f2 = 1) (hf3 : f3 = 0 ∨ f3 = 1) : KI l yX4_goes wsX4_goes ({ frames := 0, cells := 0, slots := 0, locals := 0 } : Room) cy D ad σ [.ref (ad 22 0), .int (iI f1), .int (iI f2), .int (iI f3)] (fun z σ' => z = (if gcd3 f1 f2 f3 = 0 then 1 else 0) ∧ σ' = su σ 22 0 24 (gcd3 f1 f2 f3)) 0 0 := by
  refine KI.of (lv0 := [some (.ref (ad 22 0)), some (.int (iI f1)), some (.int (iI f2)), some (.int (iI f3))]) hfl hI (by decide) rfl (Nat.le_of_ble_eq_true rfl) rfl ?_
  intro p e s m args below meth c C hr
  have K_26 : ∀ (x : Int), (x = gcd3 f1 f2 f3) → JW p l e ({ frames := 0, cells := 0, slots := 0, locals := 0 } : Room) s m args below meth c cy D ad (Ar ad s.heap.size) 4 0 0 (MQ below (QcI cy D ad (fun z σ' => z = (if gcd3 f1 f2 f3 = 0 then 1 else 0) ∧ σ' = su σ 22 0 24 (gcd3 f1 f2 f3)) s.heap.size) args s 0 0 (Ar ad s.heap.size)) σ 26 [some (.ref (ad 22 0)), some (.int (iI f1)), some (.int (iI f2)), some (.int (iI f3))] [.int (iI x), .ref (ad 22 0)] := by
    intro x g0
    have hx : 0 ≤ x ∧ x ≤ 3 := by rw [g0]; unfold gcd3; grind
    refine J_put_4_24 C in_X4_goes_X4 fl_X4_goes_73 (by decide) dX4_goes_26 ?_
    refine J_aload_0 C dX4_goes_29 ?_
    refine J_get_4_24 C in_X4_goes_X4 fl_X4_goes_73 (by decide) dX4_goes_30 ?_
    rw [su_at]
    refine J_if_ne (tgt := 40) C (by omega) dX4_goes_33 (by decide) (fun c_33 => ?_) (fun c_33 => ?_)
    · refine J_iconst C dX4_goes_40 ?_
      refine J_retZ C hr (by first | exact Or.inl rfl | exact Or.inr rfl) (by decide) (by decide) dX4_goes_41 ?_
      subst g0
      refine ⟨?_, rfl⟩
      split <;> omega
    · refine J_iconst C dX4_goes_36 ?_
      refine J_goto (tgt := 41) C dX4_goes_37 (by decide) ?_
      refine J_retZ C hr (by first | exact Or.inl rfl | exact Or.inr rfl) (by decide) (by decide) dX4_goes_41 ?_
      subst g0
      refine ⟨?_, rfl⟩
      split <;> omega
  refine J_aload_0 C dX4_goes_0 ?_
  refine J_iload_1 C dX4_goes_1 ?_
  refine J_if_ne (tgt := 9) C (by omega) dX4_goes_2 (by decide) (fun c_2 => ?_) (fun c_2 => ?_)
  · refine J_iload_2 C dX4_goes_9 ?_
    refine J_if_ne (tgt := 17) C (by omega) dX4_goes_10 (by decide) (fun c_10 => ?_) (fun c_10 => ?_)
    · refine J_iload_3 C dX4_goes_17 ?_
      refine J_if_eq (tgt := 25) C (by omega) dX4_goes_18 (by decide) (fun c_18 => ?_) (fun c_18 => ?_)
      · refine J_iconst C dX4_goes_25 ?_
        -- to the cut at 26
        refine K_26 _ ?_
        · unfold gcd3
          grind
      · refine J_iconst C dX4_goes_21 ?_
        refine J_goto (tgt := 26) C dX4_goes_22 (by decide) ?_
        -- to the cut at 26
        refine K_26 _ ?_
        · unfold gcd3
          grind
    · refine J_iconst C dX4_goes_13 ?_
      refine J_goto (tgt := 26) C dX4_goes_14 (by decide) ?_
      -- to the cut at 26
      refine K_26 _ ?_
      · unfold gcd3
        grind
  · refine J_iconst C dX4_goes_5 ?_
    refine J_goto (tgt := 26) C dX4_goes_6 (by decide) ?_
    -- to the cut at 26
    refine K_26 _ ?_
    · unfold gcd3
      grind
set_option maxHeartbeats 4000000 in
set_option maxRecDepth 100000 in
theorem c_X4_isPartner {l : Launch} (hfl : l.stackTraces = false) {cy : Nat → ClassId} {D : va_G} {ad : Ad} (hI : Inj ad) (σ : Sg) (q : Int) (hq9 : I32 q) : KI l yX4_isPartner wsX4_isPartner ({ frames := 1, cells := 0, slots := 0, locals := 22 } : Room) cy D ad σ [.int (iI q)] (fun z σ' => z = (if 0 ≤ q ∧ q < 5 then 1 else 0) ∧ σ' = σ) 0 0 := by
  refine KI.of (lv0 := [some (.int (iI q))]) hfl hI (by decide) rfl (Nat.le_of_ble_eq_true rfl) rfl ?_
  intro p e s m args below meth c C hr
  refine J_iload_0 C dX4_isPartner_0 ?_
  refine J_iconst C dX4_isPartner_1 ?_
  refine J_iconst C dX4_isPartner_2 ?_
  refine J_KSI C (c_X4_within hfl hI _ q 0 4 hq9 (by omega) (by omega)) (va_cwS 3 C.1.2.2.2.2 gX4_isPartner_X4_within rfl rfl rfl (by decide +kernel) ⟨Nat.le_of_ble_eq_true rfl, Nat.le_of_ble_eq_true rfl⟩) rfl rfl (Nat.le_of_ble_eq_true rfl) dX4_isPartner_3 ⟨Nat.le_of_ble_eq_true rfl, Nat.le_of_ble_eq_true rfl⟩ (fun z_3 σ_3 hp => ?_)
  obtain ⟨hz_, hs_⟩ := hp
  have hz_ := hz_.symm
  have hs_ := hs_.symm
  subst hz_
  subst hs_
  refine J_retZ C hr (by split <;> omega) (by decide) (by decide) dX4_isPartner_6 ?_
  refine ⟨?_, rfl⟩
  (first | rfl | (split <;> split <;> omega))
set_option maxRecDepth 20000 in
theorem in_X4_isWell_X4 : ∀ w ∈ wsX40, w ∈ wsX4_isWell := by decide +kernel
set_option maxRecDepth 20000 in
theorem fl_X4_isWell_80 : Cond.fieldLink RX4 80 "JointVentureModel" "wells" "I" ∈ wsX4_isWell := by decide +kernel
set_option maxHeartbeats 4000000 in
set_option maxRecDepth 100000 in
theorem c_X4_isWell {l : Launch} (hfl : l.stackTraces = false) {cy : Nat → ClassId} {D : va_G} {ad : Ad} (hI : Inj ad) (σ : Sg) (w : Int) (hw9 : I32 w) (hwm : 0 ≤ σ 22 0 6 ∧ σ 22 0 6 ≤ 6) : KI l yX4_isWell wsX4_isWell ({ frames := 1, cells := 0, slots := 0, locals := 22 } : Room) cy D ad σ [.ref (ad 22 0), .int (iI w)] (fun z σ' => z = (if 0 ≤ w ∧ w < σ 22 0 6 then 1 else 0) ∧ σ' = σ) 0 0 := by
  refine KI.of (lv0 := [some (.ref (ad 22 0)), some (.int (iI w))]) hfl hI (by decide) rfl (Nat.le_of_ble_eq_true rfl) rfl ?_
  intro p e s m args below meth c C hr
  refine J_iload_1 C dX4_isWell_0 ?_
  refine J_iconst C dX4_isWell_1 ?_
  refine J_aload_0 C dX4_isWell_2 ?_
  refine J_get_4_6 C in_X4_isWell_X4 fl_X4_isWell_80 (by decide) dX4_isWell_3 ?_
  refine J_iconst C dX4_isWell_6 ?_
  refine J_isub C dX4_isWell_7 ?_
  refine J_KSI C (c_X4_within hfl hI _ w 0 _ hw9 (by omega) (by omega)) (va_cwS 3 C.1.2.2.2.2 gX4_isWell_X4_within rfl rfl rfl (by decide +kernel) ⟨Nat.le_of_ble_eq_true rfl, Nat.le_of_ble_eq_true rfl⟩) rfl rfl (Nat.le_of_ble_eq_true rfl) dX4_isWell_8 ⟨Nat.le_of_ble_eq_true rfl, Nat.le_of_ble_eq_true rfl⟩ (fun z_8 σ_8 hp => ?_)
  obtain ⟨hz_, hs_⟩ := hp
  have hz_ := hz_.symm
  have hs_ := hs_.symm
  subst hz_
  subst hs_
  refine J_retZ C hr (by split <;> omega) (by decide) (by decide) dX4_isWell_11 ?_
  refine ⟨?_, rfl⟩
  (first | rfl | (split <;> split <;> omega))
set_option maxRecDepth 20000 in
theorem in_X4_isVoucher_X4 : ∀ w ∈ wsX40, w ∈ wsX4_isVoucher := by decide +kernel
set_option maxRecDepth 20000 in
theorem fl_X4_isVoucher_83 : Cond.fieldLink RX4 83 "JointVentureModel" "vouchers" "I" ∈ wsX4_isVoucher := by decide +kernel
set_option maxHeartbeats 4000000 in
set_option maxRecDepth 100000 in
theorem c_X4_isVoucher {l : Launch} (hfl : l.stackTraces = false) {cy : Nat → ClassId} {D : va_G} {ad : Ad} (hI : Inj ad) (σ : Sg) (v : Int) (hv9 : I32 v) (hvm : 0 ≤ σ 22 0 10 ∧ σ 22 0 10 ≤ 60) : KI l yX4_isVoucher wsX4_isVoucher ({ frames := 1, cells := 0, slots := 0, locals := 22 } : Room) cy D ad σ [.ref (ad 22 0), .int (iI v)] (fun z σ' => z = (if 0 ≤ v ∧ v < σ 22 0 10 then 1 else 0) ∧ σ' = σ) 0 0 := by
  refine KI.of (lv0 := [some (.ref (ad 22 0)), some (.int (iI v))]) hfl hI (by decide) rfl (Nat.le_of_ble_eq_true rfl) rfl ?_
  intro p e s m args below meth c C hr
  refine J_iload_1 C dX4_isVoucher_0 ?_
  refine J_iconst C dX4_isVoucher_1 ?_
  refine J_aload_0 C dX4_isVoucher_2 ?_
  refine J_get_4_10 C in_X4_isVoucher_X4 fl_X4_isVoucher_83 (by decide) dX4_isVoucher_3 ?_
  refine J_iconst C dX4_isVoucher_6 ?_
  refine J_isub C dX4_isVoucher_7 ?_
  refine J_KSI C (c_X4_within hfl hI _ v 0 _ hv9 (by omega) (by omega)) (va_cwS 3 C.1.2.2.2.2 gX4_isVoucher_X4_within rfl rfl rfl (by decide +kernel) ⟨Nat.le_of_ble_eq_true rfl, Nat.le_of_ble_eq_true rfl⟩) rfl rfl (Nat.le_of_ble_eq_true rfl) dX4_isVoucher_8 ⟨Nat.le_of_ble_eq_true rfl, Nat.le_of_ble_eq_true rfl⟩ (fun z_8 σ_8 hp => ?_)
  obtain ⟨hz_, hs_⟩ := hp
  have hz_ := hz_.symm
  have hs_ := hs_.symm
  subst hz_
  subst hs_
  refine J_retZ C hr (by split <;> omega) (by decide) (by decide) dX4_isVoucher_11 ?_
  refine ⟨?_, rfl⟩
  (first | rfl | (split <;> split <;> omega))
set_option maxRecDepth 20000 in
theorem in_X4_isCall_X4 : ∀ w ∈ wsX40, w ∈ wsX4_isCall := by decide +kernel
set_option maxRecDepth 20000 in
theorem fl_X4_isCall_86 : Cond.fieldLink RX4 86 "JointVentureModel" "calls" "I" ∈ wsX4_isCall := by decide +kernel
set_option maxHeartbeats 4000000 in
set_option maxRecDepth 100000 in
theorem c_X4_isCall {l : Launch} (hfl : l.stackTraces = false) {cy : Nat → ClassId} {D : va_G} {ad : Ad} (hI : Inj ad) (σ : Sg) (k9 : Int) (hk9 : I32 k9) (hcm : 0 ≤ σ 22 0 13 ∧ σ 22 0 13 ≤ 20) : KI l yX4_isCall wsX4_isCall ({ frames := 1, cells := 0, slots := 0, locals := 22 } : Room) cy D ad σ [.ref (ad 22 0), .int (iI k9)] (fun z σ' => z = (if 0 ≤ k9 ∧ k9 < σ 22 0 13 then 1 else 0) ∧ σ' = σ) 0 0 := by
  refine KI.of (lv0 := [some (.ref (ad 22 0)), some (.int (iI k9))]) hfl hI (by decide) rfl (Nat.le_of_ble_eq_true rfl) rfl ?_
  intro p e s m args below meth c C hr
  refine J_iload_1 C dX4_isCall_0 ?_
  refine J_iconst C dX4_isCall_1 ?_
  refine J_aload_0 C dX4_isCall_2 ?_
  refine J_get_4_13 C in_X4_isCall_X4 fl_X4_isCall_86 (by decide) dX4_isCall_3 ?_
  refine J_iconst C dX4_isCall_6 ?_
  refine J_isub C dX4_isCall_7 ?_
  refine J_KSI C (c_X4_within hfl hI _ k9 0 _ hk9 (by omega) (by omega)) (va_cwS 3 C.1.2.2.2.2 gX4_isCall_X4_within rfl rfl rfl (by decide +kernel) ⟨Nat.le_of_ble_eq_true rfl, Nat.le_of_ble_eq_true rfl⟩) rfl rfl (Nat.le_of_ble_eq_true rfl) dX4_isCall_8 ⟨Nat.le_of_ble_eq_true rfl, Nat.le_of_ble_eq_true rfl⟩ (fun z_8 σ_8 hp => ?_)
  obtain ⟨hz_, hs_⟩ := hp
  have hz_ := hz_.symm
  have hs_ := hs_.symm
  subst hz_
  subst hs_
  refine J_retZ C hr (by split <;> omega) (by decide) (by decide) dX4_isCall_11 ?_
  refine ⟨?_, rfl⟩
  (first | rfl | (split <;> split <;> omega))
set_option maxRecDepth 20000 in
theorem w_X4_isAmount_c89 : Cond.constant RX4 89 (iI (10000000)) ∈ wsX4_isAmount := by decide +kernel
set_option maxHeartbeats 4000000 in
set_option maxRecDepth 100000 in
theorem c_X4_isAmount {l : Launch} (hfl : l.stackTraces = false) {cy : Nat → ClassId} {D : va_G} {ad : Ad} (hI : Inj ad) (σ : Sg) (a9 : Int) (ia : I32 a9) : KI l yX4_isAmount wsX4_isAmount ({ frames := 1, cells := 0, slots := 0, locals := 22 } : Room) cy D ad σ [.int (iI a9)] (fun z σ' => z = (if 1 ≤ a9 ∧ a9 ≤ 10000000 then 1 else 0) ∧ σ' = σ) 0 0 := by
  refine KI.of (lv0 := [some (.int (iI a9))]) hfl hI (by decide) rfl (Nat.le_of_ble_eq_true rfl) rfl ?_
  intro p e s m args below meth c C hr
  refine J_iload_0 C dX4_isAmount_0 ?_
  refine J_iconst C dX4_isAmount_1 ?_
  refine J_ldc C w_X4_isAmount_c89 dX4_isAmount_2 ?_
  refine J_KSI C (c_X4_within hfl hI _ a9 1 10000000 ia (by omega) (by omega)) (va_cwS 3 C.1.2.2.2.2 gX4_isAmount_X4_within rfl rfl rfl (by decide +kernel) ⟨Nat.le_of_ble_eq_true rfl, Nat.le_of_ble_eq_true rfl⟩) rfl rfl (Nat.le_of_ble_eq_true rfl) dX4_isAmount_4 ⟨Nat.le_of_ble_eq_true rfl, Nat.le_of_ble_eq_true rfl⟩ (fun z_4 σ_4 hp => ?_)
  obtain ⟨hz_, hs_⟩ := hp
  have hz_ := hz_.symm
  have hs_ := hs_.symm
  subst hz_
  subst hs_
  refine J_retZ C hr (by split <;> omega) (by decide) (by decide) dX4_isAmount_7 ?_
  refine ⟨?_, rfl⟩
  (first | rfl | (split <;> split <;> omega))
set_option maxHeartbeats 4000000 in
set_option maxRecDepth 100000 in
theorem c_X4_isShare {l : Launch} (hfl : l.stackTraces = false) {cy : Nat → ClassId} {D : va_G} {ad : Ad} (hI : Inj ad) (σ : Sg) (a9 : Int) (ia : I32 a9) : KI l yX4_isShare wsX4_isShare ({ frames := 1, cells := 0, slots := 0, locals := 22 } : Room) cy D ad σ [.int (iI a9)] (fun z σ' => z = (if 0 ≤ a9 ∧ a9 ≤ 10000 then 1 else 0) ∧ σ' = σ) 0 0 := by
  refine KI.of (lv0 := [some (.int (iI a9))]) hfl hI (by decide) rfl (Nat.le_of_ble_eq_true rfl) rfl ?_
  intro p e s m args below meth c C hr
  refine J_iload_0 C dX4_isShare_0 ?_
  refine J_iconst C dX4_isShare_1 ?_
  refine J_sipush C (by decide) dX4_isShare_2 ?_
  refine J_KSI C (c_X4_within hfl hI _ a9 0 10000 ia (by omega) (by omega)) (va_cwS 3 C.1.2.2.2.2 gX4_isShare_X4_within rfl rfl rfl (by decide +kernel) ⟨Nat.le_of_ble_eq_true rfl, Nat.le_of_ble_eq_true rfl⟩) rfl rfl (Nat.le_of_ble_eq_true rfl) dX4_isShare_5 ⟨Nat.le_of_ble_eq_true rfl, Nat.le_of_ble_eq_true rfl⟩ (fun z_5 σ_5 hp => ?_)
  obtain ⟨hz_, hs_⟩ := hp
  have hz_ := hz_.symm
  have hs_ := hs_.symm
  subst hz_
  subst hs_
  refine J_retZ C hr (by split <;> omega) (by decide) (by decide) dX4_isShare_8 ?_
  refine ⟨?_, rfl⟩
  (first | rfl | (split <;> split <;> omega))
set_option maxRecDepth 20000 in
theorem in_X4_divides_X4 : ∀ w ∈ wsX40, w ∈ wsX4_divides := by decide +kernel
set_option maxRecDepth 20000 in
theorem fl_X4_divides_64 : Cond.fieldLink RX4 64 "JointVentureModel" "parts" "[I" ∈ wsX4_divides := by decide +kernel
set_option maxRecDepth 20000 in
theorem fl_X4_divides_61 : Cond.fieldLink RX4 61 "JointVentureModel" "weights" "[I" ∈ wsX4_divides := by decide +kernel
set_option maxRecDepth 20000 in
theorem fl_X4_divides_70 : Cond.fieldLink RX4 70 "JointVentureModel" "rests" "[J" ∈ wsX4_divides := by decide +kernel
set_option maxHeartbeats 4000000 in
set_option maxRecDepth 100000 in
theorem c_X4_divides {l : Launch} (hfl : l.stackTraces = false) {cy : Nat → ClassId} {D : va_G} {ad : Ad} (hI : Inj ad) (σ : Sg) (a9 : Int) (ha : 0 ≤ a9 ∧ a9 < 2147483648) (hw : Wt (σ 38 0)) (hwb : ∀ q, 0 ≤ q → q < 5 → σ 38 0 q < 2147483648) : KV l yX4_divides wsX4_divides ({ frames := 0, cells := 0, slots := 0, locals := 0 } : Room) cy D ad σ [.ref (ad 22 0), .long (lI a9)] (fun σ' => (∀ (a : Nat) (b c : Int), a ≠ 39 → a ≠ 41 → σ' a b c = σ a b c) ∧ ∀ q, 0 ≤ q → q < 5 → σ' 39 0 q = dv a9 (σ 38 0) q) 0 0 := by
  refine KV.of (lv0 := [some (.ref (ad 22 0)), some (.long (lI a9)), none, none, none, none, none, none, none, none]) hfl hI (by decide) rfl (Nat.le_of_ble_eq_true rfl) rfl ?_
  intro p e s m args below meth c C hr
  have hS := hw.2
  have hw0 := hw.1
  have hl := dl_rng a9 hw
  have hSb : s5 (σ 38 0) < 10737418240 := by have b0 := hwb 0 (by decide) (by decide); have b1 := hwb 1 (by decide) (by decide); have b2 := hwb 2 (by decide) (by decide); have b3 := hwb 3 (by decide) (by decide); have b4 := hwb 4 (by decide) (by decide); unfold s5; omega
  have hdq : ∀ q, 0 ≤ q → q < 5 → 0 ≤ dq a9 (σ 38 0) q ∧ dq a9 (σ 38 0) q ≤ a9 := fun q a b => ⟨dq_nn ha.1 hw a b, by have := dv_le ha.1 hw q a b; unfold dv at this; split at this <;> omega⟩
  have K_101 : ∀ (n_ : Nat) (i : Int) (σ1 : Sg), (0 ≤ i) → (i ≤ 5) → (5 - i < n_) → (σ1 = sf (sf (sf σ 39 0 5 (dq a9 (σ 38 0))) 41 0 5 (dr a9 (σ 38 0))) 39 0 i (dv a9 (σ 38 0))) → JW p l e ({ frames := 0, cells := 0, slots := 0, locals := 0 } : Room) s m args below meth c cy D ad (Ar ad s.heap.size) 10 0 0 (MQ below (QcV cy D ad (fun σ' => (∀ (a : Nat) (b c : Int), a ≠ 39 → a ≠ 41 → σ' a b c = σ a b c) ∧ ∀ q, 0 ≤ q → q < 5 → σ' 39 0 q = dv a9 (σ 38 0) q) s.heap.size) args s 0 0 (Ar ad s.heap.size)) σ1 101 [some (.ref (ad 22 0)), some (.long (lI a9)), none, some (.long (lI (s5 (σ 38 0)))), none, some (.long (lI (dl a9 (σ 38 0)))), none, some (.int (iI i)), none, none] [] := by
    intro n_
    induction n_ with
    | zero => intro i σ1 g0 g1 g2 g3; omega
    | succ n_ ih_101 =>
      intro i σ1 g0 g1 g2 g3
      have h41 : ∀ x, 0 ≤ x → x < 5 → σ1 41 0 x = dr a9 (σ 38 0) x := fun x a b => by rw [g3, sf_nk (by decide), sf_at a b]
      have h38 : ∀ x, σ1 38 0 x = σ 38 0 x := fun x => by rw [g3, sf_nk (by decide), sf_nk (by decide), sf_nk (by decide)]
      have h39 : i < 5 → σ1 39 0 i = dq a9 (σ 38 0) i := fun h => by rw [g3, sf_ge (Int.le_refl _), sf_nk (by decide), sf_at g0 h]
      have hrr : ∀ x, 0 ≤ x → x < 5 → I64 (σ1 41 0 x) := fun x a b => by rw [h41 x a b]; have := dr_nn a9 hw x; omega
      have K_113 : ∀ (m_ : Nat) (t : Int) (j : Int), (0 ≤ j) → (j ≤ 5) → (5 - j < m_) → (∃ x : Nat, j = (x : Int) ∧ t = sN (bf (dr a9 (σ 38 0)) i) x) → (i < 5) → JW p l e ({ frames := 0, cells := 0, slots := 0, locals := 0 } : Room) s m args below meth c cy D ad (Ar ad s.heap.size) 10 0 0 (MQ below (QcV cy D ad (fun σ' => (∀ (a : Nat) (b c : Int), a ≠ 39 → a ≠ 41 → σ' a b c = σ a b c) ∧ ∀ q, 0 ≤ q → q < 5 → σ' 39 0 q = dv a9 (σ 38 0) q) s.heap.size) args s 0 0 (Ar ad s.heap.size)) σ1 113 [some (.ref (ad 22 0)), some (.long (lI a9)), none, some (.long (lI (s5 (σ 38 0)))), none, some (.long (lI (dl a9 (σ 38 0)))), none, some (.int (iI i)), some (.int (iI t)), some (.int (iI j))] [] := by
        intro m_
        induction m_ with
        | zero => intro t j u0 u1 u2 u3 u4; omega
        | succ m_ ih_113 =>
          intro t j u0 u1 u2 u3 u4
          obtain ⟨x, rfl, rfl⟩ := u3
          refine J_iload9 C dX4_divides_113 ?_
          refine J_iconst C dX4_divides_115 ?_
          refine J_icmp_ge (tgt := 178) C (by omega) (by omega) dX4_divides_116 (by decide) (fun c_116 => ?_) (fun c_116 => ?_)
          · have e5 : x = 5 := by omega
            subst e5
            have eah : sN (bf (dr a9 (σ 38 0)) i) 5 = ahd (dr a9 (σ 38 0)) i := sN_5 _
            rw [eah]
            have hah : 0 ≤ ahd (dr a9 (σ 38 0)) i ∧ ahd (dr a9 (σ 38 0)) i ≤ 5 := by
              have r := fun y => (show 0 ≤ bf (dr a9 (σ 38 0)) i y ∧ bf (dr a9 (σ 38 0)) i y ≤ 1 by unfold bf; split <;> omega)
              have r0 := r 0; have r1 := r 1; have r2 := r 2; have r3 := r 3; have r4 := r 4
              unfold ahd s5
              omega
            refine J_aload_0 C dX4_divides_178 ?_
            refine J_get_4_21 C in_X4_divides_X4 fl_X4_divides_64 (by decide) dX4_divides_179 ?_
            refine J_iload7 C dX4_divides_182 ?_
            refine J_dup2 C rfl rfl dX4_divides_184 ?_
            refine J_iaload C k39 (by decide) (by omega) dX4_divides_185 ?_
            refine J_iload8 C dX4_divides_186 ?_
            refine J_i2l C (by omega) dX4_divides_188 ?_
            refine J_lload5 C dX4_divides_189 ?_
            refine J_lif_ge (tgt := 209) C (by omega) (by omega) dX4_divides_191 dX4_divides_192 (by decide) (fun c_191 => ?_) (fun c_191 => ?_)
            · refine J_iconst C dX4_divides_209 ?_
              refine J_iadd C dX4_divides_210 ?_
              refine J_iastore C k39 (by decide) (by omega) dX4_divides_211 ?_
              refine J_iinc7 C (by decide) rfl dX4_divides_212 ?_
              refine J_goto (tgt := 101) C dX4_divides_215 (by decide) ?_
              -- to the cut at 101
              refine J_fg8 ?_
              refine J_fg9 ?_
              refine ih_101 _ _ ?_ ?_ ?_ ?_
              · omega
              · omega
              · omega
              · rw [h39 (by omega), g3]
                refine sf_su g0 ?_
                have hw9 := hw0 i (by omega) (by omega)
                have e38 := h38 i
                unfold dv
                by_cases hlt : ahd (dr a9 (σ 38 0)) i < dl a9 (σ 38 0)
                · have hne : σ 38 0 i ≠ 0 := fun z => by have := ahd_w0 a9 hw z; omega
                  rw [if_pos hlt] <;> omega
                · rw [if_neg hlt] <;> omega
            · refine J_aload_0 C dX4_divides_195 ?_
              refine J_get_4_20 C in_X4_divides_X4 fl_X4_divides_61 (by decide) dX4_divides_196 ?_
              refine J_iload7 C dX4_divides_199 ?_
              refine J_iaload C k38 (by decide) (by omega) dX4_divides_201 ?_
              refine J_if_le (tgt := 209) C (by rw [h38]; have := hw0 i (by omega) (by omega); have := hwb i (by omega) (by omega); omega) dX4_divides_202 (by decide) (fun c_202 => ?_) (fun c_202 => ?_)
              · refine J_iconst C dX4_divides_209 ?_
                refine J_iadd C dX4_divides_210 ?_
                refine J_iastore C k39 (by decide) (by omega) dX4_divides_211 ?_
                refine J_iinc7 C (by decide) rfl dX4_divides_212 ?_
                refine J_goto (tgt := 101) C dX4_divides_215 (by decide) ?_
                -- to the cut at 101
                refine J_fg8 ?_
                refine J_fg9 ?_
                refine ih_101 _ _ ?_ ?_ ?_ ?_
                · omega
                · omega
                · omega
                · rw [h39 (by omega), g3]
                  refine sf_su g0 ?_
                  have hw9 := hw0 i (by omega) (by omega)
                  have e38 := h38 i
                  unfold dv
                  by_cases hlt : ahd (dr a9 (σ 38 0)) i < dl a9 (σ 38 0)
                  · have hne : σ 38 0 i ≠ 0 := fun z => by have := ahd_w0 a9 hw z; omega
                    rw [if_pos hlt] <;> omega
                  · rw [if_neg hlt] <;> omega
              · refine J_iconst C dX4_divides_205 ?_
                refine J_goto (tgt := 210) C dX4_divides_206 (by decide) ?_
                refine J_iadd C dX4_divides_210 ?_
                refine J_iastore C k39 (by decide) (by omega) dX4_divides_211 ?_
                refine J_iinc7 C (by decide) rfl dX4_divides_212 ?_
                refine J_goto (tgt := 101) C dX4_divides_215 (by decide) ?_
                -- to the cut at 101
                refine J_fg8 ?_
                refine J_fg9 ?_
                refine ih_101 _ _ ?_ ?_ ?_ ?_
                · omega
                · omega
                · omega
                · rw [h39 (by omega), g3]
                  refine sf_su g0 ?_
                  have hw9 := hw0 i (by omega) (by omega)
                  have e38 := h38 i
                  unfold dv
                  by_cases hlt : ahd (dr a9 (σ 38 0)) i < dl a9 (σ 38 0)
                  · have hne : σ 38 0 i ≠ 0 := fun z => by have := ahd_w0 a9 hw z; omega
                    rw [if_pos hlt] <;> omega
                  · rw [if_neg hlt] <;> omega
          · refine J_iload8 C dX4_divides_119 ?_
            refine J_aload_0 C dX4_divides_121 ?_
            refine J_get_4_23 C in_X4_divides_X4 fl_X4_divides_70 (by decide) dX4_divides_122 ?_
            refine J_iload9 C dX4_divides_125 ?_
            refine J_laload C k41 (by decide) (by omega) dX4_divides_127 ?_
            refine J_aload_0 C dX4_divides_128 ?_
            refine J_get_4_23 C in_X4_divides_X4 fl_X4_divides_70 (by decide) dX4_divides_129 ?_
            refine J_iload7 C dX4_divides_132 ?_
            refine J_laload C k41 (by decide) (by omega) dX4_divides_134 ?_
            refine J_lif_gt (tgt := 164) C (by exact hrr _ (by omega) (by omega)) (by exact hrr _ (by omega) (by omega)) dX4_divides_135 dX4_divides_136 (by decide) (fun c_135 => ?_) (fun c_135 => ?_)
            · refine J_iconst C dX4_divides_164 ?_
              refine J_goto (tgt := 169) C dX4_divides_165 (by decide) ?_
              refine J_iadd C dX4_divides_169 ?_
              refine J_istore8 C (by decide) rfl dX4_divides_170 ?_
              refine J_iinc9 C (by decide) rfl dX4_divides_172 ?_
              refine J_goto (tgt := 113) C dX4_divides_175 (by decide) ?_
              -- to the cut at 113
              refine ih_113 _ _ ?_ ?_ ?_ ?_ ?_
              · omega
              · omega
              · omega
              · refine ⟨x + 1, by omega, ?_⟩
                have e1 := h41 x (by omega) (by omega)
                have e2 := h41 i (by omega) (by omega)
                simp only [sN, bf]
                split <;> omega
              · exact u4
            · refine J_aload_0 C dX4_divides_139 ?_
              refine J_get_4_23 C in_X4_divides_X4 fl_X4_divides_70 (by decide) dX4_divides_140 ?_
              refine J_iload9 C dX4_divides_143 ?_
              refine J_laload C k41 (by decide) (by omega) dX4_divides_145 ?_
              refine J_aload_0 C dX4_divides_146 ?_
              refine J_get_4_23 C in_X4_divides_X4 fl_X4_divides_70 (by decide) dX4_divides_147 ?_
              refine J_iload7 C dX4_divides_150 ?_
              refine J_laload C k41 (by decide) (by omega) dX4_divides_152 ?_
              refine J_lif_ne (tgt := 168) C (by exact hrr _ (by omega) (by omega)) (by exact hrr _ (by omega) (by omega)) dX4_divides_153 dX4_divides_154 (by decide) (fun c_153 => ?_) (fun c_153 => ?_)
              · refine J_iconst C dX4_divides_168 ?_
                refine J_iadd C dX4_divides_169 ?_
                refine J_istore8 C (by decide) rfl dX4_divides_170 ?_
                refine J_iinc9 C (by decide) rfl dX4_divides_172 ?_
                refine J_goto (tgt := 113) C dX4_divides_175 (by decide) ?_
                -- to the cut at 113
                refine ih_113 _ _ ?_ ?_ ?_ ?_ ?_
                · omega
                · omega
                · omega
                · refine ⟨x + 1, by omega, ?_⟩
                  have e1 := h41 x (by omega) (by omega)
                  have e2 := h41 i (by omega) (by omega)
                  simp only [sN, bf]
                  split <;> omega
                · exact u4
              · refine J_iload9 C dX4_divides_157 ?_
                refine J_iload7 C dX4_divides_159 ?_
                refine J_icmp_ge (tgt := 168) C (by omega) (by omega) dX4_divides_161 (by decide) (fun c_161 => ?_) (fun c_161 => ?_)
                · refine J_iconst C dX4_divides_168 ?_
                  refine J_iadd C dX4_divides_169 ?_
                  refine J_istore8 C (by decide) rfl dX4_divides_170 ?_
                  refine J_iinc9 C (by decide) rfl dX4_divides_172 ?_
                  refine J_goto (tgt := 113) C dX4_divides_175 (by decide) ?_
                  -- to the cut at 113
                  refine ih_113 _ _ ?_ ?_ ?_ ?_ ?_
                  · omega
                  · omega
                  · omega
                  · refine ⟨x + 1, by omega, ?_⟩
                    have e1 := h41 x (by omega) (by omega)
                    have e2 := h41 i (by omega) (by omega)
                    simp only [sN, bf]
                    split <;> omega
                  · exact u4
                · refine J_iconst C dX4_divides_164 ?_
                  refine J_goto (tgt := 169) C dX4_divides_165 (by decide) ?_
                  refine J_iadd C dX4_divides_169 ?_
                  refine J_istore8 C (by decide) rfl dX4_divides_170 ?_
                  refine J_iinc9 C (by decide) rfl dX4_divides_172 ?_
                  refine J_goto (tgt := 113) C dX4_divides_175 (by decide) ?_
                  -- to the cut at 113
                  refine ih_113 _ _ ?_ ?_ ?_ ?_ ?_
                  · omega
                  · omega
                  · omega
                  · refine ⟨x + 1, by omega, ?_⟩
                    have e1 := h41 x (by omega) (by omega)
                    have e2 := h41 i (by omega) (by omega)
                    simp only [sN, bf]
                    split <;> omega
                  · exact u4
      refine J_iload7 C dX4_divides_101 ?_
      refine J_iconst C dX4_divides_103 ?_
      refine J_icmp_ge (tgt := 218) C (by omega) (by omega) dX4_divides_104 (by decide) (fun c_104 => ?_) (fun c_104 => ?_)
      · refine J_retV C hr (by decide) (by decide) dX4_divides_218 ?_
        have e5 : i = 5 := by omega
        subst e5
        exact ⟨fun a b c h1 h2 => by rw [g3, sf_nk h1, sf_nk h2, sf_nk h1], fun q a b => by rw [g3, sf_at a b]⟩
      · refine J_iconst C dX4_divides_107 ?_
        refine J_istore8 C (by decide) rfl dX4_divides_108 ?_
        refine J_iconst C dX4_divides_110 ?_
        refine J_istore9 C (by decide) rfl dX4_divides_111 ?_
        -- to the cut at 113
        refine K_113 6 _ _ ?_ ?_ ?_ ?_ ?_
        · decide
        · decide
        · decide
        · exact ⟨0, rfl, rfl⟩
        · omega
  have K_34 : ∀ (n_ : Nat) (lf : Int) (i : Int) (σ1 : Sg), (0 ≤ i) → (i ≤ 5) → (5 - i < n_) → (∃ x : Nat, i = (x : Int) ∧ lf = a9 - sN (dq a9 (σ 38 0)) x) → (σ1 = sf (sf σ 39 0 i (dq a9 (σ 38 0))) 41 0 i (dr a9 (σ 38 0))) → JW p l e ({ frames := 0, cells := 0, slots := 0, locals := 0 } : Room) s m args below meth c cy D ad (Ar ad s.heap.size) 10 0 0 (MQ below (QcV cy D ad (fun σ' => (∀ (a : Nat) (b c : Int), a ≠ 39 → a ≠ 41 → σ' a b c = σ a b c) ∧ ∀ q, 0 ≤ q → q < 5 → σ' 39 0 q = dv a9 (σ 38 0) q) s.heap.size) args s 0 0 (Ar ad s.heap.size)) σ1 34 [some (.ref (ad 22 0)), some (.long (lI a9)), none, some (.long (lI (s5 (σ 38 0)))), none, some (.long (lI lf)), none, some (.int (iI i)), none, none] [] := by
    intro n_
    induction n_ with
    | zero => intro lf i σ1 g0 g1 g2 g3 g4; omega
    | succ n_ ih_34 =>
      intro lf i σ1 g0 g1 g2 g3 g4
      obtain ⟨x, rfl, rfl⟩ := g3
      have h38 : ∀ y, σ1 38 0 y = σ 38 0 y := fun y => by rw [g4, sf_nk (by decide), sf_nk (by decide)]
      refine J_iload7 C dX4_divides_34 ?_
      refine J_iconst C dX4_divides_36 ?_
      refine J_icmp_ge (tgt := 98) C (by omega) (by omega) dX4_divides_37 (by decide) (fun c_37 => ?_) (fun c_37 => ?_)
      · have e5 : x = 5 := by omega
        subst e5
        rw [sN_5, show a9 - s5 (dq a9 (σ 38 0)) = dl a9 (σ 38 0) from rfl]
        refine J_iconst C dX4_divides_98 ?_
        refine J_istore7 C (by decide) rfl dX4_divides_99 ?_
        -- to the cut at 101
        refine K_101 6 _ _ ?_ ?_ ?_ ?_
        · decide
        · decide
        · decide
        · rw [sf_0, g4]; rfl
      · refine J_aload_0 C dX4_divides_40 ?_
        refine J_get_4_21 C in_X4_divides_X4 fl_X4_divides_64 (by decide) dX4_divides_41 ?_
        refine J_iload7 C dX4_divides_44 ?_
        refine J_lload_1 C dX4_divides_46 ?_
        refine J_aload_0 C dX4_divides_47 ?_
        refine J_get_4_20 C in_X4_divides_X4 fl_X4_divides_61 (by decide) dX4_divides_48 ?_
        refine J_iload7 C dX4_divides_51 ?_
        refine J_iaload C k38 (by decide) (by omega) dX4_divides_53 ?_
        rw [h38]
        refine J_i2l C (by have := hw0 x (by omega) (by omega); have := hwb x (by omega) (by omega); omega) dX4_divides_54 ?_
        refine J_lmul C dX4_divides_55 ?_
        refine J_lload_3 C dX4_divides_56 ?_
        refine J_ldiv C (by exact mul_rng ha ⟨hw0 x (by omega) (by omega), hwb x (by omega) (by omega)⟩) (by omega) dX4_divides_57 ?_
        refine J_l2i C dX4_divides_58 ?_
        refine J_iastore C k39 (by decide) (by omega) dX4_divides_59 ?_
        refine J_aload_0 C dX4_divides_60 ?_
        refine J_get_4_23 C in_X4_divides_X4 fl_X4_divides_70 (by decide) dX4_divides_61 ?_
        refine J_iload7 C dX4_divides_64 ?_
        refine J_lload_1 C dX4_divides_66 ?_
        refine J_aload_0 C dX4_divides_67 ?_
        refine J_get_4_20 C in_X4_divides_X4 fl_X4_divides_61 (by decide) dX4_divides_68 ?_
        refine J_iload7 C dX4_divides_71 ?_
        refine J_iaload C k38 (by decide) (by omega) dX4_divides_73 ?_
        rw [su_nk (by decide), h38]
        refine J_i2l C (by have := hw0 x (by omega) (by omega); have := hwb x (by omega) (by omega); omega) dX4_divides_74 ?_
        refine J_lmul C dX4_divides_75 ?_
        refine J_lload_3 C dX4_divides_76 ?_
        refine J_lrem C (by exact mul_rng ha ⟨hw0 x (by omega) (by omega), hwb x (by omega) (by omega)⟩) (by omega) dX4_divides_77 ?_
        refine J_lastore C k41 (by decide) (by omega) dX4_divides_78 ?_
        refine J_lload5 C dX4_divides_79 ?_
        refine J_aload_0 C dX4_divides_81 ?_
        refine J_get_4_21 C in_X4_divides_X4 fl_X4_divides_64 (by decide) dX4_divides_82 ?_
        refine J_iload7 C dX4_divides_85 ?_
        refine J_iaload C k39 (by decide) (by omega) dX4_divides_87 ?_
        refine J_i2l C (by rw [su_nk (by decide), su_at]; have := hdq x (by omega) (by omega); unfold dq at this; omega) dX4_divides_88 ?_
        refine J_lsub C dX4_divides_89 ?_
        refine J_lstore5 C (by decide) rfl dX4_divides_90 ?_
        refine J_iinc7 C (by decide) rfl dX4_divides_92 ?_
        refine J_goto (tgt := 34) C dX4_divides_95 (by decide) ?_
        -- to the cut at 34
        refine ih_34 _ _ _ ?_ ?_ ?_ ?_ ?_
        · omega
        · omega
        · omega
        · refine ⟨x + 1, by omega, ?_⟩
          simp only [sN]
          rw [su_nk (by decide), su_at]
          simp only [dq]
          omega
        · rw [g4]
          exact sf2_st g0 (by decide) rfl rfl
  have K_8 : ∀ (n_ : Nat) (t : Int) (i : Int), (0 ≤ i) → (i ≤ 5) → (5 - i < n_) → (∃ x : Nat, i = (x : Int) ∧ t = sN (σ 38 0) x) → JW p l e ({ frames := 0, cells := 0, slots := 0, locals := 0 } : Room) s m args below meth c cy D ad (Ar ad s.heap.size) 10 0 0 (MQ below (QcV cy D ad (fun σ' => (∀ (a : Nat) (b c : Int), a ≠ 39 → a ≠ 41 → σ' a b c = σ a b c) ∧ ∀ q, 0 ≤ q → q < 5 → σ' 39 0 q = dv a9 (σ 38 0) q) s.heap.size) args s 0 0 (Ar ad s.heap.size)) σ 8 [some (.ref (ad 22 0)), some (.long (lI a9)), none, some (.long (lI t)), none, some (.long (lI a9)), none, some (.int (iI i)), none, none] [] := by
    intro n_
    induction n_ with
    | zero => intro t i g0 g1 g2 g3; omega
    | succ n_ ih_8 =>
      intro t i g0 g1 g2 g3
      obtain ⟨x, rfl, rfl⟩ := g3
      refine J_iload7 C dX4_divides_8 ?_
      refine J_iconst C dX4_divides_10 ?_
      refine J_icmp_ge (tgt := 31) C (by omega) (by omega) dX4_divides_11 (by decide) (fun c_11 => ?_) (fun c_11 => ?_)
      · have e5 : x = 5 := by omega
        subst e5
        rw [sN_5]
        refine J_iconst C dX4_divides_31 ?_
        refine J_istore7 C (by decide) rfl dX4_divides_32 ?_
        -- to the cut at 34
        refine K_34 6 _ _ _ ?_ ?_ ?_ ?_ ?_
        · decide
        · decide
        · decide
        · exact ⟨0, rfl, by simp [sN]⟩
        · rw [sf_0, sf_0]
      · refine J_lload_3 C dX4_divides_14 ?_
        refine J_aload_0 C dX4_divides_15 ?_
        refine J_get_4_20 C in_X4_divides_X4 fl_X4_divides_61 (by decide) dX4_divides_16 ?_
        refine J_iload7 C dX4_divides_19 ?_
        refine J_iaload C k38 (by decide) (by omega) dX4_divides_21 ?_
        refine J_i2l C (by have := hw0 x (by omega) (by omega); have := hwb x (by omega) (by omega); omega) dX4_divides_22 ?_
        refine J_ladd C dX4_divides_23 ?_
        refine J_lstore_3 C (by decide) rfl dX4_divides_24 ?_
        refine J_iinc7 C (by decide) rfl dX4_divides_25 ?_
        refine J_goto (tgt := 8) C dX4_divides_28 (by decide) ?_
        -- to the cut at 8
        refine ih_8 _ _ ?_ ?_ ?_ ?_
        · omega
        · omega
        · omega
        · exact ⟨x + 1, by omega, rfl⟩
  refine J_lconst (z := 0) C (by decide) dX4_divides_0 ?_
  refine J_lstore_3 C (by decide) rfl dX4_divides_1 ?_
  refine J_lload_1 C dX4_divides_2 ?_
  refine J_lstore5 C (by decide) rfl dX4_divides_3 ?_
  refine J_iconst C dX4_divides_5 ?_
  refine J_istore7 C (by decide) rfl dX4_divides_6 ?_
  -- to the cut at 8
  refine K_8 6 _ _ ?_ ?_ ?_ ?_
  · decide
  · decide
  · decide
  · exact ⟨0, rfl, rfl⟩
