set_option maxRecDepth 20000 in
theorem in_X3_setShares_X3 : ∀ w ∈ wsX30, w ∈ wsX3_setShares := by decide +kernel
set_option maxRecDepth 20000 in
theorem fl_X3_setShares_26 : Cond.fieldLink RX3 26 "JointVenture" "wellCount" "I" ∈ wsX3_setShares := by decide +kernel
set_option maxRecDepth 20000 in
theorem fl_X3_setShares_9 : Cond.fieldLink RX3 9 "JointVenture" "shares" "[I" ∈ wsX3_setShares := by decide +kernel
set_option maxRecDepth 20000 in
theorem w_X3_setShares_k79 : Cond.classLink RX3 79 nISE ∈ wsX3_setShares := by decide +kernel
set_option maxRecDepth 20000 in
theorem w_X3_setShares_i79 : Cond.initialized nISE ∈ wsX3_setShares := by decide +kernel
set_option maxRecDepth 20000 in
theorem w_X3_setShares_k72 : Cond.classLink RX3 72 nIAE ∈ wsX3_setShares := by decide +kernel
set_option maxRecDepth 20000 in
theorem w_X3_setShares_i72 : Cond.initialized nIAE ∈ wsX3_setShares := by decide +kernel
set_option maxHeartbeats 4000000 in
set_option maxRecDepth 100000 in
theorem c_X3_setShares {l : Launch} (hfl : l.stackTraces = false) {cy : Nat → ClassId} {D : va_G} {ad : Ad} (hI : Inj ad) (σ : Sg) (a0 a1 a2 a3 a4 : Int) (i0 : I32 a0) (i1 : I32 a1) (i2 : I32 a2) (i3 : I32 a3) (i4 : I32 a4) (hwc : 0 ≤ σ 0 0 4 ∧ σ 0 0 4 ≤ 6) : XV l yX3_setShares wsX3_setShares ({ frames := 7, cells := 6, slots := 36, locals := 105 } : Room) cy D ad σ [.ref (ad 0 0), .int (iI a0), .int (iI a1), .int (iI a2), .int (iI a3), .int (iI a4)] (fun σ' => σ' = su (su (su (su (su σ 1 0 0 a0) 1 0 1 a1) 1 0 2 a2) 1 0 3 a3) 1 0 4 a4 ∧ (((0 ≤ a0 ∧ a0 ≤ 10000) ∧ (0 ≤ a1 ∧ a1 ≤ 10000) ∧ (0 ≤ a2 ∧ a2 ≤ 10000) ∧ (0 ≤ a3 ∧ a3 ≤ 10000) ∧ (0 ≤ a4 ∧ a4 ≤ 10000)) ∧ a0 + a1 + a2 + a3 + a4 = 10000) ∧ σ 0 0 4 = 0) (fun E σ' => σ' = σ ∧ ((E = nIAE ∧ ¬ (((0 ≤ a0 ∧ a0 ≤ 10000) ∧ (0 ≤ a1 ∧ a1 ≤ 10000) ∧ (0 ≤ a2 ∧ a2 ≤ 10000) ∧ (0 ≤ a3 ∧ a3 ≤ 10000) ∧ (0 ≤ a4 ∧ a4 ≤ 10000)) ∧ a0 + a1 + a2 + a3 + a4 = 10000)) ∨ (E = nISE ∧ (((0 ≤ a0 ∧ a0 ≤ 10000) ∧ (0 ≤ a1 ∧ a1 ≤ 10000) ∧ (0 ≤ a2 ∧ a2 ≤ 10000) ∧ (0 ≤ a3 ∧ a3 ≤ 10000) ∧ (0 ≤ a4 ∧ a4 ≤ 10000)) ∧ a0 + a1 + a2 + a3 + a4 = 10000) ∧ ¬ σ 0 0 4 = 0))) 6 36 := by
  refine XV.of (lv0 := [some (.ref (ad 0 0)), some (.int (iI a0)), some (.int (iI a1)), some (.int (iI a2)), some (.int (iI a3)), some (.int (iI a4))]) hfl hI (by decide) rfl (Nat.le_of_ble_eq_true rfl) rfl ?_
  intro p e s m args below meth c C hr hT
  refine J_aload_0 C dX3_setShares_0 ?_
  refine J_iload_1 C dX3_setShares_1 ?_
  refine J_iconst C dX3_setShares_2 ?_
  refine J_sipush C (by decide) dX3_setShares_3 ?_
  refine J_XVV C (c_X3_requireRange hfl hI _ a0 0 10000 (by omega) (by omega) (by omega)) (cwV 3 C.1.2.2.2.2 gX3_setShares_X3_requireRange rfl rfl rfl (by decide +kernel) ⟨Nat.le_of_ble_eq_true rfl, Nat.le_of_ble_eq_true rfl⟩) rc3 (by decide) rfl rfl (Nat.le_of_ble_eq_true rfl) dX3_setShares_6 ⟨Nat.le_of_ble_eq_true rfl, Nat.le_of_ble_eq_true rfl⟩ (fun E σ_6 hx => ?_) (fun σ_6 hp => ?_)
  · skip
    obtain ⟨rfl, hs_, hn_⟩ := hx
    have hs_ := hs_.symm
    subst hs_
    refine J_out C hT (by decide) (by decide) ?_
    refine ⟨rfl, ?_⟩
    first
      | exact ⟨rfl, by omega⟩
      | exact Or.inl ⟨rfl, by omega⟩
      | exact Or.inr ⟨rfl, by omega⟩
      | exact Or.inr (Or.inl ⟨rfl, by omega⟩)
      | exact Or.inr (Or.inr ⟨rfl, by omega⟩)
  obtain ⟨hs_, h0⟩ := hp
  have hs_ := hs_.symm
  subst hs_
  refine J_aload_0 C dX3_setShares_9 ?_
  refine J_iload_2 C dX3_setShares_10 ?_
  refine J_iconst C dX3_setShares_11 ?_
  refine J_sipush C (by decide) dX3_setShares_12 ?_
  refine J_XVV C (c_X3_requireRange hfl hI _ a1 0 10000 (by omega) (by omega) (by omega)) (cwV 3 C.1.2.2.2.2 gX3_setShares_X3_requireRange rfl rfl rfl (by decide +kernel) ⟨Nat.le_of_ble_eq_true rfl, Nat.le_of_ble_eq_true rfl⟩) rc3 (by decide) rfl rfl (Nat.le_of_ble_eq_true rfl) dX3_setShares_15 ⟨Nat.le_of_ble_eq_true rfl, Nat.le_of_ble_eq_true rfl⟩ (fun E σ_15 hx => ?_) (fun σ_15 hp => ?_)
  · skip
    obtain ⟨rfl, hs_, hn_⟩ := hx
    have hs_ := hs_.symm
    subst hs_
    refine J_out C hT (by decide) (by decide) ?_
    refine ⟨rfl, ?_⟩
    first
      | exact ⟨rfl, by omega⟩
      | exact Or.inl ⟨rfl, by omega⟩
      | exact Or.inr ⟨rfl, by omega⟩
      | exact Or.inr (Or.inl ⟨rfl, by omega⟩)
      | exact Or.inr (Or.inr ⟨rfl, by omega⟩)
  obtain ⟨hs_, h1⟩ := hp
  have hs_ := hs_.symm
  subst hs_
  refine J_aload_0 C dX3_setShares_18 ?_
  refine J_iload_3 C dX3_setShares_19 ?_
  refine J_iconst C dX3_setShares_20 ?_
  refine J_sipush C (by decide) dX3_setShares_21 ?_
  refine J_XVV C (c_X3_requireRange hfl hI _ a2 0 10000 (by omega) (by omega) (by omega)) (cwV 3 C.1.2.2.2.2 gX3_setShares_X3_requireRange rfl rfl rfl (by decide +kernel) ⟨Nat.le_of_ble_eq_true rfl, Nat.le_of_ble_eq_true rfl⟩) rc3 (by decide) rfl rfl (Nat.le_of_ble_eq_true rfl) dX3_setShares_24 ⟨Nat.le_of_ble_eq_true rfl, Nat.le_of_ble_eq_true rfl⟩ (fun E σ_24 hx => ?_) (fun σ_24 hp => ?_)
  · skip
    obtain ⟨rfl, hs_, hn_⟩ := hx
    have hs_ := hs_.symm
    subst hs_
    refine J_out C hT (by decide) (by decide) ?_
    refine ⟨rfl, ?_⟩
    first
      | exact ⟨rfl, by omega⟩
      | exact Or.inl ⟨rfl, by omega⟩
      | exact Or.inr ⟨rfl, by omega⟩
      | exact Or.inr (Or.inl ⟨rfl, by omega⟩)
      | exact Or.inr (Or.inr ⟨rfl, by omega⟩)
  obtain ⟨hs_, h2⟩ := hp
  have hs_ := hs_.symm
  subst hs_
  refine J_aload_0 C dX3_setShares_27 ?_
  refine J_iload4 C dX3_setShares_28 ?_
  refine J_iconst C dX3_setShares_30 ?_
  refine J_sipush C (by decide) dX3_setShares_31 ?_
  refine J_XVV C (c_X3_requireRange hfl hI _ a3 0 10000 (by omega) (by omega) (by omega)) (cwV 3 C.1.2.2.2.2 gX3_setShares_X3_requireRange rfl rfl rfl (by decide +kernel) ⟨Nat.le_of_ble_eq_true rfl, Nat.le_of_ble_eq_true rfl⟩) rc3 (by decide) rfl rfl (Nat.le_of_ble_eq_true rfl) dX3_setShares_34 ⟨Nat.le_of_ble_eq_true rfl, Nat.le_of_ble_eq_true rfl⟩ (fun E σ_34 hx => ?_) (fun σ_34 hp => ?_)
  · skip
    obtain ⟨rfl, hs_, hn_⟩ := hx
    have hs_ := hs_.symm
    subst hs_
    refine J_out C hT (by decide) (by decide) ?_
    refine ⟨rfl, ?_⟩
    first
      | exact ⟨rfl, by omega⟩
      | exact Or.inl ⟨rfl, by omega⟩
      | exact Or.inr ⟨rfl, by omega⟩
      | exact Or.inr (Or.inl ⟨rfl, by omega⟩)
      | exact Or.inr (Or.inr ⟨rfl, by omega⟩)
  obtain ⟨hs_, h3⟩ := hp
  have hs_ := hs_.symm
  subst hs_
  refine J_aload_0 C dX3_setShares_37 ?_
  refine J_iload5 C dX3_setShares_38 ?_
  refine J_iconst C dX3_setShares_40 ?_
  refine J_sipush C (by decide) dX3_setShares_41 ?_
  refine J_XVV C (c_X3_requireRange hfl hI _ a4 0 10000 (by omega) (by omega) (by omega)) (cwV 3 C.1.2.2.2.2 gX3_setShares_X3_requireRange rfl rfl rfl (by decide +kernel) ⟨Nat.le_of_ble_eq_true rfl, Nat.le_of_ble_eq_true rfl⟩) rc3 (by decide) rfl rfl (Nat.le_of_ble_eq_true rfl) dX3_setShares_44 ⟨Nat.le_of_ble_eq_true rfl, Nat.le_of_ble_eq_true rfl⟩ (fun E σ_44 hx => ?_) (fun σ_44 hp => ?_)
  · skip
    obtain ⟨rfl, hs_, hn_⟩ := hx
    have hs_ := hs_.symm
    subst hs_
    refine J_out C hT (by decide) (by decide) ?_
    refine ⟨rfl, ?_⟩
    first
      | exact ⟨rfl, by omega⟩
      | exact Or.inl ⟨rfl, by omega⟩
      | exact Or.inr ⟨rfl, by omega⟩
      | exact Or.inr (Or.inl ⟨rfl, by omega⟩)
      | exact Or.inr (Or.inr ⟨rfl, by omega⟩)
  obtain ⟨hs_, h4⟩ := hp
  have hs_ := hs_.symm
  subst hs_
  refine J_iload_1 C dX3_setShares_47 ?_
  refine J_iload_2 C dX3_setShares_48 ?_
  refine J_iadd C dX3_setShares_49 ?_
  refine J_iload_3 C dX3_setShares_50 ?_
  refine J_iadd C dX3_setShares_51 ?_
  refine J_iload4 C dX3_setShares_52 ?_
  refine J_iadd C dX3_setShares_54 ?_
  refine J_iload5 C dX3_setShares_55 ?_
  refine J_iadd C dX3_setShares_57 ?_
  refine J_sipush C (by decide) dX3_setShares_58 ?_
  refine J_icmp_eq (tgt := 74) C (by omega) (by omega) dX3_setShares_61 (by decide) (fun c_61 => ?_) (fun c_61 => ?_)
  · refine J_aload_0 C dX3_setShares_74 ?_
    refine J_get_3_4 C in_X3_setShares_X3 fl_X3_setShares_26 (by decide) dX3_setShares_75 ?_
    refine J_if_le (tgt := 91) C (by omega) dX3_setShares_78 (by decide) (fun c_78 => ?_) (fun c_78 => ?_)
    · refine J_aload_0 C dX3_setShares_91 ?_
      refine J_get_3_0 C in_X3_setShares_X3 fl_X3_setShares_9 (by decide) dX3_setShares_92 ?_
      refine J_iconst C dX3_setShares_95 ?_
      refine J_iload_1 C dX3_setShares_96 ?_
      refine J_iastore C k1 (by decide) (by omega) dX3_setShares_97 ?_
      refine J_aload_0 C dX3_setShares_98 ?_
      refine J_get_3_0 C in_X3_setShares_X3 fl_X3_setShares_9 (by decide) dX3_setShares_99 ?_
      refine J_iconst C dX3_setShares_102 ?_
      refine J_iload_2 C dX3_setShares_103 ?_
      refine J_iastore C k1 (by decide) (by omega) dX3_setShares_104 ?_
      refine J_aload_0 C dX3_setShares_105 ?_
      refine J_get_3_0 C in_X3_setShares_X3 fl_X3_setShares_9 (by decide) dX3_setShares_106 ?_
      refine J_iconst C dX3_setShares_109 ?_
      refine J_iload_3 C dX3_setShares_110 ?_
      refine J_iastore C k1 (by decide) (by omega) dX3_setShares_111 ?_
      refine J_aload_0 C dX3_setShares_112 ?_
      refine J_get_3_0 C in_X3_setShares_X3 fl_X3_setShares_9 (by decide) dX3_setShares_113 ?_
      refine J_iconst C dX3_setShares_116 ?_
      refine J_iload4 C dX3_setShares_117 ?_
      refine J_iastore C k1 (by decide) (by omega) dX3_setShares_119 ?_
      refine J_aload_0 C dX3_setShares_120 ?_
      refine J_get_3_0 C in_X3_setShares_X3 fl_X3_setShares_9 (by decide) dX3_setShares_121 ?_
      refine J_iconst C dX3_setShares_124 ?_
      refine J_iload5 C dX3_setShares_125 ?_
      refine J_iastore C k1 (by decide) (by omega) dX3_setShares_127 ?_
      refine J_vx ?_
      refine J_retV C hr (by decide) (by decide) dX3_setShares_128 ?_
      exact ⟨rfl, by omega, by omega⟩
    · refine J_throw_ISE (text := "there is a well") C hT w_X3_setShares_k79 w_X3_setShares_i79 (by decide +kernel) (by decide) (by decide) (by decide) (by decide) ⟨by decide, by decide⟩ dX3_setShares_81 dX3_setShares_84 dX3_setShares_85 dX3_setShares_87 dX3_setShares_90 ?_
      refine ⟨rfl, ?_⟩
      first
        | exact ⟨rfl, by omega⟩
        | exact Or.inl ⟨rfl, by omega⟩
        | exact Or.inr ⟨rfl, by omega⟩
        | exact Or.inr (Or.inl ⟨rfl, by omega⟩)
        | exact Or.inr (Or.inr ⟨rfl, by omega⟩)
  · refine J_throw_IAE (text := "the shares are not 10000 together") C hT w_X3_setShares_k72 w_X3_setShares_i72 (by decide +kernel) (by decide) (by decide) (by decide) (by decide) ⟨by decide, by decide⟩ dX3_setShares_64 dX3_setShares_67 dX3_setShares_68 dX3_setShares_70 dX3_setShares_73 ?_
    refine ⟨rfl, ?_⟩
    first
      | exact ⟨rfl, by omega⟩
      | exact Or.inl ⟨rfl, by omega⟩
      | exact Or.inr ⟨rfl, by omega⟩
      | exact Or.inr (Or.inl ⟨rfl, by omega⟩)
      | exact Or.inr (Or.inr ⟨rfl, by omega⟩)
set_option maxRecDepth 20000 in
theorem in_X3_setPenalty_X3 : ∀ w ∈ wsX30, w ∈ wsX3_setPenalty := by decide +kernel
set_option maxRecDepth 20000 in
theorem fl_X3_setPenalty_13 : Cond.fieldLink RX3 13 "JointVenture" "newPenalty" "I" ∈ wsX3_setPenalty := by decide +kernel
set_option maxHeartbeats 4000000 in
set_option maxRecDepth 100000 in
theorem c_X3_setPenalty {l : Launch} (hfl : l.stackTraces = false) {cy : Nat → ClassId} {D : va_G} {ad : Ad} (hI : Inj ad) (σ : Sg) (a9 : Int) (ia : I32 a9) : XI l yX3_setPenalty wsX3_setPenalty ({ frames := 7, cells := 6, slots := 36, locals := 105 } : Room) cy D ad σ [.ref (ad 0 0), .int (iI a9)] (fun z σ' => z = σ 0 0 1 ∧ σ' = su σ 0 0 1 a9 ∧ (100 ≤ a9 ∧ a9 ≤ 1000)) (fun E σ' => σ' = σ ∧ E = nIAE ∧ ¬ (100 ≤ a9 ∧ a9 ≤ 1000)) 6 36 := by
  refine XI.of (lv0 := [some (.ref (ad 0 0)), some (.int (iI a9)), none]) hfl hI (by decide) rfl (Nat.le_of_ble_eq_true rfl) rfl ?_
  intro p e s m args below meth c C hr hT
  refine J_aload_0 C dX3_setPenalty_0 ?_
  refine J_iload_1 C dX3_setPenalty_1 ?_
  refine J_bipush C (by decide) dX3_setPenalty_2 ?_
  refine J_sipush C (by decide) dX3_setPenalty_4 ?_
  refine J_XVV C (c_X3_requireRange hfl hI _ a9 100 1000 (by omega) (by omega) (by omega)) (cwV 3 C.1.2.2.2.2 gX3_setPenalty_X3_requireRange rfl rfl rfl (by decide +kernel) ⟨Nat.le_of_ble_eq_true rfl, Nat.le_of_ble_eq_true rfl⟩) rc3 (by decide) rfl rfl (Nat.le_of_ble_eq_true rfl) dX3_setPenalty_7 ⟨Nat.le_of_ble_eq_true rfl, Nat.le_of_ble_eq_true rfl⟩ (fun E σ_7 hx => ?_) (fun σ_7 hp => ?_)
  · skip
    obtain ⟨rfl, hs_, hn_⟩ := hx
    have hs_ := hs_.symm
    subst hs_
    refine J_out C hT (by decide) (by decide) ?_
    refine ⟨rfl, ?_⟩
    first
      | exact ⟨rfl, by omega⟩
      | exact Or.inl ⟨rfl, by omega⟩
      | exact Or.inr ⟨rfl, by omega⟩
      | exact Or.inr (Or.inl ⟨rfl, by omega⟩)
      | exact Or.inr (Or.inr ⟨rfl, by omega⟩)
  obtain ⟨hs_, ha⟩ := hp
  have hs_ := hs_.symm
  subst hs_
  refine J_aload_0 C dX3_setPenalty_10 ?_
  refine J_get_3_1 C in_X3_setPenalty_X3 fl_X3_setPenalty_13 (by decide) dX3_setPenalty_11 ?_
  refine J_istore_2 C (by decide) rfl dX3_setPenalty_14 ?_
  refine J_aload_0 C dX3_setPenalty_15 ?_
  refine J_iload_1 C dX3_setPenalty_16 ?_
  refine J_put_3_1 C in_X3_setPenalty_X3 fl_X3_setPenalty_13 (by decide) dX3_setPenalty_17 ?_
  refine J_iload_2 C dX3_setPenalty_20 ?_
  refine J_vx ?_
  refine J_retI C hr (by decide) (by decide) dX3_setPenalty_21 ?_
  exact ⟨rfl, rfl, ha⟩
set_option maxRecDepth 20000 in
theorem w_X3_setOverhead_c84 : Cond.constant RX3 84 (iI (100000)) ∈ wsX3_setOverhead := by decide +kernel
set_option maxRecDepth 20000 in
theorem in_X3_setOverhead_X3 : ∀ w ∈ wsX30, w ∈ wsX3_setOverhead := by decide +kernel
set_option maxRecDepth 20000 in
theorem fl_X3_setOverhead_17 : Cond.fieldLink RX3 17 "JointVenture" "monthlyOverhead" "I" ∈ wsX3_setOverhead := by decide +kernel
set_option maxHeartbeats 4000000 in
set_option maxRecDepth 100000 in
theorem c_X3_setOverhead {l : Launch} (hfl : l.stackTraces = false) {cy : Nat → ClassId} {D : va_G} {ad : Ad} (hI : Inj ad) (σ : Sg) (a9 : Int) (ia : I32 a9) : XI l yX3_setOverhead wsX3_setOverhead ({ frames := 7, cells := 6, slots := 36, locals := 105 } : Room) cy D ad σ [.ref (ad 0 0), .int (iI a9)] (fun z σ' => z = σ 0 0 2 ∧ σ' = su σ 0 0 2 a9 ∧ (0 ≤ a9 ∧ a9 ≤ 100000)) (fun E σ' => σ' = σ ∧ E = nIAE ∧ ¬ (0 ≤ a9 ∧ a9 ≤ 100000)) 6 36 := by
  refine XI.of (lv0 := [some (.ref (ad 0 0)), some (.int (iI a9)), none]) hfl hI (by decide) rfl (Nat.le_of_ble_eq_true rfl) rfl ?_
  intro p e s m args below meth c C hr hT
  refine J_aload_0 C dX3_setOverhead_0 ?_
  refine J_iload_1 C dX3_setOverhead_1 ?_
  refine J_iconst C dX3_setOverhead_2 ?_
  refine J_ldc C w_X3_setOverhead_c84 dX3_setOverhead_3 ?_
  refine J_XVV C (c_X3_requireRange hfl hI _ a9 0 100000 (by omega) (by omega) (by omega)) (cwV 3 C.1.2.2.2.2 gX3_setOverhead_X3_requireRange rfl rfl rfl (by decide +kernel) ⟨Nat.le_of_ble_eq_true rfl, Nat.le_of_ble_eq_true rfl⟩) rc3 (by decide) rfl rfl (Nat.le_of_ble_eq_true rfl) dX3_setOverhead_5 ⟨Nat.le_of_ble_eq_true rfl, Nat.le_of_ble_eq_true rfl⟩ (fun E σ_5 hx => ?_) (fun σ_5 hp => ?_)
  · skip
    obtain ⟨rfl, hs_, hn_⟩ := hx
    have hs_ := hs_.symm
    subst hs_
    refine J_out C hT (by decide) (by decide) ?_
    refine ⟨rfl, ?_⟩
    first
      | exact ⟨rfl, by omega⟩
      | exact Or.inl ⟨rfl, by omega⟩
      | exact Or.inr ⟨rfl, by omega⟩
      | exact Or.inr (Or.inl ⟨rfl, by omega⟩)
      | exact Or.inr (Or.inr ⟨rfl, by omega⟩)
  obtain ⟨hs_, ha⟩ := hp
  have hs_ := hs_.symm
  subst hs_
  refine J_aload_0 C dX3_setOverhead_8 ?_
  refine J_get_3_2 C in_X3_setOverhead_X3 fl_X3_setOverhead_17 (by decide) dX3_setOverhead_9 ?_
  refine J_istore_2 C (by decide) rfl dX3_setOverhead_12 ?_
  refine J_aload_0 C dX3_setOverhead_13 ?_
  refine J_iload_1 C dX3_setOverhead_14 ?_
  refine J_put_3_2 C in_X3_setOverhead_X3 fl_X3_setOverhead_17 (by decide) dX3_setOverhead_15 ?_
  refine J_iload_2 C dX3_setOverhead_18 ?_
  refine J_vx ?_
  refine J_retI C hr (by decide) (by decide) dX3_setOverhead_19 ?_
  exact ⟨rfl, rfl, ha⟩
set_option maxRecDepth 20000 in
theorem in_X3_addWell_X3 : ∀ w ∈ wsX30, w ∈ wsX3_addWell := by decide +kernel
set_option maxRecDepth 20000 in
theorem fl_X3_addWell_26 : Cond.fieldLink RX3 26 "JointVenture" "wellCount" "I" ∈ wsX3_addWell := by decide +kernel
set_option maxRecDepth 20000 in
theorem fl_X3_addWell_22 : Cond.fieldLink RX3 22 "JointVenture" "wells" "[LJointVenture$Well;" ∈ wsX3_addWell := by decide +kernel
set_option maxRecDepth 20000 in
theorem fl_X3_addWell_13 : Cond.fieldLink RX3 13 "JointVenture" "newPenalty" "I" ∈ wsX3_addWell := by decide +kernel
set_option maxRecDepth 20000 in
theorem in_X3_addWell_X2 : ∀ w ∈ wsX20, w ∈ wsX3_addWell := by decide +kernel
set_option maxRecDepth 20000 in
theorem fl_X3_addWell_87 : Cond.fieldLink RX3 87 "JointVenture$Well" "penalty" "I" ∈ wsX3_addWell := by decide +kernel
set_option maxRecDepth 20000 in
theorem w_X3_addWell_k79 : Cond.classLink RX3 79 nISE ∈ wsX3_addWell := by decide +kernel
set_option maxRecDepth 20000 in
theorem w_X3_addWell_i79 : Cond.initialized nISE ∈ wsX3_addWell := by decide +kernel
set_option maxHeartbeats 4000000 in
set_option maxRecDepth 100000 in
theorem c_X3_addWell {l : Launch} (hfl : l.stackTraces = false) {cy : Nat → ClassId} {D : va_G} {ad : Ad} (hI : Inj ad) (σ : Sg) (hwc : 0 ≤ σ 0 0 4 ∧ σ 0 0 4 ≤ 6) : XI l yX3_addWell wsX3_addWell ({ frames := 6, cells := 6, slots := 36, locals := 82 } : Room) cy D ad σ [.ref (ad 0 0)] (fun z σ' => z = σ 0 0 4 ∧ σ' = su (su σ 12 (σ 0 0 4) 0 (σ 0 0 1)) 0 0 4 (σ 0 0 4 + 1) ∧ σ 0 0 4 < 6) (fun E σ' => σ' = σ ∧ E = nISE ∧ ¬ σ 0 0 4 < 6) 6 36 := by
  refine XI.of (lv0 := [some (.ref (ad 0 0))]) hfl hI (by decide) rfl (Nat.le_of_ble_eq_true rfl) rfl ?_
  intro p e s m args below meth c C hr hT
  refine J_aload_0 C dX3_addWell_0 ?_
  refine J_get_3_4 C in_X3_addWell_X3 fl_X3_addWell_26 (by decide) dX3_addWell_1 ?_
  refine J_bipush C (by decide) dX3_addWell_4 ?_
  refine J_icmp_lt (tgt := 19) C (by omega) (by omega) dX3_addWell_6 (by decide) (fun c_6 => ?_) (fun c_6 => ?_)
  · refine J_aload_0 C dX3_addWell_19 ?_
    refine J_get_3_3 C in_X3_addWell_X3 fl_X3_addWell_22 (by decide) dX3_addWell_20 ?_
    refine J_aload_0 C dX3_addWell_23 ?_
    refine J_get_3_4 C in_X3_addWell_X3 fl_X3_addWell_26 (by decide) dX3_addWell_24 ?_
    refine J_aaloadW C (by omega) dX3_addWell_27 ?_
    refine J_aload_0 C dX3_addWell_28 ?_
    refine J_get_3_1 C in_X3_addWell_X3 fl_X3_addWell_13 (by decide) dX3_addWell_29 ?_
    refine J_put_2_0 C in_X3_addWell_X2 fl_X3_addWell_87 ⟨by omega, by show σ 0 0 4 < 6; omega⟩ dX3_addWell_32 ?_
    refine J_aload_0 C dX3_addWell_35 ?_
    refine J_dup C rfl dX3_addWell_36 ?_
    refine J_get_3_4 C in_X3_addWell_X3 fl_X3_addWell_26 (by decide) dX3_addWell_37 ?_
    rw [su_nk (by decide)]
    refine J_iconst C dX3_addWell_40 ?_
    refine J_iadd C dX3_addWell_41 ?_
    refine J_put_3_4 C in_X3_addWell_X3 fl_X3_addWell_26 (by decide) dX3_addWell_42 ?_
    refine J_aload_0 C dX3_addWell_45 ?_
    refine J_get_3_4 C in_X3_addWell_X3 fl_X3_addWell_26 (by decide) dX3_addWell_46 ?_
    rw [su_at]
    refine J_iconst C dX3_addWell_49 ?_
    refine J_isub C dX3_addWell_50 ?_
    refine J_vx ?_
    refine J_retI C hr (by decide) (by decide) dX3_addWell_51 ?_
    exact ⟨by omega, rfl, by omega⟩
  · refine J_throw_ISE (text := "there are 6 wells") C hT w_X3_addWell_k79 w_X3_addWell_i79 (by decide +kernel) (by decide) (by decide) (by decide) (by decide) ⟨by decide, by decide⟩ dX3_addWell_9 dX3_addWell_12 dX3_addWell_13 dX3_addWell_15 dX3_addWell_18 ?_
    refine ⟨rfl, ?_⟩
    first
      | exact ⟨rfl, by omega⟩
      | exact Or.inl ⟨rfl, by omega⟩
      | exact Or.inr ⟨rfl, by omega⟩
      | exact Or.inr (Or.inl ⟨rfl, by omega⟩)
      | exact Or.inr (Or.inr ⟨rfl, by omega⟩)
set_option maxRecDepth 20000 in
theorem in_X3_elect_X3 : ∀ w ∈ wsX30, w ∈ wsX3_elect := by decide +kernel
set_option maxRecDepth 20000 in
theorem fl_X3_elect_22 : Cond.fieldLink RX3 22 "JointVenture" "wells" "[LJointVenture$Well;" ∈ wsX3_elect := by decide +kernel
set_option maxRecDepth 20000 in
theorem in_X3_elect_X2 : ∀ w ∈ wsX20, w ∈ wsX3_elect := by decide +kernel
set_option maxRecDepth 20000 in
theorem fl_X3_elect_97 : Cond.fieldLink RX3 97 "JointVenture$Well" "hadVoucher" "Z" ∈ wsX3_elect := by decide +kernel
set_option maxRecDepth 20000 in
theorem fl_X3_elect_9 : Cond.fieldLink RX3 9 "JointVenture" "shares" "[I" ∈ wsX3_elect := by decide +kernel
set_option maxRecDepth 20000 in
theorem fl_X3_elect_111 : Cond.fieldLink RX3 111 "JointVenture$Well" "electedOut" "[Z" ∈ wsX3_elect := by decide +kernel
set_option maxRecDepth 20000 in
theorem fl_X3_elect_115 : Cond.fieldLink RX3 115 "JointVenture$Well" "out" "[Z" ∈ wsX3_elect := by decide +kernel
set_option maxRecDepth 20000 in
theorem w_X3_elect_k79 : Cond.classLink RX3 79 nISE ∈ wsX3_elect := by decide +kernel
set_option maxRecDepth 20000 in
theorem w_X3_elect_i79 : Cond.initialized nISE ∈ wsX3_elect := by decide +kernel
set_option maxHeartbeats 4000000 in
set_option maxRecDepth 100000 in
theorem c_X3_elect {l : Launch} (hfl : l.stackTraces = false) {cy : Nat → ClassId} {D : va_G} {ad : Ad} (hI : Inj ad) (σ : Sg) (w q b9 : Int) (hwc : 0 ≤ σ 0 0 4 ∧ σ 0 0 4 ≤ 6) (hw9 : I32 w) (hq9 : I32 q) (hb9 : b9 = 0 ∨ b9 = 1) (hf : ∀ w q, 0 ≤ w → w < 6 → 0 ≤ q → q < 5 → σ 14 w q = 0 ∨ σ 14 w q = 1) (hf3 : ∀ w q, 0 ≤ w → w < 6 → 0 ≤ q → q < 5 → σ 13 w q = 0 ∨ σ 13 w q = 1) (hs : ∀ q, 0 ≤ q → q < 5 → 0 ≤ σ 1 0 q ∧ σ 1 0 q ≤ 10000) (hhd : ∀ w, 0 ≤ w → w < 6 → σ 12 w 1 = 0 ∨ σ 12 w 1 = 1) : XI l yX3_elect wsX3_elect ({ frames := 7, cells := 6, slots := 36, locals := 103 } : Room) cy D ad σ [.ref (ad 0 0), .int (iI w), .int (iI q), .int (iI b9)] (fun z σ' => z = (if σ 13 w q = 0 then 1 else 0) ∧ σ' = su (su σ 13 w q (1 - b9)) 14 w q (1 - b9) ∧ ((0 ≤ w ∧ w < σ 0 0 4) ∧ (0 ≤ q ∧ q < 5)) ∧ σ 12 w 1 = 0 ∧ ¬ σ 1 0 q = 0 ∧ (b9 = 0 → ∃ q', 0 ≤ q' ∧ q' < 5 ∧ q' ≠ q ∧ σ 14 w q' = 0 ∧ 0 < σ 1 0 q')) (fun E σ' => σ' = σ ∧ ((E = nIOE ∧ ¬ ((0 ≤ w ∧ w < σ 0 0 4) ∧ (0 ≤ q ∧ q < 5))) ∨ (E = nISE ∧ ((0 ≤ w ∧ w < σ 0 0 4) ∧ (0 ≤ q ∧ q < 5)) ∧ ¬ (σ 12 w 1 = 0 ∧ ¬ σ 1 0 q = 0 ∧ (b9 = 0 → ∃ q', 0 ≤ q' ∧ q' < 5 ∧ q' ≠ q ∧ σ 14 w q' = 0 ∧ 0 < σ 1 0 q'))))) 6 36 := by
  refine XI.of (lv0 := [some (.ref (ad 0 0)), some (.int (iI w)), some (.int (iI q)), some (.int (iI b9)), none, none]) hfl hI (by decide) rfl (Nat.le_of_ble_eq_true rfl) rfl ?_
  intro p e s m args below meth c C hr hT
  refine J_aload_0 C dX3_elect_0 ?_
  refine J_iload_1 C dX3_elect_1 ?_
  refine J_XVV C (c_X3_requireWell hfl hI _ w hwc hw9) (cwV 1 C.1.2.2.2.2 gX3_elect_X3_requireWell rfl rfl rfl (by decide +kernel) ⟨Nat.le_of_ble_eq_true rfl, Nat.le_of_ble_eq_true rfl⟩) rc3 (by decide) rfl rfl (Nat.le_of_ble_eq_true rfl) dX3_elect_2 ⟨Nat.le_of_ble_eq_true rfl, Nat.le_of_ble_eq_true rfl⟩ (fun E σ_2 hx => ?_) (fun σ_2 hp => ?_)
  · skip
    obtain ⟨rfl, hs_, hn_⟩ := hx
    have hs_ := hs_.symm
    subst hs_
    refine J_out C hT (by decide) (by decide) ?_
    refine ⟨rfl, ?_⟩
    first
      | exact ⟨rfl, by omega⟩
      | exact Or.inl ⟨rfl, by omega⟩
      | exact Or.inr ⟨rfl, by omega⟩
      | exact Or.inr (Or.inl ⟨rfl, by omega⟩)
      | exact Or.inr (Or.inr ⟨rfl, by omega⟩)
  obtain ⟨hs_, hw⟩ := hp
  have hs_ := hs_.symm
  subst hs_
  refine J_aload_0 C dX3_elect_5 ?_
  refine J_iload_2 C dX3_elect_6 ?_
  refine J_XVV C (c_X3_requirePartner hfl hI _ q hq9) (cwV 1 C.1.2.2.2.2 gX3_elect_X3_requirePartner rfl rfl rfl (by decide +kernel) ⟨Nat.le_of_ble_eq_true rfl, Nat.le_of_ble_eq_true rfl⟩) rc3 (by decide) rfl rfl (Nat.le_of_ble_eq_true rfl) dX3_elect_7 ⟨Nat.le_of_ble_eq_true rfl, Nat.le_of_ble_eq_true rfl⟩ (fun E σ_7 hx => ?_) (fun σ_7 hp => ?_)
  · skip
    obtain ⟨rfl, hs_, hn_⟩ := hx
    have hs_ := hs_.symm
    subst hs_
    refine J_out C hT (by decide) (by decide) ?_
    refine ⟨rfl, ?_⟩
    first
      | exact ⟨rfl, by omega⟩
      | exact Or.inl ⟨rfl, by omega⟩
      | exact Or.inr ⟨rfl, by omega⟩
      | exact Or.inr (Or.inl ⟨rfl, by omega⟩)
      | exact Or.inr (Or.inr ⟨rfl, by omega⟩)
  obtain ⟨hs_, hq⟩ := hp
  have hs_ := hs_.symm
  subst hs_
  refine J_aload_0 C dX3_elect_10 ?_
  refine J_get_3_3 C in_X3_elect_X3 fl_X3_elect_22 (by decide) dX3_elect_11 ?_
  refine J_iload_1 C dX3_elect_14 ?_
  refine J_aaloadW C (by omega) dX3_elect_15 ?_
  refine J_astore4 C (by decide) rfl dX3_elect_16 ?_
  refine J_aload4 C dX3_elect_18 ?_
  refine J_get_2_1 C in_X3_elect_X2 fl_X3_elect_97 ⟨by omega, by show w < 6; omega⟩ dX3_elect_20 ?_
  refine J_if_eq (tgt := 36) C (by have := hhd w (by omega) (by omega); omega) dX3_elect_23 (by decide) (fun c_23 => ?_) (fun c_23 => ?_)
  · refine J_aload_0 C dX3_elect_36 ?_
    refine J_get_3_0 C in_X3_elect_X3 fl_X3_elect_9 (by decide) dX3_elect_37 ?_
    refine J_iload_2 C dX3_elect_40 ?_
    refine J_iaload C k1 (by decide) (by omega) dX3_elect_41 ?_
    refine J_if_ne (tgt := 55) C (by have := hs q hq.1 hq.2; omega) dX3_elect_42 (by decide) (fun c_42 => ?_) (fun c_42 => ?_)
    · refine J_iload_3 C dX3_elect_55 ?_
      refine J_if_ne (tgt := 79) C (by omega) dX3_elect_56 (by decide) (fun c_56 => ?_) (fun c_56 => ?_)
      · refine J_aload4 C dX3_elect_79 ?_
        refine J_get_2_2 C in_X3_elect_X2 fl_X3_elect_111 ⟨by omega, by show w < 6; omega⟩ dX3_elect_81 ?_
        refine J_iload_2 C dX3_elect_84 ?_
        refine J_baload C k13 ⟨by omega, by show w < 6; omega⟩ (by omega) dX3_elect_85 ?_
        refine J_if_ne (tgt := 93) C (by have := hf3 w q (by omega) (by omega) hq.1 hq.2; omega) dX3_elect_86 (by decide) (fun c_86 => ?_) (fun c_86 => ?_)
        · refine J_iconst C dX3_elect_93 ?_
          refine J_istore5 C (by decide) rfl dX3_elect_94 ?_
          refine J_aload4 C dX3_elect_96 ?_
          refine J_get_2_2 C in_X3_elect_X2 fl_X3_elect_111 ⟨by omega, by show w < 6; omega⟩ dX3_elect_98 ?_
          refine J_iload_2 C dX3_elect_101 ?_
          refine J_iload_3 C dX3_elect_102 ?_
          refine J_if_ne (tgt := 110) C (by omega) dX3_elect_103 (by decide) (fun c_103 => ?_) (fun c_103 => ?_)
          · refine J_iconst C dX3_elect_110 ?_
            refine J_bastore C k13 ⟨by omega, by show w < 6; omega⟩ (by omega) (by first | exact Or.inl rfl | exact Or.inr rfl) dX3_elect_111 ?_
            refine J_aload4 C dX3_elect_112 ?_
            refine J_get_2_3 C in_X3_elect_X2 fl_X3_elect_115 ⟨by omega, by show w < 6; omega⟩ dX3_elect_114 ?_
            refine J_iload_2 C dX3_elect_117 ?_
            refine J_iload_3 C dX3_elect_118 ?_
            refine J_if_ne (tgt := 126) C (by omega) dX3_elect_119 (by decide) (fun c_119 => ?_) (fun c_119 => ?_)
            · refine J_iconst C dX3_elect_126 ?_
              refine J_bastore C k14 ⟨by omega, by show w < 6; omega⟩ (by omega) (by first | exact Or.inl rfl | exact Or.inr rfl) dX3_elect_127 ?_
              refine J_iload5 C dX3_elect_128 ?_
              refine J_vx ?_
              refine J_retZ C hr (by first | exact Or.inl rfl | exact Or.inr rfl) (by decide) (by decide) dX3_elect_130 ?_
              rcases hb9 with rfl | rfl
              all_goals first
                | (exfalso; omega)
                | exact ⟨(if_pos (by assumption)).symm, rfl, ⟨hw, hq⟩, by omega, by omega, fun _ => hz_.2.mp (by have := hz_.1; omega)⟩
                | exact ⟨(if_neg (by assumption)).symm, rfl, ⟨hw, hq⟩, by omega, by omega, fun _ => hz_.2.mp (by have := hz_.1; omega)⟩
                | exact ⟨(if_pos (by assumption)).symm, rfl, ⟨hw, hq⟩, by omega, by omega, fun z => by omega⟩
                | exact ⟨(if_neg (by assumption)).symm, rfl, ⟨hw, hq⟩, by omega, by omega, fun z => by omega⟩
            · refine J_iconst C dX3_elect_122 ?_
              refine J_goto (tgt := 127) C dX3_elect_123 (by decide) ?_
              refine J_bastore C k14 ⟨by omega, by show w < 6; omega⟩ (by omega) (by first | exact Or.inl rfl | exact Or.inr rfl) dX3_elect_127 ?_
              refine J_iload5 C dX3_elect_128 ?_
              refine J_vx ?_
              refine J_retZ C hr (by first | exact Or.inl rfl | exact Or.inr rfl) (by decide) (by decide) dX3_elect_130 ?_
              rcases hb9 with rfl | rfl
              all_goals first
                | (exfalso; omega)
                | exact ⟨(if_pos (by assumption)).symm, rfl, ⟨hw, hq⟩, by omega, by omega, fun _ => hz_.2.mp (by have := hz_.1; omega)⟩
                | exact ⟨(if_neg (by assumption)).symm, rfl, ⟨hw, hq⟩, by omega, by omega, fun _ => hz_.2.mp (by have := hz_.1; omega)⟩
                | exact ⟨(if_pos (by assumption)).symm, rfl, ⟨hw, hq⟩, by omega, by omega, fun z => by omega⟩
                | exact ⟨(if_neg (by assumption)).symm, rfl, ⟨hw, hq⟩, by omega, by omega, fun z => by omega⟩
          · refine J_iconst C dX3_elect_106 ?_
            refine J_goto (tgt := 111) C dX3_elect_107 (by decide) ?_
            refine J_bastore C k13 ⟨by omega, by show w < 6; omega⟩ (by omega) (by first | exact Or.inl rfl | exact Or.inr rfl) dX3_elect_111 ?_
            refine J_aload4 C dX3_elect_112 ?_
            refine J_get_2_3 C in_X3_elect_X2 fl_X3_elect_115 ⟨by omega, by show w < 6; omega⟩ dX3_elect_114 ?_
            refine J_iload_2 C dX3_elect_117 ?_
            refine J_iload_3 C dX3_elect_118 ?_
            refine J_if_ne (tgt := 126) C (by omega) dX3_elect_119 (by decide) (fun c_119 => ?_) (fun c_119 => ?_)
            · refine J_iconst C dX3_elect_126 ?_
              refine J_bastore C k14 ⟨by omega, by show w < 6; omega⟩ (by omega) (by first | exact Or.inl rfl | exact Or.inr rfl) dX3_elect_127 ?_
              refine J_iload5 C dX3_elect_128 ?_
              refine J_vx ?_
              refine J_retZ C hr (by first | exact Or.inl rfl | exact Or.inr rfl) (by decide) (by decide) dX3_elect_130 ?_
              rcases hb9 with rfl | rfl
              all_goals first
                | (exfalso; omega)
                | exact ⟨(if_pos (by assumption)).symm, rfl, ⟨hw, hq⟩, by omega, by omega, fun _ => hz_.2.mp (by have := hz_.1; omega)⟩
                | exact ⟨(if_neg (by assumption)).symm, rfl, ⟨hw, hq⟩, by omega, by omega, fun _ => hz_.2.mp (by have := hz_.1; omega)⟩
                | exact ⟨(if_pos (by assumption)).symm, rfl, ⟨hw, hq⟩, by omega, by omega, fun z => by omega⟩
                | exact ⟨(if_neg (by assumption)).symm, rfl, ⟨hw, hq⟩, by omega, by omega, fun z => by omega⟩
            · refine J_iconst C dX3_elect_122 ?_
              refine J_goto (tgt := 127) C dX3_elect_123 (by decide) ?_
              refine J_bastore C k14 ⟨by omega, by show w < 6; omega⟩ (by omega) (by first | exact Or.inl rfl | exact Or.inr rfl) dX3_elect_127 ?_
              refine J_iload5 C dX3_elect_128 ?_
              refine J_vx ?_
              refine J_retZ C hr (by first | exact Or.inl rfl | exact Or.inr rfl) (by decide) (by decide) dX3_elect_130 ?_
              rcases hb9 with rfl | rfl
              all_goals first
                | (exfalso; omega)
                | exact ⟨(if_pos (by assumption)).symm, rfl, ⟨hw, hq⟩, by omega, by omega, fun _ => hz_.2.mp (by have := hz_.1; omega)⟩
                | exact ⟨(if_neg (by assumption)).symm, rfl, ⟨hw, hq⟩, by omega, by omega, fun _ => hz_.2.mp (by have := hz_.1; omega)⟩
                | exact ⟨(if_pos (by assumption)).symm, rfl, ⟨hw, hq⟩, by omega, by omega, fun z => by omega⟩
                | exact ⟨(if_neg (by assumption)).symm, rfl, ⟨hw, hq⟩, by omega, by omega, fun z => by omega⟩
        · refine J_iconst C dX3_elect_89 ?_
          refine J_goto (tgt := 94) C dX3_elect_90 (by decide) ?_
          refine J_istore5 C (by decide) rfl dX3_elect_94 ?_
          refine J_aload4 C dX3_elect_96 ?_
          refine J_get_2_2 C in_X3_elect_X2 fl_X3_elect_111 ⟨by omega, by show w < 6; omega⟩ dX3_elect_98 ?_
          refine J_iload_2 C dX3_elect_101 ?_
          refine J_iload_3 C dX3_elect_102 ?_
          refine J_if_ne (tgt := 110) C (by omega) dX3_elect_103 (by decide) (fun c_103 => ?_) (fun c_103 => ?_)
          · refine J_iconst C dX3_elect_110 ?_
            refine J_bastore C k13 ⟨by omega, by show w < 6; omega⟩ (by omega) (by first | exact Or.inl rfl | exact Or.inr rfl) dX3_elect_111 ?_
            refine J_aload4 C dX3_elect_112 ?_
            refine J_get_2_3 C in_X3_elect_X2 fl_X3_elect_115 ⟨by omega, by show w < 6; omega⟩ dX3_elect_114 ?_
            refine J_iload_2 C dX3_elect_117 ?_
            refine J_iload_3 C dX3_elect_118 ?_
            refine J_if_ne (tgt := 126) C (by omega) dX3_elect_119 (by decide) (fun c_119 => ?_) (fun c_119 => ?_)
            · refine J_iconst C dX3_elect_126 ?_
              refine J_bastore C k14 ⟨by omega, by show w < 6; omega⟩ (by omega) (by first | exact Or.inl rfl | exact Or.inr rfl) dX3_elect_127 ?_
              refine J_iload5 C dX3_elect_128 ?_
              refine J_vx ?_
              refine J_retZ C hr (by first | exact Or.inl rfl | exact Or.inr rfl) (by decide) (by decide) dX3_elect_130 ?_
              rcases hb9 with rfl | rfl
              all_goals first
                | (exfalso; omega)
                | exact ⟨(if_pos (by assumption)).symm, rfl, ⟨hw, hq⟩, by omega, by omega, fun _ => hz_.2.mp (by have := hz_.1; omega)⟩
                | exact ⟨(if_neg (by assumption)).symm, rfl, ⟨hw, hq⟩, by omega, by omega, fun _ => hz_.2.mp (by have := hz_.1; omega)⟩
                | exact ⟨(if_pos (by assumption)).symm, rfl, ⟨hw, hq⟩, by omega, by omega, fun z => by omega⟩
                | exact ⟨(if_neg (by assumption)).symm, rfl, ⟨hw, hq⟩, by omega, by omega, fun z => by omega⟩
            · refine J_iconst C dX3_elect_122 ?_
              refine J_goto (tgt := 127) C dX3_elect_123 (by decide) ?_
              refine J_bastore C k14 ⟨by omega, by show w < 6; omega⟩ (by omega) (by first | exact Or.inl rfl | exact Or.inr rfl) dX3_elect_127 ?_
              refine J_iload5 C dX3_elect_128 ?_
              refine J_vx ?_
              refine J_retZ C hr (by first | exact Or.inl rfl | exact Or.inr rfl) (by decide) (by decide) dX3_elect_130 ?_
              rcases hb9 with rfl | rfl
              all_goals first
                | (exfalso; omega)
                | exact ⟨(if_pos (by assumption)).symm, rfl, ⟨hw, hq⟩, by omega, by omega, fun _ => hz_.2.mp (by have := hz_.1; omega)⟩
                | exact ⟨(if_neg (by assumption)).symm, rfl, ⟨hw, hq⟩, by omega, by omega, fun _ => hz_.2.mp (by have := hz_.1; omega)⟩
                | exact ⟨(if_pos (by assumption)).symm, rfl, ⟨hw, hq⟩, by omega, by omega, fun z => by omega⟩
                | exact ⟨(if_neg (by assumption)).symm, rfl, ⟨hw, hq⟩, by omega, by omega, fun z => by omega⟩
          · refine J_iconst C dX3_elect_106 ?_
            refine J_goto (tgt := 111) C dX3_elect_107 (by decide) ?_
            refine J_bastore C k13 ⟨by omega, by show w < 6; omega⟩ (by omega) (by first | exact Or.inl rfl | exact Or.inr rfl) dX3_elect_111 ?_
            refine J_aload4 C dX3_elect_112 ?_
            refine J_get_2_3 C in_X3_elect_X2 fl_X3_elect_115 ⟨by omega, by show w < 6; omega⟩ dX3_elect_114 ?_
            refine J_iload_2 C dX3_elect_117 ?_
            refine J_iload_3 C dX3_elect_118 ?_
            refine J_if_ne (tgt := 126) C (by omega) dX3_elect_119 (by decide) (fun c_119 => ?_) (fun c_119 => ?_)
            · refine J_iconst C dX3_elect_126 ?_
              refine J_bastore C k14 ⟨by omega, by show w < 6; omega⟩ (by omega) (by first | exact Or.inl rfl | exact Or.inr rfl) dX3_elect_127 ?_
              refine J_iload5 C dX3_elect_128 ?_
              refine J_vx ?_
              refine J_retZ C hr (by first | exact Or.inl rfl | exact Or.inr rfl) (by decide) (by decide) dX3_elect_130 ?_
              rcases hb9 with rfl | rfl
              all_goals first
                | (exfalso; omega)
                | exact ⟨(if_pos (by assumption)).symm, rfl, ⟨hw, hq⟩, by omega, by omega, fun _ => hz_.2.mp (by have := hz_.1; omega)⟩
                | exact ⟨(if_neg (by assumption)).symm, rfl, ⟨hw, hq⟩, by omega, by omega, fun _ => hz_.2.mp (by have := hz_.1; omega)⟩
                | exact ⟨(if_pos (by assumption)).symm, rfl, ⟨hw, hq⟩, by omega, by omega, fun z => by omega⟩
                | exact ⟨(if_neg (by assumption)).symm, rfl, ⟨hw, hq⟩, by omega, by omega, fun z => by omega⟩
            · refine J_iconst C dX3_elect_122 ?_
              refine J_goto (tgt := 127) C dX3_elect_123 (by decide) ?_
              refine J_bastore C k14 ⟨by omega, by show w < 6; omega⟩ (by omega) (by first | exact Or.inl rfl | exact Or.inr rfl) dX3_elect_127 ?_
              refine J_iload5 C dX3_elect_128 ?_
              refine J_vx ?_
              refine J_retZ C hr (by first | exact Or.inl rfl | exact Or.inr rfl) (by decide) (by decide) dX3_elect_130 ?_
              rcases hb9 with rfl | rfl
              all_goals first
                | (exfalso; omega)
                | exact ⟨(if_pos (by assumption)).symm, rfl, ⟨hw, hq⟩, by omega, by omega, fun _ => hz_.2.mp (by have := hz_.1; omega)⟩
                | exact ⟨(if_neg (by assumption)).symm, rfl, ⟨hw, hq⟩, by omega, by omega, fun _ => hz_.2.mp (by have := hz_.1; omega)⟩
                | exact ⟨(if_pos (by assumption)).symm, rfl, ⟨hw, hq⟩, by omega, by omega, fun z => by omega⟩
                | exact ⟨(if_neg (by assumption)).symm, rfl, ⟨hw, hq⟩, by omega, by omega, fun z => by omega⟩
      · refine J_aload_0 C dX3_elect_59 ?_
        refine J_aload4 C dX3_elect_60 ?_
        refine J_iload_2 C dX3_elect_62 ?_
        refine J_KVI C (c_X3_isAnotherIn hfl hI _ w q (by omega) hq (fun x a b => hf w x (by omega) (by omega) a b) hs) (cwV 2 C.1.2.2.2.2 gX3_elect_X3_isAnotherIn rfl rfl rfl (by decide +kernel) ⟨Nat.le_of_ble_eq_true rfl, Nat.le_of_ble_eq_true rfl⟩) rc3 (by decide) rfl rfl (Nat.le_of_ble_eq_true rfl) dX3_elect_63 ⟨Nat.le_of_ble_eq_true rfl, Nat.le_of_ble_eq_true rfl⟩ (fun z_63 σ_63 hp => ?_)
        obtain ⟨hz_, hs_⟩ := hp
        have hs_ := hs_.symm
        subst hs_
        refine J_if_ne (tgt := 79) C (by have := hz_.1; omega) dX3_elect_66 (by decide) (fun c_66 => ?_) (fun c_66 => ?_)
        · refine J_aload4 C dX3_elect_79 ?_
          refine J_get_2_2 C in_X3_elect_X2 fl_X3_elect_111 ⟨by omega, by show w < 6; omega⟩ dX3_elect_81 ?_
          refine J_iload_2 C dX3_elect_84 ?_
          refine J_baload C k13 ⟨by omega, by show w < 6; omega⟩ (by omega) dX3_elect_85 ?_
          refine J_if_ne (tgt := 93) C (by have := hf3 w q (by omega) (by omega) hq.1 hq.2; omega) dX3_elect_86 (by decide) (fun c_86 => ?_) (fun c_86 => ?_)
          · refine J_iconst C dX3_elect_93 ?_
            refine J_istore5 C (by decide) rfl dX3_elect_94 ?_
            refine J_aload4 C dX3_elect_96 ?_
            refine J_get_2_2 C in_X3_elect_X2 fl_X3_elect_111 ⟨by omega, by show w < 6; omega⟩ dX3_elect_98 ?_
            refine J_iload_2 C dX3_elect_101 ?_
            refine J_iload_3 C dX3_elect_102 ?_
            refine J_if_ne (tgt := 110) C (by omega) dX3_elect_103 (by decide) (fun c_103 => ?_) (fun c_103 => ?_)
            · refine J_iconst C dX3_elect_110 ?_
              refine J_bastore C k13 ⟨by omega, by show w < 6; omega⟩ (by omega) (by first | exact Or.inl rfl | exact Or.inr rfl) dX3_elect_111 ?_
              refine J_aload4 C dX3_elect_112 ?_
              refine J_get_2_3 C in_X3_elect_X2 fl_X3_elect_115 ⟨by omega, by show w < 6; omega⟩ dX3_elect_114 ?_
              refine J_iload_2 C dX3_elect_117 ?_
              refine J_iload_3 C dX3_elect_118 ?_
              refine J_if_ne (tgt := 126) C (by omega) dX3_elect_119 (by decide) (fun c_119 => ?_) (fun c_119 => ?_)
              · refine J_iconst C dX3_elect_126 ?_
                refine J_bastore C k14 ⟨by omega, by show w < 6; omega⟩ (by omega) (by first | exact Or.inl rfl | exact Or.inr rfl) dX3_elect_127 ?_
                refine J_iload5 C dX3_elect_128 ?_
                refine J_vx ?_
                refine J_retZ C hr (by first | exact Or.inl rfl | exact Or.inr rfl) (by decide) (by decide) dX3_elect_130 ?_
                rcases hb9 with rfl | rfl
                all_goals first
                  | (exfalso; omega)
                  | exact ⟨(if_pos (by assumption)).symm, rfl, ⟨hw, hq⟩, by omega, by omega, fun _ => hz_.2.mp (by have := hz_.1; omega)⟩
                  | exact ⟨(if_neg (by assumption)).symm, rfl, ⟨hw, hq⟩, by omega, by omega, fun _ => hz_.2.mp (by have := hz_.1; omega)⟩
                  | exact ⟨(if_pos (by assumption)).symm, rfl, ⟨hw, hq⟩, by omega, by omega, fun z => by omega⟩
                  | exact ⟨(if_neg (by assumption)).symm, rfl, ⟨hw, hq⟩, by omega, by omega, fun z => by omega⟩
              · refine J_iconst C dX3_elect_122 ?_
                refine J_goto (tgt := 127) C dX3_elect_123 (by decide) ?_
                refine J_bastore C k14 ⟨by omega, by show w < 6; omega⟩ (by omega) (by first | exact Or.inl rfl | exact Or.inr rfl) dX3_elect_127 ?_
                refine J_iload5 C dX3_elect_128 ?_
                refine J_vx ?_
                refine J_retZ C hr (by first | exact Or.inl rfl | exact Or.inr rfl) (by decide) (by decide) dX3_elect_130 ?_
                rcases hb9 with rfl | rfl
                all_goals first
                  | (exfalso; omega)
                  | exact ⟨(if_pos (by assumption)).symm, rfl, ⟨hw, hq⟩, by omega, by omega, fun _ => hz_.2.mp (by have := hz_.1; omega)⟩
                  | exact ⟨(if_neg (by assumption)).symm, rfl, ⟨hw, hq⟩, by omega, by omega, fun _ => hz_.2.mp (by have := hz_.1; omega)⟩
                  | exact ⟨(if_pos (by assumption)).symm, rfl, ⟨hw, hq⟩, by omega, by omega, fun z => by omega⟩
                  | exact ⟨(if_neg (by assumption)).symm, rfl, ⟨hw, hq⟩, by omega, by omega, fun z => by omega⟩
            · refine J_iconst C dX3_elect_106 ?_
              refine J_goto (tgt := 111) C dX3_elect_107 (by decide) ?_
              refine J_bastore C k13 ⟨by omega, by show w < 6; omega⟩ (by omega) (by first | exact Or.inl rfl | exact Or.inr rfl) dX3_elect_111 ?_
              refine J_aload4 C dX3_elect_112 ?_
              refine J_get_2_3 C in_X3_elect_X2 fl_X3_elect_115 ⟨by omega, by show w < 6; omega⟩ dX3_elect_114 ?_
              refine J_iload_2 C dX3_elect_117 ?_
              refine J_iload_3 C dX3_elect_118 ?_
              refine J_if_ne (tgt := 126) C (by omega) dX3_elect_119 (by decide) (fun c_119 => ?_) (fun c_119 => ?_)
              · refine J_iconst C dX3_elect_126 ?_
                refine J_bastore C k14 ⟨by omega, by show w < 6; omega⟩ (by omega) (by first | exact Or.inl rfl | exact Or.inr rfl) dX3_elect_127 ?_
                refine J_iload5 C dX3_elect_128 ?_
                refine J_vx ?_
                refine J_retZ C hr (by first | exact Or.inl rfl | exact Or.inr rfl) (by decide) (by decide) dX3_elect_130 ?_
                rcases hb9 with rfl | rfl
                all_goals first
                  | (exfalso; omega)
                  | exact ⟨(if_pos (by assumption)).symm, rfl, ⟨hw, hq⟩, by omega, by omega, fun _ => hz_.2.mp (by have := hz_.1; omega)⟩
                  | exact ⟨(if_neg (by assumption)).symm, rfl, ⟨hw, hq⟩, by omega, by omega, fun _ => hz_.2.mp (by have := hz_.1; omega)⟩
                  | exact ⟨(if_pos (by assumption)).symm, rfl, ⟨hw, hq⟩, by omega, by omega, fun z => by omega⟩
                  | exact ⟨(if_neg (by assumption)).symm, rfl, ⟨hw, hq⟩, by omega, by omega, fun z => by omega⟩
              · refine J_iconst C dX3_elect_122 ?_
                refine J_goto (tgt := 127) C dX3_elect_123 (by decide) ?_
                refine J_bastore C k14 ⟨by omega, by show w < 6; omega⟩ (by omega) (by first | exact Or.inl rfl | exact Or.inr rfl) dX3_elect_127 ?_
                refine J_iload5 C dX3_elect_128 ?_
                refine J_vx ?_
                refine J_retZ C hr (by first | exact Or.inl rfl | exact Or.inr rfl) (by decide) (by decide) dX3_elect_130 ?_
                rcases hb9 with rfl | rfl
                all_goals first
                  | (exfalso; omega)
                  | exact ⟨(if_pos (by assumption)).symm, rfl, ⟨hw, hq⟩, by omega, by omega, fun _ => hz_.2.mp (by have := hz_.1; omega)⟩
                  | exact ⟨(if_neg (by assumption)).symm, rfl, ⟨hw, hq⟩, by omega, by omega, fun _ => hz_.2.mp (by have := hz_.1; omega)⟩
                  | exact ⟨(if_pos (by assumption)).symm, rfl, ⟨hw, hq⟩, by omega, by omega, fun z => by omega⟩
                  | exact ⟨(if_neg (by assumption)).symm, rfl, ⟨hw, hq⟩, by omega, by omega, fun z => by omega⟩
          · refine J_iconst C dX3_elect_89 ?_
            refine J_goto (tgt := 94) C dX3_elect_90 (by decide) ?_
            refine J_istore5 C (by decide) rfl dX3_elect_94 ?_
            refine J_aload4 C dX3_elect_96 ?_
            refine J_get_2_2 C in_X3_elect_X2 fl_X3_elect_111 ⟨by omega, by show w < 6; omega⟩ dX3_elect_98 ?_
            refine J_iload_2 C dX3_elect_101 ?_
            refine J_iload_3 C dX3_elect_102 ?_
            refine J_if_ne (tgt := 110) C (by omega) dX3_elect_103 (by decide) (fun c_103 => ?_) (fun c_103 => ?_)
            · refine J_iconst C dX3_elect_110 ?_
              refine J_bastore C k13 ⟨by omega, by show w < 6; omega⟩ (by omega) (by first | exact Or.inl rfl | exact Or.inr rfl) dX3_elect_111 ?_
              refine J_aload4 C dX3_elect_112 ?_
              refine J_get_2_3 C in_X3_elect_X2 fl_X3_elect_115 ⟨by omega, by show w < 6; omega⟩ dX3_elect_114 ?_
              refine J_iload_2 C dX3_elect_117 ?_
              refine J_iload_3 C dX3_elect_118 ?_
              refine J_if_ne (tgt := 126) C (by omega) dX3_elect_119 (by decide) (fun c_119 => ?_) (fun c_119 => ?_)
              · refine J_iconst C dX3_elect_126 ?_
                refine J_bastore C k14 ⟨by omega, by show w < 6; omega⟩ (by omega) (by first | exact Or.inl rfl | exact Or.inr rfl) dX3_elect_127 ?_
                refine J_iload5 C dX3_elect_128 ?_
                refine J_vx ?_
                refine J_retZ C hr (by first | exact Or.inl rfl | exact Or.inr rfl) (by decide) (by decide) dX3_elect_130 ?_
                rcases hb9 with rfl | rfl
                all_goals first
                  | (exfalso; omega)
                  | exact ⟨(if_pos (by assumption)).symm, rfl, ⟨hw, hq⟩, by omega, by omega, fun _ => hz_.2.mp (by have := hz_.1; omega)⟩
                  | exact ⟨(if_neg (by assumption)).symm, rfl, ⟨hw, hq⟩, by omega, by omega, fun _ => hz_.2.mp (by have := hz_.1; omega)⟩
                  | exact ⟨(if_pos (by assumption)).symm, rfl, ⟨hw, hq⟩, by omega, by omega, fun z => by omega⟩
                  | exact ⟨(if_neg (by assumption)).symm, rfl, ⟨hw, hq⟩, by omega, by omega, fun z => by omega⟩
              · refine J_iconst C dX3_elect_122 ?_
                refine J_goto (tgt := 127) C dX3_elect_123 (by decide) ?_
                refine J_bastore C k14 ⟨by omega, by show w < 6; omega⟩ (by omega) (by first | exact Or.inl rfl | exact Or.inr rfl) dX3_elect_127 ?_
                refine J_iload5 C dX3_elect_128 ?_
                refine J_vx ?_
                refine J_retZ C hr (by first | exact Or.inl rfl | exact Or.inr rfl) (by decide) (by decide) dX3_elect_130 ?_
                rcases hb9 with rfl | rfl
                all_goals first
                  | (exfalso; omega)
                  | exact ⟨(if_pos (by assumption)).symm, rfl, ⟨hw, hq⟩, by omega, by omega, fun _ => hz_.2.mp (by have := hz_.1; omega)⟩
                  | exact ⟨(if_neg (by assumption)).symm, rfl, ⟨hw, hq⟩, by omega, by omega, fun _ => hz_.2.mp (by have := hz_.1; omega)⟩
                  | exact ⟨(if_pos (by assumption)).symm, rfl, ⟨hw, hq⟩, by omega, by omega, fun z => by omega⟩
                  | exact ⟨(if_neg (by assumption)).symm, rfl, ⟨hw, hq⟩, by omega, by omega, fun z => by omega⟩
            · refine J_iconst C dX3_elect_106 ?_
              refine J_goto (tgt := 111) C dX3_elect_107 (by decide) ?_
              refine J_bastore C k13 ⟨by omega, by show w < 6; omega⟩ (by omega) (by first | exact Or.inl rfl | exact Or.inr rfl) dX3_elect_111 ?_
              refine J_aload4 C dX3_elect_112 ?_
              refine J_get_2_3 C in_X3_elect_X2 fl_X3_elect_115 ⟨by omega, by show w < 6; omega⟩ dX3_elect_114 ?_
              refine J_iload_2 C dX3_elect_117 ?_
              refine J_iload_3 C dX3_elect_118 ?_
              refine J_if_ne (tgt := 126) C (by omega) dX3_elect_119 (by decide) (fun c_119 => ?_) (fun c_119 => ?_)
              · refine J_iconst C dX3_elect_126 ?_
                refine J_bastore C k14 ⟨by omega, by show w < 6; omega⟩ (by omega) (by first | exact Or.inl rfl | exact Or.inr rfl) dX3_elect_127 ?_
                refine J_iload5 C dX3_elect_128 ?_
                refine J_vx ?_
                refine J_retZ C hr (by first | exact Or.inl rfl | exact Or.inr rfl) (by decide) (by decide) dX3_elect_130 ?_
                rcases hb9 with rfl | rfl
                all_goals first
                  | (exfalso; omega)
                  | exact ⟨(if_pos (by assumption)).symm, rfl, ⟨hw, hq⟩, by omega, by omega, fun _ => hz_.2.mp (by have := hz_.1; omega)⟩
                  | exact ⟨(if_neg (by assumption)).symm, rfl, ⟨hw, hq⟩, by omega, by omega, fun _ => hz_.2.mp (by have := hz_.1; omega)⟩
                  | exact ⟨(if_pos (by assumption)).symm, rfl, ⟨hw, hq⟩, by omega, by omega, fun z => by omega⟩
                  | exact ⟨(if_neg (by assumption)).symm, rfl, ⟨hw, hq⟩, by omega, by omega, fun z => by omega⟩
              · refine J_iconst C dX3_elect_122 ?_
                refine J_goto (tgt := 127) C dX3_elect_123 (by decide) ?_
                refine J_bastore C k14 ⟨by omega, by show w < 6; omega⟩ (by omega) (by first | exact Or.inl rfl | exact Or.inr rfl) dX3_elect_127 ?_
                refine J_iload5 C dX3_elect_128 ?_
                refine J_vx ?_
                refine J_retZ C hr (by first | exact Or.inl rfl | exact Or.inr rfl) (by decide) (by decide) dX3_elect_130 ?_
                rcases hb9 with rfl | rfl
                all_goals first
                  | (exfalso; omega)
                  | exact ⟨(if_pos (by assumption)).symm, rfl, ⟨hw, hq⟩, by omega, by omega, fun _ => hz_.2.mp (by have := hz_.1; omega)⟩
                  | exact ⟨(if_neg (by assumption)).symm, rfl, ⟨hw, hq⟩, by omega, by omega, fun _ => hz_.2.mp (by have := hz_.1; omega)⟩
                  | exact ⟨(if_pos (by assumption)).symm, rfl, ⟨hw, hq⟩, by omega, by omega, fun z => by omega⟩
                  | exact ⟨(if_neg (by assumption)).symm, rfl, ⟨hw, hq⟩, by omega, by omega, fun z => by omega⟩
        · refine J_throw_ISE (text := "nobody would be in") C hT w_X3_elect_k79 w_X3_elect_i79 (by decide +kernel) (by decide) (by decide) (by decide) (by decide) ⟨by decide, by decide⟩ dX3_elect_69 dX3_elect_72 dX3_elect_73 dX3_elect_75 dX3_elect_78 ?_
          exact ⟨rfl, Or.inr ⟨rfl, ⟨hw, hq⟩, fun z => absurd (hz_.2.mpr (z.2.2 (by omega))) (by omega)⟩⟩
    · refine J_throw_ISE (text := "the partner has no share") C hT w_X3_elect_k79 w_X3_elect_i79 (by decide +kernel) (by decide) (by decide) (by decide) (by decide) ⟨by decide, by decide⟩ dX3_elect_45 dX3_elect_48 dX3_elect_49 dX3_elect_51 dX3_elect_54 ?_
      exact ⟨rfl, Or.inr ⟨rfl, ⟨hw, hq⟩, fun z => absurd z.2.1 (by omega)⟩⟩
  · refine J_throw_ISE (text := "the well has or had a voucher") C hT w_X3_elect_k79 w_X3_elect_i79 (by decide +kernel) (by decide) (by decide) (by decide) (by decide) ⟨by decide, by decide⟩ dX3_elect_26 dX3_elect_29 dX3_elect_30 dX3_elect_32 dX3_elect_35 ?_
    exact ⟨rfl, Or.inr ⟨rfl, ⟨hw, hq⟩, fun z => absurd z.1 (by omega)⟩⟩
set_option maxRecDepth 20000 in
theorem w_X3_cost_c118 : Cond.constant RX3 118 (iI (10000000)) ∈ wsX3_cost := by decide +kernel
set_option maxHeartbeats 4000000 in
set_option maxRecDepth 100000 in
theorem c_X3_cost {l : Launch} (hfl : l.stackTraces = false) {cy : Nat → ClassId} {D : va_G} {ad : Ad} (hI : Inj ad) (σ : Sg) (w a9 : Int) (hwc : 0 ≤ σ 0 0 4 ∧ σ 0 0 4 ≤ 6) (hvc : 0 ≤ σ 0 0 7 ∧ σ 0 0 7 ≤ 60) (hw9 : I32 w) (ia : I32 a9) (hsh : Shk (shf σ)) (hall : ∀ w, 0 ≤ w → w < 6 → Tin (shf σ) (ac σ w) ∧ (0 ≤ σ 12 w 0 ∧ σ 12 w 0 ≤ 1000) ∧ ∀ q, 0 ≤ q → q < 5 → 0 ≤ σ 15 w q ∧ σ 15 w q < 4611686018427387904) : XI l yX3_cost wsX3_cost ({ frames := 7, cells := 6, slots := 36, locals := 144 } : Room) cy D ad σ [.ref (ad 0 0), .int (iI w), .int (iI a9)] (fun z σ' => z = σ 0 0 7 ∧ Fr (adV σ w a9) σ' w ∧ ac σ' w = stepS (shf σ) (σ 12 w 0) (σ 0 0 7) a9 (ac σ w) ∧ ((0 ≤ w ∧ w < σ 0 0 4) ∧ (1 ≤ a9 ∧ a9 ≤ 10000000)) ∧ σ 0 0 7 < 60) (fun E σ' => σ' = σ ∧ ((E = nIOE ∧ ¬ (0 ≤ w ∧ w < σ 0 0 4)) ∨ (E = nIAE ∧ (0 ≤ w ∧ w < σ 0 0 4) ∧ ¬ (1 ≤ a9 ∧ a9 ≤ 10000000)) ∨ (E = nISE ∧ ((0 ≤ w ∧ w < σ 0 0 4) ∧ (1 ≤ a9 ∧ a9 ≤ 10000000)) ∧ ¬ (σ 0 0 7 < 60)))) 6 36 := by
  refine XI.of (lv0 := [some (.ref (ad 0 0)), some (.int (iI w)), some (.int (iI a9))]) hfl hI (by decide) rfl (Nat.le_of_ble_eq_true rfl) rfl ?_
  intro p e s m args below meth c C hr hT
  refine J_aload_0 C dX3_cost_0 ?_
  refine J_iload_1 C dX3_cost_1 ?_
  refine J_XVV C (c_X3_requireWell hfl hI _ w hwc hw9) (cwV 1 C.1.2.2.2.2 gX3_cost_X3_requireWell rfl rfl rfl (by decide +kernel) ⟨Nat.le_of_ble_eq_true rfl, Nat.le_of_ble_eq_true rfl⟩) rc3 (by decide) rfl rfl (Nat.le_of_ble_eq_true rfl) dX3_cost_2 ⟨Nat.le_of_ble_eq_true rfl, Nat.le_of_ble_eq_true rfl⟩ (fun E σ_2 hx => ?_) (fun σ_2 hp => ?_)
  · skip
    obtain ⟨rfl, hs_, hn_⟩ := hx
    have hs_ := hs_.symm
    subst hs_
    refine J_out C hT (by decide) (by decide) ?_
    refine ⟨rfl, ?_⟩
    first
      | exact ⟨rfl, by omega⟩
      | exact Or.inl ⟨rfl, by omega⟩
      | exact Or.inr ⟨rfl, by omega⟩
      | exact Or.inr (Or.inl ⟨rfl, by omega⟩)
      | exact Or.inr (Or.inr ⟨rfl, by omega⟩)
  obtain ⟨hs_, hw⟩ := hp
  have hs_ := hs_.symm
  subst hs_
  refine J_aload_0 C dX3_cost_5 ?_
  refine J_iload_2 C dX3_cost_6 ?_
  refine J_iconst C dX3_cost_7 ?_
  refine J_ldc C w_X3_cost_c118 dX3_cost_8 ?_
  refine J_XVV C (c_X3_requireRange hfl hI _ a9 1 10000000 (by omega) (by omega) (by omega)) (cwV 3 C.1.2.2.2.2 gX3_cost_X3_requireRange rfl rfl rfl (by decide +kernel) ⟨Nat.le_of_ble_eq_true rfl, Nat.le_of_ble_eq_true rfl⟩) rc3 (by decide) rfl rfl (Nat.le_of_ble_eq_true rfl) dX3_cost_10 ⟨Nat.le_of_ble_eq_true rfl, Nat.le_of_ble_eq_true rfl⟩ (fun E σ_10 hx => ?_) (fun σ_10 hp => ?_)
  · skip
    obtain ⟨rfl, hs_, hn_⟩ := hx
    have hs_ := hs_.symm
    subst hs_
    refine J_out C hT (by decide) (by decide) ?_
    refine ⟨rfl, ?_⟩
    first
      | exact ⟨rfl, by omega⟩
      | exact Or.inl ⟨rfl, by omega⟩
      | exact Or.inr ⟨rfl, by omega⟩
      | exact Or.inr (Or.inl ⟨rfl, by omega⟩)
      | exact Or.inr (Or.inr ⟨rfl, by omega⟩)
  obtain ⟨hs_, ha⟩ := hp
  have hs_ := hs_.symm
  subst hs_
  refine J_aload_0 C dX3_cost_13 ?_
  refine J_XVV C (c_X3_requireRoomForVoucher hfl hI _ hvc) (cwV 0 C.1.2.2.2.2 gX3_cost_X3_requireRoomForVoucher rfl rfl rfl (by decide +kernel) ⟨Nat.le_of_ble_eq_true rfl, Nat.le_of_ble_eq_true rfl⟩) rc3 (by decide) rfl rfl (Nat.le_of_ble_eq_true rfl) dX3_cost_14 ⟨Nat.le_of_ble_eq_true rfl, Nat.le_of_ble_eq_true rfl⟩ (fun E σ_14 hx => ?_) (fun σ_14 hp => ?_)
  · skip
    obtain ⟨rfl, hs_, hn_⟩ := hx
    have hs_ := hs_.symm
    subst hs_
    refine J_out C hT (by decide) (by decide) ?_
    refine ⟨rfl, ?_⟩
    first
      | exact ⟨rfl, by omega⟩
      | exact Or.inl ⟨rfl, by omega⟩
      | exact Or.inr ⟨rfl, by omega⟩
      | exact Or.inr (Or.inl ⟨rfl, by omega⟩)
      | exact Or.inr (Or.inr ⟨rfl, by omega⟩)
  obtain ⟨hs_, hroom⟩ := hp
  have hs_ := hs_.symm
  subst hs_
  refine J_aload_0 C dX3_cost_17 ?_
  refine J_iload_1 C dX3_cost_18 ?_
  refine J_iload_2 C dX3_cost_19 ?_
  refine J_KVI C (c_X3_addVoucher hfl hI _ w _ (by omega) ⟨hvc.1, hroom⟩ (by omega) hsh (hall w (by omega) (by omega)).1 (hall w (by omega) (by omega)).2.1 (hall w (by omega) (by omega)).2.2) (cwV 2 C.1.2.2.2.2 gX3_cost_X3_addVoucher rfl rfl rfl (by decide +kernel) ⟨Nat.le_of_ble_eq_true rfl, Nat.le_of_ble_eq_true rfl⟩) rc3 (by decide) rfl rfl (Nat.le_of_ble_eq_true rfl) dX3_cost_20 ⟨Nat.le_of_ble_eq_true rfl, Nat.le_of_ble_eq_true rfl⟩ (fun z_20 σ_20 hp => ?_)
  obtain ⟨hz_, F9, E9⟩ := hp
  have hz_ := hz_.symm
  subst hz_
  refine J_vx ?_
  refine J_retI C hr (by decide) (by decide) dX3_cost_23 ?_
  exact ⟨rfl, F9, E9, ⟨hw, ha⟩, hroom⟩
set_option maxRecDepth 20000 in
theorem w_X3_income_c118 : Cond.constant RX3 118 (iI (10000000)) ∈ wsX3_income := by decide +kernel
set_option maxHeartbeats 4000000 in
set_option maxRecDepth 100000 in
theorem c_X3_income {l : Launch} (hfl : l.stackTraces = false) {cy : Nat → ClassId} {D : va_G} {ad : Ad} (hI : Inj ad) (σ : Sg) (w a9 : Int) (hwc : 0 ≤ σ 0 0 4 ∧ σ 0 0 4 ≤ 6) (hvc : 0 ≤ σ 0 0 7 ∧ σ 0 0 7 ≤ 60) (hw9 : I32 w) (ia : I32 a9) (hsh : Shk (shf σ)) (hall : ∀ w, 0 ≤ w → w < 6 → Tin (shf σ) (ac σ w) ∧ (0 ≤ σ 12 w 0 ∧ σ 12 w 0 ≤ 1000) ∧ ∀ q, 0 ≤ q → q < 5 → 0 ≤ σ 15 w q ∧ σ 15 w q < 4611686018427387904) : XI l yX3_income wsX3_income ({ frames := 7, cells := 6, slots := 36, locals := 144 } : Room) cy D ad σ [.ref (ad 0 0), .int (iI w), .int (iI a9)] (fun z σ' => z = σ 0 0 7 ∧ Fr (adV σ w (-a9)) σ' w ∧ ac σ' w = stepS (shf σ) (σ 12 w 0) (σ 0 0 7) (-a9) (ac σ w) ∧ ((0 ≤ w ∧ w < σ 0 0 4) ∧ (1 ≤ a9 ∧ a9 ≤ 10000000)) ∧ σ 0 0 7 < 60) (fun E σ' => σ' = σ ∧ ((E = nIOE ∧ ¬ (0 ≤ w ∧ w < σ 0 0 4)) ∨ (E = nIAE ∧ (0 ≤ w ∧ w < σ 0 0 4) ∧ ¬ (1 ≤ a9 ∧ a9 ≤ 10000000)) ∨ (E = nISE ∧ ((0 ≤ w ∧ w < σ 0 0 4) ∧ (1 ≤ a9 ∧ a9 ≤ 10000000)) ∧ ¬ (σ 0 0 7 < 60)))) 6 36 := by
  refine XI.of (lv0 := [some (.ref (ad 0 0)), some (.int (iI w)), some (.int (iI a9))]) hfl hI (by decide) rfl (Nat.le_of_ble_eq_true rfl) rfl ?_
  intro p e s m args below meth c C hr hT
  refine J_aload_0 C dX3_income_0 ?_
  refine J_iload_1 C dX3_income_1 ?_
  refine J_XVV C (c_X3_requireWell hfl hI _ w hwc hw9) (cwV 1 C.1.2.2.2.2 gX3_income_X3_requireWell rfl rfl rfl (by decide +kernel) ⟨Nat.le_of_ble_eq_true rfl, Nat.le_of_ble_eq_true rfl⟩) rc3 (by decide) rfl rfl (Nat.le_of_ble_eq_true rfl) dX3_income_2 ⟨Nat.le_of_ble_eq_true rfl, Nat.le_of_ble_eq_true rfl⟩ (fun E σ_2 hx => ?_) (fun σ_2 hp => ?_)
  · skip
    obtain ⟨rfl, hs_, hn_⟩ := hx
    have hs_ := hs_.symm
    subst hs_
    refine J_out C hT (by decide) (by decide) ?_
    refine ⟨rfl, ?_⟩
    first
      | exact ⟨rfl, by omega⟩
      | exact Or.inl ⟨rfl, by omega⟩
      | exact Or.inr ⟨rfl, by omega⟩
      | exact Or.inr (Or.inl ⟨rfl, by omega⟩)
      | exact Or.inr (Or.inr ⟨rfl, by omega⟩)
  obtain ⟨hs_, hw⟩ := hp
  have hs_ := hs_.symm
  subst hs_
  refine J_aload_0 C dX3_income_5 ?_
  refine J_iload_2 C dX3_income_6 ?_
  refine J_iconst C dX3_income_7 ?_
  refine J_ldc C w_X3_income_c118 dX3_income_8 ?_
  refine J_XVV C (c_X3_requireRange hfl hI _ a9 1 10000000 (by omega) (by omega) (by omega)) (cwV 3 C.1.2.2.2.2 gX3_income_X3_requireRange rfl rfl rfl (by decide +kernel) ⟨Nat.le_of_ble_eq_true rfl, Nat.le_of_ble_eq_true rfl⟩) rc3 (by decide) rfl rfl (Nat.le_of_ble_eq_true rfl) dX3_income_10 ⟨Nat.le_of_ble_eq_true rfl, Nat.le_of_ble_eq_true rfl⟩ (fun E σ_10 hx => ?_) (fun σ_10 hp => ?_)
  · skip
    obtain ⟨rfl, hs_, hn_⟩ := hx
    have hs_ := hs_.symm
    subst hs_
    refine J_out C hT (by decide) (by decide) ?_
    refine ⟨rfl, ?_⟩
    first
      | exact ⟨rfl, by omega⟩
      | exact Or.inl ⟨rfl, by omega⟩
      | exact Or.inr ⟨rfl, by omega⟩
      | exact Or.inr (Or.inl ⟨rfl, by omega⟩)
      | exact Or.inr (Or.inr ⟨rfl, by omega⟩)
  obtain ⟨hs_, ha⟩ := hp
  have hs_ := hs_.symm
  subst hs_
  refine J_aload_0 C dX3_income_13 ?_
  refine J_XVV C (c_X3_requireRoomForVoucher hfl hI _ hvc) (cwV 0 C.1.2.2.2.2 gX3_income_X3_requireRoomForVoucher rfl rfl rfl (by decide +kernel) ⟨Nat.le_of_ble_eq_true rfl, Nat.le_of_ble_eq_true rfl⟩) rc3 (by decide) rfl rfl (Nat.le_of_ble_eq_true rfl) dX3_income_14 ⟨Nat.le_of_ble_eq_true rfl, Nat.le_of_ble_eq_true rfl⟩ (fun E σ_14 hx => ?_) (fun σ_14 hp => ?_)
  · skip
    obtain ⟨rfl, hs_, hn_⟩ := hx
    have hs_ := hs_.symm
    subst hs_
    refine J_out C hT (by decide) (by decide) ?_
    refine ⟨rfl, ?_⟩
    first
      | exact ⟨rfl, by omega⟩
      | exact Or.inl ⟨rfl, by omega⟩
      | exact Or.inr ⟨rfl, by omega⟩
      | exact Or.inr (Or.inl ⟨rfl, by omega⟩)
      | exact Or.inr (Or.inr ⟨rfl, by omega⟩)
  obtain ⟨hs_, hroom⟩ := hp
  have hs_ := hs_.symm
  subst hs_
  refine J_aload_0 C dX3_income_17 ?_
  refine J_iload_1 C dX3_income_18 ?_
  refine J_iload_2 C dX3_income_19 ?_
  refine J_ineg C dX3_income_20 ?_
  refine J_KVI C (c_X3_addVoucher hfl hI _ w _ (by omega) ⟨hvc.1, hroom⟩ (by omega) hsh (hall w (by omega) (by omega)).1 (hall w (by omega) (by omega)).2.1 (hall w (by omega) (by omega)).2.2) (cwV 2 C.1.2.2.2.2 gX3_income_X3_addVoucher rfl rfl rfl (by decide +kernel) ⟨Nat.le_of_ble_eq_true rfl, Nat.le_of_ble_eq_true rfl⟩) rc3 (by decide) rfl rfl (Nat.le_of_ble_eq_true rfl) dX3_income_21 ⟨Nat.le_of_ble_eq_true rfl, Nat.le_of_ble_eq_true rfl⟩ (fun z_21 σ_21 hp => ?_)
  obtain ⟨hz_, F9, E9⟩ := hp
  have hz_ := hz_.symm
  subst hz_
  refine J_vx ?_
  refine J_retI C hr (by decide) (by decide) dX3_income_24 ?_
  exact ⟨rfl, F9, E9, ⟨hw, ha⟩, hroom⟩
set_option maxRecDepth 20000 in
theorem in_X3_overhead_X3 : ∀ w ∈ wsX30, w ∈ wsX3_overhead := by decide +kernel
set_option maxRecDepth 20000 in
theorem fl_X3_overhead_17 : Cond.fieldLink RX3 17 "JointVenture" "monthlyOverhead" "I" ∈ wsX3_overhead := by decide +kernel
set_option maxRecDepth 20000 in
theorem w_X3_overhead_k79 : Cond.classLink RX3 79 nISE ∈ wsX3_overhead := by decide +kernel
set_option maxRecDepth 20000 in
theorem w_X3_overhead_i79 : Cond.initialized nISE ∈ wsX3_overhead := by decide +kernel
set_option maxHeartbeats 4000000 in
set_option maxRecDepth 100000 in
theorem c_X3_overhead {l : Launch} (hfl : l.stackTraces = false) {cy : Nat → ClassId} {D : va_G} {ad : Ad} (hI : Inj ad) (σ : Sg) (w a9 : Int) (hwc : 0 ≤ σ 0 0 4 ∧ σ 0 0 4 ≤ 6) (hvc : 0 ≤ σ 0 0 7 ∧ σ 0 0 7 ≤ 60) (hw9 : I32 w) (ia : I32 a9) (hsh : Shk (shf σ)) (hall : ∀ w, 0 ≤ w → w < 6 → Tin (shf σ) (ac σ w) ∧ (0 ≤ σ 12 w 0 ∧ σ 12 w 0 ≤ 1000) ∧ ∀ q, 0 ≤ q → q < 5 → 0 ≤ σ 15 w q ∧ σ 15 w q < 4611686018427387904) (hoh : 0 ≤ σ 0 0 2 ∧ σ 0 0 2 ≤ 100000) : XI l yX3_overhead wsX3_overhead ({ frames := 7, cells := 6, slots := 36, locals := 144 } : Room) cy D ad σ [.ref (ad 0 0), .int (iI w), .int (iI a9)] (fun z σ' => z = σ 0 0 7 ∧ Fr (adV σ w (σ 0 0 2 * a9)) σ' w ∧ ac σ' w = stepS (shf σ) (σ 12 w 0) (σ 0 0 7) (σ 0 0 2 * a9) (ac σ w) ∧ ((0 ≤ w ∧ w < σ 0 0 4) ∧ (1 ≤ a9 ∧ a9 ≤ 24)) ∧ σ 0 0 7 < 60 ∧ ¬ σ 0 0 2 = 0) (fun E σ' => σ' = σ ∧ ((E = nIOE ∧ ¬ (0 ≤ w ∧ w < σ 0 0 4)) ∨ (E = nIAE ∧ (0 ≤ w ∧ w < σ 0 0 4) ∧ ¬ (1 ≤ a9 ∧ a9 ≤ 24)) ∨ (E = nISE ∧ ((0 ≤ w ∧ w < σ 0 0 4) ∧ (1 ≤ a9 ∧ a9 ≤ 24)) ∧ ¬ (σ 0 0 7 < 60 ∧ ¬ σ 0 0 2 = 0)))) 6 36 := by
  refine XI.of (lv0 := [some (.ref (ad 0 0)), some (.int (iI w)), some (.int (iI a9))]) hfl hI (by decide) rfl (Nat.le_of_ble_eq_true rfl) rfl ?_
  intro p e s m args below meth c C hr hT
  refine J_aload_0 C dX3_overhead_0 ?_
  refine J_iload_1 C dX3_overhead_1 ?_
  refine J_XVV C (c_X3_requireWell hfl hI _ w hwc hw9) (cwV 1 C.1.2.2.2.2 gX3_overhead_X3_requireWell rfl rfl rfl (by decide +kernel) ⟨Nat.le_of_ble_eq_true rfl, Nat.le_of_ble_eq_true rfl⟩) rc3 (by decide) rfl rfl (Nat.le_of_ble_eq_true rfl) dX3_overhead_2 ⟨Nat.le_of_ble_eq_true rfl, Nat.le_of_ble_eq_true rfl⟩ (fun E σ_2 hx => ?_) (fun σ_2 hp => ?_)
  · skip
    obtain ⟨rfl, hs_, hn_⟩ := hx
    have hs_ := hs_.symm
    subst hs_
    refine J_out C hT (by decide) (by decide) ?_
    refine ⟨rfl, ?_⟩
    first
      | exact ⟨rfl, by omega⟩
      | exact Or.inl ⟨rfl, by omega⟩
      | exact Or.inr ⟨rfl, by omega⟩
      | exact Or.inr (Or.inl ⟨rfl, by omega⟩)
      | exact Or.inr (Or.inr ⟨rfl, by omega⟩)
  obtain ⟨hs_, hw⟩ := hp
  have hs_ := hs_.symm
  subst hs_
  refine J_aload_0 C dX3_overhead_5 ?_
  refine J_iload_2 C dX3_overhead_6 ?_
  refine J_iconst C dX3_overhead_7 ?_
  refine J_bipush C (by decide) dX3_overhead_8 ?_
  refine J_XVV C (c_X3_requireRange hfl hI _ a9 1 24 (by omega) (by omega) (by omega)) (cwV 3 C.1.2.2.2.2 gX3_overhead_X3_requireRange rfl rfl rfl (by decide +kernel) ⟨Nat.le_of_ble_eq_true rfl, Nat.le_of_ble_eq_true rfl⟩) rc3 (by decide) rfl rfl (Nat.le_of_ble_eq_true rfl) dX3_overhead_10 ⟨Nat.le_of_ble_eq_true rfl, Nat.le_of_ble_eq_true rfl⟩ (fun E σ_10 hx => ?_) (fun σ_10 hp => ?_)
  · skip
    obtain ⟨rfl, hs_, hn_⟩ := hx
    have hs_ := hs_.symm
    subst hs_
    refine J_out C hT (by decide) (by decide) ?_
    refine ⟨rfl, ?_⟩
    first
      | exact ⟨rfl, by omega⟩
      | exact Or.inl ⟨rfl, by omega⟩
      | exact Or.inr ⟨rfl, by omega⟩
      | exact Or.inr (Or.inl ⟨rfl, by omega⟩)
      | exact Or.inr (Or.inr ⟨rfl, by omega⟩)
  obtain ⟨hs_, ha⟩ := hp
  have hs_ := hs_.symm
  subst hs_
  refine J_aload_0 C dX3_overhead_13 ?_
  refine J_XVV C (c_X3_requireRoomForVoucher hfl hI _ hvc) (cwV 0 C.1.2.2.2.2 gX3_overhead_X3_requireRoomForVoucher rfl rfl rfl (by decide +kernel) ⟨Nat.le_of_ble_eq_true rfl, Nat.le_of_ble_eq_true rfl⟩) rc3 (by decide) rfl rfl (Nat.le_of_ble_eq_true rfl) dX3_overhead_14 ⟨Nat.le_of_ble_eq_true rfl, Nat.le_of_ble_eq_true rfl⟩ (fun E σ_14 hx => ?_) (fun σ_14 hp => ?_)
  · skip
    obtain ⟨rfl, hs_, hn_⟩ := hx
    have hs_ := hs_.symm
    subst hs_
    refine J_out C hT (by decide) (by decide) ?_
    refine ⟨rfl, ?_⟩
    first
      | exact ⟨rfl, by omega⟩
      | exact Or.inl ⟨rfl, by omega⟩
      | exact Or.inr ⟨rfl, by omega⟩
      | exact Or.inr (Or.inl ⟨rfl, by omega⟩)
      | exact Or.inr (Or.inr ⟨rfl, by omega⟩)
  obtain ⟨hs_, hroom⟩ := hp
  have hs_ := hs_.symm
  subst hs_
  refine J_aload_0 C dX3_overhead_17 ?_
  refine J_get_3_2 C in_X3_overhead_X3 fl_X3_overhead_17 (by decide) dX3_overhead_18 ?_
  refine J_if_ne (tgt := 34) C (by omega) dX3_overhead_21 (by decide) (fun c_21 => ?_) (fun c_21 => ?_)
  · refine J_aload_0 C dX3_overhead_34 ?_
    refine J_iload_1 C dX3_overhead_35 ?_
    refine J_aload_0 C dX3_overhead_36 ?_
    refine J_get_3_2 C in_X3_overhead_X3 fl_X3_overhead_17 (by decide) dX3_overhead_37 ?_
    refine J_iload_2 C dX3_overhead_40 ?_
    refine J_imul C dX3_overhead_41 ?_
    refine J_KVI C (c_X3_addVoucher hfl hI _ w _ (by omega) ⟨hvc.1, hroom⟩ (ovh_rng hoh ha) hsh (hall w (by omega) (by omega)).1 (hall w (by omega) (by omega)).2.1 (hall w (by omega) (by omega)).2.2) (cwV 2 C.1.2.2.2.2 gX3_overhead_X3_addVoucher rfl rfl rfl (by decide +kernel) ⟨Nat.le_of_ble_eq_true rfl, Nat.le_of_ble_eq_true rfl⟩) rc3 (by decide) rfl rfl (Nat.le_of_ble_eq_true rfl) dX3_overhead_42 ⟨Nat.le_of_ble_eq_true rfl, Nat.le_of_ble_eq_true rfl⟩ (fun z_42 σ_42 hp => ?_)
    obtain ⟨hz_, F9, E9⟩ := hp
    have hz_ := hz_.symm
    subst hz_
    refine J_vx ?_
    refine J_retI C hr (by decide) (by decide) dX3_overhead_45 ?_
    exact ⟨rfl, F9, E9, ⟨hw, ha⟩, hroom, by omega⟩
  · refine J_throw_ISE (text := "the overhead is 0") C hT w_X3_overhead_k79 w_X3_overhead_i79 (by decide +kernel) (by decide) (by decide) (by decide) (by decide) ⟨by decide, by decide⟩ dX3_overhead_24 dX3_overhead_27 dX3_overhead_28 dX3_overhead_30 dX3_overhead_33 ?_
    refine ⟨rfl, ?_⟩
    first
      | exact ⟨rfl, by omega⟩
      | exact Or.inl ⟨rfl, by omega⟩
      | exact Or.inr ⟨rfl, by omega⟩
      | exact Or.inr (Or.inl ⟨rfl, by omega⟩)
      | exact Or.inr (Or.inr ⟨rfl, by omega⟩)
