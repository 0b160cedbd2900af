set_option maxRecDepth 20000 in
theorem in_X3_move_X3 : ∀ w ∈ wsX30, w ∈ wsX3_move := by decide +kernel
set_option maxRecDepth 20000 in
theorem fl_X3_move_32 : Cond.fieldLink RX3 32 "JointVenture" "voucherAmounts" "[I" ∈ wsX3_move := by decide +kernel
set_option maxRecDepth 20000 in
theorem fl_X3_move_29 : Cond.fieldLink RX3 29 "JointVenture" "voucherWells" "[I" ∈ wsX3_move := by decide +kernel
set_option maxRecDepth 20000 in
theorem fl_X3_move_22 : Cond.fieldLink RX3 22 "JointVenture" "wells" "[LJointVenture$Well;" ∈ wsX3_move := by decide +kernel
set_option maxRecDepth 20000 in
theorem in_X3_move_X2 : ∀ w ∈ wsX20, w ∈ wsX3_move := by decide +kernel
set_option maxRecDepth 20000 in
theorem fl_X3_move_97 : Cond.fieldLink RX3 97 "JointVenture$Well" "hadVoucher" "Z" ∈ wsX3_move := by decide +kernel
set_option maxRecDepth 20000 in
theorem w_X3_move_k79 : Cond.classLink RX3 79 nISE ∈ wsX3_move := by decide +kernel
set_option maxRecDepth 20000 in
theorem w_X3_move_i79 : Cond.initialized nISE ∈ wsX3_move := by decide +kernel
set_option maxHeartbeats 4000000 in
set_option maxRecDepth 100000 in
theorem c_X3_move {l : Launch} (hfl : l.stackTraces = false) {cy : Nat → ClassId} {D : va_G} {ad : Ad} (hI : Inj ad) (σ : Sg) (v w : Int) (hwc : 0 ≤ σ 0 0 4 ∧ σ 0 0 4 ≤ 6) (hvc : 0 ≤ σ 0 0 7 ∧ σ 0 0 7 ≤ 60) (hv9 : I32 v) (hw9 : I32 w) (hvs : ∀ v, 0 ≤ v → v < 60 → (0 ≤ σ 3 0 v ∧ σ 3 0 v < 6) ∧ -10000000 ≤ σ 4 0 v ∧ σ 4 0 v ≤ 10000000) (hsh : Shk (shf σ)) (hel : ∀ w, 0 ≤ w → w < 6 → (∀ q, 0 ≤ q → q < 5 → σ 13 w q = 0 ∨ σ 13 w q = 1) ∧ Tin (shf σ) (T0f (σ 13 w)) ∧ 0 ≤ σ 12 w 0 ∧ σ 12 w 0 ≤ 1000) : XI l yX3_move wsX3_move ({ frames := 7, cells := 6, slots := 36, locals := 143 } : Room) cy D ad σ [.ref (ad 0 0), .int (iI v), .int (iI w)] (fun z σ' => z = σ 3 0 v ∧ (∀ (a : Nat) (b c : Int), (a < 8 ∨ 11 < a) → (a < 14 ∨ 18 < a ∨ (b ≠ w ∧ b ≠ σ 3 0 v) ∨ c < 0 ∨ 5 ≤ c) → σ' a b c = (su (su σ 3 0 v w) 12 w 1 1) a b c) ∧ ac σ' w = foldS (shf σ) (σ 12 w 0) ((su (su σ 3 0 v w) 12 w 1 1) 3 0) (σ 4 0) w (T0f (σ 13 w)) (σ 0 0 7).toNat ∧ ac σ' (σ 3 0 v) = foldS (shf σ) (σ 12 (σ 3 0 v) 0) ((su (su σ 3 0 v w) 12 w 1 1) 3 0) (σ 4 0) (σ 3 0 v) (T0f (σ 13 (σ 3 0 v))) (σ 0 0 7).toNat ∧ ((0 ≤ v ∧ v < σ 0 0 7) ∧ (0 ≤ w ∧ w < σ 0 0 4)) ∧ 0 ≤ σ 4 0 v) (fun E σ' => σ' = σ ∧ ((E = nIOE ∧ ¬ ((0 ≤ v ∧ v < σ 0 0 7) ∧ (0 ≤ w ∧ w < σ 0 0 4))) ∨ (E = nISE ∧ ((0 ≤ v ∧ v < σ 0 0 7) ∧ (0 ≤ w ∧ w < σ 0 0 4)) ∧ ¬ 0 ≤ σ 4 0 v))) 6 36 := by
  refine XI.of (lv0 := [some (.ref (ad 0 0)), some (.int (iI v)), some (.int (iI w)), none]) hfl hI (by decide) rfl (Nat.le_of_ble_eq_true rfl) rfl ?_
  intro p e s m args below meth c C hr hT
  refine J_aload_0 C dX3_move_0 ?_
  refine J_iload_1 C dX3_move_1 ?_
  refine J_XVV C (c_X3_requireVoucher hfl hI _ v hvc hv9) (cwV 1 C.1.2.2.2.2 gX3_move_X3_requireVoucher rfl rfl rfl (by decide +kernel) ⟨Nat.le_of_ble_eq_true rfl, Nat.le_of_ble_eq_true rfl⟩) rc3 (by decide) rfl rfl (Nat.le_of_ble_eq_true rfl) dX3_move_2 ⟨Nat.le_of_ble_eq_true rfl, Nat.le_of_ble_eq_true rfl⟩ (fun E σ_2 hx => ?_) (fun σ_2 hp => ?_)
  · skip
    obtain ⟨rfl, hs_, hn_⟩ := hx
    have hs_ := hs_.symm
    subst hs_
    refine J_out C hT (by decide) (by decide) ?_
    refine ⟨rfl, ?_⟩
    first
      | exact ⟨rfl, by omega⟩
      | exact Or.inl ⟨rfl, by omega⟩
      | exact Or.inr ⟨rfl, by omega⟩
      | exact Or.inr (Or.inl ⟨rfl, by omega⟩)
      | exact Or.inr (Or.inr ⟨rfl, by omega⟩)
  obtain ⟨hs_, hv⟩ := hp
  have hs_ := hs_.symm
  subst hs_
  refine J_aload_0 C dX3_move_5 ?_
  refine J_iload_2 C dX3_move_6 ?_
  refine J_XVV C (c_X3_requireWell hfl hI _ w hwc hw9) (cwV 1 C.1.2.2.2.2 gX3_move_X3_requireWell rfl rfl rfl (by decide +kernel) ⟨Nat.le_of_ble_eq_true rfl, Nat.le_of_ble_eq_true rfl⟩) rc3 (by decide) rfl rfl (Nat.le_of_ble_eq_true rfl) dX3_move_7 ⟨Nat.le_of_ble_eq_true rfl, Nat.le_of_ble_eq_true rfl⟩ (fun E σ_7 hx => ?_) (fun σ_7 hp => ?_)
  · skip
    obtain ⟨rfl, hs_, hn_⟩ := hx
    have hs_ := hs_.symm
    subst hs_
    refine J_out C hT (by decide) (by decide) ?_
    refine ⟨rfl, ?_⟩
    first
      | exact ⟨rfl, by omega⟩
      | exact Or.inl ⟨rfl, by omega⟩
      | exact Or.inr ⟨rfl, by omega⟩
      | exact Or.inr (Or.inl ⟨rfl, by omega⟩)
      | exact Or.inr (Or.inr ⟨rfl, by omega⟩)
  obtain ⟨hs_, hw⟩ := hp
  have hs_ := hs_.symm
  subst hs_
  refine J_aload_0 C dX3_move_10 ?_
  refine J_get_3_6 C in_X3_move_X3 fl_X3_move_32 (by decide) dX3_move_11 ?_
  refine J_iload_1 C dX3_move_14 ?_
  refine J_iaload C k4 (by decide) (by omega) dX3_move_15 ?_
  refine J_if_ge (tgt := 29) C (by have := hvs v (by omega) (by omega); omega) dX3_move_16 (by decide) (fun c_16 => ?_) (fun c_16 => ?_)
  · refine J_aload_0 C dX3_move_29 ?_
    refine J_get_3_5 C in_X3_move_X3 fl_X3_move_29 (by decide) dX3_move_30 ?_
    refine J_iload_1 C dX3_move_33 ?_
    refine J_iaload C k3 (by decide) (by omega) dX3_move_34 ?_
    refine J_istore_3 C (by decide) rfl dX3_move_35 ?_
    refine J_aload_0 C dX3_move_36 ?_
    refine J_get_3_5 C in_X3_move_X3 fl_X3_move_29 (by decide) dX3_move_37 ?_
    refine J_iload_1 C dX3_move_40 ?_
    refine J_iload_2 C dX3_move_41 ?_
    refine J_iastore C k3 (by decide) (by omega) dX3_move_42 ?_
    refine J_aload_0 C dX3_move_43 ?_
    refine J_get_3_3 C in_X3_move_X3 fl_X3_move_22 (by decide) dX3_move_44 ?_
    refine J_iload_2 C dX3_move_47 ?_
    refine J_aaloadW C (by omega) dX3_move_48 ?_
    refine J_iconst C dX3_move_49 ?_
    refine J_put_2_1 C (by exact Or.inr rfl) in_X3_move_X2 fl_X3_move_97 ⟨by omega, by show w < 6; omega⟩ dX3_move_50 ?_
    have esh : shf (su (su σ 3 0 v w) 12 w 1 1) = shf σ := shf_congr (fun x _ _ => by simp [su])
    have e4 : ∀ x, (su (su σ 3 0 v w) 12 w 1 1) 4 0 x = σ 4 0 x := fun x => by simp [su]
    have e13 : ∀ x y, (su (su σ 3 0 v w) 12 w 1 1) 13 x y = σ 13 x y := fun x y => by simp [su]
    have e12 : ∀ x, (su (su σ 3 0 v w) 12 w 1 1) 12 x 0 = σ 12 x 0 := fun x => by simp [su]
    have e7 : (su (su σ 3 0 v w) 12 w 1 1) 0 0 7 = σ 0 0 7 := by simp [su]
    have e3 : ∀ x, (su (su σ 3 0 v w) 12 w 1 1) 3 0 x = if x = v then w else σ 3 0 x := fun x => by simp [su]
    have hbv := hvs v (by omega) (by omega)
    generalize hτ : (su (su σ 3 0 v w) 12 w 1 1) = τ at esh e4 e13 e12 e7 e3 ⊢
    refine J_aload_0 C dX3_move_53 ?_
    refine J_iload_3 C dX3_move_54 ?_
    refine J_KVV C (c_X3_accountAnew hfl hI τ (σ 3 0 v) (by omega) (by rw [e7]; exact hvc) (fun x a b => by rw [e7] at b; have := hvs x a (by omega); rw [e3, e4]; split <;> omega) (fun x a b => by rw [e13]; exact (hel _ (by omega) (by omega)).1 x a b) (by rw [esh]; exact hsh) (by rw [esh, show τ 13 (σ 3 0 v) = σ 13 (σ 3 0 v) from funext (e13 _)]; exact (hel _ (by omega) (by omega)).2.1) (by rw [e12]; exact (hel _ (by omega) (by omega)).2.2)) (cwV 1 C.1.2.2.2.2 gX3_move_X3_accountAnew rfl rfl rfl (by decide +kernel) ⟨Nat.le_of_ble_eq_true rfl, Nat.le_of_ble_eq_true rfl⟩) rc3 (by decide) rfl rfl (Nat.le_of_ble_eq_true rfl) dX3_move_55 ⟨Nat.le_of_ble_eq_true rfl, Nat.le_of_ble_eq_true rfl⟩ (fun σ_55 hp => ?_)
    obtain ⟨F1, A1⟩ := hp
    rw [esh, e12, show τ 4 0 = σ 4 0 from funext e4, show τ 13 (σ 3 0 v) = σ 13 (σ 3 0 v) from funext (e13 _), e7] at A1
    refine J_aload_0 C dX3_move_58 ?_
    refine J_iload_2 C dX3_move_59 ?_
    refine J_KVV C (c_X3_accountAnew hfl hI _ w (by omega) (by rw [F1 0 0 7 (by omega) (by omega), e7]; exact hvc) (fun x a b => by rw [F1 0 0 7 (by omega) (by omega), e7] at b; have := hvs x a (by omega); rw [F1 3 0 x (by omega) (by omega), F1 4 0 x (by omega) (by omega), e3, e4]; split <;> omega) (fun x a b => by rw [F1 13 w x (by omega) (by omega), e13]; exact (hel _ (by omega) (by omega)).1 x a b) (by rw [F1.shf, esh]; exact hsh) (by rw [F1.shf, esh, show σ_55 13 w = σ 13 w from funext (fun y => by rw [F1 13 w y (by omega) (by omega), e13])]; exact (hel _ (by omega) (by omega)).2.1) (by rw [F1 12 w 0 (by omega) (by omega), e12]; exact (hel _ (by omega) (by omega)).2.2)) (cwV 1 C.1.2.2.2.2 gX3_move_X3_accountAnew rfl rfl rfl (by decide +kernel) ⟨Nat.le_of_ble_eq_true rfl, Nat.le_of_ble_eq_true rfl⟩) rc3 (by decide) rfl rfl (Nat.le_of_ble_eq_true rfl) dX3_move_60 ⟨Nat.le_of_ble_eq_true rfl, Nat.le_of_ble_eq_true rfl⟩ (fun σ_60 hp => ?_)
    obtain ⟨F2, A2⟩ := hp
    rw [F1.shf, esh, F1 12 w 0 (by omega) (by omega), e12, show σ_55 3 0 = τ 3 0 from funext (fun y => F1 3 0 y (by omega) (by omega)), show σ_55 4 0 = σ 4 0 from funext (fun y => by rw [F1 4 0 y (by omega) (by omega), e4]), show σ_55 13 w = σ 13 w from funext (fun y => by rw [F1 13 w y (by omega) (by omega), e13]), F1 0 0 7 (by omega) (by omega), e7] at A2
    refine J_iload_3 C dX3_move_63 ?_
    refine J_vx ?_
    refine J_retI C hr (by decide) (by decide) dX3_move_64 ?_
    refine ⟨rfl, fun a b c h h9 => ?_, A2, ?_, ⟨hv, hw⟩, by omega⟩
    · rw [F2 a b c h (by omega), F1 a b c h (by omega)]
    · by_cases e : σ 3 0 v = w
      · rw [e]; exact A2
      · rw [ac_congr (σ := σ_55) (fun c q a b d f => F2 c _ q (by omega) (by omega))]
        exact A1
  · refine J_throw_ISE (text := "the voucher is an income") C hT w_X3_move_k79 w_X3_move_i79 (by decide +kernel) (by decide) (by decide) (by decide) (by decide) ⟨by decide, by decide⟩ dX3_move_19 dX3_move_22 dX3_move_23 dX3_move_25 dX3_move_28 ?_
    refine ⟨rfl, ?_⟩
    first
      | exact ⟨rfl, by omega⟩
      | exact Or.inl ⟨rfl, by omega⟩
      | exact Or.inr ⟨rfl, by omega⟩
      | exact Or.inr (Or.inl ⟨rfl, by omega⟩)
      | exact Or.inr (Or.inr ⟨rfl, by omega⟩)
set_option maxRecDepth 20000 in
theorem in_X3_weight_X3 : ∀ w ∈ wsX30, w ∈ wsX3_weight := by decide +kernel
set_option maxRecDepth 20000 in
theorem fl_X3_weight_22 : Cond.fieldLink RX3 22 "JointVenture" "wells" "[LJointVenture$Well;" ∈ wsX3_weight := by decide +kernel
set_option maxRecDepth 20000 in
theorem fl_X3_weight_63 : Cond.fieldLink RX3 63 "JointVenture" "portions" "[I" ∈ wsX3_weight := by decide +kernel
set_option maxHeartbeats 4000000 in
set_option maxRecDepth 100000 in
theorem c_X3_weight {l : Launch} (hfl : l.stackTraces = false) {cy : Nat → ClassId} {D : va_G} {ad : Ad} (hI : Inj ad) (σ : Sg) (w q : Int) (hwc : 0 ≤ σ 0 0 4 ∧ σ 0 0 4 ≤ 6) (hw9 : I32 w) (hq9 : I32 q) (hsh : Shk (shf σ)) (hall : ∀ w, 0 ≤ w → w < 6 → Tin (shf σ) (ac σ w) ∧ (0 ≤ σ 12 w 0 ∧ σ 12 w 0 ≤ 1000) ∧ ∀ q, 0 ≤ q → q < 5 → 0 ≤ σ 15 w q ∧ σ 15 w q < 4611686018427387904) : XI l yX3_weight wsX3_weight ({ frames := 7, cells := 6, slots := 36, locals := 103 } : Room) cy D ad σ [.ref (ad 0 0), .int (iI w), .int (iI q)] (fun z σ' => z = chp (shf σ) (ac σ w) 10000 q ∧ Fs σ σ' ∧ (0 ≤ w ∧ w < σ 0 0 4) ∧ (0 ≤ q ∧ q < 5)) (fun E σ' => σ' = σ ∧ E = nIOE ∧ ¬ ((0 ≤ w ∧ w < σ 0 0 4) ∧ (0 ≤ q ∧ q < 5))) 6 36 := by
  refine XI.of (lv0 := [some (.ref (ad 0 0)), some (.int (iI w)), some (.int (iI q))]) hfl hI (by decide) rfl (Nat.le_of_ble_eq_true rfl) rfl ?_
  intro p e s m args below meth c C hr hT
  refine J_aload_0 C dX3_weight_0 ?_
  refine J_iload_1 C dX3_weight_1 ?_
  refine J_XVV C (c_X3_requireWell hfl hI _ w hwc hw9) (cwV 1 C.1.2.2.2.2 gX3_weight_X3_requireWell rfl rfl rfl (by decide +kernel) ⟨Nat.le_of_ble_eq_true rfl, Nat.le_of_ble_eq_true rfl⟩) rc3 (by decide) rfl rfl (Nat.le_of_ble_eq_true rfl) dX3_weight_2 ⟨Nat.le_of_ble_eq_true rfl, Nat.le_of_ble_eq_true rfl⟩ (fun E σ_2 hx => ?_) (fun σ_2 hp => ?_)
  · skip
    obtain ⟨rfl, hs_, hn_⟩ := hx
    have hs_ := hs_.symm
    subst hs_
    refine J_out C hT (by decide) (by decide) ?_
    refine ⟨rfl, ?_⟩
    first
      | exact ⟨rfl, by omega⟩
      | exact Or.inl ⟨rfl, by omega⟩
      | exact Or.inr ⟨rfl, by omega⟩
      | exact Or.inr (Or.inl ⟨rfl, by omega⟩)
      | exact Or.inr (Or.inr ⟨rfl, by omega⟩)
  obtain ⟨hs_, hw⟩ := hp
  have hs_ := hs_.symm
  subst hs_
  refine J_aload_0 C dX3_weight_5 ?_
  refine J_iload_2 C dX3_weight_6 ?_
  refine J_XVV C (c_X3_requirePartner hfl hI _ q hq9) (cwV 1 C.1.2.2.2.2 gX3_weight_X3_requirePartner rfl rfl rfl (by decide +kernel) ⟨Nat.le_of_ble_eq_true rfl, Nat.le_of_ble_eq_true rfl⟩) rc3 (by decide) rfl rfl (Nat.le_of_ble_eq_true rfl) dX3_weight_7 ⟨Nat.le_of_ble_eq_true rfl, Nat.le_of_ble_eq_true rfl⟩ (fun E σ_7 hx => ?_) (fun σ_7 hp => ?_)
  · skip
    obtain ⟨rfl, hs_, hn_⟩ := hx
    have hs_ := hs_.symm
    subst hs_
    refine J_out C hT (by decide) (by decide) ?_
    refine ⟨rfl, ?_⟩
    first
      | exact ⟨rfl, by omega⟩
      | exact Or.inl ⟨rfl, by omega⟩
      | exact Or.inr ⟨rfl, by omega⟩
      | exact Or.inr (Or.inl ⟨rfl, by omega⟩)
      | exact Or.inr (Or.inr ⟨rfl, by omega⟩)
  obtain ⟨hs_, hq⟩ := hp
  have hs_ := hs_.symm
  subst hs_
  refine J_aload_0 C dX3_weight_10 ?_
  refine J_aload_0 C dX3_weight_11 ?_
  refine J_get_3_3 C in_X3_weight_X3 fl_X3_weight_22 (by decide) dX3_weight_12 ?_
  refine J_iload_1 C dX3_weight_15 ?_
  refine J_aaloadW C (by omega) dX3_weight_16 ?_
  refine J_sipush C (by decide) dX3_weight_17 ?_
  refine J_KVV C (c_X3_divideCost hfl hI _ w 10000 (by omega) (by omega) hsh (hall w (by omega) (by omega)).1) (cwV 2 C.1.2.2.2.2 gX3_weight_X3_divideCost rfl rfl rfl (by decide +kernel) ⟨Nat.le_of_ble_eq_true rfl, Nat.le_of_ble_eq_true rfl⟩) rc3 (by decide) rfl rfl (Nat.le_of_ble_eq_true rfl) dX3_weight_20 ⟨Nat.le_of_ble_eq_true rfl, Nat.le_of_ble_eq_true rfl⟩ (fun σ_20 hp => ?_)
  obtain ⟨F1, O1, P1⟩ := hp
  refine J_aload_0 C dX3_weight_23 ?_
  refine J_get_3_14 C in_X3_weight_X3 fl_X3_weight_63 (by decide) dX3_weight_24 ?_
  refine J_iload_2 C dX3_weight_27 ?_
  refine J_iaload C k11 (by decide) (by omega) dX3_weight_28 ?_
  refine J_vx ?_
  refine J_retI C hr (by decide) (by decide) dX3_weight_29 ?_
  exact ⟨P1 q hq.1 hq.2, F1, hw, hq⟩
set_option maxRecDepth 20000 in
theorem w_X3_call_c118 : Cond.constant RX3 118 (iI (10000000)) ∈ wsX3_call := by decide +kernel
set_option maxRecDepth 20000 in
theorem in_X3_call_X3 : ∀ w ∈ wsX30, w ∈ wsX3_call := by decide +kernel
set_option maxRecDepth 20000 in
theorem fl_X3_call_44 : Cond.fieldLink RX3 44 "JointVenture" "cashCallCount" "I" ∈ wsX3_call := by decide +kernel
set_option maxRecDepth 20000 in
theorem fl_X3_call_22 : Cond.fieldLink RX3 22 "JointVenture" "wells" "[LJointVenture$Well;" ∈ wsX3_call := by decide +kernel
set_option maxRecDepth 20000 in
theorem fl_X3_call_53 : Cond.fieldLink RX3 53 "JointVenture" "division" "LJointVenture$Division;" ∈ wsX3_call := by decide +kernel
set_option maxRecDepth 20000 in
theorem fl_X3_call_63 : Cond.fieldLink RX3 63 "JointVenture" "portions" "[I" ∈ wsX3_call := by decide +kernel
set_option maxRecDepth 20000 in
theorem fl_X3_call_40 : Cond.fieldLink RX3 40 "JointVenture" "cashCalls" "[LJointVenture$CashCall;" ∈ wsX3_call := by decide +kernel
set_option maxRecDepth 20000 in
theorem in_X3_call_X0 : ∀ w ∈ wsX00, w ∈ wsX3_call := by decide +kernel
set_option maxRecDepth 20000 in
theorem fl_X3_call_159 : Cond.fieldLink RX3 159 "JointVenture$CashCall" "asked" "[I" ∈ wsX3_call := by decide +kernel
set_option maxRecDepth 20000 in
theorem w_X3_call_k79 : Cond.classLink RX3 79 nISE ∈ wsX3_call := by decide +kernel
set_option maxRecDepth 20000 in
theorem w_X3_call_i79 : Cond.initialized nISE ∈ wsX3_call := by decide +kernel
set_option maxHeartbeats 4000000 in
set_option maxRecDepth 100000 in
theorem c_X3_call {l : Launch} (hfl : l.stackTraces = false) {cy : Nat → ClassId} {D : va_G} {ad : Ad} (hI : Inj ad) (σ : Sg) (w a9 : Int) (hwc : 0 ≤ σ 0 0 4 ∧ σ 0 0 4 ≤ 6) (hcc : 0 ≤ σ 0 0 9 ∧ σ 0 0 9 ≤ 20) (hw9 : I32 w) (ia : I32 a9) (hsh : Shk (shf σ)) (hall : ∀ w, 0 ≤ w → w < 6 → Tin (shf σ) (ac σ w) ∧ (0 ≤ σ 12 w 0 ∧ σ 12 w 0 ≤ 1000) ∧ ∀ q, 0 ≤ q → q < 5 → 0 ≤ σ 15 w q ∧ σ 15 w q < 4611686018427387904) : XI l yX3_call wsX3_call ({ frames := 7, cells := 6, slots := 36, locals := 105 } : Room) cy D ad σ [.ref (ad 0 0), .int (iI w), .int (iI a9)] (fun z σ' => z = σ 0 0 9 ∧ Fs (su (sf σ 20 (σ 0 0 9) 5 (dv a9 (chp (shf σ) (ac σ w) 10000))) 0 0 9 (σ 0 0 9 + 1)) σ' ∧ ((0 ≤ w ∧ w < σ 0 0 4) ∧ (1 ≤ a9 ∧ a9 ≤ 10000000)) ∧ σ 0 0 9 < 20) (fun E σ' => σ' = σ ∧ ((E = nIOE ∧ ¬ (0 ≤ w ∧ w < σ 0 0 4)) ∨ (E = nIAE ∧ (0 ≤ w ∧ w < σ 0 0 4) ∧ ¬ (1 ≤ a9 ∧ a9 ≤ 10000000)) ∨ (E = nISE ∧ ((0 ≤ w ∧ w < σ 0 0 4) ∧ (1 ≤ a9 ∧ a9 ≤ 10000000)) ∧ ¬ σ 0 0 9 < 20))) 6 36 := by
  refine XI.of (lv0 := [some (.ref (ad 0 0)), some (.int (iI w)), some (.int (iI a9))]) hfl hI (by decide) rfl (Nat.le_of_ble_eq_true rfl) rfl ?_
  intro p e s m args below meth c C hr hT
  refine J_aload_0 C dX3_call_0 ?_
  refine J_iload_1 C dX3_call_1 ?_
  refine J_XVV C (c_X3_requireWell hfl hI _ w hwc hw9) (cwV 1 C.1.2.2.2.2 gX3_call_X3_requireWell rfl rfl rfl (by decide +kernel) ⟨Nat.le_of_ble_eq_true rfl, Nat.le_of_ble_eq_true rfl⟩) rc3 (by decide) rfl rfl (Nat.le_of_ble_eq_true rfl) dX3_call_2 ⟨Nat.le_of_ble_eq_true rfl, Nat.le_of_ble_eq_true rfl⟩ (fun E σ_2 hx => ?_) (fun σ_2 hp => ?_)
  · skip
    obtain ⟨rfl, hs_, hn_⟩ := hx
    have hs_ := hs_.symm
    subst hs_
    refine J_out C hT (by decide) (by decide) ?_
    refine ⟨rfl, ?_⟩
    first
      | exact ⟨rfl, by omega⟩
      | exact Or.inl ⟨rfl, by omega⟩
      | exact Or.inr ⟨rfl, by omega⟩
      | exact Or.inr (Or.inl ⟨rfl, by omega⟩)
      | exact Or.inr (Or.inr ⟨rfl, by omega⟩)
  obtain ⟨hs_, hw⟩ := hp
  have hs_ := hs_.symm
  subst hs_
  refine J_aload_0 C dX3_call_5 ?_
  refine J_iload_2 C dX3_call_6 ?_
  refine J_iconst C dX3_call_7 ?_
  refine J_ldc C w_X3_call_c118 dX3_call_8 ?_
  refine J_XVV C (c_X3_requireRange hfl hI _ a9 1 10000000 (by omega) (by omega) (by omega)) (cwV 3 C.1.2.2.2.2 gX3_call_X3_requireRange rfl rfl rfl (by decide +kernel) ⟨Nat.le_of_ble_eq_true rfl, Nat.le_of_ble_eq_true rfl⟩) rc3 (by decide) rfl rfl (Nat.le_of_ble_eq_true rfl) dX3_call_10 ⟨Nat.le_of_ble_eq_true rfl, Nat.le_of_ble_eq_true rfl⟩ (fun E σ_10 hx => ?_) (fun σ_10 hp => ?_)
  · skip
    obtain ⟨rfl, hs_, hn_⟩ := hx
    have hs_ := hs_.symm
    subst hs_
    refine J_out C hT (by decide) (by decide) ?_
    refine ⟨rfl, ?_⟩
    first
      | exact ⟨rfl, by omega⟩
      | exact Or.inl ⟨rfl, by omega⟩
      | exact Or.inr ⟨rfl, by omega⟩
      | exact Or.inr (Or.inl ⟨rfl, by omega⟩)
      | exact Or.inr (Or.inr ⟨rfl, by omega⟩)
  obtain ⟨hs_, ha⟩ := hp
  have hs_ := hs_.symm
  subst hs_
  refine J_aload_0 C dX3_call_13 ?_
  refine J_get_3_9 C in_X3_call_X3 fl_X3_call_44 (by decide) dX3_call_14 ?_
  refine J_bipush C (by decide) dX3_call_17 ?_
  refine J_icmp_lt (tgt := 32) C (by omega) (by omega) dX3_call_19 (by decide) (fun c_19 => ?_) (fun c_19 => ?_)
  · refine J_aload_0 C dX3_call_32 ?_
    refine J_aload_0 C dX3_call_33 ?_
    refine J_get_3_3 C in_X3_call_X3 fl_X3_call_22 (by decide) dX3_call_34 ?_
    refine J_iload_1 C dX3_call_37 ?_
    refine J_aaloadW C (by omega) dX3_call_38 ?_
    refine J_sipush C (by decide) dX3_call_39 ?_
    refine J_KVV C (c_X3_divideCost hfl hI _ w 10000 (by omega) (by omega) hsh (hall w (by omega) (by omega)).1) (cwV 2 C.1.2.2.2.2 gX3_call_X3_divideCost rfl rfl rfl (by decide +kernel) ⟨Nat.le_of_ble_eq_true rfl, Nat.le_of_ble_eq_true rfl⟩) rc3 (by decide) rfl rfl (Nat.le_of_ble_eq_true rfl) dX3_call_42 ⟨Nat.le_of_ble_eq_true rfl, Nat.le_of_ble_eq_true rfl⟩ (fun σ_42 hp => ?_)
    obtain ⟨F1, O1, P1⟩ := hp
    have hP := chp_wt (a := 10000) hsh (hall w (by omega) (by omega)).1 (by decide)
    have e9 : σ_42 0 0 9 = σ 0 0 9 := F1 0 0 9 (by omega)
    refine J_aload_0 C dX3_call_45 ?_
    refine J_get_3_11 C in_X3_call_X3 fl_X3_call_53 (by decide) dX3_call_46 ?_
    refine J_iload_2 C dX3_call_49 ?_
    refine J_aload_0 C dX3_call_50 ?_
    refine J_get_3_14 C in_X3_call_X3 fl_X3_call_63 (by decide) dX3_call_51 ?_
    refine J_aload_0 C dX3_call_54 ?_
    refine J_get_3_8 C in_X3_call_X3 fl_X3_call_40 (by decide) dX3_call_55 ?_
    refine J_aload_0 C dX3_call_58 ?_
    refine J_get_3_9 C in_X3_call_X3 fl_X3_call_44 (by decide) dX3_call_59 ?_
    rw [e9]
    refine J_aaloadC C (by omega) dX3_call_62 ?_
    refine J_get_0_0 C in_X3_call_X0 fl_X3_call_159 ⟨by omega, by show σ 0 0 9 < 20; omega⟩ dX3_call_63 ?_
    refine J_KVV C (c_X1_divide hfl hI _ a9 11 20 0 _ k11 k20 (by decide) ⟨by omega, by show σ 0 0 9 < 20; omega⟩ (by decide) (by decide) (by omega) (by omega) (Wt.congr (fun x a b => (P1 x a b).symm) hP) (fun x a b => by rw [P1 x a b]; have := chp_rng (a := 10000) hsh (hall w (by omega) (by omega)).1 (by decide) a b; omega)) (cwV 3 C.1.2.2.2.2 gX3_call_X1_divide rfl rfl rfl (by decide +kernel) ⟨Nat.le_of_ble_eq_true rfl, Nat.le_of_ble_eq_true rfl⟩) rc1 (by decide) rfl rfl (Nat.le_of_ble_eq_true rfl) dX3_call_66 ⟨Nat.le_of_ble_eq_true rfl, Nat.le_of_ble_eq_true rfl⟩ (fun σ_66 hp => ?_)
    obtain ⟨f2, hp⟩ := hp
    have G9 : σ_66 0 0 9 = σ 0 0 9 := by rw [hp, sf_nk (by decide), sf_nk (by decide), e9]
    have G2 : Fs (sf σ 20 (σ 0 0 9) 5 (dv a9 (chp (shf σ) (ac σ w) 10000))) σ_66 := fun a b c h => by
      rw [hp]
      simp only [sf]
      by_cases e : a = 20 ∧ b = σ 0 0 9 ∧ 0 ≤ c ∧ c < 5
      · rw [if_pos e, if_pos e]; exact dv_congr P1 c e.2.2.1 e.2.2.2
      · rw [if_neg e, if_neg e, if_neg (by omega)]; exact F1 a b c h
    clear hp
    refine J_aload_0 C dX3_call_69 ?_
    refine J_dup C rfl dX3_call_70 ?_
    refine J_get_3_9 C in_X3_call_X3 fl_X3_call_44 (by decide) dX3_call_71 ?_
    rw [G9]
    refine J_iconst C dX3_call_74 ?_
    refine J_iadd C dX3_call_75 ?_
    refine J_put_3_9 C in_X3_call_X3 fl_X3_call_44 (by decide) dX3_call_76 ?_
    refine J_aload_0 C dX3_call_79 ?_
    refine J_get_3_9 C in_X3_call_X3 fl_X3_call_44 (by decide) dX3_call_80 ?_
    rw [su_at]
    refine J_iconst C dX3_call_83 ?_
    refine J_isub C dX3_call_84 ?_
    refine J_vx ?_
    refine J_retI C hr (by decide) (by decide) dX3_call_85 ?_
    refine ⟨by omega, fun a b c h => ?_, ⟨hw, ha⟩, by omega⟩
    simp only [su]
    rw [G2 a b c h]
  · refine J_throw_ISE (text := "there are 20 calls") C hT w_X3_call_k79 w_X3_call_i79 (by decide +kernel) (by decide) (by decide) (by decide) (by decide) ⟨by decide, by decide⟩ dX3_call_22 dX3_call_25 dX3_call_26 dX3_call_28 dX3_call_31 ?_
    refine ⟨rfl, ?_⟩
    first
      | exact ⟨rfl, by omega⟩
      | exact Or.inl ⟨rfl, by omega⟩
      | exact Or.inr ⟨rfl, by omega⟩
      | exact Or.inr (Or.inl ⟨rfl, by omega⟩)
      | exact Or.inr (Or.inr ⟨rfl, by omega⟩)
set_option maxRecDepth 20000 in
theorem in_X3_pay_X3 : ∀ w ∈ wsX30, w ∈ wsX3_pay := by decide +kernel
set_option maxRecDepth 20000 in
theorem fl_X3_pay_40 : Cond.fieldLink RX3 40 "JointVenture" "cashCalls" "[LJointVenture$CashCall;" ∈ wsX3_pay := by decide +kernel
set_option maxRecDepth 20000 in
theorem in_X3_pay_X0 : ∀ w ∈ wsX00, w ∈ wsX3_pay := by decide +kernel
set_option maxRecDepth 20000 in
theorem fl_X3_pay_159 : Cond.fieldLink RX3 159 "JointVenture$CashCall" "asked" "[I" ∈ wsX3_pay := by decide +kernel
set_option maxRecDepth 20000 in
theorem fl_X3_pay_169 : Cond.fieldLink RX3 169 "JointVenture$CashCall" "paid" "[I" ∈ wsX3_pay := by decide +kernel
set_option maxRecDepth 20000 in
theorem w_X3_pay_k79 : Cond.classLink RX3 79 nISE ∈ wsX3_pay := by decide +kernel
set_option maxRecDepth 20000 in
theorem w_X3_pay_i79 : Cond.initialized nISE ∈ wsX3_pay := by decide +kernel
set_option maxHeartbeats 4000000 in
set_option maxRecDepth 100000 in
theorem c_X3_pay {l : Launch} (hfl : l.stackTraces = false) {cy : Nat → ClassId} {D : va_G} {ad : Ad} (hI : Inj ad) (σ : Sg) (k9 q : Int) (hcc : 0 ≤ σ 0 0 9 ∧ σ 0 0 9 ≤ 20) (hk9 : I32 k9) (hq9 : I32 q) (hr9 : ∀ k q, 0 ≤ k → k < 20 → 0 ≤ q → q < 5 → I32 (σ 20 k q - σ 21 k q)) : XI l yX3_pay wsX3_pay ({ frames := 7, cells := 6, slots := 36, locals := 103 } : Room) cy D ad σ [.ref (ad 0 0), .int (iI k9), .int (iI q)] (fun z σ' => z = σ 20 k9 q - σ 21 k9 q ∧ σ' = su σ 21 k9 q (σ 20 k9 q) ∧ ((0 ≤ k9 ∧ k9 < σ 0 0 9) ∧ (0 ≤ q ∧ q < 5)) ∧ ¬ σ 20 k9 q - σ 21 k9 q = 0) (fun E σ' => σ' = σ ∧ ((E = nIOE ∧ ¬ ((0 ≤ k9 ∧ k9 < σ 0 0 9) ∧ (0 ≤ q ∧ q < 5))) ∨ (E = nISE ∧ ((0 ≤ k9 ∧ k9 < σ 0 0 9) ∧ (0 ≤ q ∧ q < 5)) ∧ ¬ ¬ σ 20 k9 q - σ 21 k9 q = 0))) 6 36 := by
  refine XI.of (lv0 := [some (.ref (ad 0 0)), some (.int (iI k9)), some (.int (iI q)), none, none]) hfl hI (by decide) rfl (Nat.le_of_ble_eq_true rfl) rfl ?_
  intro p e s m args below meth c C hr hT
  refine J_aload_0 C dX3_pay_0 ?_
  refine J_iload_1 C dX3_pay_1 ?_
  refine J_XVV C (c_X3_requireCashCall hfl hI _ k9 hcc hk9) (cwV 1 C.1.2.2.2.2 gX3_pay_X3_requireCashCall rfl rfl rfl (by decide +kernel) ⟨Nat.le_of_ble_eq_true rfl, Nat.le_of_ble_eq_true rfl⟩) rc3 (by decide) rfl rfl (Nat.le_of_ble_eq_true rfl) dX3_pay_2 ⟨Nat.le_of_ble_eq_true rfl, Nat.le_of_ble_eq_true rfl⟩ (fun E σ_2 hx => ?_) (fun σ_2 hp => ?_)
  · skip
    obtain ⟨rfl, hs_, hn_⟩ := hx
    have hs_ := hs_.symm
    subst hs_
    refine J_out C hT (by decide) (by decide) ?_
    refine ⟨rfl, ?_⟩
    first
      | exact ⟨rfl, by omega⟩
      | exact Or.inl ⟨rfl, by omega⟩
      | exact Or.inr ⟨rfl, by omega⟩
      | exact Or.inr (Or.inl ⟨rfl, by omega⟩)
      | exact Or.inr (Or.inr ⟨rfl, by omega⟩)
  obtain ⟨hs_, hk⟩ := hp
  have hs_ := hs_.symm
  subst hs_
  refine J_aload_0 C dX3_pay_5 ?_
  refine J_iload_2 C dX3_pay_6 ?_
  refine J_XVV C (c_X3_requirePartner hfl hI _ q hq9) (cwV 1 C.1.2.2.2.2 gX3_pay_X3_requirePartner rfl rfl rfl (by decide +kernel) ⟨Nat.le_of_ble_eq_true rfl, Nat.le_of_ble_eq_true rfl⟩) rc3 (by decide) rfl rfl (Nat.le_of_ble_eq_true rfl) dX3_pay_7 ⟨Nat.le_of_ble_eq_true rfl, Nat.le_of_ble_eq_true rfl⟩ (fun E σ_7 hx => ?_) (fun σ_7 hp => ?_)
  · skip
    obtain ⟨rfl, hs_, hn_⟩ := hx
    have hs_ := hs_.symm
    subst hs_
    refine J_out C hT (by decide) (by decide) ?_
    refine ⟨rfl, ?_⟩
    first
      | exact ⟨rfl, by omega⟩
      | exact Or.inl ⟨rfl, by omega⟩
      | exact Or.inr ⟨rfl, by omega⟩
      | exact Or.inr (Or.inl ⟨rfl, by omega⟩)
      | exact Or.inr (Or.inr ⟨rfl, by omega⟩)
  obtain ⟨hs_, hq⟩ := hp
  have hs_ := hs_.symm
  subst hs_
  refine J_aload_0 C dX3_pay_10 ?_
  refine J_get_3_8 C in_X3_pay_X3 fl_X3_pay_40 (by decide) dX3_pay_11 ?_
  refine J_iload_1 C dX3_pay_14 ?_
  refine J_aaloadC C (by omega) dX3_pay_15 ?_
  refine J_astore_3 C (by decide) rfl dX3_pay_16 ?_
  refine J_aload_3 C dX3_pay_17 ?_
  refine J_get_0_0 C in_X3_pay_X0 fl_X3_pay_159 ⟨by omega, by show k9 < 20; omega⟩ dX3_pay_18 ?_
  refine J_iload_2 C dX3_pay_21 ?_
  refine J_iaload C k20 ⟨by omega, by show k9 < 20; omega⟩ (by omega) dX3_pay_22 ?_
  refine J_aload_3 C dX3_pay_23 ?_
  refine J_get_0_1 C in_X3_pay_X0 fl_X3_pay_169 ⟨by omega, by show k9 < 20; omega⟩ dX3_pay_24 ?_
  refine J_iload_2 C dX3_pay_27 ?_
  refine J_iaload C k21 ⟨by omega, by show k9 < 20; omega⟩ (by omega) dX3_pay_28 ?_
  refine J_isub C dX3_pay_29 ?_
  refine J_istore4 C (by decide) rfl dX3_pay_30 ?_
  refine J_iload4 C dX3_pay_32 ?_
  refine J_if_ne (tgt := 47) C (by exact hr9 k9 q (by omega) (by omega) hq.1 hq.2) dX3_pay_34 (by decide) (fun c_34 => ?_) (fun c_34 => ?_)
  · refine J_aload_3 C dX3_pay_47 ?_
    refine J_get_0_1 C in_X3_pay_X0 fl_X3_pay_169 ⟨by omega, by show k9 < 20; omega⟩ dX3_pay_48 ?_
    refine J_iload_2 C dX3_pay_51 ?_
    refine J_aload_3 C dX3_pay_52 ?_
    refine J_get_0_0 C in_X3_pay_X0 fl_X3_pay_159 ⟨by omega, by show k9 < 20; omega⟩ dX3_pay_53 ?_
    refine J_iload_2 C dX3_pay_56 ?_
    refine J_iaload C k20 ⟨by omega, by show k9 < 20; omega⟩ (by omega) dX3_pay_57 ?_
    refine J_iastore C k21 ⟨by omega, by show k9 < 20; omega⟩ (by omega) dX3_pay_58 ?_
    refine J_iload4 C dX3_pay_59 ?_
    refine J_vx ?_
    refine J_retI C hr (by decide) (by decide) dX3_pay_61 ?_
    exact ⟨rfl, rfl, ⟨hk, hq⟩, by omega⟩
  · refine J_throw_ISE (text := "nothing is asked that is not paid") C hT w_X3_pay_k79 w_X3_pay_i79 (by decide +kernel) (by decide) (by decide) (by decide) (by decide) ⟨by decide, by decide⟩ dX3_pay_37 dX3_pay_40 dX3_pay_41 dX3_pay_43 dX3_pay_46 ?_
    refine ⟨rfl, ?_⟩
    first
      | exact ⟨rfl, by omega⟩
      | exact Or.inl ⟨rfl, by omega⟩
      | exact Or.inr ⟨rfl, by omega⟩
      | exact Or.inr (Or.inl ⟨rfl, by omega⟩)
      | exact Or.inr (Or.inr ⟨rfl, by omega⟩)
set_option maxRecDepth 20000 in
theorem in_X3_shareOut_X3 : ∀ w ∈ wsX30, w ∈ wsX3_shareOut := by decide +kernel
set_option maxRecDepth 20000 in
theorem fl_X3_shareOut_40 : Cond.fieldLink RX3 40 "JointVenture" "cashCalls" "[LJointVenture$CashCall;" ∈ wsX3_shareOut := by decide +kernel
set_option maxRecDepth 20000 in
theorem w_X3_shareOut_k79 : Cond.classLink RX3 79 nISE ∈ wsX3_shareOut := by decide +kernel
set_option maxRecDepth 20000 in
theorem w_X3_shareOut_i79 : Cond.initialized nISE ∈ wsX3_shareOut := by decide +kernel
set_option maxHeartbeats 4000000 in
set_option maxRecDepth 100000 in
theorem c_X3_shareOut {l : Launch} (hfl : l.stackTraces = false) {cy : Nat → ClassId} {D : va_G} {ad : Ad} (hI : Inj ad) (σ : Sg) (k9 : Int) (hcc : 0 ≤ σ 0 0 9 ∧ σ 0 0 9 ≤ 20) (hk9 : I32 k9) (hr9 : ∀ k q, 0 ≤ k → k < 20 → 0 ≤ q → q < 5 → 0 ≤ σ 21 k q ∧ σ 21 k q ≤ σ 20 k q ∧ σ 20 k q ≤ 10000000) : XI l yX3_shareOut wsX3_shareOut ({ frames := 7, cells := 6, slots := 36, locals := 103 } : Room) cy D ad σ [.ref (ad 0 0), .int (iI k9)] (fun z σ' => z = s5 (fun q => if σ 21 k9 q = 0 then σ 20 k9 q else 0) ∧ ((∀ (a : Nat) (b c : Int), a < 8 ∨ 11 < a → (a ≠ 6 ∨ b ≠ 0 ∨ c < 0 ∨ 5 ≤ c) → (a ≠ 20 ∨ b ≠ k9 ∨ c < 0 ∨ 5 ≤ c) → σ' a b c = σ a b c) ∧ (∀ q, 0 ≤ q → q < 5 → σ' 20 k9 q = if 0 < σ 21 k9 q then σ 20 k9 q + dv (s5 (fun q => if σ 21 k9 q = 0 then σ 20 k9 q else 0)) (pw σ k9) q else 0) ∧ ∀ q, 0 ≤ q → q < 5 → σ' 6 0 q = σ 6 0 q + if 0 < σ 21 k9 q then 0 else σ 20 k9 q) ∧ (0 ≤ k9 ∧ k9 < σ 0 0 9) ∧ (∃ q, 0 ≤ q ∧ q < 5 ∧ 0 < σ 21 k9 q) ∧ ¬ s5 (fun q => if σ 21 k9 q = 0 then σ 20 k9 q else 0) = 0) (fun E σ' => σ' = σ ∧ ((E = nIOE ∧ ¬ (0 ≤ k9 ∧ k9 < σ 0 0 9)) ∨ (E = nISE ∧ (0 ≤ k9 ∧ k9 < σ 0 0 9) ∧ ¬ ((∃ q, 0 ≤ q ∧ q < 5 ∧ 0 < σ 21 k9 q) ∧ ¬ s5 (fun q => if σ 21 k9 q = 0 then σ 20 k9 q else 0) = 0)))) 6 36 := by
  refine XI.of (lv0 := [some (.ref (ad 0 0)), some (.int (iI k9)), none, none]) hfl hI (by decide) rfl (Nat.le_of_ble_eq_true rfl) rfl ?_
  intro p e s m args below meth c C hr hT
  refine J_aload_0 C dX3_shareOut_0 ?_
  refine J_iload_1 C dX3_shareOut_1 ?_
  refine J_XVV C (c_X3_requireCashCall hfl hI _ k9 hcc hk9) (cwV 1 C.1.2.2.2.2 gX3_shareOut_X3_requireCashCall rfl rfl rfl (by decide +kernel) ⟨Nat.le_of_ble_eq_true rfl, Nat.le_of_ble_eq_true rfl⟩) rc3 (by decide) rfl rfl (Nat.le_of_ble_eq_true rfl) dX3_shareOut_2 ⟨Nat.le_of_ble_eq_true rfl, Nat.le_of_ble_eq_true rfl⟩ (fun E σ_2 hx => ?_) (fun σ_2 hp => ?_)
  · skip
    obtain ⟨rfl, hs_, hn_⟩ := hx
    have hs_ := hs_.symm
    subst hs_
    refine J_out C hT (by decide) (by decide) ?_
    refine ⟨rfl, ?_⟩
    first
      | exact ⟨rfl, by omega⟩
      | exact Or.inl ⟨rfl, by omega⟩
      | exact Or.inr ⟨rfl, by omega⟩
      | exact Or.inr (Or.inl ⟨rfl, by omega⟩)
      | exact Or.inr (Or.inr ⟨rfl, by omega⟩)
  obtain ⟨hs_, hk⟩ := hp
  have hs_ := hs_.symm
  subst hs_
  refine J_aload_0 C dX3_shareOut_5 ?_
  refine J_get_3_8 C in_X3_shareOut_X3 fl_X3_shareOut_40 (by decide) dX3_shareOut_6 ?_
  refine J_iload_1 C dX3_shareOut_9 ?_
  refine J_aaloadC C (by omega) dX3_shareOut_10 ?_
  refine J_astore_2 C (by decide) rfl dX3_shareOut_11 ?_
  refine J_aload_2 C dX3_shareOut_12 ?_
  refine J_KVI C (c_X0_hasPayer hfl hI _ k9 (by omega) (fun x a b => by have := hr9 k9 x (by omega) (by omega) a b; omega)) (cwV 0 C.1.2.2.2.2 gX3_shareOut_X0_hasPayer rfl rfl rfl (by decide +kernel) ⟨Nat.le_of_ble_eq_true rfl, Nat.le_of_ble_eq_true rfl⟩) rc0 ⟨by omega, by show k9 < 20; omega⟩ rfl rfl (Nat.le_of_ble_eq_true rfl) dX3_shareOut_13 ⟨Nat.le_of_ble_eq_true rfl, Nat.le_of_ble_eq_true rfl⟩ (fun z_13 σ_13 hp => ?_)
  obtain ⟨hz1, hz2, hs_⟩ := hp
  have hs_ := hs_.symm
  subst hs_
  refine J_if_ne (tgt := 29) C (by omega) dX3_shareOut_16 (by decide) (fun c_16 => ?_) (fun c_16 => ?_)
  · refine J_aload_2 C dX3_shareOut_29 ?_
    refine J_KVI C (c_X0_askedOfNonPayers hfl hI _ k9 (by omega) (fun x a b => by have := hr9 k9 x (by omega) (by omega) a b; omega)) (cwV 0 C.1.2.2.2.2 gX3_shareOut_X0_askedOfNonPayers rfl rfl rfl (by decide +kernel) ⟨Nat.le_of_ble_eq_true rfl, Nat.le_of_ble_eq_true rfl⟩) rc0 ⟨by omega, by show k9 < 20; omega⟩ rfl rfl (Nat.le_of_ble_eq_true rfl) dX3_shareOut_30 ⟨Nat.le_of_ble_eq_true rfl, Nat.le_of_ble_eq_true rfl⟩ (fun z_30 σ_30 hp => ?_)
    obtain ⟨hz_, hs_⟩ := hp
    have hz_ := hz_.symm
    have hs_ := hs_.symm
    subst hs_
    subst hz_
    have hnp : 0 ≤ s5 (fun q => if σ 21 k9 q = 0 then σ 20 k9 q else 0) ∧ s5 (fun q => if σ 21 k9 q = 0 then σ 20 k9 q else 0) ≤ 50000000 := by
      have r := fun x a b => hr9 k9 x (by omega) (by omega) a b
      have r0 := r 0 (by decide) (by decide); have r1 := r 1 (by decide) (by decide); have r2 := r 2 (by decide) (by decide); have r3 := r 3 (by decide) (by decide); have r4 := r 4 (by decide) (by decide)
      unfold s5
      dsimp only
      constructor <;> split <;> split <;> split <;> split <;> split <;> omega
    have hWp : Wt (pw σ k9) := by
      refine ⟨fun x a b => ?_, ?_⟩
      · unfold pw
        have := hr9 k9 x (by omega) (by omega) a b
        split <;> omega
      · obtain ⟨x, x0, x5, hx⟩ := hz2.mp (by omega)
        have h1 := s5_part (f := pw σ k9) (fun y a b => by unfold pw; have := hr9 k9 y (by omega) (by omega) a b; split <;> omega) x x0 x5
        have h2 : pw σ k9 x = σ 20 k9 x := by unfold pw; rw [if_pos hx]
        have := hr9 k9 x (by omega) (by omega) x0 x5
        omega
    refine J_istore_3 C (by decide) rfl dX3_shareOut_33 ?_
    refine J_iload_3 C dX3_shareOut_34 ?_
    refine J_if_ne (tgt := 48) C (by omega) dX3_shareOut_35 (by decide) (fun c_35 => ?_) (fun c_35 => ?_)
    · refine J_aload_0 C dX3_shareOut_48 ?_
      refine J_aload_2 C dX3_shareOut_49 ?_
      refine J_iload_3 C dX3_shareOut_50 ?_
      refine J_KVV C (c_X3_moveToPayers hfl hI _ k9 _ (by omega) (by omega) (fun x a b => by have := hr9 k9 x (by omega) (by omega) a b; omega) hWp) (cwV 2 C.1.2.2.2.2 gX3_shareOut_X3_moveToPayers rfl rfl rfl (by decide +kernel) ⟨Nat.le_of_ble_eq_true rfl, Nat.le_of_ble_eq_true rfl⟩) rc3 (by decide) rfl rfl (Nat.le_of_ble_eq_true rfl) dX3_shareOut_51 ⟨Nat.le_of_ble_eq_true rfl, Nat.le_of_ble_eq_true rfl⟩ (fun σ_51 hp => ?_)
      skip
      refine J_iload_3 C dX3_shareOut_54 ?_
      refine J_vx ?_
      refine J_retI C hr (by decide) (by decide) dX3_shareOut_55 ?_
      exact ⟨rfl, hp, hk, hz2.mp (by omega), by omega⟩
    · refine J_throw_ISE (text := "nothing is asked of those who have paid nothing") C hT w_X3_shareOut_k79 w_X3_shareOut_i79 (by decide +kernel) (by decide) (by decide) (by decide) (by decide) ⟨by decide, by decide⟩ dX3_shareOut_38 dX3_shareOut_41 dX3_shareOut_42 dX3_shareOut_44 dX3_shareOut_47 ?_
      exact ⟨rfl, Or.inr ⟨rfl, hk, fun z => absurd (by assumption) z.2⟩⟩
  · refine J_throw_ISE (text := "nobody has paid anything") C hT w_X3_shareOut_k79 w_X3_shareOut_i79 (by decide +kernel) (by decide) (by decide) (by decide) (by decide) ⟨by decide, by decide⟩ dX3_shareOut_19 dX3_shareOut_22 dX3_shareOut_23 dX3_shareOut_25 dX3_shareOut_28 ?_
    exact ⟨rfl, Or.inr ⟨rfl, hk, fun z => absurd (hz2.mpr z.1) (by omega)⟩⟩
