set_option maxRecDepth 20000 in
theorem in_X4_enters_X4 : ∀ w ∈ wsX40, w ∈ wsX4_enters := by decide +kernel
set_option maxRecDepth 20000 in
theorem fl_X4_enters_27 : Cond.fieldLink RX4 27 "JointVentureModel" "sites" "[I" ∈ wsX4_enters := by decide +kernel
set_option maxRecDepth 20000 in
theorem fl_X4_enters_83 : Cond.fieldLink RX4 83 "JointVentureModel" "vouchers" "I" ∈ wsX4_enters := by decide +kernel
set_option maxRecDepth 20000 in
theorem fl_X4_enters_30 : Cond.fieldLink RX4 30 "JointVentureModel" "amounts" "[I" ∈ wsX4_enters := by decide +kernel
set_option maxRecDepth 20000 in
theorem fl_X4_enters_33 : Cond.fieldLink RX4 33 "JointVentureModel" "incomes" "[Z" ∈ wsX4_enters := by decide +kernel
set_option maxRecDepth 20000 in
theorem fl_X4_enters_20 : Cond.fieldLink RX4 20 "JointVentureModel" "touched" "[Z" ∈ wsX4_enters := by decide +kernel
set_option maxHeartbeats 4000000 in
set_option maxRecDepth 100000 in
theorem c_X4_enters {l : Launch} (hfl : l.stackTraces = false) {cy : Nat → ClassId} {D : va_G} {ad : Ad} (hI : Inj ad) (σ : Sg) (w a9 b9 : Int) (hw : 0 ≤ w ∧ w < 6) (hvm : 0 ≤ σ 22 0 10 ∧ σ 22 0 10 < 60) (hb9 : b9 = 0 ∨ b9 = 1) : KI l yX4_enters wsX4_enters ({ frames := 0, cells := 0, slots := 0, locals := 0 } : Room) cy D ad σ [.ref (ad 22 0), .int (iI w), .int (iI a9), .int (iI b9)] (fun z σ' => z = σ 22 0 10 ∧ σ' = su (su (su (su (su σ 27 0 (σ 22 0 10) w) 28 0 (σ 22 0 10) a9) 29 0 (σ 22 0 10) b9) 25 0 w 1) 22 0 10 (σ 22 0 10 + 1)) 0 0 := by
  refine KI.of (lv0 := [some (.ref (ad 22 0)), some (.int (iI w)), some (.int (iI a9)), some (.int (iI b9))]) hfl hI (by decide) rfl (Nat.le_of_ble_eq_true rfl) rfl ?_
  intro p e s m args below meth c C hr
  refine J_aload_0 C dX4_enters_0 ?_
  refine J_get_4_7 C in_X4_enters_X4 fl_X4_enters_27 (by decide) dX4_enters_1 ?_
  refine J_aload_0 C dX4_enters_4 ?_
  refine J_get_4_10 C in_X4_enters_X4 fl_X4_enters_83 (by decide) dX4_enters_5 ?_
  refine J_iload_1 C dX4_enters_8 ?_
  refine J_iastore C k27 (by decide) (by omega) dX4_enters_9 ?_
  refine J_aload_0 C dX4_enters_10 ?_
  refine J_get_4_8 C in_X4_enters_X4 fl_X4_enters_30 (by decide) dX4_enters_11 ?_
  refine J_aload_0 C dX4_enters_14 ?_
  refine J_get_4_10 C in_X4_enters_X4 fl_X4_enters_83 (by decide) dX4_enters_15 ?_
  rw [su_nk (by decide)]
  refine J_iload_2 C dX4_enters_18 ?_
  refine J_iastore C k28 (by decide) (by omega) dX4_enters_19 ?_
  refine J_aload_0 C dX4_enters_20 ?_
  refine J_get_4_9 C in_X4_enters_X4 fl_X4_enters_33 (by decide) dX4_enters_21 ?_
  refine J_aload_0 C dX4_enters_24 ?_
  refine J_get_4_10 C in_X4_enters_X4 fl_X4_enters_83 (by decide) dX4_enters_25 ?_
  rw [su_nk (by decide), su_nk (by decide)]
  refine J_iload_3 C dX4_enters_28 ?_
  refine J_bastore C k29 (by decide) (by omega) (by exact hb9) dX4_enters_29 ?_
  refine J_aload_0 C dX4_enters_30 ?_
  refine J_get_4_4 C in_X4_enters_X4 fl_X4_enters_20 (by decide) dX4_enters_31 ?_
  refine J_iload_1 C dX4_enters_34 ?_
  refine J_iconst C dX4_enters_35 ?_
  refine J_bastore C k25 (by decide) (by omega) (by exact Or.inr rfl) dX4_enters_36 ?_
  refine J_aload_0 C dX4_enters_37 ?_
  refine J_dup C rfl dX4_enters_38 ?_
  refine J_get_4_10 C in_X4_enters_X4 fl_X4_enters_83 (by decide) dX4_enters_39 ?_
  rw [su_nk (by decide), su_nk (by decide), su_nk (by decide), su_nk (by decide)]
  refine J_iconst C dX4_enters_42 ?_
  refine J_iadd C dX4_enters_43 ?_
  refine J_put_4_10 C in_X4_enters_X4 fl_X4_enters_83 (by decide) dX4_enters_44 ?_
  refine J_aload_0 C dX4_enters_47 ?_
  refine J_get_4_10 C in_X4_enters_X4 fl_X4_enters_83 (by decide) dX4_enters_48 ?_
  rw [su_at]
  refine J_iconst C dX4_enters_51 ?_
  refine J_isub C dX4_enters_52 ?_
  refine J_retI C hr (by decide) (by decide) dX4_enters_53 ?_
  exact ⟨by omega, rfl⟩
set_option maxRecDepth 20000 in
theorem in_X4_cost_X4 : ∀ w ∈ wsX40, w ∈ wsX4_cost := by decide +kernel
set_option maxRecDepth 20000 in
theorem fl_X4_cost_83 : Cond.fieldLink RX4 83 "JointVentureModel" "vouchers" "I" ∈ wsX4_cost := by decide +kernel
set_option maxHeartbeats 4000000 in
set_option maxRecDepth 100000 in
theorem c_X4_cost {l : Launch} (hfl : l.stackTraces = false) {cy : Nat → ClassId} {D : va_G} {ad : Ad} (hI : Inj ad) (σ : Sg) (w a9 : Int) (hw9 : I32 w) (ia : I32 a9) (hM : Mi σ) : KI l yX4_cost wsX4_cost ({ frames := 2, cells := 0, slots := 0, locals := 43 } : Room) cy D ad σ [.ref (ad 22 0), .int (iI w), .int (iI a9)] (fun z σ' => ∃ cd, ((cd = 0 ∧ ((0 ≤ w ∧ w < σ 22 0 6) ∧ (1 ≤ a9 ∧ a9 ≤ 10000000) ∧ σ 22 0 10 < 60)) ∨ (cd = 1 ∧ (¬ (0 ≤ w ∧ w < σ 22 0 6))) ∨ (cd = 2 ∧ ((0 ≤ w ∧ w < σ 22 0 6) ∧ ¬ (1 ≤ a9 ∧ a9 ≤ 10000000))) ∨ (cd = 3 ∧ ((0 ≤ w ∧ w < σ 22 0 6) ∧ (1 ≤ a9 ∧ a9 ≤ 10000000) ∧ ¬ (σ 22 0 10 < 60)))) ∧ (cd = 0 → z = σ 22 0 10 ∧ σ' = su (su (su (su (su (su σ 22 0 24 0) 27 0 (σ 22 0 10) w) 28 0 (σ 22 0 10) a9) 29 0 (σ 22 0 10) 0) 25 0 w 1) 22 0 10 (σ 22 0 10 + 1)) ∧ (¬ cd = 0 → σ' = su σ 22 0 24 cd)) 0 0 := by
  refine KI.of (lv0 := [some (.ref (ad 22 0)), some (.int (iI w)), some (.int (iI a9))]) hfl hI (by decide) rfl (Nat.le_of_ble_eq_true rfl) rfl ?_
  intro p e s m args below meth c C hr
  have hwm := hM.2.2.2.2.2.1
  have hvm := hM.1
  have K_27 : ∀ (g9 : Int) (cd : Int), ((cd = 0 ∧ ((0 ≤ w ∧ w < σ 22 0 6) ∧ (1 ≤ a9 ∧ a9 ≤ 10000000) ∧ σ 22 0 10 < 60)) ∨ (cd = 1 ∧ (¬ (0 ≤ w ∧ w < σ 22 0 6))) ∨ (cd = 2 ∧ ((0 ≤ w ∧ w < σ 22 0 6) ∧ ¬ (1 ≤ a9 ∧ a9 ≤ 10000000))) ∨ (cd = 3 ∧ ((0 ≤ w ∧ w < σ 22 0 6) ∧ (1 ≤ a9 ∧ a9 ≤ 10000000) ∧ ¬ (σ 22 0 10 < 60)))) → ((g9 = 1 ∧ cd = 0) ∨ (g9 = 0 ∧ ¬ cd = 0)) → JW p l e ({ frames := 2, cells := 0, slots := 0, locals := 43 } : Room) s m args below meth c cy D ad (Ar ad s.heap.size) 3 0 0 (MQ below (QcI cy D ad (fun z σ' => ∃ cd, ((cd = 0 ∧ ((0 ≤ w ∧ w < σ 22 0 6) ∧ (1 ≤ a9 ∧ a9 ≤ 10000000) ∧ σ 22 0 10 < 60)) ∨ (cd = 1 ∧ (¬ (0 ≤ w ∧ w < σ 22 0 6))) ∨ (cd = 2 ∧ ((0 ≤ w ∧ w < σ 22 0 6) ∧ ¬ (1 ≤ a9 ∧ a9 ≤ 10000000))) ∨ (cd = 3 ∧ ((0 ≤ w ∧ w < σ 22 0 6) ∧ (1 ≤ a9 ∧ a9 ≤ 10000000) ∧ ¬ (σ 22 0 10 < 60)))) ∧ (cd = 0 → z = σ 22 0 10 ∧ σ' = su (su (su (su (su (su σ 22 0 24 0) 27 0 (σ 22 0 10) w) 28 0 (σ 22 0 10) a9) 29 0 (σ 22 0 10) 0) 25 0 w 1) 22 0 10 (σ 22 0 10 + 1)) ∧ (¬ cd = 0 → σ' = su σ 22 0 24 cd)) s.heap.size) args s 0 0 (Ar ad s.heap.size)) (su σ 22 0 24 cd) 27 [some (.ref (ad 22 0)), some (.int (iI w)), some (.int (iI a9))] [.int (iI g9)] := by
    intro g9 cd g0 g1
    refine J_if_eq (tgt := 40) C (by omega) dX4_cost_27 (by decide) (fun c_27 => ?_) (fun c_27 => ?_)
    · refine J_iconst C dX4_cost_40 ?_
      refine J_retI C hr (by decide) (by decide) dX4_cost_41 ?_
      first
        | (exact ⟨cd, g0, fun z => by omega, fun _ => rfl⟩)
        | (have hcd : cd = 0 := by omega
           subst hcd
           exact ⟨0, g0, fun _ => ⟨rfl, hs_⟩, fun z => absurd rfl z⟩)
    · refine J_aload_0 C dX4_cost_30 ?_
      refine J_iload_1 C dX4_cost_31 ?_
      refine J_iload_2 C dX4_cost_32 ?_
      refine J_iconst C dX4_cost_33 ?_
      refine J_KVI C (c_X4_enters hfl hI _ w _ 0 (by omega) (by rw [su_ne3 (Or.inr (Or.inr (by decide)))]; omega) (by first | exact Or.inl rfl | exact Or.inr rfl)) (cwV 3 C.1.2.2.2.2 gX4_cost_X4_enters rfl rfl rfl (by decide +kernel) ⟨Nat.le_of_ble_eq_true rfl, Nat.le_of_ble_eq_true rfl⟩) rc4 (by decide) rfl rfl (Nat.le_of_ble_eq_true rfl) dX4_cost_34 ⟨Nat.le_of_ble_eq_true rfl, Nat.le_of_ble_eq_true rfl⟩ (fun z_34 σ_34 hp => ?_)
      obtain ⟨hz_, hs_⟩ := hp
      rw [su_ne3 (Or.inr (Or.inr (by decide)))] at hz_
      have hz_ := hz_.symm
      subst hz_
      rw [show su σ 22 0 24 cd 22 0 10 = σ 22 0 10 from su_ne3 (Or.inr (Or.inr (by decide)))] at hs_
      refine J_goto (tgt := 41) C dX4_cost_37 (by decide) ?_
      refine J_retI C hr (by decide) (by decide) dX4_cost_41 ?_
      first
        | (exact ⟨cd, g0, fun z => by omega, fun _ => rfl⟩)
        | (have hcd : cd = 0 := by omega
           subst hcd
           exact ⟨0, g0, fun _ => ⟨rfl, hs_⟩, fun z => absurd rfl z⟩)
  refine J_aload_0 C dX4_cost_0 ?_
  refine J_aload_0 C dX4_cost_1 ?_
  refine J_iload_1 C dX4_cost_2 ?_
  refine J_KVI C (c_X4_isWell hfl hI _ w hw9 hwm) (cwV 1 C.1.2.2.2.2 gX4_cost_X4_isWell rfl rfl rfl (by decide +kernel) ⟨Nat.le_of_ble_eq_true rfl, Nat.le_of_ble_eq_true rfl⟩) rc4 (by decide) rfl rfl (Nat.le_of_ble_eq_true rfl) dX4_cost_3 ⟨Nat.le_of_ble_eq_true rfl, Nat.le_of_ble_eq_true rfl⟩ (fun z_3 σ_3 hp => ?_)
  obtain ⟨hz_, hs_⟩ := hp
  have hz_ := hz_.symm
  have hs_ := hs_.symm
  subst hz_
  subst hs_
  refine J_iload_2 C dX4_cost_6 ?_
  refine J_KSI C (c_X4_isAmount hfl hI _ a9 ia) (va_cwS 1 C.1.2.2.2.2 gX4_cost_X4_isAmount rfl rfl rfl (by decide +kernel) ⟨Nat.le_of_ble_eq_true rfl, Nat.le_of_ble_eq_true rfl⟩) rfl rfl (Nat.le_of_ble_eq_true rfl) dX4_cost_7 ⟨Nat.le_of_ble_eq_true rfl, Nat.le_of_ble_eq_true rfl⟩ (fun z_7 σ_7 hp => ?_)
  obtain ⟨hz_, hs_⟩ := hp
  have hz_ := hz_.symm
  have hs_ := hs_.symm
  subst hz_
  subst hs_
  refine J_aload_0 C dX4_cost_10 ?_
  refine J_get_4_10 C in_X4_cost_X4 fl_X4_cost_83 (by decide) dX4_cost_11 ?_
  refine J_bipush C (by decide) dX4_cost_14 ?_
  refine J_icmp_ge (tgt := 23) C (by omega) (by omega) dX4_cost_16 (by decide) (fun c_16 => ?_) (fun c_16 => ?_)
  · refine J_iconst C dX4_cost_23 ?_
    refine J_KVI C (c_X4_goes hfl hI _ _ _ _ (by first | exact Or.inl rfl | exact Or.inr rfl | (split <;> omega) | omega) (by first | exact Or.inl rfl | exact Or.inr rfl | (split <;> omega) | omega) (by first | exact Or.inl rfl | exact Or.inr rfl | (split <;> omega) | omega)) (cwV 3 C.1.2.2.2.2 gX4_cost_X4_goes rfl rfl rfl (by decide +kernel) ⟨Nat.le_of_ble_eq_true rfl, Nat.le_of_ble_eq_true rfl⟩) rc4 (by decide) rfl rfl (Nat.le_of_ble_eq_true rfl) dX4_cost_24 ⟨Nat.le_of_ble_eq_true rfl, Nat.le_of_ble_eq_true rfl⟩ (fun z_24 σ_24 hp => ?_)
    obtain ⟨hz_, hs_⟩ := hp
    have hz_ := hz_.symm
    have hs_ := hs_.symm
    subst hz_
    subst hs_
    -- to the cut at 27
    refine K_27 _ _ ?_ ?_
    · simp only [gcd3]
      grind
    · split <;> omega
  · refine J_iconst C dX4_cost_19 ?_
    refine J_goto (tgt := 24) C dX4_cost_20 (by decide) ?_
    refine J_KVI C (c_X4_goes hfl hI _ _ _ _ (by first | exact Or.inl rfl | exact Or.inr rfl | (split <;> omega) | omega) (by first | exact Or.inl rfl | exact Or.inr rfl | (split <;> omega) | omega) (by first | exact Or.inl rfl | exact Or.inr rfl | (split <;> omega) | omega)) (cwV 3 C.1.2.2.2.2 gX4_cost_X4_goes rfl rfl rfl (by decide +kernel) ⟨Nat.le_of_ble_eq_true rfl, Nat.le_of_ble_eq_true rfl⟩) rc4 (by decide) rfl rfl (Nat.le_of_ble_eq_true rfl) dX4_cost_24 ⟨Nat.le_of_ble_eq_true rfl, Nat.le_of_ble_eq_true rfl⟩ (fun z_24 σ_24 hp => ?_)
    obtain ⟨hz_, hs_⟩ := hp
    have hz_ := hz_.symm
    have hs_ := hs_.symm
    subst hz_
    subst hs_
    -- to the cut at 27
    refine K_27 _ _ ?_ ?_
    · simp only [gcd3]
      grind
    · split <;> omega
set_option maxRecDepth 20000 in
theorem in_X4_income_X4 : ∀ w ∈ wsX40, w ∈ wsX4_income := by decide +kernel
set_option maxRecDepth 20000 in
theorem fl_X4_income_83 : Cond.fieldLink RX4 83 "JointVentureModel" "vouchers" "I" ∈ wsX4_income := by decide +kernel
set_option maxHeartbeats 4000000 in
set_option maxRecDepth 100000 in
theorem c_X4_income {l : Launch} (hfl : l.stackTraces = false) {cy : Nat → ClassId} {D : va_G} {ad : Ad} (hI : Inj ad) (σ : Sg) (w a9 : Int) (hw9 : I32 w) (ia : I32 a9) (hM : Mi σ) : KI l yX4_income wsX4_income ({ frames := 2, cells := 0, slots := 0, locals := 43 } : Room) cy D ad σ [.ref (ad 22 0), .int (iI w), .int (iI a9)] (fun z σ' => ∃ cd, ((cd = 0 ∧ ((0 ≤ w ∧ w < σ 22 0 6) ∧ (1 ≤ a9 ∧ a9 ≤ 10000000) ∧ σ 22 0 10 < 60)) ∨ (cd = 1 ∧ (¬ (0 ≤ w ∧ w < σ 22 0 6))) ∨ (cd = 2 ∧ ((0 ≤ w ∧ w < σ 22 0 6) ∧ ¬ (1 ≤ a9 ∧ a9 ≤ 10000000))) ∨ (cd = 3 ∧ ((0 ≤ w ∧ w < σ 22 0 6) ∧ (1 ≤ a9 ∧ a9 ≤ 10000000) ∧ ¬ (σ 22 0 10 < 60)))) ∧ (cd = 0 → z = σ 22 0 10 ∧ σ' = su (su (su (su (su (su σ 22 0 24 0) 27 0 (σ 22 0 10) w) 28 0 (σ 22 0 10) a9) 29 0 (σ 22 0 10) 1) 25 0 w 1) 22 0 10 (σ 22 0 10 + 1)) ∧ (¬ cd = 0 → σ' = su σ 22 0 24 cd)) 0 0 := by
  refine KI.of (lv0 := [some (.ref (ad 22 0)), some (.int (iI w)), some (.int (iI a9))]) hfl hI (by decide) rfl (Nat.le_of_ble_eq_true rfl) rfl ?_
  intro p e s m args below meth c C hr
  have hwm := hM.2.2.2.2.2.1
  have hvm := hM.1
  have K_27 : ∀ (g9 : Int) (cd : Int), ((cd = 0 ∧ ((0 ≤ w ∧ w < σ 22 0 6) ∧ (1 ≤ a9 ∧ a9 ≤ 10000000) ∧ σ 22 0 10 < 60)) ∨ (cd = 1 ∧ (¬ (0 ≤ w ∧ w < σ 22 0 6))) ∨ (cd = 2 ∧ ((0 ≤ w ∧ w < σ 22 0 6) ∧ ¬ (1 ≤ a9 ∧ a9 ≤ 10000000))) ∨ (cd = 3 ∧ ((0 ≤ w ∧ w < σ 22 0 6) ∧ (1 ≤ a9 ∧ a9 ≤ 10000000) ∧ ¬ (σ 22 0 10 < 60)))) → ((g9 = 1 ∧ cd = 0) ∨ (g9 = 0 ∧ ¬ cd = 0)) → JW p l e ({ frames := 2, cells := 0, slots := 0, locals := 43 } : Room) s m args below meth c cy D ad (Ar ad s.heap.size) 3 0 0 (MQ below (QcI cy D ad (fun z σ' => ∃ cd, ((cd = 0 ∧ ((0 ≤ w ∧ w < σ 22 0 6) ∧ (1 ≤ a9 ∧ a9 ≤ 10000000) ∧ σ 22 0 10 < 60)) ∨ (cd = 1 ∧ (¬ (0 ≤ w ∧ w < σ 22 0 6))) ∨ (cd = 2 ∧ ((0 ≤ w ∧ w < σ 22 0 6) ∧ ¬ (1 ≤ a9 ∧ a9 ≤ 10000000))) ∨ (cd = 3 ∧ ((0 ≤ w ∧ w < σ 22 0 6) ∧ (1 ≤ a9 ∧ a9 ≤ 10000000) ∧ ¬ (σ 22 0 10 < 60)))) ∧ (cd = 0 → z = σ 22 0 10 ∧ σ' = su (su (su (su (su (su σ 22 0 24 0) 27 0 (σ 22 0 10) w) 28 0 (σ 22 0 10) a9) 29 0 (σ 22 0 10) 1) 25 0 w 1) 22 0 10 (σ 22 0 10 + 1)) ∧ (¬ cd = 0 → σ' = su σ 22 0 24 cd)) s.heap.size) args s 0 0 (Ar ad s.heap.size)) (su σ 22 0 24 cd) 27 [some (.ref (ad 22 0)), some (.int (iI w)), some (.int (iI a9))] [.int (iI g9)] := by
    intro g9 cd g0 g1
    refine J_if_eq (tgt := 40) C (by omega) dX4_income_27 (by decide) (fun c_27 => ?_) (fun c_27 => ?_)
    · refine J_iconst C dX4_income_40 ?_
      refine J_retI C hr (by decide) (by decide) dX4_income_41 ?_
      first
        | (exact ⟨cd, g0, fun z => by omega, fun _ => rfl⟩)
        | (have hcd : cd = 0 := by omega
           subst hcd
           exact ⟨0, g0, fun _ => ⟨rfl, hs_⟩, fun z => absurd rfl z⟩)
    · refine J_aload_0 C dX4_income_30 ?_
      refine J_iload_1 C dX4_income_31 ?_
      refine J_iload_2 C dX4_income_32 ?_
      refine J_iconst C dX4_income_33 ?_
      refine J_KVI C (c_X4_enters hfl hI _ w _ 1 (by omega) (by rw [su_ne3 (Or.inr (Or.inr (by decide)))]; omega) (by first | exact Or.inl rfl | exact Or.inr rfl)) (cwV 3 C.1.2.2.2.2 gX4_income_X4_enters rfl rfl rfl (by decide +kernel) ⟨Nat.le_of_ble_eq_true rfl, Nat.le_of_ble_eq_true rfl⟩) rc4 (by decide) rfl rfl (Nat.le_of_ble_eq_true rfl) dX4_income_34 ⟨Nat.le_of_ble_eq_true rfl, Nat.le_of_ble_eq_true rfl⟩ (fun z_34 σ_34 hp => ?_)
      obtain ⟨hz_, hs_⟩ := hp
      rw [su_ne3 (Or.inr (Or.inr (by decide)))] at hz_
      have hz_ := hz_.symm
      subst hz_
      rw [show su σ 22 0 24 cd 22 0 10 = σ 22 0 10 from su_ne3 (Or.inr (Or.inr (by decide)))] at hs_
      refine J_goto (tgt := 41) C dX4_income_37 (by decide) ?_
      refine J_retI C hr (by decide) (by decide) dX4_income_41 ?_
      first
        | (exact ⟨cd, g0, fun z => by omega, fun _ => rfl⟩)
        | (have hcd : cd = 0 := by omega
           subst hcd
           exact ⟨0, g0, fun _ => ⟨rfl, hs_⟩, fun z => absurd rfl z⟩)
  refine J_aload_0 C dX4_income_0 ?_
  refine J_aload_0 C dX4_income_1 ?_
  refine J_iload_1 C dX4_income_2 ?_
  refine J_KVI C (c_X4_isWell hfl hI _ w hw9 hwm) (cwV 1 C.1.2.2.2.2 gX4_income_X4_isWell rfl rfl rfl (by decide +kernel) ⟨Nat.le_of_ble_eq_true rfl, Nat.le_of_ble_eq_true rfl⟩) rc4 (by decide) rfl rfl (Nat.le_of_ble_eq_true rfl) dX4_income_3 ⟨Nat.le_of_ble_eq_true rfl, Nat.le_of_ble_eq_true rfl⟩ (fun z_3 σ_3 hp => ?_)
  obtain ⟨hz_, hs_⟩ := hp
  have hz_ := hz_.symm
  have hs_ := hs_.symm
  subst hz_
  subst hs_
  refine J_iload_2 C dX4_income_6 ?_
  refine J_KSI C (c_X4_isAmount hfl hI _ a9 ia) (va_cwS 1 C.1.2.2.2.2 gX4_income_X4_isAmount rfl rfl rfl (by decide +kernel) ⟨Nat.le_of_ble_eq_true rfl, Nat.le_of_ble_eq_true rfl⟩) rfl rfl (Nat.le_of_ble_eq_true rfl) dX4_income_7 ⟨Nat.le_of_ble_eq_true rfl, Nat.le_of_ble_eq_true rfl⟩ (fun z_7 σ_7 hp => ?_)
  obtain ⟨hz_, hs_⟩ := hp
  have hz_ := hz_.symm
  have hs_ := hs_.symm
  subst hz_
  subst hs_
  refine J_aload_0 C dX4_income_10 ?_
  refine J_get_4_10 C in_X4_income_X4 fl_X4_income_83 (by decide) dX4_income_11 ?_
  refine J_bipush C (by decide) dX4_income_14 ?_
  refine J_icmp_ge (tgt := 23) C (by omega) (by omega) dX4_income_16 (by decide) (fun c_16 => ?_) (fun c_16 => ?_)
  · refine J_iconst C dX4_income_23 ?_
    refine J_KVI C (c_X4_goes hfl hI _ _ _ _ (by first | exact Or.inl rfl | exact Or.inr rfl | (split <;> omega) | omega) (by first | exact Or.inl rfl | exact Or.inr rfl | (split <;> omega) | omega) (by first | exact Or.inl rfl | exact Or.inr rfl | (split <;> omega) | omega)) (cwV 3 C.1.2.2.2.2 gX4_income_X4_goes rfl rfl rfl (by decide +kernel) ⟨Nat.le_of_ble_eq_true rfl, Nat.le_of_ble_eq_true rfl⟩) rc4 (by decide) rfl rfl (Nat.le_of_ble_eq_true rfl) dX4_income_24 ⟨Nat.le_of_ble_eq_true rfl, Nat.le_of_ble_eq_true rfl⟩ (fun z_24 σ_24 hp => ?_)
    obtain ⟨hz_, hs_⟩ := hp
    have hz_ := hz_.symm
    have hs_ := hs_.symm
    subst hz_
    subst hs_
    -- to the cut at 27
    refine K_27 _ _ ?_ ?_
    · simp only [gcd3]
      grind
    · split <;> omega
  · refine J_iconst C dX4_income_19 ?_
    refine J_goto (tgt := 24) C dX4_income_20 (by decide) ?_
    refine J_KVI C (c_X4_goes hfl hI _ _ _ _ (by first | exact Or.inl rfl | exact Or.inr rfl | (split <;> omega) | omega) (by first | exact Or.inl rfl | exact Or.inr rfl | (split <;> omega) | omega) (by first | exact Or.inl rfl | exact Or.inr rfl | (split <;> omega) | omega)) (cwV 3 C.1.2.2.2.2 gX4_income_X4_goes rfl rfl rfl (by decide +kernel) ⟨Nat.le_of_ble_eq_true rfl, Nat.le_of_ble_eq_true rfl⟩) rc4 (by decide) rfl rfl (Nat.le_of_ble_eq_true rfl) dX4_income_24 ⟨Nat.le_of_ble_eq_true rfl, Nat.le_of_ble_eq_true rfl⟩ (fun z_24 σ_24 hp => ?_)
    obtain ⟨hz_, hs_⟩ := hp
    have hz_ := hz_.symm
    have hs_ := hs_.symm
    subst hz_
    subst hs_
    -- to the cut at 27
    refine K_27 _ _ ?_ ?_
    · simp only [gcd3]
      grind
    · split <;> omega
set_option maxRecDepth 20000 in
theorem in_X4_overhead_X4 : ∀ w ∈ wsX40, w ∈ wsX4_overhead := by decide +kernel
set_option maxRecDepth 20000 in
theorem fl_X4_overhead_121 : Cond.fieldLink RX4 121 "JointVentureModel" "overhead" "I" ∈ wsX4_overhead := by decide +kernel
set_option maxRecDepth 20000 in
theorem fl_X4_overhead_83 : Cond.fieldLink RX4 83 "JointVentureModel" "vouchers" "I" ∈ wsX4_overhead := by decide +kernel
set_option maxHeartbeats 4000000 in
set_option maxRecDepth 100000 in
theorem c_X4_overhead {l : Launch} (hfl : l.stackTraces = false) {cy : Nat → ClassId} {D : va_G} {ad : Ad} (hI : Inj ad) (σ : Sg) (w a9 : Int) (hw9 : I32 w) (ia : I32 a9) (hM : Mi σ) (hom : 0 ≤ σ 22 0 2 ∧ σ 22 0 2 ≤ 100000) : KI l yX4_overhead wsX4_overhead ({ frames := 2, cells := 0, slots := 0, locals := 43 } : Room) cy D ad σ [.ref (ad 22 0), .int (iI w), .int (iI a9)] (fun z σ' => ∃ cd, ((cd = 0 ∧ ((0 ≤ w ∧ w < σ 22 0 6) ∧ (1 ≤ a9 ∧ a9 ≤ 24) ∧ σ 22 0 10 < 60 ∧ 0 < σ 22 0 2)) ∨ (cd = 1 ∧ (¬ (0 ≤ w ∧ w < σ 22 0 6))) ∨ (cd = 2 ∧ ((0 ≤ w ∧ w < σ 22 0 6) ∧ ¬ (1 ≤ a9 ∧ a9 ≤ 24))) ∨ (cd = 3 ∧ ((0 ≤ w ∧ w < σ 22 0 6) ∧ (1 ≤ a9 ∧ a9 ≤ 24) ∧ ¬ (σ 22 0 10 < 60 ∧ 0 < σ 22 0 2)))) ∧ (cd = 0 → z = σ 22 0 10 ∧ σ' = su (su (su (su (su (su σ 22 0 24 0) 27 0 (σ 22 0 10) w) 28 0 (σ 22 0 10) (σ 22 0 2 * a9)) 29 0 (σ 22 0 10) 0) 25 0 w 1) 22 0 10 (σ 22 0 10 + 1)) ∧ (¬ cd = 0 → σ' = su σ 22 0 24 cd)) 0 0 := by
  refine KI.of (lv0 := [some (.ref (ad 22 0)), some (.int (iI w)), some (.int (iI a9)), none]) hfl hI (by decide) rfl (Nat.le_of_ble_eq_true rfl) rfl ?_
  intro p e s m args below meth c C hr
  have hwm := hM.2.2.2.2.2.1
  have hvm := hM.1
  have K_39 : ∀ (g9 : Int) (cd : Int), ((cd = 0 ∧ ((0 ≤ w ∧ w < σ 22 0 6) ∧ (1 ≤ a9 ∧ a9 ≤ 24) ∧ σ 22 0 10 < 60 ∧ 0 < σ 22 0 2)) ∨ (cd = 1 ∧ (¬ (0 ≤ w ∧ w < σ 22 0 6))) ∨ (cd = 2 ∧ ((0 ≤ w ∧ w < σ 22 0 6) ∧ ¬ (1 ≤ a9 ∧ a9 ≤ 24))) ∨ (cd = 3 ∧ ((0 ≤ w ∧ w < σ 22 0 6) ∧ (1 ≤ a9 ∧ a9 ≤ 24) ∧ ¬ (σ 22 0 10 < 60 ∧ 0 < σ 22 0 2)))) → ((g9 = 1 ∧ cd = 0) ∨ (g9 = 0 ∧ ¬ cd = 0)) → JW p l e ({ frames := 2, cells := 0, slots := 0, locals := 43 } : Room) s m args below meth c cy D ad (Ar ad s.heap.size) 4 0 0 (MQ below (QcI cy D ad (fun z σ' => ∃ cd, ((cd = 0 ∧ ((0 ≤ w ∧ w < σ 22 0 6) ∧ (1 ≤ a9 ∧ a9 ≤ 24) ∧ σ 22 0 10 < 60 ∧ 0 < σ 22 0 2)) ∨ (cd = 1 ∧ (¬ (0 ≤ w ∧ w < σ 22 0 6))) ∨ (cd = 2 ∧ ((0 ≤ w ∧ w < σ 22 0 6) ∧ ¬ (1 ≤ a9 ∧ a9 ≤ 24))) ∨ (cd = 3 ∧ ((0 ≤ w ∧ w < σ 22 0 6) ∧ (1 ≤ a9 ∧ a9 ≤ 24) ∧ ¬ (σ 22 0 10 < 60 ∧ 0 < σ 22 0 2)))) ∧ (cd = 0 → z = σ 22 0 10 ∧ σ' = su (su (su (su (su (su σ 22 0 24 0) 27 0 (σ 22 0 10) w) 28 0 (σ 22 0 10) (σ 22 0 2 * a9)) 29 0 (σ 22 0 10) 0) 25 0 w 1) 22 0 10 (σ 22 0 10 + 1)) ∧ (¬ cd = 0 → σ' = su σ 22 0 24 cd)) s.heap.size) args s 0 0 (Ar ad s.heap.size)) (su σ 22 0 24 cd) 39 [some (.ref (ad 22 0)), some (.int (iI w)), some (.int (iI a9)), none] [.int (iI g9)] := by
    intro g9 cd g0 g1
    refine J_if_eq (tgt := 57) C (by omega) dX4_overhead_39 (by decide) (fun c_39 => ?_) (fun c_39 => ?_)
    · refine J_iconst C dX4_overhead_57 ?_
      refine J_retI C hr (by decide) (by decide) dX4_overhead_58 ?_
      first
        | (exact ⟨cd, g0, fun z => by omega, fun _ => rfl⟩)
        | (have hcd : cd = 0 := by omega
           subst hcd
           exact ⟨0, g0, fun _ => ⟨rfl, hs_⟩, fun z => absurd rfl z⟩)
    · refine J_aload_0 C dX4_overhead_42 ?_
      refine J_iload_1 C dX4_overhead_43 ?_
      refine J_aload_0 C dX4_overhead_44 ?_
      refine J_get_4_2 C in_X4_overhead_X4 fl_X4_overhead_121 (by decide) dX4_overhead_45 ?_
      rw [show su σ 22 0 24 cd 22 0 2 = σ 22 0 2 from su_ne3 (Or.inr (Or.inr (by decide)))]
      refine J_iload_2 C dX4_overhead_48 ?_
      refine J_imul C dX4_overhead_49 ?_
      refine J_iconst C dX4_overhead_50 ?_
      refine J_KVI C (c_X4_enters hfl hI _ w _ 0 (by omega) (by rw [su_ne3 (Or.inr (Or.inr (by decide)))]; omega) (by first | exact Or.inl rfl | exact Or.inr rfl)) (cwV 3 C.1.2.2.2.2 gX4_overhead_X4_enters rfl rfl rfl (by decide +kernel) ⟨Nat.le_of_ble_eq_true rfl, Nat.le_of_ble_eq_true rfl⟩) rc4 (by decide) rfl rfl (Nat.le_of_ble_eq_true rfl) dX4_overhead_51 ⟨Nat.le_of_ble_eq_true rfl, Nat.le_of_ble_eq_true rfl⟩ (fun z_51 σ_51 hp => ?_)
      obtain ⟨hz_, hs_⟩ := hp
      rw [su_ne3 (Or.inr (Or.inr (by decide)))] at hz_
      have hz_ := hz_.symm
      subst hz_
      rw [show su σ 22 0 24 cd 22 0 10 = σ 22 0 10 from su_ne3 (Or.inr (Or.inr (by decide)))] at hs_
      refine J_goto (tgt := 58) C dX4_overhead_54 (by decide) ?_
      refine J_retI C hr (by decide) (by decide) dX4_overhead_58 ?_
      first
        | (exact ⟨cd, g0, fun z => by omega, fun _ => rfl⟩)
        | (have hcd : cd = 0 := by omega
           subst hcd
           exact ⟨0, g0, fun _ => ⟨rfl, hs_⟩, fun z => absurd rfl z⟩)
  have K_21 : ∀ (kn : Int), ((kn = 1 ∧ (σ 22 0 10 < 60 ∧ 0 < σ 22 0 2)) ∨ (kn = 0 ∧ ¬ (σ 22 0 10 < 60 ∧ 0 < σ 22 0 2))) → JW p l e ({ frames := 2, cells := 0, slots := 0, locals := 43 } : Room) s m args below meth c cy D ad (Ar ad s.heap.size) 4 0 0 (MQ below (QcI cy D ad (fun z σ' => ∃ cd, ((cd = 0 ∧ ((0 ≤ w ∧ w < σ 22 0 6) ∧ (1 ≤ a9 ∧ a9 ≤ 24) ∧ σ 22 0 10 < 60 ∧ 0 < σ 22 0 2)) ∨ (cd = 1 ∧ (¬ (0 ≤ w ∧ w < σ 22 0 6))) ∨ (cd = 2 ∧ ((0 ≤ w ∧ w < σ 22 0 6) ∧ ¬ (1 ≤ a9 ∧ a9 ≤ 24))) ∨ (cd = 3 ∧ ((0 ≤ w ∧ w < σ 22 0 6) ∧ (1 ≤ a9 ∧ a9 ≤ 24) ∧ ¬ (σ 22 0 10 < 60 ∧ 0 < σ 22 0 2)))) ∧ (cd = 0 → z = σ 22 0 10 ∧ σ' = su (su (su (su (su (su σ 22 0 24 0) 27 0 (σ 22 0 10) w) 28 0 (σ 22 0 10) (σ 22 0 2 * a9)) 29 0 (σ 22 0 10) 0) 25 0 w 1) 22 0 10 (σ 22 0 10 + 1)) ∧ (¬ cd = 0 → σ' = su σ 22 0 24 cd)) s.heap.size) args s 0 0 (Ar ad s.heap.size)) σ 21 [some (.ref (ad 22 0)), some (.int (iI w)), some (.int (iI a9)), none] [.int (iI kn)] := by
    intro kn u0
    refine J_istore_3 C (by decide) rfl dX4_overhead_21 ?_
    refine J_aload_0 C dX4_overhead_22 ?_
    refine J_aload_0 C dX4_overhead_23 ?_
    refine J_iload_1 C dX4_overhead_24 ?_
    refine J_KVI C (c_X4_isWell hfl hI _ w hw9 hwm) (cwV 1 C.1.2.2.2.2 gX4_overhead_X4_isWell rfl rfl rfl (by decide +kernel) ⟨Nat.le_of_ble_eq_true rfl, Nat.le_of_ble_eq_true rfl⟩) rc4 (by decide) rfl rfl (Nat.le_of_ble_eq_true rfl) dX4_overhead_25 ⟨Nat.le_of_ble_eq_true rfl, Nat.le_of_ble_eq_true rfl⟩ (fun z_25 σ_25 hp => ?_)
    obtain ⟨hz_, hs_⟩ := hp
    have hz_ := hz_.symm
    have hs_ := hs_.symm
    subst hz_
    subst hs_
    refine J_iload_2 C dX4_overhead_28 ?_
    refine J_iconst C dX4_overhead_29 ?_
    refine J_bipush C (by decide) dX4_overhead_30 ?_
    refine J_KSI C (c_X4_within hfl hI _ a9 1 24 ia (by omega) (by omega)) (va_cwS 3 C.1.2.2.2.2 gX4_overhead_X4_within rfl rfl rfl (by decide +kernel) ⟨Nat.le_of_ble_eq_true rfl, Nat.le_of_ble_eq_true rfl⟩) rfl rfl (Nat.le_of_ble_eq_true rfl) dX4_overhead_32 ⟨Nat.le_of_ble_eq_true rfl, Nat.le_of_ble_eq_true rfl⟩ (fun z_32 σ_32 hp => ?_)
    obtain ⟨hz_, hs_⟩ := hp
    have hz_ := hz_.symm
    have hs_ := hs_.symm
    subst hz_
    subst hs_
    refine J_iload_3 C dX4_overhead_35 ?_
    refine J_KVI C (c_X4_goes hfl hI _ _ _ _ (by first | exact Or.inl rfl | exact Or.inr rfl | (split <;> omega) | omega) (by first | exact Or.inl rfl | exact Or.inr rfl | (split <;> omega) | omega) (by first | exact Or.inl rfl | exact Or.inr rfl | (split <;> omega) | omega)) (cwV 3 C.1.2.2.2.2 gX4_overhead_X4_goes rfl rfl rfl (by decide +kernel) ⟨Nat.le_of_ble_eq_true rfl, Nat.le_of_ble_eq_true rfl⟩) rc4 (by decide) rfl rfl (Nat.le_of_ble_eq_true rfl) dX4_overhead_36 ⟨Nat.le_of_ble_eq_true rfl, Nat.le_of_ble_eq_true rfl⟩ (fun z_36 σ_36 hp => ?_)
    obtain ⟨hz_, hs_⟩ := hp
    have hz_ := hz_.symm
    have hs_ := hs_.symm
    subst hz_
    subst hs_
    -- to the cut at 39
    refine J_fg3 ?_
    refine K_39 _ _ ?_ ?_
    · simp only [gcd3]
      grind
    · split <;> omega
  refine J_aload_0 C dX4_overhead_0 ?_
  refine J_get_4_10 C in_X4_overhead_X4 fl_X4_overhead_83 (by decide) dX4_overhead_1 ?_
  refine J_bipush C (by decide) dX4_overhead_4 ?_
  refine J_icmp_ge (tgt := 20) C (by omega) (by omega) dX4_overhead_6 (by decide) (fun c_6 => ?_) (fun c_6 => ?_)
  · refine J_iconst C dX4_overhead_20 ?_
    -- to the cut at 21
    refine K_21 _ ?_
    · omega
  · refine J_aload_0 C dX4_overhead_9 ?_
    refine J_get_4_2 C in_X4_overhead_X4 fl_X4_overhead_121 (by decide) dX4_overhead_10 ?_
    refine J_if_le (tgt := 20) C (by omega) dX4_overhead_13 (by decide) (fun c_13 => ?_) (fun c_13 => ?_)
    · refine J_iconst C dX4_overhead_20 ?_
      -- to the cut at 21
      refine K_21 _ ?_
      · omega
    · refine J_iconst C dX4_overhead_16 ?_
      refine J_goto (tgt := 21) C dX4_overhead_17 (by decide) ?_
      -- to the cut at 21
      refine K_21 _ ?_
      · omega
set_option maxRecDepth 20000 in
theorem in_X4_move_X4 : ∀ w ∈ wsX40, w ∈ wsX4_move := by decide +kernel
set_option maxRecDepth 20000 in
theorem fl_X4_move_27 : Cond.fieldLink RX4 27 "JointVentureModel" "sites" "[I" ∈ wsX4_move := by decide +kernel
set_option maxRecDepth 20000 in
theorem fl_X4_move_20 : Cond.fieldLink RX4 20 "JointVentureModel" "touched" "[Z" ∈ wsX4_move := by decide +kernel
set_option maxRecDepth 20000 in
theorem fl_X4_move_33 : Cond.fieldLink RX4 33 "JointVentureModel" "incomes" "[Z" ∈ wsX4_move := by decide +kernel
set_option maxHeartbeats 4000000 in
set_option maxRecDepth 100000 in
theorem c_X4_move {l : Launch} (hfl : l.stackTraces = false) {cy : Nat → ClassId} {D : va_G} {ad : Ad} (hI : Inj ad) (σ : Sg) (v w : Int) (hv9 : I32 v) (hw9 : I32 w) (hM : Mi σ) : KI l yX4_move wsX4_move ({ frames := 2, cells := 0, slots := 0, locals := 43 } : Room) cy D ad σ [.ref (ad 22 0), .int (iI v), .int (iI w)] (fun z σ' => ∃ cd, ((cd = 0 ∧ (((0 ≤ v ∧ v < σ 22 0 10) ∧ (0 ≤ w ∧ w < σ 22 0 6)) ∧ σ 29 0 v = 0)) ∨ (cd = 1 ∧ (¬ ((0 ≤ v ∧ v < σ 22 0 10) ∧ (0 ≤ w ∧ w < σ 22 0 6)))) ∨ (cd = 2 ∧ (((0 ≤ v ∧ v < σ 22 0 10) ∧ (0 ≤ w ∧ w < σ 22 0 6)) ∧ ¬ σ 29 0 v = 0))) ∧ (cd = 0 → z = σ 27 0 v ∧ σ' = su (su (su σ 22 0 24 0) 27 0 v w) 25 0 w 1) ∧ (¬ cd = 0 → σ' = su σ 22 0 24 cd)) 0 0 := by
  refine KI.of (lv0 := [some (.ref (ad 22 0)), some (.int (iI v)), some (.int (iI w)), none, none]) hfl hI (by decide) rfl (Nat.le_of_ble_eq_true rfl) rfl ?_
  intro p e s m args below meth c C hr
  have hwm := hM.2.2.2.2.2.1
  have hvm := hM.1
  have K_46 : ∀ (g9 : Int) (cd : Int), ((cd = 0 ∧ (((0 ≤ v ∧ v < σ 22 0 10) ∧ (0 ≤ w ∧ w < σ 22 0 6)) ∧ σ 29 0 v = 0)) ∨ (cd = 1 ∧ (¬ ((0 ≤ v ∧ v < σ 22 0 10) ∧ (0 ≤ w ∧ w < σ 22 0 6)))) ∨ (cd = 2 ∧ (((0 ≤ v ∧ v < σ 22 0 10) ∧ (0 ≤ w ∧ w < σ 22 0 6)) ∧ ¬ σ 29 0 v = 0))) → ((g9 = 1 ∧ cd = 0) ∨ (g9 = 0 ∧ ¬ cd = 0)) → JW p l e ({ frames := 2, cells := 0, slots := 0, locals := 43 } : Room) s m args below meth c cy D ad (Ar ad s.heap.size) 5 0 0 (MQ below (QcI cy D ad (fun z σ' => ∃ cd, ((cd = 0 ∧ (((0 ≤ v ∧ v < σ 22 0 10) ∧ (0 ≤ w ∧ w < σ 22 0 6)) ∧ σ 29 0 v = 0)) ∨ (cd = 1 ∧ (¬ ((0 ≤ v ∧ v < σ 22 0 10) ∧ (0 ≤ w ∧ w < σ 22 0 6)))) ∨ (cd = 2 ∧ (((0 ≤ v ∧ v < σ 22 0 10) ∧ (0 ≤ w ∧ w < σ 22 0 6)) ∧ ¬ σ 29 0 v = 0))) ∧ (cd = 0 → z = σ 27 0 v ∧ σ' = su (su (su σ 22 0 24 0) 27 0 v w) 25 0 w 1) ∧ (¬ cd = 0 → σ' = su σ 22 0 24 cd)) s.heap.size) args s 0 0 (Ar ad s.heap.size)) (su σ 22 0 24 cd) 46 [some (.ref (ad 22 0)), some (.int (iI v)), some (.int (iI w)), none, none] [.int (iI g9)] := by
    intro g9 cd g0 g1
    refine J_if_ne (tgt := 51) C (by omega) dX4_move_46 (by decide) (fun c_46 => ?_) (fun c_46 => ?_)
    · refine J_aload_0 C dX4_move_51 ?_
      refine J_get_4_7 C in_X4_move_X4 fl_X4_move_27 (by decide) dX4_move_52 ?_
      refine J_iload_1 C dX4_move_55 ?_
      refine J_iaload C k27 (by decide) (by omega) dX4_move_56 ?_
      refine J_istore4 C (by decide) rfl dX4_move_57 ?_
      refine J_aload_0 C dX4_move_59 ?_
      refine J_get_4_7 C in_X4_move_X4 fl_X4_move_27 (by decide) dX4_move_60 ?_
      refine J_iload_1 C dX4_move_63 ?_
      refine J_iload_2 C dX4_move_64 ?_
      refine J_iastore C k27 (by decide) (by omega) dX4_move_65 ?_
      refine J_aload_0 C dX4_move_66 ?_
      refine J_get_4_4 C in_X4_move_X4 fl_X4_move_20 (by decide) dX4_move_67 ?_
      refine J_iload_2 C dX4_move_70 ?_
      refine J_iconst C dX4_move_71 ?_
      refine J_bastore C k25 (by decide) (by omega) (by exact Or.inr rfl) dX4_move_72 ?_
      refine J_iload4 C dX4_move_73 ?_
      refine J_retI C hr (by decide) (by decide) dX4_move_75 ?_
      have hcd : cd = 0 := by omega
      subst hcd
      exact ⟨0, g0, fun _ => ⟨su_nk (by decide), rfl⟩, fun z => absurd rfl z⟩
    · refine J_iconst C dX4_move_49 ?_
      refine J_retI C hr (by decide) (by decide) dX4_move_50 ?_
      exact ⟨cd, g0, fun z => by omega, fun _ => rfl⟩
  have K_42 : ∀ (kn : Int) (cn : Int), ((kn = 1 ∧ ((0 ≤ v ∧ v < σ 22 0 10) ∧ (0 ≤ w ∧ w < σ 22 0 6))) ∨ (kn = 0 ∧ ¬ ((0 ≤ v ∧ v < σ 22 0 10) ∧ (0 ≤ w ∧ w < σ 22 0 6)))) → ((cn = 1 ∧ ((0 ≤ v ∧ v < σ 22 0 10) ∧ (0 ≤ w ∧ w < σ 22 0 6)) ∧ σ 29 0 v = 0) ∨ (cn = 0 ∧ ¬ (((0 ≤ v ∧ v < σ 22 0 10) ∧ (0 ≤ w ∧ w < σ 22 0 6)) ∧ σ 29 0 v = 0))) → JW p l e ({ frames := 2, cells := 0, slots := 0, locals := 43 } : Room) s m args below meth c cy D ad (Ar ad s.heap.size) 5 0 0 (MQ below (QcI cy D ad (fun z σ' => ∃ cd, ((cd = 0 ∧ (((0 ≤ v ∧ v < σ 22 0 10) ∧ (0 ≤ w ∧ w < σ 22 0 6)) ∧ σ 29 0 v = 0)) ∨ (cd = 1 ∧ (¬ ((0 ≤ v ∧ v < σ 22 0 10) ∧ (0 ≤ w ∧ w < σ 22 0 6)))) ∨ (cd = 2 ∧ (((0 ≤ v ∧ v < σ 22 0 10) ∧ (0 ≤ w ∧ w < σ 22 0 6)) ∧ ¬ σ 29 0 v = 0))) ∧ (cd = 0 → z = σ 27 0 v ∧ σ' = su (su (su σ 22 0 24 0) 27 0 v w) 25 0 w 1) ∧ (¬ cd = 0 → σ' = su σ 22 0 24 cd)) s.heap.size) args s 0 0 (Ar ad s.heap.size)) σ 42 [some (.ref (ad 22 0)), some (.int (iI v)), some (.int (iI w)), some (.int (iI kn)), none] [.int (iI cn), .int (iI kn), .ref (ad 22 0)] := by
    intro kn cn u0 u1
    refine J_iconst C dX4_move_42 ?_
    refine J_KVI C (c_X4_goes hfl hI _ _ _ _ (by first | exact Or.inl rfl | exact Or.inr rfl | (split <;> omega) | omega) (by first | exact Or.inl rfl | exact Or.inr rfl | (split <;> omega) | omega) (by first | exact Or.inl rfl | exact Or.inr rfl | (split <;> omega) | omega)) (cwV 3 C.1.2.2.2.2 gX4_move_X4_goes rfl rfl rfl (by decide +kernel) ⟨Nat.le_of_ble_eq_true rfl, Nat.le_of_ble_eq_true rfl⟩) rc4 (by decide) rfl rfl (Nat.le_of_ble_eq_true rfl) dX4_move_43 ⟨Nat.le_of_ble_eq_true rfl, Nat.le_of_ble_eq_true rfl⟩ (fun z_43 σ_43 hp => ?_)
    obtain ⟨hz_, hs_⟩ := hp
    have hz_ := hz_.symm
    have hs_ := hs_.symm
    subst hz_
    subst hs_
    -- to the cut at 46
    refine J_fg3 ?_
    refine K_46 _ _ ?_ ?_
    · simp only [gcd3]
      grind
    · split <;> omega
  have K_21 : ∀ (kn : Int), ((kn = 1 ∧ ((0 ≤ v ∧ v < σ 22 0 10) ∧ (0 ≤ w ∧ w < σ 22 0 6))) ∨ (kn = 0 ∧ ¬ ((0 ≤ v ∧ v < σ 22 0 10) ∧ (0 ≤ w ∧ w < σ 22 0 6)))) → JW p l e ({ frames := 2, cells := 0, slots := 0, locals := 43 } : Room) s m args below meth c cy D ad (Ar ad s.heap.size) 5 0 0 (MQ below (QcI cy D ad (fun z σ' => ∃ cd, ((cd = 0 ∧ (((0 ≤ v ∧ v < σ 22 0 10) ∧ (0 ≤ w ∧ w < σ 22 0 6)) ∧ σ 29 0 v = 0)) ∨ (cd = 1 ∧ (¬ ((0 ≤ v ∧ v < σ 22 0 10) ∧ (0 ≤ w ∧ w < σ 22 0 6)))) ∨ (cd = 2 ∧ (((0 ≤ v ∧ v < σ 22 0 10) ∧ (0 ≤ w ∧ w < σ 22 0 6)) ∧ ¬ σ 29 0 v = 0))) ∧ (cd = 0 → z = σ 27 0 v ∧ σ' = su (su (su σ 22 0 24 0) 27 0 v w) 25 0 w 1) ∧ (¬ cd = 0 → σ' = su σ 22 0 24 cd)) s.heap.size) args s 0 0 (Ar ad s.heap.size)) σ 21 [some (.ref (ad 22 0)), some (.int (iI v)), some (.int (iI w)), none, none] [.int (iI kn)] := by
    intro kn u0
    refine J_istore_3 C (by decide) rfl dX4_move_21 ?_
    refine J_aload_0 C dX4_move_22 ?_
    refine J_iload_3 C dX4_move_23 ?_
    refine J_iload_3 C dX4_move_24 ?_
    refine J_if_eq (tgt := 41) C (by omega) dX4_move_25 (by decide) (fun c_25 => ?_) (fun c_25 => ?_)
    · refine J_iconst C dX4_move_41 ?_
      -- to the cut at 42
      refine K_42 _ _ ?_ ?_
      · exact u0
      · omega
    · refine J_aload_0 C dX4_move_28 ?_
      refine J_get_4_9 C in_X4_move_X4 fl_X4_move_33 (by decide) dX4_move_29 ?_
      refine J_iload_1 C dX4_move_32 ?_
      refine J_baload C k29 (by decide) (by omega) dX4_move_33 ?_
      refine J_if_ne (tgt := 41) C (by have := (hM.2.1 v (by omega) (by omega)).2.2; omega) dX4_move_34 (by decide) (fun c_34 => ?_) (fun c_34 => ?_)
      · refine J_iconst C dX4_move_41 ?_
        -- to the cut at 42
        refine K_42 _ _ ?_ ?_
        · exact u0
        · omega
      · refine J_iconst C dX4_move_37 ?_
        refine J_goto (tgt := 42) C dX4_move_38 (by decide) ?_
        -- to the cut at 42
        refine K_42 _ _ ?_ ?_
        · exact u0
        · omega
  refine J_aload_0 C dX4_move_0 ?_
  refine J_iload_1 C dX4_move_1 ?_
  refine J_KVI C (c_X4_isVoucher hfl hI _ v hv9 hvm) (cwV 1 C.1.2.2.2.2 gX4_move_X4_isVoucher rfl rfl rfl (by decide +kernel) ⟨Nat.le_of_ble_eq_true rfl, Nat.le_of_ble_eq_true rfl⟩) rc4 (by decide) rfl rfl (Nat.le_of_ble_eq_true rfl) dX4_move_2 ⟨Nat.le_of_ble_eq_true rfl, Nat.le_of_ble_eq_true rfl⟩ (fun z_2 σ_2 hp => ?_)
  obtain ⟨hz_, hs_⟩ := hp
  have hz_ := hz_.symm
  have hs_ := hs_.symm
  subst hz_
  subst hs_
  refine J_if_eq (tgt := 20) C (by split <;> omega) dX4_move_5 (by decide) (fun c_5 => ?_) (fun c_5 => ?_)
  · refine J_iconst C dX4_move_20 ?_
    -- to the cut at 21
    refine K_21 _ ?_
    · omega
  · refine J_aload_0 C dX4_move_8 ?_
    refine J_iload_2 C dX4_move_9 ?_
    refine J_KVI C (c_X4_isWell hfl hI _ w hw9 hwm) (cwV 1 C.1.2.2.2.2 gX4_move_X4_isWell rfl rfl rfl (by decide +kernel) ⟨Nat.le_of_ble_eq_true rfl, Nat.le_of_ble_eq_true rfl⟩) rc4 (by decide) rfl rfl (Nat.le_of_ble_eq_true rfl) dX4_move_10 ⟨Nat.le_of_ble_eq_true rfl, Nat.le_of_ble_eq_true rfl⟩ (fun z_10 σ_10 hp => ?_)
    obtain ⟨hz_, hs_⟩ := hp
    have hz_ := hz_.symm
    have hs_ := hs_.symm
    subst hz_
    subst hs_
    refine J_if_eq (tgt := 20) C (by split <;> omega) dX4_move_13 (by decide) (fun c_13 => ?_) (fun c_13 => ?_)
    · refine J_iconst C dX4_move_20 ?_
      -- to the cut at 21
      refine K_21 _ ?_
      · omega
    · refine J_iconst C dX4_move_16 ?_
      refine J_goto (tgt := 21) C dX4_move_17 (by decide) ?_
      -- to the cut at 21
      refine K_21 _ ?_
      · omega
set_option maxRecDepth 20000 in
theorem in_X4_wellOf_X4 : ∀ w ∈ wsX40, w ∈ wsX4_wellOf := by decide +kernel
set_option maxRecDepth 20000 in
theorem fl_X4_wellOf_27 : Cond.fieldLink RX4 27 "JointVentureModel" "sites" "[I" ∈ wsX4_wellOf := by decide +kernel
set_option maxHeartbeats 4000000 in
set_option maxRecDepth 100000 in
theorem c_X4_wellOf {l : Launch} (hfl : l.stackTraces = false) {cy : Nat → ClassId} {D : va_G} {ad : Ad} (hI : Inj ad) (σ : Sg) (v : Int) (hv9 : I32 v) (hM : Mi σ) : KI l yX4_wellOf wsX4_wellOf ({ frames := 2, cells := 0, slots := 0, locals := 43 } : Room) cy D ad σ [.ref (ad 22 0), .int (iI v)] (fun z σ' => ∃ cd, ((cd = 0 ∧ (0 ≤ v ∧ v < σ 22 0 10)) ∨ (cd = 1 ∧ (¬ (0 ≤ v ∧ v < σ 22 0 10)))) ∧ (cd = 0 → z = σ 27 0 v ∧ σ' = su σ 22 0 24 0) ∧ (¬ cd = 0 → σ' = su σ 22 0 24 cd)) 0 0 := by
  refine KI.of (lv0 := [some (.ref (ad 22 0)), some (.int (iI v))]) hfl hI (by decide) rfl (Nat.le_of_ble_eq_true rfl) rfl ?_
  intro p e s m args below meth c C hr
  have hvm := hM.1
  have K_11 : ∀ (g9 : Int) (cd : Int), ((cd = 0 ∧ (0 ≤ v ∧ v < σ 22 0 10)) ∨ (cd = 1 ∧ (¬ (0 ≤ v ∧ v < σ 22 0 10)))) → ((g9 = 1 ∧ cd = 0) ∨ (g9 = 0 ∧ ¬ cd = 0)) → JW p l e ({ frames := 2, cells := 0, slots := 0, locals := 43 } : Room) s m args below meth c cy D ad (Ar ad s.heap.size) 2 0 0 (MQ below (QcI cy D ad (fun z σ' => ∃ cd, ((cd = 0 ∧ (0 ≤ v ∧ v < σ 22 0 10)) ∨ (cd = 1 ∧ (¬ (0 ≤ v ∧ v < σ 22 0 10)))) ∧ (cd = 0 → z = σ 27 0 v ∧ σ' = su σ 22 0 24 0) ∧ (¬ cd = 0 → σ' = su σ 22 0 24 cd)) s.heap.size) args s 0 0 (Ar ad s.heap.size)) (su σ 22 0 24 cd) 11 [some (.ref (ad 22 0)), some (.int (iI v))] [.int (iI g9)] := by
    intro g9 cd g0 g1
    refine J_if_eq (tgt := 23) C (by omega) dX4_wellOf_11 (by decide) (fun c_11 => ?_) (fun c_11 => ?_)
    · refine J_iconst C dX4_wellOf_23 ?_
      refine J_retI C hr (by decide) (by decide) dX4_wellOf_24 ?_
      (first
        | (exact ⟨cd, g0, fun z => by omega, fun _ => rfl⟩)
        | (have hcd : cd = 0 := by omega
           subst hcd
           exact ⟨0, g0, fun _ => ⟨su_nk (by decide), rfl⟩, fun z => absurd rfl z⟩))
    · refine J_aload_0 C dX4_wellOf_14 ?_
      refine J_get_4_7 C in_X4_wellOf_X4 fl_X4_wellOf_27 (by decide) dX4_wellOf_15 ?_
      refine J_iload_1 C dX4_wellOf_18 ?_
      refine J_iaload C k27 (by decide) (by omega) dX4_wellOf_19 ?_
      refine J_goto (tgt := 24) C dX4_wellOf_20 (by decide) ?_
      refine J_retI C hr (by decide) (by decide) dX4_wellOf_24 ?_
      (first
        | (exact ⟨cd, g0, fun z => by omega, fun _ => rfl⟩)
        | (have hcd : cd = 0 := by omega
           subst hcd
           exact ⟨0, g0, fun _ => ⟨su_nk (by decide), rfl⟩, fun z => absurd rfl z⟩))
  refine J_aload_0 C dX4_wellOf_0 ?_
  refine J_aload_0 C dX4_wellOf_1 ?_
  refine J_iload_1 C dX4_wellOf_2 ?_
  refine J_KVI C (c_X4_isVoucher hfl hI _ v hv9 hvm) (cwV 1 C.1.2.2.2.2 gX4_wellOf_X4_isVoucher rfl rfl rfl (by decide +kernel) ⟨Nat.le_of_ble_eq_true rfl, Nat.le_of_ble_eq_true rfl⟩) rc4 (by decide) rfl rfl (Nat.le_of_ble_eq_true rfl) dX4_wellOf_3 ⟨Nat.le_of_ble_eq_true rfl, Nat.le_of_ble_eq_true rfl⟩ (fun z_3 σ_3 hp => ?_)
  obtain ⟨hz_, hs_⟩ := hp
  have hz_ := hz_.symm
  have hs_ := hs_.symm
  subst hz_
  subst hs_
  refine J_iconst C dX4_wellOf_6 ?_
  refine J_iconst C dX4_wellOf_7 ?_
  refine J_KVI C (c_X4_goes hfl hI _ _ _ _ (by first | exact Or.inl rfl | exact Or.inr rfl | (split <;> omega) | omega) (by first | exact Or.inl rfl | exact Or.inr rfl | (split <;> omega) | omega) (by first | exact Or.inl rfl | exact Or.inr rfl | (split <;> omega) | omega)) (cwV 3 C.1.2.2.2.2 gX4_wellOf_X4_goes rfl rfl rfl (by decide +kernel) ⟨Nat.le_of_ble_eq_true rfl, Nat.le_of_ble_eq_true rfl⟩) rc4 (by decide) rfl rfl (Nat.le_of_ble_eq_true rfl) dX4_wellOf_8 ⟨Nat.le_of_ble_eq_true rfl, Nat.le_of_ble_eq_true rfl⟩ (fun z_8 σ_8 hp => ?_)
  obtain ⟨hz_, hs_⟩ := hp
  have hz_ := hz_.symm
  have hs_ := hs_.symm
  subst hz_
  subst hs_
  -- to the cut at 11
  refine K_11 _ _ ?_ ?_
  · simp only [gcd3]
    grind
  · split <;> omega
set_option maxRecDepth 20000 in
theorem in_X4_amountOf_X4 : ∀ w ∈ wsX40, w ∈ wsX4_amountOf := by decide +kernel
set_option maxRecDepth 20000 in
theorem fl_X4_amountOf_33 : Cond.fieldLink RX4 33 "JointVentureModel" "incomes" "[Z" ∈ wsX4_amountOf := by decide +kernel
set_option maxRecDepth 20000 in
theorem fl_X4_amountOf_30 : Cond.fieldLink RX4 30 "JointVentureModel" "amounts" "[I" ∈ wsX4_amountOf := by decide +kernel
set_option maxHeartbeats 4000000 in
set_option maxRecDepth 100000 in
theorem c_X4_amountOf {l : Launch} (hfl : l.stackTraces = false) {cy : Nat → ClassId} {D : va_G} {ad : Ad} (hI : Inj ad) (σ : Sg) (v : Int) (hv9 : I32 v) (hM : Mi σ) : KI l yX4_amountOf wsX4_amountOf ({ frames := 2, cells := 0, slots := 0, locals := 43 } : Room) cy D ad σ [.ref (ad 22 0), .int (iI v)] (fun z σ' => ∃ cd, ((cd = 0 ∧ (0 ≤ v ∧ v < σ 22 0 10)) ∨ (cd = 1 ∧ (¬ (0 ≤ v ∧ v < σ 22 0 10)))) ∧ (cd = 0 → z = vam σ v ∧ σ' = su σ 22 0 24 0) ∧ (¬ cd = 0 → σ' = su σ 22 0 24 cd)) 0 0 := by
  refine KI.of (lv0 := [some (.ref (ad 22 0)), some (.int (iI v))]) hfl hI (by decide) rfl (Nat.le_of_ble_eq_true rfl) rfl ?_
  intro p e s m args below meth c C hr
  have hvm := hM.1
  have K_11 : ∀ (g9 : Int) (cd : Int), ((cd = 0 ∧ (0 ≤ v ∧ v < σ 22 0 10)) ∨ (cd = 1 ∧ (¬ (0 ≤ v ∧ v < σ 22 0 10)))) → ((g9 = 1 ∧ cd = 0) ∨ (g9 = 0 ∧ ¬ cd = 0)) → JW p l e ({ frames := 2, cells := 0, slots := 0, locals := 43 } : Room) s m args below meth c cy D ad (Ar ad s.heap.size) 2 0 0 (MQ below (QcI cy D ad (fun z σ' => ∃ cd, ((cd = 0 ∧ (0 ≤ v ∧ v < σ 22 0 10)) ∨ (cd = 1 ∧ (¬ (0 ≤ v ∧ v < σ 22 0 10)))) ∧ (cd = 0 → z = vam σ v ∧ σ' = su σ 22 0 24 0) ∧ (¬ cd = 0 → σ' = su σ 22 0 24 cd)) s.heap.size) args s 0 0 (Ar ad s.heap.size)) (su σ 22 0 24 cd) 11 [some (.ref (ad 22 0)), some (.int (iI v))] [.int (iI g9)] := by
    intro g9 cd g0 g1
    refine J_if_eq (tgt := 42) C (by omega) dX4_amountOf_11 (by decide) (fun c_11 => ?_) (fun c_11 => ?_)
    · refine J_iconst C dX4_amountOf_42 ?_
      refine J_retI C hr (by decide) (by decide) dX4_amountOf_43 ?_
      first
        | (exact ⟨cd, g0, fun z => by omega, fun _ => rfl⟩)
        | (have hcd : cd = 0 := by omega
           subst hcd
           have c9 := c_20
           rw [su_nk (by decide)] at c9
           refine ⟨0, g0, fun _ => ⟨?_, rfl⟩, fun z => absurd rfl z⟩
           unfold vam
           rw [su_nk (by decide)]
           first | rw [if_pos c9] | rw [if_neg c9])
    · refine J_aload_0 C dX4_amountOf_14 ?_
      refine J_get_4_9 C in_X4_amountOf_X4 fl_X4_amountOf_33 (by decide) dX4_amountOf_15 ?_
      refine J_iload_1 C dX4_amountOf_18 ?_
      refine J_baload C k29 (by decide) (by omega) dX4_amountOf_19 ?_
      refine J_if_eq (tgt := 33) C (by rw [su_nk (by decide)]; have := (hM.2.1 v (by omega) (by omega)).2.2; omega) dX4_amountOf_20 (by decide) (fun c_20 => ?_) (fun c_20 => ?_)
      · refine J_aload_0 C dX4_amountOf_33 ?_
        refine J_get_4_8 C in_X4_amountOf_X4 fl_X4_amountOf_30 (by decide) dX4_amountOf_34 ?_
        refine J_iload_1 C dX4_amountOf_37 ?_
        refine J_iaload C k28 (by decide) (by omega) dX4_amountOf_38 ?_
        refine J_goto (tgt := 43) C dX4_amountOf_39 (by decide) ?_
        refine J_retI C hr (by decide) (by decide) dX4_amountOf_43 ?_
        first
          | (exact ⟨cd, g0, fun z => by omega, fun _ => rfl⟩)
          | (have hcd : cd = 0 := by omega
             subst hcd
             have c9 := c_20
             rw [su_nk (by decide)] at c9
             refine ⟨0, g0, fun _ => ⟨?_, rfl⟩, fun z => absurd rfl z⟩
             unfold vam
             rw [su_nk (by decide)]
             first | rw [if_pos c9] | rw [if_neg c9])
      · refine J_aload_0 C dX4_amountOf_23 ?_
        refine J_get_4_8 C in_X4_amountOf_X4 fl_X4_amountOf_30 (by decide) dX4_amountOf_24 ?_
        refine J_iload_1 C dX4_amountOf_27 ?_
        refine J_iaload C k28 (by decide) (by omega) dX4_amountOf_28 ?_
        refine J_ineg C dX4_amountOf_29 ?_
        refine J_goto (tgt := 43) C dX4_amountOf_30 (by decide) ?_
        refine J_retI C hr (by decide) (by decide) dX4_amountOf_43 ?_
        first
          | (exact ⟨cd, g0, fun z => by omega, fun _ => rfl⟩)
          | (have hcd : cd = 0 := by omega
             subst hcd
             have c9 := c_20
             rw [su_nk (by decide)] at c9
             refine ⟨0, g0, fun _ => ⟨?_, rfl⟩, fun z => absurd rfl z⟩
             unfold vam
             rw [su_nk (by decide)]
             first | rw [if_pos c9] | rw [if_neg c9])
  refine J_aload_0 C dX4_amountOf_0 ?_
  refine J_aload_0 C dX4_amountOf_1 ?_
  refine J_iload_1 C dX4_amountOf_2 ?_
  refine J_KVI C (c_X4_isVoucher hfl hI _ v hv9 hvm) (cwV 1 C.1.2.2.2.2 gX4_amountOf_X4_isVoucher rfl rfl rfl (by decide +kernel) ⟨Nat.le_of_ble_eq_true rfl, Nat.le_of_ble_eq_true rfl⟩) rc4 (by decide) rfl rfl (Nat.le_of_ble_eq_true rfl) dX4_amountOf_3 ⟨Nat.le_of_ble_eq_true rfl, Nat.le_of_ble_eq_true rfl⟩ (fun z_3 σ_3 hp => ?_)
  obtain ⟨hz_, hs_⟩ := hp
  have hz_ := hz_.symm
  have hs_ := hs_.symm
  subst hz_
  subst hs_
  refine J_iconst C dX4_amountOf_6 ?_
  refine J_iconst C dX4_amountOf_7 ?_
  refine J_KVI C (c_X4_goes hfl hI _ _ _ _ (by first | exact Or.inl rfl | exact Or.inr rfl | (split <;> omega) | omega) (by first | exact Or.inl rfl | exact Or.inr rfl | (split <;> omega) | omega) (by first | exact Or.inl rfl | exact Or.inr rfl | (split <;> omega) | omega)) (cwV 3 C.1.2.2.2.2 gX4_amountOf_X4_goes rfl rfl rfl (by decide +kernel) ⟨Nat.le_of_ble_eq_true rfl, Nat.le_of_ble_eq_true rfl⟩) rc4 (by decide) rfl rfl (Nat.le_of_ble_eq_true rfl) dX4_amountOf_8 ⟨Nat.le_of_ble_eq_true rfl, Nat.le_of_ble_eq_true rfl⟩ (fun z_8 σ_8 hp => ?_)
  obtain ⟨hz_, hs_⟩ := hp
  have hz_ := hz_.symm
  have hs_ := hs_.symm
  subst hz_
  subst hs_
  -- to the cut at 11
  refine K_11 _ _ ?_ ?_
  · simp only [gcd3]
    grind
  · split <;> omega
set_option maxHeartbeats 4000000 in
set_option maxRecDepth 100000 in
theorem c_X4_accounts {l : Launch} (hfl : l.stackTraces = false) {cy : Nat → ClassId} {D : va_G} {ad : Ad} (hI : Inj ad) (σ : Sg) (w q : Int) (hw9 : I32 w) (hq9 : I32 q) (hM : Mi σ) : KI l yX4_accounts wsX4_accounts ({ frames := 4, cells := 0, slots := 0, locals := 101 } : Room) cy D ad σ [.ref (ad 22 0), .int (iI w), .int (iI q)] (fun z σ' => ∃ cd, ((cd = 0 ∧ ((0 ≤ w ∧ w < σ 22 0 6) ∧ (0 ≤ q ∧ q < 5))) ∨ (cd = 1 ∧ (¬ ((0 ≤ w ∧ w < σ 22 0 6) ∧ (0 ≤ q ∧ q < 5))))) ∧ z = (if cd = 0 then 1 else 0) ∧ (cd = 0 → (∀ (a : Nat) (b c : Int), a < 33 ∨ 41 < a → σ' a b c = su σ 22 0 24 0 a b c) ∧ (∀ q, 0 ≤ q → q < 5 → (σ' 33 0 q = 0 ∨ σ' 33 0 q = 1) ∧ (¬ 0 < σ 23 0 q → σ' 33 0 q = 0)) ∧ mT σ' = FM σ w) ∧ (¬ cd = 0 → σ' = su σ 22 0 24 cd)) 0 0 := by
  refine KI.of (lv0 := [some (.ref (ad 22 0)), some (.int (iI w)), some (.int (iI q)), none]) hfl hI (by decide) rfl (Nat.le_of_ble_eq_true rfl) rfl ?_
  intro p e s m args below meth c C hr
  have hwm := hM.2.2.2.2.2.1
  have K_26 : ∀ (g9 : Int) (cd : Int), ((cd = 0 ∧ ((0 ≤ w ∧ w < σ 22 0 6) ∧ (0 ≤ q ∧ q < 5))) ∨ (cd = 1 ∧ (¬ ((0 ≤ w ∧ w < σ 22 0 6) ∧ (0 ≤ q ∧ q < 5))))) → ((g9 = 1 ∧ cd = 0) ∨ (g9 = 0 ∧ ¬ cd = 0)) → JW p l e ({ frames := 4, cells := 0, slots := 0, locals := 101 } : Room) s m args below meth c cy D ad (Ar ad s.heap.size) 4 0 0 (MQ below (QcI cy D ad (fun z σ' => ∃ cd, ((cd = 0 ∧ ((0 ≤ w ∧ w < σ 22 0 6) ∧ (0 ≤ q ∧ q < 5))) ∨ (cd = 1 ∧ (¬ ((0 ≤ w ∧ w < σ 22 0 6) ∧ (0 ≤ q ∧ q < 5))))) ∧ z = (if cd = 0 then 1 else 0) ∧ (cd = 0 → (∀ (a : Nat) (b c : Int), a < 33 ∨ 41 < a → σ' a b c = su σ 22 0 24 0 a b c) ∧ (∀ q, 0 ≤ q → q < 5 → (σ' 33 0 q = 0 ∨ σ' 33 0 q = 1) ∧ (¬ 0 < σ 23 0 q → σ' 33 0 q = 0)) ∧ mT σ' = FM σ w) ∧ (¬ cd = 0 → σ' = su σ 22 0 24 cd)) s.heap.size) args s 0 0 (Ar ad s.heap.size)) (su σ 22 0 24 cd) 26 [some (.ref (ad 22 0)), some (.int (iI w)), some (.int (iI q)), none] [.int (iI g9)] := by
    intro g9 cd g0 g1
    refine J_istore_3 C (by decide) rfl dX4_accounts_26 ?_
    refine J_iload_3 C dX4_accounts_27 ?_
    refine J_if_eq (tgt := 36) C (by omega) dX4_accounts_28 (by decide) (fun c_28 => ?_) (fun c_28 => ?_)
    · refine J_iload_3 C dX4_accounts_36 ?_
      refine J_retZ C hr (by omega) (by decide) (by decide) dX4_accounts_37 ?_
      first
        | (exact ⟨cd, g0, by rw [if_neg (by omega)]; omega, fun z => by omega, fun _ => rfl⟩)
        | (have hcd : cd = 0 := by omega
           subst hcd
           exact ⟨0, g0, by rw [if_pos rfl]; omega, fun _ => ⟨F9, I9, E9⟩, fun z => absurd rfl z⟩)
    · refine J_aload_0 C dX4_accounts_31 ?_
      refine J_iload_1 C dX4_accounts_32 ?_
      refine J_KVV C (c_X4_worksM hfl hI _ w (by omega) (mi_q (mq_last σ cd) hM)) (cwV 1 C.1.2.2.2.2 gX4_accounts_X4_works rfl rfl rfl (by decide +kernel) ⟨Nat.le_of_ble_eq_true rfl, Nat.le_of_ble_eq_true rfl⟩) rc4 (by decide) rfl rfl (Nat.le_of_ble_eq_true rfl) dX4_accounts_33 ⟨Nat.le_of_ble_eq_true rfl, Nat.le_of_ble_eq_true rfl⟩ (fun σ_33 hp => ?_)
      obtain ⟨F9, I9, E9⟩ := hp
      rw [mq_FM (mq_last σ cd) w] at E9
      have I9 : ∀ q, 0 ≤ q → q < 5 → (σ_33 33 0 q = 0 ∨ σ_33 33 0 q = 1) ∧ (¬ 0 < σ 23 0 q → σ_33 33 0 q = 0) := fun q a b => by have := I9 q a b; rw [su_nk (by decide)] at this; exact this
      refine J_iload_3 C dX4_accounts_36 ?_
      refine J_retZ C hr (by omega) (by decide) (by decide) dX4_accounts_37 ?_
      first
        | (exact ⟨cd, g0, by rw [if_neg (by omega)]; omega, fun z => by omega, fun _ => rfl⟩)
        | (have hcd : cd = 0 := by omega
           subst hcd
           exact ⟨0, g0, by rw [if_pos rfl]; omega, fun _ => ⟨F9, I9, E9⟩, fun z => absurd rfl z⟩)
  have K_21 : ∀ (kn : Int), ((kn = 1 ∧ ((0 ≤ w ∧ w < σ 22 0 6) ∧ (0 ≤ q ∧ q < 5))) ∨ (kn = 0 ∧ ¬ ((0 ≤ w ∧ w < σ 22 0 6) ∧ (0 ≤ q ∧ q < 5)))) → JW p l e ({ frames := 4, cells := 0, slots := 0, locals := 101 } : Room) s m args below meth c cy D ad (Ar ad s.heap.size) 4 0 0 (MQ below (QcI cy D ad (fun z σ' => ∃ cd, ((cd = 0 ∧ ((0 ≤ w ∧ w < σ 22 0 6) ∧ (0 ≤ q ∧ q < 5))) ∨ (cd = 1 ∧ (¬ ((0 ≤ w ∧ w < σ 22 0 6) ∧ (0 ≤ q ∧ q < 5))))) ∧ z = (if cd = 0 then 1 else 0) ∧ (cd = 0 → (∀ (a : Nat) (b c : Int), a < 33 ∨ 41 < a → σ' a b c = su σ 22 0 24 0 a b c) ∧ (∀ q, 0 ≤ q → q < 5 → (σ' 33 0 q = 0 ∨ σ' 33 0 q = 1) ∧ (¬ 0 < σ 23 0 q → σ' 33 0 q = 0)) ∧ mT σ' = FM σ w) ∧ (¬ cd = 0 → σ' = su σ 22 0 24 cd)) s.heap.size) args s 0 0 (Ar ad s.heap.size)) σ 21 [some (.ref (ad 22 0)), some (.int (iI w)), some (.int (iI q)), none] [.int (iI kn), .ref (ad 22 0)] := by
    intro kn u0
    refine J_iconst C dX4_accounts_21 ?_
    refine J_iconst C dX4_accounts_22 ?_
    refine J_KVI C (c_X4_goes hfl hI _ _ _ _ (by first | exact Or.inl rfl | exact Or.inr rfl | (split <;> omega) | omega) (by first | exact Or.inl rfl | exact Or.inr rfl | (split <;> omega) | omega) (by first | exact Or.inl rfl | exact Or.inr rfl | (split <;> omega) | omega)) (cwV 3 C.1.2.2.2.2 gX4_accounts_X4_goes rfl rfl rfl (by decide +kernel) ⟨Nat.le_of_ble_eq_true rfl, Nat.le_of_ble_eq_true rfl⟩) rc4 (by decide) rfl rfl (Nat.le_of_ble_eq_true rfl) dX4_accounts_23 ⟨Nat.le_of_ble_eq_true rfl, Nat.le_of_ble_eq_true rfl⟩ (fun z_23 σ_23 hp => ?_)
    obtain ⟨hz_, hs_⟩ := hp
    have hz_ := hz_.symm
    have hs_ := hs_.symm
    subst hz_
    subst hs_
    -- to the cut at 26
    refine K_26 _ _ ?_ ?_
    · simp only [gcd3]
      grind
    · split <;> omega
  refine J_aload_0 C dX4_accounts_0 ?_
  refine J_aload_0 C dX4_accounts_1 ?_
  refine J_iload_1 C dX4_accounts_2 ?_
  refine J_KVI C (c_X4_isWell hfl hI _ w hw9 hwm) (cwV 1 C.1.2.2.2.2 gX4_accounts_X4_isWell rfl rfl rfl (by decide +kernel) ⟨Nat.le_of_ble_eq_true rfl, Nat.le_of_ble_eq_true rfl⟩) rc4 (by decide) rfl rfl (Nat.le_of_ble_eq_true rfl) dX4_accounts_3 ⟨Nat.le_of_ble_eq_true rfl, Nat.le_of_ble_eq_true rfl⟩ (fun z_3 σ_3 hp => ?_)
  obtain ⟨hz_, hs_⟩ := hp
  have hz_ := hz_.symm
  have hs_ := hs_.symm
  subst hz_
  subst hs_
  refine J_if_eq (tgt := 20) C (by split <;> omega) dX4_accounts_6 (by decide) (fun c_6 => ?_) (fun c_6 => ?_)
  · refine J_iconst C dX4_accounts_20 ?_
    -- to the cut at 21
    refine K_21 _ ?_
    · omega
  · refine J_iload_2 C dX4_accounts_9 ?_
    refine J_KSI C (c_X4_isPartner hfl hI _ q hq9) (va_cwS 1 C.1.2.2.2.2 gX4_accounts_X4_isPartner rfl rfl rfl (by decide +kernel) ⟨Nat.le_of_ble_eq_true rfl, Nat.le_of_ble_eq_true rfl⟩) rfl rfl (Nat.le_of_ble_eq_true rfl) dX4_accounts_10 ⟨Nat.le_of_ble_eq_true rfl, Nat.le_of_ble_eq_true rfl⟩ (fun z_10 σ_10 hp => ?_)
    obtain ⟨hz_, hs_⟩ := hp
    have hz_ := hz_.symm
    have hs_ := hs_.symm
    subst hz_
    subst hs_
    refine J_if_eq (tgt := 20) C (by split <;> omega) dX4_accounts_13 (by decide) (fun c_13 => ?_) (fun c_13 => ?_)
    · refine J_iconst C dX4_accounts_20 ?_
      -- to the cut at 21
      refine K_21 _ ?_
      · omega
    · refine J_iconst C dX4_accounts_16 ?_
      refine J_goto (tgt := 21) C dX4_accounts_17 (by decide) ?_
      -- to the cut at 21
      refine K_21 _ ?_
      · omega
set_option maxRecDepth 20000 in
theorem in_X4_toEarn_X4 : ∀ w ∈ wsX40, w ∈ wsX4_toEarn := by decide +kernel
set_option maxRecDepth 20000 in
theorem fl_X4_toEarn_48 : Cond.fieldLink RX4 48 "JointVentureModel" "earns" "[J" ∈ wsX4_toEarn := by decide +kernel
set_option maxHeartbeats 4000000 in
set_option maxRecDepth 100000 in
theorem c_X4_toEarn {l : Launch} (hfl : l.stackTraces = false) {cy : Nat → ClassId} {D : va_G} {ad : Ad} (hI : Inj ad) (σ : Sg) (w q : Int) (hw9 : I32 w) (hq9 : I32 q) (hM : Mi σ) : KL l yX4_toEarn wsX4_toEarn ({ frames := 5, cells := 0, slots := 0, locals := 124 } : Room) cy D ad σ [.ref (ad 22 0), .int (iI w), .int (iI q)] (fun z σ' => ∃ cd, ((cd = 0 ∧ ((0 ≤ w ∧ w < σ 22 0 6) ∧ (0 ≤ q ∧ q < 5))) ∨ (cd = 1 ∧ (¬ ((0 ≤ w ∧ w < σ 22 0 6) ∧ (0 ≤ q ∧ q < 5))))) ∧ (cd = 0 → (z = FM σ w 15 q) ∧ ((∀ (a : Nat) (b c : Int), a < 33 ∨ 41 < a → σ' a b c = su σ 22 0 24 0 a b c) ∧ (∀ q, 0 ≤ q → q < 5 → (σ' 33 0 q = 0 ∨ σ' 33 0 q = 1) ∧ (¬ 0 < σ 23 0 q → σ' 33 0 q = 0)) ∧ mT σ' = FM σ w)) ∧ (¬ cd = 0 → σ' = su σ 22 0 24 cd)) 0 0 := by
  refine KL.of (lv0 := [some (.ref (ad 22 0)), some (.int (iI w)), some (.int (iI q))]) hfl hI (by decide) rfl (Nat.le_of_ble_eq_true rfl) rfl ?_
  intro p e s m args below meth c C hr
  refine J_aload_0 C dX4_toEarn_0 ?_
  refine J_iload_1 C dX4_toEarn_1 ?_
  refine J_iload_2 C dX4_toEarn_2 ?_
  refine J_KVI C (c_X4_accounts hfl hI _ w q hw9 hq9 hM) (cwV 2 C.1.2.2.2.2 gX4_toEarn_X4_accounts rfl rfl rfl (by decide +kernel) ⟨Nat.le_of_ble_eq_true rfl, Nat.le_of_ble_eq_true rfl⟩) rc4 (by decide) rfl rfl (Nat.le_of_ble_eq_true rfl) dX4_toEarn_3 ⟨Nat.le_of_ble_eq_true rfl, Nat.le_of_ble_eq_true rfl⟩ (fun z_3 σ_3 hp => ?_)
  obtain ⟨cd, g0, hz_, g1, g2⟩ := hp
  have hz_ := hz_.symm
  subst hz_
  refine J_if_eq (tgt := 18) C (by split <;> omega) dX4_toEarn_6 (by decide) (fun c_6 => ?_) (fun c_6 => ?_)
  · refine J_lconst (z := 0) C (by decide) dX4_toEarn_18 ?_
    refine J_retL C hr (by decide) (by decide) dX4_toEarn_19 ?_
    first
      | (have hcd : ¬ cd = 0 := fun z => by
           have c9 := c_6
           rw [if_pos z] at c9
           exact absurd c9 (by decide)
         exact ⟨cd, g0, fun z => absurd z hcd, g2⟩)
      | (subst hcd
         exact ⟨0, g0, fun _ => ⟨by rw [← E9]; exact (mT_c (by decide) (by decide) hwq.2.1 hwq.2.2).symm, gg⟩, fun z => absurd rfl z⟩)
  · have hcd : cd = 0 := by
      apply Classical.byContradiction
      intro z
      have c9 := c_6
      rw [if_neg z] at c9
      exact c9 rfl
    have gg := g1 hcd
    obtain ⟨F9, I9, E9⟩ := id gg
    have hwq : (0 ≤ w ∧ w < σ 22 0 6) ∧ (0 ≤ q ∧ q < 5) := by omega
    refine J_aload_0 C dX4_toEarn_9 ?_
    refine J_get_4_16 C in_X4_toEarn_X4 fl_X4_toEarn_48 (by decide) dX4_toEarn_10 ?_
    refine J_iload_2 C dX4_toEarn_13 ?_
    refine J_laload C k34 (by decide) (by omega) dX4_toEarn_14 ?_
    refine J_goto (tgt := 19) C dX4_toEarn_15 (by decide) ?_
    refine J_retL C hr (by decide) (by decide) dX4_toEarn_19 ?_
    first
      | (have hcd : ¬ cd = 0 := fun z => by
           have c9 := c_6
           rw [if_pos z] at c9
           exact absurd c9 (by decide)
         exact ⟨cd, g0, fun z => absurd z hcd, g2⟩)
      | (subst hcd
         exact ⟨0, g0, fun _ => ⟨by rw [← E9]; exact (mT_c (by decide) (by decide) hwq.2.1 hwq.2.2).symm, gg⟩, fun z => absurd rfl z⟩)
set_option maxRecDepth 20000 in
theorem in_X4_backAt_X4 : ∀ w ∈ wsX40, w ∈ wsX4_backAt := by decide +kernel
set_option maxRecDepth 20000 in
theorem fl_X4_backAt_52 : Cond.fieldLink RX4 52 "JointVentureModel" "backs" "[I" ∈ wsX4_backAt := by decide +kernel
set_option maxHeartbeats 4000000 in
set_option maxRecDepth 100000 in
theorem c_X4_backAt {l : Launch} (hfl : l.stackTraces = false) {cy : Nat → ClassId} {D : va_G} {ad : Ad} (hI : Inj ad) (σ : Sg) (w q : Int) (hw9 : I32 w) (hq9 : I32 q) (hM : Mi σ) : KI l yX4_backAt wsX4_backAt ({ frames := 5, cells := 0, slots := 0, locals := 124 } : Room) cy D ad σ [.ref (ad 22 0), .int (iI w), .int (iI q)] (fun z σ' => ∃ cd, ((cd = 0 ∧ ((0 ≤ w ∧ w < σ 22 0 6) ∧ (0 ≤ q ∧ q < 5))) ∨ (cd = 1 ∧ (¬ ((0 ≤ w ∧ w < σ 22 0 6) ∧ (0 ≤ q ∧ q < 5))))) ∧ (cd = 0 → (z = FM σ w 16 q) ∧ ((∀ (a : Nat) (b c : Int), a < 33 ∨ 41 < a → σ' a b c = su σ 22 0 24 0 a b c) ∧ (∀ q, 0 ≤ q → q < 5 → (σ' 33 0 q = 0 ∨ σ' 33 0 q = 1) ∧ (¬ 0 < σ 23 0 q → σ' 33 0 q = 0)) ∧ mT σ' = FM σ w)) ∧ (¬ cd = 0 → σ' = su σ 22 0 24 cd)) 0 0 := by
  refine KI.of (lv0 := [some (.ref (ad 22 0)), some (.int (iI w)), some (.int (iI q))]) hfl hI (by decide) rfl (Nat.le_of_ble_eq_true rfl) rfl ?_
  intro p e s m args below meth c C hr
  refine J_aload_0 C dX4_backAt_0 ?_
  refine J_iload_1 C dX4_backAt_1 ?_
  refine J_iload_2 C dX4_backAt_2 ?_
  refine J_KVI C (c_X4_accounts hfl hI _ w q hw9 hq9 hM) (cwV 2 C.1.2.2.2.2 gX4_backAt_X4_accounts rfl rfl rfl (by decide +kernel) ⟨Nat.le_of_ble_eq_true rfl, Nat.le_of_ble_eq_true rfl⟩) rc4 (by decide) rfl rfl (Nat.le_of_ble_eq_true rfl) dX4_backAt_3 ⟨Nat.le_of_ble_eq_true rfl, Nat.le_of_ble_eq_true rfl⟩ (fun z_3 σ_3 hp => ?_)
  obtain ⟨cd, g0, hz_, g1, g2⟩ := hp
  have hz_ := hz_.symm
  subst hz_
  refine J_if_eq (tgt := 18) C (by split <;> omega) dX4_backAt_6 (by decide) (fun c_6 => ?_) (fun c_6 => ?_)
  · refine J_iconst C dX4_backAt_18 ?_
    refine J_retI C hr (by decide) (by decide) dX4_backAt_19 ?_
    first
      | (have hcd : ¬ cd = 0 := fun z => by
           have c9 := c_6
           rw [if_pos z] at c9
           exact absurd c9 (by decide)
         exact ⟨cd, g0, fun z => absurd z hcd, g2⟩)
      | (subst hcd
         exact ⟨0, g0, fun _ => ⟨by rw [← E9]; exact (mT_c (by decide) (by decide) hwq.2.1 hwq.2.2).symm, gg⟩, fun z => absurd rfl z⟩)
  · have hcd : cd = 0 := by
      apply Classical.byContradiction
      intro z
      have c9 := c_6
      rw [if_neg z] at c9
      exact c9 rfl
    have gg := g1 hcd
    obtain ⟨F9, I9, E9⟩ := id gg
    have hwq : (0 ≤ w ∧ w < σ 22 0 6) ∧ (0 ≤ q ∧ q < 5) := by omega
    refine J_aload_0 C dX4_backAt_9 ?_
    refine J_get_4_17 C in_X4_backAt_X4 fl_X4_backAt_52 (by decide) dX4_backAt_10 ?_
    refine J_iload_2 C dX4_backAt_13 ?_
    refine J_iaload C k35 (by decide) (by omega) dX4_backAt_14 ?_
    refine J_goto (tgt := 19) C dX4_backAt_15 (by decide) ?_
    refine J_retI C hr (by decide) (by decide) dX4_backAt_19 ?_
    first
      | (have hcd : ¬ cd = 0 := fun z => by
           have c9 := c_6
           rw [if_pos z] at c9
           exact absurd c9 (by decide)
         exact ⟨cd, g0, fun z => absurd z hcd, g2⟩)
      | (subst hcd
         exact ⟨0, g0, fun _ => ⟨by rw [← E9]; exact (mT_c (by decide) (by decide) hwq.2.1 hwq.2.2).symm, gg⟩, fun z => absurd rfl z⟩)
set_option maxRecDepth 20000 in
theorem in_X4_charged_X4 : ∀ w ∈ wsX40, w ∈ wsX4_charged := by decide +kernel
set_option maxRecDepth 20000 in
theorem fl_X4_charged_55 : Cond.fieldLink RX4 55 "JointVentureModel" "charges" "[I" ∈ wsX4_charged := by decide +kernel
set_option maxHeartbeats 4000000 in
set_option maxRecDepth 100000 in
theorem c_X4_charged {l : Launch} (hfl : l.stackTraces = false) {cy : Nat → ClassId} {D : va_G} {ad : Ad} (hI : Inj ad) (σ : Sg) (w q : Int) (hw9 : I32 w) (hq9 : I32 q) (hM : Mi σ) : KI l yX4_charged wsX4_charged ({ frames := 5, cells := 0, slots := 0, locals := 124 } : Room) cy D ad σ [.ref (ad 22 0), .int (iI w), .int (iI q)] (fun z σ' => ∃ cd, ((cd = 0 ∧ ((0 ≤ w ∧ w < σ 22 0 6) ∧ (0 ≤ q ∧ q < 5))) ∨ (cd = 1 ∧ (¬ ((0 ≤ w ∧ w < σ 22 0 6) ∧ (0 ≤ q ∧ q < 5))))) ∧ (cd = 0 → (z = FM σ w 17 q) ∧ ((∀ (a : Nat) (b c : Int), a < 33 ∨ 41 < a → σ' a b c = su σ 22 0 24 0 a b c) ∧ (∀ q, 0 ≤ q → q < 5 → (σ' 33 0 q = 0 ∨ σ' 33 0 q = 1) ∧ (¬ 0 < σ 23 0 q → σ' 33 0 q = 0)) ∧ mT σ' = FM σ w)) ∧ (¬ cd = 0 → σ' = su σ 22 0 24 cd)) 0 0 := by
  refine KI.of (lv0 := [some (.ref (ad 22 0)), some (.int (iI w)), some (.int (iI q))]) hfl hI (by decide) rfl (Nat.le_of_ble_eq_true rfl) rfl ?_
  intro p e s m args below meth c C hr
  refine J_aload_0 C dX4_charged_0 ?_
  refine J_iload_1 C dX4_charged_1 ?_
  refine J_iload_2 C dX4_charged_2 ?_
  refine J_KVI C (c_X4_accounts hfl hI _ w q hw9 hq9 hM) (cwV 2 C.1.2.2.2.2 gX4_charged_X4_accounts rfl rfl rfl (by decide +kernel) ⟨Nat.le_of_ble_eq_true rfl, Nat.le_of_ble_eq_true rfl⟩) rc4 (by decide) rfl rfl (Nat.le_of_ble_eq_true rfl) dX4_charged_3 ⟨Nat.le_of_ble_eq_true rfl, Nat.le_of_ble_eq_true rfl⟩ (fun z_3 σ_3 hp => ?_)
  obtain ⟨cd, g0, hz_, g1, g2⟩ := hp
  have hz_ := hz_.symm
  subst hz_
  refine J_if_eq (tgt := 18) C (by split <;> omega) dX4_charged_6 (by decide) (fun c_6 => ?_) (fun c_6 => ?_)
  · refine J_iconst C dX4_charged_18 ?_
    refine J_retI C hr (by decide) (by decide) dX4_charged_19 ?_
    first
      | (have hcd : ¬ cd = 0 := fun z => by
           have c9 := c_6
           rw [if_pos z] at c9
           exact absurd c9 (by decide)
         exact ⟨cd, g0, fun z => absurd z hcd, g2⟩)
      | (subst hcd
         exact ⟨0, g0, fun _ => ⟨by rw [← E9]; exact (mT_c (by decide) (by decide) hwq.2.1 hwq.2.2).symm, gg⟩, fun z => absurd rfl z⟩)
  · have hcd : cd = 0 := by
      apply Classical.byContradiction
      intro z
      have c9 := c_6
      rw [if_neg z] at c9
      exact c9 rfl
    have gg := g1 hcd
    obtain ⟨F9, I9, E9⟩ := id gg
    have hwq : (0 ≤ w ∧ w < σ 22 0 6) ∧ (0 ≤ q ∧ q < 5) := by omega
    refine J_aload_0 C dX4_charged_9 ?_
    refine J_get_4_18 C in_X4_charged_X4 fl_X4_charged_55 (by decide) dX4_charged_10 ?_
    refine J_iload_2 C dX4_charged_13 ?_
    refine J_iaload C k36 (by decide) (by omega) dX4_charged_14 ?_
    refine J_goto (tgt := 19) C dX4_charged_15 (by decide) ?_
    refine J_retI C hr (by decide) (by decide) dX4_charged_19 ?_
    first
      | (have hcd : ¬ cd = 0 := fun z => by
           have c9 := c_6
           rw [if_pos z] at c9
           exact absurd c9 (by decide)
         exact ⟨cd, g0, fun z => absurd z hcd, g2⟩)
      | (subst hcd
         exact ⟨0, g0, fun _ => ⟨by rw [← E9]; exact (mT_c (by decide) (by decide) hwq.2.1 hwq.2.2).symm, gg⟩, fun z => absurd rfl z⟩)
set_option maxRecDepth 20000 in
theorem in_X4_credited_X4 : ∀ w ∈ wsX40, w ∈ wsX4_credited := by decide +kernel
set_option maxRecDepth 20000 in
theorem fl_X4_credited_58 : Cond.fieldLink RX4 58 "JointVentureModel" "credits" "[I" ∈ wsX4_credited := by decide +kernel
set_option maxHeartbeats 4000000 in
set_option maxRecDepth 100000 in
theorem c_X4_credited {l : Launch} (hfl : l.stackTraces = false) {cy : Nat → ClassId} {D : va_G} {ad : Ad} (hI : Inj ad) (σ : Sg) (w q : Int) (hw9 : I32 w) (hq9 : I32 q) (hM : Mi σ) : KI l yX4_credited wsX4_credited ({ frames := 5, cells := 0, slots := 0, locals := 124 } : Room) cy D ad σ [.ref (ad 22 0), .int (iI w), .int (iI q)] (fun z σ' => ∃ cd, ((cd = 0 ∧ ((0 ≤ w ∧ w < σ 22 0 6) ∧ (0 ≤ q ∧ q < 5))) ∨ (cd = 1 ∧ (¬ ((0 ≤ w ∧ w < σ 22 0 6) ∧ (0 ≤ q ∧ q < 5))))) ∧ (cd = 0 → (z = FM σ w 18 q) ∧ ((∀ (a : Nat) (b c : Int), a < 33 ∨ 41 < a → σ' a b c = su σ 22 0 24 0 a b c) ∧ (∀ q, 0 ≤ q → q < 5 → (σ' 33 0 q = 0 ∨ σ' 33 0 q = 1) ∧ (¬ 0 < σ 23 0 q → σ' 33 0 q = 0)) ∧ mT σ' = FM σ w)) ∧ (¬ cd = 0 → σ' = su σ 22 0 24 cd)) 0 0 := by
  refine KI.of (lv0 := [some (.ref (ad 22 0)), some (.int (iI w)), some (.int (iI q))]) hfl hI (by decide) rfl (Nat.le_of_ble_eq_true rfl) rfl ?_
  intro p e s m args below meth c C hr
  refine J_aload_0 C dX4_credited_0 ?_
  refine J_iload_1 C dX4_credited_1 ?_
  refine J_iload_2 C dX4_credited_2 ?_
  refine J_KVI C (c_X4_accounts hfl hI _ w q hw9 hq9 hM) (cwV 2 C.1.2.2.2.2 gX4_credited_X4_accounts rfl rfl rfl (by decide +kernel) ⟨Nat.le_of_ble_eq_true rfl, Nat.le_of_ble_eq_true rfl⟩) rc4 (by decide) rfl rfl (Nat.le_of_ble_eq_true rfl) dX4_credited_3 ⟨Nat.le_of_ble_eq_true rfl, Nat.le_of_ble_eq_true rfl⟩ (fun z_3 σ_3 hp => ?_)
  obtain ⟨cd, g0, hz_, g1, g2⟩ := hp
  have hz_ := hz_.symm
  subst hz_
  refine J_if_eq (tgt := 18) C (by split <;> omega) dX4_credited_6 (by decide) (fun c_6 => ?_) (fun c_6 => ?_)
  · refine J_iconst C dX4_credited_18 ?_
    refine J_retI C hr (by decide) (by decide) dX4_credited_19 ?_
    first
      | (have hcd : ¬ cd = 0 := fun z => by
           have c9 := c_6
           rw [if_pos z] at c9
           exact absurd c9 (by decide)
         exact ⟨cd, g0, fun z => absurd z hcd, g2⟩)
      | (subst hcd
         exact ⟨0, g0, fun _ => ⟨by rw [← E9]; exact (mT_c (by decide) (by decide) hwq.2.1 hwq.2.2).symm, gg⟩, fun z => absurd rfl z⟩)
  · have hcd : cd = 0 := by
      apply Classical.byContradiction
      intro z
      have c9 := c_6
      rw [if_neg z] at c9
      exact c9 rfl
    have gg := g1 hcd
    obtain ⟨F9, I9, E9⟩ := id gg
    have hwq : (0 ≤ w ∧ w < σ 22 0 6) ∧ (0 ≤ q ∧ q < 5) := by omega
    refine J_aload_0 C dX4_credited_9 ?_
    refine J_get_4_19 C in_X4_credited_X4 fl_X4_credited_58 (by decide) dX4_credited_10 ?_
    refine J_iload_2 C dX4_credited_13 ?_
    refine J_iaload C k37 (by decide) (by omega) dX4_credited_14 ?_
    refine J_goto (tgt := 19) C dX4_credited_15 (by decide) ?_
    refine J_retI C hr (by decide) (by decide) dX4_credited_19 ?_
    first
      | (have hcd : ¬ cd = 0 := fun z => by
           have c9 := c_6
           rw [if_pos z] at c9
           exact absurd c9 (by decide)
         exact ⟨cd, g0, fun z => absurd z hcd, g2⟩)
      | (subst hcd
         exact ⟨0, g0, fun _ => ⟨by rw [← E9]; exact (mT_c (by decide) (by decide) hwq.2.1 hwq.2.2).symm, gg⟩, fun z => absurd rfl z⟩)
set_option maxRecDepth 20000 in
theorem in_X4_isIn_X4 : ∀ w ∈ wsX40, w ∈ wsX4_isIn := by decide +kernel
set_option maxRecDepth 20000 in
theorem fl_X4_isIn_45 : Cond.fieldLink RX4 45 "JointVentureModel" "in" "[Z" ∈ wsX4_isIn := by decide +kernel
set_option maxHeartbeats 4000000 in
set_option maxRecDepth 100000 in
theorem c_X4_isIn {l : Launch} (hfl : l.stackTraces = false) {cy : Nat → ClassId} {D : va_G} {ad : Ad} (hI : Inj ad) (σ : Sg) (w q : Int) (hw9 : I32 w) (hq9 : I32 q) (hM : Mi σ) : KI l yX4_isIn wsX4_isIn ({ frames := 5, cells := 0, slots := 0, locals := 124 } : Room) cy D ad σ [.ref (ad 22 0), .int (iI w), .int (iI q)] (fun z σ' => ∃ cd, ((cd = 0 ∧ ((0 ≤ w ∧ w < σ 22 0 6) ∧ (0 ≤ q ∧ q < 5))) ∨ (cd = 1 ∧ (¬ ((0 ≤ w ∧ w < σ 22 0 6) ∧ (0 ≤ q ∧ q < 5))))) ∧ (cd = 0 → (z = if FM σ w 14 q = 0 ∧ 0 < σ 23 0 q then 1 else 0) ∧ ((∀ (a : Nat) (b c : Int), a < 33 ∨ 41 < a → σ' a b c = su σ 22 0 24 0 a b c) ∧ (∀ q, 0 ≤ q → q < 5 → (σ' 33 0 q = 0 ∨ σ' 33 0 q = 1) ∧ (¬ 0 < σ 23 0 q → σ' 33 0 q = 0)) ∧ mT σ' = FM σ w)) ∧ (¬ cd = 0 → σ' = su σ 22 0 24 cd)) 0 0 := by
  refine KI.of (lv0 := [some (.ref (ad 22 0)), some (.int (iI w)), some (.int (iI q))]) hfl hI (by decide) rfl (Nat.le_of_ble_eq_true rfl) rfl ?_
  intro p e s m args below meth c C hr
  refine J_aload_0 C dX4_isIn_0 ?_
  refine J_iload_1 C dX4_isIn_1 ?_
  refine J_iload_2 C dX4_isIn_2 ?_
  refine J_KVI C (c_X4_accounts hfl hI _ w q hw9 hq9 hM) (cwV 2 C.1.2.2.2.2 gX4_isIn_X4_accounts rfl rfl rfl (by decide +kernel) ⟨Nat.le_of_ble_eq_true rfl, Nat.le_of_ble_eq_true rfl⟩) rc4 (by decide) rfl rfl (Nat.le_of_ble_eq_true rfl) dX4_isIn_3 ⟨Nat.le_of_ble_eq_true rfl, Nat.le_of_ble_eq_true rfl⟩ (fun z_3 σ_3 hp => ?_)
  obtain ⟨cd, g0, hz_, g1, g2⟩ := hp
  have hz_ := hz_.symm
  subst hz_
  refine J_if_eq (tgt := 22) C (by split <;> omega) dX4_isIn_6 (by decide) (fun c_6 => ?_) (fun c_6 => ?_)
  · refine J_iconst C dX4_isIn_22 ?_
    refine J_retZ C hr (by first | exact Or.inl rfl | exact Or.inr rfl) (by decide) (by decide) dX4_isIn_23 ?_
    first
      | (have hcd : ¬ cd = 0 := fun z => by
           have c9 := c_6
           rw [if_pos z] at c9
           exact absurd c9 (by decide)
         exact ⟨cd, g0, fun z => absurd z hcd, g2⟩)
      | (subst hcd
         exact ⟨0, g0, fun _ => ⟨by
           have i9 := I9 q hwq.2.1 hwq.2.2
           have c9 := c_15
           have e23 : σ_3 23 0 q = σ 23 0 q := by rw [F9 23 0 q (by decide), su_nk (by decide)]
           rw [← E9, mT_14 hwq.2.1 hwq.2.2, e23]
           clear F9 I9 E9 g1 g2 g0 gg
           grind, gg⟩, fun z => absurd rfl z⟩)
  · have hcd : cd = 0 := by
      apply Classical.byContradiction
      intro z
      have c9 := c_6
      rw [if_neg z] at c9
      exact c9 rfl
    have gg := g1 hcd
    obtain ⟨F9, I9, E9⟩ := id gg
    have hwq : (0 ≤ w ∧ w < σ 22 0 6) ∧ (0 ≤ q ∧ q < 5) := by omega
    refine J_aload_0 C dX4_isIn_9 ?_
    refine J_get_4_15 C in_X4_isIn_X4 fl_X4_isIn_45 (by decide) dX4_isIn_10 ?_
    refine J_iload_2 C dX4_isIn_13 ?_
    refine J_baload C k33 (by decide) (by omega) dX4_isIn_14 ?_
    refine J_if_eq (tgt := 22) C (by have := (I9 q hwq.2.1 hwq.2.2).1; omega) dX4_isIn_15 (by decide) (fun c_15 => ?_) (fun c_15 => ?_)
    · refine J_iconst C dX4_isIn_22 ?_
      refine J_retZ C hr (by first | exact Or.inl rfl | exact Or.inr rfl) (by decide) (by decide) dX4_isIn_23 ?_
      first
        | (have hcd : ¬ cd = 0 := fun z => by
             have c9 := c_6
             rw [if_pos z] at c9
             exact absurd c9 (by decide)
           exact ⟨cd, g0, fun z => absurd z hcd, g2⟩)
        | (subst hcd
           exact ⟨0, g0, fun _ => ⟨by
             have i9 := I9 q hwq.2.1 hwq.2.2
             have c9 := c_15
             have e23 : σ_3 23 0 q = σ 23 0 q := by rw [F9 23 0 q (by decide), su_nk (by decide)]
             rw [← E9, mT_14 hwq.2.1 hwq.2.2, e23]
             clear F9 I9 E9 g1 g2 g0 gg
             grind, gg⟩, fun z => absurd rfl z⟩)
    · refine J_iconst C dX4_isIn_18 ?_
      refine J_goto (tgt := 23) C dX4_isIn_19 (by decide) ?_
      refine J_retZ C hr (by first | exact Or.inl rfl | exact Or.inr rfl) (by decide) (by decide) dX4_isIn_23 ?_
      first
        | (have hcd : ¬ cd = 0 := fun z => by
             have c9 := c_6
             rw [if_pos z] at c9
             exact absurd c9 (by decide)
           exact ⟨cd, g0, fun z => absurd z hcd, g2⟩)
        | (subst hcd
           exact ⟨0, g0, fun _ => ⟨by
             have i9 := I9 q hwq.2.1 hwq.2.2
             have c9 := c_15
             have e23 : σ_3 23 0 q = σ 23 0 q := by rw [F9 23 0 q (by decide), su_nk (by decide)]
             rw [← E9, mT_14 hwq.2.1 hwq.2.2, e23]
             clear F9 I9 E9 g1 g2 g0 gg
             grind, gg⟩, fun z => absurd rfl z⟩)
