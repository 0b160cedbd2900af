set_option maxRecDepth 20000 in
theorem in_X4_weighs_X4 : ∀ w ∈ wsX40, w ∈ wsX4_weighs := by decide +kernel
set_option maxRecDepth 20000 in
theorem fl_X4_weighs_55 : Cond.fieldLink RX4 55 "JointVentureModel" "charges" "[I" ∈ wsX4_weighs := by decide +kernel
set_option maxHeartbeats 4000000 in
set_option maxRecDepth 100000 in
theorem c_X4_weighs {l : Launch} (hfl : l.stackTraces = false) {cy : Nat → ClassId} {D : va_G} {ad : Ad} (hI : Inj ad) (σ : Sg) (w : Int) (hw : 0 ≤ w ∧ w < 6) (hM : Mi σ) : KV l yX4_weighs wsX4_weighs ({ frames := 4, cells := 0, slots := 0, locals := 101 } : Room) cy D ad σ [.ref (ad 22 0), .int (iI w)] (fun σ' => (∀ (a : Nat) (b c : Int), a < 33 ∨ 41 < a → σ' a b c = σ a b c) ∧ ∀ q, 0 ≤ q → q < 5 → σ' 36 0 q = chp (shm σ) (FM σ w) 10000 q) 0 0 := by
  refine KV.of (lv0 := [some (.ref (ad 22 0)), some (.int (iI w)), none]) hfl hI (by decide) rfl (Nat.le_of_ble_eq_true rfl) rfl ?_
  intro p e s m args below meth c C hr
  have hok := FM_ok hM hw.1 hw.2
  have K_7 : ∀ (n_ : Nat) (i : Int) (σ1 : Sg), (0 ≤ i) → (i ≤ 5) → (5 - i < n_) → (∀ (a : Nat) (b c : Int), a < 33 ∨ 41 < a → σ1 a b c = σ a b c) → (∀ q, 0 ≤ q → q < 5 → σ1 33 0 q = 0 ∨ σ1 33 0 q = 1) → (∀ q, mT σ1 14 q = FM σ w 14 q) → (∀ q, 0 ≤ q → q < i → σ1 36 0 q = 0) → JW p l e ({ frames := 4, cells := 0, slots := 0, locals := 101 } : Room) s m args below meth c cy D ad (Ar ad s.heap.size) 3 0 0 (MQ below (QcV cy D ad (fun σ' => (∀ (a : Nat) (b c : Int), a < 33 ∨ 41 < a → σ' a b c = σ a b c) ∧ ∀ q, 0 ≤ q → q < 5 → σ' 36 0 q = chp (shm σ) (FM σ w) 10000 q) s.heap.size) args s 0 0 (Ar ad s.heap.size)) σ1 7 [some (.ref (ad 22 0)), some (.int (iI w)), some (.int (iI i))] [] := by
    intro n_
    induction n_ with
    | zero => intro i σ1 g0 g1 g2 g3 g4 g5 g6; omega
    | succ n_ ih_7 =>
      intro i σ1 g0 g1 g2 g3 g4 g5 g6
      refine J_iload_2 C dX4_weighs_7 ?_
      refine J_iconst C dX4_weighs_8 ?_
      refine J_icmp_ge (tgt := 25) C (by omega) (by omega) dX4_weighs_9 (by decide) (fun c_9 => ?_) (fun c_9 => ?_)
      · have e5 : i = 5 := by omega
        subst e5
        have hshm : shm σ1 = shm σ := shm_congr (fun q a b => g3 23 0 q (by decide))
        refine J_aload_0 C dX4_weighs_25 ?_
        refine J_iload_1 C dX4_weighs_26 ?_
        refine J_sipush C (by decide) dX4_weighs_27 ?_
        refine J_KVV C (c_X4_costs hfl hI _ w 10000 hw (by omega) (by rw [hshm]; exact hM.2.2.2.1) g4 (by rw [hshm]; exact tin_14 g5 hok.1) (by rw [g3 24 0 w (by decide)]; exact (hM.2.2.2.2.1 w hw.1 hw.2).2.1)) (cwV 2 C.1.2.2.2.2 gX4_weighs_X4_costs rfl rfl rfl (by decide +kernel) ⟨Nat.le_of_ble_eq_true rfl, Nat.le_of_ble_eq_true rfl⟩) rc4 (by decide) rfl rfl (Nat.le_of_ble_eq_true rfl) dX4_weighs_30 ⟨Nat.le_of_ble_eq_true rfl, Nat.le_of_ble_eq_true rfl⟩ (fun σ_30 hp => ?_)
        obtain ⟨F9, E9⟩ := hp
        refine J_retV C hr (by decide) (by decide) dX4_weighs_33 ?_
        refine ⟨fun a b c h => by rw [F9 a b c (by omega)]; exact g3 a b c h, fun q a b => ?_⟩
        have e1 : mT σ_30 17 q = σ_30 36 0 q := mT_c (by decide) (by decide) a b
        have e2 : mT σ1 17 q = σ1 36 0 q := mT_c (by decide) (by decide) a b
        rw [← e1, E9, show costS (shm σ1) (σ1 24 0 w) 10000 (mT σ1) 17 q = mT σ1 17 q + chp (shm σ1) (mT σ1) 10000 q from by simp [costS, a, b], e2, g6 q a b, hshm, chp_14 g5, Int.zero_add]
      · refine J_aload_0 C dX4_weighs_12 ?_
        refine J_get_4_18 C in_X4_weighs_X4 fl_X4_weighs_55 (by decide) dX4_weighs_13 ?_
        refine J_iload_2 C dX4_weighs_16 ?_
        refine J_iconst C dX4_weighs_17 ?_
        refine J_iastore C k36 (by decide) (by omega) dX4_weighs_18 ?_
        refine J_iinc2 C (by decide) rfl dX4_weighs_19 ?_
        refine J_goto (tgt := 7) C dX4_weighs_22 (by decide) ?_
        -- to the cut at 7
        refine ih_7 _ _ ?_ ?_ ?_ ?_ ?_ ?_ ?_
        · omega
        · omega
        · omega
        · intro a b c h
          rw [su_nk (by omega)]
          exact g3 a b c h
        · intro q a b
          rw [su_nk (by decide)]
          exact g4 q a b
        · intro q
          rw [mT14_eq (σ := σ1) (fun x _ _ => su_nk (by decide)) (fun x _ _ => su_nk (by decide))]
          exact g5 q
        · intro q a b
          by_cases e : q = i
          · rw [e, su_at]
          · rw [su_ne (Or.inr e)]
            exact g6 q a (by omega)
  refine J_aload_0 C dX4_weighs_0 ?_
  refine J_iload_1 C dX4_weighs_1 ?_
  refine J_KVV C (c_X4_worksM hfl hI _ w hw hM) (cwV 1 C.1.2.2.2.2 gX4_weighs_X4_works rfl rfl rfl (by decide +kernel) ⟨Nat.le_of_ble_eq_true rfl, Nat.le_of_ble_eq_true rfl⟩) rc4 (by decide) rfl rfl (Nat.le_of_ble_eq_true rfl) dX4_weighs_2 ⟨Nat.le_of_ble_eq_true rfl, Nat.le_of_ble_eq_true rfl⟩ (fun σ_2 hp => ?_)
  obtain ⟨F1, I1, E1⟩ := hp
  refine J_iconst C dX4_weighs_5 ?_
  refine J_istore_2 C (by decide) rfl dX4_weighs_6 ?_
  -- to the cut at 7
  refine K_7 6 _ _ ?_ ?_ ?_ ?_ ?_ ?_ ?_
  · decide
  · decide
  · decide
  · exact F1
  · exact fun q a b => (I1 q a b).1
  · intro q; rw [E1]
  · intro q a b; omega
set_option maxRecDepth 20000 in
theorem in_X4_weight_X4 : ∀ w ∈ wsX40, w ∈ wsX4_weight := by decide +kernel
set_option maxRecDepth 20000 in
theorem fl_X4_weight_55 : Cond.fieldLink RX4 55 "JointVentureModel" "charges" "[I" ∈ wsX4_weight := by decide +kernel
set_option maxHeartbeats 4000000 in
set_option maxRecDepth 100000 in
theorem c_X4_weight {l : Launch} (hfl : l.stackTraces = false) {cy : Nat → ClassId} {D : va_G} {ad : Ad} (hI : Inj ad) (σ : Sg) (w q : Int) (hw9 : I32 w) (hq9 : I32 q) (hM : Mi σ) : KI l yX4_weight wsX4_weight ({ frames := 5, cells := 0, slots := 0, locals := 123 } : Room) cy D ad σ [.ref (ad 22 0), .int (iI w), .int (iI q)] (fun z σ' => ∃ cd, ((cd = 0 ∧ ((0 ≤ w ∧ w < σ 22 0 6) ∧ (0 ≤ q ∧ q < 5))) ∨ (cd = 1 ∧ (¬ ((0 ≤ w ∧ w < σ 22 0 6) ∧ (0 ≤ q ∧ q < 5))))) ∧ (cd = 0 → z = chp (shm σ) (FM σ w) 10000 q ∧ ∀ (a : Nat) (b c : Int), a < 33 ∨ 41 < a → σ' a b c = su σ 22 0 24 0 a b c) ∧ (¬ cd = 0 → σ' = su σ 22 0 24 cd)) 0 0 := by
  refine KI.of (lv0 := [some (.ref (ad 22 0)), some (.int (iI w)), some (.int (iI q))]) hfl hI (by decide) rfl (Nat.le_of_ble_eq_true rfl) rfl ?_
  intro p e s m args below meth c C hr
  have hwm := hM.2.2.2.2.2.1
  have K_26 : ∀ (g9 : Int) (cd : Int), ((cd = 0 ∧ ((0 ≤ w ∧ w < σ 22 0 6) ∧ (0 ≤ q ∧ q < 5))) ∨ (cd = 1 ∧ (¬ ((0 ≤ w ∧ w < σ 22 0 6) ∧ (0 ≤ q ∧ q < 5))))) → ((g9 = 1 ∧ cd = 0) ∨ (g9 = 0 ∧ ¬ cd = 0)) → JW p l e ({ frames := 5, cells := 0, slots := 0, locals := 123 } : Room) s m args below meth c cy D ad (Ar ad s.heap.size) 3 0 0 (MQ below (QcI cy D ad (fun z σ' => ∃ cd, ((cd = 0 ∧ ((0 ≤ w ∧ w < σ 22 0 6) ∧ (0 ≤ q ∧ q < 5))) ∨ (cd = 1 ∧ (¬ ((0 ≤ w ∧ w < σ 22 0 6) ∧ (0 ≤ q ∧ q < 5))))) ∧ (cd = 0 → z = chp (shm σ) (FM σ w) 10000 q ∧ ∀ (a : Nat) (b c : Int), a < 33 ∨ 41 < a → σ' a b c = su σ 22 0 24 0 a b c) ∧ (¬ cd = 0 → σ' = su σ 22 0 24 cd)) s.heap.size) args s 0 0 (Ar ad s.heap.size)) (su σ 22 0 24 cd) 26 [some (.ref (ad 22 0)), some (.int (iI w)), some (.int (iI q))] [.int (iI g9)] := by
    intro g9 cd g0 g1
    refine J_if_ne (tgt := 31) C (by omega) dX4_weight_26 (by decide) (fun c_26 => ?_) (fun c_26 => ?_)
    · refine J_aload_0 C dX4_weight_31 ?_
      refine J_iload_1 C dX4_weight_32 ?_
      refine J_KVV C (c_X4_weighs hfl hI _ w (by omega) (mi_q (mq_last σ cd) hM)) (cwV 1 C.1.2.2.2.2 gX4_weight_X4_weighs rfl rfl rfl (by decide +kernel) ⟨Nat.le_of_ble_eq_true rfl, Nat.le_of_ble_eq_true rfl⟩) rc4 (by decide) rfl rfl (Nat.le_of_ble_eq_true rfl) dX4_weight_33 ⟨Nat.le_of_ble_eq_true rfl, Nat.le_of_ble_eq_true rfl⟩ (fun σ_33 hp => ?_)
      obtain ⟨F9, C9⟩ := hp
      rw [mq_FM (mq_last σ cd) w, mq_shm (mq_last σ cd)] at C9
      refine J_aload_0 C dX4_weight_36 ?_
      refine J_get_4_18 C in_X4_weight_X4 fl_X4_weight_55 (by decide) dX4_weight_37 ?_
      refine J_iload_2 C dX4_weight_40 ?_
      refine J_iaload C k36 (by decide) (by omega) dX4_weight_41 ?_
      refine J_retI C hr (by decide) (by decide) dX4_weight_42 ?_
      have hcd : cd = 0 := by omega
      subst hcd
      exact ⟨0, g0, fun _ => ⟨C9 q (by omega) (by omega), F9⟩, fun z => absurd rfl z⟩
    · refine J_iconst C dX4_weight_29 ?_
      refine J_retI C hr (by decide) (by decide) dX4_weight_30 ?_
      exact ⟨cd, g0, fun z => by omega, fun _ => rfl⟩
  have K_21 : ∀ (kn : Int), ((kn = 1 ∧ ((0 ≤ w ∧ w < σ 22 0 6) ∧ (0 ≤ q ∧ q < 5))) ∨ (kn = 0 ∧ ¬ ((0 ≤ w ∧ w < σ 22 0 6) ∧ (0 ≤ q ∧ q < 5)))) → JW p l e ({ frames := 5, cells := 0, slots := 0, locals := 123 } : Room) s m args below meth c cy D ad (Ar ad s.heap.size) 3 0 0 (MQ below (QcI cy D ad (fun z σ' => ∃ cd, ((cd = 0 ∧ ((0 ≤ w ∧ w < σ 22 0 6) ∧ (0 ≤ q ∧ q < 5))) ∨ (cd = 1 ∧ (¬ ((0 ≤ w ∧ w < σ 22 0 6) ∧ (0 ≤ q ∧ q < 5))))) ∧ (cd = 0 → z = chp (shm σ) (FM σ w) 10000 q ∧ ∀ (a : Nat) (b c : Int), a < 33 ∨ 41 < a → σ' a b c = su σ 22 0 24 0 a b c) ∧ (¬ cd = 0 → σ' = su σ 22 0 24 cd)) s.heap.size) args s 0 0 (Ar ad s.heap.size)) σ 21 [some (.ref (ad 22 0)), some (.int (iI w)), some (.int (iI q))] [.int (iI kn), .ref (ad 22 0)] := by
    intro kn u0
    refine J_iconst C dX4_weight_21 ?_
    refine J_iconst C dX4_weight_22 ?_
    refine J_KVI C (c_X4_goes hfl hI _ _ _ _ (by first | exact Or.inl rfl | exact Or.inr rfl | (split <;> omega) | omega) (by first | exact Or.inl rfl | exact Or.inr rfl | (split <;> omega) | omega) (by first | exact Or.inl rfl | exact Or.inr rfl | (split <;> omega) | omega)) (cwV 3 C.1.2.2.2.2 gX4_weight_X4_goes rfl rfl rfl (by decide +kernel) ⟨Nat.le_of_ble_eq_true rfl, Nat.le_of_ble_eq_true rfl⟩) rc4 (by decide) rfl rfl (Nat.le_of_ble_eq_true rfl) dX4_weight_23 ⟨Nat.le_of_ble_eq_true rfl, Nat.le_of_ble_eq_true rfl⟩ (fun z_23 σ_23 hp => ?_)
    obtain ⟨hz_, hs_⟩ := hp
    have hz_ := hz_.symm
    have hs_ := hs_.symm
    subst hz_
    subst hs_
    -- to the cut at 26
    refine K_26 _ _ ?_ ?_
    · simp only [gcd3]
      grind
    · split <;> omega
  refine J_aload_0 C dX4_weight_0 ?_
  refine J_aload_0 C dX4_weight_1 ?_
  refine J_iload_1 C dX4_weight_2 ?_
  refine J_KVI C (c_X4_isWell hfl hI _ w hw9 hwm) (cwV 1 C.1.2.2.2.2 gX4_weight_X4_isWell rfl rfl rfl (by decide +kernel) ⟨Nat.le_of_ble_eq_true rfl, Nat.le_of_ble_eq_true rfl⟩) rc4 (by decide) rfl rfl (Nat.le_of_ble_eq_true rfl) dX4_weight_3 ⟨Nat.le_of_ble_eq_true rfl, Nat.le_of_ble_eq_true rfl⟩ (fun z_3 σ_3 hp => ?_)
  obtain ⟨hz_, hs_⟩ := hp
  have hz_ := hz_.symm
  have hs_ := hs_.symm
  subst hz_
  subst hs_
  refine J_if_eq (tgt := 20) C (by split <;> omega) dX4_weight_6 (by decide) (fun c_6 => ?_) (fun c_6 => ?_)
  · refine J_iconst C dX4_weight_20 ?_
    -- to the cut at 21
    refine K_21 _ ?_
    · omega
  · refine J_iload_2 C dX4_weight_9 ?_
    refine J_KSI C (c_X4_isPartner hfl hI _ q hq9) (va_cwS 1 C.1.2.2.2.2 gX4_weight_X4_isPartner rfl rfl rfl (by decide +kernel) ⟨Nat.le_of_ble_eq_true rfl, Nat.le_of_ble_eq_true rfl⟩) rfl rfl (Nat.le_of_ble_eq_true rfl) dX4_weight_10 ⟨Nat.le_of_ble_eq_true rfl, Nat.le_of_ble_eq_true rfl⟩ (fun z_10 σ_10 hp => ?_)
    obtain ⟨hz_, hs_⟩ := hp
    have hz_ := hz_.symm
    have hs_ := hs_.symm
    subst hz_
    subst hs_
    refine J_if_eq (tgt := 20) C (by split <;> omega) dX4_weight_13 (by decide) (fun c_13 => ?_) (fun c_13 => ?_)
    · refine J_iconst C dX4_weight_20 ?_
      -- to the cut at 21
      refine K_21 _ ?_
      · omega
    · refine J_iconst C dX4_weight_16 ?_
      refine J_goto (tgt := 21) C dX4_weight_17 (by decide) ?_
      -- to the cut at 21
      refine K_21 _ ?_
      · omega
set_option maxRecDepth 20000 in
theorem in_X4_call_X4 : ∀ w ∈ wsX40, w ∈ wsX4_call := by decide +kernel
set_option maxRecDepth 20000 in
theorem fl_X4_call_86 : Cond.fieldLink RX4 86 "JointVentureModel" "calls" "I" ∈ wsX4_call := by decide +kernel
set_option maxRecDepth 20000 in
theorem fl_X4_call_36 : Cond.fieldLink RX4 36 "JointVentureModel" "asks" "[I" ∈ wsX4_call := by decide +kernel
set_option maxRecDepth 20000 in
theorem fl_X4_call_64 : Cond.fieldLink RX4 64 "JointVentureModel" "parts" "[I" ∈ wsX4_call := by decide +kernel
set_option maxRecDepth 20000 in
theorem fl_X4_call_61 : Cond.fieldLink RX4 61 "JointVentureModel" "weights" "[I" ∈ wsX4_call := by decide +kernel
set_option maxRecDepth 20000 in
theorem fl_X4_call_55 : Cond.fieldLink RX4 55 "JointVentureModel" "charges" "[I" ∈ wsX4_call := by decide +kernel
set_option maxHeartbeats 4000000 in
set_option maxRecDepth 100000 in
theorem c_X4_call {l : Launch} (hfl : l.stackTraces = false) {cy : Nat → ClassId} {D : va_G} {ad : Ad} (hI : Inj ad) (σ : Sg) (w a9 : Int) (hw9 : I32 w) (ia : I32 a9) (hM : Mi σ) : KI l yX4_call wsX4_call ({ frames := 5, cells := 0, slots := 0, locals := 123 } : Room) cy D ad σ [.ref (ad 22 0), .int (iI w), .int (iI a9)] (fun z σ' => ∃ cd, ((cd = 0 ∧ ((0 ≤ w ∧ w < σ 22 0 6) ∧ (1 ≤ a9 ∧ a9 ≤ 10000000) ∧ σ 22 0 13 < 20)) ∨ (cd = 1 ∧ (¬ (0 ≤ w ∧ w < σ 22 0 6))) ∨ (cd = 2 ∧ ((0 ≤ w ∧ w < σ 22 0 6) ∧ ¬ (1 ≤ a9 ∧ a9 ≤ 10000000))) ∨ (cd = 3 ∧ ((0 ≤ w ∧ w < σ 22 0 6) ∧ (1 ≤ a9 ∧ a9 ≤ 10000000) ∧ ¬ (σ 22 0 13 < 20)))) ∧ (cd = 0 → z = σ 22 0 13 ∧ (∀ (a : Nat) (b c : Int), a < 30 ∨ a = 31 ∨ a = 32 ∨ 41 < a → σ' a b c = (su (su σ 22 0 24 0) 22 0 13 (σ 22 0 13 + 1)) a b c) ∧ ∀ j, σ' 30 0 j = if 5 * σ 22 0 13 ≤ j ∧ j < 5 * σ 22 0 13 + 5 then dv a9 (chp (shm σ) (FM σ w) 10000) (j - 5 * σ 22 0 13) else σ 30 0 j) ∧ (¬ cd = 0 → σ' = su σ 22 0 24 cd)) 0 0 := by
  refine KI.of (lv0 := [some (.ref (ad 22 0)), some (.int (iI w)), some (.int (iI a9)), none]) hfl hI (by decide) rfl (Nat.le_of_ble_eq_true rfl) rfl ?_
  intro p e s m args below meth c C hr
  have hwm := hM.2.2.2.2.2.1
  have hcm := hM.2.2.2.2.2.2
  have K_70 : ∀ (n_ : Nat) (i : Int) (σ1 : Sg), (0 ≤ i) → (i ≤ 5) → (5 - i < n_) → (∀ (a : Nat) (b c : Int), a < 30 ∨ a = 31 ∨ a = 32 ∨ 41 < a → σ1 a b c = (su σ 22 0 24 0) a b c) → (∀ q, 0 ≤ q → q < 5 → σ1 39 0 q = dv a9 (chp (shm σ) (FM σ w) 10000) q) → (∀ j, σ1 30 0 j = if 5 * σ 22 0 13 ≤ j ∧ j < 5 * σ 22 0 13 + i then dv a9 (chp (shm σ) (FM σ w) 10000) (j - 5 * σ 22 0 13) else σ 30 0 j) → ((0 ≤ w ∧ w < σ 22 0 6) ∧ (1 ≤ a9 ∧ a9 ≤ 10000000) ∧ σ 22 0 13 < 20) → JW p l e ({ frames := 5, cells := 0, slots := 0, locals := 123 } : Room) s m args below meth c cy D ad (Ar ad s.heap.size) 4 0 0 (MQ below (QcI cy D ad (fun z σ' => ∃ cd, ((cd = 0 ∧ ((0 ≤ w ∧ w < σ 22 0 6) ∧ (1 ≤ a9 ∧ a9 ≤ 10000000) ∧ σ 22 0 13 < 20)) ∨ (cd = 1 ∧ (¬ (0 ≤ w ∧ w < σ 22 0 6))) ∨ (cd = 2 ∧ ((0 ≤ w ∧ w < σ 22 0 6) ∧ ¬ (1 ≤ a9 ∧ a9 ≤ 10000000))) ∨ (cd = 3 ∧ ((0 ≤ w ∧ w < σ 22 0 6) ∧ (1 ≤ a9 ∧ a9 ≤ 10000000) ∧ ¬ (σ 22 0 13 < 20)))) ∧ (cd = 0 → z = σ 22 0 13 ∧ (∀ (a : Nat) (b c : Int), a < 30 ∨ a = 31 ∨ a = 32 ∨ 41 < a → σ' a b c = (su (su σ 22 0 24 0) 22 0 13 (σ 22 0 13 + 1)) a b c) ∧ ∀ j, σ' 30 0 j = if 5 * σ 22 0 13 ≤ j ∧ j < 5 * σ 22 0 13 + 5 then dv a9 (chp (shm σ) (FM σ w) 10000) (j - 5 * σ 22 0 13) else σ 30 0 j) ∧ (¬ cd = 0 → σ' = su σ 22 0 24 cd)) s.heap.size) args s 0 0 (Ar ad s.heap.size)) σ1 70 [some (.ref (ad 22 0)), some (.int (iI w)), some (.int (iI a9)), some (.int (iI i))] [] := by
    intro n_
    induction n_ with
    | zero => intro i σ1 g0 g1 g2 g3 g4 g5 g6; omega
    | succ n_ ih_70 =>
      intro i σ1 g0 g1 g2 g3 g4 g5 g6
      have hcn : σ1 22 0 13 = σ 22 0 13 := by rw [g3 22 0 13 (by decide), su_ne3 (Or.inr (Or.inr (by decide)))]
      refine J_iload_3 C dX4_call_70 ?_
      refine J_iconst C dX4_call_71 ?_
      refine J_icmp_ge (tgt := 100) C (by omega) (by omega) dX4_call_72 (by decide) (fun c_72 => ?_) (fun c_72 => ?_)
      · refine J_aload_0 C dX4_call_100 ?_
        refine J_dup C rfl dX4_call_101 ?_
        refine J_get_4_13 C in_X4_call_X4 fl_X4_call_86 (by decide) dX4_call_102 ?_
        rw [hcn]
        refine J_iconst C dX4_call_105 ?_
        refine J_iadd C dX4_call_106 ?_
        refine J_put_4_13 C in_X4_call_X4 fl_X4_call_86 (by decide) dX4_call_107 ?_
        refine J_aload_0 C dX4_call_110 ?_
        refine J_get_4_13 C in_X4_call_X4 fl_X4_call_86 (by decide) dX4_call_111 ?_
        rw [su_at]
        refine J_iconst C dX4_call_114 ?_
        refine J_isub C dX4_call_115 ?_
        refine J_retI C hr (by decide) (by decide) dX4_call_116 ?_
        have e5 : i = 5 := by omega
        subst e5
        refine ⟨0, Or.inl ⟨rfl, g6⟩, fun _ => ⟨by omega, fun a b c h => ?_, fun j => ?_⟩, fun z => absurd rfl z⟩
        · simp only [su]
          rw [g3 a b c h]
          simp only [su]
        · rw [su_nk (by decide)]
          exact g5 j
      · refine J_aload_0 C dX4_call_75 ?_
        refine J_get_4_11 C in_X4_call_X4 fl_X4_call_36 (by decide) dX4_call_76 ?_
        refine J_iconst C dX4_call_79 ?_
        refine J_aload_0 C dX4_call_80 ?_
        refine J_get_4_13 C in_X4_call_X4 fl_X4_call_86 (by decide) dX4_call_81 ?_
        rw [hcn]
        refine J_imul C dX4_call_84 ?_
        refine J_iload_3 C dX4_call_85 ?_
        refine J_iadd C dX4_call_86 ?_
        refine J_aload_0 C dX4_call_87 ?_
        refine J_get_4_21 C in_X4_call_X4 fl_X4_call_64 (by decide) dX4_call_88 ?_
        refine J_iload_3 C dX4_call_91 ?_
        refine J_iaload C k39 (by decide) (by omega) dX4_call_92 ?_
        refine J_iastore C k30 (by decide) (by omega) dX4_call_93 ?_
        refine J_iinc3 C (by decide) rfl dX4_call_94 ?_
        refine J_goto (tgt := 70) C dX4_call_97 (by decide) ?_
        -- to the cut at 70
        refine ih_70 _ _ ?_ ?_ ?_ ?_ ?_ ?_ ?_
        · omega
        · omega
        · omega
        · intro a b c h
          rw [su_nk (by omega)]
          exact g3 a b c h
        · intro q a b
          rw [su_nk (by decide)]
          exact g4 q a b
        · intro j
          have hv := g5 j
          have hp9 := g4 i (by omega) (by omega)
          by_cases e : j = 5 * σ 22 0 13 + i
          · subst e
            rw [su_at, if_pos (by omega), hp9]
            congr 1
            omega
          · rw [su_ne (Or.inr e), hv]
            by_cases e2 : 5 * σ 22 0 13 ≤ j ∧ j < 5 * σ 22 0 13 + i
            · rw [if_pos e2, if_pos (by omega)]
            · rw [if_neg e2, if_neg (by omega)]
        · exact g6
  have K_39 : ∀ (n_ : Nat) (i : Int) (σ1 : Sg), (0 ≤ i) → (i ≤ 5) → (5 - i < n_) → (∀ (a : Nat) (b c : Int), a < 33 ∨ 41 < a → σ1 a b c = su σ 22 0 24 0 a b c) → (∀ q, 0 ≤ q → q < 5 → σ1 36 0 q = chp (shm σ) (FM σ w) 10000 q) → (∀ q, 0 ≤ q → q < i → σ1 38 0 q = chp (shm σ) (FM σ w) 10000 q) → ((0 ≤ w ∧ w < σ 22 0 6) ∧ (1 ≤ a9 ∧ a9 ≤ 10000000) ∧ σ 22 0 13 < 20) → JW p l e ({ frames := 5, cells := 0, slots := 0, locals := 123 } : Room) s m args below meth c cy D ad (Ar ad s.heap.size) 4 0 0 (MQ below (QcI cy D ad (fun z σ' => ∃ cd, ((cd = 0 ∧ ((0 ≤ w ∧ w < σ 22 0 6) ∧ (1 ≤ a9 ∧ a9 ≤ 10000000) ∧ σ 22 0 13 < 20)) ∨ (cd = 1 ∧ (¬ (0 ≤ w ∧ w < σ 22 0 6))) ∨ (cd = 2 ∧ ((0 ≤ w ∧ w < σ 22 0 6) ∧ ¬ (1 ≤ a9 ∧ a9 ≤ 10000000))) ∨ (cd = 3 ∧ ((0 ≤ w ∧ w < σ 22 0 6) ∧ (1 ≤ a9 ∧ a9 ≤ 10000000) ∧ ¬ (σ 22 0 13 < 20)))) ∧ (cd = 0 → z = σ 22 0 13 ∧ (∀ (a : Nat) (b c : Int), a < 30 ∨ a = 31 ∨ a = 32 ∨ 41 < a → σ' a b c = (su (su σ 22 0 24 0) 22 0 13 (σ 22 0 13 + 1)) a b c) ∧ ∀ j, σ' 30 0 j = if 5 * σ 22 0 13 ≤ j ∧ j < 5 * σ 22 0 13 + 5 then dv a9 (chp (shm σ) (FM σ w) 10000) (j - 5 * σ 22 0 13) else σ 30 0 j) ∧ (¬ cd = 0 → σ' = su σ 22 0 24 cd)) s.heap.size) args s 0 0 (Ar ad s.heap.size)) σ1 39 [some (.ref (ad 22 0)), some (.int (iI w)), some (.int (iI a9)), some (.int (iI i))] [] := by
    intro n_
    induction n_ with
    | zero => intro i σ1 g0 g1 g2 g3 g4 g5 g6; omega
    | succ n_ ih_39 =>
      intro i σ1 g0 g1 g2 g3 g4 g5 g6
      refine J_iload_3 C dX4_call_39 ?_
      refine J_iconst C dX4_call_40 ?_
      refine J_icmp_ge (tgt := 62) C (by omega) (by omega) dX4_call_41 (by decide) (fun c_41 => ?_) (fun c_41 => ?_)
      · have hcw : Wt (chp (shm σ) (FM σ w) 10000) := chp_wt hM.2.2.2.1 (FM_ok hM g6.1.1 (by omega)).1 (by decide)
        refine J_aload_0 C dX4_call_62 ?_
        refine J_iload_2 C dX4_call_63 ?_
        refine J_i2l C (by omega) dX4_call_64 ?_
        refine J_KVV C (c_X4_divides hfl hI _ a9 (by omega) (Wt.congr (fun q a b => (g5 q a (by omega)).symm) hcw) (fun q a b => by rw [g5 q a (by omega)]; have := chp_rng hM.2.2.2.1 (FM_ok hM g6.1.1 (by omega)).1 (show (0 : Int) ≤ 10000 by decide) a b; omega)) (cwV 1 C.1.2.2.2.2 gX4_call_X4_divides rfl rfl rfl (by decide +kernel) ⟨Nat.le_of_ble_eq_true rfl, Nat.le_of_ble_eq_true rfl⟩) rc4 (by decide) rfl rfl (Nat.le_of_ble_eq_true rfl) dX4_call_65 ⟨Nat.le_of_ble_eq_true rfl, Nat.le_of_ble_eq_true rfl⟩ (fun σ_65 hp => ?_)
        obtain ⟨F8, P0⟩ := hp
        have P8 : ∀ q, 0 ≤ q → q < 5 → σ_65 39 0 q = dv a9 (chp (shm σ) (FM σ w) 10000) q := fun q a b => by rw [P0 q a b]; exact dv_congr (fun x c d => g5 x c (by omega)) q a b
        refine J_iconst C dX4_call_68 ?_
        refine J_istore_3 C (by decide) rfl dX4_call_69 ?_
        -- to the cut at 70
        refine K_70 6 _ _ ?_ ?_ ?_ ?_ ?_ ?_ ?_
        · decide
        · decide
        · decide
        · intro a b c h
          rw [F8 a b c (by omega) (by omega)]
          exact g3 a b c (by omega)
        · exact P8
        · intro j
          rw [if_neg (by omega), F8 _ _ _ (by decide) (by decide), g3 30 0 j (by decide), su_nk (by decide)]
        · exact g6
      · refine J_aload_0 C dX4_call_44 ?_
        refine J_get_4_20 C in_X4_call_X4 fl_X4_call_61 (by decide) dX4_call_45 ?_
        refine J_iload_3 C dX4_call_48 ?_
        refine J_aload_0 C dX4_call_49 ?_
        refine J_get_4_18 C in_X4_call_X4 fl_X4_call_55 (by decide) dX4_call_50 ?_
        refine J_iload_3 C dX4_call_53 ?_
        refine J_iaload C k36 (by decide) (by omega) dX4_call_54 ?_
        refine J_iastore C k38 (by decide) (by omega) dX4_call_55 ?_
        refine J_iinc3 C (by decide) rfl dX4_call_56 ?_
        refine J_goto (tgt := 39) C dX4_call_59 (by decide) ?_
        -- to the cut at 39
        refine ih_39 _ _ ?_ ?_ ?_ ?_ ?_ ?_ ?_
        · omega
        · omega
        · omega
        · intro a b c h
          rw [su_nk (by omega)]
          exact g3 a b c h
        · intro q a b
          rw [su_nk (by decide)]
          exact g4 q a b
        · intro q a b
          by_cases e : q = i
          · subst e
            rw [su_at]
            exact g4 _ a (by omega)
          · rw [su_ne (Or.inr e)]
            exact g5 q a (by omega)
        · exact g6
  have K_27 : ∀ (g9 : Int) (cd : Int), ((cd = 0 ∧ ((0 ≤ w ∧ w < σ 22 0 6) ∧ (1 ≤ a9 ∧ a9 ≤ 10000000) ∧ σ 22 0 13 < 20)) ∨ (cd = 1 ∧ (¬ (0 ≤ w ∧ w < σ 22 0 6))) ∨ (cd = 2 ∧ ((0 ≤ w ∧ w < σ 22 0 6) ∧ ¬ (1 ≤ a9 ∧ a9 ≤ 10000000))) ∨ (cd = 3 ∧ ((0 ≤ w ∧ w < σ 22 0 6) ∧ (1 ≤ a9 ∧ a9 ≤ 10000000) ∧ ¬ (σ 22 0 13 < 20)))) → ((g9 = 1 ∧ cd = 0) ∨ (g9 = 0 ∧ ¬ cd = 0)) → JW p l e ({ frames := 5, cells := 0, slots := 0, locals := 123 } : Room) s m args below meth c cy D ad (Ar ad s.heap.size) 4 0 0 (MQ below (QcI cy D ad (fun z σ' => ∃ cd, ((cd = 0 ∧ ((0 ≤ w ∧ w < σ 22 0 6) ∧ (1 ≤ a9 ∧ a9 ≤ 10000000) ∧ σ 22 0 13 < 20)) ∨ (cd = 1 ∧ (¬ (0 ≤ w ∧ w < σ 22 0 6))) ∨ (cd = 2 ∧ ((0 ≤ w ∧ w < σ 22 0 6) ∧ ¬ (1 ≤ a9 ∧ a9 ≤ 10000000))) ∨ (cd = 3 ∧ ((0 ≤ w ∧ w < σ 22 0 6) ∧ (1 ≤ a9 ∧ a9 ≤ 10000000) ∧ ¬ (σ 22 0 13 < 20)))) ∧ (cd = 0 → z = σ 22 0 13 ∧ (∀ (a : Nat) (b c : Int), a < 30 ∨ a = 31 ∨ a = 32 ∨ 41 < a → σ' a b c = (su (su σ 22 0 24 0) 22 0 13 (σ 22 0 13 + 1)) a b c) ∧ ∀ j, σ' 30 0 j = if 5 * σ 22 0 13 ≤ j ∧ j < 5 * σ 22 0 13 + 5 then dv a9 (chp (shm σ) (FM σ w) 10000) (j - 5 * σ 22 0 13) else σ 30 0 j) ∧ (¬ cd = 0 → σ' = su σ 22 0 24 cd)) s.heap.size) args s 0 0 (Ar ad s.heap.size)) (su σ 22 0 24 cd) 27 [some (.ref (ad 22 0)), some (.int (iI w)), some (.int (iI a9)), none] [.int (iI g9)] := by
    intro g9 cd g0 g1
    refine J_if_ne (tgt := 32) C (by omega) dX4_call_27 (by decide) (fun c_27 => ?_) (fun c_27 => ?_)
    · refine J_aload_0 C dX4_call_32 ?_
      refine J_iload_1 C dX4_call_33 ?_
      refine J_KVV C (c_X4_weighs hfl hI _ w (by omega) (mi_q (mq_last σ cd) hM)) (cwV 1 C.1.2.2.2.2 gX4_call_X4_weighs rfl rfl rfl (by decide +kernel) ⟨Nat.le_of_ble_eq_true rfl, Nat.le_of_ble_eq_true rfl⟩) rc4 (by decide) rfl rfl (Nat.le_of_ble_eq_true rfl) dX4_call_34 ⟨Nat.le_of_ble_eq_true rfl, Nat.le_of_ble_eq_true rfl⟩ (fun σ_34 hp => ?_)
      obtain ⟨F9, C9⟩ := hp
      rw [mq_FM (mq_last σ cd) w, mq_shm (mq_last σ cd)] at C9
      have hcd : cd = 0 := by omega
      subst hcd
      refine J_iconst C dX4_call_37 ?_
      refine J_istore_3 C (by decide) rfl dX4_call_38 ?_
      -- to the cut at 39
      refine K_39 6 _ _ ?_ ?_ ?_ ?_ ?_ ?_ ?_
      · decide
      · decide
      · decide
      · exact F9
      · exact C9
      · intro q a b; omega
      · rcases g0 with z | z | z | z <;> first | exact z.2 | omega
    · refine J_iconst C dX4_call_30 ?_
      refine J_retI C hr (by decide) (by decide) dX4_call_31 ?_
      exact ⟨cd, g0, fun z => by omega, fun _ => rfl⟩
  refine J_aload_0 C dX4_call_0 ?_
  refine J_aload_0 C dX4_call_1 ?_
  refine J_iload_1 C dX4_call_2 ?_
  refine J_KVI C (c_X4_isWell hfl hI _ w hw9 hwm) (cwV 1 C.1.2.2.2.2 gX4_call_X4_isWell rfl rfl rfl (by decide +kernel) ⟨Nat.le_of_ble_eq_true rfl, Nat.le_of_ble_eq_true rfl⟩) rc4 (by decide) rfl rfl (Nat.le_of_ble_eq_true rfl) dX4_call_3 ⟨Nat.le_of_ble_eq_true rfl, Nat.le_of_ble_eq_true rfl⟩ (fun z_3 σ_3 hp => ?_)
  obtain ⟨hz_, hs_⟩ := hp
  have hz_ := hz_.symm
  have hs_ := hs_.symm
  subst hz_
  subst hs_
  refine J_iload_2 C dX4_call_6 ?_
  refine J_KSI C (c_X4_isAmount hfl hI _ a9 ia) (va_cwS 1 C.1.2.2.2.2 gX4_call_X4_isAmount rfl rfl rfl (by decide +kernel) ⟨Nat.le_of_ble_eq_true rfl, Nat.le_of_ble_eq_true rfl⟩) rfl rfl (Nat.le_of_ble_eq_true rfl) dX4_call_7 ⟨Nat.le_of_ble_eq_true rfl, Nat.le_of_ble_eq_true rfl⟩ (fun z_7 σ_7 hp => ?_)
  obtain ⟨hz_, hs_⟩ := hp
  have hz_ := hz_.symm
  have hs_ := hs_.symm
  subst hz_
  subst hs_
  refine J_aload_0 C dX4_call_10 ?_
  refine J_get_4_13 C in_X4_call_X4 fl_X4_call_86 (by decide) dX4_call_11 ?_
  refine J_bipush C (by decide) dX4_call_14 ?_
  refine J_icmp_ge (tgt := 23) C (by omega) (by omega) dX4_call_16 (by decide) (fun c_16 => ?_) (fun c_16 => ?_)
  · refine J_iconst C dX4_call_23 ?_
    refine J_KVI C (c_X4_goes hfl hI _ _ _ _ (by first | exact Or.inl rfl | exact Or.inr rfl | (split <;> omega) | omega) (by first | exact Or.inl rfl | exact Or.inr rfl | (split <;> omega) | omega) (by first | exact Or.inl rfl | exact Or.inr rfl | (split <;> omega) | omega)) (cwV 3 C.1.2.2.2.2 gX4_call_X4_goes rfl rfl rfl (by decide +kernel) ⟨Nat.le_of_ble_eq_true rfl, Nat.le_of_ble_eq_true rfl⟩) rc4 (by decide) rfl rfl (Nat.le_of_ble_eq_true rfl) dX4_call_24 ⟨Nat.le_of_ble_eq_true rfl, Nat.le_of_ble_eq_true rfl⟩ (fun z_24 σ_24 hp => ?_)
    obtain ⟨hz_, hs_⟩ := hp
    have hz_ := hz_.symm
    have hs_ := hs_.symm
    subst hz_
    subst hs_
    -- to the cut at 27
    refine K_27 _ _ ?_ ?_
    · simp only [gcd3]
      grind
    · split <;> omega
  · refine J_iconst C dX4_call_19 ?_
    refine J_goto (tgt := 24) C dX4_call_20 (by decide) ?_
    refine J_KVI C (c_X4_goes hfl hI _ _ _ _ (by first | exact Or.inl rfl | exact Or.inr rfl | (split <;> omega) | omega) (by first | exact Or.inl rfl | exact Or.inr rfl | (split <;> omega) | omega) (by first | exact Or.inl rfl | exact Or.inr rfl | (split <;> omega) | omega)) (cwV 3 C.1.2.2.2.2 gX4_call_X4_goes rfl rfl rfl (by decide +kernel) ⟨Nat.le_of_ble_eq_true rfl, Nat.le_of_ble_eq_true rfl⟩) rc4 (by decide) rfl rfl (Nat.le_of_ble_eq_true rfl) dX4_call_24 ⟨Nat.le_of_ble_eq_true rfl, Nat.le_of_ble_eq_true rfl⟩ (fun z_24 σ_24 hp => ?_)
    obtain ⟨hz_, hs_⟩ := hp
    have hz_ := hz_.symm
    have hs_ := hs_.symm
    subst hz_
    subst hs_
    -- to the cut at 27
    refine K_27 _ _ ?_ ?_
    · simp only [gcd3]
      grind
    · split <;> omega
set_option maxRecDepth 20000 in
theorem in_X4_pay_X4 : ∀ w ∈ wsX40, w ∈ wsX4_pay := by decide +kernel
set_option maxRecDepth 20000 in
theorem fl_X4_pay_39 : Cond.fieldLink RX4 39 "JointVentureModel" "pays" "[I" ∈ wsX4_pay := by decide +kernel
set_option maxRecDepth 20000 in
theorem fl_X4_pay_36 : Cond.fieldLink RX4 36 "JointVentureModel" "asks" "[I" ∈ wsX4_pay := by decide +kernel
set_option maxHeartbeats 4000000 in
set_option maxRecDepth 100000 in
theorem c_X4_pay {l : Launch} (hfl : l.stackTraces = false) {cy : Nat → ClassId} {D : va_G} {ad : Ad} (hI : Inj ad) (σ : Sg) (k9 q : Int) (hk9 : I32 k9) (hq9 : I32 q) (hM : Mi σ) (hpr : ∀ j, 0 ≤ j → j < 100 → I32 (σ 30 0 j - σ 31 0 j)) : KI l yX4_pay wsX4_pay ({ frames := 2, cells := 0, slots := 0, locals := 43 } : Room) cy D ad σ [.ref (ad 22 0), .int (iI k9), .int (iI q)] (fun z σ' => ∃ cd, ((cd = 0 ∧ (((0 ≤ k9 ∧ k9 < σ 22 0 13) ∧ (0 ≤ q ∧ q < 5)) ∧ 0 < σ 30 0 (5 * k9 + q) - σ 31 0 (5 * k9 + q))) ∨ (cd = 1 ∧ (¬ ((0 ≤ k9 ∧ k9 < σ 22 0 13) ∧ (0 ≤ q ∧ q < 5)))) ∨ (cd = 2 ∧ (((0 ≤ k9 ∧ k9 < σ 22 0 13) ∧ (0 ≤ q ∧ q < 5)) ∧ ¬ 0 < σ 30 0 (5 * k9 + q) - σ 31 0 (5 * k9 + q)))) ∧ (cd = 0 → z = σ 30 0 (5 * k9 + q) - σ 31 0 (5 * k9 + q) ∧ σ' = su (su σ 22 0 24 0) 31 0 (5 * k9 + q) (σ 31 0 (5 * k9 + q) + (σ 30 0 (5 * k9 + q) - σ 31 0 (5 * k9 + q)))) ∧ (¬ cd = 0 → σ' = su σ 22 0 24 cd)) 0 0 := by
  refine KI.of (lv0 := [some (.ref (ad 22 0)), some (.int (iI k9)), some (.int (iI q)), none, none]) hfl hI (by decide) rfl (Nat.le_of_ble_eq_true rfl) rfl ?_
  intro p e s m args below meth c C hr
  have hcm := hM.2.2.2.2.2.2
  have K_68 : ∀ (g9 : Int) (cd : Int) (o : Int), ((cd = 0 ∧ (((0 ≤ k9 ∧ k9 < σ 22 0 13) ∧ (0 ≤ q ∧ q < 5)) ∧ 0 < σ 30 0 (5 * k9 + q) - σ 31 0 (5 * k9 + q))) ∨ (cd = 1 ∧ (¬ ((0 ≤ k9 ∧ k9 < σ 22 0 13) ∧ (0 ≤ q ∧ q < 5)))) ∨ (cd = 2 ∧ (((0 ≤ k9 ∧ k9 < σ 22 0 13) ∧ (0 ≤ q ∧ q < 5)) ∧ ¬ 0 < σ 30 0 (5 * k9 + q) - σ 31 0 (5 * k9 + q)))) → ((g9 = 1 ∧ cd = 0) ∨ (g9 = 0 ∧ ¬ cd = 0)) → (((0 ≤ k9 ∧ k9 < σ 22 0 13) ∧ (0 ≤ q ∧ q < 5)) → o = σ 30 0 (5 * k9 + q) - σ 31 0 (5 * k9 + q)) → JW p l e ({ frames := 2, cells := 0, slots := 0, locals := 43 } : Room) s m args below meth c cy D ad (Ar ad s.heap.size) 5 0 0 (MQ below (QcI cy D ad (fun z σ' => ∃ cd, ((cd = 0 ∧ (((0 ≤ k9 ∧ k9 < σ 22 0 13) ∧ (0 ≤ q ∧ q < 5)) ∧ 0 < σ 30 0 (5 * k9 + q) - σ 31 0 (5 * k9 + q))) ∨ (cd = 1 ∧ (¬ ((0 ≤ k9 ∧ k9 < σ 22 0 13) ∧ (0 ≤ q ∧ q < 5)))) ∨ (cd = 2 ∧ (((0 ≤ k9 ∧ k9 < σ 22 0 13) ∧ (0 ≤ q ∧ q < 5)) ∧ ¬ 0 < σ 30 0 (5 * k9 + q) - σ 31 0 (5 * k9 + q)))) ∧ (cd = 0 → z = σ 30 0 (5 * k9 + q) - σ 31 0 (5 * k9 + q) ∧ σ' = su (su σ 22 0 24 0) 31 0 (5 * k9 + q) (σ 31 0 (5 * k9 + q) + (σ 30 0 (5 * k9 + q) - σ 31 0 (5 * k9 + q)))) ∧ (¬ cd = 0 → σ' = su σ 22 0 24 cd)) s.heap.size) args s 0 0 (Ar ad s.heap.size)) (su σ 22 0 24 cd) 68 [some (.ref (ad 22 0)), some (.int (iI k9)), some (.int (iI q)), none, some (.int (iI o))] [.int (iI g9)] := by
    intro g9 cd o g0 g1 g2
    refine J_if_ne (tgt := 73) C (by omega) dX4_pay_68 (by decide) (fun c_68 => ?_) (fun c_68 => ?_)
    · refine J_aload_0 C dX4_pay_73 ?_
      refine J_get_4_12 C in_X4_pay_X4 fl_X4_pay_39 (by decide) dX4_pay_74 ?_
      have hkq : (0 ≤ k9 ∧ k9 < σ 22 0 13) ∧ (0 ≤ q ∧ q < 5) := by rcases g0 with z | z | z <;> first | exact z.2.1 | omega
      have go := g2 hkq
      subst go
      refine J_iconst C dX4_pay_77 ?_
      refine J_iload_1 C dX4_pay_78 ?_
      refine J_imul C dX4_pay_79 ?_
      refine J_iload_2 C dX4_pay_80 ?_
      refine J_iadd C dX4_pay_81 ?_
      refine J_dup2 C rfl rfl dX4_pay_82 ?_
      refine J_iaload C k31 (by decide) (by omega) dX4_pay_83 ?_
      refine J_iload4 C dX4_pay_84 ?_
      rw [su_nk (by decide)]
      refine J_iadd C dX4_pay_86 ?_
      refine J_iastore C k31 (by decide) (by omega) dX4_pay_87 ?_
      refine J_iload4 C dX4_pay_88 ?_
      refine J_retI C hr (by decide) (by decide) dX4_pay_90 ?_
      have hcd : cd = 0 := by omega
      subst hcd
      exact ⟨0, g0, fun _ => ⟨rfl, rfl⟩, fun z => absurd rfl z⟩
    · refine J_iconst C dX4_pay_71 ?_
      refine J_retI C hr (by decide) (by decide) dX4_pay_72 ?_
      exact ⟨cd, g0, fun z => by omega, fun _ => rfl⟩
  have K_50 : ∀ (kn : Int) (o : Int), ((kn = 1 ∧ ((0 ≤ k9 ∧ k9 < σ 22 0 13) ∧ (0 ≤ q ∧ q < 5))) ∨ (kn = 0 ∧ ¬ ((0 ≤ k9 ∧ k9 < σ 22 0 13) ∧ (0 ≤ q ∧ q < 5)))) → (((0 ≤ k9 ∧ k9 < σ 22 0 13) ∧ (0 ≤ q ∧ q < 5)) → o = σ 30 0 (5 * k9 + q) - σ 31 0 (5 * k9 + q)) → (¬ ((0 ≤ k9 ∧ k9 < σ 22 0 13) ∧ (0 ≤ q ∧ q < 5)) → o = 0) → JW p l e ({ frames := 2, cells := 0, slots := 0, locals := 43 } : Room) s m args below meth c cy D ad (Ar ad s.heap.size) 5 0 0 (MQ below (QcI cy D ad (fun z σ' => ∃ cd, ((cd = 0 ∧ (((0 ≤ k9 ∧ k9 < σ 22 0 13) ∧ (0 ≤ q ∧ q < 5)) ∧ 0 < σ 30 0 (5 * k9 + q) - σ 31 0 (5 * k9 + q))) ∨ (cd = 1 ∧ (¬ ((0 ≤ k9 ∧ k9 < σ 22 0 13) ∧ (0 ≤ q ∧ q < 5)))) ∨ (cd = 2 ∧ (((0 ≤ k9 ∧ k9 < σ 22 0 13) ∧ (0 ≤ q ∧ q < 5)) ∧ ¬ 0 < σ 30 0 (5 * k9 + q) - σ 31 0 (5 * k9 + q)))) ∧ (cd = 0 → z = σ 30 0 (5 * k9 + q) - σ 31 0 (5 * k9 + q) ∧ σ' = su (su σ 22 0 24 0) 31 0 (5 * k9 + q) (σ 31 0 (5 * k9 + q) + (σ 30 0 (5 * k9 + q) - σ 31 0 (5 * k9 + q)))) ∧ (¬ cd = 0 → σ' = su σ 22 0 24 cd)) s.heap.size) args s 0 0 (Ar ad s.heap.size)) σ 50 [some (.ref (ad 22 0)), some (.int (iI k9)), some (.int (iI q)), some (.int (iI kn)), none] [.int (iI o)] := by
    intro kn o u0 u1 u2
    have hor : I32 o := by
      by_cases z : (0 ≤ k9 ∧ k9 < σ 22 0 13) ∧ (0 ≤ q ∧ q < 5)
      · rw [u1 z]; exact hpr _ (by omega) (by omega)
      · rw [u2 z]; omega
    refine J_istore4 C (by decide) rfl dX4_pay_50 ?_
    refine J_aload_0 C dX4_pay_52 ?_
    refine J_iload_3 C dX4_pay_53 ?_
    refine J_iload4 C dX4_pay_54 ?_
    refine J_if_le (tgt := 63) C (by exact hor) dX4_pay_56 (by decide) (fun c_56 => ?_) (fun c_56 => ?_)
    · refine J_iconst C dX4_pay_63 ?_
      refine J_iconst C dX4_pay_64 ?_
      refine J_KVI C (c_X4_goes hfl hI _ _ _ _ (by first | exact Or.inl rfl | exact Or.inr rfl | (split <;> omega) | omega) (by first | exact Or.inl rfl | exact Or.inr rfl | (split <;> omega) | omega) (by first | exact Or.inl rfl | exact Or.inr rfl | (split <;> omega) | omega)) (cwV 3 C.1.2.2.2.2 gX4_pay_X4_goes rfl rfl rfl (by decide +kernel) ⟨Nat.le_of_ble_eq_true rfl, Nat.le_of_ble_eq_true rfl⟩) rc4 (by decide) rfl rfl (Nat.le_of_ble_eq_true rfl) dX4_pay_65 ⟨Nat.le_of_ble_eq_true rfl, Nat.le_of_ble_eq_true rfl⟩ (fun z_65 σ_65 hp => ?_)
      obtain ⟨hz_, hs_⟩ := hp
      have hz_ := hz_.symm
      have hs_ := hs_.symm
      subst hz_
      subst hs_
      -- to the cut at 68
      refine J_fg3 ?_
      refine K_68 _ _ _ ?_ ?_ ?_
      · simp only [gcd3]
        grind
      · split <;> omega
      · exact u1
    · refine J_iconst C dX4_pay_59 ?_
      refine J_goto (tgt := 64) C dX4_pay_60 (by decide) ?_
      refine J_iconst C dX4_pay_64 ?_
      refine J_KVI C (c_X4_goes hfl hI _ _ _ _ (by first | exact Or.inl rfl | exact Or.inr rfl | (split <;> omega) | omega) (by first | exact Or.inl rfl | exact Or.inr rfl | (split <;> omega) | omega) (by first | exact Or.inl rfl | exact Or.inr rfl | (split <;> omega) | omega)) (cwV 3 C.1.2.2.2.2 gX4_pay_X4_goes rfl rfl rfl (by decide +kernel) ⟨Nat.le_of_ble_eq_true rfl, Nat.le_of_ble_eq_true rfl⟩) rc4 (by decide) rfl rfl (Nat.le_of_ble_eq_true rfl) dX4_pay_65 ⟨Nat.le_of_ble_eq_true rfl, Nat.le_of_ble_eq_true rfl⟩ (fun z_65 σ_65 hp => ?_)
      obtain ⟨hz_, hs_⟩ := hp
      have hz_ := hz_.symm
      have hs_ := hs_.symm
      subst hz_
      subst hs_
      -- to the cut at 68
      refine J_fg3 ?_
      refine K_68 _ _ _ ?_ ?_ ?_
      · simp only [gcd3]
        grind
      · split <;> omega
      · exact u1
  have K_20 : ∀ (kn : Int), ((kn = 1 ∧ ((0 ≤ k9 ∧ k9 < σ 22 0 13) ∧ (0 ≤ q ∧ q < 5))) ∨ (kn = 0 ∧ ¬ ((0 ≤ k9 ∧ k9 < σ 22 0 13) ∧ (0 ≤ q ∧ q < 5)))) → JW p l e ({ frames := 2, cells := 0, slots := 0, locals := 43 } : Room) s m args below meth c cy D ad (Ar ad s.heap.size) 5 0 0 (MQ below (QcI cy D ad (fun z σ' => ∃ cd, ((cd = 0 ∧ (((0 ≤ k9 ∧ k9 < σ 22 0 13) ∧ (0 ≤ q ∧ q < 5)) ∧ 0 < σ 30 0 (5 * k9 + q) - σ 31 0 (5 * k9 + q))) ∨ (cd = 1 ∧ (¬ ((0 ≤ k9 ∧ k9 < σ 22 0 13) ∧ (0 ≤ q ∧ q < 5)))) ∨ (cd = 2 ∧ (((0 ≤ k9 ∧ k9 < σ 22 0 13) ∧ (0 ≤ q ∧ q < 5)) ∧ ¬ 0 < σ 30 0 (5 * k9 + q) - σ 31 0 (5 * k9 + q)))) ∧ (cd = 0 → z = σ 30 0 (5 * k9 + q) - σ 31 0 (5 * k9 + q) ∧ σ' = su (su σ 22 0 24 0) 31 0 (5 * k9 + q) (σ 31 0 (5 * k9 + q) + (σ 30 0 (5 * k9 + q) - σ 31 0 (5 * k9 + q)))) ∧ (¬ cd = 0 → σ' = su σ 22 0 24 cd)) s.heap.size) args s 0 0 (Ar ad s.heap.size)) σ 20 [some (.ref (ad 22 0)), some (.int (iI k9)), some (.int (iI q)), none, none] [.int (iI kn)] := by
    intro kn u0
    refine J_istore_3 C (by decide) rfl dX4_pay_20 ?_
    refine J_iload_3 C dX4_pay_21 ?_
    refine J_if_eq (tgt := 49) C (by omega) dX4_pay_22 (by decide) (fun c_22 => ?_) (fun c_22 => ?_)
    · refine J_iconst C dX4_pay_49 ?_
      -- to the cut at 50
      refine K_50 _ _ ?_ ?_ ?_
      · exact u0
      · intro z
        first | rfl | omega
      · intro z
        first | rfl | omega
    · refine J_aload_0 C dX4_pay_25 ?_
      refine J_get_4_11 C in_X4_pay_X4 fl_X4_pay_36 (by decide) dX4_pay_26 ?_
      refine J_iconst C dX4_pay_29 ?_
      refine J_iload_1 C dX4_pay_30 ?_
      refine J_imul C dX4_pay_31 ?_
      refine J_iload_2 C dX4_pay_32 ?_
      refine J_iadd C dX4_pay_33 ?_
      refine J_iaload C k30 (by decide) (by omega) dX4_pay_34 ?_
      refine J_aload_0 C dX4_pay_35 ?_
      refine J_get_4_12 C in_X4_pay_X4 fl_X4_pay_39 (by decide) dX4_pay_36 ?_
      refine J_iconst C dX4_pay_39 ?_
      refine J_iload_1 C dX4_pay_40 ?_
      refine J_imul C dX4_pay_41 ?_
      refine J_iload_2 C dX4_pay_42 ?_
      refine J_iadd C dX4_pay_43 ?_
      refine J_iaload C k31 (by decide) (by omega) dX4_pay_44 ?_
      refine J_isub C dX4_pay_45 ?_
      refine J_goto (tgt := 50) C dX4_pay_46 (by decide) ?_
      -- to the cut at 50
      refine K_50 _ _ ?_ ?_ ?_
      · exact u0
      · intro z
        first | rfl | omega
      · intro z
        first | rfl | omega
  refine J_aload_0 C dX4_pay_0 ?_
  refine J_iload_1 C dX4_pay_1 ?_
  refine J_KVI C (c_X4_isCall hfl hI _ k9 hk9 hcm) (cwV 1 C.1.2.2.2.2 gX4_pay_X4_isCall rfl rfl rfl (by decide +kernel) ⟨Nat.le_of_ble_eq_true rfl, Nat.le_of_ble_eq_true rfl⟩) rc4 (by decide) rfl rfl (Nat.le_of_ble_eq_true rfl) dX4_pay_2 ⟨Nat.le_of_ble_eq_true rfl, Nat.le_of_ble_eq_true rfl⟩ (fun z_2 σ_2 hp => ?_)
  obtain ⟨hz_, hs_⟩ := hp
  have hz_ := hz_.symm
  have hs_ := hs_.symm
  subst hz_
  subst hs_
  refine J_if_eq (tgt := 19) C (by split <;> omega) dX4_pay_5 (by decide) (fun c_5 => ?_) (fun c_5 => ?_)
  · refine J_iconst C dX4_pay_19 ?_
    -- to the cut at 20
    refine K_20 _ ?_
    · omega
  · refine J_iload_2 C dX4_pay_8 ?_
    refine J_KSI C (c_X4_isPartner hfl hI _ q hq9) (va_cwS 1 C.1.2.2.2.2 gX4_pay_X4_isPartner rfl rfl rfl (by decide +kernel) ⟨Nat.le_of_ble_eq_true rfl, Nat.le_of_ble_eq_true rfl⟩) rfl rfl (Nat.le_of_ble_eq_true rfl) dX4_pay_9 ⟨Nat.le_of_ble_eq_true rfl, Nat.le_of_ble_eq_true rfl⟩ (fun z_9 σ_9 hp => ?_)
    obtain ⟨hz_, hs_⟩ := hp
    have hz_ := hz_.symm
    have hs_ := hs_.symm
    subst hz_
    subst hs_
    refine J_if_eq (tgt := 19) C (by split <;> omega) dX4_pay_12 (by decide) (fun c_12 => ?_) (fun c_12 => ?_)
    · refine J_iconst C dX4_pay_19 ?_
      -- to the cut at 20
      refine K_20 _ ?_
      · omega
    · refine J_iconst C dX4_pay_15 ?_
      refine J_goto (tgt := 20) C dX4_pay_16 (by decide) ?_
      -- to the cut at 20
      refine K_20 _ ?_
      · omega
set_option maxRecDepth 20000 in
theorem in_X4_asked_X4 : ∀ w ∈ wsX40, w ∈ wsX4_asked := by decide +kernel
set_option maxRecDepth 20000 in
theorem fl_X4_asked_36 : Cond.fieldLink RX4 36 "JointVentureModel" "asks" "[I" ∈ wsX4_asked := by decide +kernel
set_option maxHeartbeats 4000000 in
set_option maxRecDepth 100000 in
theorem c_X4_asked {l : Launch} (hfl : l.stackTraces = false) {cy : Nat → ClassId} {D : va_G} {ad : Ad} (hI : Inj ad) (σ : Sg) (k9 q : Int) (hk9 : I32 k9) (hq9 : I32 q) (hM : Mi σ) : KI l yX4_asked wsX4_asked ({ frames := 2, cells := 0, slots := 0, locals := 43 } : Room) cy D ad σ [.ref (ad 22 0), .int (iI k9), .int (iI q)] (fun z σ' => ∃ cd, ((cd = 0 ∧ ((0 ≤ k9 ∧ k9 < σ 22 0 13) ∧ (0 ≤ q ∧ q < 5))) ∨ (cd = 1 ∧ (¬ ((0 ≤ k9 ∧ k9 < σ 22 0 13) ∧ (0 ≤ q ∧ q < 5))))) ∧ (cd = 0 → z = σ 30 0 (5 * k9 + q) ∧ σ' = su σ 22 0 24 0) ∧ (¬ cd = 0 → σ' = su σ 22 0 24 cd)) 0 0 := by
  refine KI.of (lv0 := [some (.ref (ad 22 0)), some (.int (iI k9)), some (.int (iI q))]) hfl hI (by decide) rfl (Nat.le_of_ble_eq_true rfl) rfl ?_
  intro p e s m args below meth c C hr
  have hcm := hM.2.2.2.2.2.2
  have K_26 : ∀ (g9 : Int) (cd : Int), ((cd = 0 ∧ ((0 ≤ k9 ∧ k9 < σ 22 0 13) ∧ (0 ≤ q ∧ q < 5))) ∨ (cd = 1 ∧ (¬ ((0 ≤ k9 ∧ k9 < σ 22 0 13) ∧ (0 ≤ q ∧ q < 5))))) → ((g9 = 1 ∧ cd = 0) ∨ (g9 = 0 ∧ ¬ cd = 0)) → JW p l e ({ frames := 2, cells := 0, slots := 0, locals := 43 } : Room) s m args below meth c cy D ad (Ar ad s.heap.size) 3 0 0 (MQ below (QcI cy D ad (fun z σ' => ∃ cd, ((cd = 0 ∧ ((0 ≤ k9 ∧ k9 < σ 22 0 13) ∧ (0 ≤ q ∧ q < 5))) ∨ (cd = 1 ∧ (¬ ((0 ≤ k9 ∧ k9 < σ 22 0 13) ∧ (0 ≤ q ∧ q < 5))))) ∧ (cd = 0 → z = σ 30 0 (5 * k9 + q) ∧ σ' = su σ 22 0 24 0) ∧ (¬ cd = 0 → σ' = su σ 22 0 24 cd)) s.heap.size) args s 0 0 (Ar ad s.heap.size)) (su σ 22 0 24 cd) 26 [some (.ref (ad 22 0)), some (.int (iI k9)), some (.int (iI q))] [.int (iI g9)] := by
    intro g9 cd g0 g1
    refine J_if_eq (tgt := 42) C (by omega) dX4_asked_26 (by decide) (fun c_26 => ?_) (fun c_26 => ?_)
    · refine J_iconst C dX4_asked_42 ?_
      refine J_retI C hr (by decide) (by decide) dX4_asked_43 ?_
      (first
        | (exact ⟨cd, g0, fun z => by omega, fun _ => rfl⟩)
        | (have hcd : cd = 0 := by omega
           subst hcd
           exact ⟨0, g0, fun _ => ⟨su_nk (by decide), rfl⟩, fun z => absurd rfl z⟩))
    · refine J_aload_0 C dX4_asked_29 ?_
      refine J_get_4_11 C in_X4_asked_X4 fl_X4_asked_36 (by decide) dX4_asked_30 ?_
      refine J_iconst C dX4_asked_33 ?_
      refine J_iload_1 C dX4_asked_34 ?_
      refine J_imul C dX4_asked_35 ?_
      refine J_iload_2 C dX4_asked_36 ?_
      refine J_iadd C dX4_asked_37 ?_
      refine J_iaload C k30 (by decide) (by omega) dX4_asked_38 ?_
      refine J_goto (tgt := 43) C dX4_asked_39 (by decide) ?_
      refine J_retI C hr (by decide) (by decide) dX4_asked_43 ?_
      (first
        | (exact ⟨cd, g0, fun z => by omega, fun _ => rfl⟩)
        | (have hcd : cd = 0 := by omega
           subst hcd
           exact ⟨0, g0, fun _ => ⟨su_nk (by decide), rfl⟩, fun z => absurd rfl z⟩))
  have K_21 : ∀ (kn : Int), ((kn = 1 ∧ ((0 ≤ k9 ∧ k9 < σ 22 0 13) ∧ (0 ≤ q ∧ q < 5))) ∨ (kn = 0 ∧ ¬ ((0 ≤ k9 ∧ k9 < σ 22 0 13) ∧ (0 ≤ q ∧ q < 5)))) → JW p l e ({ frames := 2, cells := 0, slots := 0, locals := 43 } : Room) s m args below meth c cy D ad (Ar ad s.heap.size) 3 0 0 (MQ below (QcI cy D ad (fun z σ' => ∃ cd, ((cd = 0 ∧ ((0 ≤ k9 ∧ k9 < σ 22 0 13) ∧ (0 ≤ q ∧ q < 5))) ∨ (cd = 1 ∧ (¬ ((0 ≤ k9 ∧ k9 < σ 22 0 13) ∧ (0 ≤ q ∧ q < 5))))) ∧ (cd = 0 → z = σ 30 0 (5 * k9 + q) ∧ σ' = su σ 22 0 24 0) ∧ (¬ cd = 0 → σ' = su σ 22 0 24 cd)) s.heap.size) args s 0 0 (Ar ad s.heap.size)) σ 21 [some (.ref (ad 22 0)), some (.int (iI k9)), some (.int (iI q))] [.int (iI kn), .ref (ad 22 0)] := by
    intro kn u0
    refine J_iconst C dX4_asked_21 ?_
    refine J_iconst C dX4_asked_22 ?_
    refine J_KVI C (c_X4_goes hfl hI _ _ _ _ (by first | exact Or.inl rfl | exact Or.inr rfl | (split <;> omega) | omega) (by first | exact Or.inl rfl | exact Or.inr rfl | (split <;> omega) | omega) (by first | exact Or.inl rfl | exact Or.inr rfl | (split <;> omega) | omega)) (cwV 3 C.1.2.2.2.2 gX4_asked_X4_goes rfl rfl rfl (by decide +kernel) ⟨Nat.le_of_ble_eq_true rfl, Nat.le_of_ble_eq_true rfl⟩) rc4 (by decide) rfl rfl (Nat.le_of_ble_eq_true rfl) dX4_asked_23 ⟨Nat.le_of_ble_eq_true rfl, Nat.le_of_ble_eq_true rfl⟩ (fun z_23 σ_23 hp => ?_)
    obtain ⟨hz_, hs_⟩ := hp
    have hz_ := hz_.symm
    have hs_ := hs_.symm
    subst hz_
    subst hs_
    -- to the cut at 26
    refine K_26 _ _ ?_ ?_
    · simp only [gcd3]
      grind
    · split <;> omega
  refine J_aload_0 C dX4_asked_0 ?_
  refine J_aload_0 C dX4_asked_1 ?_
  refine J_iload_1 C dX4_asked_2 ?_
  refine J_KVI C (c_X4_isCall hfl hI _ k9 hk9 hcm) (cwV 1 C.1.2.2.2.2 gX4_asked_X4_isCall rfl rfl rfl (by decide +kernel) ⟨Nat.le_of_ble_eq_true rfl, Nat.le_of_ble_eq_true rfl⟩) rc4 (by decide) rfl rfl (Nat.le_of_ble_eq_true rfl) dX4_asked_3 ⟨Nat.le_of_ble_eq_true rfl, Nat.le_of_ble_eq_true rfl⟩ (fun z_3 σ_3 hp => ?_)
  obtain ⟨hz_, hs_⟩ := hp
  have hz_ := hz_.symm
  have hs_ := hs_.symm
  subst hz_
  subst hs_
  refine J_if_eq (tgt := 20) C (by split <;> omega) dX4_asked_6 (by decide) (fun c_6 => ?_) (fun c_6 => ?_)
  · refine J_iconst C dX4_asked_20 ?_
    -- to the cut at 21
    refine K_21 _ ?_
    · omega
  · refine J_iload_2 C dX4_asked_9 ?_
    refine J_KSI C (c_X4_isPartner hfl hI _ q hq9) (va_cwS 1 C.1.2.2.2.2 gX4_asked_X4_isPartner rfl rfl rfl (by decide +kernel) ⟨Nat.le_of_ble_eq_true rfl, Nat.le_of_ble_eq_true rfl⟩) rfl rfl (Nat.le_of_ble_eq_true rfl) dX4_asked_10 ⟨Nat.le_of_ble_eq_true rfl, Nat.le_of_ble_eq_true rfl⟩ (fun z_10 σ_10 hp => ?_)
    obtain ⟨hz_, hs_⟩ := hp
    have hz_ := hz_.symm
    have hs_ := hs_.symm
    subst hz_
    subst hs_
    refine J_if_eq (tgt := 20) C (by split <;> omega) dX4_asked_13 (by decide) (fun c_13 => ?_) (fun c_13 => ?_)
    · refine J_iconst C dX4_asked_20 ?_
      -- to the cut at 21
      refine K_21 _ ?_
      · omega
    · refine J_iconst C dX4_asked_16 ?_
      refine J_goto (tgt := 21) C dX4_asked_17 (by decide) ?_
      -- to the cut at 21
      refine K_21 _ ?_
      · omega
set_option maxRecDepth 20000 in
theorem in_X4_allPaid_X4 : ∀ w ∈ wsX40, w ∈ wsX4_allPaid := by decide +kernel
set_option maxRecDepth 20000 in
theorem fl_X4_allPaid_86 : Cond.fieldLink RX4 86 "JointVentureModel" "calls" "I" ∈ wsX4_allPaid := by decide +kernel
set_option maxRecDepth 20000 in
theorem fl_X4_allPaid_39 : Cond.fieldLink RX4 39 "JointVentureModel" "pays" "[I" ∈ wsX4_allPaid := by decide +kernel
set_option maxHeartbeats 4000000 in
set_option maxRecDepth 100000 in
theorem c_X4_allPaid {l : Launch} (hfl : l.stackTraces = false) {cy : Nat → ClassId} {D : va_G} {ad : Ad} (hI : Inj ad) (σ : Sg) (q : Int) (hq : 0 ≤ q ∧ q < 5) (hcm : 0 ≤ σ 22 0 13 ∧ σ 22 0 13 ≤ 20) : KI l yX4_allPaid wsX4_allPaid ({ frames := 0, cells := 0, slots := 0, locals := 0 } : Room) cy D ad σ [.ref (ad 22 0), .int (iI q)] (fun z σ' => z = sN (fun k => σ 31 0 (5 * k + q)) (σ 22 0 13).toNat ∧ σ' = σ) 0 0 := by
  refine KI.of (lv0 := [some (.ref (ad 22 0)), some (.int (iI q)), none, none]) hfl hI (by decide) rfl (Nat.le_of_ble_eq_true rfl) rfl ?_
  intro p e s m args below meth c C hr
  have K_4 : ∀ (n_ : Nat) (t : Int) (i : Int), (∃ j : Nat, i = (j : Int) ∧ (j : Int) ≤ σ 22 0 13 ∧ t = sN (fun k => σ 31 0 (5 * k + q)) j) → (σ 22 0 13 - i < n_) → (0 ≤ i ∧ i ≤ σ 22 0 13) → JW p l e ({ frames := 0, cells := 0, slots := 0, locals := 0 } : Room) s m args below meth c cy D ad (Ar ad s.heap.size) 4 0 0 (MQ below (QcI cy D ad (fun z σ' => z = sN (fun k => σ 31 0 (5 * k + q)) (σ 22 0 13).toNat ∧ σ' = σ) s.heap.size) args s 0 0 (Ar ad s.heap.size)) σ 4 [some (.ref (ad 22 0)), some (.int (iI q)), some (.int (iI t)), some (.int (iI i))] [] := by
    intro n_
    induction n_ with
    | zero => intro t i g0 g1 g2; omega
    | succ n_ ih_4 =>
      intro t i g0 g1 g2
      obtain ⟨j, rfl, hj, rfl⟩ := g0
      refine J_iload_3 C dX4_allPaid_4 ?_
      refine J_aload_0 C dX4_allPaid_5 ?_
      refine J_get_4_13 C in_X4_allPaid_X4 fl_X4_allPaid_86 (by decide) dX4_allPaid_6 ?_
      refine J_icmp_ge (tgt := 31) C (by omega) (by omega) dX4_allPaid_9 (by decide) (fun c_9 => ?_) (fun c_9 => ?_)
      · refine J_iload_2 C dX4_allPaid_31 ?_
        refine J_retI C hr (by decide) (by decide) dX4_allPaid_32 ?_
        have e : (σ 22 0 13).toNat = j := by omega
        rw [e]
        exact ⟨rfl, rfl⟩
      · refine J_iload_2 C dX4_allPaid_12 ?_
        refine J_aload_0 C dX4_allPaid_13 ?_
        refine J_get_4_12 C in_X4_allPaid_X4 fl_X4_allPaid_39 (by decide) dX4_allPaid_14 ?_
        refine J_iconst C dX4_allPaid_17 ?_
        refine J_iload_3 C dX4_allPaid_18 ?_
        refine J_imul C dX4_allPaid_19 ?_
        refine J_iload_1 C dX4_allPaid_20 ?_
        refine J_iadd C dX4_allPaid_21 ?_
        refine J_iaload C k31 (by decide) (by omega) dX4_allPaid_22 ?_
        refine J_iadd C dX4_allPaid_23 ?_
        refine J_istore_2 C (by decide) rfl dX4_allPaid_24 ?_
        refine J_iinc3 C (by decide) rfl dX4_allPaid_25 ?_
        refine J_goto (tgt := 4) C dX4_allPaid_28 (by decide) ?_
        -- to the cut at 4
        refine ih_4 _ _ ?_ ?_ ?_
        · exact ⟨j + 1, by omega, by omega, rfl⟩
        · omega
        · omega
  refine J_iconst C dX4_allPaid_0 ?_
  refine J_istore_2 C (by decide) rfl dX4_allPaid_1 ?_
  refine J_iconst C dX4_allPaid_2 ?_
  refine J_istore_3 C (by decide) rfl dX4_allPaid_3 ?_
  -- to the cut at 4
  refine K_4 21 _ _ ?_ ?_ ?_
  · exact ⟨0, rfl, by omega, rfl⟩
  · omega
  · omega
set_option maxHeartbeats 4000000 in
set_option maxRecDepth 100000 in
theorem c_X4_paid {l : Launch} (hfl : l.stackTraces = false) {cy : Nat → ClassId} {D : va_G} {ad : Ad} (hI : Inj ad) (σ : Sg) (q : Int) (hq9 : I32 q) (hM : Mi σ) : KI l yX4_paid wsX4_paid ({ frames := 2, cells := 0, slots := 0, locals := 42 } : Room) cy D ad σ [.ref (ad 22 0), .int (iI q)] (fun z σ' => ∃ cd, ((cd = 0 ∧ (0 ≤ q ∧ q < 5)) ∨ (cd = 1 ∧ (¬ (0 ≤ q ∧ q < 5)))) ∧ (cd = 0 → z = sN (fun k => σ 31 0 (5 * k + q)) (σ 22 0 13).toNat ∧ σ' = su σ 22 0 24 0) ∧ (¬ cd = 0 → σ' = su σ 22 0 24 cd)) 0 0 := by
  refine KI.of (lv0 := [some (.ref (ad 22 0)), some (.int (iI q))]) hfl hI (by decide) rfl (Nat.le_of_ble_eq_true rfl) rfl ?_
  intro p e s m args below meth c C hr
  have hcm := hM.2.2.2.2.2.2
  have K_10 : ∀ (g9 : Int) (cd : Int), ((cd = 0 ∧ (0 ≤ q ∧ q < 5)) ∨ (cd = 1 ∧ (¬ (0 ≤ q ∧ q < 5)))) → ((g9 = 1 ∧ cd = 0) ∨ (g9 = 0 ∧ ¬ cd = 0)) → JW p l e ({ frames := 2, cells := 0, slots := 0, locals := 42 } : Room) s m args below meth c cy D ad (Ar ad s.heap.size) 2 0 0 (MQ below (QcI cy D ad (fun z σ' => ∃ cd, ((cd = 0 ∧ (0 ≤ q ∧ q < 5)) ∨ (cd = 1 ∧ (¬ (0 ≤ q ∧ q < 5)))) ∧ (cd = 0 → z = sN (fun k => σ 31 0 (5 * k + q)) (σ 22 0 13).toNat ∧ σ' = su σ 22 0 24 0) ∧ (¬ cd = 0 → σ' = su σ 22 0 24 cd)) s.heap.size) args s 0 0 (Ar ad s.heap.size)) (su σ 22 0 24 cd) 10 [some (.ref (ad 22 0)), some (.int (iI q))] [.int (iI g9)] := by
    intro g9 cd g0 g1
    refine J_if_eq (tgt := 21) C (by omega) dX4_paid_10 (by decide) (fun c_10 => ?_) (fun c_10 => ?_)
    · refine J_iconst C dX4_paid_21 ?_
      refine J_retI C hr (by decide) (by decide) dX4_paid_22 ?_
      (first
        | (exact ⟨cd, g0, fun z => by omega, fun _ => rfl⟩)
        | (have hcd : cd = 0 := by omega
           subst hcd
           exact ⟨0, g0, fun _ => ⟨rfl, rfl⟩, fun z => absurd rfl z⟩))
    · refine J_aload_0 C dX4_paid_13 ?_
      refine J_iload_1 C dX4_paid_14 ?_
      refine J_KVI C (c_X4_allPaid hfl hI _ q (by omega) (by rw [su_ne3 (Or.inr (Or.inr (by decide)))]; exact hcm)) (cwV 1 C.1.2.2.2.2 gX4_paid_X4_allPaid rfl rfl rfl (by decide +kernel) ⟨Nat.le_of_ble_eq_true rfl, Nat.le_of_ble_eq_true rfl⟩) rc4 (by decide) rfl rfl (Nat.le_of_ble_eq_true rfl) dX4_paid_15 ⟨Nat.le_of_ble_eq_true rfl, Nat.le_of_ble_eq_true rfl⟩ (fun z_15 σ_15 hp => ?_)
      obtain ⟨hz_, hs_⟩ := hp
      rw [su_ne3 (Or.inr (Or.inr (by decide))), show (fun k => su σ 22 0 24 cd 31 0 (5 * k + q)) = (fun k => σ 31 0 (5 * k + q)) from funext (fun k => su_nk (by decide))] at hz_
      have hz_ := hz_.symm
      have hs_ := hs_.symm
      subst hz_
      subst hs_
      refine J_goto (tgt := 22) C dX4_paid_18 (by decide) ?_
      refine J_retI C hr (by decide) (by decide) dX4_paid_22 ?_
      (first
        | (exact ⟨cd, g0, fun z => by omega, fun _ => rfl⟩)
        | (have hcd : cd = 0 := by omega
           subst hcd
           exact ⟨0, g0, fun _ => ⟨rfl, rfl⟩, fun z => absurd rfl z⟩))
  refine J_aload_0 C dX4_paid_0 ?_
  refine J_iload_1 C dX4_paid_1 ?_
  refine J_KSI C (c_X4_isPartner hfl hI _ q hq9) (va_cwS 1 C.1.2.2.2.2 gX4_paid_X4_isPartner rfl rfl rfl (by decide +kernel) ⟨Nat.le_of_ble_eq_true rfl, Nat.le_of_ble_eq_true rfl⟩) rfl rfl (Nat.le_of_ble_eq_true rfl) dX4_paid_2 ⟨Nat.le_of_ble_eq_true rfl, Nat.le_of_ble_eq_true rfl⟩ (fun z_2 σ_2 hp => ?_)
  obtain ⟨hz_, hs_⟩ := hp
  have hz_ := hz_.symm
  have hs_ := hs_.symm
  subst hz_
  subst hs_
  refine J_iconst C dX4_paid_5 ?_
  refine J_iconst C dX4_paid_6 ?_
  refine J_KVI C (c_X4_goes hfl hI _ _ _ _ (by first | exact Or.inl rfl | exact Or.inr rfl | (split <;> omega) | omega) (by first | exact Or.inl rfl | exact Or.inr rfl | (split <;> omega) | omega) (by first | exact Or.inl rfl | exact Or.inr rfl | (split <;> omega) | omega)) (cwV 3 C.1.2.2.2.2 gX4_paid_X4_goes rfl rfl rfl (by decide +kernel) ⟨Nat.le_of_ble_eq_true rfl, Nat.le_of_ble_eq_true rfl⟩) rc4 (by decide) rfl rfl (Nat.le_of_ble_eq_true rfl) dX4_paid_7 ⟨Nat.le_of_ble_eq_true rfl, Nat.le_of_ble_eq_true rfl⟩ (fun z_7 σ_7 hp => ?_)
  obtain ⟨hz_, hs_⟩ := hp
  have hz_ := hz_.symm
  have hs_ := hs_.symm
  subst hz_
  subst hs_
  -- to the cut at 10
  refine K_10 _ _ ?_ ?_
  · simp only [gcd3]
    grind
  · split <;> omega
set_option maxRecDepth 20000 in
theorem in_X4_owes_X4 : ∀ w ∈ wsX40, w ∈ wsX4_owes := by decide +kernel
set_option maxRecDepth 20000 in
theorem fl_X4_owes_42 : Cond.fieldLink RX4 42 "JointVentureModel" "owed" "[I" ∈ wsX4_owes := by decide +kernel
set_option maxHeartbeats 4000000 in
set_option maxRecDepth 100000 in
theorem c_X4_owes {l : Launch} (hfl : l.stackTraces = false) {cy : Nat → ClassId} {D : va_G} {ad : Ad} (hI : Inj ad) (σ : Sg) (q : Int) (hq9 : I32 q) (hM : Mi σ) : KI l yX4_owes wsX4_owes ({ frames := 2, cells := 0, slots := 0, locals := 42 } : Room) cy D ad σ [.ref (ad 22 0), .int (iI q)] (fun z σ' => ∃ cd, ((cd = 0 ∧ (0 ≤ q ∧ q < 5)) ∨ (cd = 1 ∧ (¬ (0 ≤ q ∧ q < 5)))) ∧ (cd = 0 → z = σ 32 0 q ∧ σ' = su σ 22 0 24 0) ∧ (¬ cd = 0 → σ' = su σ 22 0 24 cd)) 0 0 := by
  refine KI.of (lv0 := [some (.ref (ad 22 0)), some (.int (iI q))]) hfl hI (by decide) rfl (Nat.le_of_ble_eq_true rfl) rfl ?_
  intro p e s m args below meth c C hr
  have K_10 : ∀ (g9 : Int) (cd : Int), ((cd = 0 ∧ (0 ≤ q ∧ q < 5)) ∨ (cd = 1 ∧ (¬ (0 ≤ q ∧ q < 5)))) → ((g9 = 1 ∧ cd = 0) ∨ (g9 = 0 ∧ ¬ cd = 0)) → JW p l e ({ frames := 2, cells := 0, slots := 0, locals := 42 } : Room) s m args below meth c cy D ad (Ar ad s.heap.size) 2 0 0 (MQ below (QcI cy D ad (fun z σ' => ∃ cd, ((cd = 0 ∧ (0 ≤ q ∧ q < 5)) ∨ (cd = 1 ∧ (¬ (0 ≤ q ∧ q < 5)))) ∧ (cd = 0 → z = σ 32 0 q ∧ σ' = su σ 22 0 24 0) ∧ (¬ cd = 0 → σ' = su σ 22 0 24 cd)) s.heap.size) args s 0 0 (Ar ad s.heap.size)) (su σ 22 0 24 cd) 10 [some (.ref (ad 22 0)), some (.int (iI q))] [.int (iI g9)] := by
    intro g9 cd g0 g1
    refine J_if_eq (tgt := 22) C (by omega) dX4_owes_10 (by decide) (fun c_10 => ?_) (fun c_10 => ?_)
    · refine J_iconst C dX4_owes_22 ?_
      refine J_retI C hr (by decide) (by decide) dX4_owes_23 ?_
      (first
        | (exact ⟨cd, g0, fun z => by omega, fun _ => rfl⟩)
        | (have hcd : cd = 0 := by omega
           subst hcd
           exact ⟨0, g0, fun _ => ⟨su_nk (by decide), rfl⟩, fun z => absurd rfl z⟩))
    · refine J_aload_0 C dX4_owes_13 ?_
      refine J_get_4_14 C in_X4_owes_X4 fl_X4_owes_42 (by decide) dX4_owes_14 ?_
      refine J_iload_1 C dX4_owes_17 ?_
      refine J_iaload C k32 (by decide) (by omega) dX4_owes_18 ?_
      refine J_goto (tgt := 23) C dX4_owes_19 (by decide) ?_
      refine J_retI C hr (by decide) (by decide) dX4_owes_23 ?_
      (first
        | (exact ⟨cd, g0, fun z => by omega, fun _ => rfl⟩)
        | (have hcd : cd = 0 := by omega
           subst hcd
           exact ⟨0, g0, fun _ => ⟨su_nk (by decide), rfl⟩, fun z => absurd rfl z⟩))
  refine J_aload_0 C dX4_owes_0 ?_
  refine J_iload_1 C dX4_owes_1 ?_
  refine J_KSI C (c_X4_isPartner hfl hI _ q hq9) (va_cwS 1 C.1.2.2.2.2 gX4_owes_X4_isPartner rfl rfl rfl (by decide +kernel) ⟨Nat.le_of_ble_eq_true rfl, Nat.le_of_ble_eq_true rfl⟩) rfl rfl (Nat.le_of_ble_eq_true rfl) dX4_owes_2 ⟨Nat.le_of_ble_eq_true rfl, Nat.le_of_ble_eq_true rfl⟩ (fun z_2 σ_2 hp => ?_)
  obtain ⟨hz_, hs_⟩ := hp
  have hz_ := hz_.symm
  have hs_ := hs_.symm
  subst hz_
  subst hs_
  refine J_iconst C dX4_owes_5 ?_
  refine J_iconst C dX4_owes_6 ?_
  refine J_KVI C (c_X4_goes hfl hI _ _ _ _ (by first | exact Or.inl rfl | exact Or.inr rfl | (split <;> omega) | omega) (by first | exact Or.inl rfl | exact Or.inr rfl | (split <;> omega) | omega) (by first | exact Or.inl rfl | exact Or.inr rfl | (split <;> omega) | omega)) (cwV 3 C.1.2.2.2.2 gX4_owes_X4_goes rfl rfl rfl (by decide +kernel) ⟨Nat.le_of_ble_eq_true rfl, Nat.le_of_ble_eq_true rfl⟩) rc4 (by decide) rfl rfl (Nat.le_of_ble_eq_true rfl) dX4_owes_7 ⟨Nat.le_of_ble_eq_true rfl, Nat.le_of_ble_eq_true rfl⟩ (fun z_7 σ_7 hp => ?_)
  obtain ⟨hz_, hs_⟩ := hp
  have hz_ := hz_.symm
  have hs_ := hs_.symm
  subst hz_
  subst hs_
  -- to the cut at 10
  refine K_10 _ _ ?_ ?_
  · simp only [gcd3]
    grind
  · split <;> omega
set_option maxRecDepth 20000 in
theorem in_X4_balance_X4 : ∀ w ∈ wsX40, w ∈ wsX4_balance := by decide +kernel
set_option maxRecDepth 20000 in
theorem fl_X4_balance_80 : Cond.fieldLink RX4 80 "JointVentureModel" "wells" "I" ∈ wsX4_balance := by decide +kernel
set_option maxRecDepth 20000 in
theorem fl_X4_balance_58 : Cond.fieldLink RX4 58 "JointVentureModel" "credits" "[I" ∈ wsX4_balance := by decide +kernel
set_option maxRecDepth 20000 in
theorem fl_X4_balance_55 : Cond.fieldLink RX4 55 "JointVentureModel" "charges" "[I" ∈ wsX4_balance := by decide +kernel
set_option maxRecDepth 20000 in
theorem fl_X4_balance_42 : Cond.fieldLink RX4 42 "JointVentureModel" "owed" "[I" ∈ wsX4_balance := by decide +kernel
set_option maxHeartbeats 4000000 in
set_option maxRecDepth 100000 in
theorem c_X4_balance {l : Launch} (hfl : l.stackTraces = false) {cy : Nat → ClassId} {D : va_G} {ad : Ad} (hI : Inj ad) (σ : Sg) (q : Int) (hq9 : I32 q) (hM : Mi σ) : KL l yX4_balance wsX4_balance ({ frames := 4, cells := 0, slots := 0, locals := 101 } : Room) cy D ad σ [.ref (ad 22 0), .int (iI q)] (fun z σ' => ∃ cd, ((cd = 0 ∧ (0 ≤ q ∧ q < 5)) ∨ (cd = 1 ∧ (¬ (0 ≤ q ∧ q < 5)))) ∧ (cd = 0 → z = w32 (sN (fun k => σ 31 0 (5 * k + q)) (σ 22 0 13).toNat) - w32 (σ 32 0 q) + sN (fun w => FM σ w 18 q - FM σ w 17 q) (σ 22 0 6).toNat ∧ ∀ (a : Nat) (b c : Int), a < 33 ∨ 41 < a → σ' a b c = su σ 22 0 24 0 a b c) ∧ (¬ cd = 0 → σ' = su σ 22 0 24 cd)) 0 0 := by
  refine KL.of (lv0 := [some (.ref (ad 22 0)), some (.int (iI q)), none, none, none]) hfl hI (by decide) rfl (Nat.le_of_ble_eq_true rfl) rfl ?_
  intro p e s m args below meth c C hr
  have hwm := hM.2.2.2.2.2.1
  have hcm := hM.2.2.2.2.2.2
  have K_33 : ∀ (n_ : Nat) (t : Int) (i : Int) (σ1 : Sg), (∃ j : Nat, i = (j : Int) ∧ (j : Int) ≤ σ 22 0 6 ∧ t = w32 (sN (fun k => σ 31 0 (5 * k + q)) (σ 22 0 13).toNat) - w32 (σ 32 0 q) + sN (fun w => FM σ w 18 q - FM σ w 17 q) j) → (σ 22 0 6 - i < n_) → (0 ≤ i ∧ i ≤ σ 22 0 6) → (∀ (a : Nat) (b c : Int), a < 33 ∨ 41 < a → σ1 a b c = su σ 22 0 24 0 a b c) → (0 ≤ q ∧ q < 5) → JW p l e ({ frames := 4, cells := 0, slots := 0, locals := 101 } : Room) s m args below meth c cy D ad (Ar ad s.heap.size) 5 0 0 (MQ below (QcL cy D ad (fun z σ' => ∃ cd, ((cd = 0 ∧ (0 ≤ q ∧ q < 5)) ∨ (cd = 1 ∧ (¬ (0 ≤ q ∧ q < 5)))) ∧ (cd = 0 → z = w32 (sN (fun k => σ 31 0 (5 * k + q)) (σ 22 0 13).toNat) - w32 (σ 32 0 q) + sN (fun w => FM σ w 18 q - FM σ w 17 q) (σ 22 0 6).toNat ∧ ∀ (a : Nat) (b c : Int), a < 33 ∨ 41 < a → σ' a b c = su σ 22 0 24 0 a b c) ∧ (¬ cd = 0 → σ' = su σ 22 0 24 cd)) s.heap.size) args s 0 0 (Ar ad s.heap.size)) σ1 33 [some (.ref (ad 22 0)), some (.int (iI q)), some (.long (lI t)), none, some (.int (iI i))] [] := by
    intro n_
    induction n_ with
    | zero => intro t i σ1 g0 g1 g2 g3 g4; omega
    | succ n_ ih_33 =>
      intro t i σ1 g0 g1 g2 g3 g4
      obtain ⟨j, rfl, hj, rfl⟩ := g0
      have hq1 : Mq σ σ1 := fun a b c h1 h2 h3 => by rw [g3 a b c (by omega)]; exact mq_last σ 0 a b c h1 h2 h3
      have hcnt : σ1 22 0 6 = σ 22 0 6 := hq1 22 0 6 (by decide) (by decide) (by decide)
      refine J_iload4 C dX4_balance_33 ?_
      refine J_aload_0 C dX4_balance_35 ?_
      refine J_get_4_6 C in_X4_balance_X4 fl_X4_balance_80 (by decide) dX4_balance_36 ?_
      rw [hcnt]
      refine J_icmp_ge (tgt := 71) C (by omega) (by omega) dX4_balance_39 (by decide) (fun c_39 => ?_) (fun c_39 => ?_)
      · refine J_lload_2 C dX4_balance_71 ?_
        refine J_retL C hr (by decide) (by decide) dX4_balance_72 ?_
        have e : (σ 22 0 6).toNat = j := by omega
        rw [e]
        exact ⟨0, Or.inl ⟨rfl, g4⟩, fun _ => ⟨rfl, g3⟩, fun z => absurd rfl z⟩
      · refine J_aload_0 C dX4_balance_42 ?_
        refine J_iload4 C dX4_balance_43 ?_
        refine J_KVV C (c_X4_worksM hfl hI _ (j : Int) (by omega) (mi_q hq1 hM)) (cwV 1 C.1.2.2.2.2 gX4_balance_X4_works rfl rfl rfl (by decide +kernel) ⟨Nat.le_of_ble_eq_true rfl, Nat.le_of_ble_eq_true rfl⟩) rc4 (by decide) rfl rfl (Nat.le_of_ble_eq_true rfl) dX4_balance_45 ⟨Nat.le_of_ble_eq_true rfl, Nat.le_of_ble_eq_true rfl⟩ (fun σ_45 hp => ?_)
        obtain ⟨F9, I9, E9⟩ := hp
        rw [mq_FM hq1] at E9
        have x1 : σ_45 37 0 q = FM σ j 18 q := by rw [← E9]; exact (mT_c (by decide) (by decide) g4.1 g4.2).symm
        have x2 : σ_45 36 0 q = FM σ j 17 q := by rw [← E9]; exact (mT_c (by decide) (by decide) g4.1 g4.2).symm
        have hok := (FM_ok hM (show (0 : Int) ≤ j by omega) (by omega)).2 q g4.1 g4.2
        have hvm := hM.1
        refine J_lload_2 C dX4_balance_48 ?_
        refine J_aload_0 C dX4_balance_49 ?_
        refine J_get_4_19 C in_X4_balance_X4 fl_X4_balance_58 (by decide) dX4_balance_50 ?_
        refine J_iload_1 C dX4_balance_53 ?_
        refine J_iaload C k37 (by decide) (by omega) dX4_balance_54 ?_
        refine J_aload_0 C dX4_balance_55 ?_
        refine J_get_4_18 C in_X4_balance_X4 fl_X4_balance_55 (by decide) dX4_balance_56 ?_
        refine J_iload_1 C dX4_balance_59 ?_
        refine J_iaload C k36 (by decide) (by omega) dX4_balance_60 ?_
        rw [x1, x2]
        refine J_isub C dX4_balance_61 ?_
        refine J_i2l C (by omega) dX4_balance_62 ?_
        refine J_ladd C dX4_balance_63 ?_
        refine J_lstore_2 C (by decide) rfl dX4_balance_64 ?_
        refine J_iinc4 C (by decide) rfl dX4_balance_65 ?_
        refine J_goto (tgt := 33) C dX4_balance_68 (by decide) ?_
        -- to the cut at 33
        refine ih_33 _ _ _ ?_ ?_ ?_ ?_ ?_
        · exact ⟨j + 1, by omega, by omega, by simp only [sN]; omega⟩
        · omega
        · omega
        · intro a b c h
          rw [F9 a b c h]
          exact g3 a b c h
        · exact g4
  have K_10 : ∀ (g9 : Int) (cd : Int), ((cd = 0 ∧ (0 ≤ q ∧ q < 5)) ∨ (cd = 1 ∧ (¬ (0 ≤ q ∧ q < 5)))) → ((g9 = 1 ∧ cd = 0) ∨ (g9 = 0 ∧ ¬ cd = 0)) → JW p l e ({ frames := 4, cells := 0, slots := 0, locals := 101 } : Room) s m args below meth c cy D ad (Ar ad s.heap.size) 5 0 0 (MQ below (QcL cy D ad (fun z σ' => ∃ cd, ((cd = 0 ∧ (0 ≤ q ∧ q < 5)) ∨ (cd = 1 ∧ (¬ (0 ≤ q ∧ q < 5)))) ∧ (cd = 0 → z = w32 (sN (fun k => σ 31 0 (5 * k + q)) (σ 22 0 13).toNat) - w32 (σ 32 0 q) + sN (fun w => FM σ w 18 q - FM σ w 17 q) (σ 22 0 6).toNat ∧ ∀ (a : Nat) (b c : Int), a < 33 ∨ 41 < a → σ' a b c = su σ 22 0 24 0 a b c) ∧ (¬ cd = 0 → σ' = su σ 22 0 24 cd)) s.heap.size) args s 0 0 (Ar ad s.heap.size)) (su σ 22 0 24 cd) 10 [some (.ref (ad 22 0)), some (.int (iI q)), none, none, none] [.int (iI g9)] := by
    intro g9 cd g0 g1
    refine J_if_ne (tgt := 15) C (by omega) dX4_balance_10 (by decide) (fun c_10 => ?_) (fun c_10 => ?_)
    · refine J_aload_0 C dX4_balance_15 ?_
      refine J_iload_1 C dX4_balance_16 ?_
      refine J_KVI C (c_X4_allPaid hfl hI _ q (by omega) (by rw [su_ne3 (Or.inr (Or.inr (by decide)))]; exact hcm)) (cwV 1 C.1.2.2.2.2 gX4_balance_X4_allPaid rfl rfl rfl (by decide +kernel) ⟨Nat.le_of_ble_eq_true rfl, Nat.le_of_ble_eq_true rfl⟩) rc4 (by decide) rfl rfl (Nat.le_of_ble_eq_true rfl) dX4_balance_17 ⟨Nat.le_of_ble_eq_true rfl, Nat.le_of_ble_eq_true rfl⟩ (fun z_17 σ_17 hp => ?_)
      obtain ⟨hz_, hs_⟩ := hp
      rw [su_ne3 (Or.inr (Or.inr (by decide))), show (fun k => su σ 22 0 24 cd 31 0 (5 * k + q)) = (fun k => σ 31 0 (5 * k + q)) from funext (fun k => su_nk (by decide))] at hz_
      have hz_ := hz_.symm
      have hs_ := hs_.symm
      subst hz_
      subst hs_
      have hcd : cd = 0 := by omega
      subst hcd
      refine J_i2lw C dX4_balance_20 ?_
      refine J_aload_0 C dX4_balance_21 ?_
      refine J_get_4_14 C in_X4_balance_X4 fl_X4_balance_42 (by decide) dX4_balance_22 ?_
      refine J_iload_1 C dX4_balance_25 ?_
      refine J_iaload C k32 (by decide) (by omega) dX4_balance_26 ?_
      rw [su_nk (by decide)]
      refine J_i2lw C dX4_balance_27 ?_
      refine J_lsub C dX4_balance_28 ?_
      refine J_lstore_2 C (by decide) rfl dX4_balance_29 ?_
      refine J_iconst C dX4_balance_30 ?_
      refine J_istore4 C (by decide) rfl dX4_balance_31 ?_
      -- to the cut at 33
      refine K_33 7 _ _ _ ?_ ?_ ?_ ?_ ?_
      · exact ⟨0, rfl, by omega, by simp [sN]⟩
      · omega
      · omega
      · intro a b c h; rfl
      · omega
    · refine J_lconst (z := 0) C (by decide) dX4_balance_13 ?_
      refine J_retL C hr (by decide) (by decide) dX4_balance_14 ?_
      exact ⟨cd, g0, fun z => by omega, fun _ => rfl⟩
  refine J_aload_0 C dX4_balance_0 ?_
  refine J_iload_1 C dX4_balance_1 ?_
  refine J_KSI C (c_X4_isPartner hfl hI _ q hq9) (va_cwS 1 C.1.2.2.2.2 gX4_balance_X4_isPartner rfl rfl rfl (by decide +kernel) ⟨Nat.le_of_ble_eq_true rfl, Nat.le_of_ble_eq_true rfl⟩) rfl rfl (Nat.le_of_ble_eq_true rfl) dX4_balance_2 ⟨Nat.le_of_ble_eq_true rfl, Nat.le_of_ble_eq_true rfl⟩ (fun z_2 σ_2 hp => ?_)
  obtain ⟨hz_, hs_⟩ := hp
  have hz_ := hz_.symm
  have hs_ := hs_.symm
  subst hz_
  subst hs_
  refine J_iconst C dX4_balance_5 ?_
  refine J_iconst C dX4_balance_6 ?_
  refine J_KVI C (c_X4_goes hfl hI _ _ _ _ (by first | exact Or.inl rfl | exact Or.inr rfl | (split <;> omega) | omega) (by first | exact Or.inl rfl | exact Or.inr rfl | (split <;> omega) | omega) (by first | exact Or.inl rfl | exact Or.inr rfl | (split <;> omega) | omega)) (cwV 3 C.1.2.2.2.2 gX4_balance_X4_goes rfl rfl rfl (by decide +kernel) ⟨Nat.le_of_ble_eq_true rfl, Nat.le_of_ble_eq_true rfl⟩) rc4 (by decide) rfl rfl (Nat.le_of_ble_eq_true rfl) dX4_balance_7 ⟨Nat.le_of_ble_eq_true rfl, Nat.le_of_ble_eq_true rfl⟩ (fun z_7 σ_7 hp => ?_)
  obtain ⟨hz_, hs_⟩ := hp
  have hz_ := hz_.symm
  have hs_ := hs_.symm
  subst hz_
  subst hs_
  -- to the cut at 10
  refine K_10 _ _ ?_ ?_
  · simp only [gcd3]
    grind
  · split <;> omega
