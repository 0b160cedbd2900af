set_option maxRecDepth 20000 in
theorem in_X3_account_X3 : ∀ w ∈ wsX30, w ∈ wsX3_account := by decide +kernel
set_option maxRecDepth 20000 in
theorem fl_X3_account_22 : Cond.fieldLink RX3 22 "JointVenture" "wells" "[LJointVenture$Well;" ∈ wsX3_account := by decide +kernel
set_option maxRecDepth 20000 in
theorem fl_X3_account_29 : Cond.fieldLink RX3 29 "JointVenture" "voucherWells" "[I" ∈ wsX3_account := by decide +kernel
set_option maxRecDepth 20000 in
theorem fl_X3_account_32 : Cond.fieldLink RX3 32 "JointVenture" "voucherAmounts" "[I" ∈ wsX3_account := by decide +kernel
set_option maxHeartbeats 4000000 in
set_option maxRecDepth 100000 in
theorem c_X3_account {l : Launch} (hfl : l.stackTraces = false) {cy : Nat → ClassId} {D : va_G} {ad : Ad} (hI : Inj ad) (σ : Sg) (v w : Int) (hv : 0 ≤ v ∧ v < 60) (hvw : σ 3 0 v = w) (hw : 0 ≤ w ∧ w < 6) (ham : -2147483648 < σ 4 0 v ∧ σ 4 0 v < 2147483648) (hsh : Shk (shf σ)) (ht : Tin (shf σ) (ac σ w)) (hpn : 0 ≤ σ 12 w 0 ∧ σ 12 w 0 ≤ 1000) (he : ∀ q, 0 ≤ q → q < 5 → 0 ≤ σ 15 w q ∧ σ 15 w q < 4611686018427387904) : KV l yX3_account wsX3_account ({ frames := 4, cells := 0, slots := 0, locals := 98 } : Room) cy D ad σ [.ref (ad 0 0), .int (iI v)] (fun σ' => Fr σ σ' w ∧ ac σ' w = stepS (shf σ) (σ 12 w 0) v (σ 4 0 v) (ac σ w)) 0 0 := by
  refine KV.of (lv0 := [some (.ref (ad 0 0)), some (.int (iI v)), none, none]) hfl hI (by decide) rfl (Nat.le_of_ble_eq_true rfl) rfl ?_
  intro p e s m args below meth c C hr
  have hac : ∀ q, 0 ≤ q → q < 5 → ac σ w 14 q = σ 14 w q := fun q a b => ac_at (by decide) (by decide) a b
  have hac5 : ∀ q, 0 ≤ q → q < 5 → ac σ w 15 q = σ 15 w q := fun q a b => ac_at (by decide) (by decide) a b
  have hf : ∀ q, 0 ≤ q → q < 5 → σ 14 w q = 0 ∨ σ 14 w q = 1 := fun q a b => by rw [← hac q a b]; exact ht.1 q a b
  refine J_aload_0 C dX3_account_0 ?_
  refine J_get_3_3 C in_X3_account_X3 fl_X3_account_22 (by decide) dX3_account_1 ?_
  refine J_aload_0 C dX3_account_4 ?_
  refine J_get_3_5 C in_X3_account_X3 fl_X3_account_29 (by decide) dX3_account_5 ?_
  refine J_iload_1 C dX3_account_8 ?_
  refine J_iaload C k3 (by decide) (by omega) dX3_account_9 ?_
  rw [hvw]
  refine J_aaloadW C (by omega) dX3_account_10 ?_
  refine J_astore_2 C (by decide) rfl dX3_account_11 ?_
  refine J_aload_0 C dX3_account_12 ?_
  refine J_get_3_6 C in_X3_account_X3 fl_X3_account_32 (by decide) dX3_account_13 ?_
  refine J_iload_1 C dX3_account_16 ?_
  refine J_iaload C k4 (by decide) (by omega) dX3_account_17 ?_
  refine J_istore_3 C (by decide) rfl dX3_account_18 ?_
  refine J_iload_3 C dX3_account_19 ?_
  refine J_if_le (tgt := 32) C (by omega) dX3_account_20 (by decide) (fun c_20 => ?_) (fun c_20 => ?_)
  · refine J_aload_0 C dX3_account_32 ?_
    refine J_aload_2 C dX3_account_33 ?_
    refine J_iload_3 C dX3_account_34 ?_
    refine J_ineg C dX3_account_35 ?_
    refine J_KVV C (c_X3_accountIncome hfl hI σ w _ hw (by omega) hsh ht he) (cwV 2 C.1.2.2.2.2 gX3_account_X3_accountIncome rfl rfl rfl (by decide +kernel) ⟨Nat.le_of_ble_eq_true rfl, Nat.le_of_ble_eq_true rfl⟩) rc3 (by decide) rfl rfl (Nat.le_of_ble_eq_true rfl) dX3_account_36 ⟨Nat.le_of_ble_eq_true rfl, Nat.le_of_ble_eq_true rfl⟩ (fun σ_36 hp => ?_)
    obtain ⟨F1, E1, C1⟩ := hp
    have htr : ∀ q, 0 ≤ q → q < 5 → 0 ≤ tkn (shf σ) (ac σ w) (-σ 4 0 v) q ∧ tkn (shf σ) (ac σ w) (-σ 4 0 v) q ≤ σ 15 w q := fun q a b => by have := tkn_rng (T := ac σ w) (a := -σ 4 0 v) hsh (by omega) a b (by rw [hac5 q a b]; exact (he q a b).1); rw [hac5 q a b] at this; exact ⟨this.1, this.2.2.1⟩
    refine J_aload_2 C dX3_account_39 ?_
    refine J_iload_1 C dX3_account_40 ?_
    refine J_KVV C (c_X2_takeBack hfl hI _ w v hw (fun q a b => by rw [F1 _ _ _ (by decide) (by omega)]; exact hf q a b) (fun q a b => by rw [E1 q a b]; have := he q a b; have := htr q a b; omega)) (cwV 1 C.1.2.2.2.2 gX3_account_X2_takeBack rfl rfl rfl (by decide +kernel) ⟨Nat.le_of_ble_eq_true rfl, Nat.le_of_ble_eq_true rfl⟩) rc2 hw rfl rfl (Nat.le_of_ble_eq_true rfl) dX3_account_41 ⟨Nat.le_of_ble_eq_true rfl, Nat.le_of_ble_eq_true rfl⟩ (fun σ_41 hp => ?_)
    have hp := hp.symm
    subst hp
    refine J_retV C hr (by decide) (by decide) dX3_account_44 ?_
    unfold stepS
    first
      | (rw [if_pos (by assumption)]; exact ⟨F9, E9⟩)
      | (rw [if_neg (by omega)]
         refine ⟨fun a b c h h9 => ?_, ac_ext (incS_z (ac_z σ w)) (fun c q h1 h2 h3 h4 => ?_)⟩
         · rw [hp, sf_nr (by omega), sf_nr (by omega)]
           exact F1 a b c h (by omega)
         · have e14 : σ_36 14 w q = σ 14 w q := F1 14 w q (by omega) (by omega)
           have e15 := E1 q h3 h4
           have e18 := C1 q h3 h4
           have e16 : σ_36 16 w q = σ 16 w q := F1 16 w q (by omega) (by omega)
           have e17 : σ_36 17 w q = σ 17 w q := F1 17 w q (by omega) (by omega)
           unfold incS
           rw [if_pos ⟨h3, h4⟩, hac q h3 h4, hac5 q h3 h4, ac_at (by decide) (by decide) h3 h4, ac_at (by decide) (by decide) h3 h4, hp]
           rcases (show c = 14 ∨ c = 15 ∨ c = 16 ∨ c = 17 ∨ c = 18 by omega) with rfl | rfl | rfl | rfl | rfl
           · rw [sf_nk (by decide), sf_at h3 h4, e14, e15]; rfl
           · rw [sf_nk (by decide), sf_nk (by decide), e15]; rfl
           · rw [sf_at h3 h4, e14, e15, e16]; rfl
           · rw [sf_nk (by decide), sf_nk (by decide), e17, ac_at (by decide) (by decide) h3 h4]; rfl
           · rw [sf_nk (by decide), sf_nk (by decide), e18]; rfl)
  · refine J_aload_0 C dX3_account_23 ?_
    refine J_aload_2 C dX3_account_24 ?_
    refine J_iload_3 C dX3_account_25 ?_
    refine J_KVV C (c_X3_accountCost hfl hI σ w _ hw (by omega) hsh ht hpn) (cwV 2 C.1.2.2.2.2 gX3_account_X3_accountCost rfl rfl rfl (by decide +kernel) ⟨Nat.le_of_ble_eq_true rfl, Nat.le_of_ble_eq_true rfl⟩) rc3 (by decide) rfl rfl (Nat.le_of_ble_eq_true rfl) dX3_account_26 ⟨Nat.le_of_ble_eq_true rfl, Nat.le_of_ble_eq_true rfl⟩ (fun σ_26 hp => ?_)
    obtain ⟨F9, E9⟩ := hp
    refine J_goto (tgt := 44) C dX3_account_29 (by decide) ?_
    refine J_retV C hr (by decide) (by decide) dX3_account_44 ?_
    unfold stepS
    first
      | (rw [if_pos (by assumption)]; exact ⟨F9, E9⟩)
      | (rw [if_neg (by omega)]
         refine ⟨fun a b c h h9 => ?_, ac_ext (incS_z (ac_z σ w)) (fun c q h1 h2 h3 h4 => ?_)⟩
         · rw [hp, sf_nr (by omega), sf_nr (by omega)]
           exact F1 a b c h (by omega)
         · have e14 : σ_36 14 w q = σ 14 w q := F1 14 w q (by omega) (by omega)
           have e15 := E1 q h3 h4
           have e18 := C1 q h3 h4
           have e16 : σ_36 16 w q = σ 16 w q := F1 16 w q (by omega) (by omega)
           have e17 : σ_36 17 w q = σ 17 w q := F1 17 w q (by omega) (by omega)
           unfold incS
           rw [if_pos ⟨h3, h4⟩, hac q h3 h4, hac5 q h3 h4, ac_at (by decide) (by decide) h3 h4, ac_at (by decide) (by decide) h3 h4, hp]
           rcases (show c = 14 ∨ c = 15 ∨ c = 16 ∨ c = 17 ∨ c = 18 by omega) with rfl | rfl | rfl | rfl | rfl
           · rw [sf_nk (by decide), sf_at h3 h4, e14, e15]; rfl
           · rw [sf_nk (by decide), sf_nk (by decide), e15]; rfl
           · rw [sf_at h3 h4, e14, e15, e16]; rfl
           · rw [sf_nk (by decide), sf_nk (by decide), e17, ac_at (by decide) (by decide) h3 h4]; rfl
           · rw [sf_nk (by decide), sf_nk (by decide), e18]; rfl)
set_option maxRecDepth 20000 in
theorem in_X3_accountAnew_X3 : ∀ w ∈ wsX30, w ∈ wsX3_accountAnew := by decide +kernel
set_option maxRecDepth 20000 in
theorem fl_X3_accountAnew_35 : Cond.fieldLink RX3 35 "JointVenture" "voucherCount" "I" ∈ wsX3_accountAnew := by decide +kernel
set_option maxRecDepth 20000 in
theorem fl_X3_accountAnew_29 : Cond.fieldLink RX3 29 "JointVenture" "voucherWells" "[I" ∈ wsX3_accountAnew := by decide +kernel
set_option maxRecDepth 20000 in
theorem fl_X3_accountAnew_22 : Cond.fieldLink RX3 22 "JointVenture" "wells" "[LJointVenture$Well;" ∈ wsX3_accountAnew := by decide +kernel
set_option maxHeartbeats 4000000 in
set_option maxRecDepth 100000 in
theorem c_X3_accountAnew {l : Launch} (hfl : l.stackTraces = false) {cy : Nat → ClassId} {D : va_G} {ad : Ad} (hI : Inj ad) (σ : Sg) (w : Int) (hw : 0 ≤ w ∧ w < 6) (hn : 0 ≤ σ 0 0 7 ∧ σ 0 0 7 ≤ 60) (hv : ∀ v, 0 ≤ v → v < σ 0 0 7 → (0 ≤ σ 3 0 v ∧ σ 3 0 v < 6) ∧ -10000000 ≤ σ 4 0 v ∧ σ 4 0 v ≤ 10000000) (hel : ∀ q, 0 ≤ q → q < 5 → σ 13 w q = 0 ∨ σ 13 w q = 1) (hsh : Shk (shf σ)) (h0 : Tin (shf σ) (T0f (σ 13 w))) (hpn : 0 ≤ σ 12 w 0 ∧ σ 12 w 0 ≤ 1000) : KV l yX3_accountAnew wsX3_accountAnew ({ frames := 5, cells := 0, slots := 0, locals := 121 } : Room) cy D ad σ [.ref (ad 0 0), .int (iI w)] (fun σ' => Fr σ σ' w ∧ ac σ' w = foldS (shf σ) (σ 12 w 0) (σ 3 0) (σ 4 0) w (T0f (σ 13 w)) (σ 0 0 7).toNat) 0 0 := by
  refine KV.of (lv0 := [some (.ref (ad 0 0)), some (.int (iI w)), none]) hfl hI (by decide) rfl (Nat.le_of_ble_eq_true rfl) rfl ?_
  intro p e s m args below meth c C hr
  have K_11 : ∀ (n_ : Nat) (i : Int) (σ1 : Sg), (∃ j : Nat, i = (j : Int) ∧ (j : Int) ≤ σ 0 0 7 ∧ ac σ1 w = foldS (shf σ) (σ 12 w 0) (σ 3 0) (σ 4 0) w (T0f (σ 13 w)) j) → (σ 0 0 7 - i < n_) → (0 ≤ i ∧ i ≤ σ 0 0 7) → (Fr σ σ1 w) → JW p l e ({ frames := 5, cells := 0, slots := 0, locals := 121 } : Room) s m args below meth c cy D ad (Ar ad s.heap.size) 3 0 0 (MQ below (QcV cy D ad (fun σ' => Fr σ σ' w ∧ ac σ' w = foldS (shf σ) (σ 12 w 0) (σ 3 0) (σ 4 0) w (T0f (σ 13 w)) (σ 0 0 7).toNat) s.heap.size) args s 0 0 (Ar ad s.heap.size)) σ1 11 [some (.ref (ad 0 0)), some (.int (iI w)), some (.int (iI i))] [] := by
    intro n_
    induction n_ with
    | zero => intro i σ1 g0 g1 g2 g3; omega
    | succ n_ ih_11 =>
      intro i σ1 g0 g1 g2 g3
      obtain ⟨j, rfl, hj, hA⟩ := g0
      have hcnt : σ1 0 0 7 = σ 0 0 7 := g3 0 0 7 (by omega) (by omega)
      have hF3 : σ1 3 0 j = σ 3 0 j := g3 3 0 j (by omega) (by omega)
      have hF4 : σ1 4 0 j = σ 4 0 j := g3 4 0 j (by omega) (by omega)
      have hF12 : σ1 12 w 0 = σ 12 w 0 := g3 12 w 0 (by omega) (by omega)
      have hFs : shf σ1 = shf σ := g3.shf
      have hok := foldS_ok (w := w) (vw := σ 3 0) hsh hpn h0 j (fun v a b => (hv v a (by omega)).2)
      refine J_iload_2 C dX3_accountAnew_11 ?_
      refine J_aload_0 C dX3_accountAnew_12 ?_
      refine J_get_3_7 C in_X3_accountAnew_X3 fl_X3_accountAnew_35 (by decide) dX3_accountAnew_13 ?_
      rw [hcnt]
      refine J_icmp_ge (tgt := 40) C (by omega) (by omega) dX3_accountAnew_16 (by decide) (fun c_16 => ?_) (fun c_16 => ?_)
      · refine J_retV C hr (by decide) (by decide) dX3_accountAnew_40 ?_
        have e : (σ 0 0 7).toNat = j := by omega
        rw [e]
        exact ⟨g3, hA⟩
      · refine J_aload_0 C dX3_accountAnew_19 ?_
        refine J_get_3_5 C in_X3_accountAnew_X3 fl_X3_accountAnew_29 (by decide) dX3_accountAnew_20 ?_
        refine J_iload_2 C dX3_accountAnew_23 ?_
        refine J_iaload C k3 (by decide) (by omega) dX3_accountAnew_24 ?_
        rw [hF3]
        refine J_iload_1 C dX3_accountAnew_25 ?_
        refine J_icmp_ne (tgt := 34) C (by have := hv j (by omega) (by omega); omega) (by omega) dX3_accountAnew_26 (by decide) (fun c_26 => ?_) (fun c_26 => ?_)
        · refine J_iinc2 C (by decide) rfl dX3_accountAnew_34 ?_
          refine J_goto (tgt := 11) C dX3_accountAnew_37 (by decide) ?_
          -- to the cut at 11
          refine ih_11 _ _ ?_ ?_ ?_ ?_
          · refine ⟨j + 1, by omega, by omega, ?_⟩
            simp only [foldS]
            first
              | (rw [if_pos (by omega), E9, hFs, hF12, hF4, hA])
              | (rw [if_neg (by omega)]; exact hA)
          · omega
          · omega
          · (first | exact g3.trans F9 | exact g3)
        · refine J_aload_0 C dX3_accountAnew_29 ?_
          refine J_iload_2 C dX3_accountAnew_30 ?_
          refine J_KVV C (c_X3_account hfl hI _ (j : Int) w (by omega) (by rw [hF3]; omega) hw (by rw [hF4]; have := hv j (by omega) (by omega); omega) (by rw [hFs]; exact hsh) (by rw [hFs, hA]; exact hok.1) (by rw [hF12]; exact hpn) (fun q a b => by have := hok.2 q a b; rw [← hA, ac_at (by decide) (by decide) a b] at this; omega)) (cwV 1 C.1.2.2.2.2 gX3_accountAnew_X3_account rfl rfl rfl (by decide +kernel) ⟨Nat.le_of_ble_eq_true rfl, Nat.le_of_ble_eq_true rfl⟩) rc3 (by decide) rfl rfl (Nat.le_of_ble_eq_true rfl) dX3_accountAnew_31 ⟨Nat.le_of_ble_eq_true rfl, Nat.le_of_ble_eq_true rfl⟩ (fun σ_31 hp => ?_)
          obtain ⟨F9, E9⟩ := hp
          refine J_iinc2 C (by decide) rfl dX3_accountAnew_34 ?_
          refine J_goto (tgt := 11) C dX3_accountAnew_37 (by decide) ?_
          -- to the cut at 11
          refine ih_11 _ _ ?_ ?_ ?_ ?_
          · refine ⟨j + 1, by omega, by omega, ?_⟩
            simp only [foldS]
            first
              | (rw [if_pos (by omega), E9, hFs, hF12, hF4, hA])
              | (rw [if_neg (by omega)]; exact hA)
          · omega
          · omega
          · (first | exact g3.trans F9 | exact g3)
  refine J_aload_0 C dX3_accountAnew_0 ?_
  refine J_get_3_3 C in_X3_accountAnew_X3 fl_X3_accountAnew_22 (by decide) dX3_accountAnew_1 ?_
  refine J_iload_1 C dX3_accountAnew_4 ?_
  refine J_aaloadW C (by omega) dX3_accountAnew_5 ?_
  refine J_KVV C (c_X2_clearAccounts hfl hI σ w hw hel) (cwV 0 C.1.2.2.2.2 gX3_accountAnew_X2_clearAccounts rfl rfl rfl (by decide +kernel) ⟨Nat.le_of_ble_eq_true rfl, Nat.le_of_ble_eq_true rfl⟩) rc2 hw rfl rfl (Nat.le_of_ble_eq_true rfl) dX3_accountAnew_6 ⟨Nat.le_of_ble_eq_true rfl, Nat.le_of_ble_eq_true rfl⟩ (fun σ_6 hp => ?_)
  have F0 : Fr σ σ_6 w := fun a b c h h9 => by rw [hp, sf_nr (by omega), sf_nr (by omega), sf_nr (by omega), sf_nr (by omega), sf_nr (by omega)]
  have A0 : ac σ_6 w = T0f (σ 13 w) := ac_ext (T0f_z _) (fun c q h1 h2 h3 h4 => by
    unfold T0f
    rw [if_pos ⟨h3, h4⟩, hp]
    rcases (show c = 14 ∨ c = 15 ∨ c = 16 ∨ c = 17 ∨ c = 18 by omega) with rfl | rfl | rfl | rfl | rfl
    · rw [sf_at h3 h4]; rfl
    · rw [sf_nk (by decide), sf_nk (by decide), sf_nk (by decide), sf_nk (by decide), sf_at h3 h4]; rfl
    · rw [sf_nk (by decide), sf_nk (by decide), sf_nk (by decide), sf_at h3 h4]; rfl
    · rw [sf_nk (by decide), sf_nk (by decide), sf_at h3 h4]; rfl
    · rw [sf_nk (by decide), sf_at h3 h4]; rfl)
  clear hp
  refine J_iconst C dX3_accountAnew_9 ?_
  refine J_istore_2 C (by decide) rfl dX3_accountAnew_10 ?_
  -- to the cut at 11
  refine K_11 61 _ _ ?_ ?_ ?_ ?_
  · exact ⟨0, rfl, by omega, A0⟩
  · omega
  · omega
  · exact F0
set_option maxRecDepth 20000 in
theorem in_X3_addVoucher_X3 : ∀ w ∈ wsX30, w ∈ wsX3_addVoucher := by decide +kernel
set_option maxRecDepth 20000 in
theorem fl_X3_addVoucher_35 : Cond.fieldLink RX3 35 "JointVenture" "voucherCount" "I" ∈ wsX3_addVoucher := by decide +kernel
set_option maxRecDepth 20000 in
theorem fl_X3_addVoucher_29 : Cond.fieldLink RX3 29 "JointVenture" "voucherWells" "[I" ∈ wsX3_addVoucher := by decide +kernel
set_option maxRecDepth 20000 in
theorem fl_X3_addVoucher_32 : Cond.fieldLink RX3 32 "JointVenture" "voucherAmounts" "[I" ∈ wsX3_addVoucher := by decide +kernel
set_option maxRecDepth 20000 in
theorem fl_X3_addVoucher_22 : Cond.fieldLink RX3 22 "JointVenture" "wells" "[LJointVenture$Well;" ∈ wsX3_addVoucher := by decide +kernel
set_option maxRecDepth 20000 in
theorem in_X3_addVoucher_X2 : ∀ w ∈ wsX20, w ∈ wsX3_addVoucher := by decide +kernel
set_option maxRecDepth 20000 in
theorem fl_X3_addVoucher_97 : Cond.fieldLink RX3 97 "JointVenture$Well" "hadVoucher" "Z" ∈ wsX3_addVoucher := by decide +kernel
set_option maxHeartbeats 4000000 in
set_option maxRecDepth 100000 in
theorem c_X3_addVoucher {l : Launch} (hfl : l.stackTraces = false) {cy : Nat → ClassId} {D : va_G} {ad : Ad} (hI : Inj ad) (σ : Sg) (w a9 : Int) (hw : 0 ≤ w ∧ w < 6) (hn : 0 ≤ σ 0 0 7 ∧ σ 0 0 7 < 60) (ham : -10000000 ≤ a9 ∧ a9 ≤ 10000000) (hsh : Shk (shf σ)) (ht : Tin (shf σ) (ac σ w)) (hpn : 0 ≤ σ 12 w 0 ∧ σ 12 w 0 ≤ 1000) (he : ∀ q, 0 ≤ q → q < 5 → 0 ≤ σ 15 w q ∧ σ 15 w q < 4611686018427387904) : KI l yX3_addVoucher wsX3_addVoucher ({ frames := 5, cells := 0, slots := 0, locals := 121 } : Room) cy D ad σ [.ref (ad 0 0), .int (iI w), .int (iI a9)] (fun z σ' => z = σ 0 0 7 ∧ Fr (adV σ w a9) σ' w ∧ ac σ' w = stepS (shf σ) (σ 12 w 0) (σ 0 0 7) a9 (ac σ w)) 0 0 := by
  refine KI.of (lv0 := [some (.ref (ad 0 0)), some (.int (iI w)), some (.int (iI a9)), none]) hfl hI (by decide) rfl (Nat.le_of_ble_eq_true rfl) rfl ?_
  intro p e s m args below meth c C hr
  have e3 : adV σ w a9 3 0 (σ 0 0 7) = w := by simp [adV, su]
  have e4 : adV σ w a9 4 0 (σ 0 0 7) = a9 := by simp [adV, su]
  have e12 : adV σ w a9 12 w 0 = σ 12 w 0 := by simp [adV, su]
  have eac : ac (adV σ w a9) w = ac σ w := ac_congr (fun c q h1 h2 h3 h4 => by unfold adV; rw [su_nk (by omega), su_nk (by omega), su_nk (by omega), su_nk (by omega)])
  have esh : shf (adV σ w a9) = shf σ := shf_congr (fun q _ _ => by simp [adV, su])
  have e15 : ∀ q, adV σ w a9 15 w q = σ 15 w q := fun q => by simp [adV, su]
  refine J_aload_0 C dX3_addVoucher_0 ?_
  refine J_get_3_7 C in_X3_addVoucher_X3 fl_X3_addVoucher_35 (by decide) dX3_addVoucher_1 ?_
  refine J_istore_3 C (by decide) rfl dX3_addVoucher_4 ?_
  refine J_aload_0 C dX3_addVoucher_5 ?_
  refine J_get_3_5 C in_X3_addVoucher_X3 fl_X3_addVoucher_29 (by decide) dX3_addVoucher_6 ?_
  refine J_iload_3 C dX3_addVoucher_9 ?_
  refine J_iload_1 C dX3_addVoucher_10 ?_
  refine J_iastore C k3 (by decide) (by omega) dX3_addVoucher_11 ?_
  refine J_aload_0 C dX3_addVoucher_12 ?_
  refine J_get_3_6 C in_X3_addVoucher_X3 fl_X3_addVoucher_32 (by decide) dX3_addVoucher_13 ?_
  refine J_iload_3 C dX3_addVoucher_16 ?_
  refine J_iload_2 C dX3_addVoucher_17 ?_
  refine J_iastore C k4 (by decide) (by omega) dX3_addVoucher_18 ?_
  refine J_aload_0 C dX3_addVoucher_19 ?_
  refine J_dup C rfl dX3_addVoucher_20 ?_
  refine J_get_3_7 C in_X3_addVoucher_X3 fl_X3_addVoucher_35 (by decide) dX3_addVoucher_21 ?_
  rw [su_nk (by decide), su_nk (by decide)]
  refine J_iconst C dX3_addVoucher_24 ?_
  refine J_iadd C dX3_addVoucher_25 ?_
  refine J_put_3_7 C in_X3_addVoucher_X3 fl_X3_addVoucher_35 (by decide) dX3_addVoucher_26 ?_
  refine J_aload_0 C dX3_addVoucher_29 ?_
  refine J_get_3_3 C in_X3_addVoucher_X3 fl_X3_addVoucher_22 (by decide) dX3_addVoucher_30 ?_
  refine J_iload_1 C dX3_addVoucher_33 ?_
  refine J_aaloadW C (by omega) dX3_addVoucher_34 ?_
  refine J_iconst C dX3_addVoucher_35 ?_
  refine J_put_2_1 C (by exact Or.inr rfl) in_X3_addVoucher_X2 fl_X3_addVoucher_97 hw dX3_addVoucher_36 ?_
  rw [show su (su (su (su σ 3 0 (σ 0 0 7) w) 4 0 (σ 0 0 7) a9) 0 0 7 (σ 0 0 7 + 1)) 12 w 1 1 = adV σ w a9 from rfl]
  refine J_aload_0 C dX3_addVoucher_39 ?_
  refine J_iload_3 C dX3_addVoucher_40 ?_
  refine J_KVV C (c_X3_account hfl hI _ _ w hn e3 hw (by rw [e4]; omega) (by rw [esh]; exact hsh) (by rw [esh, eac]; exact ht) (by rw [e12]; exact hpn) (fun q a b => by rw [e15]; exact he q a b)) (cwV 1 C.1.2.2.2.2 gX3_addVoucher_X3_account rfl rfl rfl (by decide +kernel) ⟨Nat.le_of_ble_eq_true rfl, Nat.le_of_ble_eq_true rfl⟩) rc3 (by decide) rfl rfl (Nat.le_of_ble_eq_true rfl) dX3_addVoucher_41 ⟨Nat.le_of_ble_eq_true rfl, Nat.le_of_ble_eq_true rfl⟩ (fun σ_41 hp => ?_)
  obtain ⟨F9, E9⟩ := hp
  rw [esh, e12, e4, eac] at E9
  refine J_iload_3 C dX3_addVoucher_44 ?_
  refine J_retI C hr (by decide) (by decide) dX3_addVoucher_45 ?_
  exact ⟨rfl, F9, E9⟩
set_option maxHeartbeats 4000000 in
set_option maxRecDepth 100000 in
theorem c_X3_isAnotherIn {l : Launch} (hfl : l.stackTraces = false) {cy : Nat → ClassId} {D : va_G} {ad : Ad} (hI : Inj ad) (σ : Sg) (w q9 : Int) (hw : 0 ≤ w ∧ w < 6) (hq9 : 0 ≤ q9 ∧ q9 < 5) (hf : ∀ q, 0 ≤ q → q < 5 → σ 14 w q = 0 ∨ σ 14 w q = 1) (hs : ∀ q, 0 ≤ q → q < 5 → 0 ≤ σ 1 0 q ∧ σ 1 0 q ≤ 10000) : KI l yX3_isAnotherIn wsX3_isAnotherIn ({ frames := 1, cells := 0, slots := 0, locals := 22 } : Room) cy D ad σ [.ref (ad 0 0), .ref (ad 12 w), .int (iI q9)] (fun z σ' => ((z = 0 ∨ z = 1) ∧ (z = 1 ↔ ∃ q, 0 ≤ q ∧ q < 5 ∧ q ≠ q9 ∧ σ 14 w q = 0 ∧ 0 < σ 1 0 q)) ∧ σ' = σ) 0 0 := by
  refine KI.of (lv0 := [some (.ref (ad 0 0)), some (.ref (ad 12 w)), some (.int (iI q9)), none]) hfl hI (by decide) rfl (Nat.le_of_ble_eq_true rfl) rfl ?_
  intro p e s m args below meth c C hr
  have K_2 : ∀ (n_ : Nat) (i : Int), (0 ≤ i) → (i ≤ 5) → (5 - i < n_) → (∀ q, 0 ≤ q → q < i → q ≠ q9 → σ 14 w q = 0 → ¬ 0 < σ 1 0 q) → JW p l e ({ frames := 1, cells := 0, slots := 0, locals := 22 } : Room) s m args below meth c cy D ad (Ar ad s.heap.size) 4 0 0 (MQ below (QcI cy D ad (fun z σ' => ((z = 0 ∨ z = 1) ∧ (z = 1 ↔ ∃ q, 0 ≤ q ∧ q < 5 ∧ q ≠ q9 ∧ σ 14 w q = 0 ∧ 0 < σ 1 0 q)) ∧ σ' = σ) s.heap.size) args s 0 0 (Ar ad s.heap.size)) σ 2 [some (.ref (ad 0 0)), some (.ref (ad 12 w)), some (.int (iI q9)), some (.int (iI i))] [] := by
    intro n_
    induction n_ with
    | zero => intro i g0 g1 g2 g3; omega
    | succ n_ ih_2 =>
      intro i g0 g1 g2 g3
      refine J_iload_3 C dX3_isAnotherIn_2 ?_
      refine J_iconst C dX3_isAnotherIn_3 ?_
      refine J_icmp_ge (tgt := 29) C (by omega) (by omega) dX3_isAnotherIn_4 (by decide) (fun c_4 => ?_) (fun c_4 => ?_)
      · refine J_iconst C dX3_isAnotherIn_29 ?_
        refine J_retZ C hr (by exact Or.inl rfl) (by decide) (by decide) dX3_isAnotherIn_30 ?_
        exact ⟨⟨Or.inl rfl, fun h => by omega, fun ⟨q, a, b, c9, d9, e9⟩ => absurd e9 (g3 q a (by omega) c9 d9)⟩, rfl⟩
      · refine J_iload_3 C dX3_isAnotherIn_7 ?_
        refine J_iload_2 C dX3_isAnotherIn_8 ?_
        refine J_icmp_eq (tgt := 23) C (by omega) (by omega) dX3_isAnotherIn_9 (by decide) (fun c_9 => ?_) (fun c_9 => ?_)
        · refine J_iinc3 C (by decide) rfl dX3_isAnotherIn_23 ?_
          refine J_goto (tgt := 2) C dX3_isAnotherIn_26 (by decide) ?_
          -- to the cut at 2
          refine ih_2 _ ?_ ?_ ?_ ?_
          · omega
          · omega
          · omega
          · intro q a b c9 d9
            by_cases e : q = i
            · subst e
              first
                | exact absurd (by assumption) c9
                | (have h9 := c_18; rw [if_pos d9] at h9; omega)
            · exact g3 q a (by omega) c9 d9
        · refine J_aload_0 C dX3_isAnotherIn_12 ?_
          refine J_aload_1 C dX3_isAnotherIn_13 ?_
          refine J_iload_3 C dX3_isAnotherIn_14 ?_
          refine J_KVI C (c_X3_shareIfIn hfl hI _ w i hw (by omega) (hf i (by omega) (by omega))) (cwV 2 C.1.2.2.2.2 gX3_isAnotherIn_X3_shareIfIn rfl rfl rfl (by decide +kernel) ⟨Nat.le_of_ble_eq_true rfl, Nat.le_of_ble_eq_true rfl⟩) rc3 (by decide) rfl rfl (Nat.le_of_ble_eq_true rfl) dX3_isAnotherIn_15 ⟨Nat.le_of_ble_eq_true rfl, Nat.le_of_ble_eq_true rfl⟩ (fun z_15 σ_15 hp => ?_)
          obtain ⟨hz_, hs_⟩ := hp
          have hz_ := hz_.symm
          have hs_ := hs_.symm
          subst hz_
          subst hs_
          refine J_if_le (tgt := 23) C (by have := hs i (by omega) (by omega); split <;> omega) dX3_isAnotherIn_18 (by decide) (fun c_18 => ?_) (fun c_18 => ?_)
          · refine J_iinc3 C (by decide) rfl dX3_isAnotherIn_23 ?_
            refine J_goto (tgt := 2) C dX3_isAnotherIn_26 (by decide) ?_
            -- to the cut at 2
            refine ih_2 _ ?_ ?_ ?_ ?_
            · omega
            · omega
            · omega
            · intro q a b c9 d9
              by_cases e : q = i
              · subst e
                first
                  | exact absurd (by assumption) c9
                  | (have h9 := c_18; rw [if_pos d9] at h9; omega)
              · exact g3 q a (by omega) c9 d9
          · refine J_iconst C dX3_isAnotherIn_21 ?_
            refine J_retZ C hr (by exact Or.inr rfl) (by decide) (by decide) dX3_isAnotherIn_22 ?_
            have h9 := c_18
            by_cases d9 : σ 14 w i = 0
            · rw [if_pos d9] at h9
              exact ⟨⟨Or.inr rfl, fun _ => ⟨i, by omega, by omega, by omega, d9, h9⟩, fun _ => rfl⟩, rfl⟩
            · rw [if_neg d9] at h9
              omega
  refine J_iconst C dX3_isAnotherIn_0 ?_
  refine J_istore_3 C (by decide) rfl dX3_isAnotherIn_1 ?_
  -- to the cut at 2
  refine K_2 6 _ ?_ ?_ ?_ ?_
  · decide
  · decide
  · decide
  · intro q a b; omega
set_option maxRecDepth 20000 in
theorem in_X3_paidOfAllCalls_X3 : ∀ w ∈ wsX30, w ∈ wsX3_paidOfAllCalls := by decide +kernel
set_option maxRecDepth 20000 in
theorem fl_X3_paidOfAllCalls_44 : Cond.fieldLink RX3 44 "JointVenture" "cashCallCount" "I" ∈ wsX3_paidOfAllCalls := by decide +kernel
set_option maxRecDepth 20000 in
theorem fl_X3_paidOfAllCalls_40 : Cond.fieldLink RX3 40 "JointVenture" "cashCalls" "[LJointVenture$CashCall;" ∈ wsX3_paidOfAllCalls := by decide +kernel
set_option maxRecDepth 20000 in
theorem in_X3_paidOfAllCalls_X0 : ∀ w ∈ wsX00, w ∈ wsX3_paidOfAllCalls := by decide +kernel
set_option maxRecDepth 20000 in
theorem fl_X3_paidOfAllCalls_169 : Cond.fieldLink RX3 169 "JointVenture$CashCall" "paid" "[I" ∈ wsX3_paidOfAllCalls := by decide +kernel
set_option maxHeartbeats 4000000 in
set_option maxRecDepth 100000 in
theorem c_X3_paidOfAllCalls {l : Launch} (hfl : l.stackTraces = false) {cy : Nat → ClassId} {D : va_G} {ad : Ad} (hI : Inj ad) (σ : Sg) (q9 : Int) (hq9 : 0 ≤ q9 ∧ q9 < 5) (hn : 0 ≤ σ 0 0 9 ∧ σ 0 0 9 ≤ 20) : KI l yX3_paidOfAllCalls wsX3_paidOfAllCalls ({ frames := 0, cells := 0, slots := 0, locals := 0 } : Room) cy D ad σ [.ref (ad 0 0), .int (iI q9)] (fun z σ' => z = sN (fun k => σ 21 k q9) (σ 0 0 9).toNat ∧ σ' = σ) 0 0 := by
  refine KI.of (lv0 := [some (.ref (ad 0 0)), some (.int (iI q9)), none, none]) hfl hI (by decide) rfl (Nat.le_of_ble_eq_true rfl) rfl ?_
  intro p e s m args below meth c C hr
  have K_4 : ∀ (n_ : Nat) (t : Int) (i : Int), (∃ j : Nat, i = (j : Int) ∧ (j : Int) ≤ σ 0 0 9 ∧ t = sN (fun k => σ 21 k q9) j) → (σ 0 0 9 - i < n_) → (0 ≤ i ∧ i ≤ σ 0 0 9) → JW p l e ({ frames := 0, cells := 0, slots := 0, locals := 0 } : Room) s m args below meth c cy D ad (Ar ad s.heap.size) 4 0 0 (MQ below (QcI cy D ad (fun z σ' => z = sN (fun k => σ 21 k q9) (σ 0 0 9).toNat ∧ σ' = σ) s.heap.size) args s 0 0 (Ar ad s.heap.size)) σ 4 [some (.ref (ad 0 0)), some (.int (iI q9)), some (.int (iI t)), some (.int (iI i))] [] := by
    intro n_
    induction n_ with
    | zero => intro t i g0 g1 g2; omega
    | succ n_ ih_4 =>
      intro t i g0 g1 g2
      obtain ⟨j, rfl, hj, rfl⟩ := g0
      refine J_iload_3 C dX3_paidOfAllCalls_4 ?_
      refine J_aload_0 C dX3_paidOfAllCalls_5 ?_
      refine J_get_3_9 C in_X3_paidOfAllCalls_X3 fl_X3_paidOfAllCalls_44 (by decide) dX3_paidOfAllCalls_6 ?_
      refine J_icmp_ge (tgt := 32) C (by omega) (by omega) dX3_paidOfAllCalls_9 (by decide) (fun c_9 => ?_) (fun c_9 => ?_)
      · refine J_iload_2 C dX3_paidOfAllCalls_32 ?_
        refine J_retI C hr (by decide) (by decide) dX3_paidOfAllCalls_33 ?_
        have e : (σ 0 0 9).toNat = j := by omega
        rw [e]
        exact ⟨rfl, rfl⟩
      · refine J_iload_2 C dX3_paidOfAllCalls_12 ?_
        refine J_aload_0 C dX3_paidOfAllCalls_13 ?_
        refine J_get_3_8 C in_X3_paidOfAllCalls_X3 fl_X3_paidOfAllCalls_40 (by decide) dX3_paidOfAllCalls_14 ?_
        refine J_iload_3 C dX3_paidOfAllCalls_17 ?_
        refine J_aaloadC C (by omega) dX3_paidOfAllCalls_18 ?_
        refine J_get_0_1 C in_X3_paidOfAllCalls_X0 fl_X3_paidOfAllCalls_169 ⟨by omega, by show (j : Int) < 20; omega⟩ dX3_paidOfAllCalls_19 ?_
        refine J_iload_1 C dX3_paidOfAllCalls_22 ?_
        refine J_iaload C k21 ⟨by omega, by show (j : Int) < 20; omega⟩ (by omega) dX3_paidOfAllCalls_23 ?_
        refine J_iadd C dX3_paidOfAllCalls_24 ?_
        refine J_istore_2 C (by decide) rfl dX3_paidOfAllCalls_25 ?_
        refine J_iinc3 C (by decide) rfl dX3_paidOfAllCalls_26 ?_
        refine J_goto (tgt := 4) C dX3_paidOfAllCalls_29 (by decide) ?_
        -- to the cut at 4
        refine ih_4 _ _ ?_ ?_ ?_
        · exact ⟨j + 1, by omega, by omega, rfl⟩
        · omega
        · omega
  refine J_iconst C dX3_paidOfAllCalls_0 ?_
  refine J_istore_2 C (by decide) rfl dX3_paidOfAllCalls_1 ?_
  refine J_iconst C dX3_paidOfAllCalls_2 ?_
  refine J_istore_3 C (by decide) rfl dX3_paidOfAllCalls_3 ?_
  -- to the cut at 4
  refine K_4 21 _ _ ?_ ?_ ?_
  · exact ⟨0, rfl, by omega, rfl⟩
  · omega
  · omega
set_option maxRecDepth 20000 in
theorem in_X3_moveToPayers_X0 : ∀ w ∈ wsX00, w ∈ wsX3_moveToPayers := by decide +kernel
set_option maxRecDepth 20000 in
theorem fl_X3_moveToPayers_169 : Cond.fieldLink RX3 169 "JointVenture$CashCall" "paid" "[I" ∈ wsX3_moveToPayers := by decide +kernel
set_option maxRecDepth 20000 in
theorem in_X3_moveToPayers_X3 : ∀ w ∈ wsX30, w ∈ wsX3_moveToPayers := by decide +kernel
set_option maxRecDepth 20000 in
theorem fl_X3_moveToPayers_47 : Cond.fieldLink RX3 47 "JointVenture" "owed" "[I" ∈ wsX3_moveToPayers := by decide +kernel
set_option maxRecDepth 20000 in
theorem fl_X3_moveToPayers_159 : Cond.fieldLink RX3 159 "JointVenture$CashCall" "asked" "[I" ∈ wsX3_moveToPayers := by decide +kernel
set_option maxRecDepth 20000 in
theorem fl_X3_moveToPayers_63 : Cond.fieldLink RX3 63 "JointVenture" "portions" "[I" ∈ wsX3_moveToPayers := by decide +kernel
set_option maxRecDepth 20000 in
theorem fl_X3_moveToPayers_53 : Cond.fieldLink RX3 53 "JointVenture" "division" "LJointVenture$Division;" ∈ wsX3_moveToPayers := by decide +kernel
set_option maxRecDepth 20000 in
theorem fl_X3_moveToPayers_60 : Cond.fieldLink RX3 60 "JointVenture" "weights" "[I" ∈ wsX3_moveToPayers := by decide +kernel
set_option maxHeartbeats 4000000 in
set_option maxRecDepth 100000 in
theorem c_X3_moveToPayers {l : Launch} (hfl : l.stackTraces = false) {cy : Nat → ClassId} {D : va_G} {ad : Ad} (hI : Inj ad) (σ : Sg) (c9 an : Int) (hc : 0 ≤ c9 ∧ c9 < 20) (ha : 0 ≤ an ∧ an < 2147483648) (hr9 : ∀ q, 0 ≤ q → q < 5 → (0 ≤ σ 20 c9 q ∧ σ 20 c9 q < 2147483648) ∧ I32 (σ 21 c9 q)) (hW : Wt (pw σ c9)) : KV l yX3_moveToPayers wsX3_moveToPayers ({ frames := 2, cells := 0, slots := 0, locals := 51 } : Room) cy D ad σ [.ref (ad 0 0), .ref (ad 19 c9), .int (iI an)] (fun σ' => (∀ (a : Nat) (b c : Int), a < 8 ∨ 11 < a → (a ≠ 6 ∨ b ≠ 0 ∨ c < 0 ∨ 5 ≤ c) → (a ≠ 20 ∨ b ≠ c9 ∨ c < 0 ∨ 5 ≤ c) → σ' a b c = σ a b c) ∧ (∀ q, 0 ≤ q → q < 5 → σ' 20 c9 q = if 0 < σ 21 c9 q then σ 20 c9 q + dv an (pw σ c9) q else 0) ∧ ∀ q, 0 ≤ q → q < 5 → σ' 6 0 q = σ 6 0 q + if 0 < σ 21 c9 q then 0 else σ 20 c9 q) 0 0 := by
  refine KV.of (lv0 := [some (.ref (ad 0 0)), some (.ref (ad 19 c9)), some (.int (iI an)), none]) hfl hI (by decide) rfl (Nat.le_of_ble_eq_true rfl) rfl ?_
  intro p e s m args below meth c C hr
  have K_56 : ∀ (n_ : Nat) (i : Int) (σ1 : Sg), (0 ≤ i) → (i ≤ 5) → (5 - i < n_) → (∀ (a : Nat) (b c : Int), a < 8 ∨ 11 < a → (a ≠ 6 ∨ b ≠ 0 ∨ c < 0 ∨ 5 ≤ c) → (a ≠ 20 ∨ b ≠ c9 ∨ c < 0 ∨ 5 ≤ c) → σ1 a b c = σ a b c) → (∀ q, 0 ≤ q → q < 5 → σ1 11 0 q = dv an (pw σ c9) q) → (∀ q, 0 ≤ q → q < 5 → σ1 20 c9 q = if q < i then (if 0 < σ 21 c9 q then σ 20 c9 q + dv an (pw σ c9) q else 0) else σ 20 c9 q) → (∀ q, 0 ≤ q → q < 5 → σ1 6 0 q = σ 6 0 q + if q < i then (if 0 < σ 21 c9 q then 0 else σ 20 c9 q) else 0) → JW p l e ({ frames := 2, cells := 0, slots := 0, locals := 51 } : Room) s m args below meth c cy D ad (Ar ad s.heap.size) 4 0 0 (MQ below (QcV cy D ad (fun σ' => (∀ (a : Nat) (b c : Int), a < 8 ∨ 11 < a → (a ≠ 6 ∨ b ≠ 0 ∨ c < 0 ∨ 5 ≤ c) → (a ≠ 20 ∨ b ≠ c9 ∨ c < 0 ∨ 5 ≤ c) → σ' a b c = σ a b c) ∧ (∀ q, 0 ≤ q → q < 5 → σ' 20 c9 q = if 0 < σ 21 c9 q then σ 20 c9 q + dv an (pw σ c9) q else 0) ∧ ∀ q, 0 ≤ q → q < 5 → σ' 6 0 q = σ 6 0 q + if 0 < σ 21 c9 q then 0 else σ 20 c9 q) s.heap.size) args s 0 0 (Ar ad s.heap.size)) σ1 56 [some (.ref (ad 0 0)), some (.ref (ad 19 c9)), some (.int (iI an)), some (.int (iI i))] [] := by
    intro n_
    induction n_ with
    | zero => intro i σ1 g0 g1 g2 g3 g4 g5 g6; omega
    | succ n_ ih_56 =>
      intro i σ1 g0 g1 g2 g3 g4 g5 g6
      have h21 : σ1 21 c9 i = σ 21 c9 i := g3 21 c9 i (by omega) (by omega) (by omega)
      refine J_iload_3 C dX3_moveToPayers_56 ?_
      refine J_iconst C dX3_moveToPayers_57 ?_
      refine J_icmp_ge (tgt := 116) C (by omega) (by omega) dX3_moveToPayers_58 (by decide) (fun c_58 => ?_) (fun c_58 => ?_)
      · refine J_retV C hr (by decide) (by decide) dX3_moveToPayers_116 ?_
        have e : i = 5 := by omega
        subst e
        exact ⟨g3, fun q a b => by rw [g5 q a b, if_pos b], fun q a b => by rw [g6 q a b, if_pos b]⟩
      · refine J_aload_1 C dX3_moveToPayers_61 ?_
        refine J_get_0_1 C in_X3_moveToPayers_X0 fl_X3_moveToPayers_169 hc dX3_moveToPayers_62 ?_
        refine J_iload_3 C dX3_moveToPayers_65 ?_
        refine J_iaload C k21 hc (by omega) dX3_moveToPayers_66 ?_
        refine J_if_le (tgt := 88) C (by rw [h21]; exact (hr9 i (by omega) (by omega)).2) dX3_moveToPayers_67 (by decide) (fun c_67 => ?_) (fun c_67 => ?_)
        · refine J_aload_0 C dX3_moveToPayers_88 ?_
          refine J_get_3_10 C in_X3_moveToPayers_X3 fl_X3_moveToPayers_47 (by decide) dX3_moveToPayers_89 ?_
          refine J_iload_3 C dX3_moveToPayers_92 ?_
          refine J_dup2 C rfl rfl dX3_moveToPayers_93 ?_
          refine J_iaload C k6 (by decide) (by omega) dX3_moveToPayers_94 ?_
          refine J_aload_1 C dX3_moveToPayers_95 ?_
          refine J_get_0_0 C in_X3_moveToPayers_X0 fl_X3_moveToPayers_159 hc dX3_moveToPayers_96 ?_
          refine J_iload_3 C dX3_moveToPayers_99 ?_
          refine J_iaload C k20 hc (by omega) dX3_moveToPayers_100 ?_
          refine J_iadd C dX3_moveToPayers_101 ?_
          refine J_iastore C k6 (by decide) (by omega) dX3_moveToPayers_102 ?_
          refine J_aload_1 C dX3_moveToPayers_103 ?_
          refine J_get_0_0 C in_X3_moveToPayers_X0 fl_X3_moveToPayers_159 hc dX3_moveToPayers_104 ?_
          refine J_iload_3 C dX3_moveToPayers_107 ?_
          refine J_iconst C dX3_moveToPayers_108 ?_
          refine J_iastore C k20 hc (by omega) dX3_moveToPayers_109 ?_
          refine J_iinc3 C (by decide) rfl dX3_moveToPayers_110 ?_
          refine J_goto (tgt := 56) C dX3_moveToPayers_113 (by decide) ?_
          -- to the cut at 56
          refine ih_56 _ _ ?_ ?_ ?_ ?_ ?_ ?_ ?_
          · omega
          · omega
          · omega
          · intro a b c h h8 h9
            (first | rw [su_ne3 (by omega), su_ne3 (by omega)] | rw [su_ne3 (by omega)])
            exact g3 a b c h h8 h9
          · intro q a b
            (first | rw [su_nk (by decide), su_nk (by decide)] | rw [su_nk (by decide)])
            exact g4 q a b
          · intro q a b
            have hv := g5 q a b
            have hd := g4 q a b
            clear g3 g4 g5 g6
            simp only [su] at *
            grind
          · intro q a b
            have hv := g6 q a b
            have hd := g5 q a b
            clear g3 g4 g5 g6
            simp only [su] at *
            grind
        · refine J_aload_1 C dX3_moveToPayers_70 ?_
          refine J_get_0_0 C in_X3_moveToPayers_X0 fl_X3_moveToPayers_159 hc dX3_moveToPayers_71 ?_
          refine J_iload_3 C dX3_moveToPayers_74 ?_
          refine J_dup2 C rfl rfl dX3_moveToPayers_75 ?_
          refine J_iaload C k20 hc (by omega) dX3_moveToPayers_76 ?_
          refine J_aload_0 C dX3_moveToPayers_77 ?_
          refine J_get_3_14 C in_X3_moveToPayers_X3 fl_X3_moveToPayers_63 (by decide) dX3_moveToPayers_78 ?_
          refine J_iload_3 C dX3_moveToPayers_81 ?_
          refine J_iaload C k11 (by decide) (by omega) dX3_moveToPayers_82 ?_
          refine J_iadd C dX3_moveToPayers_83 ?_
          refine J_iastore C k20 hc (by omega) dX3_moveToPayers_84 ?_
          refine J_goto (tgt := 110) C dX3_moveToPayers_85 (by decide) ?_
          refine J_iinc3 C (by decide) rfl dX3_moveToPayers_110 ?_
          refine J_goto (tgt := 56) C dX3_moveToPayers_113 (by decide) ?_
          -- to the cut at 56
          refine ih_56 _ _ ?_ ?_ ?_ ?_ ?_ ?_ ?_
          · omega
          · omega
          · omega
          · intro a b c h h8 h9
            (first | rw [su_ne3 (by omega), su_ne3 (by omega)] | rw [su_ne3 (by omega)])
            exact g3 a b c h h8 h9
          · intro q a b
            (first | rw [su_nk (by decide), su_nk (by decide)] | rw [su_nk (by decide)])
            exact g4 q a b
          · intro q a b
            have hv := g5 q a b
            have hd := g4 q a b
            clear g3 g4 g5 g6
            simp only [su] at *
            grind
          · intro q a b
            have hv := g6 q a b
            have hd := g5 q a b
            clear g3 g4 g5 g6
            simp only [su] at *
            grind
  have K_2 : ∀ (n_ : Nat) (i : Int) (σ1 : Sg), (0 ≤ i) → (i ≤ 5) → (5 - i < n_) → (σ1 = sf σ 10 0 i (pw σ c9)) → JW p l e ({ frames := 2, cells := 0, slots := 0, locals := 51 } : Room) s m args below meth c cy D ad (Ar ad s.heap.size) 4 0 0 (MQ below (QcV cy D ad (fun σ' => (∀ (a : Nat) (b c : Int), a < 8 ∨ 11 < a → (a ≠ 6 ∨ b ≠ 0 ∨ c < 0 ∨ 5 ≤ c) → (a ≠ 20 ∨ b ≠ c9 ∨ c < 0 ∨ 5 ≤ c) → σ' a b c = σ a b c) ∧ (∀ q, 0 ≤ q → q < 5 → σ' 20 c9 q = if 0 < σ 21 c9 q then σ 20 c9 q + dv an (pw σ c9) q else 0) ∧ ∀ q, 0 ≤ q → q < 5 → σ' 6 0 q = σ 6 0 q + if 0 < σ 21 c9 q then 0 else σ 20 c9 q) s.heap.size) args s 0 0 (Ar ad s.heap.size)) σ1 2 [some (.ref (ad 0 0)), some (.ref (ad 19 c9)), some (.int (iI an)), some (.int (iI i))] [] := by
    intro n_
    induction n_ with
    | zero => intro i σ1 g0 g1 g2 g3; omega
    | succ n_ ih_2 =>
      intro i σ1 g0 g1 g2 g3
      have h21 : σ1 21 c9 i = σ 21 c9 i := by rw [g3, sf_nk (by decide)]
      have h20 : σ1 20 c9 i = σ 20 c9 i := by rw [g3, sf_nk (by decide)]
      refine J_iload_3 C dX3_moveToPayers_2 ?_
      refine J_iconst C dX3_moveToPayers_3 ?_
      refine J_icmp_ge (tgt := 38) C (by omega) (by omega) dX3_moveToPayers_4 (by decide) (fun c_4 => ?_) (fun c_4 => ?_)
      · refine J_aload_0 C dX3_moveToPayers_38 ?_
        refine J_get_3_11 C in_X3_moveToPayers_X3 fl_X3_moveToPayers_53 (by decide) dX3_moveToPayers_39 ?_
        refine J_iload_2 C dX3_moveToPayers_42 ?_
        refine J_aload_0 C dX3_moveToPayers_43 ?_
        refine J_get_3_13 C in_X3_moveToPayers_X3 fl_X3_moveToPayers_60 (by decide) dX3_moveToPayers_44 ?_
        refine J_aload_0 C dX3_moveToPayers_47 ?_
        refine J_get_3_14 C in_X3_moveToPayers_X3 fl_X3_moveToPayers_63 (by decide) dX3_moveToPayers_48 ?_
        refine J_KVV C (c_X1_divide hfl hI _ _ 10 11 0 0 k10 k11 (by decide) (by decide) (by decide) (by decide) (by decide) ha (Wt.congr (fun q a b => by rw [g3, sf_at a (by omega)]) hW) (fun q a b => by rw [g3, sf_at a (by omega)]; unfold pw; have := hr9 q a b; split <;> omega)) (cwV 3 C.1.2.2.2.2 gX3_moveToPayers_X1_divide rfl rfl rfl (by decide +kernel) ⟨Nat.le_of_ble_eq_true rfl, Nat.le_of_ble_eq_true rfl⟩) rc1 (by decide) rfl rfl (Nat.le_of_ble_eq_true rfl) dX3_moveToPayers_51 ⟨Nat.le_of_ble_eq_true rfl, Nat.le_of_ble_eq_true rfl⟩ (fun σ_51 hp => ?_)
        obtain ⟨f1, hp⟩ := hp
        have F2 : ∀ (a : Nat) (b c : Int), a < 8 ∨ 11 < a → σ_51 a b c = σ a b c := fun a b c h => by rw [hp, sf_nk (by omega), sf_nk (by omega), g3, sf_nk (by omega)]
        have D2 : ∀ q, 0 ≤ q → q < 5 → σ_51 11 0 q = dv an (pw σ c9) q := fun q a b => by rw [hp, sf_at a b]; exact dv_congr (fun x c d => by rw [g3, sf_at c (by omega)]) q a b
        clear hp
        refine J_iconst C dX3_moveToPayers_54 ?_
        refine J_istore_3 C (by decide) rfl dX3_moveToPayers_55 ?_
        -- to the cut at 56
        refine K_56 6 _ _ ?_ ?_ ?_ ?_ ?_ ?_ ?_
        · decide
        · decide
        · decide
        · intro a b c h h8 h9
          exact F2 a b c h
        · exact D2
        · intro q a b
          rw [if_neg (by omega)]
          exact F2 _ _ _ (by omega)
        · intro q a b
          rw [if_neg (by omega), Int.add_zero]
          exact F2 _ _ _ (by omega)
      · refine J_aload_0 C dX3_moveToPayers_7 ?_
        refine J_get_3_13 C in_X3_moveToPayers_X3 fl_X3_moveToPayers_60 (by decide) dX3_moveToPayers_8 ?_
        refine J_iload_3 C dX3_moveToPayers_11 ?_
        refine J_aload_1 C dX3_moveToPayers_12 ?_
        refine J_get_0_1 C in_X3_moveToPayers_X0 fl_X3_moveToPayers_169 hc dX3_moveToPayers_13 ?_
        refine J_iload_3 C dX3_moveToPayers_16 ?_
        refine J_iaload C k21 hc (by omega) dX3_moveToPayers_17 ?_
        refine J_if_le (tgt := 30) C (by rw [h21]; exact (hr9 i (by omega) (by omega)).2) dX3_moveToPayers_18 (by decide) (fun c_18 => ?_) (fun c_18 => ?_)
        · refine J_iconst C dX3_moveToPayers_30 ?_
          refine J_iastore C k10 (by decide) (by omega) dX3_moveToPayers_31 ?_
          refine J_iinc3 C (by decide) rfl dX3_moveToPayers_32 ?_
          refine J_goto (tgt := 2) C dX3_moveToPayers_35 (by decide) ?_
          -- to the cut at 2
          refine ih_2 _ _ ?_ ?_ ?_ ?_
          · omega
          · omega
          · omega
          · (try rw [h20])
            rw [g3]
            refine sf_su g0 ?_
            unfold pw
            first
              | rw [if_pos (by omega)]
              | rw [if_neg (by omega)]
        · refine J_aload_1 C dX3_moveToPayers_21 ?_
          refine J_get_0_0 C in_X3_moveToPayers_X0 fl_X3_moveToPayers_159 hc dX3_moveToPayers_22 ?_
          refine J_iload_3 C dX3_moveToPayers_25 ?_
          refine J_iaload C k20 hc (by omega) dX3_moveToPayers_26 ?_
          refine J_goto (tgt := 31) C dX3_moveToPayers_27 (by decide) ?_
          refine J_iastore C k10 (by decide) (by omega) dX3_moveToPayers_31 ?_
          refine J_iinc3 C (by decide) rfl dX3_moveToPayers_32 ?_
          refine J_goto (tgt := 2) C dX3_moveToPayers_35 (by decide) ?_
          -- to the cut at 2
          refine ih_2 _ _ ?_ ?_ ?_ ?_
          · omega
          · omega
          · omega
          · (try rw [h20])
            rw [g3]
            refine sf_su g0 ?_
            unfold pw
            first
              | rw [if_pos (by omega)]
              | rw [if_neg (by omega)]
  refine J_iconst C dX3_moveToPayers_0 ?_
  refine J_istore_3 C (by decide) rfl dX3_moveToPayers_1 ?_
  -- to the cut at 2
  refine K_2 6 _ _ ?_ ?_ ?_ ?_
  · decide
  · decide
  · decide
  · exact (sf_0 ..).symm
