set_option maxRecDepth 20000 in
theorem in_X2_clearAccounts_X2 : ∀ w ∈ wsX20, w ∈ wsX2_clearAccounts := by decide +kernel
set_option maxRecDepth 20000 in
theorem fl_X2_clearAccounts_23 : Cond.fieldLink RX2 23 "JointVenture$Well" "out" "[Z" ∈ wsX2_clearAccounts := by decide +kernel
set_option maxRecDepth 20000 in
theorem fl_X2_clearAccounts_19 : Cond.fieldLink RX2 19 "JointVenture$Well" "electedOut" "[Z" ∈ wsX2_clearAccounts := by decide +kernel
set_option maxRecDepth 20000 in
theorem fl_X2_clearAccounts_26 : Cond.fieldLink RX2 26 "JointVenture$Well" "toEarn" "[J" ∈ wsX2_clearAccounts := by decide +kernel
set_option maxRecDepth 20000 in
theorem fl_X2_clearAccounts_30 : Cond.fieldLink RX2 30 "JointVenture$Well" "backAt" "[I" ∈ wsX2_clearAccounts := by decide +kernel
set_option maxRecDepth 20000 in
theorem fl_X2_clearAccounts_34 : Cond.fieldLink RX2 34 "JointVenture$Well" "charged" "[I" ∈ wsX2_clearAccounts := by decide +kernel
set_option maxRecDepth 20000 in
theorem fl_X2_clearAccounts_37 : Cond.fieldLink RX2 37 "JointVenture$Well" "credited" "[I" ∈ wsX2_clearAccounts := by decide +kernel
set_option maxHeartbeats 4000000 in
set_option maxRecDepth 100000 in
theorem c_X2_clearAccounts {l : Launch} (hfl : l.stackTraces = false) {cy : Nat → ClassId} {D : va_G} {ad : Ad} (hI : Inj ad) (σ : Sg) (w : Int) (hw : 0 ≤ w ∧ w < 6) (he : ∀ p, 0 ≤ p → p < 5 → σ 13 w p = 0 ∨ σ 13 w p = 1) : KV l yX2_clearAccounts wsX2_clearAccounts ({ frames := 1, cells := 0, slots := 0, locals := 24 } : Room) cy D ad σ [.ref (ad 12 w)] (fun σ' => σ' = sf (sf (sf (sf (sf σ 15 w 5 (fun _ => 0)) 16 w 5 (fun _ => -1)) 17 w 5 (fun _ => 0)) 18 w 5 (fun _ => 0)) 14 w 5 (σ 13 w)) 0 0 := by
  refine KV.of (lv0 := [some (.ref (ad 12 w)), none]) hfl hI (by decide) rfl (Nat.le_of_ble_eq_true rfl) rfl ?_
  intro p e s m args below meth c C hr
  have K_34 : ∀ (n_ : Nat) (i : Int) (σ1 : Sg), (0 ≤ i) → (i ≤ 5) → (5 - i < n_) → (σ1 = sf (sf (sf (sf (sf σ 15 w 5 (fun _ => 0)) 16 w 5 (fun _ => -1)) 17 w 5 (fun _ => 0)) 18 w 5 (fun _ => 0)) 14 w i (σ 13 w)) → JW p l e ({ frames := 1, cells := 0, slots := 0, locals := 24 } : Room) s m args below meth c cy D ad (Ar ad s.heap.size) 2 0 0 (MQ below (QcV cy D ad (fun σ' => σ' = sf (sf (sf (sf (sf σ 15 w 5 (fun _ => 0)) 16 w 5 (fun _ => -1)) 17 w 5 (fun _ => 0)) 18 w 5 (fun _ => 0)) 14 w 5 (σ 13 w)) s.heap.size) args s 0 0 (Ar ad s.heap.size)) σ1 34 [some (.ref (ad 12 w)), some (.int (iI i))] [] := by
    intro n_
    induction n_ with
    | zero => intro i σ1 g0 g1 g2 g3; omega
    | succ n_ ih_34 =>
      intro i σ1 g0 g1 g2 g3
      have h13 : σ1 13 w i = σ 13 w i := by rw [g3]; simp [sf]
      refine J_iload_1 C dX2_clearAccounts_34 ?_
      refine J_iconst C dX2_clearAccounts_35 ?_
      refine J_icmp_ge (tgt := 57) C (by omega) (by omega) dX2_clearAccounts_36 (by decide) (fun c_36 => ?_) (fun c_36 => ?_)
      · refine J_retV C hr (by decide) (by decide) dX2_clearAccounts_57 ?_
        have e : i = 5 := by omega
        rw [g3, e]
      · refine J_aload_0 C dX2_clearAccounts_39 ?_
        refine J_get_2_3 C in_X2_clearAccounts_X2 fl_X2_clearAccounts_23 hw dX2_clearAccounts_40 ?_
        refine J_iload_1 C dX2_clearAccounts_43 ?_
        refine J_aload_0 C dX2_clearAccounts_44 ?_
        refine J_get_2_2 C in_X2_clearAccounts_X2 fl_X2_clearAccounts_19 hw dX2_clearAccounts_45 ?_
        refine J_iload_1 C dX2_clearAccounts_48 ?_
        refine J_baload C k13 hw (by omega) dX2_clearAccounts_49 ?_
        refine J_bastore C k14 hw (by omega) (by rw [h13]; exact he _ (by omega) (by omega)) dX2_clearAccounts_50 ?_
        refine J_iinc1 C (by decide) rfl dX2_clearAccounts_51 ?_
        refine J_goto (tgt := 34) C dX2_clearAccounts_54 (by decide) ?_
        -- to the cut at 34
        refine ih_34 _ _ ?_ ?_ ?_ ?_
        · omega
        · omega
        · omega
        · rw [h13, g3]
          exact sf_su g0 rfl
  refine J_aload_0 C dX2_clearAccounts_0 ?_
  refine J_get_2_4 C in_X2_clearAccounts_X2 fl_X2_clearAccounts_26 hw dX2_clearAccounts_1 ?_
  refine J_lconst (z := 0) C (by decide) dX2_clearAccounts_4 ?_
  refine J_KSV C (c_J7_fill_d0a16 hfl hI _ 15 w 0 k15 hw) (va_cwS 2 C.1.2.2.2.2 gX2_clearAccounts_J7_fill_d0a16 rfl rfl rfl (by decide +kernel) ⟨Nat.le_of_ble_eq_true rfl, Nat.le_of_ble_eq_true rfl⟩) rfl rfl (Nat.le_of_ble_eq_true rfl) dX2_clearAccounts_5 ⟨Nat.le_of_ble_eq_true rfl, Nat.le_of_ble_eq_true rfl⟩ (fun σ_5 hp => ?_)
  have hp := hp.symm
  subst hp
  refine J_aload_0 C dX2_clearAccounts_8 ?_
  refine J_get_2_5 C in_X2_clearAccounts_X2 fl_X2_clearAccounts_30 hw dX2_clearAccounts_9 ?_
  refine J_iconst C dX2_clearAccounts_12 ?_
  refine J_KSV C (c_J7_fill_53178 hfl hI _ 16 w (-1) k16 hw) (va_cwS 2 C.1.2.2.2.2 gX2_clearAccounts_J7_fill_53178 rfl rfl rfl (by decide +kernel) ⟨Nat.le_of_ble_eq_true rfl, Nat.le_of_ble_eq_true rfl⟩) rfl rfl (Nat.le_of_ble_eq_true rfl) dX2_clearAccounts_13 ⟨Nat.le_of_ble_eq_true rfl, Nat.le_of_ble_eq_true rfl⟩ (fun σ_13 hp => ?_)
  have hp := hp.symm
  subst hp
  refine J_aload_0 C dX2_clearAccounts_16 ?_
  refine J_get_2_6 C in_X2_clearAccounts_X2 fl_X2_clearAccounts_34 hw dX2_clearAccounts_17 ?_
  refine J_iconst C dX2_clearAccounts_20 ?_
  refine J_KSV C (c_J7_fill_53178 hfl hI _ 17 w 0 k17 hw) (va_cwS 2 C.1.2.2.2.2 gX2_clearAccounts_J7_fill_53178 rfl rfl rfl (by decide +kernel) ⟨Nat.le_of_ble_eq_true rfl, Nat.le_of_ble_eq_true rfl⟩) rfl rfl (Nat.le_of_ble_eq_true rfl) dX2_clearAccounts_21 ⟨Nat.le_of_ble_eq_true rfl, Nat.le_of_ble_eq_true rfl⟩ (fun σ_21 hp => ?_)
  have hp := hp.symm
  subst hp
  refine J_aload_0 C dX2_clearAccounts_24 ?_
  refine J_get_2_7 C in_X2_clearAccounts_X2 fl_X2_clearAccounts_37 hw dX2_clearAccounts_25 ?_
  refine J_iconst C dX2_clearAccounts_28 ?_
  refine J_KSV C (c_J7_fill_53178 hfl hI _ 18 w 0 k18 hw) (va_cwS 2 C.1.2.2.2.2 gX2_clearAccounts_J7_fill_53178 rfl rfl rfl (by decide +kernel) ⟨Nat.le_of_ble_eq_true rfl, Nat.le_of_ble_eq_true rfl⟩) rfl rfl (Nat.le_of_ble_eq_true rfl) dX2_clearAccounts_29 ⟨Nat.le_of_ble_eq_true rfl, Nat.le_of_ble_eq_true rfl⟩ (fun σ_29 hp => ?_)
  have hp := hp.symm
  subst hp
  refine J_iconst C dX2_clearAccounts_32 ?_
  refine J_istore_1 C (by decide) rfl dX2_clearAccounts_33 ?_
  -- to the cut at 34
  refine K_34 6 _ _ ?_ ?_ ?_ ?_
  · decide
  · decide
  · decide
  · exact (sf_0 ..).symm
set_option maxRecDepth 20000 in
theorem in_X2_takenOf_X2 : ∀ w ∈ wsX20, w ∈ wsX2_takenOf := by decide +kernel
set_option maxRecDepth 20000 in
theorem fl_X2_takenOf_23 : Cond.fieldLink RX2 23 "JointVenture$Well" "out" "[Z" ∈ wsX2_takenOf := by decide +kernel
set_option maxRecDepth 20000 in
theorem fl_X2_takenOf_26 : Cond.fieldLink RX2 26 "JointVenture$Well" "toEarn" "[J" ∈ wsX2_takenOf := by decide +kernel
set_option maxRecDepth 20000 in
theorem min_X2_takenOf : (Cond.methodLink RX2 49 Lib.MathLoose.min_long.x ∈ wsX2_takenOf ∧ Cond.static Lib.MathLoose.min_long.x ∈ wsX2_takenOf) ∧ Cond.initialized "java/lang/Math" ∈ wsX2_takenOf ∧ Cond.code Lib.MathLoose.min_long.x Lib.MathLoose.min_long.code 4 (some .long) ∈ wsX2_takenOf := ⟨⟨by decide +kernel, by decide +kernel⟩, by decide +kernel, by decide +kernel⟩
set_option maxHeartbeats 4000000 in
set_option maxRecDepth 100000 in
theorem c_X2_takenOf {l : Launch} (hfl : l.stackTraces = false) {cy : Nat → ClassId} {D : va_G} {ad : Ad} (hI : Inj ad) (σ : Sg) (w q o : Int) (hw : 0 ≤ w ∧ w < 6) (hq : 0 ≤ q ∧ q < 5) (hf : σ 14 w q = 0 ∨ σ 14 w q = 1) (ho : 0 ≤ o ∧ o < 2147483648) (he : I64 (σ 15 w q)) : KI l yX2_takenOf wsX2_takenOf ({ frames := 1, cells := 0, slots := 0, locals := 15 } : Room) cy D ad σ [.ref (ad 12 w), .int (iI q), .int (iI o)] (fun z σ' => z = (if σ 14 w q = 0 then 0 else if σ 15 w q < o then σ 15 w q else o) ∧ σ' = σ) 0 0 := by
  refine KI.of (lv0 := [some (.ref (ad 12 w)), some (.int (iI q)), some (.int (iI o))]) hfl hI (by decide) rfl (Nat.le_of_ble_eq_true rfl) rfl ?_
  intro p e s m args below meth c C hr
  refine J_aload_0 C dX2_takenOf_0 ?_
  refine J_get_2_3 C in_X2_takenOf_X2 fl_X2_takenOf_23 hw dX2_takenOf_1 ?_
  refine J_iload_1 C dX2_takenOf_4 ?_
  refine J_baload C k14 hw (by omega) dX2_takenOf_5 ?_
  refine J_if_eq (tgt := 24) C (by omega) dX2_takenOf_6 (by decide) (fun c_6 => ?_) (fun c_6 => ?_)
  · refine J_iconst C dX2_takenOf_24 ?_
    refine J_retI C hr (by decide) (by decide) dX2_takenOf_25 ?_
    first | exact ⟨(if_pos (by assumption)).symm, rfl⟩ | exact ⟨(if_neg (by assumption)).symm, rfl⟩
  · refine J_iload_2 C dX2_takenOf_9 ?_
    refine J_i2l C (by omega) dX2_takenOf_10 ?_
    refine J_aload_0 C dX2_takenOf_11 ?_
    refine J_get_2_4 C in_X2_takenOf_X2 fl_X2_takenOf_26 hw dX2_takenOf_12 ?_
    refine J_iload_1 C dX2_takenOf_15 ?_
    refine J_laload C k15 hw (by omega) dX2_takenOf_16 ?_
    refine J_min C min_X2_takenOf (by omega) (by omega) dX2_takenOf_17 (by decide) (by decide) ⟨by decide, by decide⟩ ?_
    refine J_l2i C dX2_takenOf_20 ?_
    refine J_goto (tgt := 25) C dX2_takenOf_21 (by decide) ?_
    refine J_retI C hr (by decide) (by decide) dX2_takenOf_25 ?_
    first | exact ⟨(if_pos (by assumption)).symm, rfl⟩ | exact ⟨(if_neg (by assumption)).symm, rfl⟩
set_option maxRecDepth 20000 in
theorem in_X2_takeBack_X2 : ∀ w ∈ wsX20, w ∈ wsX2_takeBack := by decide +kernel
set_option maxRecDepth 20000 in
theorem fl_X2_takeBack_23 : Cond.fieldLink RX2 23 "JointVenture$Well" "out" "[Z" ∈ wsX2_takeBack := by decide +kernel
set_option maxRecDepth 20000 in
theorem fl_X2_takeBack_26 : Cond.fieldLink RX2 26 "JointVenture$Well" "toEarn" "[J" ∈ wsX2_takeBack := by decide +kernel
set_option maxRecDepth 20000 in
theorem fl_X2_takeBack_30 : Cond.fieldLink RX2 30 "JointVenture$Well" "backAt" "[I" ∈ wsX2_takeBack := by decide +kernel
set_option maxHeartbeats 4000000 in
set_option maxRecDepth 100000 in
theorem c_X2_takeBack {l : Launch} (hfl : l.stackTraces = false) {cy : Nat → ClassId} {D : va_G} {ad : Ad} (hI : Inj ad) (σ : Sg) (w v : Int) (hw : 0 ≤ w ∧ w < 6) (hf : ∀ p, 0 ≤ p → p < 5 → σ 14 w p = 0 ∨ σ 14 w p = 1) (he : ∀ p, 0 ≤ p → p < 5 → I64 (σ 15 w p)) : KV l yX2_takeBack wsX2_takeBack ({ frames := 0, cells := 0, slots := 0, locals := 0 } : Room) cy D ad σ [.ref (ad 12 w), .int (iI v)] (fun σ' => σ' = sf (sf σ 14 w 5 (fun p => if ¬ σ 14 w p = 0 ∧ σ 15 w p = 0 then 0 else σ 14 w p)) 16 w 5 (fun p => if ¬ σ 14 w p = 0 ∧ σ 15 w p = 0 then v else σ 16 w p)) 0 0 := by
  refine KV.of (lv0 := [some (.ref (ad 12 w)), some (.int (iI v)), none]) hfl hI (by decide) rfl (Nat.le_of_ble_eq_true rfl) rfl ?_
  intro p e s m args below meth c C hr
  have K_2 : ∀ (n_ : Nat) (i : Int) (σ1 : Sg), (0 ≤ i) → (i ≤ 5) → (5 - i < n_) → (σ1 = sf (sf σ 14 w i (fun p => if ¬ σ 14 w p = 0 ∧ σ 15 w p = 0 then 0 else σ 14 w p)) 16 w i (fun p => if ¬ σ 14 w p = 0 ∧ σ 15 w p = 0 then v else σ 16 w p)) → JW p l e ({ frames := 0, cells := 0, slots := 0, locals := 0 } : Room) s m args below meth c cy D ad (Ar ad s.heap.size) 3 0 0 (MQ below (QcV cy D ad (fun σ' => σ' = sf (sf σ 14 w 5 (fun p => if ¬ σ 14 w p = 0 ∧ σ 15 w p = 0 then 0 else σ 14 w p)) 16 w 5 (fun p => if ¬ σ 14 w p = 0 ∧ σ 15 w p = 0 then v else σ 16 w p)) s.heap.size) args s 0 0 (Ar ad s.heap.size)) σ1 2 [some (.ref (ad 12 w)), some (.int (iI v)), some (.int (iI i))] [] := by
    intro n_
    induction n_ with
    | zero => intro i σ1 g0 g1 g2 g3; omega
    | succ n_ ih_2 =>
      intro i σ1 g0 g1 g2 g3
      have h14 : σ1 14 w i = σ 14 w i := by rw [g3, sf_nk (by decide), sf_ge (Int.le_refl _)]
      have h15 : σ1 15 w i = σ 15 w i := by rw [g3, sf_nk (by decide), sf_nk (by decide)]
      refine J_iload_2 C dX2_takeBack_2 ?_
      refine J_iconst C dX2_takeBack_3 ?_
      refine J_icmp_ge (tgt := 47) C (by omega) (by omega) dX2_takeBack_4 (by decide) (fun c_4 => ?_) (fun c_4 => ?_)
      · refine J_retV C hr (by decide) (by decide) dX2_takeBack_47 ?_
        have e : i = 5 := by omega
        rw [g3, e]
      · refine J_aload_0 C dX2_takeBack_7 ?_
        refine J_get_2_3 C in_X2_takeBack_X2 fl_X2_takeBack_23 hw dX2_takeBack_8 ?_
        refine J_iload_2 C dX2_takeBack_11 ?_
        refine J_baload C k14 hw (by omega) dX2_takeBack_12 ?_
        refine J_if_eq (tgt := 41) C (by have := hf i (by omega) (by omega); omega) dX2_takeBack_13 (by decide) (fun c_13 => ?_) (fun c_13 => ?_)
        · refine J_iinc2 C (by decide) rfl dX2_takeBack_41 ?_
          refine J_goto (tgt := 2) C dX2_takeBack_44 (by decide) ?_
          -- to the cut at 2
          refine ih_2 _ _ ?_ ?_ ?_ ?_
          · omega
          · omega
          · omega
          · rw [g3]
            first
              | (refine sf2_st g0 (by decide) ?_ ?_ <;> (rw [if_pos (by omega)]))
              | (refine sf2_id g0 (by decide) ?_ ?_ <;> (rw [if_neg (by omega)]))
        · refine J_aload_0 C dX2_takeBack_16 ?_
          refine J_get_2_4 C in_X2_takeBack_X2 fl_X2_takeBack_26 hw dX2_takeBack_17 ?_
          refine J_iload_2 C dX2_takeBack_20 ?_
          refine J_laload C k15 hw (by omega) dX2_takeBack_21 ?_
          refine J_lconst (z := 0) C (by decide) dX2_takeBack_22 ?_
          refine J_lif_ne (tgt := 41) C (by have := he i (by omega) (by omega); omega) (by omega) dX2_takeBack_23 dX2_takeBack_24 (by decide) (fun c_23 => ?_) (fun c_23 => ?_)
          · refine J_iinc2 C (by decide) rfl dX2_takeBack_41 ?_
            refine J_goto (tgt := 2) C dX2_takeBack_44 (by decide) ?_
            -- to the cut at 2
            refine ih_2 _ _ ?_ ?_ ?_ ?_
            · omega
            · omega
            · omega
            · rw [g3]
              first
                | (refine sf2_st g0 (by decide) ?_ ?_ <;> (rw [if_pos (by omega)]))
                | (refine sf2_id g0 (by decide) ?_ ?_ <;> (rw [if_neg (by omega)]))
          · refine J_aload_0 C dX2_takeBack_27 ?_
            refine J_get_2_3 C in_X2_takeBack_X2 fl_X2_takeBack_23 hw dX2_takeBack_28 ?_
            refine J_iload_2 C dX2_takeBack_31 ?_
            refine J_iconst C dX2_takeBack_32 ?_
            refine J_bastore C k14 hw (by omega) (by exact Or.inl rfl) dX2_takeBack_33 ?_
            refine J_aload_0 C dX2_takeBack_34 ?_
            refine J_get_2_5 C in_X2_takeBack_X2 fl_X2_takeBack_30 hw dX2_takeBack_35 ?_
            refine J_iload_2 C dX2_takeBack_38 ?_
            refine J_iload_1 C dX2_takeBack_39 ?_
            refine J_iastore C k16 hw (by omega) dX2_takeBack_40 ?_
            refine J_iinc2 C (by decide) rfl dX2_takeBack_41 ?_
            refine J_goto (tgt := 2) C dX2_takeBack_44 (by decide) ?_
            -- to the cut at 2
            refine ih_2 _ _ ?_ ?_ ?_ ?_
            · omega
            · omega
            · omega
            · rw [g3]
              first
                | (refine sf2_st g0 (by decide) ?_ ?_ <;> (rw [if_pos (by omega)]))
                | (refine sf2_id g0 (by decide) ?_ ?_ <;> (rw [if_neg (by omega)]))
  refine J_iconst C dX2_takeBack_0 ?_
  refine J_istore_2 C (by decide) rfl dX2_takeBack_1 ?_
  -- to the cut at 2
  refine K_2 6 _ _ ?_ ?_ ?_ ?_
  · decide
  · decide
  · decide
  · rw [sf_0, sf_0]
set_option maxRecDepth 20000 in
theorem in_X0_hasPayer_X0 : ∀ w ∈ wsX00, w ∈ wsX0_hasPayer := by decide +kernel
set_option maxRecDepth 20000 in
theorem fl_X0_hasPayer_15 : Cond.fieldLink RX0 15 "JointVenture$CashCall" "paid" "[I" ∈ wsX0_hasPayer := by decide +kernel
set_option maxHeartbeats 4000000 in
set_option maxRecDepth 100000 in
theorem c_X0_hasPayer {l : Launch} (hfl : l.stackTraces = false) {cy : Nat → ClassId} {D : va_G} {ad : Ad} (hI : Inj ad) (σ : Sg) (c9 : Int) (hc : 0 ≤ c9 ∧ c9 < 20) (hr9 : ∀ q, 0 ≤ q → q < 5 → I32 (σ 21 c9 q)) : KI l yX0_hasPayer wsX0_hasPayer ({ frames := 0, cells := 0, slots := 0, locals := 0 } : Room) cy D ad σ [.ref (ad 19 c9)] (fun z σ' => (z = 0 ∨ z = 1) ∧ (z = 1 ↔ ∃ q, 0 ≤ q ∧ q < 5 ∧ 0 < σ 21 c9 q) ∧ σ' = σ) 0 0 := by
  refine KI.of (lv0 := [some (.ref (ad 19 c9)), none]) hfl hI (by decide) rfl (Nat.le_of_ble_eq_true rfl) rfl ?_
  intro p e s m args below meth c C hr
  have K_2 : ∀ (n_ : Nat) (i : Int), (0 ≤ i) → (i ≤ 5) → (5 - i < n_) → (∀ q, 0 ≤ q → q < i → σ 21 c9 q ≤ 0) → JW p l e ({ frames := 0, cells := 0, slots := 0, locals := 0 } : Room) s m args below meth c cy D ad (Ar ad s.heap.size) 2 0 0 (MQ below (QcI cy D ad (fun z σ' => (z = 0 ∨ z = 1) ∧ (z = 1 ↔ ∃ q, 0 ≤ q ∧ q < 5 ∧ 0 < σ 21 c9 q) ∧ σ' = σ) s.heap.size) args s 0 0 (Ar ad s.heap.size)) σ 2 [some (.ref (ad 19 c9)), some (.int (iI i))] [] := by
    intro n_
    induction n_ with
    | zero => intro i g0 g1 g2 g3; omega
    | succ n_ ih_2 =>
      intro i g0 g1 g2 g3
      refine J_iload_1 C dX0_hasPayer_2 ?_
      refine J_iconst C dX0_hasPayer_3 ?_
      refine J_icmp_ge (tgt := 24) C (by omega) (by omega) dX0_hasPayer_4 (by decide) (fun c_4 => ?_) (fun c_4 => ?_)
      · refine J_iconst C dX0_hasPayer_24 ?_
        refine J_retZ C hr (by exact Or.inl rfl) (by decide) (by decide) dX0_hasPayer_25 ?_
        exact ⟨Or.inl rfl, ⟨fun h => by omega, fun ⟨q, a, b, d⟩ => by have := g3 q a (by omega); omega⟩, rfl⟩
      · refine J_aload_0 C dX0_hasPayer_7 ?_
        refine J_get_0_1 C in_X0_hasPayer_X0 fl_X0_hasPayer_15 hc dX0_hasPayer_8 ?_
        refine J_iload_1 C dX0_hasPayer_11 ?_
        refine J_iaload C k21 hc (by omega) dX0_hasPayer_12 ?_
        refine J_if_le (tgt := 18) C (by have := hr9 i (by omega) (by omega); omega) dX0_hasPayer_13 (by decide) (fun c_13 => ?_) (fun c_13 => ?_)
        · refine J_iinc1 C (by decide) rfl dX0_hasPayer_18 ?_
          refine J_goto (tgt := 2) C dX0_hasPayer_21 (by decide) ?_
          -- to the cut at 2
          refine ih_2 _ ?_ ?_ ?_ ?_
          · omega
          · omega
          · omega
          · intro q a b
            by_cases e : q = i
            · rw [e]; omega
            · exact g3 q a (by omega)
        · refine J_iconst C dX0_hasPayer_16 ?_
          refine J_retZ C hr (by exact Or.inr rfl) (by decide) (by decide) dX0_hasPayer_17 ?_
          exact ⟨Or.inr rfl, ⟨fun _ => ⟨i, by omega, by omega, by omega⟩, fun _ => rfl⟩, rfl⟩
  refine J_iconst C dX0_hasPayer_0 ?_
  refine J_istore_1 C (by decide) rfl dX0_hasPayer_1 ?_
  -- to the cut at 2
  refine K_2 6 _ ?_ ?_ ?_ ?_
  · decide
  · decide
  · decide
  · intro q a b; omega
set_option maxRecDepth 20000 in
theorem in_X0_askedOfNonPayers_X0 : ∀ w ∈ wsX00, w ∈ wsX0_askedOfNonPayers := by decide +kernel
set_option maxRecDepth 20000 in
theorem fl_X0_askedOfNonPayers_15 : Cond.fieldLink RX0 15 "JointVenture$CashCall" "paid" "[I" ∈ wsX0_askedOfNonPayers := by decide +kernel
set_option maxRecDepth 20000 in
theorem fl_X0_askedOfNonPayers_9 : Cond.fieldLink RX0 9 "JointVenture$CashCall" "asked" "[I" ∈ wsX0_askedOfNonPayers := by decide +kernel
set_option maxHeartbeats 4000000 in
set_option maxRecDepth 100000 in
theorem c_X0_askedOfNonPayers {l : Launch} (hfl : l.stackTraces = false) {cy : Nat → ClassId} {D : va_G} {ad : Ad} (hI : Inj ad) (σ : Sg) (c9 : Int) (hc : 0 ≤ c9 ∧ c9 < 20) (hr9 : ∀ p, 0 ≤ p → p < 5 → I32 (σ 21 c9 p)) : KI l yX0_askedOfNonPayers wsX0_askedOfNonPayers ({ frames := 0, cells := 0, slots := 0, locals := 0 } : Room) cy D ad σ [.ref (ad 19 c9)] (fun z σ' => z = s5 (fun p => if σ 21 c9 p = 0 then σ 20 c9 p else 0) ∧ σ' = σ) 0 0 := by
  refine KI.of (lv0 := [some (.ref (ad 19 c9)), none, none]) hfl hI (by decide) rfl (Nat.le_of_ble_eq_true rfl) rfl ?_
  intro p e s m args below meth c C hr
  have K_4 : ∀ (n_ : Nat) (t : Int) (i : Int), (0 ≤ i) → (i ≤ 5) → (5 - i < n_) → (∃ j : Nat, i = (j : Int) ∧ t = sN (fun p => if σ 21 c9 p = 0 then σ 20 c9 p else 0) j) → JW p l e ({ frames := 0, cells := 0, slots := 0, locals := 0 } : Room) s m args below meth c cy D ad (Ar ad s.heap.size) 3 0 0 (MQ below (QcI cy D ad (fun z σ' => z = s5 (fun p => if σ 21 c9 p = 0 then σ 20 c9 p else 0) ∧ σ' = σ) s.heap.size) args s 0 0 (Ar ad s.heap.size)) σ 4 [some (.ref (ad 19 c9)), some (.int (iI t)), some (.int (iI i))] [] := by
    intro n_
    induction n_ with
    | zero => intro t i g0 g1 g2 g3; omega
    | succ n_ ih_4 =>
      intro t i g0 g1 g2 g3
      obtain ⟨j, rfl, rfl⟩ := g3
      refine J_iload_2 C dX0_askedOfNonPayers_4 ?_
      refine J_iconst C dX0_askedOfNonPayers_5 ?_
      refine J_icmp_ge (tgt := 33) C (by omega) (by omega) dX0_askedOfNonPayers_6 (by decide) (fun c_6 => ?_) (fun c_6 => ?_)
      · refine J_iload_1 C dX0_askedOfNonPayers_33 ?_
        refine J_retI C hr (by decide) (by decide) dX0_askedOfNonPayers_34 ?_
        have e : j = 5 := by omega
        subst e
        exact ⟨by rw [s5_sN], rfl⟩
      · refine J_aload_0 C dX0_askedOfNonPayers_9 ?_
        refine J_get_0_1 C in_X0_askedOfNonPayers_X0 fl_X0_askedOfNonPayers_15 hc dX0_askedOfNonPayers_10 ?_
        refine J_iload_2 C dX0_askedOfNonPayers_13 ?_
        refine J_iaload C k21 hc (by omega) dX0_askedOfNonPayers_14 ?_
        refine J_if_ne (tgt := 27) C (by exact hr9 _ (by omega) (by omega)) dX0_askedOfNonPayers_15 (by decide) (fun c_15 => ?_) (fun c_15 => ?_)
        · refine J_iinc2 C (by decide) rfl dX0_askedOfNonPayers_27 ?_
          refine J_goto (tgt := 4) C dX0_askedOfNonPayers_30 (by decide) ?_
          -- to the cut at 4
          refine ih_4 _ _ ?_ ?_ ?_ ?_
          · omega
          · omega
          · omega
          · refine ⟨j + 1, by omega, ?_⟩
            simp only [sN]
            (first | rw [if_pos (by assumption)] | (rw [if_neg (by assumption)]; omega))
        · refine J_iload_1 C dX0_askedOfNonPayers_18 ?_
          refine J_aload_0 C dX0_askedOfNonPayers_19 ?_
          refine J_get_0_0 C in_X0_askedOfNonPayers_X0 fl_X0_askedOfNonPayers_9 hc dX0_askedOfNonPayers_20 ?_
          refine J_iload_2 C dX0_askedOfNonPayers_23 ?_
          refine J_iaload C k20 hc (by omega) dX0_askedOfNonPayers_24 ?_
          refine J_iadd C dX0_askedOfNonPayers_25 ?_
          refine J_istore_1 C (by decide) rfl dX0_askedOfNonPayers_26 ?_
          refine J_iinc2 C (by decide) rfl dX0_askedOfNonPayers_27 ?_
          refine J_goto (tgt := 4) C dX0_askedOfNonPayers_30 (by decide) ?_
          -- to the cut at 4
          refine ih_4 _ _ ?_ ?_ ?_ ?_
          · omega
          · omega
          · omega
          · refine ⟨j + 1, by omega, ?_⟩
            simp only [sN]
            (first | rw [if_pos (by assumption)] | (rw [if_neg (by assumption)]; omega))
  refine J_iconst C dX0_askedOfNonPayers_0 ?_
  refine J_istore_1 C (by decide) rfl dX0_askedOfNonPayers_1 ?_
  refine J_iconst C dX0_askedOfNonPayers_2 ?_
  refine J_istore_2 C (by decide) rfl dX0_askedOfNonPayers_3 ?_
  -- to the cut at 4
  refine K_4 6 _ _ ?_ ?_ ?_ ?_
  · decide
  · decide
  · decide
  · exact ⟨0, rfl, rfl⟩
