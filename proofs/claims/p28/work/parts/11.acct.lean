set_option maxRecDepth 20000 in
theorem in_X3_accountCost_X2 : ∀ w ∈ wsX20, w ∈ wsX3_accountCost := by decide +kernel
set_option maxRecDepth 20000 in
theorem fl_X3_accountCost_147 : Cond.fieldLink RX3 147 "JointVenture$Well" "charged" "[I" ∈ wsX3_accountCost := by decide +kernel
set_option maxRecDepth 20000 in
theorem in_X3_accountCost_X3 : ∀ w ∈ wsX30, w ∈ wsX3_accountCost := by decide +kernel
set_option maxRecDepth 20000 in
theorem fl_X3_accountCost_63 : Cond.fieldLink RX3 63 "JointVenture" "portions" "[I" ∈ wsX3_accountCost := by decide +kernel
set_option maxRecDepth 20000 in
theorem fl_X3_accountCost_115 : Cond.fieldLink RX3 115 "JointVenture$Well" "out" "[Z" ∈ wsX3_accountCost := by decide +kernel
set_option maxRecDepth 20000 in
theorem fl_X3_accountCost_140 : Cond.fieldLink RX3 140 "JointVenture$Well" "toEarn" "[J" ∈ wsX3_accountCost := by decide +kernel
set_option maxRecDepth 20000 in
theorem fl_X3_accountCost_57 : Cond.fieldLink RX3 57 "JointVenture" "ownParts" "[I" ∈ wsX3_accountCost := by decide +kernel
set_option maxRecDepth 20000 in
theorem fl_X3_accountCost_87 : Cond.fieldLink RX3 87 "JointVenture$Well" "penalty" "I" ∈ wsX3_accountCost := by decide +kernel
set_option maxHeartbeats 4000000 in
set_option maxRecDepth 100000 in
theorem c_X3_accountCost {l : Launch} (hfl : l.stackTraces = false) {cy : Nat → ClassId} {D : va_G} {ad : Ad} (hI : Inj ad) (σ : Sg) (w a9 : Int) (hw : 0 ≤ w ∧ w < 6) (ha : 0 ≤ a9 ∧ a9 < 2147483648) (hsh : Shk (shf σ)) (ht : Tin (shf σ) (ac σ w)) (hpn : 0 ≤ σ 12 w 0 ∧ σ 12 w 0 ≤ 1000) : KV l yX3_accountCost wsX3_accountCost ({ frames := 3, cells := 0, slots := 0, locals := 74 } : Room) cy D ad σ [.ref (ad 0 0), .ref (ad 12 w), .int (iI a9)] (fun σ' => Fr σ σ' w ∧ ac σ' w = costS (shf σ) (σ 12 w 0) a9 (ac σ w)) 0 0 := by
  refine KV.of (lv0 := [some (.ref (ad 0 0)), some (.ref (ad 12 w)), some (.int (iI a9)), none]) hfl hI (by decide) rfl (Nat.le_of_ble_eq_true rfl) rfl ?_
  intro p e s m args below meth c C hr
  have hac : ∀ q, 0 ≤ q → q < 5 → ac σ w 14 q = σ 14 w q := fun q a b => ac_at (by decide) (by decide) a b
  have hac5 : ∀ q, 0 ≤ q → q < 5 → ac σ w 15 q = σ 15 w q := fun q a b => ac_at (by decide) (by decide) a b
  have hf : ∀ q, 0 ≤ q → q < 5 → σ 14 w q = 0 ∨ σ 14 w q = 1 := fun q a b => by rw [← hac q a b]; exact ht.1 q a b
  have K_8 : ∀ (n_ : Nat) (i : Int) (σ1 : Sg), (0 ≤ i) → (i ≤ 5) → (5 - i < n_) → (∀ (a : Nat) (b c : Int), a < 8 ∨ 11 < a → a ≠ 15 ∧ a ≠ 17 ∨ b ≠ w ∨ c < 0 ∨ 5 ≤ c → σ1 a b c = σ a b c) → (∀ q, 0 ≤ q → q < 5 → σ1 9 0 q = dv a9 (shf σ) q) → (∀ q, 0 ≤ q → q < 5 → σ1 11 0 q = chp (shf σ) (ac σ w) a9 q) → (∀ q, 0 ≤ q → q < 5 → σ1 17 w q = σ 17 w q + if q < i then chp (shf σ) (ac σ w) a9 q else 0) → (∀ q, 0 ≤ q → q < 5 → σ1 15 w q = σ 15 w q + if q < i ∧ ¬ σ 14 w q = 0 then pn (dv a9 (shf σ) q) (σ 12 w 0) else 0) → JW p l e ({ frames := 3, cells := 0, slots := 0, locals := 74 } : Room) s m args below meth c cy D ad (Ar ad s.heap.size) 4 0 0 (MQ below (QcV cy D ad (fun σ' => Fr σ σ' w ∧ ac σ' w = costS (shf σ) (σ 12 w 0) a9 (ac σ w)) s.heap.size) args s 0 0 (Ar ad s.heap.size)) σ1 8 [some (.ref (ad 0 0)), some (.ref (ad 12 w)), some (.int (iI a9)), some (.int (iI i))] [] := by
    intro n_
    induction n_ with
    | zero => intro i σ1 g0 g1 g2 g3 g4 g5 g6 g7; omega
    | succ n_ ih_8 =>
      intro i σ1 g0 g1 g2 g3 g4 g5 g6 g7
      have h14 : σ1 14 w i = σ 14 w i := g3 14 w i (by omega) (by omega)
      refine J_iload_3 C dX3_accountCost_8 ?_
      refine J_iconst C dX3_accountCost_9 ?_
      refine J_icmp_ge (tgt := 66) C (by omega) (by omega) dX3_accountCost_10 (by decide) (fun c_10 => ?_) (fun c_10 => ?_)
      · refine J_retV C hr (by decide) (by decide) dX3_accountCost_66 ?_
        have e : i = 5 := by omega
        subst e
        refine ⟨fun a b c h h9 => g3 a b c h (by omega), ac_ext (costS_z (ac_z σ w)) (fun c q h1 h2 h3 h4 => ?_)⟩
        have hv6 := g6 q h3 h4
        have hv7 := g7 q h3 h4
        rw [if_pos h4] at hv6
        unfold costS
        by_cases e1 : c = 17
        · subst e1
          rw [if_pos ⟨rfl, h3, h4⟩, hv6, ac_at (by decide) (by decide) h3 h4]
        · rw [if_neg (by omega)]
          by_cases e2 : c = 15
          · subst e2
            rw [if_pos ⟨rfl, h3, h4⟩, hv7, hac5 q h3 h4, hac q h3 h4]
            by_cases e3 : σ 14 w q = 0
            · rw [if_pos e3, if_neg (by omega)]
            · rw [if_neg e3, if_pos ⟨h4, e3⟩]
          · rw [if_neg (by omega), ac_at h1 h2 h3 h4]
            exact g3 c w q (by omega) (by omega)
      · refine J_aload_1 C dX3_accountCost_13 ?_
        refine J_get_2_6 C in_X3_accountCost_X2 fl_X3_accountCost_147 hw dX3_accountCost_14 ?_
        refine J_iload_3 C dX3_accountCost_17 ?_
        refine J_dup2 C rfl rfl dX3_accountCost_18 ?_
        refine J_iaload C k17 hw (by omega) dX3_accountCost_19 ?_
        refine J_aload_0 C dX3_accountCost_20 ?_
        refine J_get_3_14 C in_X3_accountCost_X3 fl_X3_accountCost_63 (by decide) dX3_accountCost_21 ?_
        refine J_iload_3 C dX3_accountCost_24 ?_
        refine J_iaload C k11 (by decide) (by omega) dX3_accountCost_25 ?_
        refine J_iadd C dX3_accountCost_26 ?_
        refine J_iastore C k17 hw (by omega) dX3_accountCost_27 ?_
        refine J_aload_1 C dX3_accountCost_28 ?_
        refine J_get_2_3 C in_X3_accountCost_X2 fl_X3_accountCost_115 hw dX3_accountCost_29 ?_
        refine J_iload_3 C dX3_accountCost_32 ?_
        refine J_baload C k14 hw (by omega) dX3_accountCost_33 ?_
        refine J_if_eq (tgt := 60) C (by rw [su_nk (by decide), h14]; have := hf i (by omega) (by omega); omega) dX3_accountCost_34 (by decide) (fun c_34 => ?_) (fun c_34 => ?_)
        · refine J_iinc3 C (by decide) rfl dX3_accountCost_60 ?_
          refine J_goto (tgt := 8) C dX3_accountCost_63 (by decide) ?_
          -- to the cut at 8
          refine ih_8 _ _ ?_ ?_ ?_ ?_ ?_ ?_ ?_ ?_
          · omega
          · omega
          · omega
          · intro a b c h h9
            (first | rw [su_ne3 (by omega), su_ne3 (by omega)] | rw [su_ne3 (by omega)])
            exact g3 a b c h h9
          · intro q a b
            (first | rw [su_nk (by decide), su_nk (by decide)] | rw [su_nk (by decide)])
            exact g4 q a b
          · intro q a b
            (first | rw [su_nk (by decide), su_nk (by decide)] | rw [su_nk (by decide)])
            exact g5 q a b
          · intro q a b
            have hv := g6 q a b
            have hc := g5 q a b
            clear g3 g4 g5 g7
            simp only [su]
            grind
          · intro q a b
            have hv := g7 q a b
            have ho := g4 i (by omega) (by omega)
            have hpq := g3 12 w 0 (by omega) (by omega)
            clear g3 g4 g5 g6
            simp only [su] at *
            grind
        · refine J_aload_1 C dX3_accountCost_37 ?_
          refine J_get_2_4 C in_X3_accountCost_X2 fl_X3_accountCost_140 hw dX3_accountCost_38 ?_
          refine J_iload_3 C dX3_accountCost_41 ?_
          refine J_dup2 C rfl rfl dX3_accountCost_42 ?_
          refine J_laload C k15 hw (by omega) dX3_accountCost_43 ?_
          refine J_aload_0 C dX3_accountCost_44 ?_
          refine J_aload_0 C dX3_accountCost_45 ?_
          refine J_get_3_12 C in_X3_accountCost_X3 fl_X3_accountCost_57 (by decide) dX3_accountCost_46 ?_
          refine J_iload_3 C dX3_accountCost_49 ?_
          refine J_iaload C k9 (by decide) (by omega) dX3_accountCost_50 ?_
          refine J_aload_1 C dX3_accountCost_51 ?_
          refine J_get_2_0 C in_X3_accountCost_X2 fl_X3_accountCost_87 hw dX3_accountCost_52 ?_
          refine J_KVL C (c_X3_penaltyOn hfl hI _ _ _ (by rw [su_nk (by decide), g4 i (by omega) (by omega)]; have := dv_nn ha.1 hsh.wt i (by omega) (by omega); have := dv_le ha.1 hsh.wt i (by omega) (by omega); omega) (by rw [su_nk (by decide), g3 _ _ _ (by omega) (by omega)]; exact hpn)) (cwV 2 C.1.2.2.2.2 gX3_accountCost_X3_penaltyOn rfl rfl rfl (by decide +kernel) ⟨Nat.le_of_ble_eq_true rfl, Nat.le_of_ble_eq_true rfl⟩) rc3 (by decide) rfl rfl (Nat.le_of_ble_eq_true rfl) dX3_accountCost_55 ⟨Nat.le_of_ble_eq_true rfl, Nat.le_of_ble_eq_true rfl⟩ (fun z_55 σ_55 hp => ?_)
          obtain ⟨hz_, hs_⟩ := hp
          have hz_ := hz_.symm
          have hs_ := hs_.symm
          subst hz_
          subst hs_
          refine J_ladd C dX3_accountCost_58 ?_
          refine J_lastore C k15 hw (by omega) dX3_accountCost_59 ?_
          refine J_iinc3 C (by decide) rfl dX3_accountCost_60 ?_
          refine J_goto (tgt := 8) C dX3_accountCost_63 (by decide) ?_
          -- to the cut at 8
          refine ih_8 _ _ ?_ ?_ ?_ ?_ ?_ ?_ ?_ ?_
          · omega
          · omega
          · omega
          · intro a b c h h9
            (first | rw [su_ne3 (by omega), su_ne3 (by omega)] | rw [su_ne3 (by omega)])
            exact g3 a b c h h9
          · intro q a b
            (first | rw [su_nk (by decide), su_nk (by decide)] | rw [su_nk (by decide)])
            exact g4 q a b
          · intro q a b
            (first | rw [su_nk (by decide), su_nk (by decide)] | rw [su_nk (by decide)])
            exact g5 q a b
          · intro q a b
            have hv := g6 q a b
            have hc := g5 q a b
            clear g3 g4 g5 g7
            simp only [su]
            grind
          · intro q a b
            have hv := g7 q a b
            have ho := g4 i (by omega) (by omega)
            have hpq := g3 12 w 0 (by omega) (by omega)
            clear g3 g4 g5 g6
            simp only [su] at *
            grind
  refine J_aload_0 C dX3_accountCost_0 ?_
  refine J_aload_1 C dX3_accountCost_1 ?_
  refine J_iload_2 C dX3_accountCost_2 ?_
  refine J_KVV C (c_X3_divideCost hfl hI σ w a9 hw ha hsh ht) (cwV 2 C.1.2.2.2.2 gX3_accountCost_X3_divideCost rfl rfl rfl (by decide +kernel) ⟨Nat.le_of_ble_eq_true rfl, Nat.le_of_ble_eq_true rfl⟩) rc3 (by decide) rfl rfl (Nat.le_of_ble_eq_true rfl) dX3_accountCost_3 ⟨Nat.le_of_ble_eq_true rfl, Nat.le_of_ble_eq_true rfl⟩ (fun σ_3 hp => ?_)
  obtain ⟨F1, O1, P1⟩ := hp
  refine J_iconst C dX3_accountCost_6 ?_
  refine J_istore_3 C (by decide) rfl dX3_accountCost_7 ?_
  -- to the cut at 8
  refine K_8 6 _ _ ?_ ?_ ?_ ?_ ?_ ?_ ?_ ?_
  · decide
  · decide
  · decide
  · intro a b c h h9
    exact F1 a b c h
  · exact O1
  · exact P1
  · intro q a b
    rw [F1 _ _ _ (by decide), if_neg (by omega), Int.add_zero]
  · intro q a b
    rw [F1 _ _ _ (by decide), if_neg (by omega), Int.add_zero]
set_option maxRecDepth 20000 in
theorem in_X3_creditTaken_X2 : ∀ w ∈ wsX20, w ∈ wsX3_creditTaken := by decide +kernel
set_option maxRecDepth 20000 in
theorem fl_X3_creditTaken_150 : Cond.fieldLink RX3 150 "JointVenture$Well" "credited" "[I" ∈ wsX3_creditTaken := by decide +kernel
set_option maxRecDepth 20000 in
theorem in_X3_creditTaken_X3 : ∀ w ∈ wsX30, w ∈ wsX3_creditTaken := by decide +kernel
set_option maxRecDepth 20000 in
theorem fl_X3_creditTaken_63 : Cond.fieldLink RX3 63 "JointVenture" "portions" "[I" ∈ wsX3_creditTaken := by decide +kernel
set_option maxRecDepth 20000 in
theorem fl_X3_creditTaken_53 : Cond.fieldLink RX3 53 "JointVenture" "division" "LJointVenture$Division;" ∈ wsX3_creditTaken := by decide +kernel
set_option maxRecDepth 20000 in
theorem fl_X3_creditTaken_60 : Cond.fieldLink RX3 60 "JointVenture" "weights" "[I" ∈ wsX3_creditTaken := by decide +kernel
set_option maxHeartbeats 4000000 in
set_option maxRecDepth 100000 in
theorem c_X3_creditTaken {l : Launch} (hfl : l.stackTraces = false) {cy : Nat → ClassId} {D : va_G} {ad : Ad} (hI : Inj ad) (σ : Sg) (w a9 : Int) (hw : 0 ≤ w ∧ w < 6) (ha : 0 ≤ a9 ∧ a9 < 2147483648) (hw1 : Wt (σ 10 0)) (hw2 : ∀ q, 0 ≤ q → q < 5 → σ 10 0 q < 2147483648) : KV l yX3_creditTaken wsX3_creditTaken ({ frames := 2, cells := 0, slots := 0, locals := 51 } : Room) cy D ad σ [.ref (ad 0 0), .ref (ad 12 w), .int (iI a9)] (fun σ' => (∀ (a : Nat) (b c : Int), a ≠ 8 → a ≠ 11 → a ≠ 18 ∨ b ≠ w ∨ c < 0 ∨ 5 ≤ c → σ' a b c = σ a b c) ∧ ∀ q, 0 ≤ q → q < 5 → σ' 18 w q = σ 18 w q + dv a9 (σ 10 0) q) 0 0 := by
  refine KV.of (lv0 := [some (.ref (ad 0 0)), some (.ref (ad 12 w)), some (.int (iI a9)), none]) hfl hI (by decide) rfl (Nat.le_of_ble_eq_true rfl) rfl ?_
  intro p e s m args below meth c C hr
  have K_23 : ∀ (n_ : Nat) (i : Int) (σ1 : Sg), (0 ≤ i) → (i ≤ 5) → (5 - i < n_) → (∀ (a : Nat) (b c : Int), a ≠ 8 → a ≠ 11 → a ≠ 18 ∨ b ≠ w ∨ c < 0 ∨ 5 ≤ c → σ1 a b c = σ a b c) → (∀ q, 0 ≤ q → q < 5 → σ1 11 0 q = dv a9 (σ 10 0) q) → (∀ q, 0 ≤ q → q < 5 → σ1 18 w q = σ 18 w q + if q < i then dv a9 (σ 10 0) q else 0) → JW p l e ({ frames := 2, cells := 0, slots := 0, locals := 51 } : Room) s m args below meth c cy D ad (Ar ad s.heap.size) 4 0 0 (MQ below (QcV cy D ad (fun σ' => (∀ (a : Nat) (b c : Int), a ≠ 8 → a ≠ 11 → a ≠ 18 ∨ b ≠ w ∨ c < 0 ∨ 5 ≤ c → σ' a b c = σ a b c) ∧ ∀ q, 0 ≤ q → q < 5 → σ' 18 w q = σ 18 w q + dv a9 (σ 10 0) q) s.heap.size) args s 0 0 (Ar ad s.heap.size)) σ1 23 [some (.ref (ad 0 0)), some (.ref (ad 12 w)), some (.int (iI a9)), some (.int (iI i))] [] := by
    intro n_
    induction n_ with
    | zero => intro i σ1 g0 g1 g2 g3 g4 g5; omega
    | succ n_ ih_23 =>
      intro i σ1 g0 g1 g2 g3 g4 g5
      refine J_iload_3 C dX3_creditTaken_23 ?_
      refine J_iconst C dX3_creditTaken_24 ?_
      refine J_icmp_ge (tgt := 49) C (by omega) (by omega) dX3_creditTaken_25 (by decide) (fun c_25 => ?_) (fun c_25 => ?_)
      · refine J_retV C hr (by decide) (by decide) dX3_creditTaken_49 ?_
        have e : i = 5 := by omega
        subst e
        exact ⟨g3, fun q a b => by rw [g5 q a b, if_pos b]⟩
      · refine J_aload_1 C dX3_creditTaken_28 ?_
        refine J_get_2_7 C in_X3_creditTaken_X2 fl_X3_creditTaken_150 hw dX3_creditTaken_29 ?_
        refine J_iload_3 C dX3_creditTaken_32 ?_
        refine J_dup2 C rfl rfl dX3_creditTaken_33 ?_
        refine J_iaload C k18 hw (by omega) dX3_creditTaken_34 ?_
        refine J_aload_0 C dX3_creditTaken_35 ?_
        refine J_get_3_14 C in_X3_creditTaken_X3 fl_X3_creditTaken_63 (by decide) dX3_creditTaken_36 ?_
        refine J_iload_3 C dX3_creditTaken_39 ?_
        refine J_iaload C k11 (by decide) (by omega) dX3_creditTaken_40 ?_
        refine J_iadd C dX3_creditTaken_41 ?_
        refine J_iastore C k18 hw (by omega) dX3_creditTaken_42 ?_
        refine J_iinc3 C (by decide) rfl dX3_creditTaken_43 ?_
        refine J_goto (tgt := 23) C dX3_creditTaken_46 (by decide) ?_
        -- to the cut at 23
        refine ih_23 _ _ ?_ ?_ ?_ ?_ ?_ ?_
        · omega
        · omega
        · omega
        · intro a b c h h8 h9
          rw [su_ne3 (by omega)]
          exact g3 a b c h h8 h9
        · intro q a b
          rw [su_nk (by decide)]
          exact g4 q a b
        · intro q a b
          have hv := g5 q a b
          have hc := g4 q a b
          clear g3 g4 g5
          simp only [su]
          grind
  refine J_iload_2 C dX3_creditTaken_0 ?_
  refine J_if_ne (tgt := 5) C (by omega) dX3_creditTaken_1 (by decide) (fun c_1 => ?_) (fun c_1 => ?_)
  · refine J_aload_0 C dX3_creditTaken_5 ?_
    refine J_get_3_11 C in_X3_creditTaken_X3 fl_X3_creditTaken_53 (by decide) dX3_creditTaken_6 ?_
    refine J_iload_2 C dX3_creditTaken_9 ?_
    refine J_aload_0 C dX3_creditTaken_10 ?_
    refine J_get_3_13 C in_X3_creditTaken_X3 fl_X3_creditTaken_60 (by decide) dX3_creditTaken_11 ?_
    refine J_aload_0 C dX3_creditTaken_14 ?_
    refine J_get_3_14 C in_X3_creditTaken_X3 fl_X3_creditTaken_63 (by decide) dX3_creditTaken_15 ?_
    refine J_KVV C (c_X1_divide hfl hI _ a9 10 11 0 0 k10 k11 (by decide) (by decide) (by decide) (by decide) (by decide) ha hw1 hw2) (cwV 3 C.1.2.2.2.2 gX3_creditTaken_X1_divide rfl rfl rfl (by decide +kernel) ⟨Nat.le_of_ble_eq_true rfl, Nat.le_of_ble_eq_true rfl⟩) rc1 (by decide) rfl rfl (Nat.le_of_ble_eq_true rfl) dX3_creditTaken_18 ⟨Nat.le_of_ble_eq_true rfl, Nat.le_of_ble_eq_true rfl⟩ (fun σ_18 hp => ?_)
    obtain ⟨f1, hp⟩ := hp
    have F1 : ∀ (a : Nat) (b c : Int), a ≠ 8 → a ≠ 11 → σ_18 a b c = σ a b c := fun a b c h1 h2 => by rw [hp, sf_nk h2, sf_nk h1]
    have O1 : ∀ q, 0 ≤ q → q < 5 → σ_18 11 0 q = dv a9 (σ 10 0) q := fun q a b => by rw [hp, sf_at a b]
    clear hp
    refine J_iconst C dX3_creditTaken_21 ?_
    refine J_istore_3 C (by decide) rfl dX3_creditTaken_22 ?_
    -- to the cut at 23
    refine K_23 6 _ _ ?_ ?_ ?_ ?_ ?_ ?_
    · decide
    · decide
    · decide
    · intro a b c h h8 h9
      exact F1 a b c h h8
    · exact O1
    · intro q a b
      rw [F1 _ _ _ (by decide) (by decide), if_neg (by omega), Int.add_zero]
  · refine J_retV C hr (by decide) (by decide) dX3_creditTaken_4 ?_
    refine ⟨fun a b c _ _ _ => rfl, fun q a b => ?_⟩
    rw [show a9 = 0 by assumption, dv_0 hw1 q a b, Int.add_zero]
set_option maxRecDepth 20000 in
theorem in_X3_accountIncome_X3 : ∀ w ∈ wsX30, w ∈ wsX3_accountIncome := by decide +kernel
set_option maxRecDepth 20000 in
theorem fl_X3_accountIncome_57 : Cond.fieldLink RX3 57 "JointVenture" "ownParts" "[I" ∈ wsX3_accountIncome := by decide +kernel
set_option maxRecDepth 20000 in
theorem in_X3_accountIncome_X2 : ∀ w ∈ wsX20, w ∈ wsX3_accountIncome := by decide +kernel
set_option maxRecDepth 20000 in
theorem fl_X3_accountIncome_140 : Cond.fieldLink RX3 140 "JointVenture$Well" "toEarn" "[J" ∈ wsX3_accountIncome := by decide +kernel
set_option maxRecDepth 20000 in
theorem fl_X3_accountIncome_150 : Cond.fieldLink RX3 150 "JointVenture$Well" "credited" "[I" ∈ wsX3_accountIncome := by decide +kernel
set_option maxRecDepth 20000 in
theorem fl_X3_accountIncome_53 : Cond.fieldLink RX3 53 "JointVenture" "division" "LJointVenture$Division;" ∈ wsX3_accountIncome := by decide +kernel
set_option maxRecDepth 20000 in
theorem fl_X3_accountIncome_9 : Cond.fieldLink RX3 9 "JointVenture" "shares" "[I" ∈ wsX3_accountIncome := by decide +kernel
set_option maxHeartbeats 4000000 in
set_option maxRecDepth 100000 in
theorem c_X3_accountIncome {l : Launch} (hfl : l.stackTraces = false) {cy : Nat → ClassId} {D : va_G} {ad : Ad} (hI : Inj ad) (σ : Sg) (w a9 : Int) (hw : 0 ≤ w ∧ w < 6) (ha : 0 ≤ a9 ∧ a9 < 2147483648) (hsh : Shk (shf σ)) (ht : Tin (shf σ) (ac σ w)) (he : ∀ q, 0 ≤ q → q < 5 → 0 ≤ σ 15 w q ∧ σ 15 w q < 4611686018427387904) : KV l yX3_accountIncome wsX3_accountIncome ({ frames := 3, cells := 0, slots := 0, locals := 74 } : Room) cy D ad σ [.ref (ad 0 0), .ref (ad 12 w), .int (iI a9)] (fun σ' => (∀ (a : Nat) (b c : Int), a < 8 ∨ 11 < a → a ≠ 15 ∧ a ≠ 18 ∨ b ≠ w ∨ c < 0 ∨ 5 ≤ c → σ' a b c = σ a b c) ∧ (∀ q, 0 ≤ q → q < 5 → σ' 15 w q = σ 15 w q - tkn (shf σ) (ac σ w) a9 q) ∧ ∀ q, 0 ≤ q → q < 5 → σ' 18 w q = σ 18 w q + (dv a9 (shf σ) q - tkn (shf σ) (ac σ w) a9 q) + tks (shf σ) (ac σ w) a9 q 5) 0 0 := by
  refine KV.of (lv0 := [some (.ref (ad 0 0)), some (.ref (ad 12 w)), some (.int (iI a9)), none, none]) hfl hI (by decide) rfl (Nat.le_of_ble_eq_true rfl) rfl ?_
  intro p e s m args below meth c C hr
  have hac : ∀ q, 0 ≤ q → q < 5 → ac σ w 14 q = σ 14 w q := fun q a b => ac_at (by decide) (by decide) a b
  have hac5 : ∀ q, 0 ≤ q → q < 5 → ac σ w 15 q = σ 15 w q := fun q a b => ac_at (by decide) (by decide) a b
  have hf : ∀ q, 0 ≤ q → q < 5 → σ 14 w q = 0 ∨ σ 14 w q = 1 := fun q a b => by rw [← hac q a b]; exact ht.1 q a b
  have hsq : ∀ q, 0 ≤ q → q < 5 → shf σ q = σ 1 0 q := fun q a b => shf_at a b
  have hW1 : Wt (σ 1 0) := Wt.congr hsq hsh.wt
  have hb1 : ∀ q, 0 ≤ q → q < 5 → σ 1 0 q < 2147483648 := fun q a b => by have := hsh.1 q a b; rw [hsq q a b] at this; omega
  have hWi := inw_wt hsh ht
  have hWb : ∀ q, 0 ≤ q → q < 5 → inw (shf σ) (ac σ w) q < 2147483648 := fun q a b => by unfold inw; have := hsh.1 q a b; split <;> omega
  have htr : ∀ q, 0 ≤ q → q < 5 → 0 ≤ tkn (shf σ) (ac σ w) a9 q ∧ tkn (shf σ) (ac σ w) a9 q ≤ dv a9 (shf σ) q ∧ tkn (shf σ) (ac σ w) a9 q ≤ σ 15 w q := fun q a b => by have := tkn_rng (T := ac σ w) hsh ha.1 a b (by rw [hac5 q a b]; exact (he q a b).1); rw [hac5 q a b] at this; exact ⟨this.1, this.2.1, this.2.2.1⟩
  have hdr : ∀ q, 0 ≤ q → q < 5 → 0 ≤ dv a9 (shf σ) q ∧ dv a9 (shf σ) q ≤ a9 := fun q a b => ⟨dv_nn ha.1 hsh.wt q a b, dv_le ha.1 hsh.wt q a b⟩
  have K_23 : ∀ (n_ : Nat) (i : Int) (σ1 : Sg), (0 ≤ i) → (i ≤ 5) → (5 - i < n_) → (∀ (a : Nat) (b c : Int), a < 8 ∨ 11 < a → a ≠ 15 ∧ a ≠ 18 ∨ b ≠ w ∨ c < 0 ∨ 5 ≤ c → σ1 a b c = σ a b c) → (∀ q, 0 ≤ q → q < 5 → σ1 9 0 q = dv a9 (shf σ) q) → (∀ q, 0 ≤ q → q < 5 → σ1 10 0 q = inw (shf σ) (ac σ w) q) → (∀ q, 0 ≤ q → q < 5 → σ1 15 w q = σ 15 w q - if q < i then tkn (shf σ) (ac σ w) a9 q else 0) → (∃ j : Nat, i = (j : Int) ∧ ∀ q, 0 ≤ q → q < 5 → σ1 18 w q = σ 18 w q + (if q < i then dv a9 (shf σ) q - tkn (shf σ) (ac σ w) a9 q else 0) + tks (shf σ) (ac σ w) a9 q j) → JW p l e ({ frames := 3, cells := 0, slots := 0, locals := 74 } : Room) s m args below meth c cy D ad (Ar ad s.heap.size) 5 0 0 (MQ below (QcV cy D ad (fun σ' => (∀ (a : Nat) (b c : Int), a < 8 ∨ 11 < a → a ≠ 15 ∧ a ≠ 18 ∨ b ≠ w ∨ c < 0 ∨ 5 ≤ c → σ' a b c = σ a b c) ∧ (∀ q, 0 ≤ q → q < 5 → σ' 15 w q = σ 15 w q - tkn (shf σ) (ac σ w) a9 q) ∧ ∀ q, 0 ≤ q → q < 5 → σ' 18 w q = σ 18 w q + (dv a9 (shf σ) q - tkn (shf σ) (ac σ w) a9 q) + tks (shf σ) (ac σ w) a9 q 5) s.heap.size) args s 0 0 (Ar ad s.heap.size)) σ1 23 [some (.ref (ad 0 0)), some (.ref (ad 12 w)), some (.int (iI a9)), some (.int (iI i)), none] [] := by
    intro n_
    induction n_ with
    | zero => intro i σ1 g0 g1 g2 g3 g4 g5 g6 g7; omega
    | succ n_ ih_23 =>
      intro i σ1 g0 g1 g2 g3 g4 g5 g6 g7
      obtain ⟨j, rfl, g7⟩ := g7
      have hv15 : (j : Int) < 5 → σ1 15 w j = σ 15 w j := fun h => by rw [g6 j (by omega) h, if_neg (by omega), Int.sub_zero]
      refine J_iload_3 C dX3_accountIncome_23 ?_
      refine J_iconst C dX3_accountIncome_24 ?_
      refine J_icmp_ge (tgt := 84) C (by omega) (by omega) dX3_accountIncome_25 (by decide) (fun c_25 => ?_) (fun c_25 => ?_)
      · refine J_retV C hr (by decide) (by decide) dX3_accountIncome_84 ?_
        have e : j = 5 := by omega
        subst e
        exact ⟨g3, fun q a b => by rw [g6 q a b, if_pos (by omega)], fun q a b => by rw [g7 q a b, if_pos (by omega)]⟩
      · refine J_aload_1 C dX3_accountIncome_28 ?_
        refine J_iload_3 C dX3_accountIncome_29 ?_
        refine J_aload_0 C dX3_accountIncome_30 ?_
        refine J_get_3_12 C in_X3_accountIncome_X3 fl_X3_accountIncome_57 (by decide) dX3_accountIncome_31 ?_
        refine J_iload_3 C dX3_accountIncome_34 ?_
        refine J_iaload C k9 (by decide) (by omega) dX3_accountIncome_35 ?_
        refine J_KVI C (c_X2_takenOf hfl hI _ w (j : Int) _ hw (by omega) (by rw [g3 _ _ _ (by decide) (by omega)]; exact hf j (by omega) (by omega)) (by rw [g4 j (by omega) (by omega)]; have := hdr j (by omega) (by omega); omega) (by rw [hv15 (by omega)]; have := he j (by omega) (by omega); omega)) (cwV 2 C.1.2.2.2.2 gX3_accountIncome_X2_takenOf rfl rfl rfl (by decide +kernel) ⟨Nat.le_of_ble_eq_true rfl, Nat.le_of_ble_eq_true rfl⟩) rc2 hw rfl rfl (Nat.le_of_ble_eq_true rfl) dX3_accountIncome_36 ⟨Nat.le_of_ble_eq_true rfl, Nat.le_of_ble_eq_true rfl⟩ (fun z_36 σ_36 hp => ?_)
        obtain ⟨hz, hs_⟩ := hp
        have hs_ := hs_.symm
        subst hs_
        have ez : z_36 = tkn (shf σ) (ac σ w) a9 j := by
          rw [hz, g3 _ _ _ (by decide) (by omega), g4 j (by omega) (by omega), hv15 (by omega)]
          unfold tkn
          rw [hac j (by omega) (by omega), hac5 j (by omega) (by omega)]
        subst ez
        clear hz
        have ht9 := htr j (by omega) (by omega)
        have hd9 := hdr j (by omega) (by omega)
        refine J_istore4 C (by decide) rfl dX3_accountIncome_39 ?_
        refine J_aload_1 C dX3_accountIncome_41 ?_
        refine J_get_2_4 C in_X3_accountIncome_X2 fl_X3_accountIncome_140 hw dX3_accountIncome_42 ?_
        refine J_iload_3 C dX3_accountIncome_45 ?_
        refine J_dup2 C rfl rfl dX3_accountIncome_46 ?_
        refine J_laload C k15 hw (by omega) dX3_accountIncome_47 ?_
        refine J_iload4 C dX3_accountIncome_48 ?_
        refine J_i2l C (by omega) dX3_accountIncome_50 ?_
        refine J_lsub C dX3_accountIncome_51 ?_
        refine J_lastore C k15 hw (by omega) dX3_accountIncome_52 ?_
        refine J_aload_1 C dX3_accountIncome_53 ?_
        refine J_get_2_7 C in_X3_accountIncome_X2 fl_X3_accountIncome_150 hw dX3_accountIncome_54 ?_
        refine J_iload_3 C dX3_accountIncome_57 ?_
        refine J_dup2 C rfl rfl dX3_accountIncome_58 ?_
        refine J_iaload C k18 hw (by omega) dX3_accountIncome_59 ?_
        refine J_aload_0 C dX3_accountIncome_60 ?_
        refine J_get_3_12 C in_X3_accountIncome_X3 fl_X3_accountIncome_57 (by decide) dX3_accountIncome_61 ?_
        refine J_iload_3 C dX3_accountIncome_64 ?_
        refine J_iaload C k9 (by decide) (by omega) dX3_accountIncome_65 ?_
        refine J_iload4 C dX3_accountIncome_66 ?_
        refine J_isub C dX3_accountIncome_68 ?_
        refine J_iadd C dX3_accountIncome_69 ?_
        refine J_iastore C k18 hw (by omega) dX3_accountIncome_70 ?_
        refine J_aload_0 C dX3_accountIncome_71 ?_
        refine J_aload_1 C dX3_accountIncome_72 ?_
        refine J_iload4 C dX3_accountIncome_73 ?_
        refine J_KVV C (c_X3_creditTaken hfl hI _ w _ hw (by omega) (Wt.congr (fun q a b => by rw [su_nk (by decide), su_nk (by decide), g5 q a b]) hWi) (fun q a b => by rw [su_nk (by decide), su_nk (by decide), g5 q a b]; exact hWb q a b)) (cwV 2 C.1.2.2.2.2 gX3_accountIncome_X3_creditTaken rfl rfl rfl (by decide +kernel) ⟨Nat.le_of_ble_eq_true rfl, Nat.le_of_ble_eq_true rfl⟩) rc3 (by decide) rfl rfl (Nat.le_of_ble_eq_true rfl) dX3_accountIncome_75 ⟨Nat.le_of_ble_eq_true rfl, Nat.le_of_ble_eq_true rfl⟩ (fun σ_75 hp => ?_)
        obtain ⟨F3, C3⟩ := hp
        have D3 : ∀ q, 0 ≤ q → q < 5 → dv (tkn (shf σ) (ac σ w) a9 j) (su (su σ1 15 w j (σ1 15 w j - tkn (shf σ) (ac σ w) a9 j)) 18 w j (su σ1 15 w j (σ1 15 w j - tkn (shf σ) (ac σ w) a9 j) 18 w j + (su σ1 15 w j (σ1 15 w j - tkn (shf σ) (ac σ w) a9 j) 9 0 j - tkn (shf σ) (ac σ w) a9 j)) 10 0) q = dv (tkn (shf σ) (ac σ w) a9 j) (inw (shf σ) (ac σ w)) q := dv_congr (fun q a b => by rw [su_nk (by decide), su_nk (by decide), g5 q a b])
        refine J_iinc3 C (by decide) rfl dX3_accountIncome_78 ?_
        refine J_goto (tgt := 23) C dX3_accountIncome_81 (by decide) ?_
        -- to the cut at 23
        refine J_fg4 ?_
        refine ih_23 _ _ ?_ ?_ ?_ ?_ ?_ ?_ ?_ ?_
        · omega
        · omega
        · omega
        · intro a b c h h9
          rw [F3 a b c (by omega) (by omega) (by omega), su_ne3 (by omega), su_ne3 (by omega)]
          exact g3 a b c h h9
        · intro q a b
          rw [F3 _ _ _ (by decide) (by decide) (by omega), su_nk (by decide), su_nk (by decide)]
          exact g4 q a b
        · intro q a b
          rw [F3 _ _ _ (by decide) (by decide) (by omega), su_nk (by decide), su_nk (by decide)]
          exact g5 q a b
        · intro q a b
          have hv := g6 q a b
          rw [F3 _ _ _ (by decide) (by decide) (by omega), su_nk (by decide)]
          clear g3 g4 g5 g7 F3 C3 D3
          simp only [su]
          grind
        · refine ⟨j + 1, by omega, fun q a b => ?_⟩
          have hv := g7 q a b
          have hd := D3 q a b
          rw [C3 q a b, hd]
          have ho := g4 j (by omega) (by omega)
          clear g3 g4 g5 g6 F3 C3 D3 hd
          simp only [su, tks]
          grind
  refine J_aload_0 C dX3_accountIncome_0 ?_
  refine J_get_3_11 C in_X3_accountIncome_X3 fl_X3_accountIncome_53 (by decide) dX3_accountIncome_1 ?_
  refine J_iload_2 C dX3_accountIncome_4 ?_
  refine J_aload_0 C dX3_accountIncome_5 ?_
  refine J_get_3_0 C in_X3_accountIncome_X3 fl_X3_accountIncome_9 (by decide) dX3_accountIncome_6 ?_
  refine J_aload_0 C dX3_accountIncome_9 ?_
  refine J_get_3_12 C in_X3_accountIncome_X3 fl_X3_accountIncome_57 (by decide) dX3_accountIncome_10 ?_
  refine J_KVV C (c_X1_divide hfl hI _ a9 1 9 0 0 k1 k9 (by decide) (by decide) (by decide) (by decide) (by decide) ha hW1 hb1) (cwV 3 C.1.2.2.2.2 gX3_accountIncome_X1_divide rfl rfl rfl (by decide +kernel) ⟨Nat.le_of_ble_eq_true rfl, Nat.le_of_ble_eq_true rfl⟩) rc1 (by decide) rfl rfl (Nat.le_of_ble_eq_true rfl) dX3_accountIncome_13 ⟨Nat.le_of_ble_eq_true rfl, Nat.le_of_ble_eq_true rfl⟩ (fun σ_13 hp => ?_)
  obtain ⟨f1, hp⟩ := hp
  have F1 : ∀ (a : Nat) (b c : Int), a ≠ 8 → a ≠ 9 → σ_13 a b c = σ a b c := fun a b c h1 h2 => by rw [hp, sf_nk h2, sf_nk h1]
  have O1 : ∀ q, 0 ≤ q → q < 5 → σ_13 9 0 q = dv a9 (shf σ) q := fun q a b => by rw [hp, sf_at a b]; exact dv_congr (fun x c d => (hsq x c d).symm) q a b
  clear hp
  refine J_aload_0 C dX3_accountIncome_16 ?_
  refine J_aload_1 C dX3_accountIncome_17 ?_
  refine J_KVV C (c_X3_weighThoseIn hfl hI _ w hw (fun q a b => by rw [F1 _ _ _ (by decide) (by decide)]; exact hf q a b)) (cwV 1 C.1.2.2.2.2 gX3_accountIncome_X3_weighThoseIn rfl rfl rfl (by decide +kernel) ⟨Nat.le_of_ble_eq_true rfl, Nat.le_of_ble_eq_true rfl⟩) rc3 (by decide) rfl rfl (Nat.le_of_ble_eq_true rfl) dX3_accountIncome_18 ⟨Nat.le_of_ble_eq_true rfl, Nat.le_of_ble_eq_true rfl⟩ (fun σ_18 hp => ?_)
  have F2 : ∀ (a : Nat) (b c : Int), a < 8 ∨ 11 < a → σ_18 a b c = σ a b c := fun a b c h1 => by rw [hp, sf_nk (by omega), F1 a b c (by omega) (by omega)]
  have O2 : ∀ q, 0 ≤ q → q < 5 → σ_18 9 0 q = dv a9 (shf σ) q := fun q a b => by rw [hp, sf_nk (by decide), O1 q a b]
  have W2 : ∀ q, 0 ≤ q → q < 5 → σ_18 10 0 q = inw (shf σ) (ac σ w) q := fun q a b => by
    rw [hp, sf_at a b, F1 _ _ _ (by decide) (by decide), F1 _ _ _ (by decide) (by decide)]
    unfold inw
    rw [hac q a b, hsq q a b]
  clear hp
  refine J_iconst C dX3_accountIncome_21 ?_
  refine J_istore_3 C (by decide) rfl dX3_accountIncome_22 ?_
  -- to the cut at 23
  refine K_23 6 _ _ ?_ ?_ ?_ ?_ ?_ ?_ ?_ ?_
  · decide
  · decide
  · decide
  · intro a b c h h9
    exact F2 a b c h
  · exact O2
  · exact W2
  · intro q a b
    rw [F2 _ _ _ (by decide), if_neg (by omega), Int.sub_zero]
  · refine ⟨0, rfl, fun q a b => ?_⟩
    rw [F2 _ _ _ (by decide), if_neg (by omega)]
    simp [tks]
