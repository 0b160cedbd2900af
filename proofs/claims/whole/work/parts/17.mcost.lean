set_option maxRecDepth 20000 in
theorem in_X4_owns_X4 : ∀ w ∈ wsX40, w ∈ wsX4_owns := by decide +kernel
set_option maxRecDepth 20000 in
theorem fl_X4_owns_67 : Cond.fieldLink RX4 67 "JointVentureModel" "own" "[I" ∈ wsX4_owns := by decide +kernel
set_option maxRecDepth 20000 in
theorem fl_X4_owns_64 : Cond.fieldLink RX4 64 "JointVentureModel" "parts" "[I" ∈ wsX4_owns := by decide +kernel
set_option maxRecDepth 20000 in
theorem fl_X4_owns_61 : Cond.fieldLink RX4 61 "JointVentureModel" "weights" "[I" ∈ wsX4_owns := by decide +kernel
set_option maxRecDepth 20000 in
theorem fl_X4_owns_7 : Cond.fieldLink RX4 7 "JointVentureModel" "shares" "[I" ∈ wsX4_owns := by decide +kernel
set_option maxHeartbeats 4000000 in
set_option maxRecDepth 100000 in
theorem c_X4_owns {l : Launch} (hfl : l.stackTraces = false) {cy : Nat → ClassId} {D : va_G} {ad : Ad} (hI : Inj ad) (σ : Sg) (a9 : Int) (ha : 0 ≤ a9 ∧ a9 < 2147483648) (hsm : Shk (shm σ)) : KV l yX4_owns wsX4_owns ({ frames := 1, cells := 0, slots := 0, locals := 29 } : Room) cy D ad σ [.ref (ad 22 0), .int (iI a9)] (fun σ' => (∀ (a : Nat) (b c : Int), a < 38 ∨ 41 < a → σ' a b c = σ a b c) ∧ ∀ q, 0 ≤ q → q < 5 → σ' 40 0 q = dv a9 (shm σ) q) 0 0 := by
  refine KV.of (lv0 := [some (.ref (ad 22 0)), some (.int (iI a9)), none]) hfl hI (by decide) rfl (Nat.le_of_ble_eq_true rfl) rfl ?_
  intro p e s m args below meth c C hr
  have hsq : ∀ q, 0 ≤ q → q < 5 → shm σ q = σ 23 0 q := fun q a b => shm_at a b
  have hsr : ∀ q, 0 ≤ q → q < 5 → 0 ≤ σ 23 0 q ∧ σ 23 0 q ≤ 10000 := fun q a b => by have := hsm.1 q a b; rw [hsq q a b] at this; exact this
  have K_33 : ∀ (n_ : Nat) (i : Int) (σ1 : Sg), (0 ≤ i) → (i ≤ 5) → (5 - i < n_) → (∀ (a : Nat) (b c : Int), a < 38 ∨ 41 < a → σ1 a b c = σ a b c) → (∀ q, 0 ≤ q → q < 5 → σ1 39 0 q = dv a9 (shm σ) q) → (∀ q, 0 ≤ q → q < i → σ1 40 0 q = dv a9 (shm σ) q) → JW p l e ({ frames := 1, cells := 0, slots := 0, locals := 29 } : Room) s m args below meth c cy D ad (Ar ad s.heap.size) 3 0 0 (MQ below (QcV cy D ad (fun σ' => (∀ (a : Nat) (b c : Int), a < 38 ∨ 41 < a → σ' a b c = σ a b c) ∧ ∀ q, 0 ≤ q → q < 5 → σ' 40 0 q = dv a9 (shm σ) q) s.heap.size) args s 0 0 (Ar ad s.heap.size)) σ1 33 [some (.ref (ad 22 0)), some (.int (iI a9)), some (.int (iI i))] [] := by
    intro n_
    induction n_ with
    | zero => intro i σ1 g0 g1 g2 g3 g4 g5; omega
    | succ n_ ih_33 =>
      intro i σ1 g0 g1 g2 g3 g4 g5
      refine J_iload_2 C dX4_owns_33 ?_
      refine J_iconst C dX4_owns_34 ?_
      refine J_icmp_ge (tgt := 56) C (by omega) (by omega) dX4_owns_35 (by decide) (fun c_35 => ?_) (fun c_35 => ?_)
      · refine J_retV C hr (by decide) (by decide) dX4_owns_56 ?_
        have e5 : i = 5 := by omega
        subst e5
        exact ⟨g3, g5⟩
      · refine J_aload_0 C dX4_owns_38 ?_
        refine J_get_4_22 C in_X4_owns_X4 fl_X4_owns_67 (by decide) dX4_owns_39 ?_
        refine J_iload_2 C dX4_owns_42 ?_
        refine J_aload_0 C dX4_owns_43 ?_
        refine J_get_4_21 C in_X4_owns_X4 fl_X4_owns_64 (by decide) dX4_owns_44 ?_
        refine J_iload_2 C dX4_owns_47 ?_
        refine J_iaload C k39 (by decide) (by omega) dX4_owns_48 ?_
        refine J_iastore C k40 (by decide) (by omega) dX4_owns_49 ?_
        refine J_iinc2 C (by decide) rfl dX4_owns_50 ?_
        refine J_goto (tgt := 33) C dX4_owns_53 (by decide) ?_
        -- to the cut at 33
        refine ih_33 _ _ ?_ ?_ ?_ ?_ ?_ ?_
        · omega
        · omega
        · omega
        · intro a b c h
          rw [su_nk (by omega)]
          exact g3 a b c h
        · intro q a b
          rw [su_nk (by decide)]
          exact g4 q a b
        · intro q a b
          by_cases e : q = i
          · subst e
            rw [su_at]
            exact g4 _ a (by omega)
          · rw [su_ne (Or.inr e)]
            exact g5 q a (by omega)
  have K_2 : ∀ (n_ : Nat) (i : Int) (σ1 : Sg), (0 ≤ i) → (i ≤ 5) → (5 - i < n_) → (σ1 = sf σ 38 0 i (σ 23 0)) → JW p l e ({ frames := 1, cells := 0, slots := 0, locals := 29 } : Room) s m args below meth c cy D ad (Ar ad s.heap.size) 3 0 0 (MQ below (QcV cy D ad (fun σ' => (∀ (a : Nat) (b c : Int), a < 38 ∨ 41 < a → σ' a b c = σ a b c) ∧ ∀ q, 0 ≤ q → q < 5 → σ' 40 0 q = dv a9 (shm σ) q) s.heap.size) args s 0 0 (Ar ad s.heap.size)) σ1 2 [some (.ref (ad 22 0)), some (.int (iI a9)), some (.int (iI i))] [] := by
    intro n_
    induction n_ with
    | zero => intro i σ1 g0 g1 g2 g3; omega
    | succ n_ ih_2 =>
      intro i σ1 g0 g1 g2 g3
      have h23 : σ1 23 0 i = σ 23 0 i := by rw [g3, sf_nk (by decide)]
      refine J_iload_2 C dX4_owns_2 ?_
      refine J_iconst C dX4_owns_3 ?_
      refine J_icmp_ge (tgt := 25) C (by omega) (by omega) dX4_owns_4 (by decide) (fun c_4 => ?_) (fun c_4 => ?_)
      · refine J_aload_0 C dX4_owns_25 ?_
        refine J_iload_1 C dX4_owns_26 ?_
        refine J_i2l C (by omega) dX4_owns_27 ?_
        refine J_KVV C (c_X4_divides hfl hI _ a9 ha (Wt.congr (fun q a b => by rw [g3, sf_at a (by omega), hsq q a b]) hsm.wt) (fun q a b => by rw [g3, sf_at a (by omega)]; have := hsr q a b; omega)) (cwV 1 C.1.2.2.2.2 gX4_owns_X4_divides rfl rfl rfl (by decide +kernel) ⟨Nat.le_of_ble_eq_true rfl, Nat.le_of_ble_eq_true rfl⟩) rc4 (by decide) rfl rfl (Nat.le_of_ble_eq_true rfl) dX4_owns_28 ⟨Nat.le_of_ble_eq_true rfl, Nat.le_of_ble_eq_true rfl⟩ (fun σ_28 hp => ?_)
        obtain ⟨F0, P0⟩ := hp
        have F1 : ∀ (a : Nat) (b c : Int), a < 38 ∨ 41 < a → σ_28 a b c = σ a b c := fun a b c h => by rw [F0 a b c (by omega) (by omega), g3, sf_nk (by omega)]
        have P1 : ∀ q, 0 ≤ q → q < 5 → σ_28 39 0 q = dv a9 (shm σ) q := fun q a b => by rw [P0 q a b]; exact dv_congr (fun y c d => by rw [g3, sf_at c (by omega), hsq y c d]) q a b
        refine J_iconst C dX4_owns_31 ?_
        refine J_istore_2 C (by decide) rfl dX4_owns_32 ?_
        -- to the cut at 33
        refine K_33 6 _ _ ?_ ?_ ?_ ?_ ?_ ?_
        · decide
        · decide
        · decide
        · exact F1
        · exact P1
        · intro q a b; omega
      · refine J_aload_0 C dX4_owns_7 ?_
        refine J_get_4_20 C in_X4_owns_X4 fl_X4_owns_61 (by decide) dX4_owns_8 ?_
        refine J_iload_2 C dX4_owns_11 ?_
        refine J_aload_0 C dX4_owns_12 ?_
        refine J_get_4_0 C in_X4_owns_X4 fl_X4_owns_7 (by decide) dX4_owns_13 ?_
        refine J_iload_2 C dX4_owns_16 ?_
        refine J_iaload C k23 (by decide) (by omega) dX4_owns_17 ?_
        refine J_iastore C k38 (by decide) (by omega) dX4_owns_18 ?_
        refine J_iinc2 C (by decide) rfl dX4_owns_19 ?_
        refine J_goto (tgt := 2) C dX4_owns_22 (by decide) ?_
        -- to the cut at 2
        refine ih_2 _ _ ?_ ?_ ?_ ?_
        · omega
        · omega
        · omega
        · rw [h23, g3]
          exact sf_su g0 rfl
  refine J_iconst C dX4_owns_0 ?_
  refine J_istore_2 C (by decide) rfl dX4_owns_1 ?_
  -- to the cut at 2
  refine K_2 6 _ _ ?_ ?_ ?_ ?_
  · decide
  · decide
  · decide
  · exact (sf_0 ..).symm
set_option maxRecDepth 20000 in
theorem in_X4_dividesAmongIn_X4 : ∀ w ∈ wsX40, w ∈ wsX4_dividesAmongIn := by decide +kernel
set_option maxRecDepth 20000 in
theorem fl_X4_dividesAmongIn_61 : Cond.fieldLink RX4 61 "JointVentureModel" "weights" "[I" ∈ wsX4_dividesAmongIn := by decide +kernel
set_option maxRecDepth 20000 in
theorem fl_X4_dividesAmongIn_45 : Cond.fieldLink RX4 45 "JointVentureModel" "in" "[Z" ∈ wsX4_dividesAmongIn := by decide +kernel
set_option maxRecDepth 20000 in
theorem fl_X4_dividesAmongIn_7 : Cond.fieldLink RX4 7 "JointVentureModel" "shares" "[I" ∈ wsX4_dividesAmongIn := by decide +kernel
set_option maxHeartbeats 4000000 in
set_option maxRecDepth 100000 in
theorem c_X4_dividesAmongIn {l : Launch} (hfl : l.stackTraces = false) {cy : Nat → ClassId} {D : va_G} {ad : Ad} (hI : Inj ad) (σ : Sg) (a9 : Int) (ha : 0 ≤ a9 ∧ a9 < 2147483648) (hsm : Shk (shm σ)) (hin : ∀ q, 0 ≤ q → q < 5 → σ 33 0 q = 0 ∨ σ 33 0 q = 1) (hW : Wt (inm σ)) : KV l yX4_dividesAmongIn wsX4_dividesAmongIn ({ frames := 1, cells := 0, slots := 0, locals := 29 } : Room) cy D ad σ [.ref (ad 22 0), .long (lI a9)] (fun σ' => (∀ (a : Nat) (b c : Int), a ≠ 38 → a ≠ 39 → a ≠ 41 → σ' a b c = σ a b c) ∧ ∀ q, 0 ≤ q → q < 5 → σ' 39 0 q = dv a9 (inm σ) q) 0 0 := by
  refine KV.of (lv0 := [some (.ref (ad 22 0)), some (.long (lI a9)), none, none]) hfl hI (by decide) rfl (Nat.le_of_ble_eq_true rfl) rfl ?_
  intro p e s m args below meth c C hr
  have hsq : ∀ q, 0 ≤ q → q < 5 → shm σ q = σ 23 0 q := fun q a b => shm_at a b
  have hsr : ∀ q, 0 ≤ q → q < 5 → 0 ≤ σ 23 0 q ∧ σ 23 0 q ≤ 10000 := fun q a b => by have := hsm.1 q a b; rw [hsq q a b] at this; exact this
  have K_2 : ∀ (n_ : Nat) (i : Int) (σ1 : Sg), (0 ≤ i) → (i ≤ 5) → (5 - i < n_) → (σ1 = sf σ 38 0 i (inm σ)) → JW p l e ({ frames := 1, cells := 0, slots := 0, locals := 29 } : Room) s m args below meth c cy D ad (Ar ad s.heap.size) 4 0 0 (MQ below (QcV cy D ad (fun σ' => (∀ (a : Nat) (b c : Int), a ≠ 38 → a ≠ 39 → a ≠ 41 → σ' a b c = σ a b c) ∧ ∀ q, 0 ≤ q → q < 5 → σ' 39 0 q = dv a9 (inm σ) q) s.heap.size) args s 0 0 (Ar ad s.heap.size)) σ1 2 [some (.ref (ad 22 0)), some (.long (lI a9)), none, some (.int (iI i))] [] := by
    intro n_
    induction n_ with
    | zero => intro i σ1 g0 g1 g2 g3; omega
    | succ n_ ih_2 =>
      intro i σ1 g0 g1 g2 g3
      have h23 : σ1 23 0 i = σ 23 0 i := by rw [g3, sf_nk (by decide)]
      have h33 : σ1 33 0 i = σ 33 0 i := by rw [g3, sf_nk (by decide)]
      refine J_iload_3 C dX4_dividesAmongIn_2 ?_
      refine J_iconst C dX4_dividesAmongIn_3 ?_
      refine J_icmp_ge (tgt := 38) C (by omega) (by omega) dX4_dividesAmongIn_4 (by decide) (fun c_4 => ?_) (fun c_4 => ?_)
      · refine J_aload_0 C dX4_dividesAmongIn_38 ?_
        refine J_lload_1 C dX4_dividesAmongIn_39 ?_
        refine J_KVV C (c_X4_divides hfl hI _ a9 ha (Wt.congr (fun q a b => by rw [g3, sf_at a (by omega)]) hW) (fun q a b => by rw [g3, sf_at a (by omega)]; unfold inm; rw [hsq q a b]; have := hsr q a b; split <;> omega)) (cwV 1 C.1.2.2.2.2 gX4_dividesAmongIn_X4_divides rfl rfl rfl (by decide +kernel) ⟨Nat.le_of_ble_eq_true rfl, Nat.le_of_ble_eq_true rfl⟩) rc4 (by decide) rfl rfl (Nat.le_of_ble_eq_true rfl) dX4_dividesAmongIn_40 ⟨Nat.le_of_ble_eq_true rfl, Nat.le_of_ble_eq_true rfl⟩ (fun σ_40 hp => ?_)
        obtain ⟨F0, P0⟩ := hp
        have F1 : ∀ (a : Nat) (b c : Int), a ≠ 38 → a ≠ 39 → a ≠ 41 → σ_40 a b c = σ a b c := fun a b c h1 h2 h3 => by rw [F0 a b c h2 h3, g3, sf_nk h1]
        have P1 : ∀ q, 0 ≤ q → q < 5 → σ_40 39 0 q = dv a9 (inm σ) q := fun q a b => by rw [P0 q a b]; exact dv_congr (fun y c d => by rw [g3, sf_at c (by omega)]) q a b
        refine J_retV C hr (by decide) (by decide) dX4_dividesAmongIn_43 ?_
        exact ⟨F1, P1⟩
      · refine J_aload_0 C dX4_dividesAmongIn_7 ?_
        refine J_get_4_20 C in_X4_dividesAmongIn_X4 fl_X4_dividesAmongIn_61 (by decide) dX4_dividesAmongIn_8 ?_
        refine J_iload_3 C dX4_dividesAmongIn_11 ?_
        refine J_aload_0 C dX4_dividesAmongIn_12 ?_
        refine J_get_4_15 C in_X4_dividesAmongIn_X4 fl_X4_dividesAmongIn_45 (by decide) dX4_dividesAmongIn_13 ?_
        refine J_iload_3 C dX4_dividesAmongIn_16 ?_
        refine J_baload C k33 (by decide) (by omega) dX4_dividesAmongIn_17 ?_
        refine J_if_eq (tgt := 30) C (by rw [h33]; have := hin i (by omega) (by omega); omega) dX4_dividesAmongIn_18 (by decide) (fun c_18 => ?_) (fun c_18 => ?_)
        · refine J_iconst C dX4_dividesAmongIn_30 ?_
          refine J_iastore C k38 (by decide) (by omega) dX4_dividesAmongIn_31 ?_
          refine J_iinc3 C (by decide) rfl dX4_dividesAmongIn_32 ?_
          refine J_goto (tgt := 2) C dX4_dividesAmongIn_35 (by decide) ?_
          -- to the cut at 2
          refine ih_2 _ _ ?_ ?_ ?_ ?_
          · omega
          · omega
          · omega
          · (try rw [h23])
            rw [g3]
            refine sf_su g0 ?_
            unfold inm
            rw [hsq i (by omega) (by omega)]
            have e33 := h33
            split <;> omega
        · refine J_aload_0 C dX4_dividesAmongIn_21 ?_
          refine J_get_4_0 C in_X4_dividesAmongIn_X4 fl_X4_dividesAmongIn_7 (by decide) dX4_dividesAmongIn_22 ?_
          refine J_iload_3 C dX4_dividesAmongIn_25 ?_
          refine J_iaload C k23 (by decide) (by omega) dX4_dividesAmongIn_26 ?_
          refine J_goto (tgt := 31) C dX4_dividesAmongIn_27 (by decide) ?_
          refine J_iastore C k38 (by decide) (by omega) dX4_dividesAmongIn_31 ?_
          refine J_iinc3 C (by decide) rfl dX4_dividesAmongIn_32 ?_
          refine J_goto (tgt := 2) C dX4_dividesAmongIn_35 (by decide) ?_
          -- to the cut at 2
          refine ih_2 _ _ ?_ ?_ ?_ ?_
          · omega
          · omega
          · omega
          · (try rw [h23])
            rw [g3]
            refine sf_su g0 ?_
            unfold inm
            rw [hsq i (by omega) (by omega)]
            have e33 := h33
            split <;> omega
  refine J_iconst C dX4_dividesAmongIn_0 ?_
  refine J_istore_3 C (by decide) rfl dX4_dividesAmongIn_1 ?_
  -- to the cut at 2
  refine K_2 6 _ _ ?_ ?_ ?_ ?_
  · decide
  · decide
  · decide
  · exact (sf_0 ..).symm
set_option maxRecDepth 20000 in
theorem in_X4_costs_X4 : ∀ w ∈ wsX40, w ∈ wsX4_costs := by decide +kernel
set_option maxRecDepth 20000 in
theorem fl_X4_costs_55 : Cond.fieldLink RX4 55 "JointVentureModel" "charges" "[I" ∈ wsX4_costs := by decide +kernel
set_option maxRecDepth 20000 in
theorem fl_X4_costs_45 : Cond.fieldLink RX4 45 "JointVentureModel" "in" "[Z" ∈ wsX4_costs := by decide +kernel
set_option maxRecDepth 20000 in
theorem fl_X4_costs_67 : Cond.fieldLink RX4 67 "JointVentureModel" "own" "[I" ∈ wsX4_costs := by decide +kernel
set_option maxRecDepth 20000 in
theorem fl_X4_costs_64 : Cond.fieldLink RX4 64 "JointVentureModel" "parts" "[I" ∈ wsX4_costs := by decide +kernel
set_option maxRecDepth 20000 in
theorem fl_X4_costs_48 : Cond.fieldLink RX4 48 "JointVentureModel" "earns" "[J" ∈ wsX4_costs := by decide +kernel
set_option maxRecDepth 20000 in
theorem fl_X4_costs_17 : Cond.fieldLink RX4 17 "JointVentureModel" "penalties" "[I" ∈ wsX4_costs := by decide +kernel
set_option maxRecDepth 20000 in
theorem w_X4_costs_c98 : Cond.constantLong RX4 98 (lI (99)) ∈ wsX4_costs := by decide +kernel
set_option maxRecDepth 20000 in
theorem w_X4_costs_c100 : Cond.constantLong RX4 100 (lI (100)) ∈ wsX4_costs := by decide +kernel
set_option maxRecDepth 20000 in
theorem fl_X4_costs_7 : Cond.fieldLink RX4 7 "JointVentureModel" "shares" "[I" ∈ wsX4_costs := by decide +kernel
set_option maxHeartbeats 4000000 in
set_option maxRecDepth 100000 in
theorem c_X4_costs {l : Launch} (hfl : l.stackTraces = false) {cy : Nat → ClassId} {D : va_G} {ad : Ad} (hI : Inj ad) (σ : Sg) (w a9 : Int) (hw : 0 ≤ w ∧ w < 6) (ha : 0 ≤ a9 ∧ a9 < 2147483648) (hsm : Shk (shm σ)) (hin : ∀ q, 0 ≤ q → q < 5 → σ 33 0 q = 0 ∨ σ 33 0 q = 1) (ht : Tin (shm σ) (mT σ)) (hpn : 0 ≤ σ 24 0 w ∧ σ 24 0 w ≤ 1000) : KV l yX4_costs wsX4_costs ({ frames := 2, cells := 0, slots := 0, locals := 52 } : Room) cy D ad σ [.ref (ad 22 0), .int (iI w), .int (iI a9)] (fun σ' => (∀ (a : Nat) (b c : Int), a < 34 ∨ 41 < a → σ' a b c = σ a b c) ∧ mT σ' = costS (shm σ) (σ 24 0 w) a9 (mT σ)) 0 0 := by
  refine KV.of (lv0 := [some (.ref (ad 22 0)), some (.int (iI w)), some (.int (iI a9)), none, none, none, none]) hfl hI (by decide) rfl (Nat.le_of_ble_eq_true rfl) rfl ?_
  intro p e s m args below meth c C hr
  have hsq : ∀ q, 0 ≤ q → q < 5 → shm σ q = σ 23 0 q := fun q a b => shm_at a b
  have hsr : ∀ q, 0 ≤ q → q < 5 → 0 ≤ σ 23 0 q ∧ σ 23 0 q ≤ 10000 := fun q a b => by have := hsm.1 q a b; rw [hsq q a b] at this; exact this
  have hWi := inw_wt hsm ht
  have him := inm_eq (fun q a b => (hsr q a b).1) hin
  have h14 : ∀ q, 0 ≤ q → q < 5 → mT σ 14 q = if 0 < σ 23 0 q ∧ σ 33 0 q = 0 then 1 else 0 := fun q a b => mT_14 a b
  have hdv : ∀ q, 0 ≤ q → q < 5 → 0 ≤ dv a9 (shm σ) q ∧ dv a9 (shm σ) q ≤ a9 := fun q a b => ⟨dv_nn ha.1 hsm.wt q a b, dv_le ha.1 hsm.wt q a b⟩
  have hom := osm_rng (T := mT σ) hsm ha.1
  have K_120 : ∀ (n_ : Nat) (i : Int) (σ1 : Sg), (0 ≤ i) → (i ≤ 5) → (5 - i < n_) → (∀ (a : Nat) (b c : Int), a < 34 ∨ a = 35 ∨ a = 37 ∨ 41 < a → σ1 a b c = σ a b c) → (∀ q, 0 ≤ q → q < 5 → σ1 40 0 q = dv a9 (shm σ) q) → (∀ q, 0 ≤ q → q < 5 → σ1 39 0 q = dv (osm (shm σ) (mT σ) a9) (inw (shm σ) (mT σ)) q) → (∀ q, 0 ≤ q → q < 5 → σ1 34 0 q = σ 34 0 q + if ¬ mT σ 14 q = 0 then pn (dv a9 (shm σ) q) (σ 24 0 w) else 0) → (∀ q, 0 ≤ q → q < 5 → σ1 36 0 q = σ 36 0 q + if q < i then chp (shm σ) (mT σ) a9 q else 0) → JW p l e ({ frames := 2, cells := 0, slots := 0, locals := 52 } : Room) s m args below meth c cy D ad (Ar ad s.heap.size) 7 0 0 (MQ below (QcV cy D ad (fun σ' => (∀ (a : Nat) (b c : Int), a < 34 ∨ 41 < a → σ' a b c = σ a b c) ∧ mT σ' = costS (shm σ) (σ 24 0 w) a9 (mT σ)) s.heap.size) args s 0 0 (Ar ad s.heap.size)) σ1 120 [some (.ref (ad 22 0)), some (.int (iI w)), some (.int (iI a9)), none, none, some (.int (iI i)), none] [] := by
    intro n_
    induction n_ with
    | zero => intro i σ1 g0 g1 g2 g3 g4 g5 g6 g7; omega
    | succ n_ ih_120 =>
      intro i σ1 g0 g1 g2 g3 g4 g5 g6 g7
      have h33 : σ1 33 0 i = σ 33 0 i := g3 33 0 i (by omega)
      refine J_iload5 C dX4_costs_120 ?_
      refine J_iconst C dX4_costs_122 ?_
      refine J_icmp_ge (tgt := 171) C (by omega) (by omega) dX4_costs_123 (by decide) (fun c_123 => ?_) (fun c_123 => ?_)
      · refine J_retV C hr (by decide) (by decide) dX4_costs_171 ?_
        have e5 : i = 5 := by omega
        subst e5
        refine ⟨fun a b c h => g3 a b c (by omega), mT_ext (costS_z (mT_z σ)) (fun q a b => ?_) (fun c q a b d f => ?_)⟩
        · rw [g3 23 0 q (by omega), g3 33 0 q (by omega)]
          rw [show costS (shm σ) (σ 24 0 w) a9 (mT σ) 14 q = mT σ 14 q from by simp [costS], h14 q a b]
        · have hv6 := g6 q d f
          have hv7 := g7 q d f
          rw [if_pos f] at hv7
          unfold costS
          rcases (show c = 15 ∨ c = 16 ∨ c = 17 ∨ c = 18 by omega) with rfl | rfl | rfl | rfl
          · rw [if_neg (by omega), if_pos ⟨rfl, d, f⟩, mT_c (by decide) (by decide) d f]
            show σ1 34 0 q = σ 34 0 q + _
            rw [hv6]
            by_cases z : mT σ 14 q = 0
            · rw [if_neg (by omega), if_pos z]
            · rw [if_pos z, if_neg z]
          · rw [if_neg (by omega), if_neg (by omega), mT_c (by decide) (by decide) d f]
            exact g3 35 0 q (by omega)
          · rw [if_pos ⟨rfl, d, f⟩, mT_c (by decide) (by decide) d f]
            exact hv7
          · rw [if_neg (by omega), if_neg (by omega), mT_c (by decide) (by decide) d f]
            exact g3 37 0 q (by omega)
      · refine J_aload_0 C dX4_costs_126 ?_
        refine J_get_4_18 C in_X4_costs_X4 fl_X4_costs_55 (by decide) dX4_costs_127 ?_
        refine J_iload5 C dX4_costs_130 ?_
        refine J_dup2 C rfl rfl dX4_costs_132 ?_
        refine J_iaload C k36 (by decide) (by omega) dX4_costs_133 ?_
        refine J_aload_0 C dX4_costs_134 ?_
        refine J_get_4_15 C in_X4_costs_X4 fl_X4_costs_45 (by decide) dX4_costs_135 ?_
        refine J_iload5 C dX4_costs_138 ?_
        refine J_baload C k33 (by decide) (by omega) dX4_costs_140 ?_
        refine J_if_eq (tgt := 162) C (by rw [h33]; have := hin i (by omega) (by omega); omega) dX4_costs_141 (by decide) (fun c_141 => ?_) (fun c_141 => ?_)
        · refine J_iconst C dX4_costs_162 ?_
          refine J_iadd C dX4_costs_163 ?_
          refine J_iastore C k36 (by decide) (by omega) dX4_costs_164 ?_
          refine J_iinc5 C (by decide) rfl dX4_costs_165 ?_
          refine J_goto (tgt := 120) C dX4_costs_168 (by decide) ?_
          -- to the cut at 120
          refine ih_120 _ _ ?_ ?_ ?_ ?_ ?_ ?_ ?_ ?_
          · omega
          · omega
          · omega
          · intro a b c h
            rw [su_nk (by omega)]
            exact g3 a b c h
          · intro q a b
            rw [su_nk (by decide)]
            exact g4 q a b
          · intro q a b
            rw [su_nk (by decide)]
            exact g5 q a b
          · intro q a b
            rw [su_nk (by decide)]
            exact g6 q a b
          · intro q a b
            have hv := g7 q a b
            have ho := g4 i (by omega) (by omega)
            have hq := g5 i (by omega) (by omega)
            have hc0 : σ 33 0 i = 0 → chp (shm σ) (mT σ) a9 i = 0 := fun z => chp_in0 hsm ht g0 (by omega) z
            have hc1 : ¬ σ 33 0 i = 0 → chp (shm σ) (mT σ) a9 i = dv (osm (shm σ) (mT σ) a9) (inw (shm σ) (mT σ)) i + dv a9 (shm σ) i := fun z => chp_in1 g0 (by omega) z
            clear g3 g4 g5 g6 g7
            simp only [su]
            grind
        · refine J_aload_0 C dX4_costs_144 ?_
          refine J_get_4_22 C in_X4_costs_X4 fl_X4_costs_67 (by decide) dX4_costs_145 ?_
          refine J_iload5 C dX4_costs_148 ?_
          refine J_iaload C k40 (by decide) (by omega) dX4_costs_150 ?_
          refine J_aload_0 C dX4_costs_151 ?_
          refine J_get_4_21 C in_X4_costs_X4 fl_X4_costs_64 (by decide) dX4_costs_152 ?_
          refine J_iload5 C dX4_costs_155 ?_
          refine J_iaload C k39 (by decide) (by omega) dX4_costs_157 ?_
          refine J_iadd C dX4_costs_158 ?_
          refine J_goto (tgt := 163) C dX4_costs_159 (by decide) ?_
          refine J_iadd C dX4_costs_163 ?_
          refine J_iastore C k36 (by decide) (by omega) dX4_costs_164 ?_
          refine J_iinc5 C (by decide) rfl dX4_costs_165 ?_
          refine J_goto (tgt := 120) C dX4_costs_168 (by decide) ?_
          -- to the cut at 120
          refine ih_120 _ _ ?_ ?_ ?_ ?_ ?_ ?_ ?_ ?_
          · omega
          · omega
          · omega
          · intro a b c h
            rw [su_nk (by omega)]
            exact g3 a b c h
          · intro q a b
            rw [su_nk (by decide)]
            exact g4 q a b
          · intro q a b
            rw [su_nk (by decide)]
            exact g5 q a b
          · intro q a b
            rw [su_nk (by decide)]
            exact g6 q a b
          · intro q a b
            have hv := g7 q a b
            have ho := g4 i (by omega) (by omega)
            have hq := g5 i (by omega) (by omega)
            have hc0 : σ 33 0 i = 0 → chp (shm σ) (mT σ) a9 i = 0 := fun z => chp_in0 hsm ht g0 (by omega) z
            have hc1 : ¬ σ 33 0 i = 0 → chp (shm σ) (mT σ) a9 i = dv (osm (shm σ) (mT σ) a9) (inw (shm σ) (mT σ)) i + dv a9 (shm σ) i := fun z => chp_in1 g0 (by omega) z
            clear g3 g4 g5 g6 g7
            simp only [su]
            grind
  have K_10 : ∀ (n_ : Nat) (t : Int) (i : Int) (σ1 : Sg), (0 ≤ i) → (i ≤ 5) → (5 - i < n_) → (∀ (a : Nat) (b c : Int), a < 34 ∨ (34 < a ∧ a < 38) ∨ 41 < a → σ1 a b c = σ a b c) → (∀ q, 0 ≤ q → q < 5 → σ1 40 0 q = dv a9 (shm σ) q) → (∀ q, 0 ≤ q → q < 5 → σ1 34 0 q = σ 34 0 q + if q < i ∧ ¬ mT σ 14 q = 0 then pn (dv a9 (shm σ) q) (σ 24 0 w) else 0) → (∃ x : Nat, i = (x : Int) ∧ t = sN (fun q => if mT σ 14 q = 0 then 0 else dv a9 (shm σ) q) x) → JW p l e ({ frames := 2, cells := 0, slots := 0, locals := 52 } : Room) s m args below meth c cy D ad (Ar ad s.heap.size) 7 0 0 (MQ below (QcV cy D ad (fun σ' => (∀ (a : Nat) (b c : Int), a < 34 ∨ 41 < a → σ' a b c = σ a b c) ∧ mT σ' = costS (shm σ) (σ 24 0 w) a9 (mT σ)) s.heap.size) args s 0 0 (Ar ad s.heap.size)) σ1 10 [some (.ref (ad 22 0)), some (.int (iI w)), some (.int (iI a9)), some (.long (lI t)), none, some (.int (iI i)), none] [] := by
    intro n_
    induction n_ with
    | zero => intro t i σ1 g0 g1 g2 g3 g4 g5 g6; omega
    | succ n_ ih_10 =>
      intro t i σ1 g0 g1 g2 g3 g4 g5 g6
      obtain ⟨x, rfl, rfl⟩ := g6
      have h23 : σ1 23 0 x = σ 23 0 x := g3 23 0 x (by omega)
      have h33 : σ1 33 0 x = σ 33 0 x := g3 33 0 x (by omega)
      have h24 : σ1 24 0 w = σ 24 0 w := g3 24 0 w (by omega)
      have hO : (x : Int) < 5 → σ1 40 0 x = dv a9 (shm σ) x := fun h => g4 x (by omega) h
      have K_41 : ∀ (o : Int), (o = mT σ 14 x) → ((x : Int) < 5) → JW p l e ({ frames := 2, cells := 0, slots := 0, locals := 52 } : Room) s m args below meth c cy D ad (Ar ad s.heap.size) 7 0 0 (MQ below (QcV cy D ad (fun σ' => (∀ (a : Nat) (b c : Int), a < 34 ∨ 41 < a → σ' a b c = σ a b c) ∧ mT σ' = costS (shm σ) (σ 24 0 w) a9 (mT σ)) s.heap.size) args s 0 0 (Ar ad s.heap.size)) σ1 41 [some (.ref (ad 22 0)), some (.int (iI w)), some (.int (iI a9)), some (.long (lI (sN (fun q => if mT σ 14 q = 0 then 0 else dv a9 (shm σ) q) x))), none, some (.int (iI ((x : Int)))), none] [.int (iI o)] := by
        intro o u0 u1
        have ho1 : o = 0 ∨ o = 1 := by rw [u0, h14 x (by omega) u1]; split <;> omega
        have hpr := mul_rng (a := dv a9 (shm σ) x) (b := σ 24 0 w) (by have := hdv x (by omega) u1; omega) (by omega)
        have hpr2 : dv a9 (shm σ) x * σ 24 0 w ≤ 2147483648 * 1000 := Int.mul_le_mul (by have := hdv x (by omega) u1; omega) (by omega) (by omega) (by omega)
        refine J_istore6 C (by decide) rfl dX4_costs_41 ?_
        refine J_lload_3 C dX4_costs_43 ?_
        refine J_iload6 C dX4_costs_44 ?_
        refine J_if_eq (tgt := 60) C (by omega) dX4_costs_46 (by decide) (fun c_46 => ?_) (fun c_46 => ?_)
        · refine J_lconst (z := 0) C (by decide) dX4_costs_60 ?_
          refine J_ladd C dX4_costs_61 ?_
          refine J_lstore_3 C (by decide) rfl dX4_costs_62 ?_
          refine J_aload_0 C dX4_costs_63 ?_
          refine J_get_4_16 C in_X4_costs_X4 fl_X4_costs_48 (by decide) dX4_costs_64 ?_
          refine J_iload5 C dX4_costs_67 ?_
          refine J_dup2 C rfl rfl dX4_costs_69 ?_
          refine J_laload C k34 (by decide) (by omega) dX4_costs_70 ?_
          refine J_iload6 C dX4_costs_71 ?_
          refine J_if_eq (tgt := 103) C (by omega) dX4_costs_73 (by decide) (fun c_73 => ?_) (fun c_73 => ?_)
          · refine J_lconst (z := 0) C (by decide) dX4_costs_103 ?_
            refine J_ladd C dX4_costs_104 ?_
            refine J_lastore C k34 (by decide) (by omega) dX4_costs_105 ?_
            refine J_iinc5 C (by decide) rfl dX4_costs_106 ?_
            refine J_goto (tgt := 10) C dX4_costs_109 (by decide) ?_
            -- to the cut at 10
            refine J_fg6 ?_
            refine ih_10 _ _ _ ?_ ?_ ?_ ?_ ?_ ?_ ?_
            · omega
            · omega
            · omega
            · intro a b c h
              rw [su_nk (by omega)]
              exact g3 a b c h
            · intro q a b
              rw [su_nk (by decide)]
              exact g4 q a b
            · intro q a b
              have hv := g5 q a b
              clear g3 g4 g5
              simp only [su]
              unfold pn at *
              grind
            · refine ⟨x + 1, by omega, ?_⟩
              simp only [sN]
              split <;> omega
          · refine J_aload_0 C dX4_costs_76 ?_
            refine J_get_4_22 C in_X4_costs_X4 fl_X4_costs_67 (by decide) dX4_costs_77 ?_
            refine J_iload5 C dX4_costs_80 ?_
            refine J_iaload C k40 (by decide) (by omega) dX4_costs_82 ?_
            rw [hO (by omega)]
            refine J_i2l C (by have := hdv x (by omega) (by omega); omega) dX4_costs_83 ?_
            refine J_aload_0 C dX4_costs_84 ?_
            refine J_get_4_3 C in_X4_costs_X4 fl_X4_costs_17 (by decide) dX4_costs_85 ?_
            refine J_iload_1 C dX4_costs_88 ?_
            refine J_iaload C k24 (by decide) (by omega) dX4_costs_89 ?_
            rw [h24]
            refine J_i2l C (by omega) dX4_costs_90 ?_
            refine J_lmul C dX4_costs_91 ?_
            refine J_ldc2 C w_X4_costs_c98 dX4_costs_92 ?_
            refine J_ladd C dX4_costs_95 ?_
            refine J_ldc2 C w_X4_costs_c100 dX4_costs_96 ?_
            refine J_ldiv C (by omega) (by omega) dX4_costs_99 ?_
            refine J_goto (tgt := 104) C dX4_costs_100 (by decide) ?_
            refine J_ladd C dX4_costs_104 ?_
            refine J_lastore C k34 (by decide) (by omega) dX4_costs_105 ?_
            refine J_iinc5 C (by decide) rfl dX4_costs_106 ?_
            refine J_goto (tgt := 10) C dX4_costs_109 (by decide) ?_
            -- to the cut at 10
            refine J_fg6 ?_
            refine ih_10 _ _ _ ?_ ?_ ?_ ?_ ?_ ?_ ?_
            · omega
            · omega
            · omega
            · intro a b c h
              rw [su_nk (by omega)]
              exact g3 a b c h
            · intro q a b
              rw [su_nk (by decide)]
              exact g4 q a b
            · intro q a b
              have hv := g5 q a b
              clear g3 g4 g5
              simp only [su]
              unfold pn at *
              grind
            · refine ⟨x + 1, by omega, ?_⟩
              simp only [sN]
              split <;> omega
        · refine J_aload_0 C dX4_costs_49 ?_
          refine J_get_4_22 C in_X4_costs_X4 fl_X4_costs_67 (by decide) dX4_costs_50 ?_
          refine J_iload5 C dX4_costs_53 ?_
          refine J_iaload C k40 (by decide) (by omega) dX4_costs_55 ?_
          rw [hO (by omega)]
          refine J_i2l C (by have := hdv x (by omega) (by omega); omega) dX4_costs_56 ?_
          refine J_goto (tgt := 61) C dX4_costs_57 (by decide) ?_
          refine J_ladd C dX4_costs_61 ?_
          refine J_lstore_3 C (by decide) rfl dX4_costs_62 ?_
          refine J_aload_0 C dX4_costs_63 ?_
          refine J_get_4_16 C in_X4_costs_X4 fl_X4_costs_48 (by decide) dX4_costs_64 ?_
          refine J_iload5 C dX4_costs_67 ?_
          refine J_dup2 C rfl rfl dX4_costs_69 ?_
          refine J_laload C k34 (by decide) (by omega) dX4_costs_70 ?_
          refine J_iload6 C dX4_costs_71 ?_
          refine J_if_eq (tgt := 103) C (by omega) dX4_costs_73 (by decide) (fun c_73 => ?_) (fun c_73 => ?_)
          · refine J_lconst (z := 0) C (by decide) dX4_costs_103 ?_
            refine J_ladd C dX4_costs_104 ?_
            refine J_lastore C k34 (by decide) (by omega) dX4_costs_105 ?_
            refine J_iinc5 C (by decide) rfl dX4_costs_106 ?_
            refine J_goto (tgt := 10) C dX4_costs_109 (by decide) ?_
            -- to the cut at 10
            refine J_fg6 ?_
            refine ih_10 _ _ _ ?_ ?_ ?_ ?_ ?_ ?_ ?_
            · omega
            · omega
            · omega
            · intro a b c h
              rw [su_nk (by omega)]
              exact g3 a b c h
            · intro q a b
              rw [su_nk (by decide)]
              exact g4 q a b
            · intro q a b
              have hv := g5 q a b
              clear g3 g4 g5
              simp only [su]
              unfold pn at *
              grind
            · refine ⟨x + 1, by omega, ?_⟩
              simp only [sN]
              split <;> omega
          · refine J_aload_0 C dX4_costs_76 ?_
            refine J_get_4_22 C in_X4_costs_X4 fl_X4_costs_67 (by decide) dX4_costs_77 ?_
            refine J_iload5 C dX4_costs_80 ?_
            refine J_iaload C k40 (by decide) (by omega) dX4_costs_82 ?_
            rw [hO (by omega)]
            refine J_i2l C (by have := hdv x (by omega) (by omega); omega) dX4_costs_83 ?_
            refine J_aload_0 C dX4_costs_84 ?_
            refine J_get_4_3 C in_X4_costs_X4 fl_X4_costs_17 (by decide) dX4_costs_85 ?_
            refine J_iload_1 C dX4_costs_88 ?_
            refine J_iaload C k24 (by decide) (by omega) dX4_costs_89 ?_
            rw [h24]
            refine J_i2l C (by omega) dX4_costs_90 ?_
            refine J_lmul C dX4_costs_91 ?_
            refine J_ldc2 C w_X4_costs_c98 dX4_costs_92 ?_
            refine J_ladd C dX4_costs_95 ?_
            refine J_ldc2 C w_X4_costs_c100 dX4_costs_96 ?_
            refine J_ldiv C (by omega) (by omega) dX4_costs_99 ?_
            refine J_goto (tgt := 104) C dX4_costs_100 (by decide) ?_
            refine J_ladd C dX4_costs_104 ?_
            refine J_lastore C k34 (by decide) (by omega) dX4_costs_105 ?_
            refine J_iinc5 C (by decide) rfl dX4_costs_106 ?_
            refine J_goto (tgt := 10) C dX4_costs_109 (by decide) ?_
            -- to the cut at 10
            refine J_fg6 ?_
            refine ih_10 _ _ _ ?_ ?_ ?_ ?_ ?_ ?_ ?_
            · omega
            · omega
            · omega
            · intro a b c h
              rw [su_nk (by omega)]
              exact g3 a b c h
            · intro q a b
              rw [su_nk (by decide)]
              exact g4 q a b
            · intro q a b
              have hv := g5 q a b
              clear g3 g4 g5
              simp only [su]
              unfold pn at *
              grind
            · refine ⟨x + 1, by omega, ?_⟩
              simp only [sN]
              split <;> omega
      refine J_iload5 C dX4_costs_10 ?_
      refine J_iconst C dX4_costs_12 ?_
      refine J_icmp_ge (tgt := 112) C (by omega) (by omega) dX4_costs_13 (by decide) (fun c_13 => ?_) (fun c_13 => ?_)
      · have e5 : x = 5 := by omega
        subst e5
        rw [sN_5, show s5 (fun q => if mT σ 14 q = 0 then 0 else dv a9 (shm σ) q) = osm (shm σ) (mT σ) a9 from rfl]
        have hshm : shm σ1 = shm σ := shm_congr (fun q a b => g3 23 0 q (by omega))
        refine J_aload_0 C dX4_costs_112 ?_
        refine J_lload_3 C dX4_costs_113 ?_
        refine J_KVV C (c_X4_dividesAmongIn hfl hI _ _ (by omega) (by rw [hshm]; exact hsm) (fun q a b => by rw [g3 33 0 q (by omega)]; exact hin q a b) (Wt.congr (fun q a b => by rw [← him q a b]; unfold inm; rw [g3 33 0 q (by omega), hshm]) hWi)) (cwV 1 C.1.2.2.2.2 gX4_costs_X4_dividesAmongIn rfl rfl rfl (by decide +kernel) ⟨Nat.le_of_ble_eq_true rfl, Nat.le_of_ble_eq_true rfl⟩) rc4 (by decide) rfl rfl (Nat.le_of_ble_eq_true rfl) dX4_costs_114 ⟨Nat.le_of_ble_eq_true rfl, Nat.le_of_ble_eq_true rfl⟩ (fun σ_114 hp => ?_)
        obtain ⟨F0, P0⟩ := hp
        have F2 : ∀ (a : Nat) (b c : Int), a < 34 ∨ a = 35 ∨ a = 37 ∨ 41 < a → σ_114 a b c = σ a b c := fun a b c h => by rw [F0 a b c (by omega) (by omega) (by omega)]; exact g3 a b c (by omega)
        have O2 : ∀ q, 0 ≤ q → q < 5 → σ_114 40 0 q = dv a9 (shm σ) q := fun q a b => by rw [F0 _ _ _ (by decide) (by decide) (by decide)]; exact g4 q a b
        have P2 : ∀ q, 0 ≤ q → q < 5 → σ_114 39 0 q = dv (osm (shm σ) (mT σ) a9) (inw (shm σ) (mT σ)) q := fun q a b => by rw [P0 q a b]; exact dv_congr (fun y c d => by rw [← him y c d]; unfold inm; rw [g3 33 0 y (by omega), hshm]) q a b
        have E2 : ∀ q, 0 ≤ q → q < 5 → σ_114 34 0 q = σ 34 0 q + if ¬ mT σ 14 q = 0 then pn (dv a9 (shm σ) q) (σ 24 0 w) else 0 := fun q a b => by
          rw [F0 _ _ _ (by decide) (by decide) (by decide), g5 q a b]
          by_cases z : mT σ 14 q = 0
          · rw [if_neg (by omega), if_neg (by omega)]
          · rw [if_pos ⟨by omega, z⟩, if_pos z]
        have C2 : ∀ q, 0 ≤ q → q < 5 → σ_114 36 0 q = σ 36 0 q := fun q a b => by rw [F0 _ _ _ (by decide) (by decide) (by decide)]; exact g3 36 0 q (by omega)
        refine J_iconst C dX4_costs_117 ?_
        refine J_istore5 C (by decide) rfl dX4_costs_118 ?_
        -- to the cut at 120
        refine J_fg3 ?_
        refine K_120 6 _ _ ?_ ?_ ?_ ?_ ?_ ?_ ?_ ?_
        · decide
        · decide
        · decide
        · exact F2
        · exact O2
        · exact P2
        · exact E2
        · intro q a b
          rw [C2 q a b, if_neg (by omega), Int.add_zero]
      · refine J_aload_0 C dX4_costs_16 ?_
        refine J_get_4_0 C in_X4_costs_X4 fl_X4_costs_7 (by decide) dX4_costs_17 ?_
        refine J_iload5 C dX4_costs_20 ?_
        refine J_iaload C k23 (by decide) (by omega) dX4_costs_22 ?_
        refine J_if_le (tgt := 40) C (by rw [h23]; have := hsr x (by omega) (by omega); omega) dX4_costs_23 (by decide) (fun c_23 => ?_) (fun c_23 => ?_)
        · refine J_iconst C dX4_costs_40 ?_
          -- to the cut at 41
          refine K_41 _ ?_ ?_
          · rw [h14 x (by omega) (by omega)]
            split <;> omega
          · omega
        · refine J_aload_0 C dX4_costs_26 ?_
          refine J_get_4_15 C in_X4_costs_X4 fl_X4_costs_45 (by decide) dX4_costs_27 ?_
          refine J_iload5 C dX4_costs_30 ?_
          refine J_baload C k33 (by decide) (by omega) dX4_costs_32 ?_
          refine J_if_ne (tgt := 40) C (by rw [h33]; have := hin x (by omega) (by omega); omega) dX4_costs_33 (by decide) (fun c_33 => ?_) (fun c_33 => ?_)
          · refine J_iconst C dX4_costs_40 ?_
            -- to the cut at 41
            refine K_41 _ ?_ ?_
            · rw [h14 x (by omega) (by omega)]
              split <;> omega
            · omega
          · refine J_iconst C dX4_costs_36 ?_
            refine J_goto (tgt := 41) C dX4_costs_37 (by decide) ?_
            -- to the cut at 41
            refine K_41 _ ?_ ?_
            · rw [h14 x (by omega) (by omega)]
              split <;> omega
            · omega
  refine J_aload_0 C dX4_costs_0 ?_
  refine J_iload_2 C dX4_costs_1 ?_
  refine J_KVV C (c_X4_owns hfl hI _ a9 ha hsm) (cwV 1 C.1.2.2.2.2 gX4_costs_X4_owns rfl rfl rfl (by decide +kernel) ⟨Nat.le_of_ble_eq_true rfl, Nat.le_of_ble_eq_true rfl⟩) rc4 (by decide) rfl rfl (Nat.le_of_ble_eq_true rfl) dX4_costs_2 ⟨Nat.le_of_ble_eq_true rfl, Nat.le_of_ble_eq_true rfl⟩ (fun σ_2 hp => ?_)
  obtain ⟨F1, O1⟩ := hp
  refine J_lconst (z := 0) C (by decide) dX4_costs_5 ?_
  refine J_lstore_3 C (by decide) rfl dX4_costs_6 ?_
  refine J_iconst C dX4_costs_7 ?_
  refine J_istore5 C (by decide) rfl dX4_costs_8 ?_
  -- to the cut at 10
  refine K_10 6 _ _ _ ?_ ?_ ?_ ?_ ?_ ?_ ?_
  · decide
  · decide
  · decide
  · intro a b c h
    exact F1 a b c (by omega)
  · exact O1
  · intro q a b
    rw [F1 _ _ _ (by decide), if_neg (by omega), Int.add_zero]
  · exact ⟨0, rfl, by simp [sN]⟩
set_option maxRecDepth 20000 in
theorem in_X4_brings_X4 : ∀ w ∈ wsX40, w ∈ wsX4_brings := by decide +kernel
set_option maxRecDepth 20000 in
theorem fl_X4_brings_7 : Cond.fieldLink RX4 7 "JointVentureModel" "shares" "[I" ∈ wsX4_brings := by decide +kernel
set_option maxRecDepth 20000 in
theorem fl_X4_brings_45 : Cond.fieldLink RX4 45 "JointVentureModel" "in" "[Z" ∈ wsX4_brings := by decide +kernel
set_option maxRecDepth 20000 in
theorem fl_X4_brings_48 : Cond.fieldLink RX4 48 "JointVentureModel" "earns" "[J" ∈ wsX4_brings := by decide +kernel
set_option maxRecDepth 20000 in
theorem fl_X4_brings_52 : Cond.fieldLink RX4 52 "JointVentureModel" "backs" "[I" ∈ wsX4_brings := by decide +kernel
set_option maxRecDepth 20000 in
theorem fl_X4_brings_58 : Cond.fieldLink RX4 58 "JointVentureModel" "credits" "[I" ∈ wsX4_brings := by decide +kernel
set_option maxRecDepth 20000 in
theorem fl_X4_brings_64 : Cond.fieldLink RX4 64 "JointVentureModel" "parts" "[I" ∈ wsX4_brings := by decide +kernel
set_option maxRecDepth 20000 in
theorem fl_X4_brings_67 : Cond.fieldLink RX4 67 "JointVentureModel" "own" "[I" ∈ wsX4_brings := by decide +kernel
set_option maxHeartbeats 4000000 in
set_option maxRecDepth 100000 in
theorem c_X4_brings {l : Launch} (hfl : l.stackTraces = false) {cy : Nat → ClassId} {D : va_G} {ad : Ad} (hI : Inj ad) (σ : Sg) (a9 v : Int) (ha : 0 ≤ a9 ∧ a9 < 2147483648) (hsm : Shk (shm σ)) (hin : ∀ q, 0 ≤ q → q < 5 → σ 33 0 q = 0 ∨ σ 33 0 q = 1) (ht : Tin (shm σ) (mT σ)) (he : ∀ q, 0 ≤ q → q < 5 → 0 ≤ σ 34 0 q ∧ σ 34 0 q < 4611686018427387904) : KV l yX4_brings wsX4_brings ({ frames := 2, cells := 0, slots := 0, locals := 52 } : Room) cy D ad σ [.ref (ad 22 0), .int (iI a9), .int (iI v)] (fun σ' => (∀ (a : Nat) (b c : Int), a < 33 ∨ 41 < a → σ' a b c = σ a b c) ∧ (∀ q, 0 ≤ q → q < 5 → (σ' 33 0 q = 0 ∨ σ' 33 0 q = 1) ∧ (¬ 0 < σ 23 0 q → σ' 33 0 q = σ 33 0 q)) ∧ mT σ' = incS (shm σ) v a9 (mT σ)) 0 0 := by
  refine KV.of (lv0 := [some (.ref (ad 22 0)), some (.int (iI a9)), some (.int (iI v)), none, none, none, none, none]) hfl hI (by decide) rfl (Nat.le_of_ble_eq_true rfl) rfl ?_
  intro p e s m args below meth c C hr
  have hsq : ∀ q, 0 ≤ q → q < 5 → shm σ q = σ 23 0 q := fun q a b => shm_at a b
  have hsr : ∀ q, 0 ≤ q → q < 5 → 0 ≤ σ 23 0 q ∧ σ 23 0 q ≤ 10000 := fun q a b => by have := hsm.1 q a b; rw [hsq q a b] at this; exact this
  have hWi := inw_wt hsm ht
  have him := inm_eq (fun q a b => (hsr q a b).1) hin
  have h14 : ∀ q, 0 ≤ q → q < 5 → mT σ 14 q = if 0 < σ 23 0 q ∧ σ 33 0 q = 0 then 1 else 0 := fun q a b => mT_14 a b
  have hdv : ∀ q, 0 ≤ q → q < 5 → 0 ≤ dv a9 (shm σ) q ∧ dv a9 (shm σ) q ≤ a9 := fun q a b => ⟨dv_nn ha.1 hsm.wt q a b, dv_le ha.1 hsm.wt q a b⟩
  have hom := osm_rng (T := mT σ) hsm ha.1
  have h15 : ∀ q, 0 ≤ q → q < 5 → mT σ 15 q = σ 34 0 q := fun q a b => mT_c (by decide) (by decide) a b
  have htr : ∀ q, 0 ≤ q → q < 5 → 0 ≤ tkn (shm σ) (mT σ) a9 q ∧ tkn (shm σ) (mT σ) a9 q ≤ dv a9 (shm σ) q ∧ tkn (shm σ) (mT σ) a9 q ≤ σ 34 0 q := fun q a b => by have := tkn_rng (T := mT σ) hsm ha.1 a b (by rw [h15 q a b]; exact (he q a b).1); rw [h15 q a b] at this; exact ⟨this.1, this.2.1, this.2.2.1⟩
  have K_157 : ∀ (n_ : Nat) (i : Int) (σ1 : Sg), (0 ≤ i) → (i ≤ 5) → (5 - i < n_) → (∀ (a : Nat) (b c : Int), a < 33 ∨ a = 36 ∨ 41 < a → σ1 a b c = σ a b c) → (∀ q, 0 ≤ q → q < 5 → σ1 33 0 q = if q < i ∧ (0 < σ 23 0 q ∧ σ 33 0 q = 0 ∧ σ 34 0 q - tkn (shm σ) (mT σ) a9 q = 0) then 1 else σ 33 0 q) → (∀ q, 0 ≤ q → q < 5 → σ1 35 0 q = if q < i ∧ (0 < σ 23 0 q ∧ σ 33 0 q = 0 ∧ σ 34 0 q - tkn (shm σ) (mT σ) a9 q = 0) then v else σ 35 0 q) → (∀ q, 0 ≤ q → q < 5 → σ1 34 0 q = σ 34 0 q - tkn (shm σ) (mT σ) a9 q) → (∀ q, 0 ≤ q → q < 5 → σ1 37 0 q = σ 37 0 q + (dv a9 (shm σ) q - tkn (shm σ) (mT σ) a9 q) + tks (shm σ) (mT σ) a9 q 5) → JW p l e ({ frames := 2, cells := 0, slots := 0, locals := 52 } : Room) s m args below meth c cy D ad (Ar ad s.heap.size) 8 0 0 (MQ below (QcV cy D ad (fun σ' => (∀ (a : Nat) (b c : Int), a < 33 ∨ 41 < a → σ' a b c = σ a b c) ∧ (∀ q, 0 ≤ q → q < 5 → (σ' 33 0 q = 0 ∨ σ' 33 0 q = 1) ∧ (¬ 0 < σ 23 0 q → σ' 33 0 q = σ 33 0 q)) ∧ mT σ' = incS (shm σ) v a9 (mT σ)) s.heap.size) args s 0 0 (Ar ad s.heap.size)) σ1 157 [some (.ref (ad 22 0)), some (.int (iI a9)), some (.int (iI v)), some (.int (iI i)), none, none, none, none] [] := by
    intro n_
    induction n_ with
    | zero => intro i σ1 g0 g1 g2 g3 g4 g5 g6 g7; omega
    | succ n_ ih_157 =>
      intro i σ1 g0 g1 g2 g3 g4 g5 g6 g7
      have h23 : σ1 23 0 i = σ 23 0 i := g3 23 0 i (by omega)
      have h33 : i < 5 → σ1 33 0 i = σ 33 0 i := fun h => by rw [g4 i g0 h, if_neg (by omega)]
      have h34 : i < 5 → σ1 34 0 i = σ 34 0 i - tkn (shm σ) (mT σ) a9 i := fun h => g6 i g0 h
      refine J_iload_3 C dX4_brings_157 ?_
      refine J_iconst C dX4_brings_158 ?_
      refine J_icmp_ge (tgt := 211) C (by omega) (by omega) dX4_brings_159 (by decide) (fun c_159 => ?_) (fun c_159 => ?_)
      · refine J_retV C hr (by decide) (by decide) dX4_brings_211 ?_
        have e5 : i = 5 := by omega
        subst e5
        have h14' := h14
        refine ⟨fun a b c h => g3 a b c (by omega), fun q a b => ?_, mT_ext (incS_z (mT_z σ)) (fun q a b => ?_) (fun c q a b d f => ?_)⟩
        · rw [g4 q a b]
          have := hin q a b
          refine ⟨by split <;> omega, fun z => ?_⟩
          rw [if_neg (fun w => z w.2.1)]
        · rw [g3 23 0 q (by omega), g4 q a b]
          have x1 := h14 q a b
          have x2 := h15 q a b
          have x3 := hin q a b
          clear g3 g4 g5 g6 g7
          unfold incS
          grind
        · have hv5 := g5 q d f
          have hv6 := g6 q d f
          have hv7 := g7 q d f
          have x1 := h14 q d f
          have x2 := h15 q d f
          unfold incS
          rw [if_pos ⟨d, f⟩]
          rcases (show c = 15 ∨ c = 16 ∨ c = 17 ∨ c = 18 by omega) with rfl | rfl | rfl | rfl
          · rw [if_pos rfl, x2]; exact hv6
          · have x3 : mT σ 16 q = σ 35 0 q := mT_c (by decide) (by decide) d f
            rw [if_neg (by decide), if_neg (by decide), if_neg (by decide), if_pos rfl, x3, x1, x2]
            show σ1 35 0 q = _
            rw [hv5]
            clear g3 g4 g5 g6 g7
            grind
          · rw [if_neg (by decide), if_neg (by decide), if_neg (by decide), if_neg (by decide), mT_c (by decide) (by decide) d f]
            exact g3 36 0 q (by omega)
          · rw [if_neg (by decide), if_pos rfl, mT_c (by decide) (by decide) d f]
            exact hv7
      · refine J_aload_0 C dX4_brings_162 ?_
        refine J_get_4_0 C in_X4_brings_X4 fl_X4_brings_7 (by decide) dX4_brings_163 ?_
        refine J_iload_3 C dX4_brings_166 ?_
        refine J_iaload C k23 (by decide) (by omega) dX4_brings_167 ?_
        refine J_if_le (tgt := 205) C (by rw [h23]; have := hsr i (by omega) (by omega); omega) dX4_brings_168 (by decide) (fun c_168 => ?_) (fun c_168 => ?_)
        · refine J_iinc3 C (by decide) rfl dX4_brings_205 ?_
          refine J_goto (tgt := 157) C dX4_brings_208 (by decide) ?_
          -- to the cut at 157
          refine ih_157 _ _ ?_ ?_ ?_ ?_ ?_ ?_ ?_ ?_
          · omega
          · omega
          · omega
          · intro a b c h
            (first | exact g3 a b c h | (rw [su_nk (by omega), su_nk (by omega)]; exact g3 a b c h))
          · intro q a b
            have hv := g4 q a b
            have x1 := h33 (by omega)
            have x2 := h34 (by omega)
            clear g3 g4 g5 g6 g7
            (try simp only [su])
            grind
          · intro q a b
            have hv := g5 q a b
            have x1 := h33 (by omega)
            have x2 := h34 (by omega)
            clear g3 g4 g5 g6 g7
            (try simp only [su])
            grind
          · intro q a b
            (first | exact g6 q a b | (rw [su_nk (by decide), su_nk (by decide)]; exact g6 q a b))
          · intro q a b
            (first | exact g7 q a b | (rw [su_nk (by decide), su_nk (by decide)]; exact g7 q a b))
        · refine J_aload_0 C dX4_brings_171 ?_
          refine J_get_4_15 C in_X4_brings_X4 fl_X4_brings_45 (by decide) dX4_brings_172 ?_
          refine J_iload_3 C dX4_brings_175 ?_
          refine J_baload C k33 (by decide) (by omega) dX4_brings_176 ?_
          refine J_if_ne (tgt := 205) C (by rw [h33 (by omega)]; have := hin i (by omega) (by omega); omega) dX4_brings_177 (by decide) (fun c_177 => ?_) (fun c_177 => ?_)
          · refine J_iinc3 C (by decide) rfl dX4_brings_205 ?_
            refine J_goto (tgt := 157) C dX4_brings_208 (by decide) ?_
            -- to the cut at 157
            refine ih_157 _ _ ?_ ?_ ?_ ?_ ?_ ?_ ?_ ?_
            · omega
            · omega
            · omega
            · intro a b c h
              (first | exact g3 a b c h | (rw [su_nk (by omega), su_nk (by omega)]; exact g3 a b c h))
            · intro q a b
              have hv := g4 q a b
              have x1 := h33 (by omega)
              have x2 := h34 (by omega)
              clear g3 g4 g5 g6 g7
              (try simp only [su])
              grind
            · intro q a b
              have hv := g5 q a b
              have x1 := h33 (by omega)
              have x2 := h34 (by omega)
              clear g3 g4 g5 g6 g7
              (try simp only [su])
              grind
            · intro q a b
              (first | exact g6 q a b | (rw [su_nk (by decide), su_nk (by decide)]; exact g6 q a b))
            · intro q a b
              (first | exact g7 q a b | (rw [su_nk (by decide), su_nk (by decide)]; exact g7 q a b))
          · refine J_aload_0 C dX4_brings_180 ?_
            refine J_get_4_16 C in_X4_brings_X4 fl_X4_brings_48 (by decide) dX4_brings_181 ?_
            refine J_iload_3 C dX4_brings_184 ?_
            refine J_laload C k34 (by decide) (by omega) dX4_brings_185 ?_
            refine J_lconst (z := 0) C (by decide) dX4_brings_186 ?_
            refine J_lif_ne (tgt := 205) C (by rw [h34 (by omega)]; have := he i (by omega) (by omega); have := htr i (by omega) (by omega); omega) (by omega) dX4_brings_187 dX4_brings_188 (by decide) (fun c_187 => ?_) (fun c_187 => ?_)
            · refine J_iinc3 C (by decide) rfl dX4_brings_205 ?_
              refine J_goto (tgt := 157) C dX4_brings_208 (by decide) ?_
              -- to the cut at 157
              refine ih_157 _ _ ?_ ?_ ?_ ?_ ?_ ?_ ?_ ?_
              · omega
              · omega
              · omega
              · intro a b c h
                (first | exact g3 a b c h | (rw [su_nk (by omega), su_nk (by omega)]; exact g3 a b c h))
              · intro q a b
                have hv := g4 q a b
                have x1 := h33 (by omega)
                have x2 := h34 (by omega)
                clear g3 g4 g5 g6 g7
                (try simp only [su])
                grind
              · intro q a b
                have hv := g5 q a b
                have x1 := h33 (by omega)
                have x2 := h34 (by omega)
                clear g3 g4 g5 g6 g7
                (try simp only [su])
                grind
              · intro q a b
                (first | exact g6 q a b | (rw [su_nk (by decide), su_nk (by decide)]; exact g6 q a b))
              · intro q a b
                (first | exact g7 q a b | (rw [su_nk (by decide), su_nk (by decide)]; exact g7 q a b))
            · refine J_aload_0 C dX4_brings_191 ?_
              refine J_get_4_15 C in_X4_brings_X4 fl_X4_brings_45 (by decide) dX4_brings_192 ?_
              refine J_iload_3 C dX4_brings_195 ?_
              refine J_iconst C dX4_brings_196 ?_
              refine J_bastore C k33 (by decide) (by omega) (by exact Or.inr rfl) dX4_brings_197 ?_
              refine J_aload_0 C dX4_brings_198 ?_
              refine J_get_4_17 C in_X4_brings_X4 fl_X4_brings_52 (by decide) dX4_brings_199 ?_
              refine J_iload_3 C dX4_brings_202 ?_
              refine J_iload_2 C dX4_brings_203 ?_
              refine J_iastore C k35 (by decide) (by omega) dX4_brings_204 ?_
              refine J_iinc3 C (by decide) rfl dX4_brings_205 ?_
              refine J_goto (tgt := 157) C dX4_brings_208 (by decide) ?_
              -- to the cut at 157
              refine ih_157 _ _ ?_ ?_ ?_ ?_ ?_ ?_ ?_ ?_
              · omega
              · omega
              · omega
              · intro a b c h
                (first | exact g3 a b c h | (rw [su_nk (by omega), su_nk (by omega)]; exact g3 a b c h))
              · intro q a b
                have hv := g4 q a b
                have x1 := h33 (by omega)
                have x2 := h34 (by omega)
                clear g3 g4 g5 g6 g7
                (try simp only [su])
                grind
              · intro q a b
                have hv := g5 q a b
                have x1 := h33 (by omega)
                have x2 := h34 (by omega)
                clear g3 g4 g5 g6 g7
                (try simp only [su])
                grind
              · intro q a b
                (first | exact g6 q a b | (rw [su_nk (by decide), su_nk (by decide)]; exact g6 q a b))
              · intro q a b
                (first | exact g7 q a b | (rw [su_nk (by decide), su_nk (by decide)]; exact g7 q a b))
  have K_7 : ∀ (n_ : Nat) (i : Int) (σ1 : Sg), (0 ≤ i) → (i ≤ 5) → (5 - i < n_) → (∀ (a : Nat) (b c : Int), a < 34 ∨ a = 35 ∨ a = 36 ∨ 41 < a → σ1 a b c = σ a b c) → (∀ q, 0 ≤ q → q < 5 → σ1 40 0 q = dv a9 (shm σ) q) → (∀ q, 0 ≤ q → q < 5 → σ1 34 0 q = σ 34 0 q - if q < i then tkn (shm σ) (mT σ) a9 q else 0) → (∃ x : Nat, i = (x : Int) ∧ ∀ q, 0 ≤ q → q < 5 → σ1 37 0 q = σ 37 0 q + (if q < i then dv a9 (shm σ) q - tkn (shm σ) (mT σ) a9 q else 0) + tks (shm σ) (mT σ) a9 q x) → JW p l e ({ frames := 2, cells := 0, slots := 0, locals := 52 } : Room) s m args below meth c cy D ad (Ar ad s.heap.size) 8 0 0 (MQ below (QcV cy D ad (fun σ' => (∀ (a : Nat) (b c : Int), a < 33 ∨ 41 < a → σ' a b c = σ a b c) ∧ (∀ q, 0 ≤ q → q < 5 → (σ' 33 0 q = 0 ∨ σ' 33 0 q = 1) ∧ (¬ 0 < σ 23 0 q → σ' 33 0 q = σ 33 0 q)) ∧ mT σ' = incS (shm σ) v a9 (mT σ)) s.heap.size) args s 0 0 (Ar ad s.heap.size)) σ1 7 [some (.ref (ad 22 0)), some (.int (iI a9)), some (.int (iI v)), some (.int (iI i)), none, none, none, none] [] := by
    intro n_
    induction n_ with
    | zero => intro i σ1 g0 g1 g2 g3 g4 g5 g6; omega
    | succ n_ ih_7 =>
      intro i σ1 g0 g1 g2 g3 g4 g5 g6
      obtain ⟨x, rfl, g6⟩ := g6
      have h23 : σ1 23 0 x = σ 23 0 x := g3 23 0 x (by omega)
      have h33 : σ1 33 0 x = σ 33 0 x := g3 33 0 x (by omega)
      have hO : (x : Int) < 5 → σ1 40 0 x = dv a9 (shm σ) x := fun h => g4 x (by omega) h
      have h34 : (x : Int) < 5 → σ1 34 0 x = σ 34 0 x := fun h => by rw [g5 x (by omega) h, if_neg (by omega), Int.sub_zero]
      have K_120 : ∀ (m_ : Nat) (j : Int) (σ2 : Sg), (0 ≤ j) → (j ≤ 5) → (5 - j < m_) → (∀ (a : Nat) (b c : Int), a < 34 ∨ a = 35 ∨ a = 36 ∨ 41 < a → σ2 a b c = σ a b c) → (∀ q, 0 ≤ q → q < 5 → σ2 40 0 q = dv a9 (shm σ) q) → (∀ q, 0 ≤ q → q < 5 → σ2 39 0 q = dv (tkn (shm σ) (mT σ) a9 x) (inw (shm σ) (mT σ)) q) → (∀ q, 0 ≤ q → q < 5 → σ2 34 0 q = σ 34 0 q - if q < (x : Int) + 1 then tkn (shm σ) (mT σ) a9 q else 0) → (∀ q, 0 ≤ q → q < 5 → σ2 37 0 q = σ 37 0 q + (if q < (x : Int) + 1 then dv a9 (shm σ) q - tkn (shm σ) (mT σ) a9 q else 0) + tks (shm σ) (mT σ) a9 q x + if q < j then dv (tkn (shm σ) (mT σ) a9 x) (inw (shm σ) (mT σ)) q else 0) → ((x : Int) < 5) → JW p l e ({ frames := 2, cells := 0, slots := 0, locals := 52 } : Room) s m args below meth c cy D ad (Ar ad s.heap.size) 8 0 0 (MQ below (QcV cy D ad (fun σ' => (∀ (a : Nat) (b c : Int), a < 33 ∨ 41 < a → σ' a b c = σ a b c) ∧ (∀ q, 0 ≤ q → q < 5 → (σ' 33 0 q = 0 ∨ σ' 33 0 q = 1) ∧ (¬ 0 < σ 23 0 q → σ' 33 0 q = σ 33 0 q)) ∧ mT σ' = incS (shm σ) v a9 (mT σ)) s.heap.size) args s 0 0 (Ar ad s.heap.size)) σ2 120 [some (.ref (ad 22 0)), some (.int (iI a9)), some (.int (iI v)), some (.int (iI ((x : Int)))), none, none, none, some (.int (iI j))] [] := by
        intro m_
        induction m_ with
        | zero => intro j σ2 u0 u1 u2 u3 u4 u5 u6 u7 u8; omega
        | succ m_ ih_120 =>
          intro j σ2 u0 u1 u2 u3 u4 u5 u6 u7 u8
          refine J_iload7 C dX4_brings_120 ?_
          refine J_iconst C dX4_brings_122 ?_
          refine J_icmp_ge (tgt := 149) C (by omega) (by omega) dX4_brings_123 (by decide) (fun c_123 => ?_) (fun c_123 => ?_)
          · refine J_iinc3 C (by decide) rfl dX4_brings_149 ?_
            refine J_goto (tgt := 7) C dX4_brings_152 (by decide) ?_
            -- to the cut at 7
            refine J_fg7 ?_
            refine ih_7 _ _ ?_ ?_ ?_ ?_ ?_ ?_ ?_
            · omega
            · omega
            · omega
            · exact u3
            · exact u4
            · exact u6
            · refine ⟨x + 1, by omega, fun q a b => ?_⟩
              rw [u7 q a b]
              simp only [tks]
              rw [if_pos (show q < j by omega)]
              omega
          · refine J_aload_0 C dX4_brings_126 ?_
            refine J_get_4_19 C in_X4_brings_X4 fl_X4_brings_58 (by decide) dX4_brings_127 ?_
            refine J_iload7 C dX4_brings_130 ?_
            refine J_dup2 C rfl rfl dX4_brings_132 ?_
            refine J_iaload C k37 (by decide) (by omega) dX4_brings_133 ?_
            refine J_aload_0 C dX4_brings_134 ?_
            refine J_get_4_21 C in_X4_brings_X4 fl_X4_brings_64 (by decide) dX4_brings_135 ?_
            refine J_iload7 C dX4_brings_138 ?_
            refine J_iaload C k39 (by decide) (by omega) dX4_brings_140 ?_
            refine J_iadd C dX4_brings_141 ?_
            refine J_iastore C k37 (by decide) (by omega) dX4_brings_142 ?_
            refine J_iinc7 C (by decide) rfl dX4_brings_143 ?_
            refine J_goto (tgt := 120) C dX4_brings_146 (by decide) ?_
            -- to the cut at 120
            refine ih_120 _ _ ?_ ?_ ?_ ?_ ?_ ?_ ?_ ?_ ?_
            · omega
            · omega
            · omega
            · intro a b c h
              rw [su_nk (by omega)]
              exact u3 a b c h
            · intro q a b
              rw [su_nk (by decide)]
              exact u4 q a b
            · intro q a b
              rw [su_nk (by decide)]
              exact u5 q a b
            · intro q a b
              rw [su_nk (by decide)]
              exact u6 q a b
            · intro q a b
              have hv := u7 q a b
              have hq := u5 j (by omega) (by omega)
              clear u3 u4 u5 u6 u7 g3 g4 g5 g6
              simp only [su]
              grind
            · exact u8
      have K_79 : ∀ (tk : Int), (tk = tkn (shm σ) (mT σ) a9 x) → ((x : Int) < 5) → JW p l e ({ frames := 2, cells := 0, slots := 0, locals := 52 } : Room) s m args below meth c cy D ad (Ar ad s.heap.size) 8 0 0 (MQ below (QcV cy D ad (fun σ' => (∀ (a : Nat) (b c : Int), a < 33 ∨ 41 < a → σ' a b c = σ a b c) ∧ (∀ q, 0 ≤ q → q < 5 → (σ' 33 0 q = 0 ∨ σ' 33 0 q = 1) ∧ (¬ 0 < σ 23 0 q → σ' 33 0 q = σ 33 0 q)) ∧ mT σ' = incS (shm σ) v a9 (mT σ)) s.heap.size) args s 0 0 (Ar ad s.heap.size)) σ1 79 [some (.ref (ad 22 0)), some (.int (iI a9)), some (.int (iI v)), some (.int (iI ((x : Int)))), none, none, none, none] [.long (lI tk)] := by
        intro tk u0 u1
        subst u0
        have ht9 := htr x (by omega) u1
        have hd9 := hdv x (by omega) u1
        have hshm : shm σ1 = shm σ := shm_congr (fun q a b => g3 23 0 q (by omega))
        refine J_lstore5 C (by decide) rfl dX4_brings_79 ?_
        refine J_aload_0 C dX4_brings_81 ?_
        refine J_get_4_16 C in_X4_brings_X4 fl_X4_brings_48 (by decide) dX4_brings_82 ?_
        refine J_iload_3 C dX4_brings_85 ?_
        refine J_dup2 C rfl rfl dX4_brings_86 ?_
        refine J_laload C k34 (by decide) (by omega) dX4_brings_87 ?_
        refine J_lload5 C dX4_brings_88 ?_
        refine J_lsub C dX4_brings_90 ?_
        refine J_lastore C k34 (by decide) (by omega) dX4_brings_91 ?_
        refine J_aload_0 C dX4_brings_92 ?_
        refine J_get_4_19 C in_X4_brings_X4 fl_X4_brings_58 (by decide) dX4_brings_93 ?_
        refine J_iload_3 C dX4_brings_96 ?_
        refine J_dup2 C rfl rfl dX4_brings_97 ?_
        refine J_iaload C k37 (by decide) (by omega) dX4_brings_98 ?_
        refine J_aload_0 C dX4_brings_99 ?_
        refine J_get_4_22 C in_X4_brings_X4 fl_X4_brings_67 (by decide) dX4_brings_100 ?_
        refine J_iload_3 C dX4_brings_103 ?_
        refine J_iaload C k40 (by decide) (by omega) dX4_brings_104 ?_
        refine J_lload5 C dX4_brings_105 ?_
        refine J_l2i C dX4_brings_107 ?_
        refine J_isub C dX4_brings_108 ?_
        refine J_iadd C dX4_brings_109 ?_
        refine J_iastore C k37 (by decide) (by omega) dX4_brings_110 ?_
        have hsh4 : ∀ y z, shm (su (su σ1 34 0 x y) 37 0 x z) = shm σ := fun y z => shm_congr (fun q a b => by rw [su_nk (by decide), su_nk (by decide)]; exact g3 23 0 q (by omega))
        refine J_aload_0 C dX4_brings_111 ?_
        refine J_lload5 C dX4_brings_112 ?_
        refine J_KVV C (c_X4_dividesAmongIn hfl hI _ _ (by omega) (by rw [hsh4]; exact hsm) (fun q a b => by rw [su_nk (by decide), su_nk (by decide), g3 33 0 q (by omega)]; exact hin q a b) (Wt.congr (fun q a b => by rw [← him q a b]; unfold inm; rw [su_nk (by decide), su_nk (by decide), g3 33 0 q (by omega), hsh4]) hWi)) (cwV 1 C.1.2.2.2.2 gX4_brings_X4_dividesAmongIn rfl rfl rfl (by decide +kernel) ⟨Nat.le_of_ble_eq_true rfl, Nat.le_of_ble_eq_true rfl⟩) rc4 (by decide) rfl rfl (Nat.le_of_ble_eq_true rfl) dX4_brings_114 ⟨Nat.le_of_ble_eq_true rfl, Nat.le_of_ble_eq_true rfl⟩ (fun σ_114 hp => ?_)
        obtain ⟨F0, P0⟩ := hp
        have F3 : ∀ (a : Nat) (b c : Int), a < 34 ∨ a = 35 ∨ a = 36 ∨ 41 < a → σ_114 a b c = σ a b c := fun a b c h => by rw [F0 a b c (by omega) (by omega) (by omega), su_nk (by omega), su_nk (by omega)]; exact g3 a b c h
        have O3 : ∀ q, 0 ≤ q → q < 5 → σ_114 40 0 q = dv a9 (shm σ) q := fun q a b => by rw [F0 _ _ _ (by decide) (by decide) (by decide), su_nk (by decide), su_nk (by decide)]; exact g4 q a b
        have P3 : ∀ q, 0 ≤ q → q < 5 → σ_114 39 0 q = dv (tkn (shm σ) (mT σ) a9 x) (inw (shm σ) (mT σ)) q := fun q a b => by rw [P0 q a b]; exact dv_congr (fun y c d => by rw [← him y c d]; unfold inm; rw [su_nk (by decide), su_nk (by decide), g3 33 0 y (by omega), hsh4]) q a b
        have E3 : ∀ q, 0 ≤ q → q < 5 → σ_114 34 0 q = σ 34 0 q - if q < (x : Int) + 1 then tkn (shm σ) (mT σ) a9 q else 0 := fun q a b => by
          rw [F0 _ _ _ (by decide) (by decide) (by decide), su_nk (by decide)]
          have hv := g5 q a b
          have x2 := h34 (by omega)
          clear F0 P0 F3 O3 P3 g3 g4 g5 g6
          simp only [su]
          grind
        have C3 : ∀ q, 0 ≤ q → q < 5 → σ_114 37 0 q = σ 37 0 q + (if q < (x : Int) + 1 then dv a9 (shm σ) q - tkn (shm σ) (mT σ) a9 q else 0) + tks (shm σ) (mT σ) a9 q x := fun q a b => by
          rw [F0 _ _ _ (by decide) (by decide) (by decide)]
          have hv := g6 q a b
          have x2 := hO (by omega)
          clear F0 P0 F3 O3 P3 E3 g3 g4 g5 g6
          simp only [su]
          grind
        refine J_iconst C dX4_brings_117 ?_
        refine J_istore7 C (by decide) rfl dX4_brings_118 ?_
        -- to the cut at 120
        refine J_fg5 ?_
        refine K_120 6 _ _ ?_ ?_ ?_ ?_ ?_ ?_ ?_ ?_ ?_
        · decide
        · decide
        · decide
        · exact F3
        · exact O3
        · exact P3
        · exact E3
        · intro q a b
          rw [C3 q a b, if_neg (show ¬ q < 0 by omega), Int.add_zero]
        · exact u1
      have K_35 : ∀ (o : Int), (o = mT σ 14 x) → ((x : Int) < 5) → JW p l e ({ frames := 2, cells := 0, slots := 0, locals := 52 } : Room) s m args below meth c cy D ad (Ar ad s.heap.size) 8 0 0 (MQ below (QcV cy D ad (fun σ' => (∀ (a : Nat) (b c : Int), a < 33 ∨ 41 < a → σ' a b c = σ a b c) ∧ (∀ q, 0 ≤ q → q < 5 → (σ' 33 0 q = 0 ∨ σ' 33 0 q = 1) ∧ (¬ 0 < σ 23 0 q → σ' 33 0 q = σ 33 0 q)) ∧ mT σ' = incS (shm σ) v a9 (mT σ)) s.heap.size) args s 0 0 (Ar ad s.heap.size)) σ1 35 [some (.ref (ad 22 0)), some (.int (iI a9)), some (.int (iI v)), some (.int (iI ((x : Int)))), none, none, none, none] [.int (iI o)] := by
        intro o u0 u1
        have ho1 : o = 0 ∨ o = 1 := by rw [u0, h14 x (by omega) u1]; split <;> omega
        have uo := u0
        rw [h14 x (by omega) u1] at uo
        refine J_istore4 C (by decide) rfl dX4_brings_35 ?_
        refine J_iload4 C dX4_brings_37 ?_
        refine J_if_ne (tgt := 46) C (by omega) dX4_brings_39 (by decide) (fun c_39 => ?_) (fun c_39 => ?_)
        · refine J_aload_0 C dX4_brings_46 ?_
          refine J_get_4_22 C in_X4_brings_X4 fl_X4_brings_67 (by decide) dX4_brings_47 ?_
          refine J_iload_3 C dX4_brings_50 ?_
          refine J_iaload C k40 (by decide) (by omega) dX4_brings_51 ?_
          refine J_i2l C (by rw [hO (by omega)]; have := hdv x (by omega) (by omega); omega) dX4_brings_52 ?_
          refine J_aload_0 C dX4_brings_53 ?_
          refine J_get_4_16 C in_X4_brings_X4 fl_X4_brings_48 (by decide) dX4_brings_54 ?_
          refine J_iload_3 C dX4_brings_57 ?_
          refine J_laload C k34 (by decide) (by omega) dX4_brings_58 ?_
          refine J_lif_ge (tgt := 73) C (by rw [hO (by omega)]; have := hdv x (by omega) (by omega); omega) (by rw [h34 (by omega)]; have := he x (by omega) (by omega); omega) dX4_brings_59 dX4_brings_60 (by decide) (fun c_59 => ?_) (fun c_59 => ?_)
          · refine J_aload_0 C dX4_brings_73 ?_
            refine J_get_4_16 C in_X4_brings_X4 fl_X4_brings_48 (by decide) dX4_brings_74 ?_
            refine J_iload_3 C dX4_brings_77 ?_
            refine J_laload C k34 (by decide) (by omega) dX4_brings_78 ?_
            -- to the cut at 79
            refine J_fg4 ?_
            refine K_79 _ ?_ ?_
            · unfold tkn
              rw [h14 x (by omega) (by omega), h15 x (by omega) (by omega)]
              have x1 := hO (by omega)
              have x2 := h34 (by omega)
              clear g3 g4 g5 g6
              grind
            · omega
          · refine J_aload_0 C dX4_brings_63 ?_
            refine J_get_4_22 C in_X4_brings_X4 fl_X4_brings_67 (by decide) dX4_brings_64 ?_
            refine J_iload_3 C dX4_brings_67 ?_
            refine J_iaload C k40 (by decide) (by omega) dX4_brings_68 ?_
            refine J_i2l C (by rw [hO (by omega)]; have := hdv x (by omega) (by omega); omega) dX4_brings_69 ?_
            refine J_goto (tgt := 79) C dX4_brings_70 (by decide) ?_
            -- to the cut at 79
            refine J_fg4 ?_
            refine K_79 _ ?_ ?_
            · unfold tkn
              rw [h14 x (by omega) (by omega), h15 x (by omega) (by omega)]
              have x1 := hO (by omega)
              have x2 := h34 (by omega)
              clear g3 g4 g5 g6
              grind
            · omega
        · refine J_lconst (z := 0) C (by decide) dX4_brings_42 ?_
          refine J_goto (tgt := 79) C dX4_brings_43 (by decide) ?_
          -- to the cut at 79
          refine J_fg4 ?_
          refine K_79 _ ?_ ?_
          · unfold tkn
            rw [h14 x (by omega) (by omega), h15 x (by omega) (by omega)]
            have x1 := hO (by omega)
            have x2 := h34 (by omega)
            clear g3 g4 g5 g6
            grind
          · omega
      refine J_iload_3 C dX4_brings_7 ?_
      refine J_iconst C dX4_brings_8 ?_
      refine J_icmp_ge (tgt := 155) C (by omega) (by omega) dX4_brings_9 (by decide) (fun c_9 => ?_) (fun c_9 => ?_)
      · refine J_iconst C dX4_brings_155 ?_
        refine J_istore_3 C (by decide) rfl dX4_brings_156 ?_
        -- to the cut at 157
        refine K_157 6 _ _ ?_ ?_ ?_ ?_ ?_ ?_ ?_ ?_
        · decide
        · decide
        · decide
        · intro a b c h
          exact g3 a b c (by omega)
        · intro q a b
          rw [if_neg (by omega)]
          exact g3 _ _ _ (by omega)
        · intro q a b
          rw [if_neg (by omega)]
          exact g3 _ _ _ (by omega)
        · intro q a b
          rw [g5 q a b, if_pos (by omega)]
        · intro q a b
          have e5 : x = 5 := by omega
          rw [g6 q a b, if_pos (by omega), e5]
      · refine J_aload_0 C dX4_brings_12 ?_
        refine J_get_4_0 C in_X4_brings_X4 fl_X4_brings_7 (by decide) dX4_brings_13 ?_
        refine J_iload_3 C dX4_brings_16 ?_
        refine J_iaload C k23 (by decide) (by omega) dX4_brings_17 ?_
        refine J_if_le (tgt := 34) C (by rw [h23]; have := hsr x (by omega) (by omega); omega) dX4_brings_18 (by decide) (fun c_18 => ?_) (fun c_18 => ?_)
        · refine J_iconst C dX4_brings_34 ?_
          -- to the cut at 35
          refine K_35 _ ?_ ?_
          · rw [h14 x (by omega) (by omega)]
            split <;> omega
          · omega
        · refine J_aload_0 C dX4_brings_21 ?_
          refine J_get_4_15 C in_X4_brings_X4 fl_X4_brings_45 (by decide) dX4_brings_22 ?_
          refine J_iload_3 C dX4_brings_25 ?_
          refine J_baload C k33 (by decide) (by omega) dX4_brings_26 ?_
          refine J_if_ne (tgt := 34) C (by rw [h33]; have := hin x (by omega) (by omega); omega) dX4_brings_27 (by decide) (fun c_27 => ?_) (fun c_27 => ?_)
          · refine J_iconst C dX4_brings_34 ?_
            -- to the cut at 35
            refine K_35 _ ?_ ?_
            · rw [h14 x (by omega) (by omega)]
              split <;> omega
            · omega
          · refine J_iconst C dX4_brings_30 ?_
            refine J_goto (tgt := 35) C dX4_brings_31 (by decide) ?_
            -- to the cut at 35
            refine K_35 _ ?_ ?_
            · rw [h14 x (by omega) (by omega)]
              split <;> omega
            · omega
  refine J_aload_0 C dX4_brings_0 ?_
  refine J_iload_1 C dX4_brings_1 ?_
  refine J_KVV C (c_X4_owns hfl hI _ a9 ha hsm) (cwV 1 C.1.2.2.2.2 gX4_brings_X4_owns rfl rfl rfl (by decide +kernel) ⟨Nat.le_of_ble_eq_true rfl, Nat.le_of_ble_eq_true rfl⟩) rc4 (by decide) rfl rfl (Nat.le_of_ble_eq_true rfl) dX4_brings_2 ⟨Nat.le_of_ble_eq_true rfl, Nat.le_of_ble_eq_true rfl⟩ (fun σ_2 hp => ?_)
  obtain ⟨F1, O1⟩ := hp
  refine J_iconst C dX4_brings_5 ?_
  refine J_istore_3 C (by decide) rfl dX4_brings_6 ?_
  -- to the cut at 7
  refine K_7 6 _ _ ?_ ?_ ?_ ?_ ?_ ?_ ?_
  · decide
  · decide
  · decide
  · intro a b c h
    exact F1 a b c (by omega)
  · exact O1
  · intro q a b
    rw [F1 _ _ _ (by decide), if_neg (by omega), Int.sub_zero]
  · refine ⟨0, rfl, fun q a b => ?_⟩
    rw [F1 _ _ _ (by decide), if_neg (by omega)]
    simp [tks]
set_option maxRecDepth 20000 in
theorem in_X4_works_X4 : ∀ w ∈ wsX40, w ∈ wsX4_works := by decide +kernel
set_option maxRecDepth 20000 in
theorem fl_X4_works_83 : Cond.fieldLink RX4 83 "JointVentureModel" "vouchers" "I" ∈ wsX4_works := by decide +kernel
set_option maxRecDepth 20000 in
theorem fl_X4_works_27 : Cond.fieldLink RX4 27 "JointVentureModel" "sites" "[I" ∈ wsX4_works := by decide +kernel
set_option maxRecDepth 20000 in
theorem fl_X4_works_30 : Cond.fieldLink RX4 30 "JointVentureModel" "amounts" "[I" ∈ wsX4_works := by decide +kernel
set_option maxRecDepth 20000 in
theorem fl_X4_works_33 : Cond.fieldLink RX4 33 "JointVentureModel" "incomes" "[Z" ∈ wsX4_works := by decide +kernel
set_option maxRecDepth 20000 in
theorem fl_X4_works_48 : Cond.fieldLink RX4 48 "JointVentureModel" "earns" "[J" ∈ wsX4_works := by decide +kernel
set_option maxRecDepth 20000 in
theorem fl_X4_works_52 : Cond.fieldLink RX4 52 "JointVentureModel" "backs" "[I" ∈ wsX4_works := by decide +kernel
set_option maxRecDepth 20000 in
theorem fl_X4_works_55 : Cond.fieldLink RX4 55 "JointVentureModel" "charges" "[I" ∈ wsX4_works := by decide +kernel
set_option maxRecDepth 20000 in
theorem fl_X4_works_58 : Cond.fieldLink RX4 58 "JointVentureModel" "credits" "[I" ∈ wsX4_works := by decide +kernel
set_option maxRecDepth 20000 in
theorem fl_X4_works_45 : Cond.fieldLink RX4 45 "JointVentureModel" "in" "[Z" ∈ wsX4_works := by decide +kernel
set_option maxRecDepth 20000 in
theorem fl_X4_works_7 : Cond.fieldLink RX4 7 "JointVentureModel" "shares" "[I" ∈ wsX4_works := by decide +kernel
set_option maxRecDepth 20000 in
theorem fl_X4_works_24 : Cond.fieldLink RX4 24 "JointVentureModel" "outs" "[Z" ∈ wsX4_works := by decide +kernel
set_option maxHeartbeats 4000000 in
set_option maxRecDepth 100000 in
theorem c_X4_works {l : Launch} (hfl : l.stackTraces = false) {cy : Nat → ClassId} {D : va_G} {ad : Ad} (hI : Inj ad) (σ : Sg) (w : Int) (hw : 0 ≤ w ∧ w < 6) (hvm : 0 ≤ σ 22 0 10 ∧ σ 22 0 10 ≤ 60) (hv : ∀ v, 0 ≤ v → v < σ 22 0 10 → I32 (σ 27 0 v) ∧ (1 ≤ σ 28 0 v ∧ σ 28 0 v ≤ 10000000) ∧ (σ 29 0 v = 0 ∨ σ 29 0 v = 1)) (hou : ∀ j, 0 ≤ j → j < 30 → σ 26 0 j = 0 ∨ σ 26 0 j = 1) (hsm : Shk (shm σ)) (h0 : Tin (shm σ) (T0f (elm σ w))) (hpn : 0 ≤ σ 24 0 w ∧ σ 24 0 w ≤ 1000) : KV l yX4_works wsX4_works ({ frames := 3, cells := 0, slots := 0, locals := 79 } : Room) cy D ad σ [.ref (ad 22 0), .int (iI w)] (fun σ' => (∀ (a : Nat) (b c : Int), a < 33 ∨ 41 < a → σ' a b c = σ a b c) ∧ (∀ q, 0 ≤ q → q < 5 → (σ' 33 0 q = 0 ∨ σ' 33 0 q = 1) ∧ (¬ 0 < σ 23 0 q → σ' 33 0 q = 0)) ∧ mT σ' = foldS (shm σ) (σ 24 0 w) (σ 27 0) (vam σ) w (T0f (elm σ w)) (σ 22 0 10).toNat) 0 0 := by
  refine KV.of (lv0 := [some (.ref (ad 22 0)), some (.int (iI w)), none]) hfl hI (by decide) rfl (Nat.le_of_ble_eq_true rfl) rfl ?_
  intro p e s m args below meth c C hr
  have hsq : ∀ q, 0 ≤ q → q < 5 → shm σ q = σ 23 0 q := fun q a b => shm_at a b
  have hsr : ∀ q, 0 ≤ q → q < 5 → 0 ≤ σ 23 0 q ∧ σ 23 0 q ≤ 10000 := fun q a b => by have := hsm.1 q a b; rw [hsq q a b] at this; exact this
  have K_76 : ∀ (n_ : Nat) (i : Int) (σ1 : Sg), (∃ x : Nat, i = (x : Int) ∧ (x : Int) ≤ σ 22 0 10 ∧ mT σ1 = foldS (shm σ) (σ 24 0 w) (σ 27 0) (vam σ) w (T0f (elm σ w)) x) → (σ 22 0 10 - i < n_) → (0 ≤ i ∧ i ≤ σ 22 0 10) → (∀ (a : Nat) (b c : Int), a < 33 ∨ 41 < a → σ1 a b c = σ a b c) → (∀ q, 0 ≤ q → q < 5 → (σ1 33 0 q = 0 ∨ σ1 33 0 q = 1) ∧ (¬ 0 < σ 23 0 q → σ1 33 0 q = 0)) → JW p l e ({ frames := 3, cells := 0, slots := 0, locals := 79 } : Room) s m args below meth c cy D ad (Ar ad s.heap.size) 3 0 0 (MQ below (QcV cy D ad (fun σ' => (∀ (a : Nat) (b c : Int), a < 33 ∨ 41 < a → σ' a b c = σ a b c) ∧ (∀ q, 0 ≤ q → q < 5 → (σ' 33 0 q = 0 ∨ σ' 33 0 q = 1) ∧ (¬ 0 < σ 23 0 q → σ' 33 0 q = 0)) ∧ mT σ' = foldS (shm σ) (σ 24 0 w) (σ 27 0) (vam σ) w (T0f (elm σ w)) (σ 22 0 10).toNat) s.heap.size) args s 0 0 (Ar ad s.heap.size)) σ1 76 [some (.ref (ad 22 0)), some (.int (iI w)), some (.int (iI i))] [] := by
    intro n_
    induction n_ with
    | zero => intro i σ1 g0 g1 g2 g3 g4; omega
    | succ n_ ih_76 =>
      intro i σ1 g0 g1 g2 g3 g4
      obtain ⟨x, rfl, hj, hA⟩ := g0
      have hcnt : σ1 22 0 10 = σ 22 0 10 := g3 22 0 10 (by omega)
      have hF3 : σ1 27 0 x = σ 27 0 x := g3 27 0 x (by omega)
      have hF4 : σ1 28 0 x = σ 28 0 x := g3 28 0 x (by omega)
      have hF5 : σ1 29 0 x = σ 29 0 x := g3 29 0 x (by omega)
      have hF12 : σ1 24 0 w = σ 24 0 w := g3 24 0 w (by omega)
      have hFs : shm σ1 = shm σ := shm_congr (fun q a b => g3 23 0 q (by omega))
      have hok := foldS_ok (w := w) (vw := σ 27 0) (va := vam σ) hsm hpn h0 x (fun v a b => by have := hv v a (by omega); unfold vam; split <;> omega)
      have hvx : (x : Int) < σ 22 0 10 → I32 (σ 27 0 x) ∧ (1 ≤ σ 28 0 x ∧ σ 28 0 x ≤ 10000000) ∧ (σ 29 0 x = 0 ∨ σ 29 0 x = 1) := fun h => hv x (by omega) h
      refine J_iload_2 C dX4_works_76 ?_
      refine J_aload_0 C dX4_works_77 ?_
      refine J_get_4_10 C in_X4_works_X4 fl_X4_works_83 (by decide) dX4_works_78 ?_
      rw [hcnt]
      refine J_icmp_ge (tgt := 144) C (by omega) (by omega) dX4_works_81 (by decide) (fun c_81 => ?_) (fun c_81 => ?_)
      · refine J_retV C hr (by decide) (by decide) dX4_works_144 ?_
        have e : (σ 22 0 10).toNat = x := by omega
        rw [e]
        exact ⟨g3, g4, hA⟩
      · refine J_aload_0 C dX4_works_84 ?_
        refine J_get_4_7 C in_X4_works_X4 fl_X4_works_27 (by decide) dX4_works_85 ?_
        refine J_iload_2 C dX4_works_88 ?_
        refine J_iaload C k27 (by decide) (by omega) dX4_works_89 ?_
        rw [hF3]
        refine J_iload_1 C dX4_works_90 ?_
        refine J_icmp_ne (tgt := 117) C (by have := hvx (by omega); omega) (by omega) dX4_works_91 (by decide) (fun c_91 => ?_) (fun c_91 => ?_)
        · refine J_aload_0 C dX4_works_117 ?_
          refine J_get_4_7 C in_X4_works_X4 fl_X4_works_27 (by decide) dX4_works_118 ?_
          refine J_iload_2 C dX4_works_121 ?_
          refine J_iaload C k27 (by decide) (by omega) dX4_works_122 ?_
          rw [hF3]
          refine J_iload_1 C dX4_works_123 ?_
          refine J_icmp_ne (tgt := 138) C (by have := hvx (by omega); omega) (by omega) dX4_works_124 (by decide) (fun c_124 => ?_) (fun c_124 => ?_)
          · refine J_iinc2 C (by decide) rfl dX4_works_138 ?_
            refine J_goto (tgt := 76) C dX4_works_141 (by decide) ?_
            -- to the cut at 76
            refine ih_76 _ _ ?_ ?_ ?_ ?_ ?_
            · refine ⟨x + 1, by omega, by omega, ?_⟩
              simp only [foldS]
              first
                | (rw [if_pos (by omega)]
                   unfold stepS vam
                   rw [if_pos (show σ 29 0 x = 0 by omega), if_pos (by omega), E9, hFs, hF12, hF4, hA]; rfl)
                | (rw [if_pos (by omega)]
                   unfold stepS vam
                   rw [if_neg (show ¬ σ 29 0 x = 0 by omega), if_neg (by omega), Int.neg_neg, E8, hFs, hF4, hA]; rfl)
                | (rw [if_neg (by omega)]; exact hA)
            · omega
            · omega
            · (first | exact g3 | (intro a b c h; rw [F9 a b c (by omega)]; exact g3 a b c h) | (intro a b c h; rw [F8 a b c (by omega)]; exact g3 a b c h))
            · (first | exact g4 | (intro q a b; rw [F9 33 0 q (by omega)]; exact g4 q a b) | (intro q a b; have i8 := I8 q a b; have i4 := g4 q a b; have e23 : σ1 23 0 q = σ 23 0 q := g3 23 0 q (by omega); rw [e23] at i8; exact ⟨i8.1, fun z => (i8.2 z).trans (i4.2 z)⟩))
          · refine J_aload_0 C dX4_works_127 ?_
            refine J_iload_1 C dX4_works_128 ?_
            refine J_aload_0 C dX4_works_129 ?_
            refine J_get_4_8 C in_X4_works_X4 fl_X4_works_30 (by decide) dX4_works_130 ?_
            refine J_iload_2 C dX4_works_133 ?_
            refine J_iaload C k28 (by decide) (by omega) dX4_works_134 ?_
            refine J_KVV C (c_X4_costs hfl hI _ w _ hw (by rw [hF4]; have := hvx (by omega); omega) (by rw [hFs]; exact hsm) (fun q a b => (g4 q a b).1) (by rw [hFs, hA]; exact hok.1) (by rw [hF12]; exact hpn)) (cwV 2 C.1.2.2.2.2 gX4_works_X4_costs rfl rfl rfl (by decide +kernel) ⟨Nat.le_of_ble_eq_true rfl, Nat.le_of_ble_eq_true rfl⟩) rc4 (by decide) rfl rfl (Nat.le_of_ble_eq_true rfl) dX4_works_135 ⟨Nat.le_of_ble_eq_true rfl, Nat.le_of_ble_eq_true rfl⟩ (fun σ_135 hp => ?_)
            obtain ⟨F9, E9⟩ := hp
            refine J_iinc2 C (by decide) rfl dX4_works_138 ?_
            refine J_goto (tgt := 76) C dX4_works_141 (by decide) ?_
            -- to the cut at 76
            refine ih_76 _ _ ?_ ?_ ?_ ?_ ?_
            · refine ⟨x + 1, by omega, by omega, ?_⟩
              simp only [foldS]
              first
                | (rw [if_pos (by omega)]
                   unfold stepS vam
                   rw [if_pos (show σ 29 0 x = 0 by omega), if_pos (by omega), E9, hFs, hF12, hF4, hA]; rfl)
                | (rw [if_pos (by omega)]
                   unfold stepS vam
                   rw [if_neg (show ¬ σ 29 0 x = 0 by omega), if_neg (by omega), Int.neg_neg, E8, hFs, hF4, hA]; rfl)
                | (rw [if_neg (by omega)]; exact hA)
            · omega
            · omega
            · (first | exact g3 | (intro a b c h; rw [F9 a b c (by omega)]; exact g3 a b c h) | (intro a b c h; rw [F8 a b c (by omega)]; exact g3 a b c h))
            · (first | exact g4 | (intro q a b; rw [F9 33 0 q (by omega)]; exact g4 q a b) | (intro q a b; have i8 := I8 q a b; have i4 := g4 q a b; have e23 : σ1 23 0 q = σ 23 0 q := g3 23 0 q (by omega); rw [e23] at i8; exact ⟨i8.1, fun z => (i8.2 z).trans (i4.2 z)⟩))
        · refine J_aload_0 C dX4_works_94 ?_
          refine J_get_4_9 C in_X4_works_X4 fl_X4_works_33 (by decide) dX4_works_95 ?_
          refine J_iload_2 C dX4_works_98 ?_
          refine J_baload C k29 (by decide) (by omega) dX4_works_99 ?_
          rw [hF5]
          refine J_if_eq (tgt := 117) C (by have := hvx (by omega); omega) dX4_works_100 (by decide) (fun c_100 => ?_) (fun c_100 => ?_)
          · refine J_aload_0 C dX4_works_117 ?_
            refine J_get_4_7 C in_X4_works_X4 fl_X4_works_27 (by decide) dX4_works_118 ?_
            refine J_iload_2 C dX4_works_121 ?_
            refine J_iaload C k27 (by decide) (by omega) dX4_works_122 ?_
            rw [hF3]
            refine J_iload_1 C dX4_works_123 ?_
            refine J_icmp_ne (tgt := 138) C (by have := hvx (by omega); omega) (by omega) dX4_works_124 (by decide) (fun c_124 => ?_) (fun c_124 => ?_)
            · refine J_iinc2 C (by decide) rfl dX4_works_138 ?_
              refine J_goto (tgt := 76) C dX4_works_141 (by decide) ?_
              -- to the cut at 76
              refine ih_76 _ _ ?_ ?_ ?_ ?_ ?_
              · refine ⟨x + 1, by omega, by omega, ?_⟩
                simp only [foldS]
                first
                  | (rw [if_pos (by omega)]
                     unfold stepS vam
                     rw [if_pos (show σ 29 0 x = 0 by omega), if_pos (by omega), E9, hFs, hF12, hF4, hA]; rfl)
                  | (rw [if_pos (by omega)]
                     unfold stepS vam
                     rw [if_neg (show ¬ σ 29 0 x = 0 by omega), if_neg (by omega), Int.neg_neg, E8, hFs, hF4, hA]; rfl)
                  | (rw [if_neg (by omega)]; exact hA)
              · omega
              · omega
              · (first | exact g3 | (intro a b c h; rw [F9 a b c (by omega)]; exact g3 a b c h) | (intro a b c h; rw [F8 a b c (by omega)]; exact g3 a b c h))
              · (first | exact g4 | (intro q a b; rw [F9 33 0 q (by omega)]; exact g4 q a b) | (intro q a b; have i8 := I8 q a b; have i4 := g4 q a b; have e23 : σ1 23 0 q = σ 23 0 q := g3 23 0 q (by omega); rw [e23] at i8; exact ⟨i8.1, fun z => (i8.2 z).trans (i4.2 z)⟩))
            · refine J_aload_0 C dX4_works_127 ?_
              refine J_iload_1 C dX4_works_128 ?_
              refine J_aload_0 C dX4_works_129 ?_
              refine J_get_4_8 C in_X4_works_X4 fl_X4_works_30 (by decide) dX4_works_130 ?_
              refine J_iload_2 C dX4_works_133 ?_
              refine J_iaload C k28 (by decide) (by omega) dX4_works_134 ?_
              refine J_KVV C (c_X4_costs hfl hI _ w _ hw (by rw [hF4]; have := hvx (by omega); omega) (by rw [hFs]; exact hsm) (fun q a b => (g4 q a b).1) (by rw [hFs, hA]; exact hok.1) (by rw [hF12]; exact hpn)) (cwV 2 C.1.2.2.2.2 gX4_works_X4_costs rfl rfl rfl (by decide +kernel) ⟨Nat.le_of_ble_eq_true rfl, Nat.le_of_ble_eq_true rfl⟩) rc4 (by decide) rfl rfl (Nat.le_of_ble_eq_true rfl) dX4_works_135 ⟨Nat.le_of_ble_eq_true rfl, Nat.le_of_ble_eq_true rfl⟩ (fun σ_135 hp => ?_)
              obtain ⟨F9, E9⟩ := hp
              refine J_iinc2 C (by decide) rfl dX4_works_138 ?_
              refine J_goto (tgt := 76) C dX4_works_141 (by decide) ?_
              -- to the cut at 76
              refine ih_76 _ _ ?_ ?_ ?_ ?_ ?_
              · refine ⟨x + 1, by omega, by omega, ?_⟩
                simp only [foldS]
                first
                  | (rw [if_pos (by omega)]
                     unfold stepS vam
                     rw [if_pos (show σ 29 0 x = 0 by omega), if_pos (by omega), E9, hFs, hF12, hF4, hA]; rfl)
                  | (rw [if_pos (by omega)]
                     unfold stepS vam
                     rw [if_neg (show ¬ σ 29 0 x = 0 by omega), if_neg (by omega), Int.neg_neg, E8, hFs, hF4, hA]; rfl)
                  | (rw [if_neg (by omega)]; exact hA)
              · omega
              · omega
              · (first | exact g3 | (intro a b c h; rw [F9 a b c (by omega)]; exact g3 a b c h) | (intro a b c h; rw [F8 a b c (by omega)]; exact g3 a b c h))
              · (first | exact g4 | (intro q a b; rw [F9 33 0 q (by omega)]; exact g4 q a b) | (intro q a b; have i8 := I8 q a b; have i4 := g4 q a b; have e23 : σ1 23 0 q = σ 23 0 q := g3 23 0 q (by omega); rw [e23] at i8; exact ⟨i8.1, fun z => (i8.2 z).trans (i4.2 z)⟩))
          · refine J_aload_0 C dX4_works_103 ?_
            refine J_aload_0 C dX4_works_104 ?_
            refine J_get_4_8 C in_X4_works_X4 fl_X4_works_30 (by decide) dX4_works_105 ?_
            refine J_iload_2 C dX4_works_108 ?_
            refine J_iaload C k28 (by decide) (by omega) dX4_works_109 ?_
            refine J_iload_2 C dX4_works_110 ?_
            refine J_KVV C (c_X4_brings hfl hI _ _ (x : Int) (by rw [hF4]; have := hvx (by omega); omega) (by rw [hFs]; exact hsm) (fun q a b => (g4 q a b).1) (by rw [hFs, hA]; exact hok.1) (fun q a b => by have := hok.2 q a b; rw [← hA, mT_c (by decide) (by decide) a b] at this; have e : σ1 (15 + 19) 0 q = σ1 34 0 q := rfl; omega)) (cwV 2 C.1.2.2.2.2 gX4_works_X4_brings rfl rfl rfl (by decide +kernel) ⟨Nat.le_of_ble_eq_true rfl, Nat.le_of_ble_eq_true rfl⟩) rc4 (by decide) rfl rfl (Nat.le_of_ble_eq_true rfl) dX4_works_111 ⟨Nat.le_of_ble_eq_true rfl, Nat.le_of_ble_eq_true rfl⟩ (fun σ_111 hp => ?_)
            obtain ⟨F8, I8, E8⟩ := hp
            refine J_goto (tgt := 138) C dX4_works_114 (by decide) ?_
            refine J_iinc2 C (by decide) rfl dX4_works_138 ?_
            refine J_goto (tgt := 76) C dX4_works_141 (by decide) ?_
            -- to the cut at 76
            refine ih_76 _ _ ?_ ?_ ?_ ?_ ?_
            · refine ⟨x + 1, by omega, by omega, ?_⟩
              simp only [foldS]
              first
                | (rw [if_pos (by omega)]
                   unfold stepS vam
                   rw [if_pos (show σ 29 0 x = 0 by omega), if_pos (by omega), E9, hFs, hF12, hF4, hA]; rfl)
                | (rw [if_pos (by omega)]
                   unfold stepS vam
                   rw [if_neg (show ¬ σ 29 0 x = 0 by omega), if_neg (by omega), Int.neg_neg, E8, hFs, hF4, hA]; rfl)
                | (rw [if_neg (by omega)]; exact hA)
            · omega
            · omega
            · (first | exact g3 | (intro a b c h; rw [F9 a b c (by omega)]; exact g3 a b c h) | (intro a b c h; rw [F8 a b c (by omega)]; exact g3 a b c h))
            · (first | exact g4 | (intro q a b; rw [F9 33 0 q (by omega)]; exact g4 q a b) | (intro q a b; have i8 := I8 q a b; have i4 := g4 q a b; have e23 : σ1 23 0 q = σ 23 0 q := g3 23 0 q (by omega); rw [e23] at i8; exact ⟨i8.1, fun z => (i8.2 z).trans (i4.2 z)⟩))
  have K_2 : ∀ (n_ : Nat) (i : Int) (σ1 : Sg), (0 ≤ i) → (i ≤ 5) → (5 - i < n_) → (∀ (a : Nat) (b c : Int), a < 33 ∨ 37 < a → σ1 a b c = σ a b c) → (∀ q, 0 ≤ q → q < i → σ1 33 0 q = if 0 < σ 23 0 q ∧ σ 26 0 (5 * w + q) = 0 then 1 else 0) → (∀ q, 0 ≤ q → q < i → σ1 34 0 q = 0 ∧ σ1 35 0 q = -1 ∧ σ1 36 0 q = 0 ∧ σ1 37 0 q = 0) → JW p l e ({ frames := 3, cells := 0, slots := 0, locals := 79 } : Room) s m args below meth c cy D ad (Ar ad s.heap.size) 3 0 0 (MQ below (QcV cy D ad (fun σ' => (∀ (a : Nat) (b c : Int), a < 33 ∨ 41 < a → σ' a b c = σ a b c) ∧ (∀ q, 0 ≤ q → q < 5 → (σ' 33 0 q = 0 ∨ σ' 33 0 q = 1) ∧ (¬ 0 < σ 23 0 q → σ' 33 0 q = 0)) ∧ mT σ' = foldS (shm σ) (σ 24 0 w) (σ 27 0) (vam σ) w (T0f (elm σ w)) (σ 22 0 10).toNat) s.heap.size) args s 0 0 (Ar ad s.heap.size)) σ1 2 [some (.ref (ad 22 0)), some (.int (iI w)), some (.int (iI i))] [] := by
    intro n_
    induction n_ with
    | zero => intro i σ1 g0 g1 g2 g3 g4 g5; omega
    | succ n_ ih_2 =>
      intro i σ1 g0 g1 g2 g3 g4 g5
      have h23 : σ1 23 0 i = σ 23 0 i := g3 23 0 i (by omega)
      have h26 : σ1 26 0 (5 * w + i) = σ 26 0 (5 * w + i) := g3 26 0 _ (by omega)
      have K_39 : ∀ (o : Int), (o = if 0 < σ 23 0 i ∧ σ 26 0 (5 * w + i) = 0 then 1 else 0) → (i < 5) → JW p l e ({ frames := 3, cells := 0, slots := 0, locals := 79 } : Room) s m args below meth c cy D ad (Ar ad s.heap.size) 3 0 0 (MQ below (QcV cy D ad (fun σ' => (∀ (a : Nat) (b c : Int), a < 33 ∨ 41 < a → σ' a b c = σ a b c) ∧ (∀ q, 0 ≤ q → q < 5 → (σ' 33 0 q = 0 ∨ σ' 33 0 q = 1) ∧ (¬ 0 < σ 23 0 q → σ' 33 0 q = 0)) ∧ mT σ' = foldS (shm σ) (σ 24 0 w) (σ 27 0) (vam σ) w (T0f (elm σ w)) (σ 22 0 10).toNat) s.heap.size) args s 0 0 (Ar ad s.heap.size)) σ1 39 [some (.ref (ad 22 0)), some (.int (iI w)), some (.int (iI i))] [.int (iI o), .int (iI i), .ref (ad 33 0)] := by
        intro o u0 u1
        refine J_bastore C k33 (by decide) (by omega) (by rw [u0]; split <;> omega) dX4_works_39 ?_
        refine J_aload_0 C dX4_works_40 ?_
        refine J_get_4_16 C in_X4_works_X4 fl_X4_works_48 (by decide) dX4_works_41 ?_
        refine J_iload_2 C dX4_works_44 ?_
        refine J_lconst (z := 0) C (by decide) dX4_works_45 ?_
        refine J_lastore C k34 (by decide) (by omega) dX4_works_46 ?_
        refine J_aload_0 C dX4_works_47 ?_
        refine J_get_4_17 C in_X4_works_X4 fl_X4_works_52 (by decide) dX4_works_48 ?_
        refine J_iload_2 C dX4_works_51 ?_
        refine J_iconst C dX4_works_52 ?_
        refine J_iastore C k35 (by decide) (by omega) dX4_works_53 ?_
        refine J_aload_0 C dX4_works_54 ?_
        refine J_get_4_18 C in_X4_works_X4 fl_X4_works_55 (by decide) dX4_works_55 ?_
        refine J_iload_2 C dX4_works_58 ?_
        refine J_iconst C dX4_works_59 ?_
        refine J_iastore C k36 (by decide) (by omega) dX4_works_60 ?_
        refine J_aload_0 C dX4_works_61 ?_
        refine J_get_4_19 C in_X4_works_X4 fl_X4_works_58 (by decide) dX4_works_62 ?_
        refine J_iload_2 C dX4_works_65 ?_
        refine J_iconst C dX4_works_66 ?_
        refine J_iastore C k37 (by decide) (by omega) dX4_works_67 ?_
        refine J_iinc2 C (by decide) rfl dX4_works_68 ?_
        refine J_goto (tgt := 2) C dX4_works_71 (by decide) ?_
        -- to the cut at 2
        refine ih_2 _ _ ?_ ?_ ?_ ?_ ?_ ?_
        · omega
        · omega
        · omega
        · intro a b c h
          rw [su_nk (by omega), su_nk (by omega), su_nk (by omega), su_nk (by omega), su_nk (by omega)]
          exact g3 a b c h
        · intro q a b
          have hv := g4 q a
          clear g3 g4 g5
          simp only [su]
          grind
        · intro q a b
          have hv := g5 q a
          clear g3 g4 g5
          simp only [su]
          grind
      refine J_iload_2 C dX4_works_2 ?_
      refine J_iconst C dX4_works_3 ?_
      refine J_icmp_ge (tgt := 74) C (by omega) (by omega) dX4_works_4 (by decide) (fun c_4 => ?_) (fun c_4 => ?_)
      · have e5 : i = 5 := by omega
        subst e5
        have A0 : mT σ1 = T0f (elm σ w) := mT_ext (T0f_z _) (fun q a b => by
          rw [g3 23 0 q (by omega), g4 q a b]
          simp only [T0f, elm]
          clear g3 g4 g5
          grind) (fun c q a b d f => by
          have hv5 := g5 q d f
          rcases (show c = 15 ∨ c = 16 ∨ c = 17 ∨ c = 18 by omega) with rfl | rfl | rfl | rfl
          · show σ1 34 0 q = _
            rw [hv5.1]; simp [T0f]
          · show σ1 35 0 q = _
            rw [hv5.2.1]; simp [T0f, d, f]
          · show σ1 36 0 q = _
            rw [hv5.2.2.1]; simp [T0f]
          · show σ1 37 0 q = _
            rw [hv5.2.2.2]; simp [T0f])
        refine J_iconst C dX4_works_74 ?_
        refine J_istore_2 C (by decide) rfl dX4_works_75 ?_
        -- to the cut at 76
        refine K_76 61 _ _ ?_ ?_ ?_ ?_ ?_
        · exact ⟨0, rfl, by omega, A0⟩
        · omega
        · omega
        · exact fun a b c h => g3 a b c (by omega)
        · intro q a b
          rw [g4 q a (by omega)]
          split <;> omega
      · refine J_aload_0 C dX4_works_7 ?_
        refine J_get_4_15 C in_X4_works_X4 fl_X4_works_45 (by decide) dX4_works_8 ?_
        refine J_iload_2 C dX4_works_11 ?_
        refine J_aload_0 C dX4_works_12 ?_
        refine J_get_4_0 C in_X4_works_X4 fl_X4_works_7 (by decide) dX4_works_13 ?_
        refine J_iload_2 C dX4_works_16 ?_
        refine J_iaload C k23 (by decide) (by omega) dX4_works_17 ?_
        refine J_if_le (tgt := 38) C (by rw [h23]; have := hsr i (by omega) (by omega); omega) dX4_works_18 (by decide) (fun c_18 => ?_) (fun c_18 => ?_)
        · refine J_iconst C dX4_works_38 ?_
          -- to the cut at 39
          refine K_39 _ ?_ ?_
          · split <;> omega
          · omega
        · refine J_aload_0 C dX4_works_21 ?_
          refine J_get_4_5 C in_X4_works_X4 fl_X4_works_24 (by decide) dX4_works_22 ?_
          refine J_iconst C dX4_works_25 ?_
          refine J_iload_1 C dX4_works_26 ?_
          refine J_imul C dX4_works_27 ?_
          refine J_iload_2 C dX4_works_28 ?_
          refine J_iadd C dX4_works_29 ?_
          refine J_baload C k26 (by decide) (by omega) dX4_works_30 ?_
          refine J_if_ne (tgt := 38) C (by rw [h26]; have := hou (5 * w + i) (by omega) (by omega); omega) dX4_works_31 (by decide) (fun c_31 => ?_) (fun c_31 => ?_)
          · refine J_iconst C dX4_works_38 ?_
            -- to the cut at 39
            refine K_39 _ ?_ ?_
            · split <;> omega
            · omega
          · refine J_iconst C dX4_works_34 ?_
            refine J_goto (tgt := 39) C dX4_works_35 (by decide) ?_
            -- to the cut at 39
            refine K_39 _ ?_ ?_
            · split <;> omega
            · omega
  refine J_iconst C dX4_works_0 ?_
  refine J_istore_2 C (by decide) rfl dX4_works_1 ?_
  -- to the cut at 2
  refine K_2 6 _ _ ?_ ?_ ?_ ?_ ?_ ?_
  · decide
  · decide
  · decide
  · intro a b c _; rfl
  · intro q a b; omega
  · intro q a b; omega
