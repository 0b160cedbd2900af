set_option maxRecDepth 20000 in
theorem in_X3_shareIfIn_X2 : ∀ w ∈ wsX20, w ∈ wsX3_shareIfIn := by decide +kernel
set_option maxRecDepth 20000 in
theorem fl_X3_shareIfIn_115 : Cond.fieldLink RX3 115 "JointVenture$Well" "out" "[Z" ∈ wsX3_shareIfIn := by decide +kernel
set_option maxRecDepth 20000 in
theorem in_X3_shareIfIn_X3 : ∀ w ∈ wsX30, w ∈ wsX3_shareIfIn := by decide +kernel
set_option maxRecDepth 20000 in
theorem fl_X3_shareIfIn_9 : Cond.fieldLink RX3 9 "JointVenture" "shares" "[I" ∈ wsX3_shareIfIn := by decide +kernel
set_option maxHeartbeats 4000000 in
set_option maxRecDepth 100000 in
theorem c_X3_shareIfIn {l : Launch} (hfl : l.stackTraces = false) {cy : Nat → ClassId} {D : va_G} {ad : Ad} (hI : Inj ad) (σ : Sg) (w q : Int) (hw : 0 ≤ w ∧ w < 6) (hq : 0 ≤ q ∧ q < 5) (hf : σ 14 w q = 0 ∨ σ 14 w q = 1) : KI l yX3_shareIfIn wsX3_shareIfIn ({ frames := 0, cells := 0, slots := 0, locals := 0 } : Room) cy D ad σ [.ref (ad 0 0), .ref (ad 12 w), .int (iI q)] (fun z σ' => z = (if σ 14 w q = 0 then σ 1 0 q else 0) ∧ σ' = σ) 0 0 := by
  refine KI.of (lv0 := [some (.ref (ad 0 0)), some (.ref (ad 12 w)), some (.int (iI q))]) hfl hI (by decide) rfl (Nat.le_of_ble_eq_true rfl) rfl ?_
  intro p e s m args below meth c C hr
  refine J_aload_1 C dX3_shareIfIn_0 ?_
  refine J_get_2_3 C in_X3_shareIfIn_X2 fl_X3_shareIfIn_115 hw dX3_shareIfIn_1 ?_
  refine J_iload_2 C dX3_shareIfIn_4 ?_
  refine J_baload C k14 hw (by omega) dX3_shareIfIn_5 ?_
  refine J_if_eq (tgt := 13) C (by omega) dX3_shareIfIn_6 (by decide) (fun c_6 => ?_) (fun c_6 => ?_)
  · refine J_aload_0 C dX3_shareIfIn_13 ?_
    refine J_get_3_0 C in_X3_shareIfIn_X3 fl_X3_shareIfIn_9 (by decide) dX3_shareIfIn_14 ?_
    refine J_iload_2 C dX3_shareIfIn_17 ?_
    refine J_iaload C k1 (by decide) (by omega) dX3_shareIfIn_18 ?_
    refine J_retI C hr (by decide) (by decide) dX3_shareIfIn_19 ?_
    first | exact ⟨(if_pos (by assumption)).symm, rfl⟩ | exact ⟨(if_neg (by assumption)).symm, rfl⟩
  · refine J_iconst C dX3_shareIfIn_9 ?_
    refine J_goto (tgt := 19) C dX3_shareIfIn_10 (by decide) ?_
    refine J_retI C hr (by decide) (by decide) dX3_shareIfIn_19 ?_
    first | exact ⟨(if_pos (by assumption)).symm, rfl⟩ | exact ⟨(if_neg (by assumption)).symm, rfl⟩
set_option maxRecDepth 20000 in
theorem in_X3_weighThoseIn_X3 : ∀ w ∈ wsX30, w ∈ wsX3_weighThoseIn := by decide +kernel
set_option maxRecDepth 20000 in
theorem fl_X3_weighThoseIn_60 : Cond.fieldLink RX3 60 "JointVenture" "weights" "[I" ∈ wsX3_weighThoseIn := by decide +kernel
set_option maxHeartbeats 4000000 in
set_option maxRecDepth 100000 in
theorem c_X3_weighThoseIn {l : Launch} (hfl : l.stackTraces = false) {cy : Nat → ClassId} {D : va_G} {ad : Ad} (hI : Inj ad) (σ : Sg) (w : Int) (hw : 0 ≤ w ∧ w < 6) (hf : ∀ q, 0 ≤ q → q < 5 → σ 14 w q = 0 ∨ σ 14 w q = 1) : KV l yX3_weighThoseIn wsX3_weighThoseIn ({ frames := 1, cells := 0, slots := 0, locals := 22 } : Room) cy D ad σ [.ref (ad 0 0), .ref (ad 12 w)] (fun σ' => σ' = sf σ 10 0 5 (fun q => if σ 14 w q = 0 then σ 1 0 q else 0)) 0 0 := by
  refine KV.of (lv0 := [some (.ref (ad 0 0)), some (.ref (ad 12 w)), none]) hfl hI (by decide) rfl (Nat.le_of_ble_eq_true rfl) rfl ?_
  intro p e s m args below meth c C hr
  have K_2 : ∀ (n_ : Nat) (i : Int) (σ1 : Sg), (0 ≤ i) → (i ≤ 5) → (5 - i < n_) → (σ1 = sf σ 10 0 i (fun q => if σ 14 w q = 0 then σ 1 0 q else 0)) → JW p l e ({ frames := 1, cells := 0, slots := 0, locals := 22 } : Room) s m args below meth c cy D ad (Ar ad s.heap.size) 3 0 0 (MQ below (QcV cy D ad (fun σ' => σ' = sf σ 10 0 5 (fun q => if σ 14 w q = 0 then σ 1 0 q else 0)) s.heap.size) args s 0 0 (Ar ad s.heap.size)) σ1 2 [some (.ref (ad 0 0)), some (.ref (ad 12 w)), some (.int (iI i))] [] := by
    intro n_
    induction n_ with
    | zero => intro i σ1 g0 g1 g2 g3; omega
    | succ n_ ih_2 =>
      intro i σ1 g0 g1 g2 g3
      have h14 : ∀ x, σ1 14 w x = σ 14 w x := fun x => by rw [g3, sf_nk (by decide)]
      have h1 : ∀ x, σ1 1 0 x = σ 1 0 x := fun x => by rw [g3, sf_nk (by decide)]
      refine J_iload_2 C dX3_weighThoseIn_2 ?_
      refine J_iconst C dX3_weighThoseIn_3 ?_
      refine J_icmp_ge (tgt := 25) C (by omega) (by omega) dX3_weighThoseIn_4 (by decide) (fun c_4 => ?_) (fun c_4 => ?_)
      · refine J_retV C hr (by decide) (by decide) dX3_weighThoseIn_25 ?_
        have e : i = 5 := by omega
        rw [g3, e]
      · refine J_aload_0 C dX3_weighThoseIn_7 ?_
        refine J_get_3_13 C in_X3_weighThoseIn_X3 fl_X3_weighThoseIn_60 (by decide) dX3_weighThoseIn_8 ?_
        refine J_iload_2 C dX3_weighThoseIn_11 ?_
        refine J_aload_0 C dX3_weighThoseIn_12 ?_
        refine J_aload_1 C dX3_weighThoseIn_13 ?_
        refine J_iload_2 C dX3_weighThoseIn_14 ?_
        refine J_KVI C (c_X3_shareIfIn hfl hI _ w i hw (by omega) (by rw [h14]; exact hf i (by omega) (by omega))) (cwV 2 C.1.2.2.2.2 gX3_weighThoseIn_X3_shareIfIn rfl rfl rfl (by decide +kernel) ⟨Nat.le_of_ble_eq_true rfl, Nat.le_of_ble_eq_true rfl⟩) rc3 (by decide) rfl rfl (Nat.le_of_ble_eq_true rfl) dX3_weighThoseIn_15 ⟨Nat.le_of_ble_eq_true rfl, Nat.le_of_ble_eq_true rfl⟩ (fun z_15 σ_15 hp => ?_)
        obtain ⟨hz_, hs_⟩ := hp
        have hz_ := hz_.symm
        have hs_ := hs_.symm
        subst hz_
        subst hs_
        refine J_iastore C k10 (by decide) (by omega) dX3_weighThoseIn_18 ?_
        refine J_iinc2 C (by decide) rfl dX3_weighThoseIn_19 ?_
        refine J_goto (tgt := 2) C dX3_weighThoseIn_22 (by decide) ?_
        -- to the cut at 2
        refine ih_2 _ _ ?_ ?_ ?_ ?_
        · omega
        · omega
        · omega
        · rw [h14, h1, g3]
          exact sf_su g0 rfl
  refine J_iconst C dX3_weighThoseIn_0 ?_
  refine J_istore_2 C (by decide) rfl dX3_weighThoseIn_1 ?_
  -- to the cut at 2
  refine K_2 6 _ _ ?_ ?_ ?_ ?_
  · decide
  · decide
  · decide
  · exact (sf_0 ..).symm
set_option maxRecDepth 20000 in
theorem in_X3_ownPartsOfThoseOut_X2 : ∀ w ∈ wsX20, w ∈ wsX3_ownPartsOfThoseOut := by decide +kernel
set_option maxRecDepth 20000 in
theorem fl_X3_ownPartsOfThoseOut_115 : Cond.fieldLink RX3 115 "JointVenture$Well" "out" "[Z" ∈ wsX3_ownPartsOfThoseOut := by decide +kernel
set_option maxRecDepth 20000 in
theorem in_X3_ownPartsOfThoseOut_X3 : ∀ w ∈ wsX30, w ∈ wsX3_ownPartsOfThoseOut := by decide +kernel
set_option maxRecDepth 20000 in
theorem fl_X3_ownPartsOfThoseOut_57 : Cond.fieldLink RX3 57 "JointVenture" "ownParts" "[I" ∈ wsX3_ownPartsOfThoseOut := by decide +kernel
set_option maxHeartbeats 4000000 in
set_option maxRecDepth 100000 in
theorem c_X3_ownPartsOfThoseOut {l : Launch} (hfl : l.stackTraces = false) {cy : Nat → ClassId} {D : va_G} {ad : Ad} (hI : Inj ad) (σ : Sg) (w : Int) (hw : 0 ≤ w ∧ w < 6) (hf : ∀ q, 0 ≤ q → q < 5 → σ 14 w q = 0 ∨ σ 14 w q = 1) : KI l yX3_ownPartsOfThoseOut wsX3_ownPartsOfThoseOut ({ frames := 0, cells := 0, slots := 0, locals := 0 } : Room) cy D ad σ [.ref (ad 0 0), .ref (ad 12 w)] (fun z σ' => z = s5 (fun q => if σ 14 w q = 0 then 0 else σ 9 0 q) ∧ σ' = σ) 0 0 := by
  refine KI.of (lv0 := [some (.ref (ad 0 0)), some (.ref (ad 12 w)), none, none]) hfl hI (by decide) rfl (Nat.le_of_ble_eq_true rfl) rfl ?_
  intro p e s m args below meth c C hr
  have K_4 : ∀ (n_ : Nat) (t : Int) (i : Int), (0 ≤ i) → (i ≤ 5) → (5 - i < n_) → (∃ j : Nat, i = (j : Int) ∧ t = sN (fun q => if σ 14 w q = 0 then 0 else σ 9 0 q) j) → JW p l e ({ frames := 0, cells := 0, slots := 0, locals := 0 } : Room) s m args below meth c cy D ad (Ar ad s.heap.size) 4 0 0 (MQ below (QcI cy D ad (fun z σ' => z = s5 (fun q => if σ 14 w q = 0 then 0 else σ 9 0 q) ∧ σ' = σ) s.heap.size) args s 0 0 (Ar ad s.heap.size)) σ 4 [some (.ref (ad 0 0)), some (.ref (ad 12 w)), some (.int (iI t)), some (.int (iI i))] [] := by
    intro n_
    induction n_ with
    | zero => intro t i g0 g1 g2 g3; omega
    | succ n_ ih_4 =>
      intro t i g0 g1 g2 g3
      obtain ⟨j, rfl, rfl⟩ := g3
      refine J_iload_3 C dX3_ownPartsOfThoseOut_4 ?_
      refine J_iconst C dX3_ownPartsOfThoseOut_5 ?_
      refine J_icmp_ge (tgt := 33) C (by omega) (by omega) dX3_ownPartsOfThoseOut_6 (by decide) (fun c_6 => ?_) (fun c_6 => ?_)
      · refine J_iload_2 C dX3_ownPartsOfThoseOut_33 ?_
        refine J_retI C hr (by decide) (by decide) dX3_ownPartsOfThoseOut_34 ?_
        have e : j = 5 := by omega
        subst e
        exact ⟨by rw [s5_sN], rfl⟩
      · refine J_aload_1 C dX3_ownPartsOfThoseOut_9 ?_
        refine J_get_2_3 C in_X3_ownPartsOfThoseOut_X2 fl_X3_ownPartsOfThoseOut_115 hw dX3_ownPartsOfThoseOut_10 ?_
        refine J_iload_3 C dX3_ownPartsOfThoseOut_13 ?_
        refine J_baload C k14 hw (by omega) dX3_ownPartsOfThoseOut_14 ?_
        refine J_if_eq (tgt := 27) C (by have := hf j (by omega) (by omega); omega) dX3_ownPartsOfThoseOut_15 (by decide) (fun c_15 => ?_) (fun c_15 => ?_)
        · refine J_iinc3 C (by decide) rfl dX3_ownPartsOfThoseOut_27 ?_
          refine J_goto (tgt := 4) C dX3_ownPartsOfThoseOut_30 (by decide) ?_
          -- to the cut at 4
          refine ih_4 _ _ ?_ ?_ ?_ ?_
          · omega
          · omega
          · omega
          · refine ⟨j + 1, by omega, ?_⟩
            simp only [sN]
            (first | (rw [if_pos (by assumption)]; omega) | rw [if_neg (by assumption)])
        · refine J_iload_2 C dX3_ownPartsOfThoseOut_18 ?_
          refine J_aload_0 C dX3_ownPartsOfThoseOut_19 ?_
          refine J_get_3_12 C in_X3_ownPartsOfThoseOut_X3 fl_X3_ownPartsOfThoseOut_57 (by decide) dX3_ownPartsOfThoseOut_20 ?_
          refine J_iload_3 C dX3_ownPartsOfThoseOut_23 ?_
          refine J_iaload C k9 (by decide) (by omega) dX3_ownPartsOfThoseOut_24 ?_
          refine J_iadd C dX3_ownPartsOfThoseOut_25 ?_
          refine J_istore_2 C (by decide) rfl dX3_ownPartsOfThoseOut_26 ?_
          refine J_iinc3 C (by decide) rfl dX3_ownPartsOfThoseOut_27 ?_
          refine J_goto (tgt := 4) C dX3_ownPartsOfThoseOut_30 (by decide) ?_
          -- to the cut at 4
          refine ih_4 _ _ ?_ ?_ ?_ ?_
          · omega
          · omega
          · omega
          · refine ⟨j + 1, by omega, ?_⟩
            simp only [sN]
            (first | (rw [if_pos (by assumption)]; omega) | rw [if_neg (by assumption)])
  refine J_iconst C dX3_ownPartsOfThoseOut_0 ?_
  refine J_istore_2 C (by decide) rfl dX3_ownPartsOfThoseOut_1 ?_
  refine J_iconst C dX3_ownPartsOfThoseOut_2 ?_
  refine J_istore_3 C (by decide) rfl dX3_ownPartsOfThoseOut_3 ?_
  -- to the cut at 4
  refine K_4 6 _ _ ?_ ?_ ?_ ?_
  · decide
  · decide
  · decide
  · exact ⟨0, rfl, rfl⟩
set_option maxRecDepth 20000 in
theorem w_X3_penaltyOn_c228 : Cond.constantLong RX3 228 (lI (99)) ∈ wsX3_penaltyOn := by decide +kernel
set_option maxRecDepth 20000 in
theorem w_X3_penaltyOn_c230 : Cond.constantLong RX3 230 (lI (100)) ∈ wsX3_penaltyOn := by decide +kernel
set_option maxHeartbeats 4000000 in
set_option maxRecDepth 100000 in
theorem c_X3_penaltyOn {l : Launch} (hfl : l.stackTraces = false) {cy : Nat → ClassId} {D : va_G} {ad : Ad} (hI : Inj ad) (σ : Sg) (o pen : Int) (ho : 0 ≤ o ∧ o < 2147483648) (hpn : 0 ≤ pen ∧ pen ≤ 1000) : KL l yX3_penaltyOn wsX3_penaltyOn ({ frames := 0, cells := 0, slots := 0, locals := 0 } : Room) cy D ad σ [.ref (ad 0 0), .int (iI o), .int (iI pen)] (fun z σ' => z = pn o pen ∧ σ' = σ) 0 0 := by
  refine KL.of (lv0 := [some (.ref (ad 0 0)), some (.int (iI o)), some (.int (iI pen))]) hfl hI (by decide) rfl (Nat.le_of_ble_eq_true rfl) rfl ?_
  intro p e s m args below meth c C hr
  have hm := mul_rng ho (show 0 ≤ pen ∧ pen < 2147483648 by omega)
  have hm2 : o * pen ≤ 2147483648 * 1000 := Int.mul_le_mul (by omega) (by omega) (by omega) (by omega)
  refine J_iload_1 C dX3_penaltyOn_0 ?_
  refine J_i2l C (by omega) dX3_penaltyOn_1 ?_
  refine J_iload_2 C dX3_penaltyOn_2 ?_
  refine J_i2l C (by omega) dX3_penaltyOn_3 ?_
  refine J_lmul C dX3_penaltyOn_4 ?_
  refine J_ldc2 C w_X3_penaltyOn_c228 dX3_penaltyOn_5 ?_
  refine J_ladd C dX3_penaltyOn_8 ?_
  refine J_ldc2 C w_X3_penaltyOn_c230 dX3_penaltyOn_9 ?_
  refine J_ldiv C (by omega) (by omega) dX3_penaltyOn_12 ?_
  refine J_retL C hr (by decide) (by decide) dX3_penaltyOn_13 ?_
  exact ⟨rfl, rfl⟩
set_option maxRecDepth 20000 in
theorem in_X3_divideCost_X2 : ∀ w ∈ wsX20, w ∈ wsX3_divideCost := by decide +kernel
set_option maxRecDepth 20000 in
theorem fl_X3_divideCost_115 : Cond.fieldLink RX3 115 "JointVenture$Well" "out" "[Z" ∈ wsX3_divideCost := by decide +kernel
set_option maxRecDepth 20000 in
theorem in_X3_divideCost_X3 : ∀ w ∈ wsX30, w ∈ wsX3_divideCost := by decide +kernel
set_option maxRecDepth 20000 in
theorem fl_X3_divideCost_63 : Cond.fieldLink RX3 63 "JointVenture" "portions" "[I" ∈ wsX3_divideCost := by decide +kernel
set_option maxRecDepth 20000 in
theorem fl_X3_divideCost_57 : Cond.fieldLink RX3 57 "JointVenture" "ownParts" "[I" ∈ wsX3_divideCost := by decide +kernel
set_option maxRecDepth 20000 in
theorem fl_X3_divideCost_53 : Cond.fieldLink RX3 53 "JointVenture" "division" "LJointVenture$Division;" ∈ wsX3_divideCost := by decide +kernel
set_option maxRecDepth 20000 in
theorem fl_X3_divideCost_9 : Cond.fieldLink RX3 9 "JointVenture" "shares" "[I" ∈ wsX3_divideCost := by decide +kernel
set_option maxRecDepth 20000 in
theorem fl_X3_divideCost_60 : Cond.fieldLink RX3 60 "JointVenture" "weights" "[I" ∈ wsX3_divideCost := by decide +kernel
set_option maxHeartbeats 4000000 in
set_option maxRecDepth 100000 in
theorem c_X3_divideCost {l : Launch} (hfl : l.stackTraces = false) {cy : Nat → ClassId} {D : va_G} {ad : Ad} (hI : Inj ad) (σ : Sg) (w a9 : Int) (hw : 0 ≤ w ∧ w < 6) (ha : 0 ≤ a9 ∧ a9 < 2147483648) (hsh : Shk (shf σ)) (ht : Tin (shf σ) (ac σ w)) : KV l yX3_divideCost wsX3_divideCost ({ frames := 2, cells := 0, slots := 0, locals := 51 } : Room) cy D ad σ [.ref (ad 0 0), .ref (ad 12 w), .int (iI a9)] (fun σ' => Fs σ σ' ∧ (∀ q, 0 ≤ q → q < 5 → σ' 9 0 q = dv a9 (shf σ) q) ∧ (∀ q, 0 ≤ q → q < 5 → σ' 11 0 q = chp (shf σ) (ac σ w) a9 q)) 0 0 := by
  refine KV.of (lv0 := [some (.ref (ad 0 0)), some (.ref (ad 12 w)), some (.int (iI a9)), none]) hfl hI (by decide) rfl (Nat.le_of_ble_eq_true rfl) rfl ?_
  intro p e s m args below meth c C hr
  have hsq : ∀ q, 0 ≤ q → q < 5 → shf σ q = σ 1 0 q := fun q a b => shf_at a b
  have hW1 : Wt (σ 1 0) := Wt.congr hsq hsh.wt
  have hb1 : ∀ q, 0 ≤ q → q < 5 → σ 1 0 q < 2147483648 := fun q a b => by have := hsh.1 q a b; rw [hsq q a b] at this; omega
  have hac : ∀ q, 0 ≤ q → q < 5 → ac σ w 14 q = σ 14 w q := fun q a b => ac_at (by decide) (by decide) a b
  have hf : ∀ q, 0 ≤ q → q < 5 → σ 14 w q = 0 ∨ σ 14 w q = 1 := fun q a b => by rw [← hac q a b]; exact ht.1 q a b
  have hWi := inw_wt hsh ht
  have ho := osm_rng (T := ac σ w) hsh ha.1
  have K_43 : ∀ (n_ : Nat) (i : Int) (σ1 : Sg), (0 ≤ i) → (i ≤ 5) → (5 - i < n_) → (∀ (a : Nat) (b c : Int), a < 8 ∨ 11 < a → σ1 a b c = σ a b c) → (∀ q, 0 ≤ q → q < 5 → σ1 9 0 q = dv a9 (shf σ) q) → (∀ q, 0 ≤ q → q < 5 → σ1 11 0 q = if q < i then chp (shf σ) (ac σ w) a9 q else dv (osm (shf σ) (ac σ w) a9) (inw (shf σ) (ac σ w)) q) → JW p l e ({ frames := 2, cells := 0, slots := 0, locals := 51 } : Room) s m args below meth c cy D ad (Ar ad s.heap.size) 4 0 0 (MQ below (QcV cy D ad (fun σ' => Fs σ σ' ∧ (∀ q, 0 ≤ q → q < 5 → σ' 9 0 q = dv a9 (shf σ) q) ∧ (∀ q, 0 ≤ q → q < 5 → σ' 11 0 q = chp (shf σ) (ac σ w) a9 q)) s.heap.size) args s 0 0 (Ar ad s.heap.size)) σ1 43 [some (.ref (ad 0 0)), some (.ref (ad 12 w)), some (.int (iI a9)), some (.int (iI i))] [] := by
    intro n_
    induction n_ with
    | zero => intro i σ1 g0 g1 g2 g3 g4 g5; omega
    | succ n_ ih_43 =>
      intro i σ1 g0 g1 g2 g3 g4 g5
      have h14 : σ1 14 w i = σ 14 w i := g3 14 w i (by decide)
      refine J_iload_3 C dX3_divideCost_43 ?_
      refine J_iconst C dX3_divideCost_44 ?_
      refine J_icmp_ge (tgt := 78) C (by omega) (by omega) dX3_divideCost_45 (by decide) (fun c_45 => ?_) (fun c_45 => ?_)
      · refine J_retV C hr (by decide) (by decide) dX3_divideCost_78 ?_
        have e : i = 5 := by omega
        subst e
        exact ⟨g3, g4, fun q a b => by rw [g5 q a b, if_pos b]⟩
      · refine J_aload_1 C dX3_divideCost_48 ?_
        refine J_get_2_3 C in_X3_divideCost_X2 fl_X3_divideCost_115 hw dX3_divideCost_49 ?_
        refine J_iload_3 C dX3_divideCost_52 ?_
        refine J_baload C k14 hw (by omega) dX3_divideCost_53 ?_
        refine J_if_ne (tgt := 72) C (by rw [h14]; have := hf i (by omega) (by omega); omega) dX3_divideCost_54 (by decide) (fun c_54 => ?_) (fun c_54 => ?_)
        · refine J_iinc3 C (by decide) rfl dX3_divideCost_72 ?_
          refine J_goto (tgt := 43) C dX3_divideCost_75 (by decide) ?_
          -- to the cut at 43
          refine ih_43 _ _ ?_ ?_ ?_ ?_ ?_ ?_
          · omega
          · omega
          · omega
          · (first | exact g3 | (intro a b c h; rw [su_nk (by omega)]; exact g3 a b c h))
          · (first | exact g4 | (intro q a b; rw [su_nk (by decide)]; exact g4 q a b))
          · intro q a b
            have hv := g5 q a b
            have e1 := hac i (by omega) (by omega)
            by_cases e : q = i
            · subst e
              rw [if_neg (by omega)] at hv
              rw [if_pos (by omega)]
              unfold chp
              first
                | (rw [su_at, hv, g4 q a b, if_pos (by rw [e1, ← h14]; assumption)])
                | (rw [hv, if_neg (by rw [e1, ← h14]; assumption)]; omega)
            · have hv2 : σ1 11 0 q = if q < i + 1 then chp (shf σ) (ac σ w) a9 q else dv (osm (shf σ) (ac σ w) a9) (inw (shf σ) (ac σ w)) q := by
                rw [hv]
                by_cases h9 : q < i
                · rw [if_pos h9, if_pos (by omega)]
                · rw [if_neg h9, if_neg (by omega)]
              first
                | exact hv2
                | (rw [su_ne (Or.inr e)]; exact hv2)
        · refine J_aload_0 C dX3_divideCost_57 ?_
          refine J_get_3_14 C in_X3_divideCost_X3 fl_X3_divideCost_63 (by decide) dX3_divideCost_58 ?_
          refine J_iload_3 C dX3_divideCost_61 ?_
          refine J_dup2 C rfl rfl dX3_divideCost_62 ?_
          refine J_iaload C k11 (by decide) (by omega) dX3_divideCost_63 ?_
          refine J_aload_0 C dX3_divideCost_64 ?_
          refine J_get_3_12 C in_X3_divideCost_X3 fl_X3_divideCost_57 (by decide) dX3_divideCost_65 ?_
          refine J_iload_3 C dX3_divideCost_68 ?_
          refine J_iaload C k9 (by decide) (by omega) dX3_divideCost_69 ?_
          refine J_iadd C dX3_divideCost_70 ?_
          refine J_iastore C k11 (by decide) (by omega) dX3_divideCost_71 ?_
          refine J_iinc3 C (by decide) rfl dX3_divideCost_72 ?_
          refine J_goto (tgt := 43) C dX3_divideCost_75 (by decide) ?_
          -- to the cut at 43
          refine ih_43 _ _ ?_ ?_ ?_ ?_ ?_ ?_
          · omega
          · omega
          · omega
          · (first | exact g3 | (intro a b c h; rw [su_nk (by omega)]; exact g3 a b c h))
          · (first | exact g4 | (intro q a b; rw [su_nk (by decide)]; exact g4 q a b))
          · intro q a b
            have hv := g5 q a b
            have e1 := hac i (by omega) (by omega)
            by_cases e : q = i
            · subst e
              rw [if_neg (by omega)] at hv
              rw [if_pos (by omega)]
              unfold chp
              first
                | (rw [su_at, hv, g4 q a b, if_pos (by rw [e1, ← h14]; assumption)])
                | (rw [hv, if_neg (by rw [e1, ← h14]; assumption)]; omega)
            · have hv2 : σ1 11 0 q = if q < i + 1 then chp (shf σ) (ac σ w) a9 q else dv (osm (shf σ) (ac σ w) a9) (inw (shf σ) (ac σ w)) q := by
                rw [hv]
                by_cases h9 : q < i
                · rw [if_pos h9, if_pos (by omega)]
                · rw [if_neg h9, if_neg (by omega)]
              first
                | exact hv2
                | (rw [su_ne (Or.inr e)]; exact hv2)
  refine J_aload_0 C dX3_divideCost_0 ?_
  refine J_get_3_11 C in_X3_divideCost_X3 fl_X3_divideCost_53 (by decide) dX3_divideCost_1 ?_
  refine J_iload_2 C dX3_divideCost_4 ?_
  refine J_aload_0 C dX3_divideCost_5 ?_
  refine J_get_3_0 C in_X3_divideCost_X3 fl_X3_divideCost_9 (by decide) dX3_divideCost_6 ?_
  refine J_aload_0 C dX3_divideCost_9 ?_
  refine J_get_3_12 C in_X3_divideCost_X3 fl_X3_divideCost_57 (by decide) dX3_divideCost_10 ?_
  refine J_KVV C (c_X1_divide hfl hI _ a9 1 9 0 0 k1 k9 (by decide) (by decide) (by decide) (by decide) (by decide) ha hW1 hb1) (cwV 3 C.1.2.2.2.2 gX3_divideCost_X1_divide rfl rfl rfl (by decide +kernel) ⟨Nat.le_of_ble_eq_true rfl, Nat.le_of_ble_eq_true rfl⟩) rc1 (by decide) rfl rfl (Nat.le_of_ble_eq_true rfl) dX3_divideCost_13 ⟨Nat.le_of_ble_eq_true rfl, Nat.le_of_ble_eq_true rfl⟩ (fun σ_13 hp => ?_)
  obtain ⟨f1, hp⟩ := hp
  have F1 : ∀ (a : Nat) (b c : Int), a ≠ 8 → a ≠ 9 → σ_13 a b c = σ a b c := fun a b c h1 h2 => by rw [hp, sf_nk h2, sf_nk h1]
  have O1 : ∀ q, 0 ≤ q → q < 5 → σ_13 9 0 q = dv a9 (shf σ) q := fun q a b => by rw [hp, sf_at a b]; exact dv_congr (fun x c d => (hsq x c d).symm) q a b
  clear hp
  refine J_aload_0 C dX3_divideCost_16 ?_
  refine J_aload_1 C dX3_divideCost_17 ?_
  refine J_KVV C (c_X3_weighThoseIn hfl hI _ w hw (fun q a b => by rw [F1 _ _ _ (by decide) (by decide)]; exact hf q a b)) (cwV 1 C.1.2.2.2.2 gX3_divideCost_X3_weighThoseIn rfl rfl rfl (by decide +kernel) ⟨Nat.le_of_ble_eq_true rfl, Nat.le_of_ble_eq_true rfl⟩) rc3 (by decide) rfl rfl (Nat.le_of_ble_eq_true rfl) dX3_divideCost_18 ⟨Nat.le_of_ble_eq_true rfl, Nat.le_of_ble_eq_true rfl⟩ (fun σ_18 hp => ?_)
  have F2 : ∀ (a : Nat) (b c : Int), a ≠ 8 → a ≠ 9 → a ≠ 10 → σ_18 a b c = σ a b c := fun a b c h1 h2 h3 => by rw [hp, sf_nk h3, F1 a b c h1 h2]
  have O2 : ∀ q, 0 ≤ q → q < 5 → σ_18 9 0 q = dv a9 (shf σ) q := fun q a b => by rw [hp, sf_nk (by decide), O1 q a b]
  have W2 : ∀ q, 0 ≤ q → q < 5 → σ_18 10 0 q = inw (shf σ) (ac σ w) q := fun q a b => by
    rw [hp, sf_at a b, F1 _ _ _ (by decide) (by decide), F1 _ _ _ (by decide) (by decide)]
    unfold inw
    rw [hac q a b, hsq q a b]
  clear hp
  refine J_aload_0 C dX3_divideCost_21 ?_
  refine J_get_3_11 C in_X3_divideCost_X3 fl_X3_divideCost_53 (by decide) dX3_divideCost_22 ?_
  refine J_aload_0 C dX3_divideCost_25 ?_
  refine J_aload_1 C dX3_divideCost_26 ?_
  refine J_KVI C (c_X3_ownPartsOfThoseOut hfl hI _ w hw (fun q a b => by rw [F2 _ _ _ (by decide) (by decide) (by decide)]; exact hf q a b)) (cwV 1 C.1.2.2.2.2 gX3_divideCost_X3_ownPartsOfThoseOut rfl rfl rfl (by decide +kernel) ⟨Nat.le_of_ble_eq_true rfl, Nat.le_of_ble_eq_true rfl⟩) rc3 (by decide) rfl rfl (Nat.le_of_ble_eq_true rfl) dX3_divideCost_27 ⟨Nat.le_of_ble_eq_true rfl, Nat.le_of_ble_eq_true rfl⟩ (fun z_27 σ_27 hp => ?_)
  obtain ⟨hz, hs_⟩ := hp
  have hs_ := hs_.symm
  subst hs_
  have ez : z_27 = osm (shf σ) (ac σ w) a9 := by
    rw [hz]
    unfold osm
    exact s5_congr (fun q a b => by rw [F2 _ _ _ (by decide) (by decide) (by decide), O2 q a b, hac q a b])
  subst ez
  clear hz
  refine J_aload_0 C dX3_divideCost_30 ?_
  refine J_get_3_13 C in_X3_divideCost_X3 fl_X3_divideCost_60 (by decide) dX3_divideCost_31 ?_
  refine J_aload_0 C dX3_divideCost_34 ?_
  refine J_get_3_14 C in_X3_divideCost_X3 fl_X3_divideCost_63 (by decide) dX3_divideCost_35 ?_
  refine J_KVV C (c_X1_divide hfl hI _ _ 10 11 0 0 k10 k11 (by decide) (by decide) (by decide) (by decide) (by decide) (by omega) (Wt.congr (fun q a b => (W2 q a b).symm) hWi) (fun q a b => by rw [W2 q a b]; unfold inw; have := hsh.1 q a b; split <;> omega)) (cwV 3 C.1.2.2.2.2 gX3_divideCost_X1_divide rfl rfl rfl (by decide +kernel) ⟨Nat.le_of_ble_eq_true rfl, Nat.le_of_ble_eq_true rfl⟩) rc1 (by decide) rfl rfl (Nat.le_of_ble_eq_true rfl) dX3_divideCost_38 ⟨Nat.le_of_ble_eq_true rfl, Nat.le_of_ble_eq_true rfl⟩ (fun σ_38 hp => ?_)
  obtain ⟨f2, hp⟩ := hp
  have F3 : ∀ (a : Nat) (b c : Int), a < 8 ∨ 11 < a → σ_38 a b c = σ a b c := fun a b c h => by rw [hp, sf_nk (by omega), sf_nk (by omega), F2 a b c (by omega) (by omega) (by omega)]
  have O3 : ∀ q, 0 ≤ q → q < 5 → σ_38 9 0 q = dv a9 (shf σ) q := fun q a b => by rw [hp, sf_nk (by decide), sf_nk (by decide), O2 q a b]
  have P3 : ∀ q, 0 ≤ q → q < 5 → σ_38 11 0 q = dv (osm (shf σ) (ac σ w) a9) (inw (shf σ) (ac σ w)) q := fun q a b => by rw [hp, sf_at a b]; exact dv_congr W2 q a b
  clear hp
  refine J_iconst C dX3_divideCost_41 ?_
  refine J_istore_3 C (by decide) rfl dX3_divideCost_42 ?_
  -- to the cut at 43
  refine K_43 6 _ _ ?_ ?_ ?_ ?_ ?_ ?_
  · decide
  · decide
  · decide
  · exact F3
  · exact O3
  · intro q a b
    rw [if_neg (by omega)]
    exact P3 q a b
