theorem c_X4_worksM {l : Launch} (hfl : l.stackTraces = false) {cy : Nat → ClassId} {D : va_G} {ad : Ad} (hI : Inj ad) (σ : Sg) (w : Int) (hw : 0 ≤ w ∧ w < 6) (hM : Mi σ) : KV l yX4_works wsX4_works ({ frames := 3, cells := 0, slots := 0, locals := 79 } : Room) cy D ad σ [.ref (ad 22 0), .int (iI w)] (fun σ' => (∀ (a : Nat) (b c : Int), a < 33 ∨ 41 < a → σ' a b c = σ a b c) ∧ (∀ q, 0 ≤ q → q < 5 → (σ' 33 0 q = 0 ∨ σ' 33 0 q = 1) ∧ (¬ 0 < σ 23 0 q → σ' 33 0 q = 0)) ∧ mT σ' = FM σ w) 0 0 := c_X4_works hfl hI σ w hw hM.1 hM.2.1 hM.2.2.1 hM.2.2.2.1 (hM.2.2.2.2.1 w hw.1 hw.2).1 (hM.2.2.2.2.1 w hw.1 hw.2).2.1
set_option maxRecDepth 20000 in
theorem in_X4_thrown_X4 : ∀ w ∈ wsX40, w ∈ wsX4_thrown := by decide +kernel
set_option maxRecDepth 20000 in
theorem fl_X4_thrown_73 : Cond.fieldLink RX4 73 "JointVentureModel" "last" "I" ∈ wsX4_thrown := by decide +kernel
set_option maxHeartbeats 4000000 in
set_option maxRecDepth 100000 in
theorem c_X4_thrown {l : Launch} (hfl : l.stackTraces = false) {cy : Nat → ClassId} {D : va_G} {ad : Ad} (hI : Inj ad) (σ : Sg) : KI l yX4_thrown wsX4_thrown ({ frames := 0, cells := 0, slots := 0, locals := 0 } : Room) cy D ad σ [.ref (ad 22 0)] (fun z σ' => z = σ 22 0 24 ∧ σ' = σ) 0 0 := by
  refine KI.of (lv0 := [some (.ref (ad 22 0))]) hfl hI (by decide) rfl (Nat.le_of_ble_eq_true rfl) rfl ?_
  intro p e s m args below meth c C hr
  refine J_aload_0 C dX4_thrown_0 ?_
  refine J_get_4_24 C in_X4_thrown_X4 fl_X4_thrown_73 (by decide) dX4_thrown_1 ?_
  refine J_retI C hr (by decide) (by decide) dX4_thrown_4 ?_
  exact ⟨rfl, rfl⟩
set_option maxRecDepth 20000 in
theorem in_X4_vouchers_X4 : ∀ w ∈ wsX40, w ∈ wsX4_vouchers := by decide +kernel
set_option maxRecDepth 20000 in
theorem fl_X4_vouchers_73 : Cond.fieldLink RX4 73 "JointVentureModel" "last" "I" ∈ wsX4_vouchers := by decide +kernel
set_option maxRecDepth 20000 in
theorem fl_X4_vouchers_83 : Cond.fieldLink RX4 83 "JointVentureModel" "vouchers" "I" ∈ wsX4_vouchers := by decide +kernel
set_option maxHeartbeats 4000000 in
set_option maxRecDepth 100000 in
theorem c_X4_vouchers {l : Launch} (hfl : l.stackTraces = false) {cy : Nat → ClassId} {D : va_G} {ad : Ad} (hI : Inj ad) (σ : Sg) : KI l yX4_vouchers wsX4_vouchers ({ frames := 0, cells := 0, slots := 0, locals := 0 } : Room) cy D ad σ [.ref (ad 22 0)] (fun z σ' => z = σ 22 0 10 ∧ σ' = su σ 22 0 24 0) 0 0 := by
  refine KI.of (lv0 := [some (.ref (ad 22 0))]) hfl hI (by decide) rfl (Nat.le_of_ble_eq_true rfl) rfl ?_
  intro p e s m args below meth c C hr
  refine J_aload_0 C dX4_vouchers_0 ?_
  refine J_iconst C dX4_vouchers_1 ?_
  refine J_put_4_24 C in_X4_vouchers_X4 fl_X4_vouchers_73 (by decide) dX4_vouchers_2 ?_
  refine J_aload_0 C dX4_vouchers_5 ?_
  refine J_get_4_10 C in_X4_vouchers_X4 fl_X4_vouchers_83 (by decide) dX4_vouchers_6 ?_
  refine J_retI C hr (by decide) (by decide) dX4_vouchers_9 ?_
  exact ⟨su_ne3 (Or.inr (Or.inr (by decide))), rfl⟩
set_option maxRecDepth 20000 in
theorem in_X4_setShares_X4 : ∀ w ∈ wsX40, w ∈ wsX4_setShares := by decide +kernel
set_option maxRecDepth 20000 in
theorem fl_X4_setShares_7 : Cond.fieldLink RX4 7 "JointVentureModel" "shares" "[I" ∈ wsX4_setShares := by decide +kernel
set_option maxRecDepth 20000 in
theorem fl_X4_setShares_80 : Cond.fieldLink RX4 80 "JointVentureModel" "wells" "I" ∈ wsX4_setShares := by decide +kernel
set_option maxHeartbeats 4000000 in
set_option maxRecDepth 100000 in
theorem c_X4_setShares {l : Launch} (hfl : l.stackTraces = false) {cy : Nat → ClassId} {D : va_G} {ad : Ad} (hI : Inj ad) (σ : Sg) (a0 a1 a2 a3 a4 : Int) (i0 : I32 a0) (i1 : I32 a1) (i2 : I32 a2) (i3 : I32 a3) (i4 : I32 a4) (hwm : 0 ≤ σ 22 0 6 ∧ σ 22 0 6 ≤ 6) : KV l yX4_setShares wsX4_setShares ({ frames := 2, cells := 0, slots := 0, locals := 42 } : Room) cy D ad σ [.ref (ad 22 0), .int (iI a0), .int (iI a1), .int (iI a2), .int (iI a3), .int (iI a4)] (fun σ' => ∃ cd, ((cd = 0 ∧ ((((0 ≤ a0 ∧ a0 ≤ 10000) ∧ (0 ≤ a1 ∧ a1 ≤ 10000) ∧ (0 ≤ a2 ∧ a2 ≤ 10000) ∧ (0 ≤ a3 ∧ a3 ≤ 10000) ∧ (0 ≤ a4 ∧ a4 ≤ 10000)) ∧ a0 + a1 + a2 + a3 + a4 = 10000) ∧ σ 22 0 6 = 0)) ∨ (cd = 1 ∧ (¬ (((0 ≤ a0 ∧ a0 ≤ 10000) ∧ (0 ≤ a1 ∧ a1 ≤ 10000) ∧ (0 ≤ a2 ∧ a2 ≤ 10000) ∧ (0 ≤ a3 ∧ a3 ≤ 10000) ∧ (0 ≤ a4 ∧ a4 ≤ 10000)) ∧ a0 + a1 + a2 + a3 + a4 = 10000))) ∨ (cd = 2 ∧ ((((0 ≤ a0 ∧ a0 ≤ 10000) ∧ (0 ≤ a1 ∧ a1 ≤ 10000) ∧ (0 ≤ a2 ∧ a2 ≤ 10000) ∧ (0 ≤ a3 ∧ a3 ≤ 10000) ∧ (0 ≤ a4 ∧ a4 ≤ 10000)) ∧ a0 + a1 + a2 + a3 + a4 = 10000) ∧ ¬ σ 22 0 6 = 0))) ∧ (cd = 0 → σ' = su (su (su (su (su (su σ 22 0 24 0) 23 0 0 a0) 23 0 1 a1) 23 0 2 a2) 23 0 3 a3) 23 0 4 a4) ∧ (¬ cd = 0 → σ' = su σ 22 0 24 cd)) 0 0 := by
  refine KV.of (lv0 := [some (.ref (ad 22 0)), some (.int (iI a0)), some (.int (iI a1)), some (.int (iI a2)), some (.int (iI a3)), some (.int (iI a4)), none]) hfl hI (by decide) rfl (Nat.le_of_ble_eq_true rfl) rfl ?_
  intro p e s m args below meth c C hr
  have K_88 : ∀ (g9 : Int) (cd : Int), ((cd = 0 ∧ ((((0 ≤ a0 ∧ a0 ≤ 10000) ∧ (0 ≤ a1 ∧ a1 ≤ 10000) ∧ (0 ≤ a2 ∧ a2 ≤ 10000) ∧ (0 ≤ a3 ∧ a3 ≤ 10000) ∧ (0 ≤ a4 ∧ a4 ≤ 10000)) ∧ a0 + a1 + a2 + a3 + a4 = 10000) ∧ σ 22 0 6 = 0)) ∨ (cd = 1 ∧ (¬ (((0 ≤ a0 ∧ a0 ≤ 10000) ∧ (0 ≤ a1 ∧ a1 ≤ 10000) ∧ (0 ≤ a2 ∧ a2 ≤ 10000) ∧ (0 ≤ a3 ∧ a3 ≤ 10000) ∧ (0 ≤ a4 ∧ a4 ≤ 10000)) ∧ a0 + a1 + a2 + a3 + a4 = 10000))) ∨ (cd = 2 ∧ ((((0 ≤ a0 ∧ a0 ≤ 10000) ∧ (0 ≤ a1 ∧ a1 ≤ 10000) ∧ (0 ≤ a2 ∧ a2 ≤ 10000) ∧ (0 ≤ a3 ∧ a3 ≤ 10000) ∧ (0 ≤ a4 ∧ a4 ≤ 10000)) ∧ a0 + a1 + a2 + a3 + a4 = 10000) ∧ ¬ σ 22 0 6 = 0))) → ((g9 = 1 ∧ cd = 0) ∨ (g9 = 0 ∧ ¬ cd = 0)) → JW p l e ({ frames := 2, cells := 0, slots := 0, locals := 42 } : Room) s m args below meth c cy D ad (Ar ad s.heap.size) 7 0 0 (MQ below (QcV cy D ad (fun σ' => ∃ cd, ((cd = 0 ∧ ((((0 ≤ a0 ∧ a0 ≤ 10000) ∧ (0 ≤ a1 ∧ a1 ≤ 10000) ∧ (0 ≤ a2 ∧ a2 ≤ 10000) ∧ (0 ≤ a3 ∧ a3 ≤ 10000) ∧ (0 ≤ a4 ∧ a4 ≤ 10000)) ∧ a0 + a1 + a2 + a3 + a4 = 10000) ∧ σ 22 0 6 = 0)) ∨ (cd = 1 ∧ (¬ (((0 ≤ a0 ∧ a0 ≤ 10000) ∧ (0 ≤ a1 ∧ a1 ≤ 10000) ∧ (0 ≤ a2 ∧ a2 ≤ 10000) ∧ (0 ≤ a3 ∧ a3 ≤ 10000) ∧ (0 ≤ a4 ∧ a4 ≤ 10000)) ∧ a0 + a1 + a2 + a3 + a4 = 10000))) ∨ (cd = 2 ∧ ((((0 ≤ a0 ∧ a0 ≤ 10000) ∧ (0 ≤ a1 ∧ a1 ≤ 10000) ∧ (0 ≤ a2 ∧ a2 ≤ 10000) ∧ (0 ≤ a3 ∧ a3 ≤ 10000) ∧ (0 ≤ a4 ∧ a4 ≤ 10000)) ∧ a0 + a1 + a2 + a3 + a4 = 10000) ∧ ¬ σ 22 0 6 = 0))) ∧ (cd = 0 → σ' = su (su (su (su (su (su σ 22 0 24 0) 23 0 0 a0) 23 0 1 a1) 23 0 2 a2) 23 0 3 a3) 23 0 4 a4) ∧ (¬ cd = 0 → σ' = su σ 22 0 24 cd)) s.heap.size) args s 0 0 (Ar ad s.heap.size)) (su σ 22 0 24 cd) 88 [some (.ref (ad 22 0)), some (.int (iI a0)), some (.int (iI a1)), some (.int (iI a2)), some (.int (iI a3)), some (.int (iI a4)), none] [.int (iI g9)] := by
    intro g9 cd g0 g1
    refine J_if_eq (tgt := 128) C (by omega) dX4_setShares_88 (by decide) (fun c_88 => ?_) (fun c_88 => ?_)
    · refine J_retV C hr (by decide) (by decide) dX4_setShares_128 ?_
      (first
        | (exact ⟨cd, g0, fun z => by omega, fun _ => rfl⟩)
        | (have hcd : cd = 0 := by omega
           subst hcd
           exact ⟨0, g0, fun _ => rfl, fun z => absurd rfl z⟩))
    · refine J_aload_0 C dX4_setShares_91 ?_
      refine J_get_4_0 C in_X4_setShares_X4 fl_X4_setShares_7 (by decide) dX4_setShares_92 ?_
      refine J_iconst C dX4_setShares_95 ?_
      refine J_iload_1 C dX4_setShares_96 ?_
      refine J_iastore C k23 (by decide) (by omega) dX4_setShares_97 ?_
      refine J_aload_0 C dX4_setShares_98 ?_
      refine J_get_4_0 C in_X4_setShares_X4 fl_X4_setShares_7 (by decide) dX4_setShares_99 ?_
      refine J_iconst C dX4_setShares_102 ?_
      refine J_iload_2 C dX4_setShares_103 ?_
      refine J_iastore C k23 (by decide) (by omega) dX4_setShares_104 ?_
      refine J_aload_0 C dX4_setShares_105 ?_
      refine J_get_4_0 C in_X4_setShares_X4 fl_X4_setShares_7 (by decide) dX4_setShares_106 ?_
      refine J_iconst C dX4_setShares_109 ?_
      refine J_iload_3 C dX4_setShares_110 ?_
      refine J_iastore C k23 (by decide) (by omega) dX4_setShares_111 ?_
      refine J_aload_0 C dX4_setShares_112 ?_
      refine J_get_4_0 C in_X4_setShares_X4 fl_X4_setShares_7 (by decide) dX4_setShares_113 ?_
      refine J_iconst C dX4_setShares_116 ?_
      refine J_iload4 C dX4_setShares_117 ?_
      refine J_iastore C k23 (by decide) (by omega) dX4_setShares_119 ?_
      refine J_aload_0 C dX4_setShares_120 ?_
      refine J_get_4_0 C in_X4_setShares_X4 fl_X4_setShares_7 (by decide) dX4_setShares_121 ?_
      refine J_iconst C dX4_setShares_124 ?_
      refine J_iload5 C dX4_setShares_125 ?_
      refine J_iastore C k23 (by decide) (by omega) dX4_setShares_127 ?_
      refine J_retV C hr (by decide) (by decide) dX4_setShares_128 ?_
      (first
        | (exact ⟨cd, g0, fun z => by omega, fun _ => rfl⟩)
        | (have hcd : cd = 0 := by omega
           subst hcd
           exact ⟨0, g0, fun _ => rfl, fun z => absurd rfl z⟩))
  have K_72 : ∀ (x : Int), ((x = 1 ∧ (((0 ≤ a0 ∧ a0 ≤ 10000) ∧ (0 ≤ a1 ∧ a1 ≤ 10000) ∧ (0 ≤ a2 ∧ a2 ≤ 10000) ∧ (0 ≤ a3 ∧ a3 ≤ 10000) ∧ (0 ≤ a4 ∧ a4 ≤ 10000)) ∧ a0 + a1 + a2 + a3 + a4 = 10000)) ∨ (x = 0 ∧ ¬ (((0 ≤ a0 ∧ a0 ≤ 10000) ∧ (0 ≤ a1 ∧ a1 ≤ 10000) ∧ (0 ≤ a2 ∧ a2 ≤ 10000) ∧ (0 ≤ a3 ∧ a3 ≤ 10000) ∧ (0 ≤ a4 ∧ a4 ≤ 10000)) ∧ a0 + a1 + a2 + a3 + a4 = 10000))) → JW p l e ({ frames := 2, cells := 0, slots := 0, locals := 42 } : Room) s m args below meth c cy D ad (Ar ad s.heap.size) 7 0 0 (MQ below (QcV cy D ad (fun σ' => ∃ cd, ((cd = 0 ∧ ((((0 ≤ a0 ∧ a0 ≤ 10000) ∧ (0 ≤ a1 ∧ a1 ≤ 10000) ∧ (0 ≤ a2 ∧ a2 ≤ 10000) ∧ (0 ≤ a3 ∧ a3 ≤ 10000) ∧ (0 ≤ a4 ∧ a4 ≤ 10000)) ∧ a0 + a1 + a2 + a3 + a4 = 10000) ∧ σ 22 0 6 = 0)) ∨ (cd = 1 ∧ (¬ (((0 ≤ a0 ∧ a0 ≤ 10000) ∧ (0 ≤ a1 ∧ a1 ≤ 10000) ∧ (0 ≤ a2 ∧ a2 ≤ 10000) ∧ (0 ≤ a3 ∧ a3 ≤ 10000) ∧ (0 ≤ a4 ∧ a4 ≤ 10000)) ∧ a0 + a1 + a2 + a3 + a4 = 10000))) ∨ (cd = 2 ∧ ((((0 ≤ a0 ∧ a0 ≤ 10000) ∧ (0 ≤ a1 ∧ a1 ≤ 10000) ∧ (0 ≤ a2 ∧ a2 ≤ 10000) ∧ (0 ≤ a3 ∧ a3 ≤ 10000) ∧ (0 ≤ a4 ∧ a4 ≤ 10000)) ∧ a0 + a1 + a2 + a3 + a4 = 10000) ∧ ¬ σ 22 0 6 = 0))) ∧ (cd = 0 → σ' = su (su (su (su (su (su σ 22 0 24 0) 23 0 0 a0) 23 0 1 a1) 23 0 2 a2) 23 0 3 a3) 23 0 4 a4) ∧ (¬ cd = 0 → σ' = su σ 22 0 24 cd)) s.heap.size) args s 0 0 (Ar ad s.heap.size)) σ 72 [some (.ref (ad 22 0)), some (.int (iI a0)), some (.int (iI a1)), some (.int (iI a2)), some (.int (iI a3)), some (.int (iI a4)), none] [.int (iI x), .ref (ad 22 0)] := by
    intro x u0
    refine J_aload_0 C dX4_setShares_72 ?_
    refine J_get_4_6 C in_X4_setShares_X4 fl_X4_setShares_80 (by decide) dX4_setShares_73 ?_
    refine J_if_ne (tgt := 83) C (by omega) dX4_setShares_76 (by decide) (fun c_76 => ?_) (fun c_76 => ?_)
    · refine J_iconst C dX4_setShares_83 ?_
      refine J_iconst C dX4_setShares_84 ?_
      refine J_KVI C (c_X4_goes hfl hI _ _ _ _ (by first | exact Or.inl rfl | exact Or.inr rfl | (split <;> omega) | omega) (by first | exact Or.inl rfl | exact Or.inr rfl | (split <;> omega) | omega) (by first | exact Or.inl rfl | exact Or.inr rfl | (split <;> omega) | omega)) (cwV 3 C.1.2.2.2.2 gX4_setShares_X4_goes rfl rfl rfl (by decide +kernel) ⟨Nat.le_of_ble_eq_true rfl, Nat.le_of_ble_eq_true rfl⟩) rc4 (by decide) rfl rfl (Nat.le_of_ble_eq_true rfl) dX4_setShares_85 ⟨Nat.le_of_ble_eq_true rfl, Nat.le_of_ble_eq_true rfl⟩ (fun z_85 σ_85 hp => ?_)
      obtain ⟨hz_, hs_⟩ := hp
      have hz_ := hz_.symm
      have hs_ := hs_.symm
      subst hz_
      subst hs_
      -- to the cut at 88
      refine K_88 _ _ ?_ ?_
      · simp only [gcd3]
        grind
      · split <;> omega
    · refine J_iconst C dX4_setShares_79 ?_
      refine J_goto (tgt := 84) C dX4_setShares_80 (by decide) ?_
      refine J_iconst C dX4_setShares_84 ?_
      refine J_KVI C (c_X4_goes hfl hI _ _ _ _ (by first | exact Or.inl rfl | exact Or.inr rfl | (split <;> omega) | omega) (by first | exact Or.inl rfl | exact Or.inr rfl | (split <;> omega) | omega) (by first | exact Or.inl rfl | exact Or.inr rfl | (split <;> omega) | omega)) (cwV 3 C.1.2.2.2.2 gX4_setShares_X4_goes rfl rfl rfl (by decide +kernel) ⟨Nat.le_of_ble_eq_true rfl, Nat.le_of_ble_eq_true rfl⟩) rc4 (by decide) rfl rfl (Nat.le_of_ble_eq_true rfl) dX4_setShares_85 ⟨Nat.le_of_ble_eq_true rfl, Nat.le_of_ble_eq_true rfl⟩ (fun z_85 σ_85 hp => ?_)
      obtain ⟨hz_, hs_⟩ := hp
      have hz_ := hz_.symm
      have hs_ := hs_.symm
      subst hz_
      subst hs_
      -- to the cut at 88
      refine K_88 _ _ ?_ ?_
      · simp only [gcd3]
        grind
      · split <;> omega
  have K_42 : ∀ (x : Int), ((x = 1 ∧ ((0 ≤ a0 ∧ a0 ≤ 10000) ∧ (0 ≤ a1 ∧ a1 ≤ 10000) ∧ (0 ≤ a2 ∧ a2 ≤ 10000) ∧ (0 ≤ a3 ∧ a3 ≤ 10000) ∧ (0 ≤ a4 ∧ a4 ≤ 10000))) ∨ (x = 0 ∧ ¬ ((0 ≤ a0 ∧ a0 ≤ 10000) ∧ (0 ≤ a1 ∧ a1 ≤ 10000) ∧ (0 ≤ a2 ∧ a2 ≤ 10000) ∧ (0 ≤ a3 ∧ a3 ≤ 10000) ∧ (0 ≤ a4 ∧ a4 ≤ 10000)))) → JW p l e ({ frames := 2, cells := 0, slots := 0, locals := 42 } : Room) s m args below meth c cy D ad (Ar ad s.heap.size) 7 0 0 (MQ below (QcV cy D ad (fun σ' => ∃ cd, ((cd = 0 ∧ ((((0 ≤ a0 ∧ a0 ≤ 10000) ∧ (0 ≤ a1 ∧ a1 ≤ 10000) ∧ (0 ≤ a2 ∧ a2 ≤ 10000) ∧ (0 ≤ a3 ∧ a3 ≤ 10000) ∧ (0 ≤ a4 ∧ a4 ≤ 10000)) ∧ a0 + a1 + a2 + a3 + a4 = 10000) ∧ σ 22 0 6 = 0)) ∨ (cd = 1 ∧ (¬ (((0 ≤ a0 ∧ a0 ≤ 10000) ∧ (0 ≤ a1 ∧ a1 ≤ 10000) ∧ (0 ≤ a2 ∧ a2 ≤ 10000) ∧ (0 ≤ a3 ∧ a3 ≤ 10000) ∧ (0 ≤ a4 ∧ a4 ≤ 10000)) ∧ a0 + a1 + a2 + a3 + a4 = 10000))) ∨ (cd = 2 ∧ ((((0 ≤ a0 ∧ a0 ≤ 10000) ∧ (0 ≤ a1 ∧ a1 ≤ 10000) ∧ (0 ≤ a2 ∧ a2 ≤ 10000) ∧ (0 ≤ a3 ∧ a3 ≤ 10000) ∧ (0 ≤ a4 ∧ a4 ≤ 10000)) ∧ a0 + a1 + a2 + a3 + a4 = 10000) ∧ ¬ σ 22 0 6 = 0))) ∧ (cd = 0 → σ' = su (su (su (su (su (su σ 22 0 24 0) 23 0 0 a0) 23 0 1 a1) 23 0 2 a2) 23 0 3 a3) 23 0 4 a4) ∧ (¬ cd = 0 → σ' = su σ 22 0 24 cd)) s.heap.size) args s 0 0 (Ar ad s.heap.size)) σ 42 [some (.ref (ad 22 0)), some (.int (iI a0)), some (.int (iI a1)), some (.int (iI a2)), some (.int (iI a3)), some (.int (iI a4)), none] [.int (iI x)] := by
    intro x u0
    refine J_istore6 C (by decide) rfl dX4_setShares_42 ?_
    refine J_aload_0 C dX4_setShares_44 ?_
    refine J_iload6 C dX4_setShares_45 ?_
    refine J_if_eq (tgt := 71) C (by omega) dX4_setShares_47 (by decide) (fun c_47 => ?_) (fun c_47 => ?_)
    · refine J_iconst C dX4_setShares_71 ?_
      -- to the cut at 72
      refine J_fg6 ?_
      refine K_72 _ ?_
      · omega
    · refine J_iload_1 C dX4_setShares_50 ?_
      refine J_iload_2 C dX4_setShares_51 ?_
      refine J_iadd C dX4_setShares_52 ?_
      refine J_iload_3 C dX4_setShares_53 ?_
      refine J_iadd C dX4_setShares_54 ?_
      refine J_iload4 C dX4_setShares_55 ?_
      refine J_iadd C dX4_setShares_57 ?_
      refine J_iload5 C dX4_setShares_58 ?_
      refine J_iadd C dX4_setShares_60 ?_
      refine J_sipush C (by decide) dX4_setShares_61 ?_
      refine J_icmp_ne (tgt := 71) C (by omega) (by omega) dX4_setShares_64 (by decide) (fun c_64 => ?_) (fun c_64 => ?_)
      · refine J_iconst C dX4_setShares_71 ?_
        -- to the cut at 72
        refine J_fg6 ?_
        refine K_72 _ ?_
        · omega
      · refine J_iconst C dX4_setShares_67 ?_
        refine J_goto (tgt := 72) C dX4_setShares_68 (by decide) ?_
        -- to the cut at 72
        refine J_fg6 ?_
        refine K_72 _ ?_
        · omega
  refine J_iload_1 C dX4_setShares_0 ?_
  refine J_KSI C (c_X4_isShare hfl hI _ a0 i0) (va_cwS 1 C.1.2.2.2.2 gX4_setShares_X4_isShare rfl rfl rfl (by decide +kernel) ⟨Nat.le_of_ble_eq_true rfl, Nat.le_of_ble_eq_true rfl⟩) rfl rfl (Nat.le_of_ble_eq_true rfl) dX4_setShares_1 ⟨Nat.le_of_ble_eq_true rfl, Nat.le_of_ble_eq_true rfl⟩ (fun z_1 σ_1 hp => ?_)
  obtain ⟨hz_, hs_⟩ := hp
  have hz_ := hz_.symm
  have hs_ := hs_.symm
  subst hz_
  subst hs_
  refine J_if_eq (tgt := 41) C (by split <;> omega) dX4_setShares_4 (by decide) (fun c_4 => ?_) (fun c_4 => ?_)
  · refine J_iconst C dX4_setShares_41 ?_
    -- to the cut at 42
    refine K_42 _ ?_
    · omega
  · refine J_iload_2 C dX4_setShares_7 ?_
    refine J_KSI C (c_X4_isShare hfl hI _ a1 i1) (va_cwS 1 C.1.2.2.2.2 gX4_setShares_X4_isShare rfl rfl rfl (by decide +kernel) ⟨Nat.le_of_ble_eq_true rfl, Nat.le_of_ble_eq_true rfl⟩) rfl rfl (Nat.le_of_ble_eq_true rfl) dX4_setShares_8 ⟨Nat.le_of_ble_eq_true rfl, Nat.le_of_ble_eq_true rfl⟩ (fun z_8 σ_8 hp => ?_)
    obtain ⟨hz_, hs_⟩ := hp
    have hz_ := hz_.symm
    have hs_ := hs_.symm
    subst hz_
    subst hs_
    refine J_if_eq (tgt := 41) C (by split <;> omega) dX4_setShares_11 (by decide) (fun c_11 => ?_) (fun c_11 => ?_)
    · refine J_iconst C dX4_setShares_41 ?_
      -- to the cut at 42
      refine K_42 _ ?_
      · omega
    · refine J_iload_3 C dX4_setShares_14 ?_
      refine J_KSI C (c_X4_isShare hfl hI _ a2 i2) (va_cwS 1 C.1.2.2.2.2 gX4_setShares_X4_isShare rfl rfl rfl (by decide +kernel) ⟨Nat.le_of_ble_eq_true rfl, Nat.le_of_ble_eq_true rfl⟩) rfl rfl (Nat.le_of_ble_eq_true rfl) dX4_setShares_15 ⟨Nat.le_of_ble_eq_true rfl, Nat.le_of_ble_eq_true rfl⟩ (fun z_15 σ_15 hp => ?_)
      obtain ⟨hz_, hs_⟩ := hp
      have hz_ := hz_.symm
      have hs_ := hs_.symm
      subst hz_
      subst hs_
      refine J_if_eq (tgt := 41) C (by split <;> omega) dX4_setShares_18 (by decide) (fun c_18 => ?_) (fun c_18 => ?_)
      · refine J_iconst C dX4_setShares_41 ?_
        -- to the cut at 42
        refine K_42 _ ?_
        · omega
      · refine J_iload4 C dX4_setShares_21 ?_
        refine J_KSI C (c_X4_isShare hfl hI _ a3 i3) (va_cwS 1 C.1.2.2.2.2 gX4_setShares_X4_isShare rfl rfl rfl (by decide +kernel) ⟨Nat.le_of_ble_eq_true rfl, Nat.le_of_ble_eq_true rfl⟩) rfl rfl (Nat.le_of_ble_eq_true rfl) dX4_setShares_23 ⟨Nat.le_of_ble_eq_true rfl, Nat.le_of_ble_eq_true rfl⟩ (fun z_23 σ_23 hp => ?_)
        obtain ⟨hz_, hs_⟩ := hp
        have hz_ := hz_.symm
        have hs_ := hs_.symm
        subst hz_
        subst hs_
        refine J_if_eq (tgt := 41) C (by split <;> omega) dX4_setShares_26 (by decide) (fun c_26 => ?_) (fun c_26 => ?_)
        · refine J_iconst C dX4_setShares_41 ?_
          -- to the cut at 42
          refine K_42 _ ?_
          · omega
        · refine J_iload5 C dX4_setShares_29 ?_
          refine J_KSI C (c_X4_isShare hfl hI _ a4 i4) (va_cwS 1 C.1.2.2.2.2 gX4_setShares_X4_isShare rfl rfl rfl (by decide +kernel) ⟨Nat.le_of_ble_eq_true rfl, Nat.le_of_ble_eq_true rfl⟩) rfl rfl (Nat.le_of_ble_eq_true rfl) dX4_setShares_31 ⟨Nat.le_of_ble_eq_true rfl, Nat.le_of_ble_eq_true rfl⟩ (fun z_31 σ_31 hp => ?_)
          obtain ⟨hz_, hs_⟩ := hp
          have hz_ := hz_.symm
          have hs_ := hs_.symm
          subst hz_
          subst hs_
          refine J_if_eq (tgt := 41) C (by split <;> omega) dX4_setShares_34 (by decide) (fun c_34 => ?_) (fun c_34 => ?_)
          · refine J_iconst C dX4_setShares_41 ?_
            -- to the cut at 42
            refine K_42 _ ?_
            · omega
          · refine J_iconst C dX4_setShares_37 ?_
            refine J_goto (tgt := 42) C dX4_setShares_38 (by decide) ?_
            -- to the cut at 42
            refine K_42 _ ?_
            · omega
set_option maxRecDepth 20000 in
theorem in_X4_setPenalty_X4 : ∀ w ∈ wsX40, w ∈ wsX4_setPenalty := by decide +kernel
set_option maxRecDepth 20000 in
theorem fl_X4_setPenalty_13 : Cond.fieldLink RX4 13 "JointVentureModel" "penalty" "I" ∈ wsX4_setPenalty := by decide +kernel
set_option maxHeartbeats 4000000 in
set_option maxRecDepth 100000 in
theorem c_X4_setPenalty {l : Launch} (hfl : l.stackTraces = false) {cy : Nat → ClassId} {D : va_G} {ad : Ad} (hI : Inj ad) (σ : Sg) (a9 : Int) (ia : I32 a9) : KI l yX4_setPenalty wsX4_setPenalty ({ frames := 1, cells := 0, slots := 0, locals := 23 } : Room) cy D ad σ [.ref (ad 22 0), .int (iI a9)] (fun z σ' => ∃ cd, ((cd = 0 ∧ (100 ≤ a9 ∧ a9 ≤ 1000)) ∨ (cd = 1 ∧ (¬ (100 ≤ a9 ∧ a9 ≤ 1000)))) ∧ (cd = 0 → z = σ 22 0 1 ∧ σ' = su (su σ 22 0 24 0) 22 0 1 a9) ∧ (¬ cd = 0 → σ' = su σ 22 0 24 cd)) 0 0 := by
  refine KI.of (lv0 := [some (.ref (ad 22 0)), some (.int (iI a9)), none]) hfl hI (by decide) rfl (Nat.le_of_ble_eq_true rfl) rfl ?_
  intro p e s m args below meth c C hr
  have K_15 : ∀ (g9 : Int) (cd : Int), ((cd = 0 ∧ (100 ≤ a9 ∧ a9 ≤ 1000)) ∨ (cd = 1 ∧ (¬ (100 ≤ a9 ∧ a9 ≤ 1000)))) → ((g9 = 1 ∧ cd = 0) ∨ (g9 = 0 ∧ ¬ cd = 0)) → JW p l e ({ frames := 1, cells := 0, slots := 0, locals := 23 } : Room) s m args below meth c cy D ad (Ar ad s.heap.size) 3 0 0 (MQ below (QcI cy D ad (fun z σ' => ∃ cd, ((cd = 0 ∧ (100 ≤ a9 ∧ a9 ≤ 1000)) ∨ (cd = 1 ∧ (¬ (100 ≤ a9 ∧ a9 ≤ 1000)))) ∧ (cd = 0 → z = σ 22 0 1 ∧ σ' = su (su σ 22 0 24 0) 22 0 1 a9) ∧ (¬ cd = 0 → σ' = su σ 22 0 24 cd)) s.heap.size) args s 0 0 (Ar ad s.heap.size)) (su σ 22 0 24 cd) 15 [some (.ref (ad 22 0)), some (.int (iI a9)), none] [.int (iI g9)] := by
    intro g9 cd g0 g1
    refine J_if_ne (tgt := 20) C (by omega) dX4_setPenalty_15 (by decide) (fun c_15 => ?_) (fun c_15 => ?_)
    · refine J_aload_0 C dX4_setPenalty_20 ?_
      refine J_get_4_1 C in_X4_setPenalty_X4 fl_X4_setPenalty_13 (by decide) dX4_setPenalty_21 ?_
      refine J_istore_2 C (by decide) rfl dX4_setPenalty_24 ?_
      refine J_aload_0 C dX4_setPenalty_25 ?_
      refine J_iload_1 C dX4_setPenalty_26 ?_
      refine J_put_4_1 C in_X4_setPenalty_X4 fl_X4_setPenalty_13 (by decide) dX4_setPenalty_27 ?_
      refine J_iload_2 C dX4_setPenalty_30 ?_
      refine J_retI C hr (by decide) (by decide) dX4_setPenalty_31 ?_
      have hcd : cd = 0 := by omega
      subst hcd
      exact ⟨0, g0, fun _ => ⟨su_ne3 (Or.inr (Or.inr (by decide))), rfl⟩, fun z => absurd rfl z⟩
    · refine J_iconst C dX4_setPenalty_18 ?_
      refine J_retI C hr (by decide) (by decide) dX4_setPenalty_19 ?_
      exact ⟨cd, g0, fun z => by omega, fun _ => rfl⟩
  refine J_aload_0 C dX4_setPenalty_0 ?_
  refine J_iload_1 C dX4_setPenalty_1 ?_
  refine J_bipush C (by decide) dX4_setPenalty_2 ?_
  refine J_sipush C (by decide) dX4_setPenalty_4 ?_
  refine J_KSI C (c_X4_within hfl hI _ a9 100 1000 ia (by omega) (by omega)) (va_cwS 3 C.1.2.2.2.2 gX4_setPenalty_X4_within rfl rfl rfl (by decide +kernel) ⟨Nat.le_of_ble_eq_true rfl, Nat.le_of_ble_eq_true rfl⟩) rfl rfl (Nat.le_of_ble_eq_true rfl) dX4_setPenalty_7 ⟨Nat.le_of_ble_eq_true rfl, Nat.le_of_ble_eq_true rfl⟩ (fun z_7 σ_7 hp => ?_)
  obtain ⟨hz_, hs_⟩ := hp
  have hz_ := hz_.symm
  have hs_ := hs_.symm
  subst hz_
  subst hs_
  refine J_iconst C dX4_setPenalty_10 ?_
  refine J_iconst C dX4_setPenalty_11 ?_
  refine J_KVI C (c_X4_goes hfl hI _ _ _ _ (by first | exact Or.inl rfl | exact Or.inr rfl | (split <;> omega) | omega) (by first | exact Or.inl rfl | exact Or.inr rfl | (split <;> omega) | omega) (by first | exact Or.inl rfl | exact Or.inr rfl | (split <;> omega) | omega)) (cwV 3 C.1.2.2.2.2 gX4_setPenalty_X4_goes rfl rfl rfl (by decide +kernel) ⟨Nat.le_of_ble_eq_true rfl, Nat.le_of_ble_eq_true rfl⟩) rc4 (by decide) rfl rfl (Nat.le_of_ble_eq_true rfl) dX4_setPenalty_12 ⟨Nat.le_of_ble_eq_true rfl, Nat.le_of_ble_eq_true rfl⟩ (fun z_12 σ_12 hp => ?_)
  obtain ⟨hz_, hs_⟩ := hp
  have hz_ := hz_.symm
  have hs_ := hs_.symm
  subst hz_
  subst hs_
  -- to the cut at 15
  refine K_15 _ _ ?_ ?_
  · simp only [gcd3]
    grind
  · split <;> omega
set_option maxRecDepth 20000 in
theorem in_X4_setOverhead_X4 : ∀ w ∈ wsX40, w ∈ wsX4_setOverhead := by decide +kernel
set_option maxRecDepth 20000 in
theorem fl_X4_setOverhead_121 : Cond.fieldLink RX4 121 "JointVentureModel" "overhead" "I" ∈ wsX4_setOverhead := by decide +kernel
set_option maxRecDepth 20000 in
theorem w_X4_setOverhead_c120 : Cond.constant RX4 120 (iI (100000)) ∈ wsX4_setOverhead := by decide +kernel
set_option maxHeartbeats 4000000 in
set_option maxRecDepth 100000 in
theorem c_X4_setOverhead {l : Launch} (hfl : l.stackTraces = false) {cy : Nat → ClassId} {D : va_G} {ad : Ad} (hI : Inj ad) (σ : Sg) (a9 : Int) (ia : I32 a9) : KI l yX4_setOverhead wsX4_setOverhead ({ frames := 1, cells := 0, slots := 0, locals := 23 } : Room) cy D ad σ [.ref (ad 22 0), .int (iI a9)] (fun z σ' => ∃ cd, ((cd = 0 ∧ (0 ≤ a9 ∧ a9 ≤ 100000)) ∨ (cd = 1 ∧ (¬ (0 ≤ a9 ∧ a9 ≤ 100000)))) ∧ (cd = 0 → z = σ 22 0 2 ∧ σ' = su (su σ 22 0 24 0) 22 0 2 a9) ∧ (¬ cd = 0 → σ' = su σ 22 0 24 cd)) 0 0 := by
  refine KI.of (lv0 := [some (.ref (ad 22 0)), some (.int (iI a9)), none]) hfl hI (by decide) rfl (Nat.le_of_ble_eq_true rfl) rfl ?_
  intro p e s m args below meth c C hr
  have K_13 : ∀ (g9 : Int) (cd : Int), ((cd = 0 ∧ (0 ≤ a9 ∧ a9 ≤ 100000)) ∨ (cd = 1 ∧ (¬ (0 ≤ a9 ∧ a9 ≤ 100000)))) → ((g9 = 1 ∧ cd = 0) ∨ (g9 = 0 ∧ ¬ cd = 0)) → JW p l e ({ frames := 1, cells := 0, slots := 0, locals := 23 } : Room) s m args below meth c cy D ad (Ar ad s.heap.size) 3 0 0 (MQ below (QcI cy D ad (fun z σ' => ∃ cd, ((cd = 0 ∧ (0 ≤ a9 ∧ a9 ≤ 100000)) ∨ (cd = 1 ∧ (¬ (0 ≤ a9 ∧ a9 ≤ 100000)))) ∧ (cd = 0 → z = σ 22 0 2 ∧ σ' = su (su σ 22 0 24 0) 22 0 2 a9) ∧ (¬ cd = 0 → σ' = su σ 22 0 24 cd)) s.heap.size) args s 0 0 (Ar ad s.heap.size)) (su σ 22 0 24 cd) 13 [some (.ref (ad 22 0)), some (.int (iI a9)), none] [.int (iI g9)] := by
    intro g9 cd g0 g1
    refine J_if_ne (tgt := 18) C (by omega) dX4_setOverhead_13 (by decide) (fun c_13 => ?_) (fun c_13 => ?_)
    · refine J_aload_0 C dX4_setOverhead_18 ?_
      refine J_get_4_2 C in_X4_setOverhead_X4 fl_X4_setOverhead_121 (by decide) dX4_setOverhead_19 ?_
      refine J_istore_2 C (by decide) rfl dX4_setOverhead_22 ?_
      refine J_aload_0 C dX4_setOverhead_23 ?_
      refine J_iload_1 C dX4_setOverhead_24 ?_
      refine J_put_4_2 C in_X4_setOverhead_X4 fl_X4_setOverhead_121 (by decide) dX4_setOverhead_25 ?_
      refine J_iload_2 C dX4_setOverhead_28 ?_
      refine J_retI C hr (by decide) (by decide) dX4_setOverhead_29 ?_
      have hcd : cd = 0 := by omega
      subst hcd
      exact ⟨0, g0, fun _ => ⟨su_ne3 (Or.inr (Or.inr (by decide))), rfl⟩, fun z => absurd rfl z⟩
    · refine J_iconst C dX4_setOverhead_16 ?_
      refine J_retI C hr (by decide) (by decide) dX4_setOverhead_17 ?_
      exact ⟨cd, g0, fun z => by omega, fun _ => rfl⟩
  refine J_aload_0 C dX4_setOverhead_0 ?_
  refine J_iload_1 C dX4_setOverhead_1 ?_
  refine J_iconst C dX4_setOverhead_2 ?_
  refine J_ldc C w_X4_setOverhead_c120 dX4_setOverhead_3 ?_
  refine J_KSI C (c_X4_within hfl hI _ a9 0 100000 ia (by omega) (by omega)) (va_cwS 3 C.1.2.2.2.2 gX4_setOverhead_X4_within rfl rfl rfl (by decide +kernel) ⟨Nat.le_of_ble_eq_true rfl, Nat.le_of_ble_eq_true rfl⟩) rfl rfl (Nat.le_of_ble_eq_true rfl) dX4_setOverhead_5 ⟨Nat.le_of_ble_eq_true rfl, Nat.le_of_ble_eq_true rfl⟩ (fun z_5 σ_5 hp => ?_)
  obtain ⟨hz_, hs_⟩ := hp
  have hz_ := hz_.symm
  have hs_ := hs_.symm
  subst hz_
  subst hs_
  refine J_iconst C dX4_setOverhead_8 ?_
  refine J_iconst C dX4_setOverhead_9 ?_
  refine J_KVI C (c_X4_goes hfl hI _ _ _ _ (by first | exact Or.inl rfl | exact Or.inr rfl | (split <;> omega) | omega) (by first | exact Or.inl rfl | exact Or.inr rfl | (split <;> omega) | omega) (by first | exact Or.inl rfl | exact Or.inr rfl | (split <;> omega) | omega)) (cwV 3 C.1.2.2.2.2 gX4_setOverhead_X4_goes rfl rfl rfl (by decide +kernel) ⟨Nat.le_of_ble_eq_true rfl, Nat.le_of_ble_eq_true rfl⟩) rc4 (by decide) rfl rfl (Nat.le_of_ble_eq_true rfl) dX4_setOverhead_10 ⟨Nat.le_of_ble_eq_true rfl, Nat.le_of_ble_eq_true rfl⟩ (fun z_10 σ_10 hp => ?_)
  obtain ⟨hz_, hs_⟩ := hp
  have hz_ := hz_.symm
  have hs_ := hs_.symm
  subst hz_
  subst hs_
  -- to the cut at 13
  refine K_13 _ _ ?_ ?_
  · simp only [gcd3]
    grind
  · split <;> omega
set_option maxRecDepth 20000 in
theorem in_X4_addWell_X4 : ∀ w ∈ wsX40, w ∈ wsX4_addWell := by decide +kernel
set_option maxRecDepth 20000 in
theorem fl_X4_addWell_17 : Cond.fieldLink RX4 17 "JointVentureModel" "penalties" "[I" ∈ wsX4_addWell := by decide +kernel
set_option maxRecDepth 20000 in
theorem fl_X4_addWell_80 : Cond.fieldLink RX4 80 "JointVentureModel" "wells" "I" ∈ wsX4_addWell := by decide +kernel
set_option maxRecDepth 20000 in
theorem fl_X4_addWell_13 : Cond.fieldLink RX4 13 "JointVentureModel" "penalty" "I" ∈ wsX4_addWell := by decide +kernel
set_option maxHeartbeats 4000000 in
set_option maxRecDepth 100000 in
theorem c_X4_addWell {l : Launch} (hfl : l.stackTraces = false) {cy : Nat → ClassId} {D : va_G} {ad : Ad} (hI : Inj ad) (σ : Sg) (hwm : 0 ≤ σ 22 0 6 ∧ σ 22 0 6 ≤ 6) : KI l yX4_addWell wsX4_addWell ({ frames := 1, cells := 0, slots := 0, locals := 23 } : Room) cy D ad σ [.ref (ad 22 0)] (fun z σ' => ∃ cd, ((cd = 0 ∧ (σ 22 0 6 < 6)) ∨ (cd = 1 ∧ (¬ σ 22 0 6 < 6))) ∧ (cd = 0 → z = σ 22 0 6 ∧ σ' = su (su (su σ 22 0 24 0) 24 0 (σ 22 0 6) (σ 22 0 1)) 22 0 6 (σ 22 0 6 + 1)) ∧ (¬ cd = 0 → σ' = su σ 22 0 24 cd)) 0 0 := by
  refine KI.of (lv0 := [some (.ref (ad 22 0))]) hfl hI (by decide) rfl (Nat.le_of_ble_eq_true rfl) rfl ?_
  intro p e s m args below meth c C hr
  have K_20 : ∀ (g9 : Int) (cd : Int), ((cd = 0 ∧ (σ 22 0 6 < 6)) ∨ (cd = 1 ∧ (¬ σ 22 0 6 < 6))) → ((g9 = 1 ∧ cd = 0) ∨ (g9 = 0 ∧ ¬ cd = 0)) → JW p l e ({ frames := 1, cells := 0, slots := 0, locals := 23 } : Room) s m args below meth c cy D ad (Ar ad s.heap.size) 1 0 0 (MQ below (QcI cy D ad (fun z σ' => ∃ cd, ((cd = 0 ∧ (σ 22 0 6 < 6)) ∨ (cd = 1 ∧ (¬ σ 22 0 6 < 6))) ∧ (cd = 0 → z = σ 22 0 6 ∧ σ' = su (su (su σ 22 0 24 0) 24 0 (σ 22 0 6) (σ 22 0 1)) 22 0 6 (σ 22 0 6 + 1)) ∧ (¬ cd = 0 → σ' = su σ 22 0 24 cd)) s.heap.size) args s 0 0 (Ar ad s.heap.size)) (su σ 22 0 24 cd) 20 [some (.ref (ad 22 0))] [.int (iI g9)] := by
    intro g9 cd g0 g1
    refine J_if_ne (tgt := 25) C (by omega) dX4_addWell_20 (by decide) (fun c_20 => ?_) (fun c_20 => ?_)
    · refine J_aload_0 C dX4_addWell_25 ?_
      refine J_get_4_3 C in_X4_addWell_X4 fl_X4_addWell_17 (by decide) dX4_addWell_26 ?_
      refine J_aload_0 C dX4_addWell_29 ?_
      refine J_get_4_6 C in_X4_addWell_X4 fl_X4_addWell_80 (by decide) dX4_addWell_30 ?_
      rw [su_ne3 (Or.inr (Or.inr (by decide)))]
      refine J_aload_0 C dX4_addWell_33 ?_
      refine J_get_4_1 C in_X4_addWell_X4 fl_X4_addWell_13 (by decide) dX4_addWell_34 ?_
      rw [su_ne3 (Or.inr (Or.inr (by decide)))]
      refine J_iastore C k24 (by decide) (by omega) dX4_addWell_37 ?_
      refine J_aload_0 C dX4_addWell_38 ?_
      refine J_dup C rfl dX4_addWell_39 ?_
      refine J_get_4_6 C in_X4_addWell_X4 fl_X4_addWell_80 (by decide) dX4_addWell_40 ?_
      rw [su_nk (by decide), su_ne3 (Or.inr (Or.inr (by decide)))]
      refine J_iconst C dX4_addWell_43 ?_
      refine J_iadd C dX4_addWell_44 ?_
      refine J_put_4_6 C in_X4_addWell_X4 fl_X4_addWell_80 (by decide) dX4_addWell_45 ?_
      refine J_aload_0 C dX4_addWell_48 ?_
      refine J_get_4_6 C in_X4_addWell_X4 fl_X4_addWell_80 (by decide) dX4_addWell_49 ?_
      rw [su_at]
      refine J_iconst C dX4_addWell_52 ?_
      refine J_isub C dX4_addWell_53 ?_
      refine J_retI C hr (by decide) (by decide) dX4_addWell_54 ?_
      have hcd : cd = 0 := by omega
      subst hcd
      exact ⟨0, g0, fun _ => ⟨by omega, rfl⟩, fun z => absurd rfl z⟩
    · refine J_iconst C dX4_addWell_23 ?_
      refine J_retI C hr (by decide) (by decide) dX4_addWell_24 ?_
      exact ⟨cd, g0, fun z => by omega, fun _ => rfl⟩
  refine J_aload_0 C dX4_addWell_0 ?_
  refine J_aload_0 C dX4_addWell_1 ?_
  refine J_get_4_6 C in_X4_addWell_X4 fl_X4_addWell_80 (by decide) dX4_addWell_2 ?_
  refine J_bipush C (by decide) dX4_addWell_5 ?_
  refine J_icmp_ge (tgt := 14) C (by omega) (by omega) dX4_addWell_7 (by decide) (fun c_7 => ?_) (fun c_7 => ?_)
  · refine J_iconst C dX4_addWell_14 ?_
    refine J_iconst C dX4_addWell_15 ?_
    refine J_iconst C dX4_addWell_16 ?_
    refine J_KVI C (c_X4_goes hfl hI _ _ _ _ (by first | exact Or.inl rfl | exact Or.inr rfl | (split <;> omega) | omega) (by first | exact Or.inl rfl | exact Or.inr rfl | (split <;> omega) | omega) (by first | exact Or.inl rfl | exact Or.inr rfl | (split <;> omega) | omega)) (cwV 3 C.1.2.2.2.2 gX4_addWell_X4_goes rfl rfl rfl (by decide +kernel) ⟨Nat.le_of_ble_eq_true rfl, Nat.le_of_ble_eq_true rfl⟩) rc4 (by decide) rfl rfl (Nat.le_of_ble_eq_true rfl) dX4_addWell_17 ⟨Nat.le_of_ble_eq_true rfl, Nat.le_of_ble_eq_true rfl⟩ (fun z_17 σ_17 hp => ?_)
    obtain ⟨hz_, hs_⟩ := hp
    have hz_ := hz_.symm
    have hs_ := hs_.symm
    subst hz_
    subst hs_
    -- to the cut at 20
    refine K_20 _ _ ?_ ?_
    · simp only [gcd3]
      grind
    · split <;> omega
  · refine J_iconst C dX4_addWell_10 ?_
    refine J_goto (tgt := 15) C dX4_addWell_11 (by decide) ?_
    refine J_iconst C dX4_addWell_15 ?_
    refine J_iconst C dX4_addWell_16 ?_
    refine J_KVI C (c_X4_goes hfl hI _ _ _ _ (by first | exact Or.inl rfl | exact Or.inr rfl | (split <;> omega) | omega) (by first | exact Or.inl rfl | exact Or.inr rfl | (split <;> omega) | omega) (by first | exact Or.inl rfl | exact Or.inr rfl | (split <;> omega) | omega)) (cwV 3 C.1.2.2.2.2 gX4_addWell_X4_goes rfl rfl rfl (by decide +kernel) ⟨Nat.le_of_ble_eq_true rfl, Nat.le_of_ble_eq_true rfl⟩) rc4 (by decide) rfl rfl (Nat.le_of_ble_eq_true rfl) dX4_addWell_17 ⟨Nat.le_of_ble_eq_true rfl, Nat.le_of_ble_eq_true rfl⟩ (fun z_17 σ_17 hp => ?_)
    obtain ⟨hz_, hs_⟩ := hp
    have hz_ := hz_.symm
    have hs_ := hs_.symm
    subst hz_
    subst hs_
    -- to the cut at 20
    refine K_20 _ _ ?_ ?_
    · simp only [gcd3]
      grind
    · split <;> omega
set_option maxRecDepth 20000 in
theorem in_X4_hasOthers_X4 : ∀ w ∈ wsX40, w ∈ wsX4_hasOthers := by decide +kernel
set_option maxRecDepth 20000 in
theorem fl_X4_hasOthers_7 : Cond.fieldLink RX4 7 "JointVentureModel" "shares" "[I" ∈ wsX4_hasOthers := by decide +kernel
set_option maxRecDepth 20000 in
theorem fl_X4_hasOthers_24 : Cond.fieldLink RX4 24 "JointVentureModel" "outs" "[Z" ∈ wsX4_hasOthers := by decide +kernel
set_option maxHeartbeats 4000000 in
set_option maxRecDepth 100000 in
theorem c_X4_hasOthers {l : Launch} (hfl : l.stackTraces = false) {cy : Nat → ClassId} {D : va_G} {ad : Ad} (hI : Inj ad) (σ : Sg) (w q : Int) (hw : 0 ≤ w ∧ w < 6) (hq : 0 ≤ q ∧ q < 5) (hs : ∀ q, 0 ≤ q → q < 5 → 0 ≤ σ 23 0 q ∧ σ 23 0 q ≤ 10000) (hou : ∀ j, 0 ≤ j → j < 30 → σ 26 0 j = 0 ∨ σ 26 0 j = 1) : KI l yX4_hasOthers wsX4_hasOthers ({ frames := 0, cells := 0, slots := 0, locals := 0 } : Room) cy D ad σ [.ref (ad 22 0), .int (iI w), .int (iI q)] (fun z σ' => ((z = 1 ∧ exm σ w q) ∨ (z = 0 ∧ ¬ (exm σ w q))) ∧ σ' = σ) 0 0 := by
  refine KI.of (lv0 := [some (.ref (ad 22 0)), some (.int (iI w)), some (.int (iI q)), none, none]) hfl hI (by decide) rfl (Nat.le_of_ble_eq_true rfl) rfl ?_
  intro p e s m args below meth c C hr
  have K_5 : ∀ (n_ : Nat) (h : Int) (i : Int), (0 ≤ i) → (i ≤ 5) → (5 - i < n_) → ((h = 1 ∧ exm σ w q) ∨ (h = 0 ∧ ∀ x, 0 ≤ x → x < i → x ≠ q → 0 < σ 23 0 x → ¬ σ 26 0 (5 * w + x) = 0)) → JW p l e ({ frames := 0, cells := 0, slots := 0, locals := 0 } : Room) s m args below meth c cy D ad (Ar ad s.heap.size) 5 0 0 (MQ below (QcI cy D ad (fun z σ' => ((z = 1 ∧ exm σ w q) ∨ (z = 0 ∧ ¬ (exm σ w q))) ∧ σ' = σ) s.heap.size) args s 0 0 (Ar ad s.heap.size)) σ 5 [some (.ref (ad 22 0)), some (.int (iI w)), some (.int (iI q)), some (.int (iI h)), some (.int (iI i))] [] := by
    intro n_
    induction n_ with
    | zero => intro h i g0 g1 g2 g3; omega
    | succ n_ ih_5 =>
      intro h i g0 g1 g2 g3
      refine J_iload4 C dX4_hasOthers_5 ?_
      refine J_iconst C dX4_hasOthers_7 ?_
      refine J_icmp_ge (tgt := 57) C (by omega) (by omega) dX4_hasOthers_8 (by decide) (fun c_8 => ?_) (fun c_8 => ?_)
      · refine J_iload_3 C dX4_hasOthers_57 ?_
        refine J_retZ C hr (by omega) (by decide) (by decide) dX4_hasOthers_58 ?_
        refine ⟨?_, rfl⟩
        rcases g3 with ⟨e1, e2⟩ | ⟨e1, e2⟩
        · exact Or.inl ⟨e1, e2⟩
        · exact Or.inr ⟨e1, fun ⟨x, a, b, c, d, e⟩ => e2 x a (by omega) c d e⟩
      · refine J_iload_3 C dX4_hasOthers_11 ?_
        refine J_if_ne (tgt := 45) C (by omega) dX4_hasOthers_12 (by decide) (fun c_12 => ?_) (fun c_12 => ?_)
        · refine J_iconst C dX4_hasOthers_45 ?_
          refine J_goto (tgt := 50) C dX4_hasOthers_46 (by decide) ?_
          refine J_istore_3 C (by decide) rfl dX4_hasOthers_50 ?_
          refine J_iinc4 C (by decide) rfl dX4_hasOthers_51 ?_
          refine J_goto (tgt := 5) C dX4_hasOthers_54 (by decide) ?_
          -- to the cut at 5
          refine ih_5 _ _ ?_ ?_ ?_ ?_
          · omega
          · omega
          · omega
          · rcases g3 with ⟨e1, e2⟩ | ⟨e1, e2⟩
            · first
              | exact Or.inl ⟨rfl, e2⟩
              | omega
            · first
              | omega
              | exact Or.inl ⟨rfl, i, by omega, by omega, by omega, by omega, by omega⟩
              | (refine Or.inr ⟨rfl, fun x a b c d e => ?_⟩
                 by_cases hx : x = i
                 · subst hx; omega
                 · exact e2 x a (by omega) c d e)
        · refine J_iload4 C dX4_hasOthers_15 ?_
          refine J_iload_2 C dX4_hasOthers_17 ?_
          refine J_icmp_eq (tgt := 49) C (by omega) (by omega) dX4_hasOthers_18 (by decide) (fun c_18 => ?_) (fun c_18 => ?_)
          · refine J_iconst C dX4_hasOthers_49 ?_
            refine J_istore_3 C (by decide) rfl dX4_hasOthers_50 ?_
            refine J_iinc4 C (by decide) rfl dX4_hasOthers_51 ?_
            refine J_goto (tgt := 5) C dX4_hasOthers_54 (by decide) ?_
            -- to the cut at 5
            refine ih_5 _ _ ?_ ?_ ?_ ?_
            · omega
            · omega
            · omega
            · rcases g3 with ⟨e1, e2⟩ | ⟨e1, e2⟩
              · first
                | exact Or.inl ⟨rfl, e2⟩
                | omega
              · first
                | omega
                | exact Or.inl ⟨rfl, i, by omega, by omega, by omega, by omega, by omega⟩
                | (refine Or.inr ⟨rfl, fun x a b c d e => ?_⟩
                   by_cases hx : x = i
                   · subst hx; omega
                   · exact e2 x a (by omega) c d e)
          · refine J_aload_0 C dX4_hasOthers_21 ?_
            refine J_get_4_0 C in_X4_hasOthers_X4 fl_X4_hasOthers_7 (by decide) dX4_hasOthers_22 ?_
            refine J_iload4 C dX4_hasOthers_25 ?_
            refine J_iaload C k23 (by decide) (by omega) dX4_hasOthers_27 ?_
            refine J_if_le (tgt := 49) C (by have := hs i (by omega) (by omega); omega) dX4_hasOthers_28 (by decide) (fun c_28 => ?_) (fun c_28 => ?_)
            · refine J_iconst C dX4_hasOthers_49 ?_
              refine J_istore_3 C (by decide) rfl dX4_hasOthers_50 ?_
              refine J_iinc4 C (by decide) rfl dX4_hasOthers_51 ?_
              refine J_goto (tgt := 5) C dX4_hasOthers_54 (by decide) ?_
              -- to the cut at 5
              refine ih_5 _ _ ?_ ?_ ?_ ?_
              · omega
              · omega
              · omega
              · rcases g3 with ⟨e1, e2⟩ | ⟨e1, e2⟩
                · first
                  | exact Or.inl ⟨rfl, e2⟩
                  | omega
                · first
                  | omega
                  | exact Or.inl ⟨rfl, i, by omega, by omega, by omega, by omega, by omega⟩
                  | (refine Or.inr ⟨rfl, fun x a b c d e => ?_⟩
                     by_cases hx : x = i
                     · subst hx; omega
                     · exact e2 x a (by omega) c d e)
            · refine J_aload_0 C dX4_hasOthers_31 ?_
              refine J_get_4_5 C in_X4_hasOthers_X4 fl_X4_hasOthers_24 (by decide) dX4_hasOthers_32 ?_
              refine J_iconst C dX4_hasOthers_35 ?_
              refine J_iload_1 C dX4_hasOthers_36 ?_
              refine J_imul C dX4_hasOthers_37 ?_
              refine J_iload4 C dX4_hasOthers_38 ?_
              refine J_iadd C dX4_hasOthers_40 ?_
              refine J_baload C k26 (by decide) (by omega) dX4_hasOthers_41 ?_
              refine J_if_ne (tgt := 49) C (by have := hou (5 * w + i) (by omega) (by omega); omega) dX4_hasOthers_42 (by decide) (fun c_42 => ?_) (fun c_42 => ?_)
              · refine J_iconst C dX4_hasOthers_49 ?_
                refine J_istore_3 C (by decide) rfl dX4_hasOthers_50 ?_
                refine J_iinc4 C (by decide) rfl dX4_hasOthers_51 ?_
                refine J_goto (tgt := 5) C dX4_hasOthers_54 (by decide) ?_
                -- to the cut at 5
                refine ih_5 _ _ ?_ ?_ ?_ ?_
                · omega
                · omega
                · omega
                · rcases g3 with ⟨e1, e2⟩ | ⟨e1, e2⟩
                  · first
                    | exact Or.inl ⟨rfl, e2⟩
                    | omega
                  · first
                    | omega
                    | exact Or.inl ⟨rfl, i, by omega, by omega, by omega, by omega, by omega⟩
                    | (refine Or.inr ⟨rfl, fun x a b c d e => ?_⟩
                       by_cases hx : x = i
                       · subst hx; omega
                       · exact e2 x a (by omega) c d e)
              · refine J_iconst C dX4_hasOthers_45 ?_
                refine J_goto (tgt := 50) C dX4_hasOthers_46 (by decide) ?_
                refine J_istore_3 C (by decide) rfl dX4_hasOthers_50 ?_
                refine J_iinc4 C (by decide) rfl dX4_hasOthers_51 ?_
                refine J_goto (tgt := 5) C dX4_hasOthers_54 (by decide) ?_
                -- to the cut at 5
                refine ih_5 _ _ ?_ ?_ ?_ ?_
                · omega
                · omega
                · omega
                · rcases g3 with ⟨e1, e2⟩ | ⟨e1, e2⟩
                  · first
                    | exact Or.inl ⟨rfl, e2⟩
                    | omega
                  · first
                    | omega
                    | exact Or.inl ⟨rfl, i, by omega, by omega, by omega, by omega, by omega⟩
                    | (refine Or.inr ⟨rfl, fun x a b c d e => ?_⟩
                       by_cases hx : x = i
                       · subst hx; omega
                       · exact e2 x a (by omega) c d e)
  refine J_iconst C dX4_hasOthers_0 ?_
  refine J_istore_3 C (by decide) rfl dX4_hasOthers_1 ?_
  refine J_iconst C dX4_hasOthers_2 ?_
  refine J_istore4 C (by decide) rfl dX4_hasOthers_3 ?_
  -- to the cut at 5
  refine K_5 6 _ _ ?_ ?_ ?_ ?_
  · decide
  · decide
  · decide
  · exact Or.inr ⟨rfl, fun x a b => by omega⟩
set_option maxRecDepth 20000 in
theorem in_X4_elect_X4 : ∀ w ∈ wsX40, w ∈ wsX4_elect := by decide +kernel
set_option maxRecDepth 20000 in
theorem fl_X4_elect_24 : Cond.fieldLink RX4 24 "JointVentureModel" "outs" "[Z" ∈ wsX4_elect := by decide +kernel
set_option maxRecDepth 20000 in
theorem fl_X4_elect_20 : Cond.fieldLink RX4 20 "JointVentureModel" "touched" "[Z" ∈ wsX4_elect := by decide +kernel
set_option maxRecDepth 20000 in
theorem fl_X4_elect_7 : Cond.fieldLink RX4 7 "JointVentureModel" "shares" "[I" ∈ wsX4_elect := by decide +kernel
set_option maxHeartbeats 4000000 in
set_option maxRecDepth 100000 in
theorem c_X4_elect {l : Launch} (hfl : l.stackTraces = false) {cy : Nat → ClassId} {D : va_G} {ad : Ad} (hI : Inj ad) (σ : Sg) (w q b9 : Int) (hw9 : I32 w) (hq9 : I32 q) (hb9 : b9 = 0 ∨ b9 = 1) (hM : Mi σ) : KI l yX4_elect wsX4_elect ({ frames := 2, cells := 0, slots := 0, locals := 43 } : Room) cy D ad σ [.ref (ad 22 0), .int (iI w), .int (iI q), .int (iI b9)] (fun z σ' => ∃ cd, ((cd = 0 ∧ (((0 ≤ w ∧ w < σ 22 0 6) ∧ (0 ≤ q ∧ q < 5)) ∧ (((0 ≤ w ∧ w < σ 22 0 6) ∧ (0 ≤ q ∧ q < 5)) ∧ σ 25 0 w = 0 ∧ 0 < σ 23 0 q ∧ (b9 = 0 → exm σ w q)))) ∨ (cd = 1 ∧ (¬ ((0 ≤ w ∧ w < σ 22 0 6) ∧ (0 ≤ q ∧ q < 5)))) ∨ (cd = 2 ∧ (((0 ≤ w ∧ w < σ 22 0 6) ∧ (0 ≤ q ∧ q < 5)) ∧ ¬ (((0 ≤ w ∧ w < σ 22 0 6) ∧ (0 ≤ q ∧ q < 5)) ∧ σ 25 0 w = 0 ∧ 0 < σ 23 0 q ∧ (b9 = 0 → exm σ w q))))) ∧ (cd = 0 → z = (if σ 26 0 (5 * w + q) = 0 then 1 else 0) ∧ σ' = su (su σ 22 0 24 0) 26 0 (5 * w + q) (1 - b9)) ∧ (¬ cd = 0 → σ' = su σ 22 0 24 cd)) 0 0 := by
  refine KI.of (lv0 := [some (.ref (ad 22 0)), some (.int (iI w)), some (.int (iI q)), some (.int (iI b9)), none, none, none]) hfl hI (by decide) rfl (Nat.le_of_ble_eq_true rfl) rfl ?_
  intro p e s m args below meth c C hr
  have hwm := hM.2.2.2.2.2.1
  have hou := hM.2.2.1
  have hs : ∀ q, 0 ≤ q → q < 5 → 0 ≤ σ 23 0 q ∧ σ 23 0 q ≤ 10000 := fun x a b => by have := hM.2.2.2.1.1 x a b; rw [shm_at a b] at this; exact this
  have K_74 : ∀ (g9 : Int) (cd : Int), ((cd = 0 ∧ (((0 ≤ w ∧ w < σ 22 0 6) ∧ (0 ≤ q ∧ q < 5)) ∧ (((0 ≤ w ∧ w < σ 22 0 6) ∧ (0 ≤ q ∧ q < 5)) ∧ σ 25 0 w = 0 ∧ 0 < σ 23 0 q ∧ (b9 = 0 → exm σ w q)))) ∨ (cd = 1 ∧ (¬ ((0 ≤ w ∧ w < σ 22 0 6) ∧ (0 ≤ q ∧ q < 5)))) ∨ (cd = 2 ∧ (((0 ≤ w ∧ w < σ 22 0 6) ∧ (0 ≤ q ∧ q < 5)) ∧ ¬ (((0 ≤ w ∧ w < σ 22 0 6) ∧ (0 ≤ q ∧ q < 5)) ∧ σ 25 0 w = 0 ∧ 0 < σ 23 0 q ∧ (b9 = 0 → exm σ w q))))) → ((g9 = 1 ∧ cd = 0) ∨ (g9 = 0 ∧ ¬ cd = 0)) → JW p l e ({ frames := 2, cells := 0, slots := 0, locals := 43 } : Room) s m args below meth c cy D ad (Ar ad s.heap.size) 7 0 0 (MQ below (QcI cy D ad (fun z σ' => ∃ cd, ((cd = 0 ∧ (((0 ≤ w ∧ w < σ 22 0 6) ∧ (0 ≤ q ∧ q < 5)) ∧ (((0 ≤ w ∧ w < σ 22 0 6) ∧ (0 ≤ q ∧ q < 5)) ∧ σ 25 0 w = 0 ∧ 0 < σ 23 0 q ∧ (b9 = 0 → exm σ w q)))) ∨ (cd = 1 ∧ (¬ ((0 ≤ w ∧ w < σ 22 0 6) ∧ (0 ≤ q ∧ q < 5)))) ∨ (cd = 2 ∧ (((0 ≤ w ∧ w < σ 22 0 6) ∧ (0 ≤ q ∧ q < 5)) ∧ ¬ (((0 ≤ w ∧ w < σ 22 0 6) ∧ (0 ≤ q ∧ q < 5)) ∧ σ 25 0 w = 0 ∧ 0 < σ 23 0 q ∧ (b9 = 0 → exm σ w q))))) ∧ (cd = 0 → z = (if σ 26 0 (5 * w + q) = 0 then 1 else 0) ∧ σ' = su (su σ 22 0 24 0) 26 0 (5 * w + q) (1 - b9)) ∧ (¬ cd = 0 → σ' = su σ 22 0 24 cd)) s.heap.size) args s 0 0 (Ar ad s.heap.size)) (su σ 22 0 24 cd) 74 [some (.ref (ad 22 0)), some (.int (iI w)), some (.int (iI q)), some (.int (iI b9)), none, none, none] [.int (iI g9)] := by
    intro g9 cd g0 g1
    refine J_if_ne (tgt := 79) C (by omega) dX4_elect_74 (by decide) (fun c_74 => ?_) (fun c_74 => ?_)
    · refine J_aload_0 C dX4_elect_79 ?_
      refine J_get_4_5 C in_X4_elect_X4 fl_X4_elect_24 (by decide) dX4_elect_80 ?_
      refine J_iconst C dX4_elect_83 ?_
      refine J_iload_1 C dX4_elect_84 ?_
      refine J_imul C dX4_elect_85 ?_
      refine J_iload_2 C dX4_elect_86 ?_
      have hw2 : (0 ≤ w ∧ w < σ 22 0 6) ∧ (0 ≤ q ∧ q < 5) := by rcases g0 with z | z | z <;> first | exact z.2.1 | omega
      refine J_iadd C dX4_elect_87 ?_
      refine J_baload C k26 (by decide) (by omega) dX4_elect_88 ?_
      rw [su_nk (by decide)]
      refine J_if_ne (tgt := 96) C (by have := hou (5 * w + q) (by omega) (by omega); omega) dX4_elect_89 (by decide) (fun c_89 => ?_) (fun c_89 => ?_)
      · refine J_iconst C dX4_elect_96 ?_
        refine J_istore6 C (by decide) rfl dX4_elect_97 ?_
        refine J_aload_0 C dX4_elect_99 ?_
        refine J_get_4_5 C in_X4_elect_X4 fl_X4_elect_24 (by decide) dX4_elect_100 ?_
        refine J_iconst C dX4_elect_103 ?_
        refine J_iload_1 C dX4_elect_104 ?_
        refine J_imul C dX4_elect_105 ?_
        refine J_iload_2 C dX4_elect_106 ?_
        refine J_iadd C dX4_elect_107 ?_
        refine J_iload_3 C dX4_elect_108 ?_
        refine J_if_ne (tgt := 116) C (by omega) dX4_elect_109 (by decide) (fun c_109 => ?_) (fun c_109 => ?_)
        · refine J_iconst C dX4_elect_116 ?_
          refine J_bastore C k26 (by decide) (by omega) (by first | exact Or.inl rfl | exact Or.inr rfl | omega | (split <;> omega)) dX4_elect_117 ?_
          refine J_iload6 C dX4_elect_118 ?_
          refine J_retZ C hr (by first | exact Or.inl rfl | exact Or.inr rfl | omega | (split <;> omega)) (by decide) (by decide) dX4_elect_120 ?_
          have hcd : cd = 0 := by omega
          subst hcd
          rcases hb9 with rfl | rfl
          all_goals first
            | (exfalso; omega)
            | exact ⟨0, g0, fun _ => ⟨(if_pos (by assumption)).symm, rfl⟩, fun z => absurd rfl z⟩
            | exact ⟨0, g0, fun _ => ⟨(if_neg (by assumption)).symm, rfl⟩, fun z => absurd rfl z⟩
        · refine J_iconst C dX4_elect_112 ?_
          refine J_goto (tgt := 117) C dX4_elect_113 (by decide) ?_
          refine J_bastore C k26 (by decide) (by omega) (by first | exact Or.inl rfl | exact Or.inr rfl | omega | (split <;> omega)) dX4_elect_117 ?_
          refine J_iload6 C dX4_elect_118 ?_
          refine J_retZ C hr (by first | exact Or.inl rfl | exact Or.inr rfl | omega | (split <;> omega)) (by decide) (by decide) dX4_elect_120 ?_
          have hcd : cd = 0 := by omega
          subst hcd
          rcases hb9 with rfl | rfl
          all_goals first
            | (exfalso; omega)
            | exact ⟨0, g0, fun _ => ⟨(if_pos (by assumption)).symm, rfl⟩, fun z => absurd rfl z⟩
            | exact ⟨0, g0, fun _ => ⟨(if_neg (by assumption)).symm, rfl⟩, fun z => absurd rfl z⟩
      · refine J_iconst C dX4_elect_92 ?_
        refine J_goto (tgt := 97) C dX4_elect_93 (by decide) ?_
        refine J_istore6 C (by decide) rfl dX4_elect_97 ?_
        refine J_aload_0 C dX4_elect_99 ?_
        refine J_get_4_5 C in_X4_elect_X4 fl_X4_elect_24 (by decide) dX4_elect_100 ?_
        refine J_iconst C dX4_elect_103 ?_
        refine J_iload_1 C dX4_elect_104 ?_
        refine J_imul C dX4_elect_105 ?_
        refine J_iload_2 C dX4_elect_106 ?_
        refine J_iadd C dX4_elect_107 ?_
        refine J_iload_3 C dX4_elect_108 ?_
        refine J_if_ne (tgt := 116) C (by omega) dX4_elect_109 (by decide) (fun c_109 => ?_) (fun c_109 => ?_)
        · refine J_iconst C dX4_elect_116 ?_
          refine J_bastore C k26 (by decide) (by omega) (by first | exact Or.inl rfl | exact Or.inr rfl | omega | (split <;> omega)) dX4_elect_117 ?_
          refine J_iload6 C dX4_elect_118 ?_
          refine J_retZ C hr (by first | exact Or.inl rfl | exact Or.inr rfl | omega | (split <;> omega)) (by decide) (by decide) dX4_elect_120 ?_
          have hcd : cd = 0 := by omega
          subst hcd
          rcases hb9 with rfl | rfl
          all_goals first
            | (exfalso; omega)
            | exact ⟨0, g0, fun _ => ⟨(if_pos (by assumption)).symm, rfl⟩, fun z => absurd rfl z⟩
            | exact ⟨0, g0, fun _ => ⟨(if_neg (by assumption)).symm, rfl⟩, fun z => absurd rfl z⟩
        · refine J_iconst C dX4_elect_112 ?_
          refine J_goto (tgt := 117) C dX4_elect_113 (by decide) ?_
          refine J_bastore C k26 (by decide) (by omega) (by first | exact Or.inl rfl | exact Or.inr rfl | omega | (split <;> omega)) dX4_elect_117 ?_
          refine J_iload6 C dX4_elect_118 ?_
          refine J_retZ C hr (by first | exact Or.inl rfl | exact Or.inr rfl | omega | (split <;> omega)) (by decide) (by decide) dX4_elect_120 ?_
          have hcd : cd = 0 := by omega
          subst hcd
          rcases hb9 with rfl | rfl
          all_goals first
            | (exfalso; omega)
            | exact ⟨0, g0, fun _ => ⟨(if_pos (by assumption)).symm, rfl⟩, fun z => absurd rfl z⟩
            | exact ⟨0, g0, fun _ => ⟨(if_neg (by assumption)).symm, rfl⟩, fun z => absurd rfl z⟩
    · refine J_iconst C dX4_elect_77 ?_
      refine J_retZ C hr (by first | exact Or.inl rfl | exact Or.inr rfl | omega | (split <;> omega)) (by decide) (by decide) dX4_elect_78 ?_
      exact ⟨cd, g0, fun z => by omega, fun _ => rfl⟩
  have K_63 : ∀ (kn : Int) (cn : Int), ((kn = 1 ∧ ((0 ≤ w ∧ w < σ 22 0 6) ∧ (0 ≤ q ∧ q < 5))) ∨ (kn = 0 ∧ ¬ ((0 ≤ w ∧ w < σ 22 0 6) ∧ (0 ≤ q ∧ q < 5)))) → ((cn = 1 ∧ (((0 ≤ w ∧ w < σ 22 0 6) ∧ (0 ≤ q ∧ q < 5)) ∧ σ 25 0 w = 0 ∧ 0 < σ 23 0 q ∧ (b9 = 0 → exm σ w q))) ∨ (cn = 0 ∧ ¬ (((0 ≤ w ∧ w < σ 22 0 6) ∧ (0 ≤ q ∧ q < 5)) ∧ σ 25 0 w = 0 ∧ 0 < σ 23 0 q ∧ (b9 = 0 → exm σ w q)))) → JW p l e ({ frames := 2, cells := 0, slots := 0, locals := 43 } : Room) s m args below meth c cy D ad (Ar ad s.heap.size) 7 0 0 (MQ below (QcI cy D ad (fun z σ' => ∃ cd, ((cd = 0 ∧ (((0 ≤ w ∧ w < σ 22 0 6) ∧ (0 ≤ q ∧ q < 5)) ∧ (((0 ≤ w ∧ w < σ 22 0 6) ∧ (0 ≤ q ∧ q < 5)) ∧ σ 25 0 w = 0 ∧ 0 < σ 23 0 q ∧ (b9 = 0 → exm σ w q)))) ∨ (cd = 1 ∧ (¬ ((0 ≤ w ∧ w < σ 22 0 6) ∧ (0 ≤ q ∧ q < 5)))) ∨ (cd = 2 ∧ (((0 ≤ w ∧ w < σ 22 0 6) ∧ (0 ≤ q ∧ q < 5)) ∧ ¬ (((0 ≤ w ∧ w < σ 22 0 6) ∧ (0 ≤ q ∧ q < 5)) ∧ σ 25 0 w = 0 ∧ 0 < σ 23 0 q ∧ (b9 = 0 → exm σ w q))))) ∧ (cd = 0 → z = (if σ 26 0 (5 * w + q) = 0 then 1 else 0) ∧ σ' = su (su σ 22 0 24 0) 26 0 (5 * w + q) (1 - b9)) ∧ (¬ cd = 0 → σ' = su σ 22 0 24 cd)) s.heap.size) args s 0 0 (Ar ad s.heap.size)) σ 63 [some (.ref (ad 22 0)), some (.int (iI w)), some (.int (iI q)), some (.int (iI b9)), some (.int (iI kn)), none, none] [.int (iI cn)] := by
    intro kn cn u0 u1
    refine J_istore5 C (by decide) rfl dX4_elect_63 ?_
    refine J_aload_0 C dX4_elect_65 ?_
    refine J_iload4 C dX4_elect_66 ?_
    refine J_iload5 C dX4_elect_68 ?_
    refine J_iconst C dX4_elect_70 ?_
    refine J_KVI C (c_X4_goes hfl hI _ _ _ _ (by first | exact Or.inl rfl | exact Or.inr rfl | (split <;> omega) | omega) (by first | exact Or.inl rfl | exact Or.inr rfl | (split <;> omega) | omega) (by first | exact Or.inl rfl | exact Or.inr rfl | (split <;> omega) | omega)) (cwV 3 C.1.2.2.2.2 gX4_elect_X4_goes rfl rfl rfl (by decide +kernel) ⟨Nat.le_of_ble_eq_true rfl, Nat.le_of_ble_eq_true rfl⟩) rc4 (by decide) rfl rfl (Nat.le_of_ble_eq_true rfl) dX4_elect_71 ⟨Nat.le_of_ble_eq_true rfl, Nat.le_of_ble_eq_true rfl⟩ (fun z_71 σ_71 hp => ?_)
    obtain ⟨hz_, hs_⟩ := hp
    have hz_ := hz_.symm
    have hs_ := hs_.symm
    subst hz_
    subst hs_
    -- to the cut at 74
    refine J_fg4 ?_
    refine J_fg5 ?_
    refine K_74 _ _ ?_ ?_
    · simp only [gcd3]
      grind
    · split <;> omega
  have K_20 : ∀ (kn : Int), ((kn = 1 ∧ ((0 ≤ w ∧ w < σ 22 0 6) ∧ (0 ≤ q ∧ q < 5))) ∨ (kn = 0 ∧ ¬ ((0 ≤ w ∧ w < σ 22 0 6) ∧ (0 ≤ q ∧ q < 5)))) → JW p l e ({ frames := 2, cells := 0, slots := 0, locals := 43 } : Room) s m args below meth c cy D ad (Ar ad s.heap.size) 7 0 0 (MQ below (QcI cy D ad (fun z σ' => ∃ cd, ((cd = 0 ∧ (((0 ≤ w ∧ w < σ 22 0 6) ∧ (0 ≤ q ∧ q < 5)) ∧ (((0 ≤ w ∧ w < σ 22 0 6) ∧ (0 ≤ q ∧ q < 5)) ∧ σ 25 0 w = 0 ∧ 0 < σ 23 0 q ∧ (b9 = 0 → exm σ w q)))) ∨ (cd = 1 ∧ (¬ ((0 ≤ w ∧ w < σ 22 0 6) ∧ (0 ≤ q ∧ q < 5)))) ∨ (cd = 2 ∧ (((0 ≤ w ∧ w < σ 22 0 6) ∧ (0 ≤ q ∧ q < 5)) ∧ ¬ (((0 ≤ w ∧ w < σ 22 0 6) ∧ (0 ≤ q ∧ q < 5)) ∧ σ 25 0 w = 0 ∧ 0 < σ 23 0 q ∧ (b9 = 0 → exm σ w q))))) ∧ (cd = 0 → z = (if σ 26 0 (5 * w + q) = 0 then 1 else 0) ∧ σ' = su (su σ 22 0 24 0) 26 0 (5 * w + q) (1 - b9)) ∧ (¬ cd = 0 → σ' = su σ 22 0 24 cd)) s.heap.size) args s 0 0 (Ar ad s.heap.size)) σ 20 [some (.ref (ad 22 0)), some (.int (iI w)), some (.int (iI q)), some (.int (iI b9)), none, none, none] [.int (iI kn)] := by
    intro kn u0
    refine J_istore4 C (by decide) rfl dX4_elect_20 ?_
    refine J_iload4 C dX4_elect_22 ?_
    refine J_if_eq (tgt := 62) C (by omega) dX4_elect_24 (by decide) (fun c_24 => ?_) (fun c_24 => ?_)
    · refine J_iconst C dX4_elect_62 ?_
      -- to the cut at 63
      refine K_63 _ _ ?_ ?_
      · exact u0
      · first
          | (exact Or.inr ⟨rfl, fun z => by have z1 := z.1; have z2 := z.2.1; have z3 := z.2.2.1; omega⟩)
          | (exact Or.inr ⟨rfl, fun z => by rcases hp with ⟨e1, e2⟩ | ⟨e1, e2⟩; omega; exact e2 (z.2.2.2 (by omega))⟩)
          | (exact Or.inl ⟨rfl, by omega, by omega, by omega, fun z => by omega⟩)
          | (refine Or.inl ⟨rfl, by omega, by omega, by omega, fun z => ?_⟩
             rcases hp with ⟨e1, e2⟩ | ⟨e1, e2⟩
             · exact e2
             · omega)
    · refine J_aload_0 C dX4_elect_27 ?_
      refine J_get_4_4 C in_X4_elect_X4 fl_X4_elect_20 (by decide) dX4_elect_28 ?_
      refine J_iload_1 C dX4_elect_31 ?_
      refine J_baload C k25 (by decide) (by omega) dX4_elect_32 ?_
      refine J_if_ne (tgt := 62) C (by have := (hM.2.2.2.2.1 w (by omega) (by omega)).2.2; omega) dX4_elect_33 (by decide) (fun c_33 => ?_) (fun c_33 => ?_)
      · refine J_iconst C dX4_elect_62 ?_
        -- to the cut at 63
        refine K_63 _ _ ?_ ?_
        · exact u0
        · first
            | (exact Or.inr ⟨rfl, fun z => by have z1 := z.1; have z2 := z.2.1; have z3 := z.2.2.1; omega⟩)
            | (exact Or.inr ⟨rfl, fun z => by rcases hp with ⟨e1, e2⟩ | ⟨e1, e2⟩; omega; exact e2 (z.2.2.2 (by omega))⟩)
            | (exact Or.inl ⟨rfl, by omega, by omega, by omega, fun z => by omega⟩)
            | (refine Or.inl ⟨rfl, by omega, by omega, by omega, fun z => ?_⟩
               rcases hp with ⟨e1, e2⟩ | ⟨e1, e2⟩
               · exact e2
               · omega)
      · refine J_aload_0 C dX4_elect_36 ?_
        refine J_get_4_0 C in_X4_elect_X4 fl_X4_elect_7 (by decide) dX4_elect_37 ?_
        refine J_iload_2 C dX4_elect_40 ?_
        refine J_iaload C k23 (by decide) (by omega) dX4_elect_41 ?_
        refine J_if_le (tgt := 62) C (by have := hs q (by omega) (by omega); omega) dX4_elect_42 (by decide) (fun c_42 => ?_) (fun c_42 => ?_)
        · refine J_iconst C dX4_elect_62 ?_
          -- to the cut at 63
          refine K_63 _ _ ?_ ?_
          · exact u0
          · first
              | (exact Or.inr ⟨rfl, fun z => by have z1 := z.1; have z2 := z.2.1; have z3 := z.2.2.1; omega⟩)
              | (exact Or.inr ⟨rfl, fun z => by rcases hp with ⟨e1, e2⟩ | ⟨e1, e2⟩; omega; exact e2 (z.2.2.2 (by omega))⟩)
              | (exact Or.inl ⟨rfl, by omega, by omega, by omega, fun z => by omega⟩)
              | (refine Or.inl ⟨rfl, by omega, by omega, by omega, fun z => ?_⟩
                 rcases hp with ⟨e1, e2⟩ | ⟨e1, e2⟩
                 · exact e2
                 · omega)
        · refine J_iload_3 C dX4_elect_45 ?_
          refine J_if_ne (tgt := 58) C (by omega) dX4_elect_46 (by decide) (fun c_46 => ?_) (fun c_46 => ?_)
          · refine J_iconst C dX4_elect_58 ?_
            refine J_goto (tgt := 63) C dX4_elect_59 (by decide) ?_
            -- to the cut at 63
            refine K_63 _ _ ?_ ?_
            · exact u0
            · first
                | (exact Or.inr ⟨rfl, fun z => by have z1 := z.1; have z2 := z.2.1; have z3 := z.2.2.1; omega⟩)
                | (exact Or.inr ⟨rfl, fun z => by rcases hp with ⟨e1, e2⟩ | ⟨e1, e2⟩; omega; exact e2 (z.2.2.2 (by omega))⟩)
                | (exact Or.inl ⟨rfl, by omega, by omega, by omega, fun z => by omega⟩)
                | (refine Or.inl ⟨rfl, by omega, by omega, by omega, fun z => ?_⟩
                   rcases hp with ⟨e1, e2⟩ | ⟨e1, e2⟩
                   · exact e2
                   · omega)
          · refine J_aload_0 C dX4_elect_49 ?_
            refine J_iload_1 C dX4_elect_50 ?_
            refine J_iload_2 C dX4_elect_51 ?_
            refine J_KVI C (c_X4_hasOthers hfl hI _ w q (by omega) (by omega) hs hou) (cwV 2 C.1.2.2.2.2 gX4_elect_X4_hasOthers rfl rfl rfl (by decide +kernel) ⟨Nat.le_of_ble_eq_true rfl, Nat.le_of_ble_eq_true rfl⟩) rc4 (by decide) rfl rfl (Nat.le_of_ble_eq_true rfl) dX4_elect_52 ⟨Nat.le_of_ble_eq_true rfl, Nat.le_of_ble_eq_true rfl⟩ (fun z_52 σ_52 hp => ?_)
            obtain ⟨hp, hs_⟩ := hp
            have hs_ := hs_.symm
            subst hs_
            refine J_if_eq (tgt := 62) C (by omega) dX4_elect_55 (by decide) (fun c_55 => ?_) (fun c_55 => ?_)
            · refine J_iconst C dX4_elect_62 ?_
              -- to the cut at 63
              refine K_63 _ _ ?_ ?_
              · exact u0
              · first
                  | (exact Or.inr ⟨rfl, fun z => by have z1 := z.1; have z2 := z.2.1; have z3 := z.2.2.1; omega⟩)
                  | (exact Or.inr ⟨rfl, fun z => by rcases hp with ⟨e1, e2⟩ | ⟨e1, e2⟩; omega; exact e2 (z.2.2.2 (by omega))⟩)
                  | (exact Or.inl ⟨rfl, by omega, by omega, by omega, fun z => by omega⟩)
                  | (refine Or.inl ⟨rfl, by omega, by omega, by omega, fun z => ?_⟩
                     rcases hp with ⟨e1, e2⟩ | ⟨e1, e2⟩
                     · exact e2
                     · omega)
            · refine J_iconst C dX4_elect_58 ?_
              refine J_goto (tgt := 63) C dX4_elect_59 (by decide) ?_
              -- to the cut at 63
              refine K_63 _ _ ?_ ?_
              · exact u0
              · first
                  | (exact Or.inr ⟨rfl, fun z => by have z1 := z.1; have z2 := z.2.1; have z3 := z.2.2.1; omega⟩)
                  | (exact Or.inr ⟨rfl, fun z => by rcases hp with ⟨e1, e2⟩ | ⟨e1, e2⟩; omega; exact e2 (z.2.2.2 (by omega))⟩)
                  | (exact Or.inl ⟨rfl, by omega, by omega, by omega, fun z => by omega⟩)
                  | (refine Or.inl ⟨rfl, by omega, by omega, by omega, fun z => ?_⟩
                     rcases hp with ⟨e1, e2⟩ | ⟨e1, e2⟩
                     · exact e2
                     · omega)
  refine J_aload_0 C dX4_elect_0 ?_
  refine J_iload_1 C dX4_elect_1 ?_
  refine J_KVI C (c_X4_isWell hfl hI _ w hw9 hwm) (cwV 1 C.1.2.2.2.2 gX4_elect_X4_isWell rfl rfl rfl (by decide +kernel) ⟨Nat.le_of_ble_eq_true rfl, Nat.le_of_ble_eq_true rfl⟩) rc4 (by decide) rfl rfl (Nat.le_of_ble_eq_true rfl) dX4_elect_2 ⟨Nat.le_of_ble_eq_true rfl, Nat.le_of_ble_eq_true rfl⟩ (fun z_2 σ_2 hp => ?_)
  obtain ⟨hz_, hs_⟩ := hp
  have hz_ := hz_.symm
  have hs_ := hs_.symm
  subst hz_
  subst hs_
  refine J_if_eq (tgt := 19) C (by split <;> omega) dX4_elect_5 (by decide) (fun c_5 => ?_) (fun c_5 => ?_)
  · refine J_iconst C dX4_elect_19 ?_
    -- to the cut at 20
    refine K_20 _ ?_
    · omega
  · refine J_iload_2 C dX4_elect_8 ?_
    refine J_KSI C (c_X4_isPartner hfl hI _ q hq9) (va_cwS 1 C.1.2.2.2.2 gX4_elect_X4_isPartner rfl rfl rfl (by decide +kernel) ⟨Nat.le_of_ble_eq_true rfl, Nat.le_of_ble_eq_true rfl⟩) rfl rfl (Nat.le_of_ble_eq_true rfl) dX4_elect_9 ⟨Nat.le_of_ble_eq_true rfl, Nat.le_of_ble_eq_true rfl⟩ (fun z_9 σ_9 hp => ?_)
    obtain ⟨hz_, hs_⟩ := hp
    have hz_ := hz_.symm
    have hs_ := hs_.symm
    subst hz_
    subst hs_
    refine J_if_eq (tgt := 19) C (by split <;> omega) dX4_elect_12 (by decide) (fun c_12 => ?_) (fun c_12 => ?_)
    · refine J_iconst C dX4_elect_19 ?_
      -- to the cut at 20
      refine K_20 _ ?_
      · omega
    · refine J_iconst C dX4_elect_15 ?_
      refine J_goto (tgt := 20) C dX4_elect_16 (by decide) ?_
      -- to the cut at 20
      refine K_20 _ ?_
      · omega
