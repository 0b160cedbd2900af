set_option maxHeartbeats 4000000 in
set_option maxRecDepth 100000 in
theorem c_J7_fill_53178 {l : Launch} (hfl : l.stackTraces = false) {cy : Nat → ClassId} {D : va_G} {ad : Ad} (hI : Inj ad) (σ : Sg) (kd : Nat) (k v : Int) (hK : IsI ad kd 5) (hk : 0 ≤ k ∧ k < cnt kd) : KV l yJ7_fill_53178 wsJ7_fill_53178 ({ frames := 0, cells := 0, slots := 0, locals := 0 } : Room) cy D ad σ [.ref (ad kd k), .int (iI v)] (fun σ' => σ' = sf σ kd k 5 (fun _ => v)) 0 0 := by
  refine KV.of (lv0 := [some (.ref (ad kd k)), some (.int (iI v)), none, none]) hfl hI (by decide) rfl (Nat.le_of_ble_eq_true rfl) rfl ?_
  intro p e s m args below meth c C hr
  have K_5 : ∀ (n_ : Nat) (i : Int) (σ1 : Sg), (0 ≤ i) → (i ≤ 5) → (5 - i < n_) → (σ1 = sf σ kd k i (fun _ => v)) → JW p l e ({ frames := 0, cells := 0, slots := 0, locals := 0 } : Room) s m args below meth c cy D ad (Ar ad s.heap.size) 4 0 0 (MQ below (QcV cy D ad (fun σ' => σ' = sf σ kd k 5 (fun _ => v)) s.heap.size) args s 0 0 (Ar ad s.heap.size)) σ1 5 [some (.ref (ad kd k)), some (.int (iI v)), some (.int (iI i)), some (.int (iI 5))] [] := by
    intro n_
    induction n_ with
    | zero => intro i σ1 g0 g1 g2 g3; omega
    | succ n_ ih_5 =>
      intro i σ1 g0 g1 g2 g3
      subst g3
      refine J_iload_2 C dJ7_fill_53178_5 ?_
      refine J_iload_3 C dJ7_fill_53178_6 ?_
      refine J_icmp_ge (tgt := 20) C (by omega) (by omega) dJ7_fill_53178_7 (by decide) (fun c_7 => ?_) (fun c_7 => ?_)
      · refine J_retV C hr (by decide) (by decide) dJ7_fill_53178_20 ?_
        have e : i = 5 := by omega
        subst e
        rfl
      · refine J_aload_0 C dJ7_fill_53178_10 ?_
        refine J_iload_2 C dJ7_fill_53178_11 ?_
        refine J_iload_1 C dJ7_fill_53178_12 ?_
        refine J_iastore C hK hk (by omega) dJ7_fill_53178_13 ?_
        refine J_iinc2 C (by decide) rfl dJ7_fill_53178_14 ?_
        refine J_goto (tgt := 5) C dJ7_fill_53178_17 (by decide) ?_
        -- to the cut at 5
        refine ih_5 _ _ ?_ ?_ ?_ ?_
        · omega
        · omega
        · omega
        · exact sf_su g0 rfl
  refine J_iconst C dJ7_fill_53178_0 ?_
  refine J_istore_2 C (by decide) rfl dJ7_fill_53178_1 ?_
  refine J_aload_0 C dJ7_fill_53178_2 ?_
  refine J_alenI C hK hk dJ7_fill_53178_3 ?_
  refine J_istore_3 C (by decide) rfl dJ7_fill_53178_4 ?_
  -- to the cut at 5
  refine K_5 6 _ _ ?_ ?_ ?_ ?_
  · decide
  · decide
  · decide
  · exact (sf_0 ..).symm
set_option maxHeartbeats 4000000 in
set_option maxRecDepth 100000 in
theorem c_J7_fill_d0a16 {l : Launch} (hfl : l.stackTraces = false) {cy : Nat → ClassId} {D : va_G} {ad : Ad} (hI : Inj ad) (σ : Sg) (kd : Nat) (k v : Int) (hK : IsL ad kd 5) (hk : 0 ≤ k ∧ k < cnt kd) : KV l yJ7_fill_d0a16 wsJ7_fill_d0a16 ({ frames := 0, cells := 0, slots := 0, locals := 0 } : Room) cy D ad σ [.ref (ad kd k), .long (lI v)] (fun σ' => σ' = sf σ kd k 5 (fun _ => v)) 0 0 := by
  refine KV.of (lv0 := [some (.ref (ad kd k)), some (.long (lI v)), none, none, none]) hfl hI (by decide) rfl (Nat.le_of_ble_eq_true rfl) rfl ?_
  intro p e s m args below meth c C hr
  have K_6 : ∀ (n_ : Nat) (i : Int) (σ1 : Sg), (0 ≤ i) → (i ≤ 5) → (5 - i < n_) → (σ1 = sf σ kd k i (fun _ => v)) → JW p l e ({ frames := 0, cells := 0, slots := 0, locals := 0 } : Room) s m args below meth c cy D ad (Ar ad s.heap.size) 5 0 0 (MQ below (QcV cy D ad (fun σ' => σ' = sf σ kd k 5 (fun _ => v)) s.heap.size) args s 0 0 (Ar ad s.heap.size)) σ1 6 [some (.ref (ad kd k)), some (.long (lI v)), none, some (.int (iI i)), some (.int (iI 5))] [] := by
    intro n_
    induction n_ with
    | zero => intro i σ1 g0 g1 g2 g3; omega
    | succ n_ ih_6 =>
      intro i σ1 g0 g1 g2 g3
      subst g3
      refine J_iload_3 C dJ7_fill_d0a16_6 ?_
      refine J_iload4 C dJ7_fill_d0a16_7 ?_
      refine J_icmp_ge (tgt := 22) C (by omega) (by omega) dJ7_fill_d0a16_9 (by decide) (fun c_9 => ?_) (fun c_9 => ?_)
      · refine J_retV C hr (by decide) (by decide) dJ7_fill_d0a16_22 ?_
        have e : i = 5 := by omega
        subst e
        rfl
      · refine J_aload_0 C dJ7_fill_d0a16_12 ?_
        refine J_iload_3 C dJ7_fill_d0a16_13 ?_
        refine J_lload_1 C dJ7_fill_d0a16_14 ?_
        refine J_lastore C hK hk (by omega) dJ7_fill_d0a16_15 ?_
        refine J_iinc3 C (by decide) rfl dJ7_fill_d0a16_16 ?_
        refine J_goto (tgt := 6) C dJ7_fill_d0a16_19 (by decide) ?_
        -- to the cut at 6
        refine ih_6 _ _ ?_ ?_ ?_ ?_
        · omega
        · omega
        · omega
        · exact sf_su g0 rfl
  refine J_iconst C dJ7_fill_d0a16_0 ?_
  refine J_istore_3 C (by decide) rfl dJ7_fill_d0a16_1 ?_
  refine J_aload_0 C dJ7_fill_d0a16_2 ?_
  refine J_alenL C hK hk dJ7_fill_d0a16_3 ?_
  refine J_istore4 C (by decide) rfl dJ7_fill_d0a16_4 ?_
  -- to the cut at 6
  refine K_6 6 _ _ ?_ ?_ ?_ ?_
  · decide
  · decide
  · decide
  · exact (sf_0 ..).symm
set_option maxRecDepth 20000 in
theorem in_X1_firstWithGreatestRemainder_X1 : ∀ w ∈ wsX10, w ∈ wsX1_firstWithGreatestRemainder := by decide +kernel
set_option maxRecDepth 20000 in
theorem fl_X1_firstWithGreatestRemainder_9 : Cond.fieldLink RX1 9 "JointVenture$Division" "remainders" "[J" ∈ wsX1_firstWithGreatestRemainder := by decide +kernel
set_option maxHeartbeats 4000000 in
set_option maxRecDepth 100000 in
theorem c_X1_firstWithGreatestRemainder {l : Launch} (hfl : l.stackTraces = false) {cy : Nat → ClassId} {D : va_G} {ad : Ad} (hI : Inj ad) (σ : Sg) (hr8 : ∀ j, 0 ≤ j → j < 5 → I64 (σ 8 0 j)) : KI l yX1_firstWithGreatestRemainder wsX1_firstWithGreatestRemainder ({ frames := 0, cells := 0, slots := 0, locals := 0 } : Room) cy D ad σ [.ref (ad 7 0)] (fun z σ' => z = fgn (σ 8 0) 4 ∧ σ' = σ) 0 0 := by
  refine KI.of (lv0 := [some (.ref (ad 7 0)), none, none]) hfl hI (by decide) rfl (Nat.le_of_ble_eq_true rfl) rfl ?_
  intro p e s m args below meth c C hr
  have K_4 : ∀ (n_ : Nat) (b : Int) (i : Int), (1 ≤ i) → (i ≤ 5) → (5 - i < n_) → (∃ j : Nat, i = (j : Int) + 1 ∧ b = fgn (σ 8 0) j) → JW p l e ({ frames := 0, cells := 0, slots := 0, locals := 0 } : Room) s m args below meth c cy D ad (Ar ad s.heap.size) 3 0 0 (MQ below (QcI cy D ad (fun z σ' => z = fgn (σ 8 0) 4 ∧ σ' = σ) s.heap.size) args s 0 0 (Ar ad s.heap.size)) σ 4 [some (.ref (ad 7 0)), some (.int (iI b)), some (.int (iI i))] [] := by
    intro n_
    induction n_ with
    | zero => intro b i g0 g1 g2 g3; omega
    | succ n_ ih_4 =>
      intro b i g0 g1 g2 g3
      obtain ⟨j, rfl, rfl⟩ := g3
      obtain ⟨hb0, hb1, -, -⟩ := fgn_spec (σ 8 0) j
      refine J_iload_2 C dX1_firstWithGreatestRemainder_4 ?_
      refine J_iconst C dX1_firstWithGreatestRemainder_5 ?_
      refine J_icmp_ge (tgt := 33) C (by omega) (by omega) dX1_firstWithGreatestRemainder_6 (by decide) (fun c_6 => ?_) (fun c_6 => ?_)
      · refine J_iload_1 C dX1_firstWithGreatestRemainder_33 ?_
        refine J_retI C hr (by decide) (by decide) dX1_firstWithGreatestRemainder_34 ?_
        have e : j = 4 := by omega
        subst e
        exact ⟨rfl, rfl⟩
      · refine J_aload_0 C dX1_firstWithGreatestRemainder_9 ?_
        refine J_get_1_0 C in_X1_firstWithGreatestRemainder_X1 fl_X1_firstWithGreatestRemainder_9 (by decide) dX1_firstWithGreatestRemainder_10 ?_
        refine J_iload_2 C dX1_firstWithGreatestRemainder_13 ?_
        refine J_laload C k8 (by decide) (by omega) dX1_firstWithGreatestRemainder_14 ?_
        refine J_aload_0 C dX1_firstWithGreatestRemainder_15 ?_
        refine J_get_1_0 C in_X1_firstWithGreatestRemainder_X1 fl_X1_firstWithGreatestRemainder_9 (by decide) dX1_firstWithGreatestRemainder_16 ?_
        refine J_iload_1 C dX1_firstWithGreatestRemainder_19 ?_
        refine J_laload C k8 (by decide) (by omega) dX1_firstWithGreatestRemainder_20 ?_
        refine J_lif_le (tgt := 27) C (by exact hr8 _ (by omega) (by omega)) (by exact hr8 _ (by omega) (by omega)) dX1_firstWithGreatestRemainder_21 dX1_firstWithGreatestRemainder_22 (by decide) (fun c_21 => ?_) (fun c_21 => ?_)
        · refine J_iinc2 C (by decide) rfl dX1_firstWithGreatestRemainder_27 ?_
          refine J_goto (tgt := 4) C dX1_firstWithGreatestRemainder_30 (by decide) ?_
          -- to the cut at 4
          refine ih_4 _ _ ?_ ?_ ?_ ?_
          · omega
          · omega
          · omega
          · refine ⟨j + 1, by omega, ?_⟩
            simp only [fgn]
            split <;> omega
        · refine J_iload_2 C dX1_firstWithGreatestRemainder_25 ?_
          refine J_istore_1 C (by decide) rfl dX1_firstWithGreatestRemainder_26 ?_
          refine J_iinc2 C (by decide) rfl dX1_firstWithGreatestRemainder_27 ?_
          refine J_goto (tgt := 4) C dX1_firstWithGreatestRemainder_30 (by decide) ?_
          -- to the cut at 4
          refine ih_4 _ _ ?_ ?_ ?_ ?_
          · omega
          · omega
          · omega
          · refine ⟨j + 1, by omega, ?_⟩
            simp only [fgn]
            split <;> omega
  refine J_iconst C dX1_firstWithGreatestRemainder_0 ?_
  refine J_istore_1 C (by decide) rfl dX1_firstWithGreatestRemainder_1 ?_
  refine J_iconst C dX1_firstWithGreatestRemainder_2 ?_
  refine J_istore_2 C (by decide) rfl dX1_firstWithGreatestRemainder_3 ?_
  -- to the cut at 4
  refine K_4 6 _ _ ?_ ?_ ?_ ?_
  · decide
  · decide
  · decide
  · exact ⟨0, rfl, rfl⟩
set_option maxRecDepth 20000 in
theorem in_X1_divide_X1 : ∀ w ∈ wsX10, w ∈ wsX1_divide := by decide +kernel
set_option maxRecDepth 20000 in
theorem fl_X1_divide_9 : Cond.fieldLink RX1 9 "JointVenture$Division" "remainders" "[J" ∈ wsX1_divide := by decide +kernel
set_option maxRecDepth 20000 in
theorem w_X1_divide_c25 : Cond.constantLong RX1 25 (lI (-1)) ∈ wsX1_divide := by decide +kernel
set_option maxHeartbeats 4000000 in
set_option maxRecDepth 100000 in
theorem c_X1_divide {l : Launch} (hfl : l.stackTraces = false) {cy : Nat → ClassId} {D : va_G} {ad : Ad} (hI : Inj ad) (σ : Sg) (a : Int) (wk pk : Nat) (wi pi : Int) (hwk : IsI ad wk 5) (hpk : IsI ad pk 5) (hwi : 0 ≤ wi ∧ wi < cnt wk) (hpi : 0 ≤ pi ∧ pi < cnt pk) (hw8 : wk ≠ 8) (hp8 : pk ≠ 8) (hne : pk ≠ wk ∨ pi ≠ wi) (ha : 0 ≤ a ∧ a < 2147483648) (hw : Wt (σ wk wi)) (hwb : ∀ p, 0 ≤ p → p < 5 → σ wk wi p < 2147483648) : KV l yX1_divide wsX1_divide ({ frames := 1, cells := 0, slots := 0, locals := 22 } : Room) cy D ad σ [.ref (ad 7 0), .int (iI a), .ref (ad wk wi), .ref (ad pk pi)] (fun σ' => ∃ f, σ' = sf (sf σ 8 0 5 f) pk pi 5 (dv a (σ wk wi))) 0 0 := by
  refine KV.of (lv0 := [some (.ref (ad 7 0)), some (.int (iI a)), some (.ref (ad wk wi)), some (.ref (ad pk pi)), none, none, none, none, none, none]) hfl hI (by decide) rfl (Nat.le_of_ble_eq_true rfl) rfl ?_
  intro p e s m args below meth c C hr
  have hS := hw.2
  have hw0 := hw.1
  have hl := dl_rng a hw
  have hSb : s5 (σ wk wi) < 10737418240 := by have b0 := hwb 0 (by decide) (by decide); have b1 := hwb 1 (by decide) (by decide); have b2 := hwb 2 (by decide) (by decide); have b3 := hwb 3 (by decide) (by decide); have b4 := hwb 4 (by decide) (by decide); unfold s5; omega
  have K_103 : ∀ (n_ : Nat) (g : Int) (σ1 : Sg) (ch : Int → Int), (0 ≤ g) → (g ≤ dl a (σ wk wi)) → (5 - g < n_) → (Chs (dr a (σ wk wi)) ch g) → (σ1 = sf (sf σ 8 0 5 (rmc (dr a (σ wk wi)) ch)) pk pi 5 (fun k => dq a (σ wk wi) k + ch k)) → JW p l e ({ frames := 1, cells := 0, slots := 0, locals := 22 } : Room) s m args below meth c cy D ad (Ar ad s.heap.size) 10 0 0 (MQ below (QcV cy D ad (fun σ' => ∃ f, σ' = sf (sf σ 8 0 5 f) pk pi 5 (dv a (σ wk wi))) s.heap.size) args s 0 0 (Ar ad s.heap.size)) σ1 103 [some (.ref (ad 7 0)), some (.int (iI a)), some (.ref (ad wk wi)), some (.ref (ad pk pi)), some (.long (lI (s5 (σ wk wi)))), none, some (.int (iI (dl a (σ wk wi)))), some (.int (iI g)), none, none] [] := by
    intro n_
    induction n_ with
    | zero => intro g σ1 ch g0 g1 g2 g3 g4; omega
    | succ n_ ih_103 =>
      intro g σ1 ch g0 g1 g2 g3 g4
      subst g4
      refine J_iload7 C dX1_divide_103 ?_
      refine J_iload6 C dX1_divide_105 ?_
      refine J_icmp_ge (tgt := 146) C (by omega) (by omega) dX1_divide_107 (by decide) (fun c_107 => ?_) (fun c_107 => ?_)
      · refine J_retV C hr (by decide) (by decide) dX1_divide_146 ?_
        have eg : g = dl a (σ wk wi) := by omega
        subst eg
        exact ⟨_, sf_cg (fun k k0 k5 => by rw [Chs_ahd g3 k k0 k5]; rfl)⟩
      · refine J_iload7 C dX1_divide_110 ?_
        refine J_iconst C dX1_divide_112 ?_
        refine J_icmp_ge (tgt := 146) C (by omega) (by omega) dX1_divide_113 (by decide) (fun c_113 => ?_) (fun c_113 => ?_)
        · refine J_retV C hr (by decide) (by decide) dX1_divide_146 ?_
          have eg : g = dl a (σ wk wi) := by omega
          subst eg
          exact ⟨_, sf_cg (fun k k0 k5 => by rw [Chs_ahd g3 k k0 k5]; rfl)⟩
        · refine J_aload_0 C dX1_divide_116 ?_
          refine J_KVI C (c_X1_firstWithGreatestRemainder hfl hI _ (fun x hx0 hx5 => by rw [sf_nk (Ne.symm hp8), sf_at hx0 hx5]; have := dr_nn a hw x; simp only [rmc]; split <;> omega)) (cwV 0 C.1.2.2.2.2 gX1_divide_X1_firstWithGreatestRemainder rfl rfl rfl (by decide +kernel) ⟨Nat.le_of_ble_eq_true rfl, Nat.le_of_ble_eq_true rfl⟩) rc1 (by decide) rfl rfl (Nat.le_of_ble_eq_true rfl) dX1_divide_117 ⟨Nat.le_of_ble_eq_true rfl, Nat.le_of_ble_eq_true rfl⟩ (fun z_117 σ_117 hp => ?_)
          obtain ⟨hz_, hs_⟩ := hp
          have hz_ := hz_.symm
          have hs_ := hs_.symm
          subst hz_
          subst hs_
          have e9 : fgn (sf (sf σ 8 0 5 (rmc (dr a (σ wk wi)) ch)) pk pi 5 (fun k => dq a (σ wk wi) k + ch k) 8 0) 4 = fgn (rmc (dr a (σ wk wi)) ch) 4 := fgn_congr 4 (fun x hx0 hx5 => by rw [sf_nk (Ne.symm hp8), sf_at hx0 (by omega)])
          rw [e9]
          have hst := Chs_step (fun k _ _ => (dr_nn a hw k).1) g3 (by omega)
          refine J_istore8 C (by decide) rfl dX1_divide_120 ?_
          refine J_aload_3 C dX1_divide_122 ?_
          refine J_iload8 C dX1_divide_123 ?_
          refine J_dup2 C rfl rfl dX1_divide_125 ?_
          refine J_iaload C hpk hpi (by exact ⟨hst.1, hst.2.1⟩) dX1_divide_126 ?_
          refine J_iconst C dX1_divide_127 ?_
          refine J_iadd C dX1_divide_128 ?_
          refine J_iastore C hpk hpi (by exact ⟨hst.1, hst.2.1⟩) dX1_divide_129 ?_
          refine J_aload_0 C dX1_divide_130 ?_
          refine J_get_1_0 C in_X1_divide_X1 fl_X1_divide_9 (by decide) dX1_divide_131 ?_
          refine J_iload8 C dX1_divide_134 ?_
          refine J_ldc2 C w_X1_divide_c25 dX1_divide_136 ?_
          refine J_lastore C k8 (by decide) (by exact ⟨hst.1, hst.2.1⟩) dX1_divide_139 ?_
          refine J_iinc7 C (by decide) rfl dX1_divide_140 ?_
          refine J_goto (tgt := 103) C dX1_divide_143 (by decide) ?_
          -- to the cut at 103
          refine J_fg8 ?_
          refine ih_103 _ _ (fun k => if k = fgn (rmc (dr a (σ wk wi)) ch) 4 then 1 else ch k) ?_ ?_ ?_ ?_ ?_
          · omega
          · omega
          · omega
          · exact hst.2.2.2
          · rw [sf2_put hst.1 hst.2.1 hp8, sf_at hst.1 hst.2.1]
            refine sf2_cg (fun k => ?_) (fun k => ?_)
            · simp only [rmc]
              split
              · simp
              · rfl
            · split
              · next e => rw [e, hst.2.2.1]; omega
              · rfl
  have K_47 : ∀ (n_ : Nat) (lf : Int) (i : Int) (σ1 : Sg), (0 ≤ i) → (i ≤ 5) → (5 - i < n_) → (∃ j : Nat, i = (j : Int) ∧ lf = a - sN (dq a (σ wk wi)) j) → (σ1 = sf (sf σ 8 0 i (dr a (σ wk wi))) pk pi i (dq a (σ wk wi))) → JW p l e ({ frames := 1, cells := 0, slots := 0, locals := 22 } : Room) s m args below meth c cy D ad (Ar ad s.heap.size) 10 0 0 (MQ below (QcV cy D ad (fun σ' => ∃ f, σ' = sf (sf σ 8 0 5 f) pk pi 5 (dv a (σ wk wi))) s.heap.size) args s 0 0 (Ar ad s.heap.size)) σ1 47 [some (.ref (ad 7 0)), some (.int (iI a)), some (.ref (ad wk wi)), some (.ref (ad pk pi)), some (.long (lI (s5 (σ wk wi)))), none, some (.int (iI lf)), some (.int (iI i)), none, none] [] := by
    intro n_
    induction n_ with
    | zero => intro lf i σ1 g0 g1 g2 g3 g4; omega
    | succ n_ ih_47 =>
      intro lf i σ1 g0 g1 g2 g3 g4
      obtain ⟨j, rfl, rfl⟩ := g3
      subst g4
      have hq : ∀ x, sf (sf σ 8 0 (j : Int) (dr a (σ wk wi))) pk pi (j : Int) (dq a (σ wk wi)) wk wi x = σ wk wi x := fun x => by
        rw [sf_ne (by rcases hne with h | h; exact Or.inl (Ne.symm h); exact Or.inr (Ne.symm h)), sf_nk hw8]
      refine J_iload7 C dX1_divide_47 ?_
      refine J_iconst C dX1_divide_49 ?_
      refine J_icmp_ge (tgt := 100) C (by omega) (by omega) dX1_divide_50 (by decide) (fun c_50 => ?_) (fun c_50 => ?_)
      · have e5 : j = 5 := by omega
        subst e5
        rw [sN_5, show a - s5 (dq a (σ wk wi)) = dl a (σ wk wi) from rfl]
        rw [show sf (sf σ 8 0 ((5 : Nat) : Int) (dr a (σ wk wi))) pk pi ((5 : Nat) : Int) (dq a (σ wk wi)) = sf (sf σ 8 0 5 (rmc (dr a (σ wk wi)) (fun _ => 0))) pk pi 5 (fun k => dq a (σ wk wi) k + (fun _ => 0) k) from by rw [show rmc (dr a (σ wk wi)) (fun _ => (0 : Int)) = dr a (σ wk wi) from by funext k; simp [rmc]]; simp]
        refine J_iconst C dX1_divide_100 ?_
        refine J_istore7 C (by decide) rfl dX1_divide_101 ?_
        -- to the cut at 103
        refine K_103 6 _ _ (fun _ => 0) ?_ ?_ ?_ ?_ ?_
        · decide
        · exact hl.1
        · decide
        · exact Chs_0 _
        · rfl
      · refine J_iload_1 C dX1_divide_53 ?_
        refine J_i2l C (by omega) dX1_divide_54 ?_
        refine J_aload_2 C dX1_divide_55 ?_
        refine J_iload7 C dX1_divide_56 ?_
        refine J_iaload C hwk hwi (by omega) dX1_divide_58 ?_
        rw [hq]
        refine J_i2l C (by have := hw0 j (by omega) (by omega); have := hwb j (by omega) (by omega); omega) dX1_divide_59 ?_
        refine J_lmul C dX1_divide_60 ?_
        refine J_lstore8 C (by decide) rfl dX1_divide_61 ?_
        refine J_aload_3 C dX1_divide_63 ?_
        refine J_iload7 C dX1_divide_64 ?_
        refine J_lload8 C dX1_divide_66 ?_
        refine J_lload4 C dX1_divide_68 ?_
        refine J_ldiv C (by exact mul_rng ha ⟨hw0 j (by omega) (by omega), hwb j (by omega) (by omega)⟩) (by omega) dX1_divide_70 ?_
        refine J_l2i C dX1_divide_71 ?_
        refine J_iastore C hpk hpi (by omega) dX1_divide_72 ?_
        refine J_aload_0 C dX1_divide_73 ?_
        refine J_get_1_0 C in_X1_divide_X1 fl_X1_divide_9 (by decide) dX1_divide_74 ?_
        refine J_iload7 C dX1_divide_77 ?_
        refine J_lload8 C dX1_divide_79 ?_
        refine J_lload4 C dX1_divide_81 ?_
        refine J_lrem C (by exact mul_rng ha ⟨hw0 j (by omega) (by omega), hwb j (by omega) (by omega)⟩) (by omega) dX1_divide_83 ?_
        refine J_lastore C k8 (by decide) (by omega) dX1_divide_84 ?_
        refine J_iload6 C dX1_divide_85 ?_
        refine J_aload_3 C dX1_divide_87 ?_
        refine J_iload7 C dX1_divide_88 ?_
        refine J_iaload C hpk hpi (by omega) dX1_divide_90 ?_
        refine J_isub C dX1_divide_91 ?_
        refine J_istore6 C (by decide) rfl dX1_divide_92 ?_
        refine J_iinc7 C (by decide) rfl dX1_divide_94 ?_
        refine J_goto (tgt := 47) C dX1_divide_97 (by decide) ?_
        -- to the cut at 47
        refine J_fg8 ?_
        refine ih_47 _ _ _ ?_ ?_ ?_ ?_ ?_
        · omega
        · omega
        · omega
        · refine ⟨j + 1, by omega, ?_⟩
          simp only [sN]
          rw [su_nk hp8, su_at]
          simp only [dq]
          omega
        · exact sf2_step g0 hp8 rfl rfl
  have K_6 : ∀ (n_ : Nat) (t : Int) (i : Int), (0 ≤ i) → (i ≤ 5) → (5 - i < n_) → (∃ j : Nat, i = (j : Int) ∧ t = sN (σ wk wi) j) → JW p l e ({ frames := 1, cells := 0, slots := 0, locals := 22 } : Room) s m args below meth c cy D ad (Ar ad s.heap.size) 10 0 0 (MQ below (QcV cy D ad (fun σ' => ∃ f, σ' = sf (sf σ 8 0 5 f) pk pi 5 (dv a (σ wk wi))) s.heap.size) args s 0 0 (Ar ad s.heap.size)) σ 6 [some (.ref (ad 7 0)), some (.int (iI a)), some (.ref (ad wk wi)), some (.ref (ad pk pi)), some (.long (lI t)), none, some (.int (iI i)), none, none, none] [] := by
    intro n_
    induction n_ with
    | zero => intro t i g0 g1 g2 g3; omega
    | succ n_ ih_6 =>
      intro t i g0 g1 g2 g3
      obtain ⟨j, rfl, rfl⟩ := g3
      refine J_iload6 C dX1_divide_6 ?_
      refine J_iconst C dX1_divide_8 ?_
      refine J_icmp_ge (tgt := 28) C (by omega) (by omega) dX1_divide_9 (by decide) (fun c_9 => ?_) (fun c_9 => ?_)
      · have e5 : j = 5 := by omega
        subst e5
        rw [sN_5]
        refine J_lload4 C dX1_divide_28 ?_
        refine J_lconst (z := 0) C (by decide) dX1_divide_30 ?_
        refine J_lif_gt (tgt := 41) C (by omega) (by omega) dX1_divide_31 dX1_divide_32 (by decide) (fun c_31 => ?_) (fun c_31 => ?_)
        · refine J_iload_1 C dX1_divide_41 ?_
          refine J_istore6 C (by decide) rfl dX1_divide_42 ?_
          refine J_iconst C dX1_divide_44 ?_
          refine J_istore7 C (by decide) rfl dX1_divide_45 ?_
          -- to the cut at 47
          refine K_47 6 _ _ _ ?_ ?_ ?_ ?_ ?_
          · decide
          · decide
          · decide
          · exact ⟨0, rfl, by simp [sN]⟩
          · rw [sf_0, sf_0]
        · exact absurd hS (by omega)
      · refine J_lload4 C dX1_divide_12 ?_
        refine J_aload_2 C dX1_divide_14 ?_
        refine J_iload6 C dX1_divide_15 ?_
        refine J_iaload C hwk hwi (by omega) dX1_divide_17 ?_
        refine J_i2l C (by have := hw0 j (by omega) (by omega); have := hwb j (by omega) (by omega); omega) dX1_divide_18 ?_
        refine J_ladd C dX1_divide_19 ?_
        refine J_lstore4 C (by decide) rfl dX1_divide_20 ?_
        refine J_iinc6 C (by decide) rfl dX1_divide_22 ?_
        refine J_goto (tgt := 6) C dX1_divide_25 (by decide) ?_
        -- to the cut at 6
        refine ih_6 _ _ ?_ ?_ ?_ ?_
        · omega
        · omega
        · omega
        · exact ⟨j + 1, by omega, rfl⟩
  refine J_lconst (z := 0) C (by decide) dX1_divide_0 ?_
  refine J_lstore4 C (by decide) rfl dX1_divide_1 ?_
  refine J_iconst C dX1_divide_3 ?_
  refine J_istore6 C (by decide) rfl dX1_divide_4 ?_
  -- to the cut at 6
  refine K_6 6 _ _ ?_ ?_ ?_ ?_
  · decide
  · decide
  · decide
  · exact ⟨0, rfl, rfl⟩
