set_option maxRecDepth 20000 in
theorem w_L_account_c17 : Cond.constantLong RL 17 (lI (-1)) ∈ wsL_account := by decide +kernel
set_option maxHeartbeats 4000000 in
set_option maxRecDepth 100000 in
theorem c_L_account {l : Launch} (hfl : l.stackTraces = false) {cy : Nat → ClassId} {D : va_G} {ad : Ad} (hI : Inj ad) (σ : Sg) (w : Int) (ka : Nat) (x22 : ad 1000 22 = 1) (x23 : ad 1000 23 = 1) (x24 : ad 1000 24 = 1) (x25 : ad 1000 25 = 1) (x29 : ad 1000 29 = 1) (f35 : ¬ ad 1000 35 = 1) (f36 : ¬ ad 1000 36 = 1) (f37 : ¬ ad 1000 37 = 1) (f38 : ¬ ad 1000 38 = 1) (hka : IsL ad ka 25) (hca : 0 ≤ (0 : Int) ∧ 0 < cnt ka) (hk1 : ka < 35 ∧ 30 < ka) (iv : Inv σ) (hw : 0 ≤ w ∧ w < σ 0 0 4) : KV l yL_account wsL_account ({ frames := 2, cells := 64, slots := 320, locals := 69 } : Room) cy D ad σ [.ref (ad 22 0), .ref (ad 23 0), .ref (ad 24 0), .ref (ad 25 0), .ref (ad 29 0), .ref (ad ka 0), .int (iI w)] (fun σ' => EqE ka σ σ' ∧ RowE (σ' ka 0) (eT (shf σ) (ac σ w))) 64 320 := by
  refine KV.of (lv0 := [some (.ref (ad 22 0)), some (.ref (ad 23 0)), some (.ref (ad 24 0)), some (.ref (ad 25 0)), some (.ref (ad 29 0)), some (.ref (ad ka 0)), some (.int (iI w)), none]) hfl hI (by decide) rfl (Nat.le_of_ble_eq_true rfl) rfl ?_
  intro p e s m args below meth c C hr
  have r := iv.1
  have lw := iv.2
  have c0 := lw.1
  unfold L0 at c0
  have lm := lw.2.1
  unfold Lm at lm
  have w6 : w < 6 := by omega
  have w3 : w < 3 := by omega
  have hs := r.hsh
  have ra := r.2.2.2.2.2.1 w hw.1 w6
  have hpen := (r.2.2.2.1 w hw.1 w6).1
  have K_72 : ∀ (n_ : Nat) (i : Int) (j : Nat) (σ1 : Sg), (i = (j : Int)) → (i ≤ σ 0 0 7) → (σ 0 0 7 - i < n_) → (EqE ka σ σ1) → (RowE (σ1 ka 0) (eT (shf σ) (foldS (shf σ) (σ 12 w 0) (σ 3 0) (σ 4 0) w (T0f (σ 13 w)) j))) → JW p l e ({ frames := 2, cells := 64, slots := 320, locals := 69 } : Room) s m args below meth c cy D ad (Ar ad s.heap.size) 8 (4 * j) (20 * j) (MQ below (QcV cy D ad (fun σ' => EqE ka σ σ' ∧ RowE (σ' ka 0) (eT (shf σ) (ac σ w))) s.heap.size) args s 64 320 (Ar ad s.heap.size)) σ1 72 [some (.ref (ad 22 0)), some (.ref (ad 23 0)), some (.ref (ad 24 0)), some (.ref (ad 25 0)), some (.ref (ad 29 0)), some (.ref (ad ka 0)), some (.int (iI w)), some (.int (iI i))] [] := by
    intro n_
    induction n_ with
    | zero => intro i j σ1 g0 g1 g2 g3 g4; omega
    | succ n_ ih_72 =>
      intro i j σ1 g0 g1 g2 g3 g4
      subst g0
      have e22 : ∀ q, 0 ≤ q → q < 5 → σ1 22 0 q = shf σ q := fun q a b => by rw [g3 22 0 q (by decide) (by omega), lw.2.2.1 q a b, shf_at a b]
      have e29 : σ1 29 0 1 = σ 0 0 7 := by rw [g3 29 0 1 (by decide) (by omega), lm.2.1]
      have htok : Tok (shf σ) (foldS (shf σ) (σ 12 w 0) (σ 3 0) (σ 4 0) w (T0f (σ 13 w)) j) j := foldS_ok hs hpen ra.1 j (fun v a b => (r.2.2.1 v a (by omega)).2.1)
      refine J_iload7 C dL_account_72 ?_
      refine J_aload4 C dL_account_74 ?_
      refine J_iconst C dL_account_76 ?_
      refine J_iaload C (k29 x29) (by decide) (by omega) dL_account_77 ?_
      rw [e29]
      refine J_icmp_ge (tgt := 136) C (by omega) (by omega) dL_account_78 (by decide) (fun c_78 => ?_) (fun c_78 => ?_)
      · refine J_retV C hr (by omega) (by omega) dL_account_136 ?_
        have ej : j = (σ 0 0 7).toNat := by omega
        exact ⟨g3, by rw [ra.2, ← ej]; exact g4⟩
      · refine J_aload_3 C dL_account_81 ?_
        refine J_iconst C dL_account_82 ?_
        refine J_iload7 C dL_account_83 ?_
        refine J_imul C dL_account_85 ?_
        refine J_iaload C (k25 x25) (by decide) (by omega) dL_account_86 ?_
        obtain ⟨l1, l2, l3, l4, l5⟩ := lw.2.2.2.2.2.1 (j : Int) (by omega) (by omega) (by omega)
        rw [g3 25 0 (3 * (j : Int)) (by decide) (by omega), l1]
        refine J_iload6 C dL_account_87 ?_
        refine J_icmp_ne (tgt := 130) C (by have := (r.2.2.1 (j : Int) (by omega) (by omega)).1; omega) (by omega) dL_account_89 (by decide) (fun c_89 => ?_) (fun c_89 => ?_)
        · refine J_iinc7 C (by decide) rfl dL_account_130 ?_
          refine J_goto (tgt := 72) C dL_account_133 (by decide) ?_
          -- to the cut at 72
          refine J_widen (k := 4 * (j + 1)) (n := 20 * (j + 1)) (by omega) (by omega) ?_
          refine ih_72 _ (j + 1) _ ?_ ?_ ?_ ?_ ?_
          · omega
          · omega
          · omega
          · first | exact g3.trans hp1 | exact g3
          · simp only [foldS]
            first
              | (rw [if_neg (by omega)]
                 exact g4)
              | (rw [if_pos (by omega)]
                 have e4 : (if (1 : Int) = 0 then σ 25 0 (3 * (j : Int) + 1) else -σ 25 0 (3 * (j : Int) + 1)) = σ 4 0 (j : Int) := by rw [l3, if_neg (by decide), if_neg (by omega)]
                 rw [e4] at hp2
                 exact hp2)
              | (rw [if_pos (by omega)]
                 have e4 : (if (0 : Int) = 0 then σ 25 0 (3 * (j : Int) + 1) else -σ 25 0 (3 * (j : Int) + 1)) = σ 4 0 (j : Int) := by rw [l3, if_pos rfl, if_pos (by omega)]
                 rw [e4] at hp2
                 exact hp2)
        · refine J_aload_0 C dL_account_92 ?_
          refine J_aload_2 C dL_account_93 ?_
          refine J_iload6 C dL_account_94 ?_
          refine J_iaload C (k24 x24) (by decide) (by omega) dL_account_96 ?_
          rw [g3 24 0 w (by decide) (by omega), lw.2.2.2.2.1 w hw.1 w3 hw.2]
          refine J_aload5 C dL_account_97 ?_
          refine J_aload_3 C dL_account_99 ?_
          refine J_iconst C dL_account_100 ?_
          refine J_iload7 C dL_account_101 ?_
          refine J_imul C dL_account_103 ?_
          refine J_iconst C dL_account_104 ?_
          refine J_iadd C dL_account_105 ?_
          refine J_iaload C (k25 x25) (by decide) (by omega) dL_account_106 ?_
          rw [g3 25 0 (3 * (j : Int) + 1) (by decide) (by omega)]
          refine J_i2l C (by omega) dL_account_107 ?_
          refine J_aload_3 C dL_account_108 ?_
          refine J_iconst C dL_account_109 ?_
          refine J_iload7 C dL_account_110 ?_
          refine J_imul C dL_account_112 ?_
          refine J_iconst C dL_account_113 ?_
          refine J_iadd C dL_account_114 ?_
          refine J_iaload C (k25 x25) (by decide) (by omega) dL_account_115 ?_
          rw [g3 25 0 (3 * (j : Int) + 2) (by decide) (by omega)]
          refine J_iconst C dL_account_116 ?_
          refine J_icmp_ne (tgt := 124) C (by omega) (by omega) dL_account_117 (by decide) (fun c_117 => ?_) (fun c_117 => ?_)
          · refine J_iconst C dL_account_124 ?_
            refine J_iload7 C dL_account_125 ?_
            refine J_KSV C (c_L_enter hfl hI _ _ _ _ _ (by first | exact Or.inl rfl | exact Or.inr rfl) ka (shf σ) (foldS (shf σ) (σ 12 w 0) (σ 3 0) (σ 4 0) w (T0f (σ 13 w)) j) x22 f35 f36 f37 f38 hka hca ⟨hk1.1, by omega⟩ e22 hs htok.1 (r.fold14 hw.1 w6 j) g4 (fun q a b => by have := htok.2 q a b; omega) (by omega) hpen (by omega)) (va_cwS 6 C.1.2.2.2.2 gL_account_L_enter rfl rfl rfl (by decide +kernel) ⟨Nat.le_of_ble_eq_true rfl, Nat.le_of_ble_eq_true rfl⟩) rfl rfl (Nat.le_of_ble_eq_true rfl) dL_account_127 ⟨by show 4 * j + 4 ≤ 64; omega, by show 20 * j + 20 ≤ 320; omega⟩ (fun σ_127 hp => ?_)
            obtain ⟨hp1, hp2⟩ := hp
            refine J_iinc7 C (by decide) rfl dL_account_130 ?_
            refine J_goto (tgt := 72) C dL_account_133 (by decide) ?_
            -- to the cut at 72
            refine J_widen (k := 4 * (j + 1)) (n := 20 * (j + 1)) (by omega) (by omega) ?_
            refine ih_72 _ (j + 1) _ ?_ ?_ ?_ ?_ ?_
            · omega
            · omega
            · omega
            · first | exact g3.trans hp1 | exact g3
            · simp only [foldS]
              first
                | (rw [if_neg (by omega)]
                   exact g4)
                | (rw [if_pos (by omega)]
                   have e4 : (if (1 : Int) = 0 then σ 25 0 (3 * (j : Int) + 1) else -σ 25 0 (3 * (j : Int) + 1)) = σ 4 0 (j : Int) := by rw [l3, if_neg (by decide), if_neg (by omega)]
                   rw [e4] at hp2
                   exact hp2)
                | (rw [if_pos (by omega)]
                   have e4 : (if (0 : Int) = 0 then σ 25 0 (3 * (j : Int) + 1) else -σ 25 0 (3 * (j : Int) + 1)) = σ 4 0 (j : Int) := by rw [l3, if_pos rfl, if_pos (by omega)]
                   rw [e4] at hp2
                   exact hp2)
          · refine J_iconst C dL_account_120 ?_
            refine J_goto (tgt := 125) C dL_account_121 (by decide) ?_
            refine J_iload7 C dL_account_125 ?_
            refine J_KSV C (c_L_enter hfl hI _ _ _ _ _ (by first | exact Or.inl rfl | exact Or.inr rfl) ka (shf σ) (foldS (shf σ) (σ 12 w 0) (σ 3 0) (σ 4 0) w (T0f (σ 13 w)) j) x22 f35 f36 f37 f38 hka hca ⟨hk1.1, by omega⟩ e22 hs htok.1 (r.fold14 hw.1 w6 j) g4 (fun q a b => by have := htok.2 q a b; omega) (by omega) hpen (by omega)) (va_cwS 6 C.1.2.2.2.2 gL_account_L_enter rfl rfl rfl (by decide +kernel) ⟨Nat.le_of_ble_eq_true rfl, Nat.le_of_ble_eq_true rfl⟩) rfl rfl (Nat.le_of_ble_eq_true rfl) dL_account_127 ⟨by show 4 * j + 4 ≤ 64; omega, by show 20 * j + 20 ≤ 320; omega⟩ (fun σ_127 hp => ?_)
            obtain ⟨hp1, hp2⟩ := hp
            refine J_iinc7 C (by decide) rfl dL_account_130 ?_
            refine J_goto (tgt := 72) C dL_account_133 (by decide) ?_
            -- to the cut at 72
            refine J_widen (k := 4 * (j + 1)) (n := 20 * (j + 1)) (by omega) (by omega) ?_
            refine ih_72 _ (j + 1) _ ?_ ?_ ?_ ?_ ?_
            · omega
            · omega
            · omega
            · first | exact g3.trans hp1 | exact g3
            · simp only [foldS]
              first
                | (rw [if_neg (by omega)]
                   exact g4)
                | (rw [if_pos (by omega)]
                   have e4 : (if (1 : Int) = 0 then σ 25 0 (3 * (j : Int) + 1) else -σ 25 0 (3 * (j : Int) + 1)) = σ 4 0 (j : Int) := by rw [l3, if_neg (by decide), if_neg (by omega)]
                   rw [e4] at hp2
                   exact hp2)
                | (rw [if_pos (by omega)]
                   have e4 : (if (0 : Int) = 0 then σ 25 0 (3 * (j : Int) + 1) else -σ 25 0 (3 * (j : Int) + 1)) = σ 4 0 (j : Int) := by rw [l3, if_pos rfl, if_pos (by omega)]
                   rw [e4] at hp2
                   exact hp2)
  have K_3 : ∀ (n_ : Nat) (i : Int) (σ1 : Sg), (0 ≤ i) → (i ≤ 25) → (25 - i < n_) → (EqE ka σ σ1) → (∀ q, 0 ≤ q → q < i → σ1 ka 0 q = eT (shf σ) (T0f (σ 13 w)) q) → JW p l e ({ frames := 2, cells := 64, slots := 320, locals := 69 } : Room) s m args below meth c cy D ad (Ar ad s.heap.size) 8 0 0 (MQ below (QcV cy D ad (fun σ' => EqE ka σ σ' ∧ RowE (σ' ka 0) (eT (shf σ) (ac σ w))) s.heap.size) args s 64 320 (Ar ad s.heap.size)) σ1 3 [some (.ref (ad 22 0)), some (.ref (ad 23 0)), some (.ref (ad 24 0)), some (.ref (ad 25 0)), some (.ref (ad 29 0)), some (.ref (ad ka 0)), some (.int (iI w)), some (.int (iI i))] [] := by
    intro n_
    induction n_ with
    | zero => intro i σ1 g0 g1 g2 g3 g4; omega
    | succ n_ ih_3 =>
      intro i σ1 g0 g1 g2 g3 g4
      have e22 : ∀ q, 0 ≤ q → q < 5 → σ1 22 0 q = shf σ q := fun q a b => by rw [g3 22 0 q (by decide) (by omega), lw.2.2.1 q a b, shf_at a b]
      have e23 : ∀ q, 0 ≤ q → q < 5 → σ1 23 0 (5 * w + q) = σ 13 w q := fun q a b => by rw [g3 23 0 _ (by decide) (by omega), lw.2.2.2.1 w q hw.1 w3 a b]
      refine J_iload7 C dL_account_3 ?_
      refine J_bipush C (by decide) dL_account_5 ?_
      refine J_icmp_ge (tgt := 69) C (by omega) (by omega) dL_account_7 (by decide) (fun c_7 => ?_) (fun c_7 => ?_)
      · refine J_iconst C dL_account_69 ?_
        refine J_istore7 C (by decide) rfl dL_account_70 ?_
        -- to the cut at 72
        refine K_72 17 _ 0 _ ?_ ?_ ?_ ?_ ?_
        · rfl
        · omega
        · omega
        · exact g3
        · intro q a b
          rw [g4 q a (by omega)]
          rfl
      · refine J_aload5 C dL_account_10 ?_
        refine J_iload7 C dL_account_12 ?_
        refine J_iload7 C dL_account_14 ?_
        refine J_iconst C dL_account_16 ?_
        refine J_icmp_ge (tgt := 47) C (by omega) (by omega) dL_account_17 (by decide) (fun c_17 => ?_) (fun c_17 => ?_)
        · refine J_iload7 C dL_account_47 ?_
          refine J_iconst C dL_account_49 ?_
          refine J_idiv C (by omega) (by omega) dL_account_50 ?_
          refine J_iconst C dL_account_51 ?_
          refine J_icmp_ne (tgt := 61) C (by omega) (by omega) dL_account_52 (by decide) (fun c_52 => ?_) (fun c_52 => ?_)
          · refine J_lconst (z := 0) C (by decide) dL_account_61 ?_
            refine J_lastore C hka hca (by omega) dL_account_62 ?_
            refine J_iinc7 C (by decide) rfl dL_account_63 ?_
            refine J_goto (tgt := 3) C dL_account_66 (by decide) ?_
            -- to the cut at 3
            refine ih_3 _ _ ?_ ?_ ?_ ?_ ?_
            · omega
            · omega
            · omega
            · exact g3.su (Or.inl rfl)
            · intro q a b
              rw [su_rw0]
              split
              · rename_i e
                subst e
                first
                  | (rw [eT0_lt a (by omega), if_pos ⟨by omega, by omega⟩])
                  | (rw [eT0_lt a (by omega), if_neg (by omega)])
                  | (rw [eT0_ge (by omega) (by omega), if_pos (by omega)])
                  | (rw [eT0_ge (by omega) (by omega), if_neg (by omega)])
              · exact g4 q a (by omega)
          · refine J_ldc2 C w_L_account_c17 dL_account_55 ?_
            refine J_goto (tgt := 62) C dL_account_58 (by decide) ?_
            refine J_lastore C hka hca (by omega) dL_account_62 ?_
            refine J_iinc7 C (by decide) rfl dL_account_63 ?_
            refine J_goto (tgt := 3) C dL_account_66 (by decide) ?_
            -- to the cut at 3
            refine ih_3 _ _ ?_ ?_ ?_ ?_ ?_
            · omega
            · omega
            · omega
            · exact g3.su (Or.inl rfl)
            · intro q a b
              rw [su_rw0]
              split
              · rename_i e
                subst e
                first
                  | (rw [eT0_lt a (by omega), if_pos ⟨by omega, by omega⟩])
                  | (rw [eT0_lt a (by omega), if_neg (by omega)])
                  | (rw [eT0_ge (by omega) (by omega), if_pos (by omega)])
                  | (rw [eT0_ge (by omega) (by omega), if_neg (by omega)])
              · exact g4 q a (by omega)
        · refine J_aload_0 C dL_account_20 ?_
          refine J_iload7 C dL_account_21 ?_
          refine J_iaload C (k22 x22) (by decide) (by omega) dL_account_23 ?_
          rw [e22 i (by omega) (by omega)]
          refine J_if_le (tgt := 43) C (by have := hs.1 i (by omega) (by omega); omega) dL_account_24 (by decide) (fun c_24 => ?_) (fun c_24 => ?_)
          · refine J_lconst (z := 0) C (by decide) dL_account_43 ?_
            refine J_goto (tgt := 62) C dL_account_44 (by decide) ?_
            refine J_lastore C hka hca (by omega) dL_account_62 ?_
            refine J_iinc7 C (by decide) rfl dL_account_63 ?_
            refine J_goto (tgt := 3) C dL_account_66 (by decide) ?_
            -- to the cut at 3
            refine ih_3 _ _ ?_ ?_ ?_ ?_ ?_
            · omega
            · omega
            · omega
            · exact g3.su (Or.inl rfl)
            · intro q a b
              rw [su_rw0]
              split
              · rename_i e
                subst e
                first
                  | (rw [eT0_lt a (by omega), if_pos ⟨by omega, by omega⟩])
                  | (rw [eT0_lt a (by omega), if_neg (by omega)])
                  | (rw [eT0_ge (by omega) (by omega), if_pos (by omega)])
                  | (rw [eT0_ge (by omega) (by omega), if_neg (by omega)])
              · exact g4 q a (by omega)
          · refine J_aload_1 C dL_account_27 ?_
            refine J_iconst C dL_account_28 ?_
            refine J_iload6 C dL_account_29 ?_
            refine J_imul C dL_account_31 ?_
            refine J_iload7 C dL_account_32 ?_
            refine J_iadd C dL_account_34 ?_
            refine J_iaload C (k23 x23) (by decide) (by omega) dL_account_35 ?_
            rw [e23 i (by omega) (by omega)]
            refine J_if_ne (tgt := 43) C (by have := r.hf3 w i hw.1 w6 (by omega) (by omega); omega) dL_account_36 (by decide) (fun c_36 => ?_) (fun c_36 => ?_)
            · refine J_lconst (z := 0) C (by decide) dL_account_43 ?_
              refine J_goto (tgt := 62) C dL_account_44 (by decide) ?_
              refine J_lastore C hka hca (by omega) dL_account_62 ?_
              refine J_iinc7 C (by decide) rfl dL_account_63 ?_
              refine J_goto (tgt := 3) C dL_account_66 (by decide) ?_
              -- to the cut at 3
              refine ih_3 _ _ ?_ ?_ ?_ ?_ ?_
              · omega
              · omega
              · omega
              · exact g3.su (Or.inl rfl)
              · intro q a b
                rw [su_rw0]
                split
                · rename_i e
                  subst e
                  first
                    | (rw [eT0_lt a (by omega), if_pos ⟨by omega, by omega⟩])
                    | (rw [eT0_lt a (by omega), if_neg (by omega)])
                    | (rw [eT0_ge (by omega) (by omega), if_pos (by omega)])
                    | (rw [eT0_ge (by omega) (by omega), if_neg (by omega)])
                · exact g4 q a (by omega)
            · refine J_lconst (z := 1) C (by decide) dL_account_39 ?_
              refine J_goto (tgt := 62) C dL_account_40 (by decide) ?_
              refine J_lastore C hka hca (by omega) dL_account_62 ?_
              refine J_iinc7 C (by decide) rfl dL_account_63 ?_
              refine J_goto (tgt := 3) C dL_account_66 (by decide) ?_
              -- to the cut at 3
              refine ih_3 _ _ ?_ ?_ ?_ ?_ ?_
              · omega
              · omega
              · omega
              · exact g3.su (Or.inl rfl)
              · intro q a b
                rw [su_rw0]
                split
                · rename_i e
                  subst e
                  first
                    | (rw [eT0_lt a (by omega), if_pos ⟨by omega, by omega⟩])
                    | (rw [eT0_lt a (by omega), if_neg (by omega)])
                    | (rw [eT0_ge (by omega) (by omega), if_pos (by omega)])
                    | (rw [eT0_ge (by omega) (by omega), if_neg (by omega)])
                · exact g4 q a (by omega)
  refine J_iconst C dL_account_0 ?_
  refine J_istore7 C (by decide) rfl dL_account_1 ?_
  -- to the cut at 3
  refine K_3 26 _ _ ?_ ?_ ?_ ?_ ?_
  · decide
  · decide
  · decide
  · exact EqE.refl
  · intro q a b; omega
def EqW (kw : Nat) (σ σ' : Sg) : Prop := ∀ (a : Nat) (b c : Int), (a < 34 ∨ 38 < a) → a ≠ kw → σ' a b c = σ a b c
theorem EqW.trans {kw : Nat} {a b c : Sg} (h : EqW kw a b) (h' : EqW kw b c) : EqW kw a c := fun x y z x1 x2 => (h' x y z x1 x2).trans (h x y z x1 x2)
theorem EqE.w {kw : Nat} {σ σ' : Sg} (h : EqE 34 σ σ') : EqW kw σ σ' := fun a b c x1 x2 => h a b c (by omega) (by omega)
theorem EqW.put {kw : Nat} {σ σ' : Sg} {k j v : Int} (h : EqW kw σ σ') : EqW kw σ (su σ' kw k j v) := fun a b c x1 x2 => by rw [su_nk x2]; exact h a b c x1 x2
theorem EqW.eqs {kw : Nat} {σ σ' : Sg} (h : EqW kw σ σ') (hk : 30 < kw) : Eqs σ σ' := fun a b c _ x2 _ => h a b c (by omega) (by omega)
theorem stepS_17 {sh : Int → Int} {pen v a : Int} {T : Nat → Int → Int} (ha : 0 < a) {q : Int} (h0 : 0 ≤ q) (h5 : q < 5) : stepS sh pen v a T 17 q = T 17 q + chp sh T a q := by
  unfold stepS
  rw [if_pos ha]
  unfold costS
  rw [if_pos ⟨rfl, h0, h5⟩]
set_option maxRecDepth 20000 in
theorem w_L_weigh_acl : Cond.arrayClass .long ∈ wsL_weigh := by decide +kernel
set_option maxRecDepth 20000 in
theorem w_L_weigh_c27 : Cond.constantLong RL 27 (lI (10000)) ∈ wsL_weigh := by decide +kernel
set_option maxHeartbeats 4000000 in
set_option maxRecDepth 100000 in
theorem c_L_weigh {l : Launch} (hfl : l.stackTraces = false) {cy : Nat → ClassId} {D : va_G} {ad : Ad} (hI : Inj ad) (σ : Sg) (w : Int) (kw : Nat) (x22 : ad 1000 22 = 1) (x23 : ad 1000 23 = 1) (x24 : ad 1000 24 = 1) (x25 : ad 1000 25 = 1) (x29 : ad 1000 29 = 1) (f34 : ¬ ad 1000 34 = 1) (f35 : ¬ ad 1000 35 = 1) (f36 : ¬ ad 1000 36 = 1) (f37 : ¬ ad 1000 37 = 1) (f38 : ¬ ad 1000 38 = 1) (hkw : IsL ad kw 5) (hcw : 0 ≤ (0 : Int) ∧ 0 < cnt kw) (hk1 : 30 < kw ∧ kw < 41 ∧ (kw < 34 ∨ 38 < kw)) (iv : Inv σ) (hw : 0 ≤ w ∧ w < σ 0 0 4) : KV l yL_weigh wsL_weigh ({ frames := 3, cells := 69, slots := 365, locals := 96 } : Room) cy D ad σ [.ref (ad 22 0), .ref (ad 23 0), .ref (ad 24 0), .ref (ad 25 0), .ref (ad 29 0), .ref (ad kw 0), .int (iI w)] (fun σ' => EqW kw σ σ' ∧ ∀ q, 0 ≤ q → q < 5 → σ' kw 0 q = chp (shf σ) (ac σ w) 10000 q) 69 365 := by
  refine KV.of (lv0 := [some (.ref (ad 22 0)), some (.ref (ad 23 0)), some (.ref (ad 24 0)), some (.ref (ad 25 0)), some (.ref (ad 29 0)), some (.ref (ad kw 0)), some (.int (iI w)), none, none]) hfl hI (by decide) rfl (Nat.le_of_ble_eq_true rfl) rfl ?_
  intro p e s m args below meth c C hr
  have r := iv.1
  have lw := iv.2
  have c0 := lw.1
  unfold L0 at c0
  have lm := lw.2.1
  unfold Lm at lm
  have w6 : w < 6 := by omega
  have w3 : w < 3 := by omega
  have hs := r.hsh
  have ra := r.2.2.2.2.2.1 w hw.1 w6
  have hpen := (r.2.2.2.1 w hw.1 w6).1
  have hq := fun q a b => (r.tok hw.1 w6).2 q a b
  have hz : ∀ q, 0 ≤ q → q < 5 → shf σ q = 0 → ac σ w 14 q = 0 := by rw [ra.2]; exact r.fold14 hw.1 w6 _
  have Z0 : Eqs σ (sz0 σ 34) := fun a b c _ x2 _ => sz0_nk (by omega)
  refine J_bipush C (by decide) dL_weigh_0 ?_
  refine J_newL (N := 25) (kd := 34) C ⟨by decide, by decide⟩ (fun _ _ => rfl) f34 w_L_weigh_acl ⟨by decide, by decide⟩ (by decide) ⟨Nat.le_of_ble_eq_true rfl, Nat.le_of_ble_eq_true rfl⟩ dL_weigh_2 (fun ad1 q_ e_ hI1 C1 hx1 hs1 x34 => ?_)
  subst e_
  rw [← (hs1 22 (by decide) (Or.inr x22)).2 0]
  rw [← (hs1 23 (by decide) (Or.inr x23)).2 0]
  rw [← (hs1 24 (by decide) (Or.inr x24)).2 0]
  rw [← (hs1 25 (by decide) (Or.inr x25)).2 0]
  rw [← (hs1 29 (by decide) (Or.inr x29)).2 0]
  rw [← (hs1 kw (by omega) (hkw.2.1)).2 0]
  have x22 : ad1 1000 22 = 1 := (hx1 22 (by decide)).trans x22
  have x23 : ad1 1000 23 = 1 := (hx1 23 (by decide)).trans x23
  have x24 : ad1 1000 24 = 1 := (hx1 24 (by decide)).trans x24
  have x25 : ad1 1000 25 = 1 := (hx1 25 (by decide)).trans x25
  have x29 : ad1 1000 29 = 1 := (hx1 29 (by decide)).trans x29
  have f35 : ¬ ad1 1000 35 = 1 := fun z => f35 ((hx1 35 (by decide)).symm.trans z)
  have f36 : ¬ ad1 1000 36 = 1 := fun z => f36 ((hx1 36 (by decide)).symm.trans z)
  have f37 : ¬ ad1 1000 37 = 1 := fun z => f37 ((hx1 37 (by decide)).symm.trans z)
  have f38 : ¬ ad1 1000 38 = 1 := fun z => f38 ((hx1 38 (by decide)).symm.trans z)
  have hkw := hkw.up hs1 (by omega)
  refine J_astore7 C1 (by decide) rfl dL_weigh_4 ?_
  refine J_aload_0 C1 dL_weigh_6 ?_
  refine J_aload_1 C1 dL_weigh_7 ?_
  refine J_aload_2 C1 dL_weigh_8 ?_
  refine J_aload_3 C1 dL_weigh_9 ?_
  refine J_aload4 C1 dL_weigh_10 ?_
  refine J_aload7 C1 dL_weigh_12 ?_
  refine J_iload6 C1 dL_weigh_14 ?_
  refine J_KSV C1 (c_L_account hfl hI1 _ w 34 x22 x23 x24 x25 x29 f35 f36 f37 f38 (k34 x34) (by decide) (by decide) (iv.congr Z0) (by rw [sz0_nk (by decide)]; exact hw)) (va_cwS 7 C1.1.2.2.2.2 gL_weigh_L_account rfl rfl rfl (by decide +kernel) ⟨Nat.le_of_ble_eq_true rfl, Nat.le_of_ble_eq_true rfl⟩) rfl rfl (Nat.le_of_ble_eq_true rfl) dL_weigh_16 ⟨Nat.le_of_ble_eq_true rfl, Nat.le_of_ble_eq_true rfl⟩ (fun σ_16 hp => ?_)
  obtain ⟨hp1, hp2⟩ := hp
  have K_22 : ∀ (n_ : Nat) (i : Int) (σ1 : Sg), (0 ≤ i) → (i ≤ 5) → (5 - i < n_) → (EqW kw σ σ1) → (RowE (σ1 34 0) (eT (shf σ) (ac σ w))) → (∀ q, 0 ≤ q → q < i → σ1 kw 0 q = -(ac σ w 17 q)) → JW p l e ({ frames := 3, cells := 69, slots := 365, locals := 96 } : Room) s m args below meth c cy D ad1 (Ar ad s.heap.size) 9 65 345 (MQ below (QcV cy D ad (fun σ' => EqW kw σ σ' ∧ ∀ q, 0 ≤ q → q < 5 → σ' kw 0 q = chp (shf σ) (ac σ w) 10000 q) s.heap.size) args s 69 365 (Ar ad s.heap.size)) σ1 22 [some (.ref (ad1 22 0)), some (.ref (ad1 23 0)), some (.ref (ad1 24 0)), some (.ref (ad1 25 0)), some (.ref (ad1 29 0)), some (.ref (ad1 kw 0)), some (.int (iI w)), some (.ref (ad1 34 0)), some (.int (iI i))] [] := by
    intro n_
    induction n_ with
    | zero => intro i σ1 g0 g1 g2 g3 g4 g5; omega
    | succ n_ ih_22 =>
      intro i σ1 g0 g1 g2 g3 g4 g5
      refine J_iload8 C1 dL_weigh_22 ?_
      refine J_iconst C1 dL_weigh_24 ?_
      refine J_icmp_ge (tgt := 48) C1 (by omega) (by omega) dL_weigh_25 (by decide) (fun c_25 => ?_) (fun c_25 => ?_)
      · refine J_aload_0 C1 dL_weigh_48 ?_
        refine J_aload_2 C1 dL_weigh_49 ?_
        refine J_iload6 C1 dL_weigh_50 ?_
        refine J_iaload C1 (k24 x24) (by decide) (by omega) dL_weigh_52 ?_
        rw [g3 24 0 w (by decide) (by omega), lw.2.2.2.2.1 w hw.1 w3 hw.2]
        refine J_aload7 C1 dL_weigh_53 ?_
        refine J_ldc2 C1 w_L_weigh_c27 dL_weigh_55 ?_
        refine J_iconst C1 dL_weigh_58 ?_
        refine J_iconst C1 dL_weigh_59 ?_
        refine J_KSV C1 (c_L_enter hfl hI1 _ _ _ _ _ (Or.inl rfl) 34 (shf σ) (ac σ w) x22 f35 f36 f37 f38 (k34 x34) (by decide) (by decide) (fun q a b => by rw [g3 22 0 q (by decide) (by omega), lw.2.2.1 q a b, shf_at a b]) hs (r.tok hw.1 w6).1 hz g4 (fun q a b => by have := hq q a b; omega) (by omega) hpen (by omega)) (va_cwS 6 C1.1.2.2.2.2 gL_weigh_L_enter rfl rfl rfl (by decide +kernel) ⟨Nat.le_of_ble_eq_true rfl, Nat.le_of_ble_eq_true rfl⟩) rfl rfl (Nat.le_of_ble_eq_true rfl) dL_weigh_60 ⟨Nat.le_of_ble_eq_true rfl, Nat.le_of_ble_eq_true rfl⟩ (fun σ_60 hp => ?_)
        obtain ⟨hp1, hp2⟩ := hp
        have K_66 : ∀ (m_ : Nat) (i : Int) (σ2 : Sg), (0 ≤ i) → (i ≤ 5) → (5 - i < m_) → (EqW kw σ σ2) → (RowE (σ2 34 0) (eT (shf σ) (stepS (shf σ) (σ 12 w 0) 0 10000 (ac σ w)))) → (∀ q, 0 ≤ q → q < 5 → σ2 kw 0 q = if q < i then chp (shf σ) (ac σ w) 10000 q else -(ac σ w 17 q)) → JW p l e ({ frames := 3, cells := 69, slots := 365, locals := 96 } : Room) s m args below meth c cy D ad1 (Ar ad s.heap.size) 9 69 365 (MQ below (QcV cy D ad (fun σ' => EqW kw σ σ' ∧ ∀ q, 0 ≤ q → q < 5 → σ' kw 0 q = chp (shf σ) (ac σ w) 10000 q) s.heap.size) args s 69 365 (Ar ad s.heap.size)) σ2 66 [some (.ref (ad1 22 0)), some (.ref (ad1 23 0)), some (.ref (ad1 24 0)), some (.ref (ad1 25 0)), some (.ref (ad1 29 0)), some (.ref (ad1 kw 0)), some (.int (iI w)), some (.ref (ad1 34 0)), some (.int (iI i))] [] := by
          intro m_
          induction m_ with
          | zero => intro i σ2 u0 u1 u2 u3 u4 u5; omega
          | succ m_ ih_66 =>
            intro i σ2 u0 u1 u2 u3 u4 u5
            refine J_iload8 C1 dL_weigh_66 ?_
            refine J_iconst C1 dL_weigh_68 ?_
            refine J_icmp_ge (tgt := 94) C1 (by omega) (by omega) dL_weigh_69 (by decide) (fun c_69 => ?_) (fun c_69 => ?_)
            · refine J_back hs1 ?_
              refine J_retV C hr (by decide) (by decide) dL_weigh_94 ?_
              have e9 : i = 5 := by omega
              subst e9
              exact ⟨u3, fun q a b => by rw [u5 q a b, if_pos b]⟩
            · refine J_aload5 C1 dL_weigh_72 ?_
              refine J_iload8 C1 dL_weigh_74 ?_
              refine J_dup2 C1 rfl rfl dL_weigh_76 ?_
              refine J_laload C1 hkw hcw (by omega) dL_weigh_77 ?_
              refine J_aload7 C1 dL_weigh_78 ?_
              refine J_bipush C1 (by decide) dL_weigh_80 ?_
              refine J_iload8 C1 dL_weigh_82 ?_
              refine J_iadd C1 dL_weigh_84 ?_
              refine J_laload C1 (k34 x34) (by decide) (by omega) dL_weigh_85 ?_
              refine J_ladd C1 dL_weigh_86 ?_
              refine J_lastore C1 hkw hcw (by omega) dL_weigh_87 ?_
              refine J_iinc8 C1 (by decide) rfl dL_weigh_88 ?_
              refine J_goto (tgt := 66) C1 dL_weigh_91 (by decide) ?_
              -- to the cut at 66
              refine ih_66 _ _ ?_ ?_ ?_ ?_ ?_ ?_
              · omega
              · omega
              · omega
              · exact u3.put
              · exact u4.of (fun z => su_nk (by omega))
              · intro q a b
                rw [su_rw0]
                split
                · rename_i e
                  subst e
                  rw [u5 q a b, if_neg (by omega), if_pos (by omega), u4 (15 + q) (by omega) (by omega), eT_15 a b, stepS_17 (by decide) a b]
                  omega
                · rename_i e
                  rw [u5 q a b]
                  by_cases hl : q < i
                  · rw [if_pos hl, if_pos (by omega)]
                  · rw [if_neg hl, if_neg (by omega)]
        refine J_iconst C1 dL_weigh_63 ?_
        refine J_istore8 C1 (by decide) rfl dL_weigh_64 ?_
        -- to the cut at 66
        refine K_66 6 _ _ ?_ ?_ ?_ ?_ ?_ ?_
        · decide
        · decide
        · decide
        · exact g3.trans hp1.w
        · rw [if_pos rfl] at hp2; exact hp2
        · intro q a b
          rw [if_neg (by omega), hp1 kw 0 q (by omega) (by omega)]
          exact g5 q a (by omega)
      · refine J_aload5 C1 dL_weigh_28 ?_
        refine J_iload8 C1 dL_weigh_30 ?_
        refine J_aload7 C1 dL_weigh_32 ?_
        refine J_bipush C1 (by decide) dL_weigh_34 ?_
        refine J_iload8 C1 dL_weigh_36 ?_
        refine J_iadd C1 dL_weigh_38 ?_
        refine J_laload C1 (k34 x34) (by decide) (by omega) dL_weigh_39 ?_
        refine J_lneg C1 dL_weigh_40 ?_
        refine J_lastore C1 hkw hcw (by omega) dL_weigh_41 ?_
        refine J_iinc8 C1 (by decide) rfl dL_weigh_42 ?_
        refine J_goto (tgt := 22) C1 dL_weigh_45 (by decide) ?_
        -- to the cut at 22
        refine ih_22 _ _ ?_ ?_ ?_ ?_ ?_ ?_
        · omega
        · omega
        · omega
        · exact g3.put
        · exact g4.of (fun z => su_nk (by omega))
        · intro q a b
          rw [su_rw0]
          split
          · rename_i e
            subst e
            rw [g4 (15 + q) (by omega) (by omega), eT_15 (by omega) (by omega)]
          · exact g5 q a (by omega)
  refine J_iconst C1 dL_weigh_19 ?_
  refine J_istore8 C1 (by decide) rfl dL_weigh_20 ?_
  -- to the cut at 22
  refine K_22 6 _ _ ?_ ?_ ?_ ?_ ?_ ?_
  · decide
  · decide
  · decide
  · exact (fun a b c x1 x2 => by rw [hp1 a b c (by omega) (by omega)]; exact sz0_nk (by omega))
  · rw [Z0.sh, Z0.ac w] at hp2; exact hp2
  · intro q a b; omega
