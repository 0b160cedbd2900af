set_option maxHeartbeats 4000000 in
set_option maxRecDepth 100000 in
theorem c_L_divide {l : Launch} (hfl : l.stackTraces = false) {cy : Nat → ClassId} {D : va_G} {ad : Ad} (hI : Inj ad) (σ : Sg) (a : Int) (wk pk : Nat) (hwk : IsL ad wk 5) (hpk : IsL ad pk 5) (hcw : 0 ≤ (0 : Int) ∧ 0 < cnt wk) (hcp : 0 ≤ (0 : Int) ∧ 0 < cnt pk) (hne : pk ≠ wk) (ha : 0 ≤ a ∧ a ≤ 1000000000) (hw : Wt (σ wk 0)) (hwb : ∀ q, 0 ≤ q → q < 5 → σ wk 0 q ≤ 1000000000) : KV l yL_divide wsL_divide ({ frames := 0, cells := 0, slots := 0, locals := 0 } : Room) cy D ad σ [.long (lI a), .ref (ad wk 0), .ref (ad pk 0)] (fun σ' => σ' = sf σ pk 0 5 (dv a (σ wk 0))) 0 0 := by
  refine KV.of (lv0 := [some (.long (lI a)), none, some (.ref (ad wk 0)), some (.ref (ad pk 0)), none, none, none, none, none, none, none, none, none]) hfl hI (by decide) rfl (Nat.le_of_ble_eq_true rfl) rfl ?_
  intro p e s m args below meth c C hr
  have hS := hw.2
  have hw0 := hw.1
  have hl := dl_rng a hw
  have hSe : s5 (σ wk 0) = σ wk 0 0 + σ wk 0 1 + σ wk 0 2 + σ wk 0 3 + σ wk 0 4 := rfl
  have hSb : s5 (σ wk 0) ≤ 5000000000 := by have b0 := hwb 0 (by decide) (by decide); have b1 := hwb 1 (by decide) (by decide); have b2 := hwb 2 (by decide) (by decide); have b3 := hwb 3 (by decide) (by decide); have b4 := hwb 4 (by decide) (by decide); omega
  have hdr := fun k => dr_nn a hw k
  have hm : ∀ k, 0 ≤ k → k < 5 → 0 ≤ a * σ wk 0 k ∧ a * σ wk 0 k < 9223372036854775808 := fun k x y => mul_rng2 ha ⟨hw0 k x y, hwb k x y⟩
  have hrd : ∀ (n : Int) (f : Int → Int) (x : Int), sf σ pk 0 n f wk 0 x = σ wk 0 x := fun n f x => sf_nk (Ne.symm hne)
  have K_64 : ∀ (n_ : Nat) (g : Int) (lf : Int) (σ1 : Sg), (0 ≤ g) → (g < 32) → (0 ≤ lf) → (lf ≤ 4) → (lf < n_) → (Chs (dr a (σ wk 0)) (chg g) (dl a (σ wk 0) - lf)) → (σ1 = sf σ pk 0 5 (fun k => dq a (σ wk 0) k + chg g k)) → JW p l e ({ frames := 0, cells := 0, slots := 0, locals := 0 } : Room) s m args below meth c cy D ad (Ar ad s.heap.size) 13 0 0 (MQ below (QcV cy D ad (fun σ' => σ' = sf σ pk 0 5 (dv a (σ wk 0))) s.heap.size) args s 0 0 (Ar ad s.heap.size)) σ1 64 [some (.long (lI a)), none, some (.ref (ad wk 0)), some (.ref (ad pk 0)), some (.long (lI (s5 (σ wk 0)))), none, some (.long (lI lf)), none, some (.int (iI g)), none, none, none, none] [] := by
    intro n_
    induction n_ with
    | zero => intro g lf σ1 g0 g1 g2 g3 g4 g5 g6; omega
    | succ n_ ih_64 =>
      intro g lf σ1 g0 g1 g2 g3 g4 g5 g6
      subst g6
      refine J_lload6 C dL_divide_64 ?_
      refine J_lconst (z := 0) C (by decide) dL_divide_66 ?_
      refine J_lif_le (tgt := 165) C (by omega) (by omega) dL_divide_67 dL_divide_68 (by decide) (fun c_67 => ?_) (fun c_67 => ?_)
      · refine J_retV C hr (by decide) (by decide) dL_divide_165 ?_
        have e0 : lf = 0 := by omega
        subst e0
        rw [Int.sub_zero] at g5
        exact sf_cg (fun k k0 k5 => by rw [Chs_ahd g5 k k0 k5]; rfl)
      · have K_77 : ∀ (m_ : Nat) (b : Int) (i : Int), (0 ≤ i) → (i ≤ 5) → (5 - i < m_) → (∃ j : Nat, i = (j : Int) ∧ b = bst (dr a (σ wk 0)) (chg g) j) → JW p l e ({ frames := 0, cells := 0, slots := 0, locals := 0 } : Room) s m args below meth c cy D ad (Ar ad s.heap.size) 13 0 0 (MQ below (QcV cy D ad (fun σ' => σ' = sf σ pk 0 5 (dv a (σ wk 0))) s.heap.size) args s 0 0 (Ar ad s.heap.size)) (sf σ pk 0 5 (fun k => dq a (σ wk 0) k + chg g k)) 77 [some (.long (lI a)), none, some (.ref (ad wk 0)), some (.ref (ad pk 0)), some (.long (lI (s5 (σ wk 0)))), none, some (.long (lI lf)), none, some (.int (iI g)), some (.int (iI b)), some (.int (iI i)), none, none] [] := by
          intro m_
          induction m_ with
          | zero => intro b i u0 u1 u2 u3; omega
          | succ m_ ih_77 =>
            intro b i u0 u1 u2 u3
            obtain ⟨j, rfl, rfl⟩ := u3
            have hb : bst (dr a (σ wk 0)) (chg g) j = -1 ∨ (0 ≤ bst (dr a (σ wk 0)) (chg g) j ∧ bst (dr a (σ wk 0)) (chg g) j < j) := (bst_spec (dr a (σ wk 0)) (chg g) j).imp (fun z => z.1) (fun z => ⟨z.1, z.2.1⟩)
            refine J_iload10 C dL_divide_77 ?_
            refine J_iconst C dL_divide_79 ?_
            refine J_icmp_ge (tgt := 139) C (by omega) (by omega) dL_divide_80 (by decide) (fun c_80 => ?_) (fun c_80 => ?_)
            · have e5 : j = 5 := by omega
              subst e5
              have hst := bst_step g5 (by omega)
              have hor := or_ok g0 g1 hst.1 hst.2.1 hst.2.2.1
              refine J_aload_3 C dL_divide_139 ?_
              refine J_iload9 C dL_divide_140 ?_
              refine J_dup2 C rfl rfl dL_divide_142 ?_
              refine J_laload C hpk hcp (by exact ⟨hst.1, hst.2.1⟩) dL_divide_143 ?_
              refine J_lconst (z := 1) C (by decide) dL_divide_144 ?_
              refine J_ladd C dL_divide_145 ?_
              refine J_lastore C hpk hcp (by exact ⟨hst.1, hst.2.1⟩) dL_divide_146 ?_
              refine J_iload8 C dL_divide_147 ?_
              refine J_iconst C dL_divide_149 ?_
              refine J_iload9 C dL_divide_150 ?_
              refine J_ishl C (by exact shl_ok hst.1 hst.2.1) dL_divide_152 ?_
              refine J_ior C (by exact hor.1) dL_divide_153 ?_
              refine J_istore8 C (by decide) rfl dL_divide_154 ?_
              refine J_lload6 C dL_divide_156 ?_
              refine J_lconst (z := 1) C (by decide) dL_divide_158 ?_
              refine J_lsub C dL_divide_159 ?_
              refine J_lstore6 C (by decide) rfl dL_divide_160 ?_
              refine J_goto (tgt := 64) C dL_divide_162 (by decide) ?_
              -- to the cut at 64
              refine J_fg9 ?_
              refine J_fg10 ?_
              refine ih_64 _ _ _ ?_ ?_ ?_ ?_ ?_ ?_ ?_
              · have := p2_nn (bst (dr a (σ wk 0)) (chg g) 5); omega
              · exact hor.2
              · omega
              · omega
              · omega
              · have e := hst.2.2.2
                refine Chs.congr (ch := fun k => if k = bst (dr a (σ wk 0)) (chg g) 5 then 1 else chg g k) ?_ (chg_add g0 g1 hst.1 hst.2.1 hst.2.2.1)
                rw [show dl a (σ wk 0) - (lf - 1) = dl a (σ wk 0) - lf + 1 from by omega]
                exact e
              · rw [sf_at hst.1 hst.2.1]
                funext x y z
                simp only [su, sf]
                have hc := chg_add g0 g1 hst.1 hst.2.1 hst.2.2.1
                by_cases e : x = pk ∧ y = 0 ∧ 0 ≤ z ∧ z < 5
                · rw [if_pos e, hc z e.2.2.1 e.2.2.2]
                  by_cases e2 : z = bst (dr a (σ wk 0)) (chg g) 5
                  · rw [if_pos ⟨e.1, e.2.1, e2⟩, if_pos e2, ← e2, show chg g z = 0 from by rw [e2]; exact hst.2.2.1]
                    omega
                  · rw [if_neg (fun z => e2 z.2.2), if_pos e, if_neg e2]
                · rw [if_neg e, if_neg (fun w => e ⟨w.1, w.2.1, by rw [w.2.2]; exact ⟨hst.1, hst.2.1⟩⟩), if_neg e]
            · refine J_lload_0 C dL_divide_83 ?_
              refine J_aload_2 C dL_divide_84 ?_
              refine J_iload10 C dL_divide_85 ?_
              refine J_laload C hwk hcw (by omega) dL_divide_87 ?_
              rw [hrd]
              refine J_lmul C dL_divide_88 ?_
              refine J_lload4 C dL_divide_89 ?_
              refine J_lrem C (by exact hm _ (by omega) (by omega)) (by omega) dL_divide_91 ?_
              rw [show a * σ wk 0 (j : Int) % s5 (σ wk 0) = dr a (σ wk 0) (j : Int) from rfl]
              refine J_lstore11 C (by decide) rfl dL_divide_92 ?_
              refine J_iload8 C dL_divide_94 ?_
              refine J_iload10 C dL_divide_96 ?_
              refine J_ishr C (by exact shr_ok g0 g1 (by omega) (by omega)) dL_divide_98 ?_
              refine J_iconst C dL_divide_99 ?_
              refine J_iand C (by exact and1_ok g0 g1 (by omega) (by omega)) dL_divide_100 ?_
              refine J_if_ne (tgt := 129) C (by have := chg_01 g (j : Int); omega) dL_divide_101 (by decide) (fun c_101 => ?_) (fun c_101 => ?_)
              · refine J_iload9 C dL_divide_129 ?_
                refine J_istore9 C (by decide) rfl dL_divide_131 ?_
                refine J_iinc10 C (by decide) rfl dL_divide_133 ?_
                refine J_goto (tgt := 77) C dL_divide_136 (by decide) ?_
                -- to the cut at 77
                refine J_fg11 ?_
                refine ih_77 _ _ ?_ ?_ ?_ ?_
                · omega
                · omega
                · omega
                · refine ⟨j + 1, by omega, ?_⟩
                  simp only [bst]
                  split <;> omega
              · refine J_iload9 C dL_divide_104 ?_
                refine J_if_lt (tgt := 124) C (by omega) dL_divide_106 (by decide) (fun c_106 => ?_) (fun c_106 => ?_)
                · refine J_iload10 C dL_divide_124 ?_
                  refine J_goto (tgt := 131) C dL_divide_126 (by decide) ?_
                  refine J_istore9 C (by decide) rfl dL_divide_131 ?_
                  refine J_iinc10 C (by decide) rfl dL_divide_133 ?_
                  refine J_goto (tgt := 77) C dL_divide_136 (by decide) ?_
                  -- to the cut at 77
                  refine J_fg11 ?_
                  refine ih_77 _ _ ?_ ?_ ?_ ?_
                  · omega
                  · omega
                  · omega
                  · refine ⟨j + 1, by omega, ?_⟩
                    simp only [bst]
                    split <;> omega
                · refine J_lload11 C dL_divide_109 ?_
                  refine J_lload_0 C dL_divide_111 ?_
                  refine J_aload_2 C dL_divide_112 ?_
                  refine J_iload9 C dL_divide_113 ?_
                  refine J_laload C hwk hcw (by omega) dL_divide_115 ?_
                  rw [hrd]
                  refine J_lmul C dL_divide_116 ?_
                  refine J_lload4 C dL_divide_117 ?_
                  refine J_lrem C (by exact hm _ (by omega) (by omega)) (by omega) dL_divide_119 ?_
                  rw [show a * σ wk 0 (bst (dr a (σ wk 0)) (chg g) j) % s5 (σ wk 0) = dr a (σ wk 0) (bst (dr a (σ wk 0)) (chg g) j) from rfl]
                  refine J_lif_le (tgt := 129) C (by have := hdr (j : Int); omega) (by have := hdr (bst (dr a (σ wk 0)) (chg g) j); omega) dL_divide_120 dL_divide_121 (by decide) (fun c_120 => ?_) (fun c_120 => ?_)
                  · refine J_iload9 C dL_divide_129 ?_
                    refine J_istore9 C (by decide) rfl dL_divide_131 ?_
                    refine J_iinc10 C (by decide) rfl dL_divide_133 ?_
                    refine J_goto (tgt := 77) C dL_divide_136 (by decide) ?_
                    -- to the cut at 77
                    refine J_fg11 ?_
                    refine ih_77 _ _ ?_ ?_ ?_ ?_
                    · omega
                    · omega
                    · omega
                    · refine ⟨j + 1, by omega, ?_⟩
                      simp only [bst]
                      split <;> omega
                  · refine J_iload10 C dL_divide_124 ?_
                    refine J_goto (tgt := 131) C dL_divide_126 (by decide) ?_
                    refine J_istore9 C (by decide) rfl dL_divide_131 ?_
                    refine J_iinc10 C (by decide) rfl dL_divide_133 ?_
                    refine J_goto (tgt := 77) C dL_divide_136 (by decide) ?_
                    -- to the cut at 77
                    refine J_fg11 ?_
                    refine ih_77 _ _ ?_ ?_ ?_ ?_
                    · omega
                    · omega
                    · omega
                    · refine ⟨j + 1, by omega, ?_⟩
                      simp only [bst]
                      split <;> omega
        refine J_iconst C dL_divide_71 ?_
        refine J_istore9 C (by decide) rfl dL_divide_72 ?_
        refine J_iconst C dL_divide_74 ?_
        refine J_istore10 C (by decide) rfl dL_divide_75 ?_
        -- to the cut at 77
        refine K_77 6 _ _ ?_ ?_ ?_ ?_
        · decide
        · decide
        · decide
        · exact ⟨0, rfl, rfl⟩
  have K_30 : ∀ (n_ : Nat) (lf : Int) (i : Int) (σ1 : Sg), (0 ≤ i) → (i ≤ 5) → (5 - i < n_) → (∃ j : Nat, i = (j : Int) ∧ lf = a - sN (dq a (σ wk 0)) j) → (σ1 = sf σ pk 0 i (dq a (σ wk 0))) → JW p l e ({ frames := 0, cells := 0, slots := 0, locals := 0 } : Room) s m args below meth c cy D ad (Ar ad s.heap.size) 13 0 0 (MQ below (QcV cy D ad (fun σ' => σ' = sf σ pk 0 5 (dv a (σ wk 0))) s.heap.size) args s 0 0 (Ar ad s.heap.size)) σ1 30 [some (.long (lI a)), none, some (.ref (ad wk 0)), some (.ref (ad pk 0)), some (.long (lI (s5 (σ wk 0)))), none, some (.long (lI lf)), none, some (.int (iI 0)), some (.int (iI i)), none, none, none] [] := by
    intro n_
    induction n_ with
    | zero => intro lf i σ1 g0 g1 g2 g3 g4; omega
    | succ n_ ih_30 =>
      intro lf i σ1 g0 g1 g2 g3 g4
      obtain ⟨j, rfl, rfl⟩ := g3
      subst g4
      refine J_iload9 C dL_divide_30 ?_
      refine J_iconst C dL_divide_32 ?_
      refine J_icmp_ge (tgt := 64) C (by omega) (by omega) dL_divide_33 (by decide) (fun c_33 => ?_) (fun c_33 => ?_)
      · -- to the cut at 64
        have e5 : j = 5 := by omega
        subst e5
        rw [sN_5, show a - s5 (dq a (σ wk 0)) = dl a (σ wk 0) from rfl]
        refine J_fg9 ?_
        refine K_64 10 _ _ _ ?_ ?_ ?_ ?_ ?_ ?_ ?_
        · decide
        · decide
        · exact hl.1
        · omega
        · omega
        · rw [show dl a (σ wk 0) - dl a (σ wk 0) = 0 from by omega]
          exact (Chs_0 _).congr chg_0
        · exact sf_cg (fun c x y => by rw [chg_0 c x y]; omega)
      · refine J_aload_3 C dL_divide_36 ?_
        refine J_iload9 C dL_divide_37 ?_
        refine J_lload_0 C dL_divide_39 ?_
        refine J_aload_2 C dL_divide_40 ?_
        refine J_iload9 C dL_divide_41 ?_
        refine J_laload C hwk hcw (by omega) dL_divide_43 ?_
        rw [hrd]
        refine J_lmul C dL_divide_44 ?_
        refine J_lload4 C dL_divide_45 ?_
        refine J_ldiv C (by exact hm _ (by omega) (by omega)) (by omega) dL_divide_47 ?_
        refine J_lastore C hpk hcp (by omega) dL_divide_48 ?_
        refine J_lload6 C dL_divide_49 ?_
        refine J_aload_3 C dL_divide_51 ?_
        refine J_iload9 C dL_divide_52 ?_
        refine J_laload C hpk hcp (by omega) dL_divide_54 ?_
        refine J_lsub C dL_divide_55 ?_
        refine J_lstore6 C (by decide) rfl dL_divide_56 ?_
        refine J_iinc9 C (by decide) rfl dL_divide_58 ?_
        refine J_goto (tgt := 30) C dL_divide_61 (by decide) ?_
        -- to the cut at 30
        refine ih_30 _ _ _ ?_ ?_ ?_ ?_ ?_
        · omega
        · omega
        · omega
        · refine ⟨j + 1, by omega, ?_⟩
          simp only [sN]
          rw [su_at]
          show a - sN (dq a (σ wk 0)) j - dq a (σ wk 0) j = _
          omega
        · exact sf_su g0 rfl
  refine J_aload_2 C dL_divide_0 ?_
  refine J_iconst C dL_divide_1 ?_
  refine J_laload C hwk hcw (by omega) dL_divide_2 ?_
  refine J_aload_2 C dL_divide_3 ?_
  refine J_iconst C dL_divide_4 ?_
  refine J_laload C hwk hcw (by omega) dL_divide_5 ?_
  refine J_ladd C dL_divide_6 ?_
  refine J_aload_2 C dL_divide_7 ?_
  refine J_iconst C dL_divide_8 ?_
  refine J_laload C hwk hcw (by omega) dL_divide_9 ?_
  refine J_ladd C dL_divide_10 ?_
  refine J_aload_2 C dL_divide_11 ?_
  refine J_iconst C dL_divide_12 ?_
  refine J_laload C hwk hcw (by omega) dL_divide_13 ?_
  refine J_ladd C dL_divide_14 ?_
  refine J_aload_2 C dL_divide_15 ?_
  refine J_iconst C dL_divide_16 ?_
  refine J_laload C hwk hcw (by omega) dL_divide_17 ?_
  refine J_ladd C dL_divide_18 ?_
  rw [show σ wk 0 0 + σ wk 0 1 + σ wk 0 2 + σ wk 0 3 + σ wk 0 4 = s5 (σ wk 0) from rfl]
  refine J_lstore4 C (by decide) rfl dL_divide_19 ?_
  refine J_lload_0 C dL_divide_21 ?_
  refine J_lstore6 C (by decide) rfl dL_divide_22 ?_
  refine J_iconst C dL_divide_24 ?_
  refine J_istore8 C (by decide) rfl dL_divide_25 ?_
  refine J_iconst C dL_divide_27 ?_
  refine J_istore9 C (by decide) rfl dL_divide_28 ?_
  -- to the cut at 30
  refine K_30 6 _ _ _ ?_ ?_ ?_ ?_ ?_
  · decide
  · decide
  · decide
  · exact ⟨0, rfl, by simp [sN]⟩
  · exact (sf_0 ..).symm
