set_option maxRecDepth 20000 in
theorem in_X4_shareOut_X4 : ∀ w ∈ wsX40, w ∈ wsX4_shareOut := by decide +kernel
set_option maxRecDepth 20000 in
theorem fl_X4_shareOut_42 : Cond.fieldLink RX4 42 "JointVentureModel" "owed" "[I" ∈ wsX4_shareOut := by decide +kernel
set_option maxRecDepth 20000 in
theorem fl_X4_shareOut_39 : Cond.fieldLink RX4 39 "JointVentureModel" "pays" "[I" ∈ wsX4_shareOut := by decide +kernel
set_option maxRecDepth 20000 in
theorem fl_X4_shareOut_36 : Cond.fieldLink RX4 36 "JointVentureModel" "asks" "[I" ∈ wsX4_shareOut := by decide +kernel
set_option maxRecDepth 20000 in
theorem fl_X4_shareOut_64 : Cond.fieldLink RX4 64 "JointVentureModel" "parts" "[I" ∈ wsX4_shareOut := by decide +kernel
set_option maxRecDepth 20000 in
theorem fl_X4_shareOut_61 : Cond.fieldLink RX4 61 "JointVentureModel" "weights" "[I" ∈ wsX4_shareOut := by decide +kernel
set_option maxHeartbeats 4000000 in
set_option maxRecDepth 100000 in
theorem c_X4_shareOut {l : Launch} (hfl : l.stackTraces = false) {cy : Nat → ClassId} {D : va_G} {ad : Ad} (hI : Inj ad) (σ : Sg) (k9 : Int) (hk9 : I32 k9) (hM : Mi σ) (hpa : ∀ j, 0 ≤ j → j < 100 → 0 ≤ σ 31 0 j ∧ σ 31 0 j ≤ σ 30 0 j ∧ σ 30 0 j ≤ 10000000) : KI l yX4_shareOut wsX4_shareOut ({ frames := 2, cells := 0, slots := 0, locals := 43 } : Room) cy D ad σ [.ref (ad 22 0), .int (iI k9)] (fun z σ' => ∃ cd, ((cd = 0 ∧ ((0 ≤ k9 ∧ k9 < σ 22 0 13) ∧ pym σ k9 5 ∧ 0 < s5 (npm σ k9))) ∨ (cd = 1 ∧ (¬ (0 ≤ k9 ∧ k9 < σ 22 0 13))) ∨ (cd = 2 ∧ ((0 ≤ k9 ∧ k9 < σ 22 0 13) ∧ ¬ (pym σ k9 5 ∧ 0 < s5 (npm σ k9))))) ∧ (cd = 0 → z = s5 (npm σ k9) ∧ (∀ (a : Nat) (b c : Int), a < 30 ∨ a = 31 ∨ 41 < a → σ' a b c = su σ 22 0 24 0 a b c) ∧ (∀ q, 0 ≤ q → q < 5 → σ' 32 0 q = σ 32 0 q + if 0 < σ 31 0 (5 * k9 + q) then 0 else σ 30 0 (5 * k9 + q)) ∧ ∀ j, σ' 30 0 j = if 5 * k9 ≤ j ∧ j < 5 * k9 + 5 then (if 0 < σ 31 0 j then σ 30 0 j + dv (s5 (npm σ k9)) (pwm σ k9) (j - 5 * k9) else 0) else σ 30 0 j) ∧ (¬ cd = 0 → ∀ (a : Nat) (b c : Int), a < 33 ∨ 41 < a → σ' a b c = su σ 22 0 24 cd a b c)) 0 0 := by
  refine KI.of (lv0 := [some (.ref (ad 22 0)), some (.int (iI k9)), none, none, none, none, none]) hfl hI (by decide) rfl (Nat.le_of_ble_eq_true rfl) rfl ?_
  intro p e s m args below meth c C hr
  have hcm := hM.2.2.2.2.2.2
  have hnp : ∀ q, 0 ≤ k9 → k9 < σ 22 0 13 → 0 ≤ q → q < 5 → 0 ≤ npm σ k9 q ∧ npm σ k9 q ≤ 10000000 := fun q a b c d => by unfold npm; have := hpa (5 * k9 + q) (by omega) (by omega); split <;> omega
  have K_153 : ∀ (n_ : Nat) (i : Int) (σ1 : Sg), (0 ≤ i) → (i ≤ 5) → (5 - i < n_) → (∀ (a : Nat) (b c : Int), a < 30 ∨ a = 31 ∨ 41 < a → σ1 a b c = su σ 22 0 24 0 a b c) → (∀ q, 0 ≤ q → q < 5 → σ1 39 0 q = dv (s5 (npm σ k9)) (pwm σ k9) q) → (∀ q, 0 ≤ q → q < 5 → σ1 32 0 q = σ 32 0 q + if q < i then (if 0 < σ 31 0 (5 * k9 + q) then 0 else σ 30 0 (5 * k9 + q)) else 0) → (∀ j, σ1 30 0 j = if 5 * k9 ≤ j ∧ j < 5 * k9 + i then (if 0 < σ 31 0 j then σ 30 0 j + dv (s5 (npm σ k9)) (pwm σ k9) (j - 5 * k9) else 0) else σ 30 0 j) → ((0 ≤ k9 ∧ k9 < σ 22 0 13) ∧ pym σ k9 5 ∧ 0 < s5 (npm σ k9)) → JW p l e ({ frames := 2, cells := 0, slots := 0, locals := 43 } : Room) s m args below meth c cy D ad (Ar ad s.heap.size) 7 0 0 (MQ below (QcI cy D ad (fun z σ' => ∃ cd, ((cd = 0 ∧ ((0 ≤ k9 ∧ k9 < σ 22 0 13) ∧ pym σ k9 5 ∧ 0 < s5 (npm σ k9))) ∨ (cd = 1 ∧ (¬ (0 ≤ k9 ∧ k9 < σ 22 0 13))) ∨ (cd = 2 ∧ ((0 ≤ k9 ∧ k9 < σ 22 0 13) ∧ ¬ (pym σ k9 5 ∧ 0 < s5 (npm σ k9))))) ∧ (cd = 0 → z = s5 (npm σ k9) ∧ (∀ (a : Nat) (b c : Int), a < 30 ∨ a = 31 ∨ 41 < a → σ' a b c = su σ 22 0 24 0 a b c) ∧ (∀ q, 0 ≤ q → q < 5 → σ' 32 0 q = σ 32 0 q + if 0 < σ 31 0 (5 * k9 + q) then 0 else σ 30 0 (5 * k9 + q)) ∧ ∀ j, σ' 30 0 j = if 5 * k9 ≤ j ∧ j < 5 * k9 + 5 then (if 0 < σ 31 0 j then σ 30 0 j + dv (s5 (npm σ k9)) (pwm σ k9) (j - 5 * k9) else 0) else σ 30 0 j) ∧ (¬ cd = 0 → ∀ (a : Nat) (b c : Int), a < 33 ∨ 41 < a → σ' a b c = su σ 22 0 24 cd a b c)) s.heap.size) args s 0 0 (Ar ad s.heap.size)) σ1 153 [some (.ref (ad 22 0)), some (.int (iI k9)), none, none, some (.int (iI (s5 (npm σ k9)))), some (.int (iI i)), none] [] := by
    intro n_
    induction n_ with
    | zero => intro i σ1 g0 g1 g2 g3 g4 g5 g6 g7; omega
    | succ n_ ih_153 =>
      intro i σ1 g0 g1 g2 g3 g4 g5 g6 g7
      have h31 : ∀ x, σ1 31 0 x = σ 31 0 x := fun x => by rw [g3 31 0 x (by omega), su_nk (by decide)]
      have h30 : σ1 30 0 (5 * k9 + i) = σ 30 0 (5 * k9 + i) := by rw [g6, if_neg (by omega)]
      have h39 : i < 5 → σ1 39 0 i = dv (s5 (npm σ k9)) (pwm σ k9) i := fun h => g4 i g0 h
      refine J_iload5 C dX4_shareOut_153 ?_
      refine J_iconst C dX4_shareOut_155 ?_
      refine J_icmp_ge (tgt := 240) C (by omega) (by omega) dX4_shareOut_156 (by decide) (fun c_156 => ?_) (fun c_156 => ?_)
      · refine J_iload4 C dX4_shareOut_240 ?_
        refine J_retI C hr (by decide) (by decide) dX4_shareOut_242 ?_
        have e5 : i = 5 := by omega
        subst e5
        exact ⟨0, Or.inl ⟨rfl, g7⟩, fun _ => ⟨rfl, g3, fun q a b => by rw [g5 q a b, if_pos b], g6⟩, fun z => absurd rfl z⟩
      · refine J_iconst C dX4_shareOut_159 ?_
        refine J_iload_1 C dX4_shareOut_160 ?_
        refine J_imul C dX4_shareOut_161 ?_
        refine J_iload5 C dX4_shareOut_162 ?_
        refine J_iadd C dX4_shareOut_164 ?_
        refine J_istore6 C (by decide) rfl dX4_shareOut_165 ?_
        refine J_aload_0 C dX4_shareOut_167 ?_
        refine J_get_4_14 C in_X4_shareOut_X4 fl_X4_shareOut_42 (by decide) dX4_shareOut_168 ?_
        refine J_iload5 C dX4_shareOut_171 ?_
        refine J_dup2 C rfl rfl dX4_shareOut_173 ?_
        refine J_iaload C k32 (by decide) (by omega) dX4_shareOut_174 ?_
        refine J_aload_0 C dX4_shareOut_175 ?_
        refine J_get_4_12 C in_X4_shareOut_X4 fl_X4_shareOut_39 (by decide) dX4_shareOut_176 ?_
        refine J_iload6 C dX4_shareOut_179 ?_
        refine J_iaload C k31 (by decide) (by omega) dX4_shareOut_181 ?_
        refine J_if_le (tgt := 189) C (by rw [h31]; have := hpa (5 * k9 + i) (by omega) (by omega); omega) dX4_shareOut_182 (by decide) (fun c_182 => ?_) (fun c_182 => ?_)
        · refine J_aload_0 C dX4_shareOut_189 ?_
          refine J_get_4_11 C in_X4_shareOut_X4 fl_X4_shareOut_36 (by decide) dX4_shareOut_190 ?_
          refine J_iload6 C dX4_shareOut_193 ?_
          refine J_iaload C k30 (by decide) (by omega) dX4_shareOut_195 ?_
          refine J_iadd C dX4_shareOut_196 ?_
          refine J_iastore C k32 (by decide) (by omega) dX4_shareOut_197 ?_
          refine J_aload_0 C dX4_shareOut_198 ?_
          refine J_get_4_11 C in_X4_shareOut_X4 fl_X4_shareOut_36 (by decide) dX4_shareOut_199 ?_
          refine J_iload6 C dX4_shareOut_202 ?_
          refine J_aload_0 C dX4_shareOut_204 ?_
          refine J_get_4_12 C in_X4_shareOut_X4 fl_X4_shareOut_39 (by decide) dX4_shareOut_205 ?_
          refine J_iload6 C dX4_shareOut_208 ?_
          refine J_iaload C k31 (by decide) (by omega) dX4_shareOut_210 ?_
          refine J_if_le (tgt := 232) C (by rw [su_nk (by decide), h31]; have := hpa (5 * k9 + i) (by omega) (by omega); omega) dX4_shareOut_211 (by decide) (fun c_211 => ?_) (fun c_211 => ?_)
          · refine J_iconst C dX4_shareOut_232 ?_
            refine J_iastore C k30 (by decide) (by omega) dX4_shareOut_233 ?_
            refine J_iinc5 C (by decide) rfl dX4_shareOut_234 ?_
            refine J_goto (tgt := 153) C dX4_shareOut_237 (by decide) ?_
            -- to the cut at 153
            refine J_fg6 ?_
            refine ih_153 _ _ ?_ ?_ ?_ ?_ ?_ ?_ ?_ ?_
            · omega
            · omega
            · omega
            · intro a b c h
              rw [su_nk (by omega), su_nk (by omega)]
              exact g3 a b c h
            · intro q a b
              rw [su_nk (by decide), su_nk (by decide)]
              exact g4 q a b
            · intro q a b
              have hv := g5 q a b
              have x1 := h31 (5 * k9 + i)
              clear g3 g4 g5 g6 h31
              simp only [su] at *
              grind
            · intro j
              have hv := g6 j
              have x1 := h31 (5 * k9 + i)
              have x2 := h39 (by omega)
              clear g3 g4 g5 g6 h31 h39
              by_cases e : j = 5 * k9 + i
              · subst e
                have e9 : 5 * k9 + i - 5 * k9 = i := by omega
                rw [e9]
                simp only [su] at *
                grind
              · simp only [su]
                grind
            · exact g7
          · refine J_aload_0 C dX4_shareOut_214 ?_
            refine J_get_4_11 C in_X4_shareOut_X4 fl_X4_shareOut_36 (by decide) dX4_shareOut_215 ?_
            refine J_iload6 C dX4_shareOut_218 ?_
            refine J_iaload C k30 (by decide) (by omega) dX4_shareOut_220 ?_
            refine J_aload_0 C dX4_shareOut_221 ?_
            refine J_get_4_21 C in_X4_shareOut_X4 fl_X4_shareOut_64 (by decide) dX4_shareOut_222 ?_
            refine J_iload5 C dX4_shareOut_225 ?_
            refine J_iaload C k39 (by decide) (by omega) dX4_shareOut_227 ?_
            refine J_iadd C dX4_shareOut_228 ?_
            refine J_goto (tgt := 233) C dX4_shareOut_229 (by decide) ?_
            refine J_iastore C k30 (by decide) (by omega) dX4_shareOut_233 ?_
            refine J_iinc5 C (by decide) rfl dX4_shareOut_234 ?_
            refine J_goto (tgt := 153) C dX4_shareOut_237 (by decide) ?_
            -- to the cut at 153
            refine J_fg6 ?_
            refine ih_153 _ _ ?_ ?_ ?_ ?_ ?_ ?_ ?_ ?_
            · omega
            · omega
            · omega
            · intro a b c h
              rw [su_nk (by omega), su_nk (by omega)]
              exact g3 a b c h
            · intro q a b
              rw [su_nk (by decide), su_nk (by decide)]
              exact g4 q a b
            · intro q a b
              have hv := g5 q a b
              have x1 := h31 (5 * k9 + i)
              clear g3 g4 g5 g6 h31
              simp only [su] at *
              grind
            · intro j
              have hv := g6 j
              have x1 := h31 (5 * k9 + i)
              have x2 := h39 (by omega)
              clear g3 g4 g5 g6 h31 h39
              by_cases e : j = 5 * k9 + i
              · subst e
                have e9 : 5 * k9 + i - 5 * k9 = i := by omega
                rw [e9]
                simp only [su] at *
                grind
              · simp only [su]
                grind
            · exact g7
        · refine J_iconst C dX4_shareOut_185 ?_
          refine J_goto (tgt := 196) C dX4_shareOut_186 (by decide) ?_
          refine J_iadd C dX4_shareOut_196 ?_
          refine J_iastore C k32 (by decide) (by omega) dX4_shareOut_197 ?_
          refine J_aload_0 C dX4_shareOut_198 ?_
          refine J_get_4_11 C in_X4_shareOut_X4 fl_X4_shareOut_36 (by decide) dX4_shareOut_199 ?_
          refine J_iload6 C dX4_shareOut_202 ?_
          refine J_aload_0 C dX4_shareOut_204 ?_
          refine J_get_4_12 C in_X4_shareOut_X4 fl_X4_shareOut_39 (by decide) dX4_shareOut_205 ?_
          refine J_iload6 C dX4_shareOut_208 ?_
          refine J_iaload C k31 (by decide) (by omega) dX4_shareOut_210 ?_
          refine J_if_le (tgt := 232) C (by rw [su_nk (by decide), h31]; have := hpa (5 * k9 + i) (by omega) (by omega); omega) dX4_shareOut_211 (by decide) (fun c_211 => ?_) (fun c_211 => ?_)
          · refine J_iconst C dX4_shareOut_232 ?_
            refine J_iastore C k30 (by decide) (by omega) dX4_shareOut_233 ?_
            refine J_iinc5 C (by decide) rfl dX4_shareOut_234 ?_
            refine J_goto (tgt := 153) C dX4_shareOut_237 (by decide) ?_
            -- to the cut at 153
            refine J_fg6 ?_
            refine ih_153 _ _ ?_ ?_ ?_ ?_ ?_ ?_ ?_ ?_
            · omega
            · omega
            · omega
            · intro a b c h
              rw [su_nk (by omega), su_nk (by omega)]
              exact g3 a b c h
            · intro q a b
              rw [su_nk (by decide), su_nk (by decide)]
              exact g4 q a b
            · intro q a b
              have hv := g5 q a b
              have x1 := h31 (5 * k9 + i)
              clear g3 g4 g5 g6 h31
              simp only [su] at *
              grind
            · intro j
              have hv := g6 j
              have x1 := h31 (5 * k9 + i)
              have x2 := h39 (by omega)
              clear g3 g4 g5 g6 h31 h39
              by_cases e : j = 5 * k9 + i
              · subst e
                have e9 : 5 * k9 + i - 5 * k9 = i := by omega
                rw [e9]
                simp only [su] at *
                grind
              · simp only [su]
                grind
            · exact g7
          · refine J_aload_0 C dX4_shareOut_214 ?_
            refine J_get_4_11 C in_X4_shareOut_X4 fl_X4_shareOut_36 (by decide) dX4_shareOut_215 ?_
            refine J_iload6 C dX4_shareOut_218 ?_
            refine J_iaload C k30 (by decide) (by omega) dX4_shareOut_220 ?_
            refine J_aload_0 C dX4_shareOut_221 ?_
            refine J_get_4_21 C in_X4_shareOut_X4 fl_X4_shareOut_64 (by decide) dX4_shareOut_222 ?_
            refine J_iload5 C dX4_shareOut_225 ?_
            refine J_iaload C k39 (by decide) (by omega) dX4_shareOut_227 ?_
            refine J_iadd C dX4_shareOut_228 ?_
            refine J_goto (tgt := 233) C dX4_shareOut_229 (by decide) ?_
            refine J_iastore C k30 (by decide) (by omega) dX4_shareOut_233 ?_
            refine J_iinc5 C (by decide) rfl dX4_shareOut_234 ?_
            refine J_goto (tgt := 153) C dX4_shareOut_237 (by decide) ?_
            -- to the cut at 153
            refine J_fg6 ?_
            refine ih_153 _ _ ?_ ?_ ?_ ?_ ?_ ?_ ?_ ?_
            · omega
            · omega
            · omega
            · intro a b c h
              rw [su_nk (by omega), su_nk (by omega)]
              exact g3 a b c h
            · intro q a b
              rw [su_nk (by decide), su_nk (by decide)]
              exact g4 q a b
            · intro q a b
              have hv := g5 q a b
              have x1 := h31 (5 * k9 + i)
              clear g3 g4 g5 g6 h31
              simp only [su] at *
              grind
            · intro j
              have hv := g6 j
              have x1 := h31 (5 * k9 + i)
              have x2 := h39 (by omega)
              clear g3 g4 g5 g6 h31 h39
              by_cases e : j = 5 * k9 + i
              · subst e
                have e9 : 5 * k9 + i - 5 * k9 = i := by omega
                rw [e9]
                simp only [su] at *
                grind
              · simp only [su]
                grind
            · exact g7
  have K_138 : ∀ (g9 : Int) (cd : Int) (sm : Int) (σ1 : Sg), ((cd = 0 ∧ ((0 ≤ k9 ∧ k9 < σ 22 0 13) ∧ pym σ k9 5 ∧ 0 < s5 (npm σ k9))) ∨ (cd = 1 ∧ (¬ (0 ≤ k9 ∧ k9 < σ 22 0 13))) ∨ (cd = 2 ∧ ((0 ≤ k9 ∧ k9 < σ 22 0 13) ∧ ¬ (pym σ k9 5 ∧ 0 < s5 (npm σ k9))))) → ((g9 = 1 ∧ cd = 0) ∨ (g9 = 0 ∧ ¬ cd = 0)) → ((0 ≤ k9 ∧ k9 < σ 22 0 13) → sm = s5 (npm σ k9) ∧ ∀ q, 0 ≤ q → q < 5 → σ1 38 0 q = pwm σ k9 q) → (∀ (a : Nat) (b c : Int), a ≠ 38 → σ1 a b c = σ a b c) → JW p l e ({ frames := 2, cells := 0, slots := 0, locals := 43 } : Room) s m args below meth c cy D ad (Ar ad s.heap.size) 7 0 0 (MQ below (QcI cy D ad (fun z σ' => ∃ cd, ((cd = 0 ∧ ((0 ≤ k9 ∧ k9 < σ 22 0 13) ∧ pym σ k9 5 ∧ 0 < s5 (npm σ k9))) ∨ (cd = 1 ∧ (¬ (0 ≤ k9 ∧ k9 < σ 22 0 13))) ∨ (cd = 2 ∧ ((0 ≤ k9 ∧ k9 < σ 22 0 13) ∧ ¬ (pym σ k9 5 ∧ 0 < s5 (npm σ k9))))) ∧ (cd = 0 → z = s5 (npm σ k9) ∧ (∀ (a : Nat) (b c : Int), a < 30 ∨ a = 31 ∨ 41 < a → σ' a b c = su σ 22 0 24 0 a b c) ∧ (∀ q, 0 ≤ q → q < 5 → σ' 32 0 q = σ 32 0 q + if 0 < σ 31 0 (5 * k9 + q) then 0 else σ 30 0 (5 * k9 + q)) ∧ ∀ j, σ' 30 0 j = if 5 * k9 ≤ j ∧ j < 5 * k9 + 5 then (if 0 < σ 31 0 j then σ 30 0 j + dv (s5 (npm σ k9)) (pwm σ k9) (j - 5 * k9) else 0) else σ 30 0 j) ∧ (¬ cd = 0 → ∀ (a : Nat) (b c : Int), a < 33 ∨ 41 < a → σ' a b c = su σ 22 0 24 cd a b c)) s.heap.size) args s 0 0 (Ar ad s.heap.size)) (su σ1 22 0 24 cd) 138 [some (.ref (ad 22 0)), some (.int (iI k9)), none, none, some (.int (iI sm)), none, none] [.int (iI g9)] := by
    intro g9 cd sm σ1 g0 g1 g2 g3
    refine J_if_ne (tgt := 143) C (by omega) dX4_shareOut_138 (by decide) (fun c_138 => ?_) (fun c_138 => ?_)
    · have hcd : cd = 0 := by omega
      subst hcd
      have hkp : (0 ≤ k9 ∧ k9 < σ 22 0 13) ∧ pym σ k9 5 ∧ 0 < s5 (npm σ k9) := by rcases g0 with z | z | z <;> first | exact z.2 | omega
      have es := (g2 hkp.1).1
      subst es
      have W7 : ∀ q, 0 ≤ q → q < 5 → su σ1 22 0 24 0 38 0 q = pwm σ k9 q := fun q a b => by rw [su_nk (by decide)]; exact (g2 hkp.1).2 q a b
      have F7 : ∀ (a : Nat) (b c : Int), a ≠ 38 → su σ1 22 0 24 0 a b c = su σ 22 0 24 0 a b c := fun a b c h => by
        simp only [su]
        rw [g3 a b c h]
      have hkc := hkp.1
      have r := fun q => hnp q hkc.1 hkc.2
      have r0 := r 0 (by decide) (by decide); have r1 := r 1 (by decide) (by decide); have r2 := r 2 (by decide) (by decide); have r3 := r 3 (by decide) (by decide); have r4 := r 4 (by decide) (by decide)
      have hsr : 0 ≤ s5 (npm σ k9) ∧ s5 (npm σ k9) ≤ 50000000 := by unfold s5; omega
      have hWp : Wt (pwm σ k9) := by
        refine ⟨fun y a b => ?_, ?_⟩
        · unfold pwm
          have := hpa (5 * k9 + y) (by omega) (by omega)
          split <;> omega
        · obtain ⟨y, y0, y5, hy⟩ := hkp.2.1
          have h1 := s5_part (f := pwm σ k9) (fun z a b => by unfold pwm; have := hpa (5 * k9 + z) (by omega) (by omega); split <;> omega) y y0 y5
          have h2 : pwm σ k9 y = σ 30 0 (5 * k9 + y) := by unfold pwm; rw [if_pos hy]
          have := hpa (5 * k9 + y) (by omega) (by omega)
          omega
      refine J_aload_0 C dX4_shareOut_143 ?_
      refine J_iload4 C dX4_shareOut_144 ?_
      refine J_i2l C (by omega) dX4_shareOut_146 ?_
      refine J_KVV C (c_X4_divides hfl hI _ (s5 (npm σ k9)) (by omega) (Wt.congr (fun q a b => (W7 q a b).symm) hWp) (fun q a b => by rw [W7 q a b]; have := hpa (5 * k9 + q) (by omega) (by omega); unfold pwm; split <;> omega)) (cwV 1 C.1.2.2.2.2 gX4_shareOut_X4_divides rfl rfl rfl (by decide +kernel) ⟨Nat.le_of_ble_eq_true rfl, Nat.le_of_ble_eq_true rfl⟩) rc4 (by decide) rfl rfl (Nat.le_of_ble_eq_true rfl) dX4_shareOut_147 ⟨Nat.le_of_ble_eq_true rfl, Nat.le_of_ble_eq_true rfl⟩ (fun σ_147 hp => ?_)
      obtain ⟨F8, P0⟩ := hp
      have P8 : ∀ q, 0 ≤ q → q < 5 → σ_147 39 0 q = dv (s5 (npm σ k9)) (pwm σ k9) q := fun q a b => by rw [P0 q a b]; exact dv_congr W7 q a b
      refine J_iconst C dX4_shareOut_150 ?_
      refine J_istore5 C (by decide) rfl dX4_shareOut_151 ?_
      -- to the cut at 153
      refine K_153 6 _ _ ?_ ?_ ?_ ?_ ?_ ?_ ?_ ?_
      · decide
      · decide
      · decide
      · intro a b c h
        rw [F8 a b c (by omega) (by omega)]
        exact F7 a b c (by omega)
      · exact P8
      · intro q a b
        rw [if_neg (by omega), Int.add_zero, F8 _ _ _ (by decide) (by decide), F7 32 0 q (by decide), su_nk (by decide)]
      · intro j
        rw [if_neg (by omega), F8 _ _ _ (by decide) (by decide), F7 30 0 j (by decide), su_nk (by decide)]
      · rcases g0 with z | z | z <;> first | exact z.2 | omega
    · refine J_iconst C dX4_shareOut_141 ?_
      refine J_retI C hr (by decide) (by decide) dX4_shareOut_142 ?_
      refine ⟨cd, g0, fun z => by omega, fun _ a b c h => ?_⟩
      simp only [su]
      rw [g3 a b c (by omega)]
  have K_118 : ∀ (kn : Int) (pg : Int) (sm : Int) (σ1 : Sg), ((kn = 1 ∧ (0 ≤ k9 ∧ k9 < σ 22 0 13)) ∨ (kn = 0 ∧ ¬ (0 ≤ k9 ∧ k9 < σ 22 0 13))) → (∀ (a : Nat) (b c : Int), a ≠ 38 → σ1 a b c = σ a b c) → ((0 ≤ k9 ∧ k9 < σ 22 0 13) → sm = s5 (npm σ k9) ∧ (∀ q, 0 ≤ q → q < 5 → σ1 38 0 q = pwm σ k9 q) ∧ ((pg = 1 ∧ pym σ k9 5) ∨ (pg = 0 ∧ ¬ pym σ k9 5))) → (¬ (0 ≤ k9 ∧ k9 < σ 22 0 13) → pg = 0 ∧ sm = 0) → JW p l e ({ frames := 2, cells := 0, slots := 0, locals := 43 } : Room) s m args below meth c cy D ad (Ar ad s.heap.size) 7 0 0 (MQ below (QcI cy D ad (fun z σ' => ∃ cd, ((cd = 0 ∧ ((0 ≤ k9 ∧ k9 < σ 22 0 13) ∧ pym σ k9 5 ∧ 0 < s5 (npm σ k9))) ∨ (cd = 1 ∧ (¬ (0 ≤ k9 ∧ k9 < σ 22 0 13))) ∨ (cd = 2 ∧ ((0 ≤ k9 ∧ k9 < σ 22 0 13) ∧ ¬ (pym σ k9 5 ∧ 0 < s5 (npm σ k9))))) ∧ (cd = 0 → z = s5 (npm σ k9) ∧ (∀ (a : Nat) (b c : Int), a < 30 ∨ a = 31 ∨ 41 < a → σ' a b c = su σ 22 0 24 0 a b c) ∧ (∀ q, 0 ≤ q → q < 5 → σ' 32 0 q = σ 32 0 q + if 0 < σ 31 0 (5 * k9 + q) then 0 else σ 30 0 (5 * k9 + q)) ∧ ∀ j, σ' 30 0 j = if 5 * k9 ≤ j ∧ j < 5 * k9 + 5 then (if 0 < σ 31 0 j then σ 30 0 j + dv (s5 (npm σ k9)) (pwm σ k9) (j - 5 * k9) else 0) else σ 30 0 j) ∧ (¬ cd = 0 → ∀ (a : Nat) (b c : Int), a < 33 ∨ 41 < a → σ' a b c = su σ 22 0 24 cd a b c)) s.heap.size) args s 0 0 (Ar ad s.heap.size)) σ1 118 [some (.ref (ad 22 0)), some (.int (iI k9)), some (.int (iI kn)), some (.int (iI pg)), some (.int (iI sm)), none, none] [] := by
    intro kn pg sm σ1 u0 u1 u2 u3
    have hpg : pg = 0 ∨ pg = 1 := by
      by_cases z : 0 ≤ k9 ∧ k9 < σ 22 0 13
      · have := (u2 z).2.2; omega
      · have := u3 z; omega
    have hsmr : I32 sm := by
      by_cases z : 0 ≤ k9 ∧ k9 < σ 22 0 13
      · rw [(u2 z).1]
        have r := fun q => hnp q z.1 z.2
        have r0 := r 0 (by decide) (by decide); have r1 := r 1 (by decide) (by decide); have r2 := r 2 (by decide) (by decide); have r3 := r 3 (by decide) (by decide); have r4 := r 4 (by decide) (by decide)
        unfold s5
        omega
      · rw [(u3 z).2]; omega
    refine J_aload_0 C dX4_shareOut_118 ?_
    refine J_iload_2 C dX4_shareOut_119 ?_
    refine J_iload_3 C dX4_shareOut_120 ?_
    refine J_if_eq (tgt := 133) C (by omega) dX4_shareOut_121 (by decide) (fun c_121 => ?_) (fun c_121 => ?_)
    · refine J_iconst C dX4_shareOut_133 ?_
      refine J_iconst C dX4_shareOut_134 ?_
      refine J_KVI C (c_X4_goes hfl hI _ _ _ _ (by first | exact Or.inl rfl | exact Or.inr rfl | (split <;> omega) | omega) (by first | exact Or.inl rfl | exact Or.inr rfl | (split <;> omega) | omega) (by first | exact Or.inl rfl | exact Or.inr rfl | (split <;> omega) | omega)) (cwV 3 C.1.2.2.2.2 gX4_shareOut_X4_goes rfl rfl rfl (by decide +kernel) ⟨Nat.le_of_ble_eq_true rfl, Nat.le_of_ble_eq_true rfl⟩) rc4 (by decide) rfl rfl (Nat.le_of_ble_eq_true rfl) dX4_shareOut_135 ⟨Nat.le_of_ble_eq_true rfl, Nat.le_of_ble_eq_true rfl⟩ (fun z_135 σ_135 hp => ?_)
      obtain ⟨hz_, hs_⟩ := hp
      have hz_ := hz_.symm
      have hs_ := hs_.symm
      subst hz_
      subst hs_
      -- to the cut at 138
      refine J_fg2 ?_
      refine J_fg3 ?_
      refine K_138 _ _ _ _ ?_ ?_ ?_ ?_
      · have hpy : (0 ≤ k9 ∧ k9 < σ 22 0 13) → ((pg = 1 ∧ pym σ k9 5) ∨ (pg = 0 ∧ ¬ pym σ k9 5)) := fun z => (u2 z).2.2
        have hsm : (0 ≤ k9 ∧ k9 < σ 22 0 13) → sm = s5 (npm σ k9) := fun z => (u2 z).1
        simp only [gcd3]
        clear u2
        grind
      · split <;> omega
      · intro z
        exact ⟨(u2 z).1, (u2 z).2.1⟩
      · exact u1
    · refine J_iload4 C dX4_shareOut_124 ?_
      refine J_if_le (tgt := 133) C (by exact hsmr) dX4_shareOut_126 (by decide) (fun c_126 => ?_) (fun c_126 => ?_)
      · refine J_iconst C dX4_shareOut_133 ?_
        refine J_iconst C dX4_shareOut_134 ?_
        refine J_KVI C (c_X4_goes hfl hI _ _ _ _ (by first | exact Or.inl rfl | exact Or.inr rfl | (split <;> omega) | omega) (by first | exact Or.inl rfl | exact Or.inr rfl | (split <;> omega) | omega) (by first | exact Or.inl rfl | exact Or.inr rfl | (split <;> omega) | omega)) (cwV 3 C.1.2.2.2.2 gX4_shareOut_X4_goes rfl rfl rfl (by decide +kernel) ⟨Nat.le_of_ble_eq_true rfl, Nat.le_of_ble_eq_true rfl⟩) rc4 (by decide) rfl rfl (Nat.le_of_ble_eq_true rfl) dX4_shareOut_135 ⟨Nat.le_of_ble_eq_true rfl, Nat.le_of_ble_eq_true rfl⟩ (fun z_135 σ_135 hp => ?_)
        obtain ⟨hz_, hs_⟩ := hp
        have hz_ := hz_.symm
        have hs_ := hs_.symm
        subst hz_
        subst hs_
        -- to the cut at 138
        refine J_fg2 ?_
        refine J_fg3 ?_
        refine K_138 _ _ _ _ ?_ ?_ ?_ ?_
        · have hpy : (0 ≤ k9 ∧ k9 < σ 22 0 13) → ((pg = 1 ∧ pym σ k9 5) ∨ (pg = 0 ∧ ¬ pym σ k9 5)) := fun z => (u2 z).2.2
          have hsm : (0 ≤ k9 ∧ k9 < σ 22 0 13) → sm = s5 (npm σ k9) := fun z => (u2 z).1
          simp only [gcd3]
          clear u2
          grind
        · split <;> omega
        · intro z
          exact ⟨(u2 z).1, (u2 z).2.1⟩
        · exact u1
      · refine J_iconst C dX4_shareOut_129 ?_
        refine J_goto (tgt := 134) C dX4_shareOut_130 (by decide) ?_
        refine J_iconst C dX4_shareOut_134 ?_
        refine J_KVI C (c_X4_goes hfl hI _ _ _ _ (by first | exact Or.inl rfl | exact Or.inr rfl | (split <;> omega) | omega) (by first | exact Or.inl rfl | exact Or.inr rfl | (split <;> omega) | omega) (by first | exact Or.inl rfl | exact Or.inr rfl | (split <;> omega) | omega)) (cwV 3 C.1.2.2.2.2 gX4_shareOut_X4_goes rfl rfl rfl (by decide +kernel) ⟨Nat.le_of_ble_eq_true rfl, Nat.le_of_ble_eq_true rfl⟩) rc4 (by decide) rfl rfl (Nat.le_of_ble_eq_true rfl) dX4_shareOut_135 ⟨Nat.le_of_ble_eq_true rfl, Nat.le_of_ble_eq_true rfl⟩ (fun z_135 σ_135 hp => ?_)
        obtain ⟨hz_, hs_⟩ := hp
        have hz_ := hz_.symm
        have hs_ := hs_.symm
        subst hz_
        subst hs_
        -- to the cut at 138
        refine J_fg2 ?_
        refine J_fg3 ?_
        refine K_138 _ _ _ _ ?_ ?_ ?_ ?_
        · have hpy : (0 ≤ k9 ∧ k9 < σ 22 0 13) → ((pg = 1 ∧ pym σ k9 5) ∨ (pg = 0 ∧ ¬ pym σ k9 5)) := fun z => (u2 z).2.2
          have hsm : (0 ≤ k9 ∧ k9 < σ 22 0 13) → sm = s5 (npm σ k9) := fun z => (u2 z).1
          simp only [gcd3]
          clear u2
          grind
        · split <;> omega
        · intro z
          exact ⟨(u2 z).1, (u2 z).2.1⟩
        · exact u1
  have K_14 : ∀ (n_ : Nat) (kn : Int) (pg : Int) (sm : Int) (i : Int) (σ1 : Sg), (0 ≤ i) → (i ≤ 5) → (5 - i < n_) → ((kn = 1 ∧ (0 ≤ k9 ∧ k9 < σ 22 0 13)) ∨ (kn = 0 ∧ ¬ (0 ≤ k9 ∧ k9 < σ 22 0 13))) → (kn = 0 → pg = 0 ∧ sm = 0 ∧ i = 0) → (σ1 = sf σ 38 0 i (pwm σ k9)) → ((pg = 1 ∧ pym σ k9 i) ∨ (pg = 0 ∧ ¬ pym σ k9 i)) → (∃ x : Nat, i = (x : Int) ∧ sm = sN (npm σ k9) x) → JW p l e ({ frames := 2, cells := 0, slots := 0, locals := 43 } : Room) s m args below meth c cy D ad (Ar ad s.heap.size) 7 0 0 (MQ below (QcI cy D ad (fun z σ' => ∃ cd, ((cd = 0 ∧ ((0 ≤ k9 ∧ k9 < σ 22 0 13) ∧ pym σ k9 5 ∧ 0 < s5 (npm σ k9))) ∨ (cd = 1 ∧ (¬ (0 ≤ k9 ∧ k9 < σ 22 0 13))) ∨ (cd = 2 ∧ ((0 ≤ k9 ∧ k9 < σ 22 0 13) ∧ ¬ (pym σ k9 5 ∧ 0 < s5 (npm σ k9))))) ∧ (cd = 0 → z = s5 (npm σ k9) ∧ (∀ (a : Nat) (b c : Int), a < 30 ∨ a = 31 ∨ 41 < a → σ' a b c = su σ 22 0 24 0 a b c) ∧ (∀ q, 0 ≤ q → q < 5 → σ' 32 0 q = σ 32 0 q + if 0 < σ 31 0 (5 * k9 + q) then 0 else σ 30 0 (5 * k9 + q)) ∧ ∀ j, σ' 30 0 j = if 5 * k9 ≤ j ∧ j < 5 * k9 + 5 then (if 0 < σ 31 0 j then σ 30 0 j + dv (s5 (npm σ k9)) (pwm σ k9) (j - 5 * k9) else 0) else σ 30 0 j) ∧ (¬ cd = 0 → ∀ (a : Nat) (b c : Int), a < 33 ∨ 41 < a → σ' a b c = su σ 22 0 24 cd a b c)) s.heap.size) args s 0 0 (Ar ad s.heap.size)) σ1 14 [some (.ref (ad 22 0)), some (.int (iI k9)), some (.int (iI kn)), some (.int (iI pg)), some (.int (iI sm)), some (.int (iI i)), none] [] := by
    intro n_
    induction n_ with
    | zero => intro kn pg sm i σ1 g0 g1 g2 g3 g4 g5 g6 g7; omega
    | succ n_ ih_14 =>
      intro kn pg sm i σ1 g0 g1 g2 g3 g4 g5 g6 g7
      obtain ⟨x, rfl, rfl⟩ := g7
      have h31 : ∀ y, σ1 31 0 y = σ 31 0 y := fun y => by rw [g5, sf_nk (by decide)]
      have h30 : ∀ y, σ1 30 0 y = σ 30 0 y := fun y => by rw [g5, sf_nk (by decide)]
      have K_43 : ∀ (o : Int), ((o = 1 ∧ 0 < σ 31 0 (5 * k9 + x)) ∨ (o = 0 ∧ ¬ 0 < σ 31 0 (5 * k9 + x))) → (¬ kn = 0) → ((x : Int) < 5) → JW p l e ({ frames := 2, cells := 0, slots := 0, locals := 43 } : Room) s m args below meth c cy D ad (Ar ad s.heap.size) 7 0 0 (MQ below (QcI cy D ad (fun z σ' => ∃ cd, ((cd = 0 ∧ ((0 ≤ k9 ∧ k9 < σ 22 0 13) ∧ pym σ k9 5 ∧ 0 < s5 (npm σ k9))) ∨ (cd = 1 ∧ (¬ (0 ≤ k9 ∧ k9 < σ 22 0 13))) ∨ (cd = 2 ∧ ((0 ≤ k9 ∧ k9 < σ 22 0 13) ∧ ¬ (pym σ k9 5 ∧ 0 < s5 (npm σ k9))))) ∧ (cd = 0 → z = s5 (npm σ k9) ∧ (∀ (a : Nat) (b c : Int), a < 30 ∨ a = 31 ∨ 41 < a → σ' a b c = su σ 22 0 24 0 a b c) ∧ (∀ q, 0 ≤ q → q < 5 → σ' 32 0 q = σ 32 0 q + if 0 < σ 31 0 (5 * k9 + q) then 0 else σ 30 0 (5 * k9 + q)) ∧ ∀ j, σ' 30 0 j = if 5 * k9 ≤ j ∧ j < 5 * k9 + 5 then (if 0 < σ 31 0 j then σ 30 0 j + dv (s5 (npm σ k9)) (pwm σ k9) (j - 5 * k9) else 0) else σ 30 0 j) ∧ (¬ cd = 0 → ∀ (a : Nat) (b c : Int), a < 33 ∨ 41 < a → σ' a b c = su σ 22 0 24 cd a b c)) s.heap.size) args s 0 0 (Ar ad s.heap.size)) σ1 43 [some (.ref (ad 22 0)), some (.int (iI k9)), some (.int (iI kn)), some (.int (iI pg)), some (.int (iI (sN (npm σ k9) x))), some (.int (iI ((x : Int)))), none] [.int (iI o)] := by
        intro o u0 u1 u2
        have hkc : 0 ≤ k9 ∧ k9 < σ 22 0 13 := by omega
        refine J_istore6 C (by decide) rfl dX4_shareOut_43 ?_
        refine J_iload_3 C dX4_shareOut_45 ?_
        refine J_if_ne (tgt := 54) C (by omega) dX4_shareOut_46 (by decide) (fun c_46 => ?_) (fun c_46 => ?_)
        · refine J_iconst C dX4_shareOut_54 ?_
          refine J_goto (tgt := 59) C dX4_shareOut_55 (by decide) ?_
          refine J_istore_3 C (by decide) rfl dX4_shareOut_59 ?_
          refine J_aload_0 C dX4_shareOut_60 ?_
          refine J_get_4_20 C in_X4_shareOut_X4 fl_X4_shareOut_61 (by decide) dX4_shareOut_61 ?_
          refine J_iload5 C dX4_shareOut_64 ?_
          refine J_iload6 C dX4_shareOut_66 ?_
          refine J_if_eq (tgt := 85) C (by omega) dX4_shareOut_68 (by decide) (fun c_68 => ?_) (fun c_68 => ?_)
          · refine J_iconst C dX4_shareOut_85 ?_
            refine J_iastore C k38 (by decide) (by omega) dX4_shareOut_86 ?_
            refine J_iload4 C dX4_shareOut_87 ?_
            refine J_iload6 C dX4_shareOut_89 ?_
            refine J_if_eq (tgt := 98) C (by omega) dX4_shareOut_91 (by decide) (fun c_91 => ?_) (fun c_91 => ?_)
            · refine J_aload_0 C dX4_shareOut_98 ?_
              refine J_get_4_11 C in_X4_shareOut_X4 fl_X4_shareOut_36 (by decide) dX4_shareOut_99 ?_
              refine J_iconst C dX4_shareOut_102 ?_
              refine J_iload_1 C dX4_shareOut_103 ?_
              refine J_imul C dX4_shareOut_104 ?_
              refine J_iload5 C dX4_shareOut_105 ?_
              refine J_iadd C dX4_shareOut_107 ?_
              refine J_iaload C k30 (by decide) (by omega) dX4_shareOut_108 ?_
              refine J_iadd C dX4_shareOut_109 ?_
              refine J_istore4 C (by decide) rfl dX4_shareOut_110 ?_
              refine J_iinc5 C (by decide) rfl dX4_shareOut_112 ?_
              refine J_goto (tgt := 14) C dX4_shareOut_115 (by decide) ?_
              -- to the cut at 14
              refine J_fg6 ?_
              refine ih_14 _ _ _ _ _ ?_ ?_ ?_ ?_ ?_ ?_ ?_ ?_
              · omega
              · omega
              · omega
              · exact g3
              · intro z; omega
              · have x1 := h31 (5 * k9 + x)
                first
                  | (exfalso; omega)
                  | ((try rw [h30])
                     rw [g5]
                     refine sf_su g0 ?_
                     unfold pwm
                     first | rw [if_pos (by omega)] | rw [if_neg (by omega)])
              · have x1 := h31 (5 * k9 + x)
                first
                  | (refine Or.inl ⟨rfl, ?_⟩
                     rcases g6 with ⟨e1, y, y1, y2, y3⟩ | ⟨e1, e2⟩
                     · exact ⟨y, y1, by omega, y3⟩
                     · exact ⟨x, by omega, by omega, by omega⟩)
                  | (refine Or.inr ⟨rfl, fun ⟨y, y1, y2, y3⟩ => ?_⟩
                     rcases g6 with ⟨e1, e2⟩ | ⟨e1, e2⟩
                     · omega
                     · by_cases hy : y = x
                       · subst hy; omega
                       · exact e2 ⟨y, y1, by omega, y3⟩)
              · refine ⟨x + 1, by omega, ?_⟩
                have x1 := h31 (5 * k9 + x)
                have x2 := h30 (5 * k9 + x)
                (try rw [su_nk (by decide)])
                simp only [sN, npm]
                split <;> omega
            · refine J_iconst C dX4_shareOut_94 ?_
              refine J_goto (tgt := 109) C dX4_shareOut_95 (by decide) ?_
              refine J_iadd C dX4_shareOut_109 ?_
              refine J_istore4 C (by decide) rfl dX4_shareOut_110 ?_
              refine J_iinc5 C (by decide) rfl dX4_shareOut_112 ?_
              refine J_goto (tgt := 14) C dX4_shareOut_115 (by decide) ?_
              -- to the cut at 14
              refine J_fg6 ?_
              refine ih_14 _ _ _ _ _ ?_ ?_ ?_ ?_ ?_ ?_ ?_ ?_
              · omega
              · omega
              · omega
              · exact g3
              · intro z; omega
              · have x1 := h31 (5 * k9 + x)
                first
                  | (exfalso; omega)
                  | ((try rw [h30])
                     rw [g5]
                     refine sf_su g0 ?_
                     unfold pwm
                     first | rw [if_pos (by omega)] | rw [if_neg (by omega)])
              · have x1 := h31 (5 * k9 + x)
                first
                  | (refine Or.inl ⟨rfl, ?_⟩
                     rcases g6 with ⟨e1, y, y1, y2, y3⟩ | ⟨e1, e2⟩
                     · exact ⟨y, y1, by omega, y3⟩
                     · exact ⟨x, by omega, by omega, by omega⟩)
                  | (refine Or.inr ⟨rfl, fun ⟨y, y1, y2, y3⟩ => ?_⟩
                     rcases g6 with ⟨e1, e2⟩ | ⟨e1, e2⟩
                     · omega
                     · by_cases hy : y = x
                       · subst hy; omega
                       · exact e2 ⟨y, y1, by omega, y3⟩)
              · refine ⟨x + 1, by omega, ?_⟩
                have x1 := h31 (5 * k9 + x)
                have x2 := h30 (5 * k9 + x)
                (try rw [su_nk (by decide)])
                simp only [sN, npm]
                split <;> omega
          · refine J_aload_0 C dX4_shareOut_71 ?_
            refine J_get_4_11 C in_X4_shareOut_X4 fl_X4_shareOut_36 (by decide) dX4_shareOut_72 ?_
            refine J_iconst C dX4_shareOut_75 ?_
            refine J_iload_1 C dX4_shareOut_76 ?_
            refine J_imul C dX4_shareOut_77 ?_
            refine J_iload5 C dX4_shareOut_78 ?_
            refine J_iadd C dX4_shareOut_80 ?_
            refine J_iaload C k30 (by decide) (by omega) dX4_shareOut_81 ?_
            refine J_goto (tgt := 86) C dX4_shareOut_82 (by decide) ?_
            refine J_iastore C k38 (by decide) (by omega) dX4_shareOut_86 ?_
            refine J_iload4 C dX4_shareOut_87 ?_
            refine J_iload6 C dX4_shareOut_89 ?_
            refine J_if_eq (tgt := 98) C (by omega) dX4_shareOut_91 (by decide) (fun c_91 => ?_) (fun c_91 => ?_)
            · refine J_aload_0 C dX4_shareOut_98 ?_
              refine J_get_4_11 C in_X4_shareOut_X4 fl_X4_shareOut_36 (by decide) dX4_shareOut_99 ?_
              refine J_iconst C dX4_shareOut_102 ?_
              refine J_iload_1 C dX4_shareOut_103 ?_
              refine J_imul C dX4_shareOut_104 ?_
              refine J_iload5 C dX4_shareOut_105 ?_
              refine J_iadd C dX4_shareOut_107 ?_
              refine J_iaload C k30 (by decide) (by omega) dX4_shareOut_108 ?_
              refine J_iadd C dX4_shareOut_109 ?_
              refine J_istore4 C (by decide) rfl dX4_shareOut_110 ?_
              refine J_iinc5 C (by decide) rfl dX4_shareOut_112 ?_
              refine J_goto (tgt := 14) C dX4_shareOut_115 (by decide) ?_
              -- to the cut at 14
              refine J_fg6 ?_
              refine ih_14 _ _ _ _ _ ?_ ?_ ?_ ?_ ?_ ?_ ?_ ?_
              · omega
              · omega
              · omega
              · exact g3
              · intro z; omega
              · have x1 := h31 (5 * k9 + x)
                first
                  | (exfalso; omega)
                  | ((try rw [h30])
                     rw [g5]
                     refine sf_su g0 ?_
                     unfold pwm
                     first | rw [if_pos (by omega)] | rw [if_neg (by omega)])
              · have x1 := h31 (5 * k9 + x)
                first
                  | (refine Or.inl ⟨rfl, ?_⟩
                     rcases g6 with ⟨e1, y, y1, y2, y3⟩ | ⟨e1, e2⟩
                     · exact ⟨y, y1, by omega, y3⟩
                     · exact ⟨x, by omega, by omega, by omega⟩)
                  | (refine Or.inr ⟨rfl, fun ⟨y, y1, y2, y3⟩ => ?_⟩
                     rcases g6 with ⟨e1, e2⟩ | ⟨e1, e2⟩
                     · omega
                     · by_cases hy : y = x
                       · subst hy; omega
                       · exact e2 ⟨y, y1, by omega, y3⟩)
              · refine ⟨x + 1, by omega, ?_⟩
                have x1 := h31 (5 * k9 + x)
                have x2 := h30 (5 * k9 + x)
                (try rw [su_nk (by decide)])
                simp only [sN, npm]
                split <;> omega
            · refine J_iconst C dX4_shareOut_94 ?_
              refine J_goto (tgt := 109) C dX4_shareOut_95 (by decide) ?_
              refine J_iadd C dX4_shareOut_109 ?_
              refine J_istore4 C (by decide) rfl dX4_shareOut_110 ?_
              refine J_iinc5 C (by decide) rfl dX4_shareOut_112 ?_
              refine J_goto (tgt := 14) C dX4_shareOut_115 (by decide) ?_
              -- to the cut at 14
              refine J_fg6 ?_
              refine ih_14 _ _ _ _ _ ?_ ?_ ?_ ?_ ?_ ?_ ?_ ?_
              · omega
              · omega
              · omega
              · exact g3
              · intro z; omega
              · have x1 := h31 (5 * k9 + x)
                first
                  | (exfalso; omega)
                  | ((try rw [h30])
                     rw [g5]
                     refine sf_su g0 ?_
                     unfold pwm
                     first | rw [if_pos (by omega)] | rw [if_neg (by omega)])
              · have x1 := h31 (5 * k9 + x)
                first
                  | (refine Or.inl ⟨rfl, ?_⟩
                     rcases g6 with ⟨e1, y, y1, y2, y3⟩ | ⟨e1, e2⟩
                     · exact ⟨y, y1, by omega, y3⟩
                     · exact ⟨x, by omega, by omega, by omega⟩)
                  | (refine Or.inr ⟨rfl, fun ⟨y, y1, y2, y3⟩ => ?_⟩
                     rcases g6 with ⟨e1, e2⟩ | ⟨e1, e2⟩
                     · omega
                     · by_cases hy : y = x
                       · subst hy; omega
                       · exact e2 ⟨y, y1, by omega, y3⟩)
              · refine ⟨x + 1, by omega, ?_⟩
                have x1 := h31 (5 * k9 + x)
                have x2 := h30 (5 * k9 + x)
                (try rw [su_nk (by decide)])
                simp only [sN, npm]
                split <;> omega
        · refine J_iload6 C dX4_shareOut_49 ?_
          refine J_if_eq (tgt := 58) C (by omega) dX4_shareOut_51 (by decide) (fun c_51 => ?_) (fun c_51 => ?_)
          · refine J_iconst C dX4_shareOut_58 ?_
            refine J_istore_3 C (by decide) rfl dX4_shareOut_59 ?_
            refine J_aload_0 C dX4_shareOut_60 ?_
            refine J_get_4_20 C in_X4_shareOut_X4 fl_X4_shareOut_61 (by decide) dX4_shareOut_61 ?_
            refine J_iload5 C dX4_shareOut_64 ?_
            refine J_iload6 C dX4_shareOut_66 ?_
            refine J_if_eq (tgt := 85) C (by omega) dX4_shareOut_68 (by decide) (fun c_68 => ?_) (fun c_68 => ?_)
            · refine J_iconst C dX4_shareOut_85 ?_
              refine J_iastore C k38 (by decide) (by omega) dX4_shareOut_86 ?_
              refine J_iload4 C dX4_shareOut_87 ?_
              refine J_iload6 C dX4_shareOut_89 ?_
              refine J_if_eq (tgt := 98) C (by omega) dX4_shareOut_91 (by decide) (fun c_91 => ?_) (fun c_91 => ?_)
              · refine J_aload_0 C dX4_shareOut_98 ?_
                refine J_get_4_11 C in_X4_shareOut_X4 fl_X4_shareOut_36 (by decide) dX4_shareOut_99 ?_
                refine J_iconst C dX4_shareOut_102 ?_
                refine J_iload_1 C dX4_shareOut_103 ?_
                refine J_imul C dX4_shareOut_104 ?_
                refine J_iload5 C dX4_shareOut_105 ?_
                refine J_iadd C dX4_shareOut_107 ?_
                refine J_iaload C k30 (by decide) (by omega) dX4_shareOut_108 ?_
                refine J_iadd C dX4_shareOut_109 ?_
                refine J_istore4 C (by decide) rfl dX4_shareOut_110 ?_
                refine J_iinc5 C (by decide) rfl dX4_shareOut_112 ?_
                refine J_goto (tgt := 14) C dX4_shareOut_115 (by decide) ?_
                -- to the cut at 14
                refine J_fg6 ?_
                refine ih_14 _ _ _ _ _ ?_ ?_ ?_ ?_ ?_ ?_ ?_ ?_
                · omega
                · omega
                · omega
                · exact g3
                · intro z; omega
                · have x1 := h31 (5 * k9 + x)
                  first
                    | (exfalso; omega)
                    | ((try rw [h30])
                       rw [g5]
                       refine sf_su g0 ?_
                       unfold pwm
                       first | rw [if_pos (by omega)] | rw [if_neg (by omega)])
                · have x1 := h31 (5 * k9 + x)
                  first
                    | (refine Or.inl ⟨rfl, ?_⟩
                       rcases g6 with ⟨e1, y, y1, y2, y3⟩ | ⟨e1, e2⟩
                       · exact ⟨y, y1, by omega, y3⟩
                       · exact ⟨x, by omega, by omega, by omega⟩)
                    | (refine Or.inr ⟨rfl, fun ⟨y, y1, y2, y3⟩ => ?_⟩
                       rcases g6 with ⟨e1, e2⟩ | ⟨e1, e2⟩
                       · omega
                       · by_cases hy : y = x
                         · subst hy; omega
                         · exact e2 ⟨y, y1, by omega, y3⟩)
                · refine ⟨x + 1, by omega, ?_⟩
                  have x1 := h31 (5 * k9 + x)
                  have x2 := h30 (5 * k9 + x)
                  (try rw [su_nk (by decide)])
                  simp only [sN, npm]
                  split <;> omega
              · refine J_iconst C dX4_shareOut_94 ?_
                refine J_goto (tgt := 109) C dX4_shareOut_95 (by decide) ?_
                refine J_iadd C dX4_shareOut_109 ?_
                refine J_istore4 C (by decide) rfl dX4_shareOut_110 ?_
                refine J_iinc5 C (by decide) rfl dX4_shareOut_112 ?_
                refine J_goto (tgt := 14) C dX4_shareOut_115 (by decide) ?_
                -- to the cut at 14
                refine J_fg6 ?_
                refine ih_14 _ _ _ _ _ ?_ ?_ ?_ ?_ ?_ ?_ ?_ ?_
                · omega
                · omega
                · omega
                · exact g3
                · intro z; omega
                · have x1 := h31 (5 * k9 + x)
                  first
                    | (exfalso; omega)
                    | ((try rw [h30])
                       rw [g5]
                       refine sf_su g0 ?_
                       unfold pwm
                       first | rw [if_pos (by omega)] | rw [if_neg (by omega)])
                · have x1 := h31 (5 * k9 + x)
                  first
                    | (refine Or.inl ⟨rfl, ?_⟩
                       rcases g6 with ⟨e1, y, y1, y2, y3⟩ | ⟨e1, e2⟩
                       · exact ⟨y, y1, by omega, y3⟩
                       · exact ⟨x, by omega, by omega, by omega⟩)
                    | (refine Or.inr ⟨rfl, fun ⟨y, y1, y2, y3⟩ => ?_⟩
                       rcases g6 with ⟨e1, e2⟩ | ⟨e1, e2⟩
                       · omega
                       · by_cases hy : y = x
                         · subst hy; omega
                         · exact e2 ⟨y, y1, by omega, y3⟩)
                · refine ⟨x + 1, by omega, ?_⟩
                  have x1 := h31 (5 * k9 + x)
                  have x2 := h30 (5 * k9 + x)
                  (try rw [su_nk (by decide)])
                  simp only [sN, npm]
                  split <;> omega
            · refine J_aload_0 C dX4_shareOut_71 ?_
              refine J_get_4_11 C in_X4_shareOut_X4 fl_X4_shareOut_36 (by decide) dX4_shareOut_72 ?_
              refine J_iconst C dX4_shareOut_75 ?_
              refine J_iload_1 C dX4_shareOut_76 ?_
              refine J_imul C dX4_shareOut_77 ?_
              refine J_iload5 C dX4_shareOut_78 ?_
              refine J_iadd C dX4_shareOut_80 ?_
              refine J_iaload C k30 (by decide) (by omega) dX4_shareOut_81 ?_
              refine J_goto (tgt := 86) C dX4_shareOut_82 (by decide) ?_
              refine J_iastore C k38 (by decide) (by omega) dX4_shareOut_86 ?_
              refine J_iload4 C dX4_shareOut_87 ?_
              refine J_iload6 C dX4_shareOut_89 ?_
              refine J_if_eq (tgt := 98) C (by omega) dX4_shareOut_91 (by decide) (fun c_91 => ?_) (fun c_91 => ?_)
              · refine J_aload_0 C dX4_shareOut_98 ?_
                refine J_get_4_11 C in_X4_shareOut_X4 fl_X4_shareOut_36 (by decide) dX4_shareOut_99 ?_
                refine J_iconst C dX4_shareOut_102 ?_
                refine J_iload_1 C dX4_shareOut_103 ?_
                refine J_imul C dX4_shareOut_104 ?_
                refine J_iload5 C dX4_shareOut_105 ?_
                refine J_iadd C dX4_shareOut_107 ?_
                refine J_iaload C k30 (by decide) (by omega) dX4_shareOut_108 ?_
                refine J_iadd C dX4_shareOut_109 ?_
                refine J_istore4 C (by decide) rfl dX4_shareOut_110 ?_
                refine J_iinc5 C (by decide) rfl dX4_shareOut_112 ?_
                refine J_goto (tgt := 14) C dX4_shareOut_115 (by decide) ?_
                -- to the cut at 14
                refine J_fg6 ?_
                refine ih_14 _ _ _ _ _ ?_ ?_ ?_ ?_ ?_ ?_ ?_ ?_
                · omega
                · omega
                · omega
                · exact g3
                · intro z; omega
                · have x1 := h31 (5 * k9 + x)
                  first
                    | (exfalso; omega)
                    | ((try rw [h30])
                       rw [g5]
                       refine sf_su g0 ?_
                       unfold pwm
                       first | rw [if_pos (by omega)] | rw [if_neg (by omega)])
                · have x1 := h31 (5 * k9 + x)
                  first
                    | (refine Or.inl ⟨rfl, ?_⟩
                       rcases g6 with ⟨e1, y, y1, y2, y3⟩ | ⟨e1, e2⟩
                       · exact ⟨y, y1, by omega, y3⟩
                       · exact ⟨x, by omega, by omega, by omega⟩)
                    | (refine Or.inr ⟨rfl, fun ⟨y, y1, y2, y3⟩ => ?_⟩
                       rcases g6 with ⟨e1, e2⟩ | ⟨e1, e2⟩
                       · omega
                       · by_cases hy : y = x
                         · subst hy; omega
                         · exact e2 ⟨y, y1, by omega, y3⟩)
                · refine ⟨x + 1, by omega, ?_⟩
                  have x1 := h31 (5 * k9 + x)
                  have x2 := h30 (5 * k9 + x)
                  (try rw [su_nk (by decide)])
                  simp only [sN, npm]
                  split <;> omega
              · refine J_iconst C dX4_shareOut_94 ?_
                refine J_goto (tgt := 109) C dX4_shareOut_95 (by decide) ?_
                refine J_iadd C dX4_shareOut_109 ?_
                refine J_istore4 C (by decide) rfl dX4_shareOut_110 ?_
                refine J_iinc5 C (by decide) rfl dX4_shareOut_112 ?_
                refine J_goto (tgt := 14) C dX4_shareOut_115 (by decide) ?_
                -- to the cut at 14
                refine J_fg6 ?_
                refine ih_14 _ _ _ _ _ ?_ ?_ ?_ ?_ ?_ ?_ ?_ ?_
                · omega
                · omega
                · omega
                · exact g3
                · intro z; omega
                · have x1 := h31 (5 * k9 + x)
                  first
                    | (exfalso; omega)
                    | ((try rw [h30])
                       rw [g5]
                       refine sf_su g0 ?_
                       unfold pwm
                       first | rw [if_pos (by omega)] | rw [if_neg (by omega)])
                · have x1 := h31 (5 * k9 + x)
                  first
                    | (refine Or.inl ⟨rfl, ?_⟩
                       rcases g6 with ⟨e1, y, y1, y2, y3⟩ | ⟨e1, e2⟩
                       · exact ⟨y, y1, by omega, y3⟩
                       · exact ⟨x, by omega, by omega, by omega⟩)
                    | (refine Or.inr ⟨rfl, fun ⟨y, y1, y2, y3⟩ => ?_⟩
                       rcases g6 with ⟨e1, e2⟩ | ⟨e1, e2⟩
                       · omega
                       · by_cases hy : y = x
                         · subst hy; omega
                         · exact e2 ⟨y, y1, by omega, y3⟩)
                · refine ⟨x + 1, by omega, ?_⟩
                  have x1 := h31 (5 * k9 + x)
                  have x2 := h30 (5 * k9 + x)
                  (try rw [su_nk (by decide)])
                  simp only [sN, npm]
                  split <;> omega
          · refine J_iconst C dX4_shareOut_54 ?_
            refine J_goto (tgt := 59) C dX4_shareOut_55 (by decide) ?_
            refine J_istore_3 C (by decide) rfl dX4_shareOut_59 ?_
            refine J_aload_0 C dX4_shareOut_60 ?_
            refine J_get_4_20 C in_X4_shareOut_X4 fl_X4_shareOut_61 (by decide) dX4_shareOut_61 ?_
            refine J_iload5 C dX4_shareOut_64 ?_
            refine J_iload6 C dX4_shareOut_66 ?_
            refine J_if_eq (tgt := 85) C (by omega) dX4_shareOut_68 (by decide) (fun c_68 => ?_) (fun c_68 => ?_)
            · refine J_iconst C dX4_shareOut_85 ?_
              refine J_iastore C k38 (by decide) (by omega) dX4_shareOut_86 ?_
              refine J_iload4 C dX4_shareOut_87 ?_
              refine J_iload6 C dX4_shareOut_89 ?_
              refine J_if_eq (tgt := 98) C (by omega) dX4_shareOut_91 (by decide) (fun c_91 => ?_) (fun c_91 => ?_)
              · refine J_aload_0 C dX4_shareOut_98 ?_
                refine J_get_4_11 C in_X4_shareOut_X4 fl_X4_shareOut_36 (by decide) dX4_shareOut_99 ?_
                refine J_iconst C dX4_shareOut_102 ?_
                refine J_iload_1 C dX4_shareOut_103 ?_
                refine J_imul C dX4_shareOut_104 ?_
                refine J_iload5 C dX4_shareOut_105 ?_
                refine J_iadd C dX4_shareOut_107 ?_
                refine J_iaload C k30 (by decide) (by omega) dX4_shareOut_108 ?_
                refine J_iadd C dX4_shareOut_109 ?_
                refine J_istore4 C (by decide) rfl dX4_shareOut_110 ?_
                refine J_iinc5 C (by decide) rfl dX4_shareOut_112 ?_
                refine J_goto (tgt := 14) C dX4_shareOut_115 (by decide) ?_
                -- to the cut at 14
                refine J_fg6 ?_
                refine ih_14 _ _ _ _ _ ?_ ?_ ?_ ?_ ?_ ?_ ?_ ?_
                · omega
                · omega
                · omega
                · exact g3
                · intro z; omega
                · have x1 := h31 (5 * k9 + x)
                  first
                    | (exfalso; omega)
                    | ((try rw [h30])
                       rw [g5]
                       refine sf_su g0 ?_
                       unfold pwm
                       first | rw [if_pos (by omega)] | rw [if_neg (by omega)])
                · have x1 := h31 (5 * k9 + x)
                  first
                    | (refine Or.inl ⟨rfl, ?_⟩
                       rcases g6 with ⟨e1, y, y1, y2, y3⟩ | ⟨e1, e2⟩
                       · exact ⟨y, y1, by omega, y3⟩
                       · exact ⟨x, by omega, by omega, by omega⟩)
                    | (refine Or.inr ⟨rfl, fun ⟨y, y1, y2, y3⟩ => ?_⟩
                       rcases g6 with ⟨e1, e2⟩ | ⟨e1, e2⟩
                       · omega
                       · by_cases hy : y = x
                         · subst hy; omega
                         · exact e2 ⟨y, y1, by omega, y3⟩)
                · refine ⟨x + 1, by omega, ?_⟩
                  have x1 := h31 (5 * k9 + x)
                  have x2 := h30 (5 * k9 + x)
                  (try rw [su_nk (by decide)])
                  simp only [sN, npm]
                  split <;> omega
              · refine J_iconst C dX4_shareOut_94 ?_
                refine J_goto (tgt := 109) C dX4_shareOut_95 (by decide) ?_
                refine J_iadd C dX4_shareOut_109 ?_
                refine J_istore4 C (by decide) rfl dX4_shareOut_110 ?_
                refine J_iinc5 C (by decide) rfl dX4_shareOut_112 ?_
                refine J_goto (tgt := 14) C dX4_shareOut_115 (by decide) ?_
                -- to the cut at 14
                refine J_fg6 ?_
                refine ih_14 _ _ _ _ _ ?_ ?_ ?_ ?_ ?_ ?_ ?_ ?_
                · omega
                · omega
                · omega
                · exact g3
                · intro z; omega
                · have x1 := h31 (5 * k9 + x)
                  first
                    | (exfalso; omega)
                    | ((try rw [h30])
                       rw [g5]
                       refine sf_su g0 ?_
                       unfold pwm
                       first | rw [if_pos (by omega)] | rw [if_neg (by omega)])
                · have x1 := h31 (5 * k9 + x)
                  first
                    | (refine Or.inl ⟨rfl, ?_⟩
                       rcases g6 with ⟨e1, y, y1, y2, y3⟩ | ⟨e1, e2⟩
                       · exact ⟨y, y1, by omega, y3⟩
                       · exact ⟨x, by omega, by omega, by omega⟩)
                    | (refine Or.inr ⟨rfl, fun ⟨y, y1, y2, y3⟩ => ?_⟩
                       rcases g6 with ⟨e1, e2⟩ | ⟨e1, e2⟩
                       · omega
                       · by_cases hy : y = x
                         · subst hy; omega
                         · exact e2 ⟨y, y1, by omega, y3⟩)
                · refine ⟨x + 1, by omega, ?_⟩
                  have x1 := h31 (5 * k9 + x)
                  have x2 := h30 (5 * k9 + x)
                  (try rw [su_nk (by decide)])
                  simp only [sN, npm]
                  split <;> omega
            · refine J_aload_0 C dX4_shareOut_71 ?_
              refine J_get_4_11 C in_X4_shareOut_X4 fl_X4_shareOut_36 (by decide) dX4_shareOut_72 ?_
              refine J_iconst C dX4_shareOut_75 ?_
              refine J_iload_1 C dX4_shareOut_76 ?_
              refine J_imul C dX4_shareOut_77 ?_
              refine J_iload5 C dX4_shareOut_78 ?_
              refine J_iadd C dX4_shareOut_80 ?_
              refine J_iaload C k30 (by decide) (by omega) dX4_shareOut_81 ?_
              refine J_goto (tgt := 86) C dX4_shareOut_82 (by decide) ?_
              refine J_iastore C k38 (by decide) (by omega) dX4_shareOut_86 ?_
              refine J_iload4 C dX4_shareOut_87 ?_
              refine J_iload6 C dX4_shareOut_89 ?_
              refine J_if_eq (tgt := 98) C (by omega) dX4_shareOut_91 (by decide) (fun c_91 => ?_) (fun c_91 => ?_)
              · refine J_aload_0 C dX4_shareOut_98 ?_
                refine J_get_4_11 C in_X4_shareOut_X4 fl_X4_shareOut_36 (by decide) dX4_shareOut_99 ?_
                refine J_iconst C dX4_shareOut_102 ?_
                refine J_iload_1 C dX4_shareOut_103 ?_
                refine J_imul C dX4_shareOut_104 ?_
                refine J_iload5 C dX4_shareOut_105 ?_
                refine J_iadd C dX4_shareOut_107 ?_
                refine J_iaload C k30 (by decide) (by omega) dX4_shareOut_108 ?_
                refine J_iadd C dX4_shareOut_109 ?_
                refine J_istore4 C (by decide) rfl dX4_shareOut_110 ?_
                refine J_iinc5 C (by decide) rfl dX4_shareOut_112 ?_
                refine J_goto (tgt := 14) C dX4_shareOut_115 (by decide) ?_
                -- to the cut at 14
                refine J_fg6 ?_
                refine ih_14 _ _ _ _ _ ?_ ?_ ?_ ?_ ?_ ?_ ?_ ?_
                · omega
                · omega
                · omega
                · exact g3
                · intro z; omega
                · have x1 := h31 (5 * k9 + x)
                  first
                    | (exfalso; omega)
                    | ((try rw [h30])
                       rw [g5]
                       refine sf_su g0 ?_
                       unfold pwm
                       first | rw [if_pos (by omega)] | rw [if_neg (by omega)])
                · have x1 := h31 (5 * k9 + x)
                  first
                    | (refine Or.inl ⟨rfl, ?_⟩
                       rcases g6 with ⟨e1, y, y1, y2, y3⟩ | ⟨e1, e2⟩
                       · exact ⟨y, y1, by omega, y3⟩
                       · exact ⟨x, by omega, by omega, by omega⟩)
                    | (refine Or.inr ⟨rfl, fun ⟨y, y1, y2, y3⟩ => ?_⟩
                       rcases g6 with ⟨e1, e2⟩ | ⟨e1, e2⟩
                       · omega
                       · by_cases hy : y = x
                         · subst hy; omega
                         · exact e2 ⟨y, y1, by omega, y3⟩)
                · refine ⟨x + 1, by omega, ?_⟩
                  have x1 := h31 (5 * k9 + x)
                  have x2 := h30 (5 * k9 + x)
                  (try rw [su_nk (by decide)])
                  simp only [sN, npm]
                  split <;> omega
              · refine J_iconst C dX4_shareOut_94 ?_
                refine J_goto (tgt := 109) C dX4_shareOut_95 (by decide) ?_
                refine J_iadd C dX4_shareOut_109 ?_
                refine J_istore4 C (by decide) rfl dX4_shareOut_110 ?_
                refine J_iinc5 C (by decide) rfl dX4_shareOut_112 ?_
                refine J_goto (tgt := 14) C dX4_shareOut_115 (by decide) ?_
                -- to the cut at 14
                refine J_fg6 ?_
                refine ih_14 _ _ _ _ _ ?_ ?_ ?_ ?_ ?_ ?_ ?_ ?_
                · omega
                · omega
                · omega
                · exact g3
                · intro z; omega
                · have x1 := h31 (5 * k9 + x)
                  first
                    | (exfalso; omega)
                    | ((try rw [h30])
                       rw [g5]
                       refine sf_su g0 ?_
                       unfold pwm
                       first | rw [if_pos (by omega)] | rw [if_neg (by omega)])
                · have x1 := h31 (5 * k9 + x)
                  first
                    | (refine Or.inl ⟨rfl, ?_⟩
                       rcases g6 with ⟨e1, y, y1, y2, y3⟩ | ⟨e1, e2⟩
                       · exact ⟨y, y1, by omega, y3⟩
                       · exact ⟨x, by omega, by omega, by omega⟩)
                    | (refine Or.inr ⟨rfl, fun ⟨y, y1, y2, y3⟩ => ?_⟩
                       rcases g6 with ⟨e1, e2⟩ | ⟨e1, e2⟩
                       · omega
                       · by_cases hy : y = x
                         · subst hy; omega
                         · exact e2 ⟨y, y1, by omega, y3⟩)
                · refine ⟨x + 1, by omega, ?_⟩
                  have x1 := h31 (5 * k9 + x)
                  have x2 := h30 (5 * k9 + x)
                  (try rw [su_nk (by decide)])
                  simp only [sN, npm]
                  split <;> omega
      refine J_iload5 C dX4_shareOut_14 ?_
      refine J_iconst C dX4_shareOut_16 ?_
      refine J_icmp_ge (tgt := 118) C (by omega) (by omega) dX4_shareOut_17 (by decide) (fun c_17 => ?_) (fun c_17 => ?_)
      · -- to the cut at 118
        refine J_fg5 ?_
        refine K_118 _ _ _ _ ?_ ?_ ?_ ?_
        · exact g3
        · exact fun a b c h => by rw [g5, sf_nk h]
        · intro z
          have e5 : x = 5 := by omega
          subst e5
          exact ⟨(s5_sN _).symm, fun q a b => by rw [g5]; exact sf_at a (by omega), g6⟩
        · intro z
          have e0 := g4 (by omega)
          exact ⟨e0.1, e0.2.1⟩
      · refine J_iload_2 C dX4_shareOut_20 ?_
        refine J_if_eq (tgt := 118) C (by omega) dX4_shareOut_21 (by decide) (fun c_21 => ?_) (fun c_21 => ?_)
        · -- to the cut at 118
          refine J_fg5 ?_
          refine K_118 _ _ _ _ ?_ ?_ ?_ ?_
          · exact g3
          · exact fun a b c h => by rw [g5, sf_nk h]
          · intro z
            have e5 : x = 5 := by omega
            subst e5
            exact ⟨(s5_sN _).symm, fun q a b => by rw [g5]; exact sf_at a (by omega), g6⟩
          · intro z
            have e0 := g4 (by omega)
            exact ⟨e0.1, e0.2.1⟩
        · refine J_aload_0 C dX4_shareOut_24 ?_
          refine J_get_4_12 C in_X4_shareOut_X4 fl_X4_shareOut_39 (by decide) dX4_shareOut_25 ?_
          refine J_iconst C dX4_shareOut_28 ?_
          refine J_iload_1 C dX4_shareOut_29 ?_
          refine J_imul C dX4_shareOut_30 ?_
          refine J_iload5 C dX4_shareOut_31 ?_
          refine J_iadd C dX4_shareOut_33 ?_
          refine J_iaload C k31 (by decide) (by omega) dX4_shareOut_34 ?_
          refine J_if_le (tgt := 42) C (by rw [h31]; have := hpa (5 * k9 + x) (by omega) (by omega); omega) dX4_shareOut_35 (by decide) (fun c_35 => ?_) (fun c_35 => ?_)
          · refine J_iconst C dX4_shareOut_42 ?_
            -- to the cut at 43
            refine K_43 _ ?_ ?_ ?_
            · have x1 := h31 (5 * k9 + x)
              omega
            · omega
            · omega
          · refine J_iconst C dX4_shareOut_38 ?_
            refine J_goto (tgt := 43) C dX4_shareOut_39 (by decide) ?_
            -- to the cut at 43
            refine K_43 _ ?_ ?_ ?_
            · have x1 := h31 (5 * k9 + x)
              omega
            · omega
            · omega
  refine J_aload_0 C dX4_shareOut_0 ?_
  refine J_iload_1 C dX4_shareOut_1 ?_
  refine J_KVI C (c_X4_isCall hfl hI _ k9 hk9 hcm) (cwV 1 C.1.2.2.2.2 gX4_shareOut_X4_isCall rfl rfl rfl (by decide +kernel) ⟨Nat.le_of_ble_eq_true rfl, Nat.le_of_ble_eq_true rfl⟩) rc4 (by decide) rfl rfl (Nat.le_of_ble_eq_true rfl) dX4_shareOut_2 ⟨Nat.le_of_ble_eq_true rfl, Nat.le_of_ble_eq_true rfl⟩ (fun z_2 σ_2 hp => ?_)
  obtain ⟨hz_, hs_⟩ := hp
  have hz_ := hz_.symm
  have hs_ := hs_.symm
  subst hz_
  subst hs_
  refine J_istore_2 C (by decide) rfl dX4_shareOut_5 ?_
  refine J_iconst C dX4_shareOut_6 ?_
  refine J_istore_3 C (by decide) rfl dX4_shareOut_7 ?_
  refine J_iconst C dX4_shareOut_8 ?_
  refine J_istore4 C (by decide) rfl dX4_shareOut_9 ?_
  refine J_iconst C dX4_shareOut_11 ?_
  refine J_istore5 C (by decide) rfl dX4_shareOut_12 ?_
  -- to the cut at 14
  refine K_14 6 _ _ _ _ _ ?_ ?_ ?_ ?_ ?_ ?_ ?_ ?_
  · decide
  · decide
  · decide
  · split <;> omega
  · intro z; exact ⟨rfl, rfl, rfl⟩
  · exact (sf_0 ..).symm
  · exact Or.inr ⟨rfl, fun ⟨y, y1, y2, y3⟩ => by omega⟩
  · exact ⟨0, rfl, rfl⟩
