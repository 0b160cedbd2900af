theorem rel0 : Rel σ0 := by
  have es : ∀ q : Int, shf σ0 q = if q = 0 then 10000 else 0 := fun q => by
    unfold shf
    show (if 0 ≤ q ∧ q < 5 then (if q = 0 then (10000 : Int) else 0) else 0) = _
    by_cases h0 : q = 0
    · subst h0; decide
    · rw [if_neg h0]; split <;> rfl
  have z0 : (0 : Int) ≤ 0 := Int.le_refl 0
  have hT : ∀ w : Int, Tin (shf σ0) (T0f (σ0 13 w)) := fun w => by
    have e14 : ∀ q, T0f (σ0 13 w) 14 q = 0 := fun q => by
      show (if 0 ≤ q ∧ q < 5 then (0 : Int) else 0) = 0
      split <;> rfl
    refine ⟨fun p _ _ => Or.inl (e14 p), ?_⟩
    have ei : ∀ q, inw (shf σ0) (T0f (σ0 13 w)) q = if q = 0 then 10000 else 0 := fun q => by
      unfold inw
      rw [if_pos (e14 q), es]
    unfold s5
    simp only [ei]
    decide
  refine ⟨⟨⟨by decide, by decide⟩, ⟨by decide, by decide⟩, ⟨by decide, by decide⟩, ⟨by decide, by decide⟩, ⟨by decide, by decide⟩⟩, ⟨fun p _ _ => ?_, ?_⟩, fun v h0 h1 => ?_, fun w h0 h1 => ?_, fun w q _ _ _ _ => ?_, fun w h0 h1 => ⟨hT w, ?_⟩, fun k q _ _ _ _ => ?_, fun k _ _ => ?_⟩
  · rw [es]
    split <;> omega
  · unfold s5
    simp only [es]
    decide
  · exact ⟨⟨z0, (show (0 : Int) < 6 by decide)⟩, ⟨(show (-10000000 : Int) ≤ 0 by decide), (show (0 : Int) ≤ 10000000 by decide)⟩, fun h => absurd (show v < 0 from h) (by omega)⟩
  · exact ⟨⟨(show (0 : Int) ≤ 300 by decide), (show (300 : Int) ≤ 1000 by decide)⟩, Or.inl rfl⟩
  · exact ⟨Or.inl rfl, fun h => absurd rfl h⟩
  · show ac σ0 w = T0f (σ0 13 w)
    funext c q
    unfold ac T0f
    by_cases hq : 0 ≤ q ∧ q < 5
    · rw [if_pos hq]
      by_cases h14 : c = 14
      · subst h14
        show (if 14 ≤ 14 ∧ 14 ≤ 18 ∧ 0 ≤ q ∧ q < 5 then (0 : Int) else 0) = 0
        split <;> rfl
      by_cases h16 : c = 16
      · subst h16
        show (if 14 ≤ 16 ∧ 16 ≤ 18 ∧ 0 ≤ q ∧ q < 5 then (if q < 5 then (-1 : Int) else 0) else 0) = -1
        rw [if_pos (show 14 ≤ 16 ∧ 16 ≤ 18 ∧ 0 ≤ q ∧ q < 5 from ⟨by decide, by decide, hq.1, hq.2⟩), if_pos hq.2]
      rw [if_neg h14, if_neg h16]
      split
      · rename_i hc
        obtain rfl | rfl | rfl : c = 15 ∨ c = 17 ∨ c = 18 := by omega
        all_goals rfl
      · rfl
    · rw [if_neg hq, if_neg (fun z => hq ⟨z.2.2.1, z.2.2.2⟩)]
  · exact ⟨⟨z0, z0⟩, fun _ => rfl⟩
  · show (0 : Int) + 0 + 0 + 0 + 0 ≤ 10000000
    decide
theorem inv_start {S τ : Sg} (hS : ∀ (a : Nat) (b c : Int), a ≠ 1 → a ≠ 22 → S a b c = σ0 a b c) (h22 : ∀ q, 0 ≤ q → q < 5 → S 22 0 q = S 1 0 q) (hr : ∀ q, 0 ≤ q → q < 5 → 0 ≤ S 1 0 q ∧ S 1 0 q ≤ 10000) (hs : s5 (S 1 0) = 10000) (hτ : τ = su (su (su (su (su S 29 0 0 1) 29 0 3 300) 24 0 0 300) 12 0 0 300) 0 0 4 1) : Inv τ := by
  have hsh : Shk (shf S) := ⟨fun p a b => by rw [shf_at a b]; exact hr p a b, by rw [s5_congr (g := S 1 0) (fun p a b => shf_at a b)]; exact hs⟩
  have z4 : σ0 0 0 4 = 0 := by decide
  have rS : Rel S := rel0.t_shares z4 (fun a b c x1 x2 x3 => hS a b c (by omega) (by omega)) hsh
  have s4 : S 0 0 4 = 0 := by rw [hS _ _ _ (by decide) (by decide)]; decide
  have s1 : S 0 0 1 = 300 := by rw [hS _ _ _ (by decide) (by decide)]; decide
  have s2 : S 0 0 2 = 0 := by rw [hS _ _ _ (by decide) (by decide)]; decide
  have s7 : S 0 0 7 = 0 := by rw [hS _ _ _ (by decide) (by decide)]; decide
  have s9 : S 0 0 9 = 0 := by rw [hS _ _ _ (by decide) (by decide)]; decide
  have hX : Eqx (fun a b c => (a = 0 ∧ c = 4) ∨ (a = 12 ∧ b = (su (su (su S 29 0 0 1) 29 0 3 300) 24 0 0 300) 0 0 4 ∧ c = 0) ∨ (a = 24 ∧ c = (su (su (su S 29 0 0 1) 29 0 3 300) 24 0 0 300) 0 0 4) ∨ (a = 29 ∧ c = 0)) (su (su (su S 29 0 0 1) 29 0 3 300) 24 0 0 300) τ := fun a b c x1 x2 x3 => by
    have e4 : (su (su (su S 29 0 0 1) 29 0 3 300) 24 0 0 300) 0 0 4 = 0 := by rw [su_nk (by decide), su_nk (by decide), su_nk (by decide)]; exact s4
    rw [e4] at x3
    rw [hτ, su_ne3 (by omega), su_ne3 (by omega)]
  have rX : Rel (su (su (su S 29 0 0 1) 29 0 3 300) 24 0 0 300) := rS.cls (fun a b c x1 x2 => by rw [su_nk (by omega), su_nk (by omega), su_nk (by omega)])
  have e4 : (su (su (su S 29 0 0 1) 29 0 3 300) 24 0 0 300) 0 0 4 = 0 := by rw [su_nk (by decide), su_nk (by decide), su_nk (by decide)]; exact s4
  have e1 : (su (su (su S 29 0 0 1) 29 0 3 300) 24 0 0 300) 0 0 1 = 300 := by rw [su_nk (by decide), su_nk (by decide), su_nk (by decide)]; exact s1
  refine ⟨rX.t_well (by rw [e4]; decide) hX (by rw [e4, hτ, su_at]; rfl) (by rw [e4, e1, hτ, su_nk (by decide), su_at]), ?_⟩
  have t : ∀ (a : Nat) (b c : Int), a ≠ 29 → a ≠ 24 → a ≠ 12 → a ≠ 0 → τ a b c = S a b c := fun a b c x1 x2 x3 x4 => by rw [hτ, su_nk x4, su_nk x3, su_nk x2, su_nk x1, su_nk x1]
  have t0 : ∀ c : Int, c ≠ 4 → τ 0 0 c = S 0 0 c := fun c x => by rw [hτ, su_ne (Or.inr x), su_nk (by decide), su_nk (by decide), su_nk (by decide), su_nk (by decide)]
  have t04 : τ 0 0 4 = 1 := by rw [hτ, su_at]
  have t29 : ∀ c : Int, τ 29 0 c = if c = 3 then 300 else if c = 0 then 1 else S 29 0 c := fun c => by
    rw [hτ, su_nk (by decide), su_nk (by decide), su_nk (by decide), su_rw0, su_rw0]
  have y29 : ∀ c : Int, S 29 0 c = 0 := fun c => by rw [hS _ _ _ (by decide) (by decide)]; rfl
  have y1 := t0 1 (by decide); have y2 := t0 2 (by decide); have y7 := t0 7 (by decide); have y9 := t0 9 (by decide)
  refine ⟨?_, ?_, fun q a b => ?_, fun w q a b c d => ?_, fun w a b c => ?_, fun v a b c => ?_, fun k q a b c d f => ?_, fun q a b => ?_, fun w a b => ?_⟩
  · unfold L0; omega
  · unfold Lm
    rw [t29, t29, t29, t29, t29, t04, y1, y2, y7, y9, s1, s2, s7, s9]
    simp only [y29]
    decide
  · rw [t 22 _ _ (by decide) (by decide) (by decide) (by decide), t 1 _ _ (by decide) (by decide) (by decide) (by decide)]; exact h22 q a b
  · rw [t 23 _ _ (by decide) (by decide) (by decide) (by decide), t 13 _ _ (by decide) (by decide) (by decide) (by decide), hS 23 _ _ (by decide) (by decide), hS 13 _ _ (by decide) (by decide)]; rfl
  · have hw : w = 0 := by omega
    subst hw
    rw [hτ, su_nk (by decide), su_nk (by decide), su_at, su_nk (by decide), su_at]
  · omega
  · omega
  · rw [t 28 _ _ (by decide) (by decide) (by decide) (by decide), t 6 _ _ (by decide) (by decide) (by decide) (by decide), hS 28 _ _ (by decide) (by decide), hS 6 _ _ (by decide) (by decide)]; rfl
  · rw [t 30 _ _ (by decide) (by decide) (by decide) (by decide), hτ, su_nk (by decide), su_ne (Or.inr (by decide)), su_nk (by decide), su_nk (by decide), su_nk (by decide), hS 30 _ _ (by decide) (by decide), hS 12 _ _ (by decide) (by decide)]; rfl
set_option maxRecDepth 20000 in
theorem w_L_holds_c145 : Cond.constant RL 145 (iI (1000000)) ∈ wsL_holds := by decide +kernel
set_option maxHeartbeats 4000000 in
set_option maxRecDepth 100000 in
theorem h_jw {p : Program} {l : Launch} {e : Env} {s : State} {m : MethodId} {below : List Frame} {meth : Method} {c : Code} {cy : Nat → ClassId} {D : va_G} {ad : Ad} {b L : Nat} {xs : Nat → Int32} (hfl : l.stackTraces = false) (hL : L ≤ 260) (C : Cx p l e ({ frames := 11, cells := 110000, slots := 700000, locals := 227 } : Room) s m #[Value.ref b] below meth c cy D ad (fun q => s.heap.size ≤ q) 14 cL_holds RL wsL_holds) (hX : va_X b L xs s s.heap) (hbl : b < s.heap.size) (hr : meth.sig.returnType = some .boolean) (x22 : ad 1000 22 = 1) (x23 : ad 1000 23 = 1) (x24 : ad 1000 24 = 1) (x25 : ad 1000 25 = 1) (x26 : ad 1000 26 = 1) (x27 : ad 1000 27 = 1) (x28 : ad 1000 28 = 1) (x29 : ad 1000 29 = 1) (x30 : ad 1000 30 = 1) (f31 : ¬ ad 1000 31 = 1) (f32 : ¬ ad 1000 32 = 1) (f33 : ¬ ad 1000 33 = 1) (f34 : ¬ ad 1000 34 = 1) (f35 : ¬ ad 1000 35 = 1) (f36 : ¬ ad 1000 36 = 1) (f37 : ¬ ad 1000 37 = 1) (f38 : ¬ ad 1000 38 = 1) (f39 : ¬ ad 1000 39 = 1) (f40 : ¬ ad 1000 40 = 1) : JW p l e ({ frames := 11, cells := 110000, slots := 700000, locals := 227 } : Room) s m #[Value.ref b] below meth c cy D ad (fun q => s.heap.size ≤ q) 14 123 804 (MQ below (QH s.heap.size) #[Value.ref b] s 110000 700000 (fun q => s.heap.size ≤ q)) σ0 55 [some (.ref b), some (.ref (ad 0 0)), some (.ref (ad 22 0)), some (.ref (ad 23 0)), some (.ref (ad 24 0)), some (.ref (ad 25 0)), some (.ref (ad 26 0)), some (.ref (ad 27 0)), some (.ref (ad 28 0)), some (.ref (ad 29 0)), some (.ref (ad 30 0)), none, none, none] [] := by
  have hbA : ¬ (fun q => s.heap.size ≤ q) b := Nat.not_le.mpr hbl
  have hI := C.2.1
  have K_63 : ∀ (n_ : Nat) (i : Int) (lf : Int) (σ1 : Sg), (0 ≤ i) → (i ≤ 4) → (4 - i < n_) → (0 ≤ lf ∧ lf ≤ 10000) → (∀ (a : Nat) (b c : Int), a ≠ 22 → σ1 a b c = σ0 a b c) → (∀ q, 0 ≤ q → q < i → 0 ≤ σ1 22 0 q ∧ σ1 22 0 q ≤ 10000) → (∃ j : Nat, i = (j : Int) ∧ sN (σ1 22 0) j + lf = 10000) → JW p l e ({ frames := 11, cells := 110000, slots := 700000, locals := 227 } : Room) s m #[Value.ref b] below meth c cy D ad (fun q => s.heap.size ≤ q) 14 123 804 (MQ below (QH s.heap.size) #[Value.ref b] s 110000 700000 (fun q => s.heap.size ≤ q)) σ1 63 [some (.ref b), some (.ref (ad 0 0)), some (.ref (ad 22 0)), some (.ref (ad 23 0)), some (.ref (ad 24 0)), some (.ref (ad 25 0)), some (.ref (ad 26 0)), some (.ref (ad 27 0)), some (.ref (ad 28 0)), some (.ref (ad 29 0)), some (.ref (ad 30 0)), some (.int (iI lf)), some (.int (iI i)), none] [] := by
    intro n_
    induction n_ with
    | zero => intro i lf σ1 g0 g1 g2 g3 g4 g5 g6; omega
    | succ n_ ih_63 =>
      intro i lf σ1 g0 g1 g2 g3 g4 g5 g6
      obtain ⟨j, rfl, g6⟩ := g6
      refine J_iload12 C dL_holds_63 ?_
      refine J_iconst C dL_holds_65 ?_
      refine J_icmp_ge (tgt := 116) C (by omega) (by omega) dL_holds_66 (by decide) (fun c_66 => ?_) (fun c_66 => ?_)
      · refine J_aload_2 C dL_holds_116 ?_
        refine J_iconst C dL_holds_117 ?_
        refine J_iload11 C dL_holds_118 ?_
        refine J_iastore C (k22 x22) (by decide) (by omega) dL_holds_120 ?_
        have e4 : j = 4 := by omega
        subst e4
        have G4 : ∀ (a : Nat) (b c : Int), a ≠ 22 → su σ1 22 0 4 lf a b c = σ0 a b c := fun a b c x => by rw [su_nk x]; exact g4 a b c x
        have R4 : ∀ q, 0 ≤ q → q < 5 → 0 ≤ su σ1 22 0 4 lf 22 0 q ∧ su σ1 22 0 4 lf 22 0 q ≤ 10000 := fun q a b => by
          rw [su_rw0]
          split
          · exact g3
          · exact g5 q a (by omega)
        have S4 : s5 (su σ1 22 0 4 lf 22 0) = 10000 := by
          have e : sN (σ1 22 0) 4 = σ1 22 0 0 + σ1 22 0 1 + σ1 22 0 2 + σ1 22 0 3 := by simp [sN]
          unfold s5
          rw [su_rw0, su_rw0, su_rw0, su_rw0, su_rw0, if_neg (by decide), if_neg (by decide), if_neg (by decide), if_neg (by decide), if_pos rfl]
          omega
        generalize su σ1 22 0 4 lf = σ4 at G4 R4 S4 ⊢
        have z4 : σ4 0 0 4 = 0 := by rw [G4 _ _ _ (by decide)]; decide
        have r0 := R4 0 (by decide) (by decide); have r1 := R4 1 (by decide) (by decide); have r2 := R4 2 (by decide) (by decide); have r3 := R4 3 (by decide) (by decide); have r4 := R4 4 (by decide) (by decide)
        have hsum : σ4 22 0 0 + σ4 22 0 1 + σ4 22 0 2 + σ4 22 0 3 + σ4 22 0 4 = 10000 := S4
        refine J_aload_1 C dL_holds_121 ?_
        refine J_aload_2 C dL_holds_122 ?_
        refine J_iconst C dL_holds_123 ?_
        refine J_iaload C (k22 x22) (by decide) (by omega) dL_holds_124 ?_
        refine J_aload_2 C dL_holds_125 ?_
        refine J_iconst C dL_holds_126 ?_
        refine J_iaload C (k22 x22) (by decide) (by omega) dL_holds_127 ?_
        refine J_aload_2 C dL_holds_128 ?_
        refine J_iconst C dL_holds_129 ?_
        refine J_iaload C (k22 x22) (by decide) (by omega) dL_holds_130 ?_
        refine J_aload_2 C dL_holds_131 ?_
        refine J_iconst C dL_holds_132 ?_
        refine J_iaload C (k22 x22) (by decide) (by omega) dL_holds_133 ?_
        refine J_aload_2 C dL_holds_134 ?_
        refine J_iconst C dL_holds_135 ?_
        refine J_iaload C (k22 x22) (by decide) (by omega) dL_holds_136 ?_
        refine J_XVV C (c_X3_setShares hfl hI _ _ _ _ _ _ (by omega) (by omega) (by omega) (by omega) (by omega) (by rw [z4]; decide)) (cwV 5 C.1.2.2.2.2 gL_holds_X3_setShares rfl rfl rfl (by decide +kernel) ⟨Nat.le_of_ble_eq_true rfl, Nat.le_of_ble_eq_true rfl⟩) rc3 (by decide) rfl rfl (Nat.le_of_ble_eq_true rfl) dL_holds_137 ⟨by dsimp only; omega, by dsimp only; omega⟩ (fun E σ_137 hx => ?_) (fun σ_137 hp => ?_)
        · skip
          obtain ⟨_, hx⟩ := hx
          rcases hx with ⟨_, hx⟩ | ⟨_, _, hx⟩
          · exact absurd ⟨⟨r0, r1, r2, r3, r4⟩, hsum⟩ hx
          · exact absurd z4 hx
        obtain ⟨hs_, _⟩ := hp
        have hS : ∀ (a : Nat) (b c : Int), a ≠ 1 → a ≠ 22 → σ_137 a b c = σ0 a b c := fun a b c x1 x2 => by rw [hs_, su_nk x1, su_nk x1, su_nk x1, su_nk x1, su_nk x1]; exact G4 a b c x2
        have h1q : ∀ q, 0 ≤ q → q < 5 → σ_137 1 0 q = σ4 22 0 q := p5 (by rw [hs_]; simp [su]) (by rw [hs_]; simp [su]) (by rw [hs_]; simp [su]) (by rw [hs_]; simp [su]) (by rw [hs_]; simp [su])
        have h22 : ∀ q, 0 ≤ q → q < 5 → σ_137 22 0 q = σ_137 1 0 q := fun q a b => by
          rw [h1q q a b, hs_, su_nk (by decide), su_nk (by decide), su_nk (by decide), su_nk (by decide), su_nk (by decide)]
        have hr1 : ∀ q, 0 ≤ q → q < 5 → 0 ≤ σ_137 1 0 q ∧ σ_137 1 0 q ≤ 10000 := fun q a b => by rw [h1q q a b]; exact R4 q a b
        have hs1 : s5 (σ_137 1 0) = 10000 := by rw [s5_congr h1q]; exact S4
        have y4 : σ_137 0 0 4 = 0 := by rw [hS _ _ _ (by decide) (by decide)]; decide
        have y1 : σ_137 0 0 1 = 300 := by rw [hS _ _ _ (by decide) (by decide)]; decide
        refine J_aload9 C dL_holds_140 ?_
        refine J_iconst C dL_holds_142 ?_
        refine J_iconst C dL_holds_143 ?_
        refine J_iastore C (k29 x29) (by decide) (by omega) dL_holds_144 ?_
        refine J_aload9 C dL_holds_145 ?_
        refine J_iconst C dL_holds_147 ?_
        refine J_sipush C (by decide) dL_holds_148 ?_
        refine J_iastore C (k29 x29) (by decide) (by omega) dL_holds_151 ?_
        refine J_aload4 C dL_holds_152 ?_
        refine J_iconst C dL_holds_154 ?_
        refine J_sipush C (by decide) dL_holds_155 ?_
        refine J_iastore C (k24 x24) (by decide) (by omega) dL_holds_158 ?_
        have q4 : su (su (su σ_137 29 0 0 1) 29 0 3 300) 24 0 0 300 0 0 4 = 0 := by rw [su_nk (by decide), su_nk (by decide), su_nk (by decide)]; exact y4
        have q1 : su (su (su σ_137 29 0 0 1) 29 0 3 300) 24 0 0 300 0 0 1 = 300 := by rw [su_nk (by decide), su_nk (by decide), su_nk (by decide)]; exact y1
        refine J_aload_1 C dL_holds_159 ?_
        refine J_XVI C (c_X3_addWell hfl hI _ (by rw [q4]; decide)) (cwV 0 C.1.2.2.2.2 gL_holds_X3_addWell rfl rfl rfl (by decide +kernel) ⟨Nat.le_of_ble_eq_true rfl, Nat.le_of_ble_eq_true rfl⟩) rc3 (by decide) rfl rfl (Nat.le_of_ble_eq_true rfl) dL_holds_160 ⟨by dsimp only; omega, by dsimp only; omega⟩ (fun E σ_160 hx => ?_) (fun z_160 σ_160 hp => ?_)
        · skip
          obtain ⟨_, _, hx⟩ := hx
          exact absurd (by rw [q4]; decide) hx
        obtain ⟨hz_, ha_, _⟩ := hp
        rw [q4] at hz_
        subst hz_
        have hiv : Inv σ_160 := inv_start hS h22 hr1 hs1 (by rw [ha_, q4, q1]; rfl)
        refine J_if_ne (tgt := 170) C (by omega) dL_holds_163 (by decide) (fun c_163 => ?_) (fun c_163 => ?_)
        · exact absurd rfl c_163
        · refine J_iconst C dL_holds_166 ?_
          refine J_goto (tgt := 171) C dL_holds_167 (by decide) ?_
          refine J_istore12 C (by decide) rfl dL_holds_171 ?_
          have K_176 : ∀ (m_ : Nat) (i : Int) (j : Nat) (σ5 : Sg), (i = (j : Int)) → (i ≤ 70) → (70 - i < m_) → (Inv σ5) → JW p l e ({ frames := 11, cells := 110000, slots := 700000, locals := 227 } : Room) s m #[Value.ref b] below meth c cy D ad (fun q => s.heap.size ≤ q) 14 (135 + 1481 * j) (876 + 8513 * j) (MQ below (QH s.heap.size) #[Value.ref b] s 110000 700000 (fun q => s.heap.size ≤ q)) σ5 176 [some (.ref b), some (.ref (ad 0 0)), some (.ref (ad 22 0)), some (.ref (ad 23 0)), some (.ref (ad 24 0)), some (.ref (ad 25 0)), some (.ref (ad 26 0)), some (.ref (ad 27 0)), some (.ref (ad 28 0)), some (.ref (ad 29 0)), some (.ref (ad 30 0)), none, some (.int (iI 1)), some (.int (iI i))] [] := by
            intro m_
            induction m_ with
            | zero => intro i j σ5 u0 u1 u2 u3; omega
            | succ m_ ih_176 =>
              intro i j σ5 u0 u1 u2 u3
              subst u0
              refine J_iload13 C dL_holds_176 ?_
              refine J_bipush C (by decide) dL_holds_178 ?_
              refine J_icmp_ge (tgt := 291) C (by omega) (by omega) dL_holds_180 (by decide) (fun c_180 => ?_) (fun c_180 => ?_)
              · refine J_iload12 C dL_holds_291 ?_
                refine J_if_eq (tgt := 321) C (by omega) dL_holds_293 (by decide) (fun c_293 => ?_) (fun c_293 => ?_)
                · exact absurd c_293 (by decide)
                · refine J_aload_1 C dL_holds_296 ?_
                  refine J_aload_2 C dL_holds_297 ?_
                  refine J_aload_3 C dL_holds_298 ?_
                  refine J_aload4 C dL_holds_299 ?_
                  refine J_aload5 C dL_holds_301 ?_
                  refine J_aload6 C dL_holds_303 ?_
                  refine J_aload7 C dL_holds_305 ?_
                  refine J_aload8 C dL_holds_307 ?_
                  refine J_aload9 C dL_holds_309 ?_
                  refine J_KSI C (c_L_isTold hfl hI _ x22 x23 x24 x25 x26 x27 x28 x29 f31 f32 f33 f34 f35 f36 f37 f38 u3) (va_cwS 9 C.1.2.2.2.2 gL_holds_L_isTold rfl rfl rfl (by decide +kernel) ⟨Nat.le_of_ble_eq_true rfl, Nat.le_of_ble_eq_true rfl⟩) rfl rfl (Nat.le_of_ble_eq_true rfl) dL_holds_311 ⟨by dsimp only; omega, by dsimp only; omega⟩ (fun z_311 σ_311 hp => ?_)
                  obtain ⟨hz_, hq_⟩ := hp
                  subst hz_
                  refine J_if_eq (tgt := 321) C (by omega) dL_holds_314 (by decide) (fun c_314 => ?_) (fun c_314 => ?_)
                  · exact absurd c_314 (by decide)
                  · refine J_iconst C dL_holds_317 ?_
                    refine J_goto (tgt := 322) C dL_holds_318 (by decide) ?_
                    exact H_ret C hr (by omega) (by omega) dL_holds_322
              · refine J_iload12 C dL_holds_183 ?_
                refine J_if_eq (tgt := 291) C (by omega) dL_holds_185 (by decide) (fun c_185 => ?_) (fun c_185 => ?_)
                · exact absurd c_185 (by decide)
                · refine J_aload_1 C dL_holds_188 ?_
                  refine J_aload_2 C dL_holds_189 ?_
                  refine J_aload_3 C dL_holds_190 ?_
                  refine J_aload4 C dL_holds_191 ?_
                  refine J_aload5 C dL_holds_193 ?_
                  refine J_aload6 C dL_holds_195 ?_
                  refine J_aload7 C dL_holds_197 ?_
                  refine J_aload8 C dL_holds_199 ?_
                  refine J_aload9 C dL_holds_201 ?_
                  refine J_aload10 C dL_holds_203 ?_
                  refine J_aload_0 C dL_holds_205 ?_
                  refine J_bipush C (by decide) dL_holds_206 ?_
                  refine J_iconst C dL_holds_208 ?_
                  refine J_iload13 C dL_holds_209 ?_
                  refine J_imul C dL_holds_211 ?_
                  refine J_iadd C dL_holds_212 ?_
                  refine J_iload13 C dL_holds_213 ?_
                  refine J_bipush C (by decide) dL_holds_215 ?_
                  refine J_icmp_ge (tgt := 225) C (by omega) (by omega) dL_holds_217 (by decide) (fun c_217 => ?_) (fun c_217 => ?_)
                  · refine J_bipush C (by decide) dL_holds_225 ?_
                    refine J_from C (c_L_from hfl C.2.1 _ hL _ _ (by omega) (by decide)) (va_cwS 3 C.1.2.2.2.2 gL_holds_L_from rfl rfl rfl (by decide +kernel) ⟨Nat.le_of_ble_eq_true rfl, Nat.le_of_ble_eq_true rfl⟩) (Nat.le_of_ble_eq_true rfl) hX hbl hbA (Nat.le_of_ble_eq_true rfl) dL_holds_227 ⟨by dsimp only; omega, by dsimp only; omega⟩ (fun z_227 za_227 zb_227 => ?_)
                    refine J_aload_0 C dL_holds_230 ?_
                    refine J_bipush C (by decide) dL_holds_231 ?_
                    refine J_iconst C dL_holds_233 ?_
                    refine J_iload13 C dL_holds_234 ?_
                    refine J_imul C dL_holds_236 ?_
                    refine J_iadd C dL_holds_237 ?_
                    refine J_ldc C w_L_holds_c145 dL_holds_238 ?_
                    refine J_from C (c_L_from hfl C.2.1 _ hL _ _ (by omega) (by decide)) (va_cwS 3 C.1.2.2.2.2 gL_holds_L_from rfl rfl rfl (by decide +kernel) ⟨Nat.le_of_ble_eq_true rfl, Nat.le_of_ble_eq_true rfl⟩) (Nat.le_of_ble_eq_true rfl) hX hbl hbA (Nat.le_of_ble_eq_true rfl) dL_holds_240 ⟨by dsimp only; omega, by dsimp only; omega⟩ (fun z_240 za_240 zb_240 => ?_)
                    refine J_KSI C (c_L_acts hfl hI _ _ _ x22 x23 x24 x25 x26 x27 x28 x29 x30 f34 f35 f36 f37 f38 f39 f40 u3 (by omega) (by omega)) (va_cwS 12 C.1.2.2.2.2 gL_holds_L_acts rfl rfl rfl (by decide +kernel) ⟨Nat.le_of_ble_eq_true rfl, Nat.le_of_ble_eq_true rfl⟩) rfl rfl (Nat.le_of_ble_eq_true rfl) dL_holds_243 ⟨by dsimp only; omega, by dsimp only; omega⟩ (fun z_243 σ_243 hp => ?_)
                    obtain ⟨hz_, hi_⟩ := hp
                    subst hz_
                    refine J_if_eq (tgt := 282) C (by omega) dL_holds_246 (by decide) (fun c_246 => ?_) (fun c_246 => ?_)
                    · exact absurd c_246 (by decide)
                    · refine J_iload13 C dL_holds_249 ?_
                      refine J_iconst C dL_holds_251 ?_
                      refine J_irem C (by omega) (by decide) dL_holds_252 ?_
                      refine J_iconst C dL_holds_253 ?_
                      refine J_icmp_lt (tgt := 278) C (by omega) (by omega) dL_holds_254 (by decide) (fun c_254 => ?_) (fun c_254 => ?_)
                      · refine J_iconst C dL_holds_278 ?_
                        refine J_goto (tgt := 283) C dL_holds_279 (by decide) ?_
                        refine J_istore12 C (by decide) rfl dL_holds_283 ?_
                        refine J_iinc13 C (by decide) rfl dL_holds_285 ?_
                        refine J_goto (tgt := 176) C dL_holds_288 (by decide) ?_
                        -- to the cut at 176
                        refine J_widen (k := 135 + 1481 * (j + 1)) (n := 876 + 8513 * (j + 1)) (by omega) (by omega) ?_
                        refine ih_176 _ (j + 1) _ ?_ ?_ ?_ ?_
                        · omega
                        · omega
                        · omega
                        · first
                            | exact hi_.congr hq_
                            | exact hi_
                      · skip
                        refine J_aload_1 C dL_holds_257 ?_
                        refine J_aload_2 C dL_holds_258 ?_
                        refine J_aload_3 C dL_holds_259 ?_
                        refine J_aload4 C dL_holds_260 ?_
                        refine J_aload5 C dL_holds_262 ?_
                        refine J_aload6 C dL_holds_264 ?_
                        refine J_aload7 C dL_holds_266 ?_
                        refine J_aload8 C dL_holds_268 ?_
                        refine J_aload9 C dL_holds_270 ?_
                        refine J_KSI C (c_L_isTold hfl hI _ x22 x23 x24 x25 x26 x27 x28 x29 f31 f32 f33 f34 f35 f36 f37 f38 hi_) (va_cwS 9 C.1.2.2.2.2 gL_holds_L_isTold rfl rfl rfl (by decide +kernel) ⟨Nat.le_of_ble_eq_true rfl, Nat.le_of_ble_eq_true rfl⟩) rfl rfl (Nat.le_of_ble_eq_true rfl) dL_holds_272 ⟨by dsimp only; omega, by dsimp only; omega⟩ (fun z_272 σ_272 hp => ?_)
                        obtain ⟨hz_, hq_⟩ := hp
                        subst hz_
                        refine J_if_eq (tgt := 282) C (by omega) dL_holds_275 (by decide) (fun c_275 => ?_) (fun c_275 => ?_)
                        · exact absurd c_275 (by decide)
                        · refine J_iconst C dL_holds_278 ?_
                          refine J_goto (tgt := 283) C dL_holds_279 (by decide) ?_
                          refine J_istore12 C (by decide) rfl dL_holds_283 ?_
                          refine J_iinc13 C (by decide) rfl dL_holds_285 ?_
                          refine J_goto (tgt := 176) C dL_holds_288 (by decide) ?_
                          -- to the cut at 176
                          refine J_widen (k := 135 + 1481 * (j + 1)) (n := 876 + 8513 * (j + 1)) (by omega) (by omega) ?_
                          refine ih_176 _ (j + 1) _ ?_ ?_ ?_ ?_
                          · omega
                          · omega
                          · omega
                          · first
                              | exact hi_.congr hq_
                              | exact hi_
                  · refine J_bipush C (by decide) dL_holds_220 ?_
                    refine J_goto (tgt := 227) C dL_holds_222 (by decide) ?_
                    refine J_from C (c_L_from hfl C.2.1 _ hL _ _ (by omega) (by decide)) (va_cwS 3 C.1.2.2.2.2 gL_holds_L_from rfl rfl rfl (by decide +kernel) ⟨Nat.le_of_ble_eq_true rfl, Nat.le_of_ble_eq_true rfl⟩) (Nat.le_of_ble_eq_true rfl) hX hbl hbA (Nat.le_of_ble_eq_true rfl) dL_holds_227 ⟨by dsimp only; omega, by dsimp only; omega⟩ (fun z_227 za_227 zb_227 => ?_)
                    refine J_aload_0 C dL_holds_230 ?_
                    refine J_bipush C (by decide) dL_holds_231 ?_
                    refine J_iconst C dL_holds_233 ?_
                    refine J_iload13 C dL_holds_234 ?_
                    refine J_imul C dL_holds_236 ?_
                    refine J_iadd C dL_holds_237 ?_
                    refine J_ldc C w_L_holds_c145 dL_holds_238 ?_
                    refine J_from C (c_L_from hfl C.2.1 _ hL _ _ (by omega) (by decide)) (va_cwS 3 C.1.2.2.2.2 gL_holds_L_from rfl rfl rfl (by decide +kernel) ⟨Nat.le_of_ble_eq_true rfl, Nat.le_of_ble_eq_true rfl⟩) (Nat.le_of_ble_eq_true rfl) hX hbl hbA (Nat.le_of_ble_eq_true rfl) dL_holds_240 ⟨by dsimp only; omega, by dsimp only; omega⟩ (fun z_240 za_240 zb_240 => ?_)
                    refine J_KSI C (c_L_acts hfl hI _ _ _ x22 x23 x24 x25 x26 x27 x28 x29 x30 f34 f35 f36 f37 f38 f39 f40 u3 (by omega) (by omega)) (va_cwS 12 C.1.2.2.2.2 gL_holds_L_acts rfl rfl rfl (by decide +kernel) ⟨Nat.le_of_ble_eq_true rfl, Nat.le_of_ble_eq_true rfl⟩) rfl rfl (Nat.le_of_ble_eq_true rfl) dL_holds_243 ⟨by dsimp only; omega, by dsimp only; omega⟩ (fun z_243 σ_243 hp => ?_)
                    obtain ⟨hz_, hi_⟩ := hp
                    subst hz_
                    refine J_if_eq (tgt := 282) C (by omega) dL_holds_246 (by decide) (fun c_246 => ?_) (fun c_246 => ?_)
                    · exact absurd c_246 (by decide)
                    · refine J_iload13 C dL_holds_249 ?_
                      refine J_iconst C dL_holds_251 ?_
                      refine J_irem C (by omega) (by decide) dL_holds_252 ?_
                      refine J_iconst C dL_holds_253 ?_
                      refine J_icmp_lt (tgt := 278) C (by omega) (by omega) dL_holds_254 (by decide) (fun c_254 => ?_) (fun c_254 => ?_)
                      · refine J_iconst C dL_holds_278 ?_
                        refine J_goto (tgt := 283) C dL_holds_279 (by decide) ?_
                        refine J_istore12 C (by decide) rfl dL_holds_283 ?_
                        refine J_iinc13 C (by decide) rfl dL_holds_285 ?_
                        refine J_goto (tgt := 176) C dL_holds_288 (by decide) ?_
                        -- to the cut at 176
                        refine J_widen (k := 135 + 1481 * (j + 1)) (n := 876 + 8513 * (j + 1)) (by omega) (by omega) ?_
                        refine ih_176 _ (j + 1) _ ?_ ?_ ?_ ?_
                        · omega
                        · omega
                        · omega
                        · first
                            | exact hi_.congr hq_
                            | exact hi_
                      · skip
                        refine J_aload_1 C dL_holds_257 ?_
                        refine J_aload_2 C dL_holds_258 ?_
                        refine J_aload_3 C dL_holds_259 ?_
                        refine J_aload4 C dL_holds_260 ?_
                        refine J_aload5 C dL_holds_262 ?_
                        refine J_aload6 C dL_holds_264 ?_
                        refine J_aload7 C dL_holds_266 ?_
                        refine J_aload8 C dL_holds_268 ?_
                        refine J_aload9 C dL_holds_270 ?_
                        refine J_KSI C (c_L_isTold hfl hI _ x22 x23 x24 x25 x26 x27 x28 x29 f31 f32 f33 f34 f35 f36 f37 f38 hi_) (va_cwS 9 C.1.2.2.2.2 gL_holds_L_isTold rfl rfl rfl (by decide +kernel) ⟨Nat.le_of_ble_eq_true rfl, Nat.le_of_ble_eq_true rfl⟩) rfl rfl (Nat.le_of_ble_eq_true rfl) dL_holds_272 ⟨by dsimp only; omega, by dsimp only; omega⟩ (fun z_272 σ_272 hp => ?_)
                        obtain ⟨hz_, hq_⟩ := hp
                        subst hz_
                        refine J_if_eq (tgt := 282) C (by omega) dL_holds_275 (by decide) (fun c_275 => ?_) (fun c_275 => ?_)
                        · exact absurd c_275 (by decide)
                        · refine J_iconst C dL_holds_278 ?_
                          refine J_goto (tgt := 283) C dL_holds_279 (by decide) ?_
                          refine J_istore12 C (by decide) rfl dL_holds_283 ?_
                          refine J_iinc13 C (by decide) rfl dL_holds_285 ?_
                          refine J_goto (tgt := 176) C dL_holds_288 (by decide) ?_
                          -- to the cut at 176
                          refine J_widen (k := 135 + 1481 * (j + 1)) (n := 876 + 8513 * (j + 1)) (by omega) (by omega) ?_
                          refine ih_176 _ (j + 1) _ ?_ ?_ ?_ ?_
                          · omega
                          · omega
                          · omega
                          · first
                              | exact hi_.congr hq_
                              | exact hi_
          refine J_iconst C dL_holds_173 ?_
          refine J_istore13 C (by decide) rfl dL_holds_174 ?_
          -- to the cut at 176
          refine J_widen (k := 135 + 1481 * 0) (n := 876 + 8513 * 0) (by omega) (by omega) ?_
          refine J_fg11 ?_
          refine K_176 71 _ 0 _ ?_ ?_ ?_ ?_
          · rfl
          · decide
          · decide
          · exact hiv
      · refine J_aload_2 C dL_holds_69 ?_
        refine J_iload12 C dL_holds_70 ?_
        refine J_aload_0 C dL_holds_72 ?_
        refine J_iload12 C dL_holds_73 ?_
        refine J_iconst C dL_holds_75 ?_
        refine J_from C (c_L_from hfl C.2.1 _ hL _ _ (by omega) (by decide)) (va_cwS 3 C.1.2.2.2.2 gL_holds_L_from rfl rfl rfl (by decide +kernel) ⟨Nat.le_of_ble_eq_true rfl, Nat.le_of_ble_eq_true rfl⟩) (Nat.le_of_ble_eq_true rfl) hX hbl hbA (Nat.le_of_ble_eq_true rfl) dL_holds_76 ⟨by dsimp only; omega, by dsimp only; omega⟩ (fun z_76 za_76 zb_76 => ?_)
        refine J_if_ne (tgt := 86) C (by omega) dL_holds_79 (by decide) (fun c_79 => ?_) (fun c_79 => ?_)
        · refine J_aload_0 C dL_holds_86 ?_
          refine J_iconst C dL_holds_87 ?_
          refine J_iload12 C dL_holds_88 ?_
          refine J_iadd C dL_holds_90 ?_
          refine J_iload11 C dL_holds_91 ?_
          refine J_iconst C dL_holds_93 ?_
          refine J_idiv C (by omega) (by decide) dL_holds_94 ?_
          refine J_iconst C dL_holds_95 ?_
          refine J_iadd C dL_holds_96 ?_
          refine J_from C (c_L_from hfl C.2.1 _ hL _ _ (by omega) (by omega)) (va_cwS 3 C.1.2.2.2.2 gL_holds_L_from rfl rfl rfl (by decide +kernel) ⟨Nat.le_of_ble_eq_true rfl, Nat.le_of_ble_eq_true rfl⟩) (Nat.le_of_ble_eq_true rfl) hX hbl hbA (Nat.le_of_ble_eq_true rfl) dL_holds_97 ⟨by dsimp only; omega, by dsimp only; omega⟩ (fun z_97 za_97 zb_97 => ?_)
          refine J_iastore C (k22 x22) (by decide) (by omega) dL_holds_100 ?_
          refine J_iload11 C dL_holds_101 ?_
          refine J_aload_2 C dL_holds_103 ?_
          refine J_iload12 C dL_holds_104 ?_
          refine J_iaload C (k22 x22) (by decide) (by omega) dL_holds_106 ?_
          refine J_isub C dL_holds_107 ?_
          refine J_istore11 C (by decide) rfl dL_holds_108 ?_
          refine J_iinc12 C (by decide) rfl dL_holds_110 ?_
          refine J_goto (tgt := 63) C dL_holds_113 (by decide) ?_
          -- to the cut at 63
          refine ih_63 _ _ _ ?_ ?_ ?_ ?_ ?_ ?_ ?_
          · omega
          · omega
          · omega
          · rw [su_at]; omega
          · intro a b c x
            rw [su_nk x]
            exact g4 a b c x
          · intro q a b
            rw [su_rw0]
            split
            · omega
            · exact g5 q a (by omega)
          · refine ⟨j + 1, by omega, ?_⟩
            simp only [sN]
            rw [su_at, sN_congr (g := σ1 22 0) j (fun x a b => by rw [su_ne (Or.inr (by omega))])]
            omega
        · refine J_iconst C dL_holds_82 ?_
          refine J_goto (tgt := 100) C dL_holds_83 (by decide) ?_
          refine J_iastore C (k22 x22) (by decide) (by omega) dL_holds_100 ?_
          refine J_iload11 C dL_holds_101 ?_
          refine J_aload_2 C dL_holds_103 ?_
          refine J_iload12 C dL_holds_104 ?_
          refine J_iaload C (k22 x22) (by decide) (by omega) dL_holds_106 ?_
          refine J_isub C dL_holds_107 ?_
          refine J_istore11 C (by decide) rfl dL_holds_108 ?_
          refine J_iinc12 C (by decide) rfl dL_holds_110 ?_
          refine J_goto (tgt := 63) C dL_holds_113 (by decide) ?_
          -- to the cut at 63
          refine ih_63 _ _ _ ?_ ?_ ?_ ?_ ?_ ?_ ?_
          · omega
          · omega
          · omega
          · rw [su_at]; omega
          · intro a b c x
            rw [su_nk x]
            exact g4 a b c x
          · intro q a b
            rw [su_rw0]
            split
            · omega
            · exact g5 q a (by omega)
          · refine ⟨j + 1, by omega, ?_⟩
            simp only [sN]
            rw [su_at, sN_congr (g := σ1 22 0) j (fun x a b => by rw [su_ne (Or.inr (by omega))])]
            omega
  refine J_sipush C (by decide) dL_holds_55 ?_
  refine J_istore11 C (by decide) rfl dL_holds_58 ?_
  refine J_iconst C dL_holds_60 ?_
  refine J_istore12 C (by decide) rfl dL_holds_61 ?_
  -- to the cut at 63
  refine K_63 5 _ _ _ ?_ ?_ ?_ ?_ ?_ ?_ ?_
  · decide
  · decide
  · decide
  · decide
  · intro a b c x
    rfl
  · intro q a b
    omega
  · exact ⟨0, rfl, rfl⟩
set_option maxRecDepth 20000 in
theorem w_holds_cl : Cond.classLink RL 30 RX3 ∈ wsL_holds := by decide +kernel
set_option maxRecDepth 20000 in
theorem w_holds_insX3 : Cond.instantiable RX3 15 ∈ wsL_holds := by decide +kernel
set_option maxRecDepth 20000 in
theorem w_holds_nX3 : Cond.initialized RX3 ∈ wsL_holds := by decide +kernel
set_option maxRecDepth 20000 in
theorem w_holds_ml : Cond.methodLink RL 136 yX3_init ∈ wsL_holds := by decide +kernel
set_option maxRecDepth 20000 in
theorem w_holds_imX3 : Cond.instanceMethod yX3_init ∈ wsL_holds := by decide +kernel
set_option maxRecDepth 20000 in
theorem w_holds_aci : Cond.arrayClass .int ∈ wsL_holds := by decide +kernel
set_option maxRecDepth 20000 in
theorem in_holds_X3 : ∀ w ∈ wsX30, w ∈ wsL_holds := by decide +kernel
def adH (a3 : Ad) (q22 q23 q24 q25 q26 q27 q28 q29 q30 : Nat) : Ad := fun kd k => if kd < 22 then a3 kd k else if kd = 22 then q22 else if kd = 23 then q23 else if kd = 24 then q24 else if kd = 25 then q25 else if kd = 26 then q26 else if kd = 27 then q27 else if kd = 28 then q28 else if kd = 29 then q29 else if kd = 30 then q30 else if kd = 1000 then (if 22 ≤ k ∧ k ≤ 30 then 1 else 0) else 0
theorem wI_3 {cy : Nat → ClassId} {a3 : Ad} {q22 q23 q24 q25 q26 q27 q28 q29 q30 : Nat} {σ : Sg} {kd : Nat} {k : Int} (h : kd < 22) : wI cy (adH a3 q22 q23 q24 q25 q26 q27 q28 q29 q30) σ kd k = wI cy a3 σ kd k := by
  obtain rfl | rfl | rfl | rfl | rfl | rfl | rfl | rfl | rfl | rfl | rfl | rfl | rfl | rfl | rfl | rfl | rfl | rfl | rfl | rfl | rfl | rfl : kd = 0 ∨ kd = 1 ∨ kd = 2 ∨ kd = 3 ∨ kd = 4 ∨ kd = 5 ∨ kd = 6 ∨ kd = 7 ∨ kd = 8 ∨ kd = 9 ∨ kd = 10 ∨ kd = 11 ∨ kd = 12 ∨ kd = 13 ∨ kd = 14 ∨ kd = 15 ∨ kd = 16 ∨ kd = 17 ∨ kd = 18 ∨ kd = 19 ∨ kd = 20 ∨ kd = 21 := by omega
  all_goals rfl
theorem adH_x {a3 : Ad} {q22 q23 q24 q25 q26 q27 q28 q29 q30 : Nat} {k : Int} : adH a3 q22 q23 q24 q25 q26 q27 q28 q29 q30 1000 k = 1 ↔ 22 ≤ k ∧ k ≤ 30 := by
  show (if 22 ≤ k ∧ k ≤ 30 then 1 else 0) = 1 ↔ _
  split
  · rename_i h; exact ⟨fun _ => h, fun _ => rfl⟩
  · rename_i h; exact ⟨fun z => absurd z (by decide), fun z => absurd z h⟩
set_option maxHeartbeats 4000000 in
set_option maxRecDepth 100000 in
theorem h_made {p : Program} {l : Launch} {e : Env} {s : State} {m : MethodId} {below : List Frame} {meth : Method} {c : Code} {cy : Nat → ClassId} {D : va_G} {b L : Nat} {xs : Nat → Int32} (C : Gx p l e ({ frames := 11, cells := 110000, slots := 700000, locals := 227 } : Room) s m #[Value.ref b] below meth c cy D (fun q => s.heap.size ≤ q) 14 cL_holds RL wsL_holds) (hfl : l.stackTraces = false) (hX : va_X b L xs s s.heap) (hbl : b < s.heap.size) (hL : L ≤ 260) (hr : meth.sig.returnType = some .boolean) (hSx : ∀ ad : Ad, (∀ q, Aw ad q → s.heap.size ≤ q) → Sx cy D ad s s.heap) : GW p l e ({ frames := 11, cells := 110000, slots := 700000, locals := 227 } : Room) s m #[Value.ref b] below meth c cy D (fun q => s.heap.size ≤ q) 14 0 0 (MQ below (QH s.heap.size) #[Value.ref b] s 110000 700000 (fun q => s.heap.size ≤ q)) (fun _ => none) 0 [some (.ref b), none, none, none, none, none, none, none, none, none, none, none, none, none] [] := by
  refine G_new (ci := 3) (fs := [.null, .int (iI 0), .int (iI 0), .null, .int (iI 0), .null, .null, .int (iI 0), .null, .int (iI 0), .null, .null, .null, .null, .null]) C 0 0 in_holds_X3 tyX3 tyX3_ok w_holds_cl w_holds_insX3 w_holds_nX3 rfl (by decide) ⟨Nat.le_of_ble_eq_true rfl, Nat.le_of_ble_eq_true rfl⟩ dL_holds_0 (fun q1 E1 hf1 hn1 hk1 => ?_)
  refine G_dup C rfl dL_holds_3 ?_
  refine G_KI C (k_X3_init q1) (cwI 0 C.1.2.2.2.2 gL_holds_X3_init rfl rfl rfl (C.1.2.2.2.2 _ w_holds_nX3) (C.1.2.2.2.2 _ w_holds_ml) (C.1.2.2.2.2 _ w_holds_imX3) rfl (by decide +kernel) ⟨Nat.le_of_ble_eq_true rfl, Nat.le_of_ble_eq_true rfl⟩) hn1 rfl (Nat.le_of_ble_eq_true rfl) dL_holds_4 ⟨Nat.le_of_ble_eq_true rfl, Nat.le_of_ble_eq_true rfl⟩ (fun E2' hp2 E2 hm2 hk2 => ?_)
  obtain ⟨a3, ha3, f3⟩ := hp2
  have f3 : ∀ (kd : Nat) (k : Int), kd < 22 → 0 ≤ k → k < cnt kd → E2 (a3 kd k) = some (kd, k, wI cy a3 σ0 kd k) := fun kd k x y z => hm2 _ _ (f3 kd k x y z)
  refine G_astore_1 C (by decide) rfl dL_holds_7 ?_
  refine G_iconst C dL_holds_8 ?_
  refine G_newa_int (N := 5) C 22 0 w_holds_aci ⟨by decide, by decide⟩ (by decide) ⟨Nat.le_of_ble_eq_true rfl, Nat.le_of_ble_eq_true rfl⟩ dL_holds_9 (fun q22 E22 hf22 hn22 hk22 => ?_)
  have f3 : ∀ (kd : Nat) (k : Int), kd < 22 → 0 ≤ k → k < cnt kd → E22 (a3 kd k) = some (kd, k, wI cy a3 σ0 kd k) := fun kd k x y z => hk22 _ _ (f3 kd k x y z)
  refine G_astore_2 C (by decide) rfl dL_holds_11 ?_
  refine G_bipush C (by decide) dL_holds_12 ?_
  refine G_newa_int (N := 15) C 23 0 w_holds_aci ⟨by decide, by decide⟩ (by decide) ⟨Nat.le_of_ble_eq_true rfl, Nat.le_of_ble_eq_true rfl⟩ dL_holds_14 (fun q23 E23 hf23 hn23 hk23 => ?_)
  have f3 : ∀ (kd : Nat) (k : Int), kd < 22 → 0 ≤ k → k < cnt kd → E23 (a3 kd k) = some (kd, k, wI cy a3 σ0 kd k) := fun kd k x y z => hk23 _ _ (f3 kd k x y z)
  replace hn22 := hk23 _ _ hn22
  refine G_astore_3 C (by decide) rfl dL_holds_16 ?_
  refine G_iconst C dL_holds_17 ?_
  refine G_newa_int (N := 3) C 24 0 w_holds_aci ⟨by decide, by decide⟩ (by decide) ⟨Nat.le_of_ble_eq_true rfl, Nat.le_of_ble_eq_true rfl⟩ dL_holds_18 (fun q24 E24 hf24 hn24 hk24 => ?_)
  have f3 : ∀ (kd : Nat) (k : Int), kd < 22 → 0 ≤ k → k < cnt kd → E24 (a3 kd k) = some (kd, k, wI cy a3 σ0 kd k) := fun kd k x y z => hk24 _ _ (f3 kd k x y z)
  replace hn22 := hk24 _ _ hn22
  replace hn23 := hk24 _ _ hn23
  refine G_astore4 C (by decide) rfl dL_holds_20 ?_
  refine G_bipush C (by decide) dL_holds_22 ?_
  refine G_newa_int (N := 48) C 25 0 w_holds_aci ⟨by decide, by decide⟩ (by decide) ⟨Nat.le_of_ble_eq_true rfl, Nat.le_of_ble_eq_true rfl⟩ dL_holds_24 (fun q25 E25 hf25 hn25 hk25 => ?_)
  have f3 : ∀ (kd : Nat) (k : Int), kd < 22 → 0 ≤ k → k < cnt kd → E25 (a3 kd k) = some (kd, k, wI cy a3 σ0 kd k) := fun kd k x y z => hk25 _ _ (f3 kd k x y z)
  replace hn22 := hk25 _ _ hn22
  replace hn23 := hk25 _ _ hn23
  replace hn24 := hk25 _ _ hn24
  refine G_astore5 C (by decide) rfl dL_holds_26 ?_
  refine G_bipush C (by decide) dL_holds_28 ?_
  refine G_newa_int (N := 30) C 26 0 w_holds_aci ⟨by decide, by decide⟩ (by decide) ⟨Nat.le_of_ble_eq_true rfl, Nat.le_of_ble_eq_true rfl⟩ dL_holds_30 (fun q26 E26 hf26 hn26 hk26 => ?_)
  have f3 : ∀ (kd : Nat) (k : Int), kd < 22 → 0 ≤ k → k < cnt kd → E26 (a3 kd k) = some (kd, k, wI cy a3 σ0 kd k) := fun kd k x y z => hk26 _ _ (f3 kd k x y z)
  replace hn22 := hk26 _ _ hn22
  replace hn23 := hk26 _ _ hn23
  replace hn24 := hk26 _ _ hn24
  replace hn25 := hk26 _ _ hn25
  refine G_astore6 C (by decide) rfl dL_holds_32 ?_
  refine G_bipush C (by decide) dL_holds_34 ?_
  refine G_newa_int (N := 30) C 27 0 w_holds_aci ⟨by decide, by decide⟩ (by decide) ⟨Nat.le_of_ble_eq_true rfl, Nat.le_of_ble_eq_true rfl⟩ dL_holds_36 (fun q27 E27 hf27 hn27 hk27 => ?_)
  have f3 : ∀ (kd : Nat) (k : Int), kd < 22 → 0 ≤ k → k < cnt kd → E27 (a3 kd k) = some (kd, k, wI cy a3 σ0 kd k) := fun kd k x y z => hk27 _ _ (f3 kd k x y z)
  replace hn22 := hk27 _ _ hn22
  replace hn23 := hk27 _ _ hn23
  replace hn24 := hk27 _ _ hn24
  replace hn25 := hk27 _ _ hn25
  replace hn26 := hk27 _ _ hn26
  refine G_astore7 C (by decide) rfl dL_holds_38 ?_
  refine G_iconst C dL_holds_40 ?_
  refine G_newa_int (N := 5) C 28 0 w_holds_aci ⟨by decide, by decide⟩ (by decide) ⟨Nat.le_of_ble_eq_true rfl, Nat.le_of_ble_eq_true rfl⟩ dL_holds_41 (fun q28 E28 hf28 hn28 hk28 => ?_)
  have f3 : ∀ (kd : Nat) (k : Int), kd < 22 → 0 ≤ k → k < cnt kd → E28 (a3 kd k) = some (kd, k, wI cy a3 σ0 kd k) := fun kd k x y z => hk28 _ _ (f3 kd k x y z)
  replace hn22 := hk28 _ _ hn22
  replace hn23 := hk28 _ _ hn23
  replace hn24 := hk28 _ _ hn24
  replace hn25 := hk28 _ _ hn25
  replace hn26 := hk28 _ _ hn26
  replace hn27 := hk28 _ _ hn27
  refine G_astore8 C (by decide) rfl dL_holds_43 ?_
  refine G_iconst C dL_holds_45 ?_
  refine G_newa_int (N := 5) C 29 0 w_holds_aci ⟨by decide, by decide⟩ (by decide) ⟨Nat.le_of_ble_eq_true rfl, Nat.le_of_ble_eq_true rfl⟩ dL_holds_46 (fun q29 E29 hf29 hn29 hk29 => ?_)
  have f3 : ∀ (kd : Nat) (k : Int), kd < 22 → 0 ≤ k → k < cnt kd → E29 (a3 kd k) = some (kd, k, wI cy a3 σ0 kd k) := fun kd k x y z => hk29 _ _ (f3 kd k x y z)
  replace hn22 := hk29 _ _ hn22
  replace hn23 := hk29 _ _ hn23
  replace hn24 := hk29 _ _ hn24
  replace hn25 := hk29 _ _ hn25
  replace hn26 := hk29 _ _ hn26
  replace hn27 := hk29 _ _ hn27
  replace hn28 := hk29 _ _ hn28
  refine G_astore9 C (by decide) rfl dL_holds_48 ?_
  refine G_iconst C dL_holds_50 ?_
  refine G_newa_int (N := 3) C 30 0 w_holds_aci ⟨by decide, by decide⟩ (by decide) ⟨Nat.le_of_ble_eq_true rfl, Nat.le_of_ble_eq_true rfl⟩ dL_holds_51 (fun q30 E30 hf30 hn30 hk30 => ?_)
  have f3 : ∀ (kd : Nat) (k : Int), kd < 22 → 0 ≤ k → k < cnt kd → E30 (a3 kd k) = some (kd, k, wI cy a3 σ0 kd k) := fun kd k x y z => hk30 _ _ (f3 kd k x y z)
  replace hn22 := hk30 _ _ hn22
  replace hn23 := hk30 _ _ hn23
  replace hn24 := hk30 _ _ hn24
  replace hn25 := hk30 _ _ hn25
  replace hn26 := hk30 _ _ hn26
  replace hn27 := hk30 _ _ hn27
  replace hn28 := hk30 _ _ hn28
  replace hn29 := hk30 _ _ hn29
  refine G_astore10 C (by decide) rfl dL_holds_53 ?_
  refine G_wid 123 804 (Nat.le_of_ble_eq_true rfl) (Nat.le_of_ble_eq_true rfl) ?_
  subst ha3
  have fa : ∀ (kd : Nat) (k : Int), 0 ≤ k → k < cnt kd → Ex (adH a3 q22 q23 q24 q25 q26 q27 q28 q29 q30) kd → E30 ((adH a3 q22 q23 q24 q25 q26 q27 q28 q29 q30) kd k) = some (kd, k, wI cy (adH a3 q22 q23 q24 q25 q26 q27 q28 q29 q30) σ0 kd k) := by
    intro kd k h0 h1 hx
    by_cases h22 : kd < 22
    · rw [wI_3 h22]
      have e : (adH a3 q22 q23 q24 q25 q26 q27 q28 q29 q30) kd k = a3 kd k := if_pos h22
      rw [e]
      exact f3 kd k h22 h0 h1
    · have hk := cnt_law (by omega) h0 h1
      subst hk
      have hr9 := adH_x.mp (hx.resolve_left h22)
      obtain rfl | rfl | rfl | rfl | rfl | rfl | rfl | rfl | rfl : kd = 22 ∨ kd = 23 ∨ kd = 24 ∨ kd = 25 ∨ kd = 26 ∨ kd = 27 ∨ kd = 28 ∨ kd = 29 ∨ kd = 30 := by omega
      · exact hn22
      · exact hn23
      · exact hn24
      · exact hn25
      · exact hn26
      · exact hn27
      · exact hn28
      · exact hn29
      · exact hn30
  intro H locs ls h1 h2 h3
  have haw : ∀ q, Aw (adH a3 q22 q23 q24 q25 q26 q27 q28 q29 q30) q → s.heap.size ≤ q := by
    rintro q ⟨kd, k, g0, g1, gx, rfl⟩
    exact (h1 _ _ (fa kd k g0 g1 gx)).2
  have hI : Inj (adH a3 q22 q23 q24 q25 q26 q27 q28 q29 q30) := by
    intro x y i j g0 g1 g2 g3 gx gy ge
    have e := fa x i g0 g1 gx
    rw [ge, fa y j g2 g3 gy] at e
    have e := Option.some.inj e
    exact ⟨(congrArg (fun z => z.1) e).symm, (congrArg (fun z => z.2.1) e).symm⟩
  have CX : Cx p l e ({ frames := 11, cells := 110000, slots := 700000, locals := 227 } : Room) s m #[Value.ref b] below meth c cy D (adH a3 q22 q23 q24 q25 q26 q27 q28 q29 q30) (fun q => s.heap.size ≤ q) 14 cL_holds RL wsL_holds := ⟨C.1, hI, fun q h => h.elim (haw q) (fun h => h), hSx _ haw, C.2.2.2.1, hfl, fun q h => Or.inr h⟩
  have hW : Wd cy D (adH a3 q22 q23 q24 q25 q26 q27 q28 q29 q30) σ0 H := fun kd k g0 g1 gx => wI_at (h1 _ _ (fa kd k g0 g1 gx)).1
  exact h_jw hfl hL CX hX hbl hr (adH_x.mpr (by decide)) (adH_x.mpr (by decide)) (adH_x.mpr (by decide)) (adH_x.mpr (by decide)) (adH_x.mpr (by decide)) (adH_x.mpr (by decide)) (adH_x.mpr (by decide)) (adH_x.mpr (by decide)) (adH_x.mpr (by decide)) (fun z => absurd (adH_x.mp z) (by decide)) (fun z => absurd (adH_x.mp z) (by decide)) (fun z => absurd (adH_x.mp z) (by decide)) (fun z => absurd (adH_x.mp z) (by decide)) (fun z => absurd (adH_x.mp z) (by decide)) (fun z => absurd (adH_x.mp z) (by decide)) (fun z => absurd (adH_x.mp z) (by decide)) (fun z => absurd (adH_x.mp z) (by decide)) (fun z => absurd (adH_x.mp z) (by decide)) (fun z => absurd (adH_x.mp z) (by decide)) H locs ls hW h2 h3
set_option maxHeartbeats 4000000 in
set_option maxRecDepth 100000 in
theorem c_L_holds {l : Launch} (hfl : l.stackTraces = false) {cy : Nat → ClassId} {D : va_G} {b L : Nat} {xs : Nat → Int32} (hL : L ≤ 260) : HK l yL_holds wsL_holds ({ frames := 11, cells := 110000, slots := 700000, locals := 227 } : Room) cy D b L xs 110000 700000 := by
  intro sz
  refine Met.ofW (cc := cL_holds) (maxL := 14) (ret := some .boolean) (by decide) rfl ?_
  intro p e s m args below meth c s₁ B hml hv
  obtain ⟨rfl, hsz, hX, hbl, hK, hO, hSx⟩ := hv
  subst hsz
  have C : Gx p l e ({ frames := 11, cells := 110000, slots := 700000, locals := 227 } : Room) s m ([.ref b] : List Value).toArray below meth c cy D (fun q => s.heap.size ≤ q) 14 cL_holds RL wsL_holds := ⟨⟨B.exec, B.bytes, hml, findClass_of_methodNamed B.named, atoms_spec (ws := wsL_holds) B.pre⟩, fun _ h => h, hK, B.notSynchronized, hO⟩
  have hl := lv_entry ([.ref b] : List Value) (n := 14) (Nat.le_of_ble_eq_true rfl)
  rw [lg_entry_eq]
  generalize (lg_sl ([.ref b] : List Value) ++ List.replicate (14 - (lg_sl ([.ref b] : List Value)).length) Slot.unset).toArray = ls at hl ⊢
  exact h_made C hfl hX hbl hL B.returns hSx s.heap [] ls (fun a t h => by simp at h) va_S.rf ⟨hl.1, hl.2.1, fun i v h => hl.2.2 (i, v) (by rw [← show lhL [some (Value.ref b), none, none, none, none, none, none, none, none, none, none, none, none, none] = lv_args 0 ([.ref b] : List Value) from rfl]; exact lhL_mem.mpr h)⟩
set_option maxHeartbeats 4000000 in
set_option maxRecDepth 100000 in
theorem c_L_isHeld {l : Launch} (hfl : l.stackTraces = false) {cy : Nat → ClassId} {D : va_G} {b L : Nat} {xs : Nat → Int32} (hL : L ≤ 260) : HK l yL_isHeld wsL_isHeld ({ frames := 12, cells := 110000, slots := 700000, locals := 260 } : Room) cy D b L xs 110000 700000 := by
  intro sz
  refine va_MetW (cc := cL_isHeld) (maxL := 2) (ret := some .boolean) (hh := [(0, 4, 5, 158), (0, 4, 8, 160), (0, 4, 11, 83)]) (by decide) rfl ?_
  intro p e s m args below meth c s₁ B hml hv
  obtain ⟨rfl, hsz, hX, hbl, hK, hO, hSx⟩ := hv
  subst hsz
  have C : CallFix p m c cL_isHeld 2 s ([.ref b] : List Value).toArray wsL_isHeld RL := ⟨B.exec, B.bytes, hml, findClass_of_methodNamed B.named, atoms_spec (ws := wsL_isHeld) B.pre⟩
  have hl := lv_entry ([.ref b] : List Value) (n := 2) (Nat.le_of_ble_eq_true rfl)
  rw [lg_entry_eq]
  generalize (lg_sl ([.ref b] : List Value) ++ List.replicate (2 - (lg_sl ([.ref b] : List Value)).length) Slot.unset).toArray = ls at hl ⊢
  refine lv_aload_n C.1 C.2.1 dL_isHeld_0 rfl (hl.2.2 (0, .ref b) List.mem_cons_self) ?_
  refine va_calli (va_runS (As := [.ref b]) (rest := []) C (c_L_holds hfl hL s.heap.size) (va_cwS 1 C.2.2.2.2 gL_isHeld_L_holds rfl rfl rfl (by decide +kernel) ⟨Nat.le_of_ble_eq_true rfl, Nat.le_of_ble_eq_true rfl⟩) ⟨H_forb, fun U hU hW => ⟨rfl, by rw [hU], by rw [hU]; exact hX.moved hW.alike, hbl, va_K.moved hW.alike hK, AO.warm hW hO, fun ad h => by rw [hU]; exact (hSx ad h).warm hW⟩⟩ rfl rfl hl.1 rfl (lv_room (Nat.le_of_ble_eq_true rfl)) dL_isHeld_1 ⟨Nat.le_of_ble_eq_true rfl, Nat.le_of_ble_eq_true rfl⟩) (va_S.rf (A := fun q => s.heap.size ≤ q)) (fun q _ h => h) (fun q h => h) ?_
  rintro r u t H1 locs1 ht hvm hp hB hz1 hk1 hS
  have hp : r = iI 1 := hp
  subst hp
  refine W.widen (k := 110000) (n := 700000) (Nat.le_of_ble_eq_true rfl) (Nat.le_of_ble_eq_true rfl) ?_
  exact W.zret C.1 C.2.1 B.returns rfl (fun t ht hW => ⟨⟨_, (), rfl, rfl, trivial⟩, hS.F ht⟩) hS.2.2 dL_isHeld_4 B.notSynchronized
