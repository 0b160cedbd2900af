theorem fold0 {sh : Int → Int} {pen w : Int} {vw va : Int → Int} {T0 : Nat → Int → Int} {n : Int} (h : ∀ v, 0 ≤ v → v < n → vw v ≠ w) : foldS sh pen vw va w T0 n.toNat = T0 := foldS_none _ (fun v a b => h v a (by omega))
theorem Rel.none {σ : Sg} (r : Rel σ) {w : Int} (h : w < 0 ∨ 6 ≤ w ∨ σ 0 0 4 ≤ w ∨ σ 12 w 1 = 0) : ∀ v, 0 ≤ v → v < σ 0 0 7 → σ 3 0 v ≠ w := fun v a b e => by
  have c := r.hvc
  have x := r.2.2.1 v a (by omega)
  unfold RV at x
  subst e
  omega
theorem Rel.of {P : Nat → Int → Int → Prop} {σ τ : Sg} (r : Rel σ) (h : Eqx P σ τ) (h0 : R0 τ) (hs : RS τ) (hv : ∀ v, 0 ≤ v → v < 60 → RV σ v → RV τ v) (hw : ∀ w, 0 ≤ w → w < 6 → RW σ w → RW τ w) (he : ∀ w q, 0 ≤ w → w < 6 → 0 ≤ q → q < 5 → RE σ w q → RE τ w q) (ha : ∀ w, 0 ≤ w → w < 6 → RA σ w → RA τ w) (hc : ∀ k q, 0 ≤ k → k < 20 → 0 ≤ q → q < 5 → RC σ k q → RC τ k q) (h5 : ∀ k, 0 ≤ k → k < 20 → s5 (σ 20 k) ≤ 10000000 → s5 (τ 20 k) ≤ 10000000) : Rel τ :=
  ⟨h0, hs, fun v a b => hv v a b (r.2.2.1 v a b), fun w a b => hw w a b (r.2.2.2.1 w a b), fun w q a b c d => he w q a b c d (r.2.2.2.2.1 w q a b c d), fun w a b => ha w a b (r.2.2.2.2.2.1 w a b), fun k q a b c d => hc k q a b c d (r.2.2.2.2.2.2.1 k q a b c d), fun k a b => h5 k a b (r.2.2.2.2.2.2.2 k a b)⟩
theorem Lw.of {P : Nat → Int → Int → Prop} {σ τ : Sg} (r : Lw σ) (h : Eqx P σ τ) (l0 : L0 τ) (lm : Lm τ) (lh : ∀ q, 0 ≤ q → q < 5 → σ 22 0 q = σ 1 0 q → τ 22 0 q = τ 1 0 q) (le : ∀ w q, 0 ≤ w → w < 3 → 0 ≤ q → q < 5 → σ 23 0 (5 * w + q) = σ 13 w q → τ 23 0 (5 * w + q) = τ 13 w q) (lp : ∀ w, 0 ≤ w → w < 3 → (w < σ 0 0 4 → σ 24 0 w = σ 12 w 0) → (w < τ 0 0 4 → τ 24 0 w = τ 12 w 0)) (lv : ∀ v, 0 ≤ v → v < 16 → (v < σ 0 0 7 → Lv σ v) → (v < τ 0 0 7 → Lv τ v)) (lc : ∀ k q, 0 ≤ k → k < 6 → 0 ≤ q → q < 5 → (k < σ 0 0 9 → σ 26 0 (5 * k + q) = σ 20 k q ∧ σ 27 0 (5 * k + q) = σ 21 k q) → (k < τ 0 0 9 → τ 26 0 (5 * k + q) = τ 20 k q ∧ τ 27 0 (5 * k + q) = τ 21 k q)) (lo : ∀ q, 0 ≤ q → q < 5 → σ 28 0 q = σ 6 0 q → τ 28 0 q = τ 6 0 q) (lx : ∀ w, 0 ≤ w → w < 3 → σ 30 0 w = σ 12 w 1 → τ 30 0 w = τ 12 w 1) : Lw τ :=
  ⟨l0, lm, fun q a b => lh q a b (r.2.2.1 q a b), fun w q a b c d => le w q a b c d (r.2.2.2.1 w q a b c d), fun w a b => lp w a b (r.2.2.2.2.1 w a b), fun v a b => lv v a b (r.2.2.2.2.2.1 v a b), fun k q a b c d => lc k q a b c d (r.2.2.2.2.2.2.1 k q a b c d), fun q a b => lo q a b (r.2.2.2.2.2.2.2.1 q a b), fun w a b => lx w a b (r.2.2.2.2.2.2.2.2 w a b)⟩
theorem Eqx.at {P : Nat → Int → Int → Prop} {σ τ : Sg} (h : Eqx P σ τ) (a : Nat) (b c : Int) (h1 : (a < 8 ∨ 11 < a) ∧ a < 31) (h2 : ¬ P a b c) : τ a b c = σ a b c := h a b c h1.1 h1.2 h2
theorem T0f_14 {f : Int → Int} {q : Int} (h0 : 0 ≤ q) (h5 : q < 5) : T0f f 14 q = f q := by
  unfold T0f
  rw [if_pos ⟨h0, h5⟩]
  rfl
theorem tin_all {sh : Int → Int} {f : Int → Int} (h : Shk sh) (hf : ∀ q, 0 ≤ q → q < 5 → f q = 0) : Tin sh (T0f f) := by
  refine ⟨fun p x y => Or.inl (by rw [T0f_14 x y]; exact hf p x y), ?_⟩
  rw [s5_congr (g := sh) (fun p x y => by unfold inw; rw [T0f_14 x y, if_pos (hf p x y)]), h.2]
  decide
theorem foldS_iff {sh : Int → Int} {pen w : Int} {vw va vw' : Int → Int} {T0 : Nat → Int → Int} : ∀ n : Nat, (∀ v : Int, 0 ≤ v → v < n → (vw v = w ↔ vw' v = w)) → foldS sh pen vw va w T0 n = foldS sh pen vw' va w T0 n := by
  intro n
  induction n with
  | zero => intro _; rfl
  | succ n ih =>
    intro h
    have e := ih (fun v a b => h v a (by omega))
    have e2 := h n (by omega) (by omega)
    simp only [foldS]
    rw [e]
    by_cases c : vw (n : Int) = w
    · rw [if_pos c, if_pos (e2.mp c)]
    · rw [if_neg c, if_neg (fun z => c (e2.mpr z))]
theorem foldS_at {sh : Int → Int} {pen w : Int} {vw va : Int → Int} {T0 : Nat → Int → Int} {n : Int} (h0 : 0 ≤ n) : foldS sh pen vw va w T0 (n + 1).toNat = if vw n = w then stepS sh pen n (va n) (foldS sh pen vw va w T0 n.toNat) else foldS sh pen vw va w T0 n.toNat := by
  have e1 : (n + 1).toNat = n.toNat + 1 := by omega
  have e2 : ((n.toNat : Nat) : Int) = n := by omega
  rw [e1]
  simp only [foldS]
  rw [e2]
theorem Rel.t_shares {σ τ : Sg} (r : Rel σ) (hz : σ 0 0 4 = 0) (h : Eqx (fun a b c => a = 1 ∨ a = 22) σ τ) (h2 : Shk (shf τ)) : Rel τ := by
  have g := fun (a : Nat) (b c : Int) x => h.at a b c x
  have e0 : τ 0 = σ 0 := by funext b c; exact g 0 b c (by omega) (by omega)
  have e3 : τ 3 = σ 3 := by funext b c; exact g 3 b c (by omega) (by omega)
  have e4 : τ 4 = σ 4 := by funext b c; exact g 4 b c (by omega) (by omega)
  have e6 : τ 6 = σ 6 := by funext b c; exact g 6 b c (by omega) (by omega)
  have e12 : τ 12 = σ 12 := by funext b c; exact g 12 b c (by omega) (by omega)
  have e13 : τ 13 = σ 13 := by funext b c; exact g 13 b c (by omega) (by omega)
  have e20 : τ 20 = σ 20 := by funext b c; exact g 20 b c (by omega) (by omega)
  have e21 : τ 21 = σ 21 := by funext b c; exact g 21 b c (by omega) (by omega)
  have ea : ∀ w, ac τ w = ac σ w := fun w => ac_congr (fun c q h1 h2 _ _ => g c w q (by omega) (by omega))
  have hel0 : ∀ w q, 0 ≤ w → w < 6 → 0 ≤ q → q < 5 → σ 13 w q = 0 := fun w q a b c d => by have := r.2.2.2.2.1 w q a b c d; unfold RE at this; omega
  refine r.of h ?_ ?_ (fun v a b => ?_) (fun w a b => ?_) (fun w q a b c d => ?_) (fun w a b => ?_) (fun k q a b c d => ?_) (fun k a b => ?_)
  · have r0 := r.1; unfold R0 at *; rw [e0]; exact r0
  · exact h2
  · unfold RV; rw [e0, e3, e4, e12]; exact fun z => z
  · unfold RW; rw [e12]; exact fun z => z
  · unfold RE; rw [e13]; have := hel0 w q a b c d; omega
  · unfold RA
    rw [ea w, e12, e3, e4, e13, e0]
    have hno := r.none (w := w) (by omega)
    rw [fold0 hno, fold0 hno]
    exact fun z => ⟨tin_all h2 (fun q c d => hel0 w q a b c d), z.2⟩
  · unfold RC; rw [e0, e20, e21]; exact fun z => z
  · rw [e20]; exact fun z => z
theorem Rel.t_pen {σ τ : Sg} (r : Rel σ)  (h : Eqx (fun a b c => (a = 0 ∧ c = 1) ∨ (a = 29 ∧ c = 3)) σ τ) (h2 : 100 ≤ τ 0 0 1 ∧ τ 0 0 1 ≤ 1000) : Rel τ := by
  have g := fun (a : Nat) (b c : Int) x => h.at a b c x
  have e1 : τ 1 = σ 1 := by funext b c; exact g 1 b c (by omega) (by omega)
  have e3 : τ 3 = σ 3 := by funext b c; exact g 3 b c (by omega) (by omega)
  have e4 : τ 4 = σ 4 := by funext b c; exact g 4 b c (by omega) (by omega)
  have e6 : τ 6 = σ 6 := by funext b c; exact g 6 b c (by omega) (by omega)
  have e12 : τ 12 = σ 12 := by funext b c; exact g 12 b c (by omega) (by omega)
  have e13 : τ 13 = σ 13 := by funext b c; exact g 13 b c (by omega) (by omega)
  have e20 : τ 20 = σ 20 := by funext b c; exact g 20 b c (by omega) (by omega)
  have e21 : τ 21 = σ 21 := by funext b c; exact g 21 b c (by omega) (by omega)
  have es : shf τ = shf σ := by unfold shf; rw [e1]
  have e0_2 := g 0 0 2 (by omega) (by omega)
  have e0_4 := g 0 0 4 (by omega) (by omega)
  have e0_7 := g 0 0 7 (by omega) (by omega)
  have e0_9 := g 0 0 9 (by omega) (by omega)
  have ea : ∀ w, ac τ w = ac σ w := fun w => ac_congr (fun c q h1 h2 _ _ => g c w q (by omega) (by omega))
  refine r.of h ?_ ?_ (fun v a b => ?_) (fun w a b => ?_) (fun w q a b c d => ?_) (fun w a b => ?_) (fun k q a b c d => ?_) (fun k a b => ?_)
  · have r0 := r.1; unfold R0 at *; rw [e0_2, e0_4, e0_7, e0_9]; omega
  · have r0 := r.2.1; unfold RS at *; rw [es]; exact r0
  · unfold RV; rw [e0_7, e0_4, e3, e4, e12]; exact fun z => z
  · unfold RW; rw [e12]; exact fun z => z
  · unfold RE; rw [e0_4, e13, e1]; exact fun z => z
  · unfold RA; rw [ea w, es, e12, e3, e4, e13, e0_7]; exact fun z => z
  · unfold RC; rw [e0_9, e20, e21]; exact fun z => z
  · rw [e20]; exact fun z => z
theorem Lw.t_pen {σ τ : Sg} (r : Lw σ)  (h : Eqx (fun a b c => (a = 0 ∧ c = 1) ∨ (a = 29 ∧ c = 3)) σ τ) (h1 : τ 29 0 3 = τ 0 0 1) (h2 : 100 ≤ τ 0 0 1 ∧ τ 0 0 1 ≤ 1000) : Lw τ := by
  have g := fun (a : Nat) (b c : Int) x => h.at a b c x
  have e1 : τ 1 = σ 1 := by funext b c; exact g 1 b c (by omega) (by omega)
  have e3 : τ 3 = σ 3 := by funext b c; exact g 3 b c (by omega) (by omega)
  have e4 : τ 4 = σ 4 := by funext b c; exact g 4 b c (by omega) (by omega)
  have e6 : τ 6 = σ 6 := by funext b c; exact g 6 b c (by omega) (by omega)
  have e12 : τ 12 = σ 12 := by funext b c; exact g 12 b c (by omega) (by omega)
  have e13 : τ 13 = σ 13 := by funext b c; exact g 13 b c (by omega) (by omega)
  have e20 : τ 20 = σ 20 := by funext b c; exact g 20 b c (by omega) (by omega)
  have e21 : τ 21 = σ 21 := by funext b c; exact g 21 b c (by omega) (by omega)
  have e22 : τ 22 = σ 22 := by funext b c; exact g 22 b c (by omega) (by omega)
  have e23 : τ 23 = σ 23 := by funext b c; exact g 23 b c (by omega) (by omega)
  have e24 : τ 24 = σ 24 := by funext b c; exact g 24 b c (by omega) (by omega)
  have e25 : τ 25 = σ 25 := by funext b c; exact g 25 b c (by omega) (by omega)
  have e26 : τ 26 = σ 26 := by funext b c; exact g 26 b c (by omega) (by omega)
  have e27 : τ 27 = σ 27 := by funext b c; exact g 27 b c (by omega) (by omega)
  have e28 : τ 28 = σ 28 := by funext b c; exact g 28 b c (by omega) (by omega)
  have e30 : τ 30 = σ 30 := by funext b c; exact g 30 b c (by omega) (by omega)
  have e0_2 := g 0 0 2 (by omega) (by omega)
  have e0_4 := g 0 0 4 (by omega) (by omega)
  have e0_7 := g 0 0 7 (by omega) (by omega)
  have e0_9 := g 0 0 9 (by omega) (by omega)
  have e29_0 := g 29 0 0 (by omega) (by omega)
  have e29_1 := g 29 0 1 (by omega) (by omega)
  have e29_2 := g 29 0 2 (by omega) (by omega)
  have e29_4 := g 29 0 4 (by omega) (by omega)
  have rl0 := r.1
  have rlm := r.2.1
  unfold L0 at rl0
  unfold Lm at rlm
  refine r.of h ?_ ?_ (fun q a b => ?_) (fun w q a b c d => ?_) (fun w a b => ?_) (fun v a b => ?_) (fun k q a b c d => ?_) (fun q a b => ?_) (fun w a b => ?_)
  · unfold L0; rw [e0_2, e0_4, e0_7, e0_9]; omega
  · unfold Lm; rw [e29_0, e29_1, e29_2, e29_4, e0_2, e0_4, e0_7, e0_9]; omega
  · rw [e22, e1]; exact fun z => z
  · rw [e23, e13]; exact fun z => z
  · rw [e0_4, e24, e12]; exact fun z => z
  · unfold Lv; rw [e0_7, e25, e3, e4]; exact fun z => z
  · rw [e0_9, e26, e27, e20, e21]; exact fun z => z
  · rw [e28, e6]; exact fun z => z
  · rw [e30, e12]; exact fun z => z
theorem Rel.t_ovh {σ τ : Sg} (r : Rel σ)  (h : Eqx (fun a b c => (a = 0 ∧ c = 2) ∨ (a = 29 ∧ c = 4)) σ τ) (h2 : 0 ≤ τ 0 0 2 ∧ τ 0 0 2 ≤ 100000) : Rel τ := by
  have g := fun (a : Nat) (b c : Int) x => h.at a b c x
  have e1 : τ 1 = σ 1 := by funext b c; exact g 1 b c (by omega) (by omega)
  have e3 : τ 3 = σ 3 := by funext b c; exact g 3 b c (by omega) (by omega)
  have e4 : τ 4 = σ 4 := by funext b c; exact g 4 b c (by omega) (by omega)
  have e6 : τ 6 = σ 6 := by funext b c; exact g 6 b c (by omega) (by omega)
  have e12 : τ 12 = σ 12 := by funext b c; exact g 12 b c (by omega) (by omega)
  have e13 : τ 13 = σ 13 := by funext b c; exact g 13 b c (by omega) (by omega)
  have e20 : τ 20 = σ 20 := by funext b c; exact g 20 b c (by omega) (by omega)
  have e21 : τ 21 = σ 21 := by funext b c; exact g 21 b c (by omega) (by omega)
  have es : shf τ = shf σ := by unfold shf; rw [e1]
  have e0_1 := g 0 0 1 (by omega) (by omega)
  have e0_4 := g 0 0 4 (by omega) (by omega)
  have e0_7 := g 0 0 7 (by omega) (by omega)
  have e0_9 := g 0 0 9 (by omega) (by omega)
  have ea : ∀ w, ac τ w = ac σ w := fun w => ac_congr (fun c q h1 h2 _ _ => g c w q (by omega) (by omega))
  refine r.of h ?_ ?_ (fun v a b => ?_) (fun w a b => ?_) (fun w q a b c d => ?_) (fun w a b => ?_) (fun k q a b c d => ?_) (fun k a b => ?_)
  · have r0 := r.1; unfold R0 at *; rw [e0_1, e0_4, e0_7, e0_9]; omega
  · have r0 := r.2.1; unfold RS at *; rw [es]; exact r0
  · unfold RV; rw [e0_7, e0_4, e3, e4, e12]; exact fun z => z
  · unfold RW; rw [e12]; exact fun z => z
  · unfold RE; rw [e0_4, e13, e1]; exact fun z => z
  · unfold RA; rw [ea w, es, e12, e3, e4, e13, e0_7]; exact fun z => z
  · unfold RC; rw [e0_9, e20, e21]; exact fun z => z
  · rw [e20]; exact fun z => z
theorem Lw.t_ovh {σ τ : Sg} (r : Lw σ)  (h : Eqx (fun a b c => (a = 0 ∧ c = 2) ∨ (a = 29 ∧ c = 4)) σ τ) (h1 : τ 29 0 4 = τ 0 0 2) (h2 : 0 ≤ τ 0 0 2 ∧ τ 0 0 2 ≤ 74) : Lw τ := by
  have g := fun (a : Nat) (b c : Int) x => h.at a b c x
  have e1 : τ 1 = σ 1 := by funext b c; exact g 1 b c (by omega) (by omega)
  have e3 : τ 3 = σ 3 := by funext b c; exact g 3 b c (by omega) (by omega)
  have e4 : τ 4 = σ 4 := by funext b c; exact g 4 b c (by omega) (by omega)
  have e6 : τ 6 = σ 6 := by funext b c; exact g 6 b c (by omega) (by omega)
  have e12 : τ 12 = σ 12 := by funext b c; exact g 12 b c (by omega) (by omega)
  have e13 : τ 13 = σ 13 := by funext b c; exact g 13 b c (by omega) (by omega)
  have e20 : τ 20 = σ 20 := by funext b c; exact g 20 b c (by omega) (by omega)
  have e21 : τ 21 = σ 21 := by funext b c; exact g 21 b c (by omega) (by omega)
  have e22 : τ 22 = σ 22 := by funext b c; exact g 22 b c (by omega) (by omega)
  have e23 : τ 23 = σ 23 := by funext b c; exact g 23 b c (by omega) (by omega)
  have e24 : τ 24 = σ 24 := by funext b c; exact g 24 b c (by omega) (by omega)
  have e25 : τ 25 = σ 25 := by funext b c; exact g 25 b c (by omega) (by omega)
  have e26 : τ 26 = σ 26 := by funext b c; exact g 26 b c (by omega) (by omega)
  have e27 : τ 27 = σ 27 := by funext b c; exact g 27 b c (by omega) (by omega)
  have e28 : τ 28 = σ 28 := by funext b c; exact g 28 b c (by omega) (by omega)
  have e30 : τ 30 = σ 30 := by funext b c; exact g 30 b c (by omega) (by omega)
  have e0_1 := g 0 0 1 (by omega) (by omega)
  have e0_4 := g 0 0 4 (by omega) (by omega)
  have e0_7 := g 0 0 7 (by omega) (by omega)
  have e0_9 := g 0 0 9 (by omega) (by omega)
  have e29_0 := g 29 0 0 (by omega) (by omega)
  have e29_1 := g 29 0 1 (by omega) (by omega)
  have e29_2 := g 29 0 2 (by omega) (by omega)
  have e29_3 := g 29 0 3 (by omega) (by omega)
  have rl0 := r.1
  have rlm := r.2.1
  unfold L0 at rl0
  unfold Lm at rlm
  refine r.of h ?_ ?_ (fun q a b => ?_) (fun w q a b c d => ?_) (fun w a b => ?_) (fun v a b => ?_) (fun k q a b c d => ?_) (fun q a b => ?_) (fun w a b => ?_)
  · unfold L0; rw [e0_1, e0_4, e0_7, e0_9]; omega
  · unfold Lm; rw [e29_0, e29_1, e29_2, e29_3, e0_1, e0_4, e0_7, e0_9]; omega
  · rw [e22, e1]; exact fun z => z
  · rw [e23, e13]; exact fun z => z
  · rw [e0_4, e24, e12]; exact fun z => z
  · unfold Lv; rw [e0_7, e25, e3, e4]; exact fun z => z
  · rw [e0_9, e26, e27, e20, e21]; exact fun z => z
  · rw [e28, e6]; exact fun z => z
  · rw [e30, e12]; exact fun z => z
theorem Rel.t_well {σ τ : Sg} (r : Rel σ) (hl : σ 0 0 4 < 6) (h : Eqx (fun a b c => (a = 0 ∧ c = 4) ∨ (a = 12 ∧ b = σ 0 0 4 ∧ c = 0) ∨ (a = 24 ∧ c = σ 0 0 4) ∨ (a = 29 ∧ c = 0)) σ τ) (h1 : τ 0 0 4 = σ 0 0 4 + 1) (h3 : τ 12 (σ 0 0 4) 0 = σ 0 0 1) : Rel τ := by
  have g := fun (a : Nat) (b c : Int) x => h.at a b c x
  have e1 : τ 1 = σ 1 := by funext b c; exact g 1 b c (by omega) (by omega)
  have e3 : τ 3 = σ 3 := by funext b c; exact g 3 b c (by omega) (by omega)
  have e4 : τ 4 = σ 4 := by funext b c; exact g 4 b c (by omega) (by omega)
  have e6 : τ 6 = σ 6 := by funext b c; exact g 6 b c (by omega) (by omega)
  have e13 : τ 13 = σ 13 := by funext b c; exact g 13 b c (by omega) (by omega)
  have e20 : τ 20 = σ 20 := by funext b c; exact g 20 b c (by omega) (by omega)
  have e21 : τ 21 = σ 21 := by funext b c; exact g 21 b c (by omega) (by omega)
  have es : shf τ = shf σ := by unfold shf; rw [e1]
  have e0_1 := g 0 0 1 (by omega) (by omega)
  have e0_2 := g 0 0 2 (by omega) (by omega)
  have e0_7 := g 0 0 7 (by omega) (by omega)
  have e0_9 := g 0 0 9 (by omega) (by omega)
  have ea : ∀ w, ac τ w = ac σ w := fun w => ac_congr (fun c q h1 h2 _ _ => g c w q (by omega) (by omega))
  have e12 : ∀ b c, (b ≠ σ 0 0 4 ∨ c ≠ 0) → τ 12 b c = σ 12 b c := fun b c x => g 12 b c (by omega) (by omega)
  refine r.of h ?_ ?_ (fun v a b => ?_) (fun w a b => ?_) (fun w q a b c d => ?_) (fun w a b => ?_) (fun k q a b c d => ?_) (fun k a b => ?_)
  · have r0 := r.1; unfold R0 at *; rw [e0_1, e0_2, e0_7, e0_9]; omega
  · have r0 := r.2.1; unfold RS at *; rw [es]; exact r0
  · unfold RV; rw [h1, e0_7, e3, e4, e12 _ 1 (by omega)]; intro z; exact ⟨z.1, z.2.1, fun y => by have := z.2.2 y; exact ⟨by omega, this.2⟩⟩
  · unfold RW
    rw [e12 _ 1 (by omega)]
    by_cases e : w = σ 0 0 4
    · subst e; rw [h3]; have := r.1; unfold R0 at this; intro z; exact ⟨by omega, z.2⟩
    · rw [e12 _ 0 (by omega)]; exact fun z => z
  · unfold RE; rw [h1, e13, e1]; intro z; exact ⟨z.1, fun y => by have := z.2 y; exact ⟨this.1, by omega⟩⟩
  · unfold RA
    rw [ea w, es, e3, e4, e13, e0_7]
    by_cases e : w = σ 0 0 4
    · have hno := r.none (w := w) (by omega)
      rw [fold0 hno, fold0 hno]
      exact fun z => z
    · rw [e12 _ 0 (by omega)]; exact fun z => z
  · unfold RC; rw [e0_9, e20, e21]; exact fun z => z
  · rw [e20]; exact fun z => z
theorem Lw.t_well {σ τ : Sg} (r : Lw σ) (hl : σ 0 0 4 < 3) (h : Eqx (fun a b c => (a = 0 ∧ c = 4) ∨ (a = 12 ∧ b = σ 0 0 4 ∧ c = 0) ∨ (a = 24 ∧ c = σ 0 0 4) ∨ (a = 29 ∧ c = 0)) σ τ) (h1 : τ 0 0 4 = σ 0 0 4 + 1) (h2 : τ 29 0 0 = σ 0 0 4 + 1) (h3 : τ 12 (σ 0 0 4) 0 = σ 0 0 1) (h4 : τ 24 0 (σ 0 0 4) = σ 0 0 1) : Lw τ := by
  have g := fun (a : Nat) (b c : Int) x => h.at a b c x
  have e1 : τ 1 = σ 1 := by funext b c; exact g 1 b c (by omega) (by omega)
  have e3 : τ 3 = σ 3 := by funext b c; exact g 3 b c (by omega) (by omega)
  have e4 : τ 4 = σ 4 := by funext b c; exact g 4 b c (by omega) (by omega)
  have e6 : τ 6 = σ 6 := by funext b c; exact g 6 b c (by omega) (by omega)
  have e13 : τ 13 = σ 13 := by funext b c; exact g 13 b c (by omega) (by omega)
  have e20 : τ 20 = σ 20 := by funext b c; exact g 20 b c (by omega) (by omega)
  have e21 : τ 21 = σ 21 := by funext b c; exact g 21 b c (by omega) (by omega)
  have e22 : τ 22 = σ 22 := by funext b c; exact g 22 b c (by omega) (by omega)
  have e23 : τ 23 = σ 23 := by funext b c; exact g 23 b c (by omega) (by omega)
  have e25 : τ 25 = σ 25 := by funext b c; exact g 25 b c (by omega) (by omega)
  have e26 : τ 26 = σ 26 := by funext b c; exact g 26 b c (by omega) (by omega)
  have e27 : τ 27 = σ 27 := by funext b c; exact g 27 b c (by omega) (by omega)
  have e28 : τ 28 = σ 28 := by funext b c; exact g 28 b c (by omega) (by omega)
  have e30 : τ 30 = σ 30 := by funext b c; exact g 30 b c (by omega) (by omega)
  have e0_1 := g 0 0 1 (by omega) (by omega)
  have e0_2 := g 0 0 2 (by omega) (by omega)
  have e0_7 := g 0 0 7 (by omega) (by omega)
  have e0_9 := g 0 0 9 (by omega) (by omega)
  have e29_1 := g 29 0 1 (by omega) (by omega)
  have e29_2 := g 29 0 2 (by omega) (by omega)
  have e29_3 := g 29 0 3 (by omega) (by omega)
  have e29_4 := g 29 0 4 (by omega) (by omega)
  have rl0 := r.1
  have rlm := r.2.1
  unfold L0 at rl0
  unfold Lm at rlm
  refine r.of h ?_ ?_ (fun q a b => ?_) (fun w q a b c d => ?_) (fun w a b => ?_) (fun v a b => ?_) (fun k q a b c d => ?_) (fun q a b => ?_) (fun w a b => ?_)
  · unfold L0; rw [h1, e0_1, e0_2, e0_7, e0_9]; omega
  · unfold Lm; rw [h1, h2, e29_1, e29_2, e29_3, e29_4, e0_1, e0_2, e0_7, e0_9]; omega
  · rw [e22, e1]; exact fun z => z
  · rw [e23, e13]; exact fun z => z
  · rw [h1]
    by_cases e : w = σ 0 0 4
    · subst e; rw [h3, h4]; exact fun _ _ => rfl
    · rw [g 24 0 w (by omega) (by omega), g 12 w 0 (by omega) (by omega)]; exact fun z y => z (by omega)
  · unfold Lv; rw [e0_7, e25, e3, e4]; exact fun z => z
  · rw [e0_9, e26, e27, e20, e21]; exact fun z => z
  · rw [e28, e6]; exact fun z => z
  · rw [e30, g 12 w 1 (by omega) (by omega)]; exact fun z => z
theorem Rel.t_elect {σ τ : Sg} (r : Rel σ) {w0 q0 x0 : Int} (hw0 : 0 ≤ w0 ∧ w0 < σ 0 0 4) (hq0 : 0 ≤ q0 ∧ q0 < 5) (hx : x0 = 0 ∨ x0 = 1) (hn : σ 12 w0 1 = 0) (hsp : 0 < σ 1 0 q0) (han : x0 = 1 → ∃ q, 0 ≤ q ∧ q < 5 ∧ q ≠ q0 ∧ σ 13 w0 q = 0 ∧ 0 < σ 1 0 q) (h : Eqx (fun a b c => (a = 13 ∧ b = w0 ∧ c = q0) ∨ (a = 14 ∧ b = w0 ∧ c = q0) ∨ (a = 23 ∧ c = 5 * w0 + q0)) σ τ) (h13 : τ 13 w0 q0 = x0) (h14 : τ 14 w0 q0 = x0) : Rel τ := by
  have g := fun (a : Nat) (b c : Int) x => h.at a b c x
  have e0 : τ 0 = σ 0 := by funext b c; exact g 0 b c (by omega) (by omega)
  have e1 : τ 1 = σ 1 := by funext b c; exact g 1 b c (by omega) (by omega)
  have e3 : τ 3 = σ 3 := by funext b c; exact g 3 b c (by omega) (by omega)
  have e4 : τ 4 = σ 4 := by funext b c; exact g 4 b c (by omega) (by omega)
  have e6 : τ 6 = σ 6 := by funext b c; exact g 6 b c (by omega) (by omega)
  have e12 : τ 12 = σ 12 := by funext b c; exact g 12 b c (by omega) (by omega)
  have e20 : τ 20 = σ 20 := by funext b c; exact g 20 b c (by omega) (by omega)
  have e21 : τ 21 = σ 21 := by funext b c; exact g 21 b c (by omega) (by omega)
  have es : shf τ = shf σ := by unfold shf; rw [e1]
  have g13 : ∀ w q, (w ≠ w0 ∨ q ≠ q0) → τ 13 w q = σ 13 w q := fun w q x => g 13 w q (by omega) (by omega)
  refine r.of h ?_ ?_ (fun v a b => ?_) (fun w a b => ?_) (fun w q a b c d => ?_) (fun w a b => ?_) (fun k q a b c d => ?_) (fun k a b => ?_)
  · have r0 := r.1; unfold R0 at *; rw [e0]; exact r0
  · have r0 := r.2.1; unfold RS at *; rw [es]; exact r0
  · unfold RV; rw [e0, e3, e4, e12]; exact fun z => z
  · unfold RW; rw [e12]; exact fun z => z
  · unfold RE
    rw [e0, e1]
    by_cases e : w = w0 ∧ q = q0
    · obtain ⟨rfl, rfl⟩ := e
      rw [h13]
      intro z
      exact ⟨hx, fun _ => ⟨hsp, hw0.2⟩⟩
    · rw [g13 w q (by omega)]; exact fun z => z
  · unfold RA
    by_cases e : w = w0
    · subst e
      rw [es, e12, e3, e4, e0]
      have hno := r.none (w := w) (by omega)
      rw [fold0 hno, fold0 hno]
      intro z
      have hT : T0f (τ 13 w) 14 = fun q => if 0 ≤ q ∧ q < 5 then (if q = q0 then x0 else σ 13 w q) else 0 := by
        funext q
        by_cases hq : 0 ≤ q ∧ q < 5
        · rw [T0f_14 hq.1 hq.2, if_pos hq]
          by_cases eq : q = q0
          · rw [if_pos eq, eq, h13]
          · rw [if_neg eq, g13 w q (by omega)]
        · rw [if_neg hq, T0f_z _ 14 q (by omega)]
      refine ⟨⟨fun p x y => ?_, ?_⟩, ac_ext (T0f_z _) fun c q c1 c2 c3 c4 => ?_⟩
      · rw [hT]
        have := r.hf3 w p a b x y
        dsimp only
        rw [if_pos ⟨x, y⟩]
        split <;> omega
      · obtain ⟨q, q1, q2, q3, q4⟩ : ∃ q, 0 ≤ q ∧ q < 5 ∧ inw (shf σ) (T0f (τ 13 w)) q = σ 1 0 q ∧ 0 < σ 1 0 q := by
          rcases hx with e | e
          · refine ⟨q0, hq0.1, hq0.2, ?_, hsp⟩
            have h0 : T0f (τ 13 w) 14 q0 = 0 := by rw [T0f_14 hq0.1 hq0.2, h13, e]
            unfold inw
            rw [if_pos h0, shf_at hq0.1 hq0.2]
          · obtain ⟨q, q1, q2, q3, q4, q5⟩ := han e
            refine ⟨q, q1, q2, ?_, q5⟩
            have h0 : T0f (τ 13 w) 14 q = 0 := by rw [T0f_14 q1 q2, g13 w q (by omega)]; exact q4
            unfold inw
            rw [if_pos h0, shf_at q1 q2]
        have := s5_part (f := inw (shf σ) (T0f (τ 13 w))) (fun p x y => by unfold inw; have := r.hsh.1 p x y; split <;> omega) q q1 q2
        omega
      · have z2 := congrFun (congrFun z.2 c) q
        rw [ac_at c1 c2 c3 c4] at z2
        by_cases ec : c = 14
        · subst ec
          rw [hT]
          dsimp only
          rw [if_pos ⟨c3, c4⟩]
          by_cases eq : q = q0
          · rw [if_pos eq, eq, h14]
          · rw [if_neg eq, g 14 w q (by omega) (by omega), z2, T0f_14 c3 c4]
        · rw [g c w q (by omega) (by omega), z2]
          simp only [T0f, ec, if_false]
    · have e13 : τ 13 w = σ 13 w := funext fun q => g13 w q (by omega)
      rw [ac_congr (σ := σ) (fun c q h1 h2 _ _ => g c w q (by omega) (by omega)), es, e12, e3, e4, e0, e13]; exact fun z => z
  · unfold RC; rw [e0, e20, e21]; exact fun z => z
  · rw [e20]; exact fun z => z
theorem Lw.t_elect {σ τ : Sg} (r : Lw σ) {w0 q0 : Int} (hw0 : 0 ≤ w0 ∧ w0 < σ 0 0 4) (hq0 : 0 ≤ q0 ∧ q0 < 5) (h : Eqx (fun a b c => (a = 13 ∧ b = w0 ∧ c = q0) ∨ (a = 14 ∧ b = w0 ∧ c = q0) ∨ (a = 23 ∧ c = 5 * w0 + q0)) σ τ) (h13 : τ 23 0 (5 * w0 + q0) = τ 13 w0 q0) : Lw τ := by
  have g := fun (a : Nat) (b c : Int) x => h.at a b c x
  have e0 : τ 0 = σ 0 := by funext b c; exact g 0 b c (by omega) (by omega)
  have e1 : τ 1 = σ 1 := by funext b c; exact g 1 b c (by omega) (by omega)
  have e3 : τ 3 = σ 3 := by funext b c; exact g 3 b c (by omega) (by omega)
  have e4 : τ 4 = σ 4 := by funext b c; exact g 4 b c (by omega) (by omega)
  have e6 : τ 6 = σ 6 := by funext b c; exact g 6 b c (by omega) (by omega)
  have e12 : τ 12 = σ 12 := by funext b c; exact g 12 b c (by omega) (by omega)
  have e20 : τ 20 = σ 20 := by funext b c; exact g 20 b c (by omega) (by omega)
  have e21 : τ 21 = σ 21 := by funext b c; exact g 21 b c (by omega) (by omega)
  have e22 : τ 22 = σ 22 := by funext b c; exact g 22 b c (by omega) (by omega)
  have e24 : τ 24 = σ 24 := by funext b c; exact g 24 b c (by omega) (by omega)
  have e25 : τ 25 = σ 25 := by funext b c; exact g 25 b c (by omega) (by omega)
  have e26 : τ 26 = σ 26 := by funext b c; exact g 26 b c (by omega) (by omega)
  have e27 : τ 27 = σ 27 := by funext b c; exact g 27 b c (by omega) (by omega)
  have e28 : τ 28 = σ 28 := by funext b c; exact g 28 b c (by omega) (by omega)
  have e30 : τ 30 = σ 30 := by funext b c; exact g 30 b c (by omega) (by omega)
  have e29_0 := g 29 0 0 (by omega) (by omega)
  have e29_1 := g 29 0 1 (by omega) (by omega)
  have e29_2 := g 29 0 2 (by omega) (by omega)
  have e29_3 := g 29 0 3 (by omega) (by omega)
  have e29_4 := g 29 0 4 (by omega) (by omega)
  have rl0 := r.1
  have rlm := r.2.1
  unfold L0 at rl0
  unfold Lm at rlm
  refine r.of h ?_ ?_ (fun q a b => ?_) (fun w q a b c d => ?_) (fun w a b => ?_) (fun v a b => ?_) (fun k q a b c d => ?_) (fun q a b => ?_) (fun w a b => ?_)
  · unfold L0; rw [e0]; omega
  · unfold Lm; rw [e29_0, e29_1, e29_2, e29_3, e29_4, e0]; omega
  · rw [e22, e1]; exact fun z => z
  · by_cases e : w = w0 ∧ q = q0
    · obtain ⟨rfl, rfl⟩ := e
      exact fun _ => h13
    · rw [g 23 0 (5 * w + q) (by omega) (by omega), g 13 w q (by omega) (by omega)]; exact fun z => z
  · rw [e0, e24, e12]; exact fun z => z
  · unfold Lv; rw [e0, e25, e3, e4]; exact fun z => z
  · rw [e0, e26, e27, e20, e21]; exact fun z => z
  · rw [e28, e6]; exact fun z => z
  · rw [e30, e12]; exact fun z => z
theorem Rel.t_enter {σ τ : Sg} (r : Rel σ) {w0 am : Int} (hw0 : 0 ≤ w0 ∧ w0 < σ 0 0 4) (hn : σ 0 0 7 < 60) (hx : -10000000 ≤ am ∧ am ≤ 10000000 ∧ ¬ am = 0) (h : Eqx (fun a b c => (a = 3 ∧ c = σ 0 0 7) ∨ (a = 4 ∧ c = σ 0 0 7) ∨ (a = 0 ∧ c = 7) ∨ (a = 12 ∧ b = w0 ∧ c = 1) ∨ (14 ≤ a ∧ a ≤ 18 ∧ b = w0) ∨ (a = 25 ∧ 3 * σ 0 0 7 ≤ c ∧ c < 3 * σ 0 0 7 + 3) ∨ (a = 30 ∧ c = w0) ∨ (a = 29 ∧ c = 1)) σ τ) (h3 : τ 3 0 (σ 0 0 7) = w0) (h4 : τ 4 0 (σ 0 0 7) = am) (h07 : τ 0 0 7 = σ 0 0 7 + 1) (h12 : τ 12 w0 1 = 1) (hac : ac τ w0 = stepS (shf σ) (σ 12 w0 0) (σ 0 0 7) am (ac σ w0)) : Rel τ := by
  have g := fun (a : Nat) (b c : Int) x => h.at a b c x
  have e1 : τ 1 = σ 1 := by funext b c; exact g 1 b c (by omega) (by omega)
  have e6 : τ 6 = σ 6 := by funext b c; exact g 6 b c (by omega) (by omega)
  have e13 : τ 13 = σ 13 := by funext b c; exact g 13 b c (by omega) (by omega)
  have e20 : τ 20 = σ 20 := by funext b c; exact g 20 b c (by omega) (by omega)
  have e21 : τ 21 = σ 21 := by funext b c; exact g 21 b c (by omega) (by omega)
  have es : shf τ = shf σ := by unfold shf; rw [e1]
  have e0_1 := g 0 0 1 (by omega) (by omega)
  have e0_2 := g 0 0 2 (by omega) (by omega)
  have e0_4 := g 0 0 4 (by omega) (by omega)
  have e0_9 := g 0 0 9 (by omega) (by omega)
  refine r.of h ?_ ?_ (fun v a b => ?_) (fun w a b => ?_) (fun w q a b c d => ?_) (fun w a b => ?_) (fun k q a b c d => ?_) (fun k a b => ?_)
  · have r0 := r.1; unfold R0 at *; rw [e0_1, e0_2, e0_4, e0_9]; omega
  · have r0 := r.2.1; unfold RS at *; rw [es]; exact r0
  · have hsite : ¬ σ 12 (σ 3 0 v) 1 = 0 → ¬ τ 12 (σ 3 0 v) 1 = 0 := fun z => by
      by_cases e : σ 3 0 v = w0
      · rw [e, h12]; decide
      · rw [g 12 (σ 3 0 v) 1 (by omega) (by omega)]; exact z
    unfold RV
    rw [h07, e0_4]
    by_cases e : v = σ 0 0 7
    · subst e
      intro z
      rw [h3, h4]
      have hwc := r.hwc
      exact ⟨by omega, ⟨hx.1, hx.2.1⟩, fun _ => ⟨hw0.2, hx.2.2, by rw [h12]; decide⟩⟩
    · rw [g 3 0 v (by omega) (by omega), g 4 0 v (by omega) (by omega)]
      exact fun z => ⟨z.1, z.2.1, fun y => by have := z.2.2 (by omega); exact ⟨this.1, this.2.1, hsite this.2.2⟩⟩
  · unfold RW
    rw [g 12 w 0 (by omega) (by omega)]
    by_cases e : w = w0
    · subst e; rw [h12]; exact fun z => ⟨z.1, Or.inr rfl⟩
    · rw [g 12 w 1 (by omega) (by omega)]; exact fun z => z
  · unfold RE; rw [e0_4, e13, e1]; exact fun z => z
  · have hvc := r.hvc
    unfold RA
    rw [es, e13, g 12 w 0 (by omega) (by omega), h07, foldS_at hvc.1, h3, h4, foldS_congr (vw := τ 3 0) (va := τ 4 0) (vw' := σ 3 0) (va' := σ 4 0) _ (fun v a b => ⟨g 3 0 v (by omega) (by omega), g 4 0 v (by omega) (by omega)⟩)]
    intro z
    refine ⟨z.1, ?_⟩
    rw [← z.2]
    by_cases e : w = w0
    · subst e; rw [if_pos rfl, hac]
    · rw [if_neg (fun y => e y.symm), ac_congr (σ := σ) (fun c q h1 h2 _ _ => g c w q (by omega) (by omega))]
  · unfold RC; rw [e0_9, e20, e21]; exact fun z => z
  · rw [e20]; exact fun z => z
theorem Lw.t_enter {σ τ : Sg} (r : Lw σ) {w0 : Int} (hw0 : 0 ≤ w0 ∧ w0 < σ 0 0 4) (hn : σ 0 0 7 < 16) (h : Eqx (fun a b c => (a = 3 ∧ c = σ 0 0 7) ∨ (a = 4 ∧ c = σ 0 0 7) ∨ (a = 0 ∧ c = 7) ∨ (a = 12 ∧ b = w0 ∧ c = 1) ∨ (14 ≤ a ∧ a ≤ 18 ∧ b = w0) ∨ (a = 25 ∧ 3 * σ 0 0 7 ≤ c ∧ c < 3 * σ 0 0 7 + 3) ∨ (a = 30 ∧ c = w0) ∨ (a = 29 ∧ c = 1)) σ τ) (hl : Lv τ (σ 0 0 7)) (h07 : τ 0 0 7 = σ 0 0 7 + 1) (h12 : τ 12 w0 1 = 1) (h30 : τ 30 0 w0 = 1) (h29 : τ 29 0 1 = σ 0 0 7 + 1) : Lw τ := by
  have g := fun (a : Nat) (b c : Int) x => h.at a b c x
  have e1 : τ 1 = σ 1 := by funext b c; exact g 1 b c (by omega) (by omega)
  have e6 : τ 6 = σ 6 := by funext b c; exact g 6 b c (by omega) (by omega)
  have e13 : τ 13 = σ 13 := by funext b c; exact g 13 b c (by omega) (by omega)
  have e20 : τ 20 = σ 20 := by funext b c; exact g 20 b c (by omega) (by omega)
  have e21 : τ 21 = σ 21 := by funext b c; exact g 21 b c (by omega) (by omega)
  have e22 : τ 22 = σ 22 := by funext b c; exact g 22 b c (by omega) (by omega)
  have e23 : τ 23 = σ 23 := by funext b c; exact g 23 b c (by omega) (by omega)
  have e24 : τ 24 = σ 24 := by funext b c; exact g 24 b c (by omega) (by omega)
  have e26 : τ 26 = σ 26 := by funext b c; exact g 26 b c (by omega) (by omega)
  have e27 : τ 27 = σ 27 := by funext b c; exact g 27 b c (by omega) (by omega)
  have e28 : τ 28 = σ 28 := by funext b c; exact g 28 b c (by omega) (by omega)
  have e0_1 := g 0 0 1 (by omega) (by omega)
  have e0_2 := g 0 0 2 (by omega) (by omega)
  have e0_4 := g 0 0 4 (by omega) (by omega)
  have e0_9 := g 0 0 9 (by omega) (by omega)
  have e29_0 := g 29 0 0 (by omega) (by omega)
  have e29_2 := g 29 0 2 (by omega) (by omega)
  have e29_3 := g 29 0 3 (by omega) (by omega)
  have e29_4 := g 29 0 4 (by omega) (by omega)
  have rl0 := r.1
  have rlm := r.2.1
  unfold L0 at rl0
  unfold Lm at rlm
  refine r.of h ?_ ?_ (fun q a b => ?_) (fun w q a b c d => ?_) (fun w a b => ?_) (fun v a b => ?_) (fun k q a b c d => ?_) (fun q a b => ?_) (fun w a b => ?_)
  · unfold L0; rw [h07, e0_1, e0_2, e0_4, e0_9]; omega
  · unfold Lm; rw [h07, h29, e29_0, e29_2, e29_3, e29_4, e0_1, e0_2, e0_4, e0_9]; omega
  · rw [e22, e1]; exact fun z => z
  · rw [e23, e13]; exact fun z => z
  · rw [e0_4, e24, g 12 w 0 (by omega) (by omega)]; exact fun z => z
  · rw [h07]
    by_cases e : v = σ 0 0 7
    · subst e; exact fun _ _ => hl
    · unfold Lv
      rw [g 25 0 (3 * v) (by omega) (by omega), g 25 0 (3 * v + 1) (by omega) (by omega), g 25 0 (3 * v + 2) (by omega) (by omega), g 3 0 v (by omega) (by omega), g 4 0 v (by omega) (by omega)]
      exact fun z y => z (by omega)
  · rw [e0_9, e26, e27, e20, e21]; exact fun z => z
  · rw [e28, e6]; exact fun z => z
  · by_cases e : w = w0
    · subst e; rw [h30, h12]; exact fun _ => rfl
    · rw [g 30 0 w (by omega) (by omega), g 12 w 1 (by omega) (by omega)]; exact fun z => z
theorem Rel.t_move {σ τ : Sg} (r : Rel σ) {v0 w0 : Int} (hw0 : 0 ≤ w0 ∧ w0 < σ 0 0 4) (hv0 : 0 ≤ v0 ∧ v0 < σ 0 0 7) (h : Eqx (fun a b c => (a = 3 ∧ c = v0) ∨ (a = 12 ∧ b = w0 ∧ c = 1) ∨ (14 ≤ a ∧ a ≤ 18 ∧ (b = w0 ∨ b = σ 3 0 v0)) ∨ (a = 25 ∧ c = 3 * v0) ∨ (a = 30 ∧ c = w0)) σ τ) (h3 : τ 3 0 v0 = w0) (h12 : τ 12 w0 1 = 1) (ha1 : ac τ w0 = foldS (shf σ) (σ 12 w0 0) (τ 3 0) (σ 4 0) w0 (T0f (σ 13 w0)) (σ 0 0 7).toNat) (ha2 : ac τ (σ 3 0 v0) = foldS (shf σ) (σ 12 (σ 3 0 v0) 0) (τ 3 0) (σ 4 0) (σ 3 0 v0) (T0f (σ 13 (σ 3 0 v0))) (σ 0 0 7).toNat) : Rel τ := by
  have g := fun (a : Nat) (b c : Int) x => h.at a b c x
  have e0 : τ 0 = σ 0 := by funext b c; exact g 0 b c (by omega) (by omega)
  have e1 : τ 1 = σ 1 := by funext b c; exact g 1 b c (by omega) (by omega)
  have e4 : τ 4 = σ 4 := by funext b c; exact g 4 b c (by omega) (by omega)
  have e6 : τ 6 = σ 6 := by funext b c; exact g 6 b c (by omega) (by omega)
  have e13 : τ 13 = σ 13 := by funext b c; exact g 13 b c (by omega) (by omega)
  have e20 : τ 20 = σ 20 := by funext b c; exact g 20 b c (by omega) (by omega)
  have e21 : τ 21 = σ 21 := by funext b c; exact g 21 b c (by omega) (by omega)
  have es : shf τ = shf σ := by unfold shf; rw [e1]
  refine r.of h ?_ ?_ (fun v a b => ?_) (fun w a b => ?_) (fun w q a b c d => ?_) (fun w a b => ?_) (fun k q a b c d => ?_) (fun k a b => ?_)
  · have r0 := r.1; unfold R0 at *; rw [e0]; exact r0
  · have r0 := r.2.1; unfold RS at *; rw [es]; exact r0
  · have hsite : ¬ σ 12 (σ 3 0 v) 1 = 0 → ¬ τ 12 (σ 3 0 v) 1 = 0 := fun z => by
      by_cases e : σ 3 0 v = w0
      · rw [e, h12]; decide
      · rw [g 12 (σ 3 0 v) 1 (by omega) (by omega)]; exact z
    unfold RV
    rw [e0, e4]
    by_cases e : v = v0
    · subst e
      rw [h3]
      have hwc := r.hwc
      exact fun z => ⟨by omega, z.2.1, fun y => by have := z.2.2 y; exact ⟨hw0.2, this.2.1, by rw [h12]; decide⟩⟩
    · rw [g 3 0 v (by omega) (by omega)]
      exact fun z => ⟨z.1, z.2.1, fun y => by have := z.2.2 y; exact ⟨this.1, this.2.1, hsite this.2.2⟩⟩
  · unfold RW
    rw [g 12 w 0 (by omega) (by omega)]
    by_cases e : w = w0
    · subst e; rw [h12]; exact fun z => ⟨z.1, Or.inr rfl⟩
    · rw [g 12 w 1 (by omega) (by omega)]; exact fun z => z
  · unfold RE; rw [e0, e13, e1]; exact fun z => z
  · unfold RA
    rw [es, e13, g 12 w 0 (by omega) (by omega), e4, e0]
    intro z
    refine ⟨z.1, ?_⟩
    by_cases e : w = w0
    · subst e; exact ha1
    · by_cases e2 : w = σ 3 0 v0
      · subst e2; exact ha2
      · rw [ac_congr (σ := σ) (fun c q h1 h2 _ _ => g c w q (by omega) (by omega)), z.2]
        refine foldS_iff _ (fun v a b => ?_)
        by_cases ev0 : v = v0
        · subst ev0; rw [h3]; exact ⟨fun y => absurd y.symm e2, fun y => absurd y.symm e⟩
        · rw [g 3 0 v (by omega) (by omega)]
  · unfold RC; rw [e0, e20, e21]; exact fun z => z
  · rw [e20]; exact fun z => z
theorem Lw.t_move {σ τ : Sg} (r : Lw σ) {v0 w0 : Int} (hw0 : 0 ≤ w0 ∧ w0 < σ 0 0 4) (hv0 : 0 ≤ v0 ∧ v0 < σ 0 0 7) (h : Eqx (fun a b c => (a = 3 ∧ c = v0) ∨ (a = 12 ∧ b = w0 ∧ c = 1) ∨ (14 ≤ a ∧ a ≤ 18 ∧ (b = w0 ∨ b = σ 3 0 v0)) ∨ (a = 25 ∧ c = 3 * v0) ∨ (a = 30 ∧ c = w0)) σ τ) (h3 : τ 3 0 v0 = w0) (h25 : τ 25 0 (3 * v0) = w0) (h12 : τ 12 w0 1 = 1) (h30 : τ 30 0 w0 = 1) : Lw τ := by
  have g := fun (a : Nat) (b c : Int) x => h.at a b c x
  have e0 : τ 0 = σ 0 := by funext b c; exact g 0 b c (by omega) (by omega)
  have e1 : τ 1 = σ 1 := by funext b c; exact g 1 b c (by omega) (by omega)
  have e4 : τ 4 = σ 4 := by funext b c; exact g 4 b c (by omega) (by omega)
  have e6 : τ 6 = σ 6 := by funext b c; exact g 6 b c (by omega) (by omega)
  have e13 : τ 13 = σ 13 := by funext b c; exact g 13 b c (by omega) (by omega)
  have e20 : τ 20 = σ 20 := by funext b c; exact g 20 b c (by omega) (by omega)
  have e21 : τ 21 = σ 21 := by funext b c; exact g 21 b c (by omega) (by omega)
  have e22 : τ 22 = σ 22 := by funext b c; exact g 22 b c (by omega) (by omega)
  have e23 : τ 23 = σ 23 := by funext b c; exact g 23 b c (by omega) (by omega)
  have e24 : τ 24 = σ 24 := by funext b c; exact g 24 b c (by omega) (by omega)
  have e26 : τ 26 = σ 26 := by funext b c; exact g 26 b c (by omega) (by omega)
  have e27 : τ 27 = σ 27 := by funext b c; exact g 27 b c (by omega) (by omega)
  have e28 : τ 28 = σ 28 := by funext b c; exact g 28 b c (by omega) (by omega)
  have e29_0 := g 29 0 0 (by omega) (by omega)
  have e29_1 := g 29 0 1 (by omega) (by omega)
  have e29_2 := g 29 0 2 (by omega) (by omega)
  have e29_3 := g 29 0 3 (by omega) (by omega)
  have e29_4 := g 29 0 4 (by omega) (by omega)
  have rl0 := r.1
  have rlm := r.2.1
  unfold L0 at rl0
  unfold Lm at rlm
  refine r.of h ?_ ?_ (fun q a b => ?_) (fun w q a b c d => ?_) (fun w a b => ?_) (fun v a b => ?_) (fun k q a b c d => ?_) (fun q a b => ?_) (fun w a b => ?_)
  · unfold L0; rw [e0]; omega
  · unfold Lm; rw [e29_0, e29_1, e29_2, e29_3, e29_4, e0]; omega
  · rw [e22, e1]; exact fun z => z
  · rw [e23, e13]; exact fun z => z
  · rw [e0, e24, g 12 w 0 (by omega) (by omega)]; exact fun z => z
  · unfold Lv
    rw [e0, e4, g 25 0 (3 * v + 1) (by omega) (by omega), g 25 0 (3 * v + 2) (by omega) (by omega)]
    by_cases e : v = v0
    · subst e; rw [h3, h25]; exact fun z y => ⟨rfl, (z y).2⟩
    · rw [g 25 0 (3 * v) (by omega) (by omega), g 3 0 v (by omega) (by omega)]
      exact fun z => z
  · rw [e0, e26, e27, e20, e21]; exact fun z => z
  · rw [e28, e6]; exact fun z => z
  · by_cases e : w = w0
    · subst e; rw [h30, h12]; exact fun _ => rfl
    · rw [g 30 0 w (by omega) (by omega), g 12 w 1 (by omega) (by omega)]; exact fun z => z
theorem Rel.t_call {σ τ : Sg} (r : Rel σ) {f : Int → Int} (hn : σ 0 0 9 < 20) (hf : ∀ q, 0 ≤ q → q < 5 → 0 ≤ f q) (hf5 : s5 f ≤ 10000000) (h : Eqx (fun a b c => (a = 20 ∧ b = σ 0 0 9) ∨ (a = 0 ∧ c = 9) ∨ (a = 26 ∧ (b ≠ 0 ∨ (5 * σ 0 0 9 ≤ c ∧ c < 5 * σ 0 0 9 + 5))) ∨ (a = 27 ∧ (b ≠ 0 ∨ (5 * σ 0 0 9 ≤ c ∧ c < 5 * σ 0 0 9 + 5))) ∨ (a = 29 ∧ c = 2)) σ τ) (h20 : ∀ q, 0 ≤ q → q < 5 → τ 20 (σ 0 0 9) q = f q) (h09 : τ 0 0 9 = σ 0 0 9 + 1) : Rel τ := by
  have g := fun (a : Nat) (b c : Int) x => h.at a b c x
  have e1 : τ 1 = σ 1 := by funext b c; exact g 1 b c (by omega) (by omega)
  have e3 : τ 3 = σ 3 := by funext b c; exact g 3 b c (by omega) (by omega)
  have e4 : τ 4 = σ 4 := by funext b c; exact g 4 b c (by omega) (by omega)
  have e6 : τ 6 = σ 6 := by funext b c; exact g 6 b c (by omega) (by omega)
  have e12 : τ 12 = σ 12 := by funext b c; exact g 12 b c (by omega) (by omega)
  have e13 : τ 13 = σ 13 := by funext b c; exact g 13 b c (by omega) (by omega)
  have e21 : τ 21 = σ 21 := by funext b c; exact g 21 b c (by omega) (by omega)
  have es : shf τ = shf σ := by unfold shf; rw [e1]
  have e0_1 := g 0 0 1 (by omega) (by omega)
  have e0_2 := g 0 0 2 (by omega) (by omega)
  have e0_4 := g 0 0 4 (by omega) (by omega)
  have e0_7 := g 0 0 7 (by omega) (by omega)
  have ea : ∀ w, ac τ w = ac σ w := fun w => ac_congr (fun c q h1 h2 _ _ => g c w q (by omega) (by omega))
  refine r.of h ?_ ?_ (fun v a b => ?_) (fun w a b => ?_) (fun w q a b c d => ?_) (fun w a b => ?_) (fun k q a b c d => ?_) (fun k a b => ?_)
  · have r0 := r.1; unfold R0 at *; rw [e0_1, e0_2, e0_4, e0_7]; omega
  · have r0 := r.2.1; unfold RS at *; rw [es]; exact r0
  · unfold RV; rw [e0_7, e0_4, e3, e4, e12]; exact fun z => z
  · unfold RW; rw [e12]; exact fun z => z
  · unfold RE; rw [e0_4, e13, e1]; exact fun z => z
  · unfold RA; rw [ea w, es, e12, e3, e4, e13, e0_7]; exact fun z => z
  · unfold RC
    rw [h09, e21]
    by_cases e : k = σ 0 0 9
    · subst e
      rw [h20 q c d]
      have := hf q c d
      exact fun z => ⟨by have := z.2 (by omega); omega, fun y => absurd y (by omega)⟩
    · rw [g 20 k q (by omega) (by omega)]
      exact fun z => ⟨z.1, fun y => z.2 (by omega)⟩
  · by_cases e : k = σ 0 0 9
    · subst e; rw [s5_congr h20]; exact fun _ => hf5
    · rw [s5_congr (g := σ 20 k) (fun q x y => g 20 k q (by omega) (by omega))]; exact fun z => z
theorem Lw.t_call {σ τ : Sg} (r : Lw σ) (hn : σ 0 0 9 < 6) (h : Eqx (fun a b c => (a = 20 ∧ b = σ 0 0 9) ∨ (a = 0 ∧ c = 9) ∨ (a = 26 ∧ (b ≠ 0 ∨ (5 * σ 0 0 9 ≤ c ∧ c < 5 * σ 0 0 9 + 5))) ∨ (a = 27 ∧ (b ≠ 0 ∨ (5 * σ 0 0 9 ≤ c ∧ c < 5 * σ 0 0 9 + 5))) ∨ (a = 29 ∧ c = 2)) σ τ) (h26 : ∀ q, 0 ≤ q → q < 5 → τ 26 0 (5 * σ 0 0 9 + q) = τ 20 (σ 0 0 9) q) (h27 : ∀ q, 0 ≤ q → q < 5 → τ 27 0 (5 * σ 0 0 9 + q) = τ 21 (σ 0 0 9) q) (h09 : τ 0 0 9 = σ 0 0 9 + 1) (h29 : τ 29 0 2 = σ 0 0 9 + 1) : Lw τ := by
  have g := fun (a : Nat) (b c : Int) x => h.at a b c x
  have e1 : τ 1 = σ 1 := by funext b c; exact g 1 b c (by omega) (by omega)
  have e3 : τ 3 = σ 3 := by funext b c; exact g 3 b c (by omega) (by omega)
  have e4 : τ 4 = σ 4 := by funext b c; exact g 4 b c (by omega) (by omega)
  have e6 : τ 6 = σ 6 := by funext b c; exact g 6 b c (by omega) (by omega)
  have e12 : τ 12 = σ 12 := by funext b c; exact g 12 b c (by omega) (by omega)
  have e13 : τ 13 = σ 13 := by funext b c; exact g 13 b c (by omega) (by omega)
  have e21 : τ 21 = σ 21 := by funext b c; exact g 21 b c (by omega) (by omega)
  have e22 : τ 22 = σ 22 := by funext b c; exact g 22 b c (by omega) (by omega)
  have e23 : τ 23 = σ 23 := by funext b c; exact g 23 b c (by omega) (by omega)
  have e24 : τ 24 = σ 24 := by funext b c; exact g 24 b c (by omega) (by omega)
  have e25 : τ 25 = σ 25 := by funext b c; exact g 25 b c (by omega) (by omega)
  have e28 : τ 28 = σ 28 := by funext b c; exact g 28 b c (by omega) (by omega)
  have e30 : τ 30 = σ 30 := by funext b c; exact g 30 b c (by omega) (by omega)
  have e0_1 := g 0 0 1 (by omega) (by omega)
  have e0_2 := g 0 0 2 (by omega) (by omega)
  have e0_4 := g 0 0 4 (by omega) (by omega)
  have e0_7 := g 0 0 7 (by omega) (by omega)
  have e29_0 := g 29 0 0 (by omega) (by omega)
  have e29_1 := g 29 0 1 (by omega) (by omega)
  have e29_3 := g 29 0 3 (by omega) (by omega)
  have e29_4 := g 29 0 4 (by omega) (by omega)
  have rl0 := r.1
  have rlm := r.2.1
  unfold L0 at rl0
  unfold Lm at rlm
  refine r.of h ?_ ?_ (fun q a b => ?_) (fun w q a b c d => ?_) (fun w a b => ?_) (fun v a b => ?_) (fun k q a b c d => ?_) (fun q a b => ?_) (fun w a b => ?_)
  · unfold L0; rw [h09, e0_1, e0_2, e0_4, e0_7]; omega
  · unfold Lm; rw [h09, h29, e29_0, e29_1, e29_3, e29_4, e0_1, e0_2, e0_4, e0_7]; omega
  · rw [e22, e1]; exact fun z => z
  · rw [e23, e13]; exact fun z => z
  · rw [e0_4, e24, e12]; exact fun z => z
  · unfold Lv; rw [e0_7, e25, e3, e4]; exact fun z => z
  · rw [h09]
    by_cases e : k = σ 0 0 9
    · subst e
      exact fun _ _ => ⟨h26 q c d, h27 q c d⟩
    · rw [g 26 0 (5 * k + q) (by omega) (by omega), g 27 0 (5 * k + q) (by omega) (by omega), g 20 k q (by omega) (by omega), e21]
      exact fun z y => z (by omega)
  · rw [e28, e6]; exact fun z => z
  · rw [e30, e12]; exact fun z => z
theorem Rel.t_pay {σ τ : Sg} (r : Rel σ) {k0 q0 : Int} (hk : 0 ≤ k0 ∧ k0 < σ 0 0 9) (hq : 0 ≤ q0 ∧ q0 < 5) (h : Eqx (fun a b c => (a = 21 ∧ b = k0 ∧ c = q0) ∨ (a = 27 ∧ c = 5 * k0 + q0)) σ τ) (h21 : τ 21 k0 q0 = σ 20 k0 q0) : Rel τ := by
  have g := fun (a : Nat) (b c : Int) x => h.at a b c x
  have e0 : τ 0 = σ 0 := by funext b c; exact g 0 b c (by omega) (by omega)
  have e1 : τ 1 = σ 1 := by funext b c; exact g 1 b c (by omega) (by omega)
  have e3 : τ 3 = σ 3 := by funext b c; exact g 3 b c (by omega) (by omega)
  have e4 : τ 4 = σ 4 := by funext b c; exact g 4 b c (by omega) (by omega)
  have e6 : τ 6 = σ 6 := by funext b c; exact g 6 b c (by omega) (by omega)
  have e12 : τ 12 = σ 12 := by funext b c; exact g 12 b c (by omega) (by omega)
  have e13 : τ 13 = σ 13 := by funext b c; exact g 13 b c (by omega) (by omega)
  have e20 : τ 20 = σ 20 := by funext b c; exact g 20 b c (by omega) (by omega)
  have es : shf τ = shf σ := by unfold shf; rw [e1]
  have ea : ∀ w, ac τ w = ac σ w := fun w => ac_congr (fun c q h1 h2 _ _ => g c w q (by omega) (by omega))
  refine r.of h ?_ ?_ (fun v a b => ?_) (fun w a b => ?_) (fun w q a b c d => ?_) (fun w a b => ?_) (fun k q a b c d => ?_) (fun k a b => ?_)
  · have r0 := r.1; unfold R0 at *; rw [e0]; exact r0
  · have r0 := r.2.1; unfold RS at *; rw [es]; exact r0
  · unfold RV; rw [e0, e3, e4, e12]; exact fun z => z
  · unfold RW; rw [e12]; exact fun z => z
  · unfold RE; rw [e0, e13, e1]; exact fun z => z
  · unfold RA; rw [ea w, es, e12, e3, e4, e13, e0]; exact fun z => z
  · unfold RC
    rw [e0, e20]
    by_cases e : k = k0 ∧ q = q0
    · obtain ⟨rfl, rfl⟩ := e
      rw [h21]
      exact fun z => ⟨by omega, z.2⟩
    · rw [g 21 k q (by omega) (by omega)]; exact fun z => z
  · rw [e20]; exact fun z => z
theorem Lw.t_pay {σ τ : Sg} (r : Lw σ) {k0 q0 : Int} (hk : 0 ≤ k0 ∧ k0 < σ 0 0 9) (hq : 0 ≤ q0 ∧ q0 < 5) (h : Eqx (fun a b c => (a = 21 ∧ b = k0 ∧ c = q0) ∨ (a = 27 ∧ c = 5 * k0 + q0)) σ τ) (h27 : τ 27 0 (5 * k0 + q0) = τ 21 k0 q0) : Lw τ := by
  have g := fun (a : Nat) (b c : Int) x => h.at a b c x
  have e0 : τ 0 = σ 0 := by funext b c; exact g 0 b c (by omega) (by omega)
  have e1 : τ 1 = σ 1 := by funext b c; exact g 1 b c (by omega) (by omega)
  have e3 : τ 3 = σ 3 := by funext b c; exact g 3 b c (by omega) (by omega)
  have e4 : τ 4 = σ 4 := by funext b c; exact g 4 b c (by omega) (by omega)
  have e6 : τ 6 = σ 6 := by funext b c; exact g 6 b c (by omega) (by omega)
  have e12 : τ 12 = σ 12 := by funext b c; exact g 12 b c (by omega) (by omega)
  have e13 : τ 13 = σ 13 := by funext b c; exact g 13 b c (by omega) (by omega)
  have e20 : τ 20 = σ 20 := by funext b c; exact g 20 b c (by omega) (by omega)
  have e22 : τ 22 = σ 22 := by funext b c; exact g 22 b c (by omega) (by omega)
  have e23 : τ 23 = σ 23 := by funext b c; exact g 23 b c (by omega) (by omega)
  have e24 : τ 24 = σ 24 := by funext b c; exact g 24 b c (by omega) (by omega)
  have e25 : τ 25 = σ 25 := by funext b c; exact g 25 b c (by omega) (by omega)
  have e26 : τ 26 = σ 26 := by funext b c; exact g 26 b c (by omega) (by omega)
  have e28 : τ 28 = σ 28 := by funext b c; exact g 28 b c (by omega) (by omega)
  have e30 : τ 30 = σ 30 := by funext b c; exact g 30 b c (by omega) (by omega)
  have e29_0 := g 29 0 0 (by omega) (by omega)
  have e29_1 := g 29 0 1 (by omega) (by omega)
  have e29_2 := g 29 0 2 (by omega) (by omega)
  have e29_3 := g 29 0 3 (by omega) (by omega)
  have e29_4 := g 29 0 4 (by omega) (by omega)
  have rl0 := r.1
  have rlm := r.2.1
  unfold L0 at rl0
  unfold Lm at rlm
  refine r.of h ?_ ?_ (fun q a b => ?_) (fun w q a b c d => ?_) (fun w a b => ?_) (fun v a b => ?_) (fun k q a b c d => ?_) (fun q a b => ?_) (fun w a b => ?_)
  · unfold L0; rw [e0]; omega
  · unfold Lm; rw [e29_0, e29_1, e29_2, e29_3, e29_4, e0]; omega
  · rw [e22, e1]; exact fun z => z
  · rw [e23, e13]; exact fun z => z
  · rw [e0, e24, e12]; exact fun z => z
  · unfold Lv; rw [e0, e25, e3, e4]; exact fun z => z
  · rw [e0, e26, e20]
    by_cases e : k = k0 ∧ q = q0
    · obtain ⟨rfl, rfl⟩ := e
      exact fun z y => ⟨(z y).1, h27⟩
    · rw [g 27 0 (5 * k + q) (by omega) (by omega), g 21 k q (by omega) (by omega)]; exact fun z => z
  · rw [e28, e6]; exact fun z => z
  · rw [e30, e12]; exact fun z => z
theorem Rel.t_share {σ τ : Sg} (r : Rel σ) {k0 : Int} {f : Int → Int} (hk : 0 ≤ k0 ∧ k0 < σ 0 0 9) (hf : ∀ q, 0 ≤ q → q < 5 → σ 21 k0 q ≤ f q) (hf5 : s5 f ≤ 10000000) (h : Eqx (fun a b c => (a = 20 ∧ b = k0) ∨ a = 6 ∨ a = 28 ∨ (a = 26 ∧ (b ≠ 0 ∨ (5 * k0 ≤ c ∧ c < 5 * k0 + 5)))) σ τ) (h20 : ∀ q, 0 ≤ q → q < 5 → τ 20 k0 q = f q) : Rel τ := by
  have g := fun (a : Nat) (b c : Int) x => h.at a b c x
  have e0 : τ 0 = σ 0 := by funext b c; exact g 0 b c (by omega) (by omega)
  have e1 : τ 1 = σ 1 := by funext b c; exact g 1 b c (by omega) (by omega)
  have e3 : τ 3 = σ 3 := by funext b c; exact g 3 b c (by omega) (by omega)
  have e4 : τ 4 = σ 4 := by funext b c; exact g 4 b c (by omega) (by omega)
  have e12 : τ 12 = σ 12 := by funext b c; exact g 12 b c (by omega) (by omega)
  have e13 : τ 13 = σ 13 := by funext b c; exact g 13 b c (by omega) (by omega)
  have e21 : τ 21 = σ 21 := by funext b c; exact g 21 b c (by omega) (by omega)
  have es : shf τ = shf σ := by unfold shf; rw [e1]
  have ea : ∀ w, ac τ w = ac σ w := fun w => ac_congr (fun c q h1 h2 _ _ => g c w q (by omega) (by omega))
  refine r.of h ?_ ?_ (fun v a b => ?_) (fun w a b => ?_) (fun w q a b c d => ?_) (fun w a b => ?_) (fun k q a b c d => ?_) (fun k a b => ?_)
  · have r0 := r.1; unfold R0 at *; rw [e0]; exact r0
  · have r0 := r.2.1; unfold RS at *; rw [es]; exact r0
  · unfold RV; rw [e0, e3, e4, e12]; exact fun z => z
  · unfold RW; rw [e12]; exact fun z => z
  · unfold RE; rw [e0, e13, e1]; exact fun z => z
  · unfold RA; rw [ea w, es, e12, e3, e4, e13, e0]; exact fun z => z
  · unfold RC
    rw [e0, e21]
    by_cases e : k = k0
    · subst e
      rw [h20 q c d]
      have := hf q c d
      exact fun z => ⟨⟨z.1.1, this⟩, fun y => absurd y (by omega)⟩
    · rw [g 20 k q (by omega) (by omega)]; exact fun z => z
  · by_cases e : k = k0
    · subst e; rw [s5_congr h20]; exact fun _ => hf5
    · rw [s5_congr (g := σ 20 k) (fun q x y => g 20 k q (by omega) (by omega))]; exact fun z => z
theorem Lw.t_share {σ τ : Sg} (r : Lw σ) {k0 : Int} (hk : 0 ≤ k0 ∧ k0 < σ 0 0 9) (h : Eqx (fun a b c => (a = 20 ∧ b = k0) ∨ a = 6 ∨ a = 28 ∨ (a = 26 ∧ (b ≠ 0 ∨ (5 * k0 ≤ c ∧ c < 5 * k0 + 5)))) σ τ) (h26 : ∀ q, 0 ≤ q → q < 5 → τ 26 0 (5 * k0 + q) = τ 20 k0 q) (h28 : ∀ q, 0 ≤ q → q < 5 → τ 28 0 q = τ 6 0 q) : Lw τ := by
  have g := fun (a : Nat) (b c : Int) x => h.at a b c x
  have e0 : τ 0 = σ 0 := by funext b c; exact g 0 b c (by omega) (by omega)
  have e1 : τ 1 = σ 1 := by funext b c; exact g 1 b c (by omega) (by omega)
  have e3 : τ 3 = σ 3 := by funext b c; exact g 3 b c (by omega) (by omega)
  have e4 : τ 4 = σ 4 := by funext b c; exact g 4 b c (by omega) (by omega)
  have e12 : τ 12 = σ 12 := by funext b c; exact g 12 b c (by omega) (by omega)
  have e13 : τ 13 = σ 13 := by funext b c; exact g 13 b c (by omega) (by omega)
  have e21 : τ 21 = σ 21 := by funext b c; exact g 21 b c (by omega) (by omega)
  have e22 : τ 22 = σ 22 := by funext b c; exact g 22 b c (by omega) (by omega)
  have e23 : τ 23 = σ 23 := by funext b c; exact g 23 b c (by omega) (by omega)
  have e24 : τ 24 = σ 24 := by funext b c; exact g 24 b c (by omega) (by omega)
  have e25 : τ 25 = σ 25 := by funext b c; exact g 25 b c (by omega) (by omega)
  have e27 : τ 27 = σ 27 := by funext b c; exact g 27 b c (by omega) (by omega)
  have e30 : τ 30 = σ 30 := by funext b c; exact g 30 b c (by omega) (by omega)
  have e29_0 := g 29 0 0 (by omega) (by omega)
  have e29_1 := g 29 0 1 (by omega) (by omega)
  have e29_2 := g 29 0 2 (by omega) (by omega)
  have e29_3 := g 29 0 3 (by omega) (by omega)
  have e29_4 := g 29 0 4 (by omega) (by omega)
  have rl0 := r.1
  have rlm := r.2.1
  unfold L0 at rl0
  unfold Lm at rlm
  refine r.of h ?_ ?_ (fun q a b => ?_) (fun w q a b c d => ?_) (fun w a b => ?_) (fun v a b => ?_) (fun k q a b c d => ?_) (fun q a b => ?_) (fun w a b => ?_)
  · unfold L0; rw [e0]; omega
  · unfold Lm; rw [e29_0, e29_1, e29_2, e29_3, e29_4, e0]; omega
  · rw [e22, e1]; exact fun z => z
  · rw [e23, e13]; exact fun z => z
  · rw [e0, e24, e12]; exact fun z => z
  · unfold Lv; rw [e0, e25, e3, e4]; exact fun z => z
  · rw [e0, e27, e21]
    by_cases e : k = k0
    · subst e
      exact fun z y => ⟨h26 q c d, (z y).2⟩
    · rw [g 26 0 (5 * k + q) (by omega) (by omega), g 20 k q (by omega) (by omega)]; exact fun z => z
  · exact fun _ => h28 q a b
  · rw [e30, e12]; exact fun z => z
