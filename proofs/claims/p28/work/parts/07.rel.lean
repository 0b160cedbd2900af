theorem sN_congr {f g : Int → Int} : ∀ n : Nat, (∀ i : Int, 0 ≤ i → i < n → f i = g i) → sN f n = sN g n := by
  intro n
  induction n with
  | zero => intro _; rfl
  | succ n ih =>
    intro h
    simp only [sN]
    rw [ih (fun i a b => h i a (by omega)), h n (by omega) (by omega)]
/-! what always holds of the class's things -/
def RV (σ : Sg) (v : Int) : Prop := (0 ≤ σ 3 0 v ∧ σ 3 0 v < 6) ∧ (-10000000 ≤ σ 4 0 v ∧ σ 4 0 v ≤ 10000000) ∧ (v < σ 0 0 7 → σ 3 0 v < σ 0 0 4 ∧ ¬ σ 4 0 v = 0 ∧ ¬ σ 12 (σ 3 0 v) 1 = 0)
def RW (σ : Sg) (w : Int) : Prop := (0 ≤ σ 12 w 0 ∧ σ 12 w 0 ≤ 1000) ∧ (σ 12 w 1 = 0 ∨ σ 12 w 1 = 1)
def RE (σ : Sg) (w q : Int) : Prop := (σ 13 w q = 0 ∨ σ 13 w q = 1) ∧ (¬ σ 13 w q = 0 → 0 < σ 1 0 q ∧ w < σ 0 0 4)
def RA (σ : Sg) (w : Int) : Prop := Tin (shf σ) (T0f (σ 13 w)) ∧ ac σ w = foldS (shf σ) (σ 12 w 0) (σ 3 0) (σ 4 0) w (T0f (σ 13 w)) (σ 0 0 7).toNat
def RC (σ : Sg) (k q : Int) : Prop := (0 ≤ σ 21 k q ∧ σ 21 k q ≤ σ 20 k q) ∧ (σ 0 0 9 ≤ k → σ 20 k q = 0)
def R0 (σ : Sg) : Prop := (0 ≤ σ 0 0 4 ∧ σ 0 0 4 ≤ 6) ∧ (0 ≤ σ 0 0 7 ∧ σ 0 0 7 ≤ 60) ∧ (0 ≤ σ 0 0 9 ∧ σ 0 0 9 ≤ 20) ∧ (0 ≤ σ 0 0 1 ∧ σ 0 0 1 ≤ 1000) ∧ (0 ≤ σ 0 0 2 ∧ σ 0 0 2 ≤ 100000)
def RS (σ : Sg) : Prop := Shk (shf σ)
def Rel (σ : Sg) : Prop := R0 σ ∧ RS σ ∧ (∀ v, 0 ≤ v → v < 60 → RV σ v) ∧ (∀ w, 0 ≤ w → w < 6 → RW σ w) ∧ (∀ w q, 0 ≤ w → w < 6 → 0 ≤ q → q < 5 → RE σ w q) ∧ (∀ w, 0 ≤ w → w < 6 → RA σ w) ∧ (∀ k q, 0 ≤ k → k < 20 → 0 ≤ q → q < 5 → RC σ k q) ∧ (∀ k, 0 ≤ k → k < 20 → s5 (σ 20 k) ≤ 10000000)
/-- as σ, but for what the methods use as they like, and but for the places of P -/
def Eqx (P : Nat → Int → Int → Prop) (σ τ : Sg) : Prop := ∀ (a : Nat) (b c : Int), (a < 8 ∨ 11 < a) → a < 31 → ¬ P a b c → τ a b c = σ a b c
abbrev Eqs (σ τ : Sg) : Prop := Eqx (fun _ _ _ => False) σ τ
theorem T0f_congr {f g : Int → Int} (h : ∀ q, 0 ≤ q → q < 5 → f q = g q) : T0f f = T0f g := by
  funext c q
  unfold T0f
  by_cases hq : 0 ≤ q ∧ q < 5
  · rw [if_pos hq, if_pos hq, h q hq.1 hq.2]
  · rw [if_neg hq, if_neg hq]
theorem Eqs.k {σ τ : Sg} (h : Eqs σ τ) {a : Nat} (h1 : a < 8 ∨ 11 < a) (h2 : a < 31) : τ a = σ a := by
  funext b c
  exact h a b c h1 h2 (fun z => z)
theorem Eqs.sh {σ τ : Sg} (h : Eqs σ τ) : shf τ = shf σ := by unfold shf; rw [h.k (a := 1) (by decide) (by decide)]
theorem Eqs.ac {σ τ : Sg} (h : Eqs σ τ) (w : Int) : ac τ w = ac σ w := ac_congr (fun c q h1 h2 _ _ => h c w q (by omega) (by omega) (fun z => z))
/-- the class's things are the same -/
def EqC (σ τ : Sg) : Prop := ∀ (a : Nat) (b c : Int), (a < 8 ∨ 11 < a) → a < 22 → τ a b c = σ a b c
theorem EqC.k {σ τ : Sg} (h : EqC σ τ) {a : Nat} (h1 : a < 8 ∨ 11 < a) (h2 : a < 22) : τ a = σ a := by
  funext b c
  exact h a b c h1 h2
theorem EqC.sh {σ τ : Sg} (h : EqC σ τ) : shf τ = shf σ := by unfold shf; rw [h.k (a := 1) (by decide) (by decide)]
theorem EqC.ac {σ τ : Sg} (h : EqC σ τ) (w : Int) : ac τ w = ac σ w := ac_congr (fun c q h1 h2 _ _ => h c w q (by omega) (by omega))
theorem Rel.cls {σ τ : Sg} (h : EqC σ τ) (r : Rel σ) : Rel τ := by
  have e0 := h.k (a := 0) (by decide) (by decide)
  have e1 := h.k (a := 1) (by decide) (by decide)
  have e3 := h.k (a := 3) (by decide) (by decide)
  have e4 := h.k (a := 4) (by decide) (by decide)
  have e12 := h.k (a := 12) (by decide) (by decide)
  have e13 := h.k (a := 13) (by decide) (by decide)
  have e20 := h.k (a := 20) (by decide) (by decide)
  have e21 := h.k (a := 21) (by decide) (by decide)
  have es := h.sh
  have ea := h.ac
  unfold Rel R0 RS RV RW RE RA RC at *
  simp only [e0, e1, e3, e4, e12, e13, e20, e21, es, ea]
  exact r
theorem Rel.congr {σ τ : Sg} (h : Eqs σ τ) (r : Rel σ) : Rel τ := r.cls (fun a b c x1 x2 => h a b c x1 (by omega) (fun z => z))
theorem Rel.tok {σ : Sg} (r : Rel σ) {w : Int} (h0 : 0 ≤ w) (h6 : w < 6) : Tok (shf σ) (ac σ w) 60 := by
  have c := r.1.2.1
  have ra := r.2.2.2.2.2.1 w h0 h6
  have h := foldS_ok (w := w) (vw := σ 3 0) (va := σ 4 0) r.2.1 (r.2.2.2.1 w h0 h6).1 ra.1 (σ 0 0 7).toNat (fun v a b => (r.2.2.1 v a (by omega)).2.1)
  rw [ra.2]
  exact h.mono (by omega)
theorem Rel.hwc {σ : Sg} (r : Rel σ) : 0 ≤ σ 0 0 4 ∧ σ 0 0 4 ≤ 6 := r.1.1
theorem Rel.hvc {σ : Sg} (r : Rel σ) : 0 ≤ σ 0 0 7 ∧ σ 0 0 7 ≤ 60 := r.1.2.1
theorem Rel.hcc {σ : Sg} (r : Rel σ) : 0 ≤ σ 0 0 9 ∧ σ 0 0 9 ≤ 20 := r.1.2.2.1
theorem Rel.hoh {σ : Sg} (r : Rel σ) : 0 ≤ σ 0 0 2 ∧ σ 0 0 2 ≤ 100000 := r.1.2.2.2.2
theorem Rel.hsh {σ : Sg} (r : Rel σ) : Shk (shf σ) := r.2.1
theorem Rel.hs {σ : Sg} (r : Rel σ) : ∀ q, 0 ≤ q → q < 5 → 0 ≤ σ 1 0 q ∧ σ 1 0 q ≤ 10000 := fun q a b => by
  have := r.hsh.1 q a b
  rwa [shf_at a b] at this
theorem Rel.hf {σ : Sg} (r : Rel σ) : ∀ w q, 0 ≤ w → w < 6 → 0 ≤ q → q < 5 → σ 14 w q = 0 ∨ σ 14 w q = 1 := fun w q a b c d => by
  have := (r.tok a b).1.1 q c d
  rwa [ac_at (by decide) (by decide) c d] at this
theorem Rel.hf3 {σ : Sg} (r : Rel σ) : ∀ w q, 0 ≤ w → w < 6 → 0 ≤ q → q < 5 → σ 13 w q = 0 ∨ σ 13 w q = 1 := fun w q a b c d => (r.2.2.2.2.1 w q a b c d).1
theorem Rel.hhd {σ : Sg} (r : Rel σ) : ∀ w, 0 ≤ w → w < 6 → σ 12 w 1 = 0 ∨ σ 12 w 1 = 1 := fun w a b => (r.2.2.2.1 w a b).2
theorem Rel.hall {σ : Sg} (r : Rel σ) : ∀ w, 0 ≤ w → w < 6 → Tin (shf σ) (ac σ w) ∧ (0 ≤ σ 12 w 0 ∧ σ 12 w 0 ≤ 1000) ∧ ∀ q, 0 ≤ q → q < 5 → 0 ≤ σ 15 w q ∧ σ 15 w q < 4611686018427387904 := fun w a b => by
  refine ⟨(r.tok a b).1, (r.2.2.2.1 w a b).1, fun q c d => ?_⟩
  have := (r.tok a b).2 q c d
  rw [ac_at (by decide) (by decide) c d] at this
  omega
theorem Rel.hvs {σ : Sg} (r : Rel σ) : ∀ v, 0 ≤ v → v < 60 → (0 ≤ σ 3 0 v ∧ σ 3 0 v < 6) ∧ -10000000 ≤ σ 4 0 v ∧ σ 4 0 v ≤ 10000000 := fun v a b => ⟨(r.2.2.1 v a b).1, (r.2.2.1 v a b).2.1⟩
theorem Rel.hel {σ : Sg} (r : Rel σ) : ∀ w, 0 ≤ w → w < 6 → (∀ q, 0 ≤ q → q < 5 → σ 13 w q = 0 ∨ σ 13 w q = 1) ∧ Tin (shf σ) (T0f (σ 13 w)) ∧ 0 ≤ σ 12 w 0 ∧ σ 12 w 0 ≤ 1000 := fun w a b => ⟨fun q c d => r.hf3 w q a b c d, (r.2.2.2.2.2.1 w a b).1, (r.2.2.2.1 w a b).1⟩
theorem Rel.c20 {σ : Sg} (r : Rel σ) : ∀ k q, 0 ≤ k → k < 20 → 0 ≤ q → q < 5 → 0 ≤ σ 21 k q ∧ σ 21 k q ≤ σ 20 k q ∧ σ 20 k q ≤ 10000000 := fun k q a b c d => by
  have e := r.2.2.2.2.2.2.1 k q a b c d
  have m := s5_part (f := σ 20 k) (fun x y z => by have := r.2.2.2.2.2.2.1 k x a b y z; unfold RC at this; omega) q c d
  have n := r.2.2.2.2.2.2.2 k a b
  unfold RC at e
  omega
theorem Rel.hr9b {σ : Sg} (r : Rel σ) : ∀ w q, 0 ≤ w → w < 6 → 0 ≤ q → q < 5 → I32 (σ 17 w q) ∧ I32 (σ 18 w q) := fun w q a b c d => by
  have := (r.tok a b).2 q c d
  rw [ac_at (by decide) (by decide) c d, ac_at (c := 17) (by decide) (by decide) c d, ac_at (c := 18) (by decide) (by decide) c d] at this
  omega
theorem Rel.hr9p {σ : Sg} (r : Rel σ) : ∀ k q, 0 ≤ k → k < 20 → 0 ≤ q → q < 5 → I32 (σ 20 k q - σ 21 k q) := fun k q a b c d => by have := r.c20 k q a b c d; omega
/-! the law's own notes go with the class -/
def Lv (σ : Sg) (v : Int) : Prop := σ 25 0 (3 * v) = σ 3 0 v ∧ (σ 25 0 (3 * v + 2) = 0 ∨ σ 25 0 (3 * v + 2) = 1) ∧ σ 4 0 v = (if σ 25 0 (3 * v + 2) = 0 then σ 25 0 (3 * v + 1) else -σ 25 0 (3 * v + 1)) ∧ 1 ≤ σ 25 0 (3 * v + 1) ∧ σ 25 0 (3 * v + 1) ≤ 10000
def L0 (σ : Sg) : Prop := (1 ≤ σ 0 0 4 ∧ σ 0 0 4 ≤ 3) ∧ (0 ≤ σ 0 0 7 ∧ σ 0 0 7 ≤ 16) ∧ (0 ≤ σ 0 0 9 ∧ σ 0 0 9 ≤ 6) ∧ (100 ≤ σ 0 0 1 ∧ σ 0 0 1 ≤ 1000) ∧ (0 ≤ σ 0 0 2 ∧ σ 0 0 2 ≤ 74)
def Lm (σ : Sg) : Prop := σ 29 0 0 = σ 0 0 4 ∧ σ 29 0 1 = σ 0 0 7 ∧ σ 29 0 2 = σ 0 0 9 ∧ σ 29 0 3 = σ 0 0 1 ∧ σ 29 0 4 = σ 0 0 2
def Lw (σ : Sg) : Prop := L0 σ ∧ Lm σ ∧ (∀ q, 0 ≤ q → q < 5 → σ 22 0 q = σ 1 0 q) ∧ (∀ w q, 0 ≤ w → w < 3 → 0 ≤ q → q < 5 → σ 23 0 (5 * w + q) = σ 13 w q) ∧ (∀ w, 0 ≤ w → w < 3 → w < σ 0 0 4 → σ 24 0 w = σ 12 w 0) ∧ (∀ v, 0 ≤ v → v < 16 → v < σ 0 0 7 → Lv σ v) ∧ (∀ k q, 0 ≤ k → k < 6 → 0 ≤ q → q < 5 → k < σ 0 0 9 → σ 26 0 (5 * k + q) = σ 20 k q ∧ σ 27 0 (5 * k + q) = σ 21 k q) ∧ (∀ q, 0 ≤ q → q < 5 → σ 28 0 q = σ 6 0 q) ∧ (∀ w, 0 ≤ w → w < 3 → σ 30 0 w = σ 12 w 1)
theorem Lw.congr {σ τ : Sg} (h : Eqs σ τ) (r : Lw σ) : Lw τ := by
  have e0 := h.k (a := 0) (by decide) (by decide)
  have e1 := h.k (a := 1) (by decide) (by decide)
  have e3 := h.k (a := 3) (by decide) (by decide)
  have e4 := h.k (a := 4) (by decide) (by decide)
  have e6 := h.k (a := 6) (by decide) (by decide)
  have e12 := h.k (a := 12) (by decide) (by decide)
  have e13 := h.k (a := 13) (by decide) (by decide)
  have e20 := h.k (a := 20) (by decide) (by decide)
  have e21 := h.k (a := 21) (by decide) (by decide)
  have e22 := h.k (a := 22) (by decide) (by decide)
  have e23 := h.k (a := 23) (by decide) (by decide)
  have e24 := h.k (a := 24) (by decide) (by decide)
  have e25 := h.k (a := 25) (by decide) (by decide)
  have e26 := h.k (a := 26) (by decide) (by decide)
  have e27 := h.k (a := 27) (by decide) (by decide)
  have e28 := h.k (a := 28) (by decide) (by decide)
  have e29 := h.k (a := 29) (by decide) (by decide)
  have e30 := h.k (a := 30) (by decide) (by decide)
  unfold Lw Lv L0 Lm at *
  simp only [e0, e1, e3, e4, e6, e12, e13, e20, e21, e22, e23, e24, e25, e26, e27, e28, e29, e30]
  exact r
def Inv (σ : Sg) : Prop := Rel σ ∧ Lw σ
theorem Inv.congr {σ τ : Sg} (h : Eqs σ τ) (r : Inv σ) : Inv τ := ⟨r.1.congr h, r.2.congr h⟩
theorem Eqs.refl {σ : Sg} : Eqs σ σ := fun _ _ _ _ _ _ => rfl
theorem Eqs.trans {a b c : Sg} (h : Eqs a b) (h' : Eqs b c) : Eqs a c := fun x y z x1 x2 x3 => (h' x y z x1 x2 x3).trans (h x y z x1 x2 x3)
theorem EqE.eqs {ka : Nat} {σ τ : Sg} (h : EqE ka σ τ) (hk : 30 < ka) : Eqs σ τ := fun a b c _ x2 _ => h a b c (by omega) (by omega)
theorem Fs.eqs {σ τ : Sg} (h : Fs σ τ) : Eqs σ τ := fun a b c x1 _ _ => h a b c x1
theorem eT0_lt {sh el : Int → Int} {q : Int} (h0 : 0 ≤ q) (h : q < 5) : eT sh (T0f el) q = if 0 < sh q ∧ el q = 0 then 1 else 0 := by
  have e : T0f el 14 q = el q := by unfold T0f; rw [if_pos ⟨h0, h⟩, if_pos rfl]
  rw [eT_in h, e]
theorem eT0_ge {sh el : Int → Int} {j : Int} (h5 : 5 ≤ j) (h : j < 25) : eT sh (T0f el) j = if j / 5 = 2 then -1 else 0 := by
  unfold eT T0f
  rw [if_neg (by omega)]
  by_cases a : j < 10
  · rw [if_pos a, if_pos (by omega), if_neg (by decide), if_neg (by decide), if_neg (by omega)]
  · rw [if_neg a]
    by_cases b : j < 15
    · rw [if_pos b, if_pos (by omega), if_neg (by decide), if_pos rfl, if_pos (by omega)]
    · rw [if_neg b]
      by_cases c : j < 20
      · rw [if_pos c, if_pos (by omega), if_neg (by decide), if_neg (by decide), if_neg (by omega)]
      · rw [if_neg c, if_pos (by omega), if_neg (by decide), if_neg (by decide), if_neg (by omega)]
theorem stepS_14 {sh : Int → Int} {pen v a : Int} {T : Nat → Int → Int} (q : Int) : stepS sh pen v a T 14 q = 0 ∨ stepS sh pen v a T 14 q = T 14 q := by
  unfold stepS
  split
  · refine Or.inr ?_
    unfold costS
    rw [if_neg (by omega), if_neg (by omega)]
  · unfold incS
    by_cases hq : 0 ≤ q ∧ q < 5
    · rw [if_pos hq, if_neg (by decide), if_neg (by decide), if_pos rfl]
      split
      · exact Or.inl rfl
      · exact Or.inr rfl
    · rw [if_neg hq]; exact Or.inr rfl
theorem foldS_14 {sh : Int → Int} {pen w : Int} {vw va : Int → Int} {T0 : Nat → Int → Int} {q : Int} : ∀ n : Nat, foldS sh pen vw va w T0 n 14 q = 0 ∨ foldS sh pen vw va w T0 n 14 q = T0 14 q := by
  intro n
  induction n with
  | zero => exact Or.inr rfl
  | succ n ih =>
    simp only [foldS]
    split
    · rcases stepS_14 (sh := sh) (pen := pen) (v := (n : Int)) (a := va (n : Int)) (T := foldS sh pen vw va w T0 n) q with e | e
      · exact Or.inl e
      · rw [e]; exact ih
    · exact ih
theorem Rel.el0 {σ : Sg} (r : Rel σ) {w : Int} (h0 : 0 ≤ w) (h6 : w < 6) : ∀ q, 0 ≤ q → q < 5 → shf σ q = 0 → T0f (σ 13 w) 14 q = 0 := fun q a b h => by
  have e := r.2.2.2.2.1 w q h0 h6 a b
  unfold RE at e
  rw [shf_at a b] at h
  unfold T0f
  rw [if_pos ⟨a, b⟩, if_pos rfl]
  omega
theorem Rel.fold14 {σ : Sg} (r : Rel σ) {w : Int} (h0 : 0 ≤ w) (h6 : w < 6) {pen : Int} {vw va : Int → Int} (n : Nat) : ∀ q, 0 ≤ q → q < 5 → shf σ q = 0 → foldS (shf σ) pen vw va w (T0f (σ 13 w)) n 14 q = 0 := fun q a b h => by
  rcases foldS_14 (sh := shf σ) (pen := pen) (w := w) (vw := vw) (va := va) (T0 := T0f (σ 13 w)) (q := q) n with e | e
  · exact e
  · rw [e]; exact r.el0 h0 h6 q a b h
