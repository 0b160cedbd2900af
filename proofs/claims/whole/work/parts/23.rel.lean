/-! the class's part of the world and the reference's part go together -/
def RV (σ : Sg) (v : Int) : Prop := (0 ≤ σ 3 0 v ∧ σ 3 0 v < 6) ∧ σ 27 0 v = σ 3 0 v ∧ vam σ v = σ 4 0 v ∧ (0 ≤ σ 28 0 v ∧ σ 28 0 v ≤ 10000000) ∧ (σ 29 0 v = 0 ∨ σ 29 0 v = 1) ∧ (v < σ 0 0 7 → σ 3 0 v < σ 0 0 4 ∧ 1 ≤ σ 28 0 v ∧ ¬ σ 12 (σ 3 0 v) 1 = 0)
def RW (σ : Sg) (w : Int) : Prop := ((w < σ 0 0 4 → σ 24 0 w = σ 12 w 0) ∧ 0 ≤ σ 24 0 w ∧ σ 24 0 w ≤ 1000) ∧ (0 ≤ σ 12 w 0 ∧ σ 12 w 0 ≤ 1000) ∧ σ 25 0 w = σ 12 w 1 ∧ (σ 12 w 1 = 0 ∨ σ 12 w 1 = 1)
def RE (σ : Sg) (w q : Int) : Prop := σ 26 0 (5 * w + q) = σ 13 w q ∧ (σ 13 w q = 0 ∨ σ 13 w q = 1) ∧ (¬ σ 13 w q = 0 → 0 < σ 1 0 q ∧ w < σ 0 0 4)
def RA (σ : Sg) (w : Int) : Prop := Tin (shf σ) (T0f (σ 13 w)) ∧ ac σ w = foldS (shf σ) (σ 12 w 0) (σ 3 0) (σ 4 0) w (T0f (σ 13 w)) (σ 0 0 7).toNat
def RC (σ : Sg) (k q : Int) : Prop := σ 30 0 (5 * k + q) = σ 20 k q ∧ σ 31 0 (5 * k + q) = σ 21 k q ∧ (0 ≤ σ 21 k q ∧ σ 21 k q ≤ σ 20 k q) ∧ (σ 0 0 9 ≤ k → σ 20 k q = 0)
def R0 (σ : Sg) : Prop := (0 ≤ σ 0 0 4 ∧ σ 0 0 4 ≤ 6) ∧ (0 ≤ σ 0 0 7 ∧ σ 0 0 7 ≤ 60) ∧ (0 ≤ σ 0 0 9 ∧ σ 0 0 9 ≤ 20) ∧ (σ 22 0 6 = σ 0 0 4 ∧ σ 22 0 10 = σ 0 0 7 ∧ σ 22 0 13 = σ 0 0 9 ∧ σ 22 0 1 = σ 0 0 1 ∧ σ 22 0 2 = σ 0 0 2) ∧ (0 ≤ σ 0 0 1 ∧ σ 0 0 1 ≤ 1000) ∧ (0 ≤ σ 0 0 2 ∧ σ 0 0 2 ≤ 100000)
def RS (σ : Sg) : Prop := (∀ q, 0 ≤ q → q < 5 → σ 23 0 q = σ 1 0 q) ∧ Shk (shf σ)
def Rel (σ : Sg) : Prop := R0 σ ∧ RS σ ∧ (∀ v, 0 ≤ v → v < 60 → RV σ v) ∧ (∀ w, 0 ≤ w → w < 6 → RW σ w) ∧ (∀ w q, 0 ≤ w → w < 6 → 0 ≤ q → q < 5 → RE σ w q) ∧ (∀ w, 0 ≤ w → w < 6 → RA σ w) ∧ (∀ k q, 0 ≤ k → k < 20 → 0 ≤ q → q < 5 → RC σ k q) ∧ (∀ k, 0 ≤ k → k < 20 → s5 (σ 20 k) ≤ 10000000) ∧ (∀ q, 0 ≤ q → q < 5 → σ 32 0 q = σ 6 0 q)
/-- as σ, but for what the methods use as they like, and but for the places of P -/
def Eqx (P : Nat → Int → Int → Prop) (σ τ : Sg) : Prop := ∀ (a : Nat) (b c : Int), (a < 8 ∨ 11 < a) → a < 33 → (a ≠ 22 ∨ c ≠ 24) → ¬ P a b c → τ a b c = σ a b c
abbrev Eqs (σ τ : Sg) : Prop := Eqx (fun _ _ _ => False) σ τ
theorem T0f_congr {f g : Int → Int} (h : ∀ q, 0 ≤ q → q < 5 → f q = g q) : T0f f = T0f g := by
  funext c q
  unfold T0f
  by_cases hq : 0 ≤ q ∧ q < 5
  · rw [if_pos hq, if_pos hq, h q hq.1 hq.2]
  · rw [if_neg hq, if_neg hq]
theorem Eqs.k {σ τ : Sg} (h : Eqs σ τ) {a : Nat} (h1 : a < 8 ∨ 11 < a) (h2 : a < 33) (h3 : a ≠ 22) : τ a = σ a := by
  funext b c
  exact h a b c h1 h2 (Or.inl h3) (fun z => z)
theorem Rel.congr {σ τ : Sg} (h : Eqs σ τ) (r : Rel σ) : Rel τ := by
  have e0 := h.k (a := 0) (by decide) (by decide) (by decide)
  have e1 := h.k (a := 1) (by decide) (by decide) (by decide)
  have e3 := h.k (a := 3) (by decide) (by decide) (by decide)
  have e4 := h.k (a := 4) (by decide) (by decide) (by decide)
  have e6 := h.k (a := 6) (by decide) (by decide) (by decide)
  have e12 := h.k (a := 12) (by decide) (by decide) (by decide)
  have e13 := h.k (a := 13) (by decide) (by decide) (by decide)
  have e20 := h.k (a := 20) (by decide) (by decide) (by decide)
  have e21 := h.k (a := 21) (by decide) (by decide) (by decide)
  have e23 := h.k (a := 23) (by decide) (by decide) (by decide)
  have e24 := h.k (a := 24) (by decide) (by decide) (by decide)
  have e25 := h.k (a := 25) (by decide) (by decide) (by decide)
  have e26 := h.k (a := 26) (by decide) (by decide) (by decide)
  have e27 := h.k (a := 27) (by decide) (by decide) (by decide)
  have e28 := h.k (a := 28) (by decide) (by decide) (by decide)
  have e29 := h.k (a := 29) (by decide) (by decide) (by decide)
  have e30 := h.k (a := 30) (by decide) (by decide) (by decide)
  have e31 := h.k (a := 31) (by decide) (by decide) (by decide)
  have e32 := h.k (a := 32) (by decide) (by decide) (by decide)
  have ev : vam τ = vam σ := by funext v; unfold vam; rw [e28, e29]
  have es : shf τ = shf σ := by unfold shf; rw [e1]
  have ea : ∀ w, ac τ w = ac σ w := fun w => ac_congr (fun c q h1 h2 _ _ => h c w q (by omega) (by omega) (by omega) (fun z => z))
  have f1 := h 22 0 1 (by decide) (by decide) (by decide) (fun z => z)
  have f2 := h 22 0 2 (by decide) (by decide) (by decide) (fun z => z)
  have f3 := h 22 0 6 (by decide) (by decide) (by decide) (fun z => z)
  have f4 := h 22 0 10 (by decide) (by decide) (by decide) (fun z => z)
  have f5 := h 22 0 13 (by decide) (by decide) (by decide) (fun z => z)
  unfold Rel R0 RS RV RW RE RA RC at *
  simp only [e0, e1, e3, e4, e6, e12, e13, e20, e21, e23, e24, e25, e26, e27, e28, e29, e30, e31, e32, ev, es, ea, f1, f2, f3, f4, f5]
  exact r
theorem Rel.esh {σ : Sg} (r : Rel σ) : shm σ = shf σ := by
  funext q
  by_cases hq : 0 ≤ q ∧ q < 5
  · rw [shm_at hq.1 hq.2, shf_at hq.1 hq.2]; exact r.2.1.1 q hq.1 hq.2
  · unfold shm shf
    rw [if_neg hq, if_neg hq]
theorem Rel.el {σ : Sg} (r : Rel σ) {w : Int} (h0 : 0 ≤ w) (h6 : w < 6) : T0f (elm σ w) = T0f (σ 13 w) := T0f_congr fun q a b => by
  have e := r.2.2.2.2.1 w q h0 h6 a b
  have s := r.2.1.1 q a b
  unfold RE at e
  unfold elm
  split <;> omega
theorem Rel.fm {σ : Sg} (r : Rel σ) {w : Int} (h0 : 0 ≤ w) (h4 : w < σ 0 0 4) : FM σ w = ac σ w := by
  have h6 : w < 6 := by have := r.1.1; omega
  rw [(r.2.2.2.2.2.1 w h0 h6).2]
  unfold FM
  have c := r.1.2.1
  rw [r.esh, r.el h0 h6, (r.2.2.2.1 w h0 h6).1.1 h4, r.1.2.2.2.1.2.1]
  exact foldS_congr _ (fun v a b => by have e := r.2.2.1 v a (by omega); exact ⟨e.2.1, e.2.2.1⟩)
theorem Rel.mi {σ : Sg} (r : Rel σ) : Mi σ := by
  obtain ⟨⟨h4, h7, h9, ⟨e6, e10, e13, e1, e2⟩, hp, ho⟩, rs, rv, rw', re, ra, rc, rc5, ro⟩ := id r
  refine ⟨by omega, fun v a b => ?_, fun j a b => ?_, by rw [r.esh]; exact rs.2, fun w a b => ⟨?_, ?_, ?_⟩, by omega, by omega⟩
  · have e := rv v a (by omega)
    unfold RV at e
    omega
  · have e := re (j / 5) (j % 5) (by omega) (by omega) (by omega) (by omega)
    unfold RE at e
    rw [show 5 * (j / 5) + j % 5 = j from by omega] at e
    omega
  · rw [r.esh, r.el a b]; exact (ra w a b).1
  · have e := rw' w a b; unfold RW at e; omega
  · have e := rw' w a b; unfold RW at e; omega
theorem Rel.tok {σ : Sg} (r : Rel σ) {w : Int} (h0 : 0 ≤ w) (h6 : w < 6) : Tok (shf σ) (ac σ w) 60 := by
  have c := r.1.2.1
  have ra := r.2.2.2.2.2.1 w h0 h6
  have h := foldS_ok (w := w) (vw := σ 3 0) (va := σ 4 0) r.2.1.2 (r.2.2.2.1 w h0 h6).2.1 ra.1 (σ 0 0 7).toNat (fun v a b => by
    have e := r.2.2.1 v a (by omega)
    unfold RV vam at e
    obtain ⟨e1, e2, e3, e4, e5, e6⟩ := e
    split at e3 <;> omega)
  rw [ra.2]
  exact h.mono (by omega)
theorem Rel.hwc {σ : Sg} (r : Rel σ) : 0 ≤ σ 0 0 4 ∧ σ 0 0 4 ≤ 6 := r.1.1
theorem Rel.hvc {σ : Sg} (r : Rel σ) : 0 ≤ σ 0 0 7 ∧ σ 0 0 7 ≤ 60 := r.1.2.1
theorem Rel.hcc {σ : Sg} (r : Rel σ) : 0 ≤ σ 0 0 9 ∧ σ 0 0 9 ≤ 20 := r.1.2.2.1
theorem Rel.hoh {σ : Sg} (r : Rel σ) : 0 ≤ σ 0 0 2 ∧ σ 0 0 2 ≤ 100000 := r.1.2.2.2.2.2
theorem Rel.hs {σ : Sg} (r : Rel σ) : ∀ q, 0 ≤ q → q < 5 → 0 ≤ σ 1 0 q ∧ σ 1 0 q ≤ 10000 := fun q a b => by
  have := r.2.1.2.1 q a b
  rwa [shf_at a b] at this
theorem Rel.hsh {σ : Sg} (r : Rel σ) : Shk (shf σ) := r.2.1.2
theorem Rel.hf {σ : Sg} (r : Rel σ) : ∀ w q, 0 ≤ w → w < 6 → 0 ≤ q → q < 5 → σ 14 w q = 0 ∨ σ 14 w q = 1 := fun w q a b c d => by
  have := (r.tok a b).1.1 q c d
  rwa [ac_at (by decide) (by decide) c d] at this
theorem Rel.hf3 {σ : Sg} (r : Rel σ) : ∀ w q, 0 ≤ w → w < 6 → 0 ≤ q → q < 5 → σ 13 w q = 0 ∨ σ 13 w q = 1 := fun w q a b c d => (r.2.2.2.2.1 w q a b c d).2.1
theorem Rel.hhd {σ : Sg} (r : Rel σ) : ∀ w, 0 ≤ w → w < 6 → σ 12 w 1 = 0 ∨ σ 12 w 1 = 1 := fun w a b => (r.2.2.2.1 w a b).2.2.2
theorem Rel.hall {σ : Sg} (r : Rel σ) : ∀ w, 0 ≤ w → w < 6 → Tin (shf σ) (ac σ w) ∧ (0 ≤ σ 12 w 0 ∧ σ 12 w 0 ≤ 1000) ∧ ∀ q, 0 ≤ q → q < 5 → 0 ≤ σ 15 w q ∧ σ 15 w q < 4611686018427387904 := fun w a b => by
  refine ⟨(r.tok a b).1, (r.2.2.2.1 w a b).2.1, fun q c d => ?_⟩
  have := (r.tok a b).2 q c d
  rw [ac_at (by decide) (by decide) c d] at this
  omega
theorem Rel.hvs {σ : Sg} (r : Rel σ) : ∀ v, 0 ≤ v → v < 60 → (0 ≤ σ 3 0 v ∧ σ 3 0 v < 6) ∧ -10000000 ≤ σ 4 0 v ∧ σ 4 0 v ≤ 10000000 := fun v a b => by
  have e := r.2.2.1 v a b
  unfold RV vam at e
  obtain ⟨e1, e2, e3, e4, e5, e6⟩ := e
  refine ⟨e1, ?_⟩
  split at e3 <;> omega
theorem Rel.hel {σ : Sg} (r : Rel σ) : ∀ w, 0 ≤ w → w < 6 → (∀ q, 0 ≤ q → q < 5 → σ 13 w q = 0 ∨ σ 13 w q = 1) ∧ Tin (shf σ) (T0f (σ 13 w)) ∧ 0 ≤ σ 12 w 0 ∧ σ 12 w 0 ≤ 1000 := fun w a b => ⟨fun q c d => r.hf3 w q a b c d, (r.2.2.2.2.2.1 w a b).1, (r.2.2.2.1 w a b).2.1⟩
theorem Rel.c20 {σ : Sg} (r : Rel σ) : ∀ k q, 0 ≤ k → k < 20 → 0 ≤ q → q < 5 → 0 ≤ σ 21 k q ∧ σ 21 k q ≤ σ 20 k q ∧ σ 20 k q ≤ 10000000 := fun k q a b c d => by
  have e := r.2.2.2.2.2.2.1 k q a b c d
  have m := s5_part (f := σ 20 k) (fun x y z => by have := r.2.2.2.2.2.2.1 k x a b y z; unfold RC at this; omega) q c d
  have n := r.2.2.2.2.2.2.2.1 k a b
  unfold RC at e
  omega
theorem Rel.hpa {σ : Sg} (r : Rel σ) : ∀ j, 0 ≤ j → j < 100 → 0 ≤ σ 31 0 j ∧ σ 31 0 j ≤ σ 30 0 j ∧ σ 30 0 j ≤ 10000000 := fun j a b => by
  have e := r.2.2.2.2.2.2.1 (j / 5) (j % 5) (by omega) (by omega) (by omega) (by omega)
  have m := r.c20 (j / 5) (j % 5) (by omega) (by omega) (by omega) (by omega)
  unfold RC at e
  rw [show 5 * (j / 5) + j % 5 = j from by omega] at e
  omega
theorem Rel.hr9b {σ : Sg} (r : Rel σ) : ∀ w q, 0 ≤ w → w < 6 → 0 ≤ q → q < 5 → I32 (σ 17 w q) ∧ I32 (σ 18 w q) := fun w q a b c d => by
  have := (r.tok a b).2 q c d
  rw [ac_at (by decide) (by decide) c d, ac_at (c := 17) (by decide) (by decide) c d, ac_at (c := 18) (by decide) (by decide) c d] at this
  omega
theorem Rel.hr9p {σ : Sg} (r : Rel σ) : ∀ k q, 0 ≤ k → k < 20 → 0 ≤ q → q < 5 → I32 (σ 20 k q - σ 21 k q) := fun k q a b c d => by have := r.c20 k q a b c d; omega
theorem Rel.hprm {σ : Sg} (r : Rel σ) : ∀ j, 0 ≤ j → j < 100 → I32 (σ 30 0 j - σ 31 0 j) := fun j a b => by have := r.hpa j a b; omega
theorem Rel.hwm {σ : Sg} (r : Rel σ) : 0 ≤ σ 22 0 6 ∧ σ 22 0 6 ≤ 6 := by have := r.1; unfold R0 at this; omega
theorem Rel.hom {σ : Sg} (r : Rel σ) : 0 ≤ σ 22 0 2 ∧ σ 22 0 2 ≤ 100000 := by have := r.1; unfold R0 at this; omega
