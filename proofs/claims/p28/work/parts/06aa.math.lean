/-! numbers of the document: dividing among five, by greatest remainders -/
def s5 (f : Int → Int) : Int := f 0 + f 1 + f 2 + f 3 + f 4
theorem c5 {p : Int} (h0 : 0 ≤ p) (h : p < 5) : p = 0 ∨ p = 1 ∨ p = 2 ∨ p = 3 ∨ p = 4 := by omega
theorem p5 {P : Int → Prop} (h0 : P 0) (h1 : P 1) (h2 : P 2) (h3 : P 3) (h4 : P 4) : ∀ p, 0 ≤ p → p < 5 → P p := by
  intro p a b
  rcases c5 a b with rfl | rfl | rfl | rfl | rfl <;> assumption
theorem s5_congr {f g : Int → Int} (h : ∀ p, 0 ≤ p → p < 5 → f p = g p) : s5 f = s5 g := by
  unfold s5
  rw [h 0 (by decide) (by decide), h 1 (by decide) (by decide), h 2 (by decide) (by decide), h 3 (by decide) (by decide), h 4 (by decide) (by decide)]
theorem s5_add (f g : Int → Int) : s5 (fun p => f p + g p) = s5 f + s5 g := by simp only [s5]; omega
theorem s5_sub (f g : Int → Int) : s5 (fun p => f p - g p) = s5 f - s5 g := by simp only [s5]; omega
theorem s5_le {f g : Int → Int} (h : ∀ p, 0 ≤ p → p < 5 → f p ≤ g p) : s5 f ≤ s5 g := by
  unfold s5
  have := h 0 (by decide) (by decide); have := h 1 (by decide) (by decide); have := h 2 (by decide) (by decide); have := h 3 (by decide) (by decide); have := h 4 (by decide) (by decide)
  omega
theorem s5_nn {f : Int → Int} (h : ∀ p, 0 ≤ p → p < 5 → 0 ≤ f p) : 0 ≤ s5 f := by
  have := s5_le (f := fun _ => 0) (g := f) h
  exact this
theorem s5_part {f : Int → Int} (h : ∀ p, 0 ≤ p → p < 5 → 0 ≤ f p) : ∀ p, 0 ≤ p → p < 5 → f p ≤ s5 f := by
  have := h 0 (by decide) (by decide); have := h 1 (by decide) (by decide); have := h 2 (by decide) (by decide); have := h 3 (by decide) (by decide); have := h 4 (by decide) (by decide)
  unfold s5
  refine p5 ?_ ?_ ?_ ?_ ?_ <;> omega
def bf (r : Int → Int) (k j : Int) : Int := if r k < r j ∨ (r j = r k ∧ j < k) then 1 else 0
def ahd (r : Int → Int) (k : Int) : Int := s5 (bf r k)
def dq (a : Int) (w : Int → Int) (k : Int) : Int := a * w k / s5 w
def dr (a : Int) (w : Int → Int) (k : Int) : Int := a * w k % s5 w
def dl (a : Int) (w : Int → Int) : Int := a - s5 (dq a w)
def dv (a : Int) (w : Int → Int) (k : Int) : Int := dq a w k + (if ahd (dr a w) k < dl a w then 1 else 0)
def fgn (r : Int → Int) : Nat → Int
  | 0 => 0
  | n + 1 => if r (fgn r n) < r ((n : Int) + 1) then (n : Int) + 1 else fgn r n
theorem fgn_spec (r : Int → Int) : ∀ n : Nat, 0 ≤ fgn r n ∧ fgn r n ≤ (n : Int) ∧ (∀ j : Int, 0 ≤ j → j ≤ (n : Int) → r j ≤ r (fgn r n)) ∧ ∀ j : Int, 0 ≤ j → j < fgn r n → r j < r (fgn r n) := by
  intro n
  induction n with
  | zero =>
    refine ⟨by simp [fgn], by simp [fgn], fun j h1 h2 => ?_, fun j h1 h2 => ?_⟩
    · have : j = 0 := by simp at h2; omega
      subst this
      simp [fgn]
    · simp [fgn] at h2; omega
  | succ n ih =>
    obtain ⟨i1, i2, i3, i4⟩ := ih
    by_cases hc : r (fgn r n) < r ((n : Int) + 1)
    · have e : fgn r (n + 1) = (n : Int) + 1 := by simp [fgn, hc]
      rw [e]
      refine ⟨by omega, by simp, fun j h1 h2 => ?_, fun j h1 h2 => ?_⟩
      · by_cases hj : j = (n : Int) + 1
        · rw [hj]; exact Int.le_refl _
        · have := i3 j h1 (by simp at h2; omega)
          omega
      · have := i3 j h1 (by omega)
        omega
    · have e : fgn r (n + 1) = fgn r n := by simp [fgn, hc]
      rw [e]
      refine ⟨i1, by simp; omega, fun j h1 h2 => ?_, i4⟩
      by_cases hj : j = (n : Int) + 1
      · rw [hj]; omega
      · exact i3 j h1 (by simp at h2; omega)
theorem fgn_congr {r r' : Int → Int} : ∀ n : Nat, (∀ j : Int, 0 ≤ j → j ≤ (n : Int) → r j = r' j) → fgn r n = fgn r' n := by
  intro n
  induction n with
  | zero => intro _; rfl
  | succ n ih =>
    intro h
    have e := ih (fun j h1 h2 => h j h1 (by simp; omega))
    have b := fgn_spec r' n
    simp only [fgn, e]
    rw [h (fgn r' n) b.1 (by simp; omega), h ((n : Int) + 1) (by omega) (by simp)]
def Chs (r ch : Int → Int) (g : Int) : Prop := (∀ k, 0 ≤ k → k < 5 → ch k = 0 ∨ ch k = 1) ∧ s5 ch = g ∧ ∀ j k, 0 ≤ j → j < 5 → 0 ≤ k → k < 5 → ch j = 1 → ch k = 0 → r k < r j ∨ (r j = r k ∧ j < k)
def rmc (r ch : Int → Int) (k : Int) : Int := if ch k = 1 then -1 else r k
theorem Chs_0 (r : Int → Int) : Chs r (fun _ => 0) 0 := ⟨fun _ _ _ => Or.inl rfl, rfl, fun _ _ _ _ _ _ h => by simp at h⟩
theorem Chs_step {r ch : Int → Int} {g : Int} (hr : ∀ k, 0 ≤ k → k < 5 → 0 ≤ r k) (h : Chs r ch g) (hg : g < 5) : 0 ≤ fgn (rmc r ch) 4 ∧ fgn (rmc r ch) 4 < 5 ∧ ch (fgn (rmc r ch) 4) = 0 ∧ Chs r (fun k => if k = fgn (rmc r ch) 4 then 1 else ch k) (g + 1) := by
  obtain ⟨h1, h2, h3⟩ := h
  obtain ⟨b0, b4, bm, bf⟩ := fgn_spec (rmc r ch) 4
  generalize hb : fgn (rmc r ch) 4 = b at b0 b4 bm bf ⊢
  have b5 : b < 5 := by omega
  have hex : ∃ k, 0 ≤ k ∧ k < 5 ∧ ch k = 0 := by
    apply Classical.byContradiction
    intro hn
    have key : ∀ k, 0 ≤ k → k < 5 → ch k = 1 := fun k a c => (h1 k a c).resolve_left (fun z => hn ⟨k, a, c, z⟩)
    have e : s5 ch = 5 := by rw [s5_congr (g := fun _ => 1) key]; rfl
    omega
  obtain ⟨k, k0, k5, hk⟩ := hex
  have hch : ch b = 0 := by
    rcases h1 b b0 b5 with e | e
    · exact e
    · have x1 := bm k k0 (by omega)
      have x2 := hr k k0 k5
      simp only [rmc, e, hk] at x1
      simp at x1
      omega
  refine ⟨b0, b5, hch, fun j a c => ?_, ?_, fun j k a1 a2 a3 a4 hj hk => ?_⟩
  · dsimp only
    split
    · exact Or.inr rfl
    · exact h1 j a c
  · have e : s5 (fun k => if k = b then 1 else ch k) = s5 ch + 1 := by
      unfold s5
      rcases c5 b0 b5 with rfl | rfl | rfl | rfl | rfl <;> simp <;> omega
    omega
  · dsimp only at hj hk
    by_cases e2 : k = b
    · simp [e2] at hk
    · rw [if_neg e2] at hk
      by_cases e1 : j = b
      · subst e1
        have x1 := bm k a3 (by omega)
        have x2 := bf k a3
        simp only [rmc, hch, hk] at x1 x2
        simp at x1 x2
        omega
      · rw [if_neg e1] at hj
        exact h3 j k a1 a2 a3 a4 hj hk
theorem Chs_ahd {r ch : Int → Int} {g : Int} (h : Chs r ch g) : ∀ k, 0 ≤ k → k < 5 → ch k = if ahd r k < g then 1 else 0 := by
  obtain ⟨h1, h2, h3⟩ := h
  intro k k0 k5
  have t : ∀ j, 0 ≤ j → j < 5 → (ch k = 1 → bf r k j ≤ ch j ∧ (j = k → bf r k j = 0)) ∧ (ch k = 0 → ch j ≤ bf r k j) := by
    intro j j0 j5
    refine ⟨fun hk => ⟨?_, fun e => ?_⟩, fun hk => ?_⟩
    · rcases h1 j j0 j5 with e | e
      · have := h3 k j k0 k5 j0 j5 hk e
        simp only [bf]
        rw [if_neg (by omega)]
        omega
      · simp only [bf]; split <;> omega
    · subst e
      simp only [bf]
      rw [if_neg (by omega)]
    · rcases h1 j j0 j5 with e | e
      · simp only [bf]; split <;> omega
      · have := h3 j k j0 j5 k0 k5 e hk
        simp only [bf]
        rw [if_pos this]
        omega
  have t0 := t 0 (by decide) (by decide); have t1 := t 1 (by decide) (by decide); have t2 := t 2 (by decide) (by decide); have t3 := t 3 (by decide) (by decide); have t4 := t 4 (by decide) (by decide)
  unfold ahd s5
  unfold s5 at h2
  rcases h1 k k0 k5 with hk | hk
  · rw [if_neg]
    · exact hk
    · have := t0.2 hk; have := t1.2 hk; have := t2.2 hk; have := t3.2 hk; have := t4.2 hk
      omega
  · rw [if_pos]
    · exact hk
    · have u0 := t0.1 hk; have u1 := t1.1 hk; have u2 := t2.1 hk; have u3 := t3.1 hk; have u4 := t4.1 hk
      rcases c5 k0 k5 with e | e | e | e | e <;> subst e
      · have := u0.2 rfl; omega
      · have := u1.2 rfl; omega
      · have := u2.2 rfl; omega
      · have := u3.2 rfl; omega
      · have := u4.2 rfl; omega
theorem Chs_all {r : Int → Int} (hr : ∀ k, 0 ≤ k → k < 5 → 0 ≤ r k) : ∀ n : Nat, n ≤ 5 → ∃ ch, Chs r ch (n : Int) := by
  intro n
  induction n with
  | zero => intro _; exact ⟨_, Chs_0 r⟩
  | succ n ih =>
    intro h
    obtain ⟨ch, hc⟩ := ih (by omega)
    exact ⟨_, by have := (Chs_step hr hc (by omega)).2.2.2; rw [Int.natCast_succ]; exact this⟩
/-- weights that can be divided by -/
def Wt (w : Int → Int) : Prop := (∀ p, 0 ≤ p → p < 5 → 0 ≤ w p) ∧ 0 < s5 w
theorem dr_nn (a : Int) {w : Int → Int} (h : Wt w) (k : Int) : 0 ≤ dr a w k ∧ dr a w k < s5 w := ⟨Int.emod_nonneg _ (by have := h.2; omega), Int.emod_lt_of_pos _ h.2⟩
theorem dq_nn {a : Int} (ha : 0 ≤ a) {w : Int → Int} (h : Wt w) {k : Int} (k0 : 0 ≤ k) (k5 : k < 5) : 0 ≤ dq a w k := Int.ediv_nonneg (Int.mul_nonneg ha (h.1 k k0 k5)) (by have := h.2; omega)
theorem dl_mul (a : Int) {w : Int → Int} (h : Wt w) : dl a w * s5 w = s5 (dr a w) := by
  have e : ∀ k, s5 w * dq a w k + dr a w k = a * w k := fun k => Int.mul_ediv_add_emod _ _
  have e0 := e 0; have e1 := e 1; have e2 := e 2; have e3 := e 3; have e4 := e 4
  have h1 : s5 w * s5 (dq a w) + s5 (dr a w) = a * s5 w := by
    have x1 : s5 w * s5 (dq a w) = s5 w * dq a w 0 + s5 w * dq a w 1 + s5 w * dq a w 2 + s5 w * dq a w 3 + s5 w * dq a w 4 := by
      conv => lhs; rhs; unfold s5
      rw [Int.mul_add, Int.mul_add, Int.mul_add, Int.mul_add]
    have x2 : a * s5 w = a * w 0 + a * w 1 + a * w 2 + a * w 3 + a * w 4 := by
      unfold s5
      rw [Int.mul_add, Int.mul_add, Int.mul_add, Int.mul_add]
    have x3 : s5 (dr a w) = dr a w 0 + dr a w 1 + dr a w 2 + dr a w 3 + dr a w 4 := rfl
    omega
  unfold dl
  rw [Int.sub_mul, Int.mul_comm (s5 (dq a w))]
  omega
theorem dl_rng (a : Int) {w : Int → Int} (h : Wt w) : 0 ≤ dl a w ∧ dl a w < 5 := by
  have e := dl_mul a h
  have hS := h.2
  have r := fun k => dr_nn a h k
  have x : s5 (dr a w) = dr a w 0 + dr a w 1 + dr a w 2 + dr a w 3 + dr a w 4 := rfl
  have r0 := r 0; have r1 := r 1; have r2 := r 2; have r3 := r 3; have r4 := r 4
  constructor
  · apply Classical.byContradiction
    intro hn
    have : dl a w * s5 w ≤ (-1) * s5 w := Int.mul_le_mul_of_nonneg_right (by omega) (by omega)
    omega
  · apply Classical.byContradiction
    intro hn
    have : 5 * s5 w ≤ dl a w * s5 w := Int.mul_le_mul_of_nonneg_right (by omega) (by omega)
    omega
theorem dv_ch {a : Int} {w : Int → Int} (h : Wt w) : ∃ ch, Chs (dr a w) ch (dl a w) ∧ ∀ k, 0 ≤ k → k < 5 → dv a w k = dq a w k + ch k := by
  have hl := dl_rng a h
  obtain ⟨ch, hc⟩ := Chs_all (r := dr a w) (fun k _ _ => (dr_nn a h k).1) (dl a w).toNat (by omega)
  rw [Int.toNat_of_nonneg hl.1] at hc
  exact ⟨ch, hc, fun k k0 k5 => by rw [Chs_ahd hc k k0 k5]; rfl⟩
theorem dv_sum {a : Int} {w : Int → Int} (h : Wt w) : s5 (dv a w) = a := by
  obtain ⟨ch, hc, hv⟩ := dv_ch (a := a) h
  rw [s5_congr hv, s5_add, hc.2.1]
  unfold dl
  omega
theorem dv_nn {a : Int} (ha : 0 ≤ a) {w : Int → Int} (h : Wt w) : ∀ k, 0 ≤ k → k < 5 → 0 ≤ dv a w k := by
  intro k k0 k5
  have := dq_nn ha h k0 k5
  unfold dv
  split <;> omega
theorem dv_le {a : Int} (ha : 0 ≤ a) {w : Int → Int} (h : Wt w) : ∀ k, 0 ≤ k → k < 5 → dv a w k ≤ a := by
  intro k k0 k5
  have := s5_part (dv_nn ha h) k k0 k5
  rw [dv_sum h] at this
  exact this
theorem ahd_w0 (a : Int) {w : Int → Int} (h : Wt w) {k : Int} (hw : w k = 0) : dl a w ≤ ahd (dr a w) k := by
  have e := dl_mul a h
  have hl := dl_rng a h
  have rk : dr a w k = 0 := by unfold dr; rw [hw]; simp
  have r := fun j => dr_nn a h j
  have b : ∀ j, dr a w j ≤ bf (dr a w) k j * s5 w := by
    intro j
    have := r j
    by_cases hj : dr a w j = 0
    · rw [hj]
      simp only [bf]
      split
      · rw [Int.one_mul]; omega
      · omega
    · simp only [bf]
      rw [if_pos (by omega), Int.one_mul]
      omega
  have b0 := b 0; have b1 := b 1; have b2 := b 2; have b3 := b 3; have b4 := b 4
  have x : s5 (dr a w) = dr a w 0 + dr a w 1 + dr a w 2 + dr a w 3 + dr a w 4 := rfl
  have y : ahd (dr a w) k * s5 w = bf (dr a w) k 0 * s5 w + bf (dr a w) k 1 * s5 w + bf (dr a w) k 2 * s5 w + bf (dr a w) k 3 * s5 w + bf (dr a w) k 4 * s5 w := by
    unfold ahd
    conv => lhs; lhs; unfold s5
    rw [Int.add_mul, Int.add_mul, Int.add_mul, Int.add_mul]
  have hS := h.2
  exact Int.le_of_mul_le_mul_right (show dl a w * s5 w ≤ ahd (dr a w) k * s5 w by omega) hS
theorem dv_w0 (a : Int) {w : Int → Int} (h : Wt w) {k : Int} (hw : w k = 0) : dv a w k = 0 := by
  have := ahd_w0 a h hw
  unfold dv
  rw [if_neg (by omega)]
  unfold dq
  rw [hw]
  simp
theorem dv_0 {w : Int → Int} (h : Wt w) : ∀ k, 0 ≤ k → k < 5 → dv 0 w k = 0 := by
  intro k k0 k5
  have h1 := dv_nn (a := 0) (by decide) h k k0 k5
  have h2 := dv_le (a := 0) (by decide) h k k0 k5
  omega
theorem dv_congr {a : Int} {w w' : Int → Int} (h : ∀ p, 0 ≤ p → p < 5 → w p = w' p) : ∀ k, 0 ≤ k → k < 5 → dv a w k = dv a w' k := by
  intro k k0 k5
  have e : s5 w = s5 w' := s5_congr h
  have eq : ∀ p, 0 ≤ p → p < 5 → dq a w p = dq a w' p := fun p a1 a2 => by unfold dq; rw [e, h p a1 a2]
  have er : ∀ p, 0 ≤ p → p < 5 → dr a w p = dr a w' p := fun p a1 a2 => by unfold dr; rw [e, h p a1 a2]
  have el : dl a w = dl a w' := by unfold dl; rw [s5_congr eq]
  have ea : ahd (dr a w) k = ahd (dr a w') k := by
    unfold ahd
    exact s5_congr (fun p a1 a2 => by simp only [bf]; rw [er k k0 k5, er p a1 a2])
  unfold dv
  rw [eq k k0 k5, el, ea]
/-! a stretch of a row written anew -/
def sf (σ : Sg) (kd : Nat) (k : Int) (n : Int) (f : Int → Int) : Sg := fun a b c => if a = kd ∧ b = k ∧ 0 ≤ c ∧ c < n then f c else σ a b c
theorem sf_0 (σ : Sg) (kd : Nat) (k : Int) (f : Int → Int) : sf σ kd k 0 f = σ := by
  funext a b c
  simp only [sf]
  rw [if_neg (by omega)]
theorem sf_su {σ : Sg} {kd : Nat} {k n v : Int} {f : Int → Int} (h : 0 ≤ n) (hv : v = f n) : su (sf σ kd k n f) kd k n v = sf σ kd k (n + 1) f := by
  funext a b c
  simp only [su, sf]
  by_cases h1 : a = kd ∧ b = k ∧ c = n
  · obtain ⟨rfl, rfl, rfl⟩ := h1
    rw [if_pos ⟨rfl, rfl, rfl⟩, if_pos ⟨rfl, rfl, h, by omega⟩, hv]
  · rw [if_neg h1]
    by_cases h2 : a = kd ∧ b = k ∧ 0 ≤ c ∧ c < n
    · rw [if_pos h2, if_pos ⟨h2.1, h2.2.1, h2.2.2.1, by omega⟩]
    · rw [if_neg h2, if_neg (fun z => by
        obtain ⟨z1, z2, z3, z4⟩ := z
        by_cases hc : c = n
        · exact h1 ⟨z1, z2, hc⟩
        · exact h2 ⟨z1, z2, z3, by omega⟩)]
theorem sf_at {σ : Sg} {kd : Nat} {k n c : Int} {f : Int → Int} (h0 : 0 ≤ c) (h : c < n) : sf σ kd k n f kd k c = f c := by unfold sf; rw [if_pos ⟨rfl, rfl, h0, h⟩]
theorem sf_ge {σ : Sg} {kd : Nat} {k n c : Int} {f : Int → Int} (h : n ≤ c) : sf σ kd k n f kd k c = σ kd k c := by unfold sf; rw [if_neg (by omega)]
theorem sf_ne {σ : Sg} {kd a : Nat} {k n b c : Int} {f : Int → Int} (h : a ≠ kd ∨ b ≠ k) : sf σ kd k n f a b c = σ a b c := by unfold sf; rw [if_neg (fun z => h.elim (fun w => w z.1) (fun w => w z.2.1))]
theorem sf_nk {σ : Sg} {kd a : Nat} {k n b c : Int} {f : Int → Int} (h : a ≠ kd) : sf σ kd k n f a b c = σ a b c := sf_ne (Or.inl h)
theorem sf_cg {σ : Sg} {kd : Nat} {k n : Int} {f g : Int → Int} (h : ∀ c, 0 ≤ c → c < n → f c = g c) : sf σ kd k n f = sf σ kd k n g := by
  funext a b c
  simp only [sf]
  by_cases h2 : a = kd ∧ b = k ∧ 0 ≤ c ∧ c < n
  · rw [if_pos h2, if_pos h2, h c h2.2.2.1 h2.2.2.2]
  · rw [if_neg h2, if_neg h2]
theorem su_nk {σ : Sg} {kd a : Nat} {k j v b c : Int} (h : a ≠ kd) : su σ kd k j v a b c = σ a b c := by unfold su; rw [if_neg (fun z => h z.1)]
theorem su_at {σ : Sg} {kd : Nat} {k j v : Int} : su σ kd k j v kd k j = v := by unfold su; rw [if_pos ⟨rfl, rfl, rfl⟩]
theorem su_ne {σ : Sg} {kd : Nat} {k j v b c : Int} (h : b ≠ k ∨ c ≠ j) : su σ kd k j v kd b c = σ kd b c := by unfold su; rw [if_neg (fun z => h.elim (fun w => w z.2.1) (fun w => w z.2.2))]
def sN (w : Int → Int) : Nat → Int
  | 0 => 0
  | n + 1 => sN w n + w (n : Int)
theorem sN_5 (w : Int → Int) : sN w 5 = s5 w := by simp [sN, s5]
theorem sN_nn {w : Int → Int} (h : ∀ p, 0 ≤ p → p < 5 → 0 ≤ w p) : ∀ n : Nat, n ≤ 5 → 0 ≤ sN w n := by
  intro n
  induction n with
  | zero => intro _; exact Int.le_refl _
  | succ n ih => intro hn; have := ih (by omega); have := h n (by omega) (by omega); simp only [sN]; omega
theorem sf2_step {σ : Sg} {pk : Nat} {pi i q r : Int} {f g : Int → Int} (h0 : 0 ≤ i) (hp : pk ≠ 8) (hq : q = g i) (hr : r = f i) : su (su (sf (sf σ 8 0 i f) pk pi i g) pk pi i q) 8 0 i r = sf (sf σ 8 0 (i + 1) f) pk pi (i + 1) g := by
  rw [sf_su h0 hq]
  funext a b c
  simp only [su, sf]
  by_cases h1 : a = pk
  · subst h1
    simp only [hp, false_and, if_false]
  · simp only [h1, false_and, if_false]
    by_cases h2 : a = 8 ∧ b = 0
    · obtain ⟨rfl, rfl⟩ := h2
      simp only [true_and]
      by_cases h3 : c = i
      · subst h3
        rw [if_pos rfl, if_pos (by omega), hr]
      · rw [if_neg h3]
        by_cases h4 : 0 ≤ c ∧ c < i
        · rw [if_pos h4, if_pos (by omega)]
        · rw [if_neg h4, if_neg (by omega)]
    · rw [if_neg (by omega), if_neg (by omega), if_neg (by omega)]
theorem sf2_put {σ : Sg} {pk : Nat} {pi b v r : Int} {f g : Int → Int} (h0 : 0 ≤ b) (h5 : b < 5) (hp : pk ≠ 8) : su (su (sf (sf σ 8 0 5 f) pk pi 5 g) pk pi b v) 8 0 b r = sf (sf σ 8 0 5 (fun k => if k = b then r else f k)) pk pi 5 (fun k => if k = b then v else g k) := by
  funext x y c
  simp only [su, sf]
  grind
theorem mul_rng {a b : Int} (ha : 0 ≤ a ∧ a < 2147483648) (hb : 0 ≤ b ∧ b < 2147483648) : 0 ≤ a * b ∧ a * b < 9223372036854775808 := by
  refine ⟨Int.mul_nonneg ha.1 hb.1, ?_⟩
  have : a * b ≤ 2147483648 * 2147483648 := Int.mul_le_mul (by omega) (by omega) hb.1 (by omega)
  omega
theorem sf2_st {σ : Sg} {a b : Nat} {x i u v : Int} {f g : Int → Int} (h0 : 0 ≤ i) (hab : a ≠ b) (hu : u = f i) (hv : v = g i) : su (su (sf (sf σ a x i f) b x i g) a x i u) b x i v = sf (sf σ a x (i + 1) f) b x (i + 1) g := by
  subst hu; subst hv
  funext A B C
  simp only [su, sf]
  grind
theorem sf2_id {σ : Sg} {a b : Nat} {x i : Int} {f g : Int → Int} (h0 : 0 ≤ i) (hab : a ≠ b) (hu : σ a x i = f i) (hv : σ b x i = g i) : sf (sf σ a x i f) b x i g = sf (sf σ a x (i + 1) f) b x (i + 1) g := by
  funext A B C
  simp only [sf]
  grind
theorem sf2_cg {σ : Sg} {a b : Nat} {x y n m : Int} {f f' g g' : Int → Int} (hf : ∀ k, f k = f' k) (hg : ∀ k, g k = g' k) : sf (sf σ a x n f) b y m g = sf (sf σ a x n f') b y m g' := by rw [funext hf, funext hg]
theorem su_ne3 {σ : Sg} {kd a : Nat} {k j v b c : Int} (h : a ≠ kd ∨ b ≠ k ∨ c ≠ j) : su σ kd k j v a b c = σ a b c := by unfold su; rw [if_neg (fun z => h.elim (fun w => w z.1) (fun w => w.elim (fun w => w z.2.1) (fun w => w z.2.2)))]
theorem sf_nr {σ : Sg} {kd a : Nat} {k n b c : Int} {f : Int → Int} (h : a ≠ kd ∨ b ≠ k ∨ c < 0 ∨ n ≤ c) : sf σ kd k n f a b c = σ a b c := by unfold sf; rw [if_neg (by omega)]
