/-! the law's way of dividing: cents given by a mask, and by the greatest rest among those not given -/
def p2 (k : Int) : Int := if k = 0 then 1 else if k = 1 then 2 else if k = 2 then 4 else if k = 3 then 8 else 16
def shg (g k : Int) : Int := g / p2 k
def chg (g k : Int) : Int := shg g k % 2
theorem fin32 {P : Int → Int → Prop} (h : ∀ g : Fin 32, ∀ k : Fin 5, P (g.val : Int) (k.val : Int)) {g k : Int} (g0 : 0 ≤ g) (g1 : g < 32) (k0 : 0 ≤ k) (k1 : k < 5) : P g k := by
  have := h ⟨g.toNat, by omega⟩ ⟨k.toNat, by omega⟩
  rw [show ((g.toNat : Nat) : Int) = g from by omega, show ((k.toNat : Nat) : Int) = k from by omega] at this
  exact this
theorem shr_ok {g k : Int} (g0 : 0 ≤ g) (g1 : g < 32) (k0 : 0 ≤ k) (k1 : k < 5) : iI g >>> (iI k &&& 31) = iI (shg g k) := fin32 (P := fun g k => iI g >>> (iI k &&& 31) = iI (shg g k)) (by decide +kernel) g0 g1 k0 k1
theorem and1_ok {g k : Int} (g0 : 0 ≤ g) (g1 : g < 32) (k0 : 0 ≤ k) (k1 : k < 5) : iI (shg g k) &&& iI 1 = iI (chg g k) := fin32 (P := fun g k => iI (shg g k) &&& iI 1 = iI (chg g k)) (by decide +kernel) g0 g1 k0 k1
theorem shl_ok {k : Int} (k0 : 0 ≤ k) (k1 : k < 5) : iI 1 <<< (iI k &&& 31) = iI (p2 k) := fin32 (P := fun _ k => iI 1 <<< (iI k &&& 31) = iI (p2 k)) (by decide +kernel) (show (0 : Int) ≤ 0 by decide) (by decide) k0 k1
theorem or_ok {g k : Int} (g0 : 0 ≤ g) (g1 : g < 32) (k0 : 0 ≤ k) (k1 : k < 5) : chg g k = 0 → iI g ||| iI (p2 k) = iI (g + p2 k) ∧ g + p2 k < 32 := fin32 (P := fun g k => chg g k = 0 → iI g ||| iI (p2 k) = iI (g + p2 k) ∧ g + p2 k < 32) (by decide +kernel) g0 g1 k0 k1
theorem p2_nn (k : Int) : 0 ≤ p2 k := by unfold p2; split <;> (try split) <;> (try split) <;> (try split) <;> decide
theorem chg_01 (g k : Int) : chg g k = 0 ∨ chg g k = 1 := by unfold chg; omega
theorem chg_add5 : ∀ g : Fin 32, ∀ b : Fin 5, chg (g.val : Int) (b.val : Int) = 0 → ∀ k : Fin 5, chg ((g.val : Int) + p2 (b.val : Int)) (k.val : Int) = if (k.val : Int) = (b.val : Int) then 1 else chg (g.val : Int) (k.val : Int) := by decide +kernel
theorem chg_add {g b : Int} (g0 : 0 ≤ g) (g1 : g < 32) (b0 : 0 ≤ b) (b1 : b < 5) (h : chg g b = 0) : ∀ k, 0 ≤ k → k < 5 → chg (g + p2 b) k = if k = b then 1 else chg g k := by
  intro k k0 k5
  have := chg_add5 ⟨g.toNat, by omega⟩ ⟨b.toNat, by omega⟩
  dsimp only at this
  rw [show ((g.toNat : Nat) : Int) = g from by omega, show ((b.toNat : Nat) : Int) = b from by omega] at this
  have t := this h ⟨k.toNat, by omega⟩
  dsimp only at t
  rw [show ((k.toNat : Nat) : Int) = k from by omega] at t
  exact t
theorem chg_0 : ∀ k, 0 ≤ k → k < 5 → chg 0 k = 0 := p5 (by decide) (by decide) (by decide) (by decide) (by decide)
/-- the best of the first n -/
def bst (r ch : Int → Int) : Nat → Int
  | 0 => -1
  | n + 1 => if ch (n : Int) = 0 ∧ (bst r ch n < 0 ∨ r (bst r ch n) < r (n : Int)) then (n : Int) else bst r ch n
theorem bst_spec (r ch : Int → Int) : ∀ n : Nat, (bst r ch n = -1 ∧ ∀ j : Int, 0 ≤ j → j < n → ¬ ch j = 0) ∨ (0 ≤ bst r ch n ∧ bst r ch n < n ∧ ch (bst r ch n) = 0 ∧ (∀ j : Int, 0 ≤ j → j < n → ch j = 0 → r j ≤ r (bst r ch n)) ∧ ∀ j : Int, 0 ≤ j → j < bst r ch n → ch j = 0 → r j < r (bst r ch n)) := by
  intro n
  induction n with
  | zero => exact Or.inl ⟨rfl, fun j a b => by omega⟩
  | succ n ih =>
    by_cases hc : ch (n : Int) = 0 ∧ (bst r ch n < 0 ∨ r (bst r ch n) < r (n : Int))
    · have e : bst r ch (n + 1) = (n : Int) := by simp only [bst]; rw [if_pos hc]
      rw [e]
      refine Or.inr ⟨by omega, by omega, hc.1, fun j a b c => ?_, fun j a b c => ?_⟩
      · by_cases hj : j = n
        · rw [hj]; exact Int.le_refl _
        · rcases ih with ⟨i1, i2⟩ | ⟨i1, i2, i3, i4, i5⟩
          · exact absurd c (i2 j a (by omega))
          · have := i4 j a (by omega) c
            omega
      · rcases ih with ⟨i1, i2⟩ | ⟨i1, i2, i3, i4, i5⟩
        · exact absurd c (i2 j a (by omega))
        · have := i4 j a (by omega) c
          omega
    · have e : bst r ch (n + 1) = bst r ch n := by simp only [bst]; rw [if_neg hc]
      rw [e]
      rcases ih with ⟨i1, i2⟩ | ⟨i1, i2, i3, i4, i5⟩
      · refine Or.inl ⟨i1, fun j a b c => ?_⟩
        by_cases hj : j = n
        · subst hj
          exact hc ⟨c, Or.inl (by omega)⟩
        · exact i2 j a (by omega) c
      · refine Or.inr ⟨i1, by omega, i3, fun j a b c => ?_, i5⟩
        by_cases hj : j = n
        · rw [hj] at c ⊢
          by_cases hl : r (n : Int) ≤ r (bst r ch n)
          · exact hl
          · exact absurd ⟨c, Or.inr (by omega)⟩ hc
        · exact i4 j a (by omega) c
theorem bst_step {r ch : Int → Int} {g : Int} (h : Chs r ch g) (hg : g < 5) : 0 ≤ bst r ch 5 ∧ bst r ch 5 < 5 ∧ ch (bst r ch 5) = 0 ∧ Chs r (fun k => if k = bst r ch 5 then 1 else ch k) (g + 1) := by
  obtain ⟨h1, h2, h3⟩ := h
  have hex : ∃ k, 0 ≤ k ∧ k < 5 ∧ ch k = 0 := by
    apply Classical.byContradiction
    intro hn
    have key : ∀ k, 0 ≤ k → k < 5 → ch k = 1 := fun k a c => (h1 k a c).resolve_left (fun z => hn ⟨k, a, c, z⟩)
    have e : s5 ch = 5 := by rw [s5_congr (g := fun _ => 1) key]; rfl
    omega
  obtain ⟨k, k0, k5, hk⟩ := hex
  rcases bst_spec r ch 5 with ⟨i1, i2⟩ | ⟨i1, i2, i3, i4, i5⟩
  · exact absurd hk (i2 k k0 (by omega))
  generalize bst r ch 5 = b at i1 i2 i3 i4 i5 ⊢
  have b5 : b < 5 := by omega
  refine ⟨i1, b5, i3, fun j a c => ?_, ?_, fun j k a1 a2 a3 a4 hj hk => ?_⟩
  · dsimp only
    split
    · exact Or.inr rfl
    · exact h1 j a c
  · have e : s5 (fun k => if k = b then 1 else ch k) = s5 ch + 1 := by
      unfold s5
      rcases c5 i1 b5 with rfl | rfl | rfl | rfl | rfl <;> simp <;> omega
    omega
  · dsimp only at hj hk
    by_cases e2 : k = b
    · simp [e2] at hk
    · rw [if_neg e2] at hk
      by_cases e1 : j = b
      · subst e1
        have x1 := i4 k a3 (by omega) hk
        by_cases hl : k < j
        · have := i5 k a3 hl hk
          omega
        · omega
      · rw [if_neg e1] at hj
        exact h3 j k a1 a2 a3 a4 hj hk
theorem Chs.congr {r ch ch' : Int → Int} {g : Int} (h : Chs r ch g) (e : ∀ k, 0 ≤ k → k < 5 → ch' k = ch k) : Chs r ch' g := by
  obtain ⟨h1, h2, h3⟩ := h
  refine ⟨fun k a b => by rw [e k a b]; exact h1 k a b, by rw [s5_congr e]; exact h2, fun j k a1 a2 a3 a4 hj hk => ?_⟩
  rw [e j a1 a2] at hj
  rw [e k a3 a4] at hk
  exact h3 j k a1 a2 a3 a4 hj hk
theorem mul_rng2 {a b : Int} (ha : 0 ≤ a ∧ a ≤ 1000000000) (hb : 0 ≤ b ∧ b ≤ 1000000000) : 0 ≤ a * b ∧ a * b < 9223372036854775808 := by
  refine ⟨Int.mul_nonneg ha.1 hb.1, ?_⟩
  have : a * b ≤ 1000000000 * 1000000000 := Int.mul_le_mul ha.2 hb.2 hb.1 (by decide)
  omega
