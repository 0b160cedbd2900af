/-! the account of a well, in numbers: T has the rows 14 out, 15 to earn, 16 back at, 17 charged, 18 credited -/
def ac (σ : Sg) (w : Int) : Nat → Int → Int := fun c p => if 14 ≤ c ∧ c ≤ 18 ∧ 0 ≤ p ∧ p < 5 then σ c w p else 0
def shf (σ : Sg) : Int → Int := fun p => if 0 ≤ p ∧ p < 5 then σ 1 0 p else 0
def inw (sh : Int → Int) (T : Nat → Int → Int) : Int → Int := fun p => if T 14 p = 0 then sh p else 0
def osm (sh : Int → Int) (T : Nat → Int → Int) (a : Int) : Int := s5 (fun p => if T 14 p = 0 then 0 else dv a sh p)
def chp (sh : Int → Int) (T : Nat → Int → Int) (a : Int) (p : Int) : Int := dv (osm sh T a) (inw sh T) p + (if T 14 p = 0 then dv a sh p else 0)
def pn (o pen : Int) : Int := (o * pen + 99) / 100
def costS (sh : Int → Int) (pen a : Int) (T : Nat → Int → Int) : Nat → Int → Int := fun c p =>
  if c = 17 ∧ 0 ≤ p ∧ p < 5 then T 17 p + chp sh T a p else if c = 15 ∧ 0 ≤ p ∧ p < 5 then T 15 p + (if T 14 p = 0 then 0 else pn (dv a sh p) pen) else T c p
def tkn (sh : Int → Int) (T : Nat → Int → Int) (a : Int) (p : Int) : Int := if T 14 p = 0 then 0 else if T 15 p < dv a sh p then T 15 p else dv a sh p
/-- what comes to p of what is taken of the partners below q -/
def tks (sh : Int → Int) (T : Nat → Int → Int) (a p : Int) : Nat → Int
  | 0 => 0
  | n + 1 => tks sh T a p n + dv (tkn sh T a (n : Int)) (inw sh T) p
def incS (sh : Int → Int) (v a : Int) (T : Nat → Int → Int) : Nat → Int → Int := fun c p =>
  if 0 ≤ p ∧ p < 5 then
    if c = 15 then T 15 p - tkn sh T a p
    else if c = 18 then T 18 p + (dv a sh p - tkn sh T a p) + tks sh T a p 5
    else if c = 14 then (if T 14 p ≠ 0 ∧ T 15 p - tkn sh T a p = 0 then 0 else T 14 p)
    else if c = 16 then (if T 14 p ≠ 0 ∧ T 15 p - tkn sh T a p = 0 then v else T 16 p)
    else T c p
  else T c p
def stepS (sh : Int → Int) (pen v a : Int) (T : Nat → Int → Int) : Nat → Int → Int := if 0 < a then costS sh pen a T else incS sh v (-a) T
def foldS (sh : Int → Int) (pen : Int) (vw va : Int → Int) (w : Int) (T0 : Nat → Int → Int) : Nat → (Nat → Int → Int)
  | 0 => T0
  | n + 1 => if vw (n : Int) = w then stepS sh pen (n : Int) (va (n : Int)) (foldS sh pen vw va w T0 n) else foldS sh pen vw va w T0 n
/-- the account at the beginning, by the elections -/
def T0f (el : Int → Int) : Nat → Int → Int := fun c p => if 0 ≤ p ∧ p < 5 then (if c = 14 then el p else if c = 16 then -1 else 0) else 0
def Shk (sh : Int → Int) : Prop := (∀ p, 0 ≤ p → p < 5 → 0 ≤ sh p ∧ sh p ≤ 10000) ∧ s5 sh = 10000
theorem Shk.wt {sh : Int → Int} (h : Shk sh) : Wt sh := ⟨fun p a b => (h.1 p a b).1, by rw [h.2]; decide⟩
def Tin (sh : Int → Int) (T : Nat → Int → Int) : Prop := (∀ p, 0 ≤ p → p < 5 → T 14 p = 0 ∨ T 14 p = 1) ∧ 0 < s5 (inw sh T)
theorem inw_wt {sh : Int → Int} {T : Nat → Int → Int} (hs : Shk sh) (h : Tin sh T) : Wt (inw sh T) := ⟨fun p a b => by
  have := (hs.1 p a b).1
  unfold inw
  split <;> omega, h.2⟩
theorem ac_at {σ : Sg} {w : Int} {c : Nat} {p : Int} (h1 : 14 ≤ c) (h2 : c ≤ 18) (h3 : 0 ≤ p) (h4 : p < 5) : ac σ w c p = σ c w p := by unfold ac; rw [if_pos ⟨h1, h2, h3, h4⟩]
theorem shf_at {σ : Sg} {p : Int} (h3 : 0 ≤ p) (h4 : p < 5) : shf σ p = σ 1 0 p := by unfold shf; rw [if_pos ⟨h3, h4⟩]
/-- what the methods may use as they like -/
def Scr (a : Nat) : Prop := a = 8 ∨ a = 9 ∨ a = 10 ∨ a = 11
theorem osm_rng {sh : Int → Int} {T : Nat → Int → Int} {a : Int} (hs : Shk sh) (ha : 0 ≤ a) : 0 ≤ osm sh T a ∧ osm sh T a ≤ a := by
  have h := dv_nn ha hs.wt
  refine ⟨s5_nn (fun p a b => by have := h p a b; split <;> omega), ?_⟩
  have := s5_le (f := fun p => if T 14 p = 0 then 0 else dv a sh p) (g := dv a sh) (fun p a b => by have := h p a b; split <;> omega)
  rw [dv_sum hs.wt] at this
  exact this
theorem Wt.congr {w w' : Int → Int} (h : ∀ p, 0 ≤ p → p < 5 → w p = w' p) (hw : Wt w) : Wt w' := ⟨fun p a b => by rw [← h p a b]; exact hw.1 p a b, by rw [← s5_congr h]; exact hw.2⟩
def Fs (σ σ' : Sg) : Prop := ∀ (a : Nat) (b c : Int), (a < 8 ∨ 11 < a) → σ' a b c = σ a b c
def Fr (σ σ' : Sg) (w : Int) : Prop := ∀ (a : Nat) (b c : Int), (a < 8 ∨ 11 < a) → (a < 14 ∨ 18 < a ∨ b ≠ w ∨ c < 0 ∨ 5 ≤ c) → σ' a b c = σ a b c
theorem s5_sN (f : Int → Int) : s5 f = sN f 5 := (sN_5 f).symm
