/-! the reference's side -/
def gcd3 (f s t : Int) : Int := if f = 0 then 1 else if s = 0 then 2 else if t = 0 then 3 else 0
def shm (σ : Sg) : Int → Int := fun q => if 0 ≤ q ∧ q < 5 then σ 23 0 q else 0
def inm (σ : Sg) : Int → Int := fun q => if σ 33 0 q = 0 then 0 else shm σ q
def mT (σ : Sg) : Nat → Int → Int := fun c q => if 14 ≤ c ∧ c ≤ 18 ∧ 0 ≤ q ∧ q < 5 then (if c = 14 then (if 0 < σ 23 0 q ∧ σ 33 0 q = 0 then 1 else 0) else σ (c + 19) 0 q) else 0
theorem mT_z (σ : Sg) : Tz (mT σ) := fun c q h => by unfold mT; rw [if_neg (by omega)]
theorem mT_14 {σ : Sg} {q : Int} (h0 : 0 ≤ q) (h5 : q < 5) : mT σ 14 q = if 0 < σ 23 0 q ∧ σ 33 0 q = 0 then 1 else 0 := by unfold mT; rw [if_pos ⟨by decide, by decide, h0, h5⟩, if_pos rfl]
theorem mT_c {σ : Sg} {c : Nat} {q : Int} (h1 : 15 ≤ c) (h2 : c ≤ 18) (h0 : 0 ≤ q) (h5 : q < 5) : mT σ c q = σ (c + 19) 0 q := by unfold mT; rw [if_pos ⟨by omega, h2, h0, h5⟩, if_neg (by omega)]
theorem shm_at {σ : Sg} {q : Int} (h0 : 0 ≤ q) (h5 : q < 5) : shm σ q = σ 23 0 q := by unfold shm; rw [if_pos ⟨h0, h5⟩]
theorem shm_congr {σ σ' : Sg} (h : ∀ q, 0 ≤ q → q < 5 → σ' 23 0 q = σ 23 0 q) : shm σ' = shm σ := by
  funext q
  unfold shm
  by_cases hq : 0 ≤ q ∧ q < 5
  · rw [if_pos hq, if_pos hq, h q hq.1 hq.2]
  · rw [if_neg hq, if_neg hq]
theorem mT_ext {σ : Sg} {T : Nat → Int → Int} (hz : Tz T) (h14 : ∀ q, 0 ≤ q → q < 5 → (if 0 < σ 23 0 q ∧ σ 33 0 q = 0 then (1 : Int) else 0) = T 14 q) (h : ∀ (c : Nat) (q : Int), 15 ≤ c → c ≤ 18 → 0 ≤ q → q < 5 → σ (c + 19) 0 q = T c q) : mT σ = T := by
  funext c q
  by_cases hc : 14 ≤ c ∧ c ≤ 18 ∧ 0 ≤ q ∧ q < 5
  · by_cases e : c = 14
    · subst e; rw [mT_14 hc.2.2.1 hc.2.2.2]; exact h14 q hc.2.2.1 hc.2.2.2
    · rw [mT_c (by omega) hc.2.1 hc.2.2.1 hc.2.2.2]; exact h c q (by omega) hc.2.1 hc.2.2.1 hc.2.2.2
  · rw [mT_z σ c q (by omega), hz c q (by omega)]
/-- in by shares: the reference's weights are the account's -/
theorem inm_eq {σ : Sg} (hs : ∀ q, 0 ≤ q → q < 5 → 0 ≤ σ 23 0 q) (h : ∀ q, 0 ≤ q → q < 5 → σ 33 0 q = 0 ∨ σ 33 0 q = 1) : ∀ q, 0 ≤ q → q < 5 → inm σ q = inw (shm σ) (mT σ) q := by
  intro q a b
  unfold inm inw
  rw [mT_14 a b, shm_at a b]
  have := hs q a b
  grind
def elm (σ : Sg) (w : Int) : Int → Int := fun q => if 0 < σ 23 0 q ∧ ¬ σ 26 0 (5 * w + q) = 0 then 1 else 0
def vam (σ : Sg) : Int → Int := fun v => if σ 29 0 v = 0 then σ 28 0 v else -σ 28 0 v
theorem chp_in0 {σ : Sg} {a q : Int} (hs : Shk (shm σ)) (ht : Tin (shm σ) (mT σ)) (h0 : 0 ≤ q) (h5 : q < 5) (hi : σ 33 0 q = 0) : chp (shm σ) (mT σ) a q = 0 := by
  have hw := inw_wt hs ht
  have e14 := mT_14 (σ := σ) h0 h5
  have es := shm_at (σ := σ) h0 h5
  have hn := (hs.1 q h0 h5).1
  unfold chp
  by_cases e : 0 < σ 23 0 q
  · rw [if_pos ⟨e, hi⟩] at e14
    have ew : inw (shm σ) (mT σ) q = 0 := by unfold inw; rw [e14, if_neg (by decide)]
    rw [dv_w0 _ hw ew, e14, if_neg (by decide)]
    rfl
  · rw [if_neg (by omega)] at e14
    have e0 : shm σ q = 0 := by omega
    have ew : inw (shm σ) (mT σ) q = 0 := by unfold inw; rw [e14, if_pos rfl, e0]
    rw [dv_w0 _ hw ew, e14, if_pos rfl, dv_w0 _ hs.wt e0]
    rfl
theorem chp_in1 {σ : Sg} {a q : Int} (h0 : 0 ≤ q) (h5 : q < 5) (hi : ¬ σ 33 0 q = 0) : chp (shm σ) (mT σ) a q = dv (osm (shm σ) (mT σ) a) (inw (shm σ) (mT σ)) q + dv a (shm σ) q := by
  have e14 := mT_14 (σ := σ) h0 h5
  rw [if_neg (by omega)] at e14
  unfold chp
  rw [e14, if_pos rfl]
