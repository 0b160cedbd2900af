/-- the account of a well in the reference, by its vouchers -/
def FM (σ : Sg) (w : Int) : Nat → Int → Int := foldS (shm σ) (σ 24 0 w) (σ 27 0) (vam σ) w (T0f (elm σ w)) (σ 22 0 10).toNat
/-- what the reference's methods need -/
def Mi (σ : Sg) : Prop := (0 ≤ σ 22 0 10 ∧ σ 22 0 10 ≤ 60) ∧ (∀ v, 0 ≤ v → v < σ 22 0 10 → I32 (σ 27 0 v) ∧ (1 ≤ σ 28 0 v ∧ σ 28 0 v ≤ 10000000) ∧ (σ 29 0 v = 0 ∨ σ 29 0 v = 1)) ∧ (∀ j, 0 ≤ j → j < 30 → σ 26 0 j = 0 ∨ σ 26 0 j = 1) ∧ Shk (shm σ) ∧ (∀ w, 0 ≤ w → w < 6 → Tin (shm σ) (T0f (elm σ w)) ∧ (0 ≤ σ 24 0 w ∧ σ 24 0 w ≤ 1000) ∧ (σ 25 0 w = 0 ∨ σ 25 0 w = 1)) ∧ (0 ≤ σ 22 0 6 ∧ σ 22 0 6 ≤ 6) ∧ (0 ≤ σ 22 0 13 ∧ σ 22 0 13 ≤ 20)
def Mq (σ σ' : Sg) : Prop := ∀ (a : Nat) (b c : Int), 22 ≤ a → a < 30 → (a ≠ 22 ∨ c ≠ 24) → σ' a b c = σ a b c
theorem mq_shm {σ σ' : Sg} (h : Mq σ σ') : shm σ' = shm σ := shm_congr (fun q _ _ => h 23 0 q (by decide) (by decide) (by omega))
theorem mq_elm {σ σ' : Sg} (h : Mq σ σ') (w : Int) : elm σ' w = elm σ w := by
  funext q
  unfold elm
  rw [h 23 0 q (by decide) (by decide) (by omega), h 26 0 _ (by decide) (by decide) (by omega)]
theorem mq_vam {σ σ' : Sg} (h : Mq σ σ') : vam σ' = vam σ := by
  funext q
  unfold vam
  rw [h 28 0 q (by decide) (by decide) (by omega), h 29 0 _ (by decide) (by decide) (by omega)]
theorem mq_FM {σ σ' : Sg} (h : Mq σ σ') (w : Int) : FM σ' w = FM σ w := by
  unfold FM
  rw [mq_shm h, mq_elm h w, mq_vam h, h 24 0 w (by decide) (by decide) (by omega), h 22 0 10 (by decide) (by decide) (by omega), show σ' 27 0 = σ 27 0 from funext (fun q => h 27 0 q (by decide) (by decide) (by omega))]
theorem mi_q {σ σ' : Sg} (h : Mq σ σ') (m : Mi σ) : Mi σ' := by
  obtain ⟨m1, m2, m3, m4, m5, m6, m7⟩ := m
  refine ⟨?_, fun v a b => ?_, fun j a b => ?_, ?_, fun w a b => ?_, ?_, ?_⟩
  · rw [h 22 0 10 (by decide) (by decide) (by omega)]; exact m1
  · rw [h 22 0 10 (by decide) (by decide) (by omega)] at b
    rw [h 27 0 v (by decide) (by decide) (by omega), h 28 0 v (by decide) (by decide) (by omega), h 29 0 v (by decide) (by decide) (by omega)]; exact m2 v a b
  · rw [h 26 0 j (by decide) (by decide) (by omega)]; exact m3 j a b
  · rw [mq_shm h]; exact m4
  · rw [mq_shm h, mq_elm h w, h 24 0 w (by decide) (by decide) (by omega), h 25 0 w (by decide) (by decide) (by omega)]; exact m5 w a b
  · rw [h 22 0 6 (by decide) (by decide) (by omega)]; exact m6
  · rw [h 22 0 13 (by decide) (by decide) (by omega)]; exact m7
theorem mq_last (σ : Sg) (x : Int) : Mq σ (su σ 22 0 24 x) := fun a b c _ _ h => su_ne3 (h.elim Or.inl (fun z => Or.inr (Or.inr z)))
theorem FM_ok {σ : Sg} (m : Mi σ) {w : Int} (h0 : 0 ≤ w) (h6 : w < 6) : Tok (shm σ) (FM σ w) (σ 22 0 10) := by
  obtain ⟨m1, m2, m3, m4, m5, m6, m7⟩ := m
  have := foldS_ok (w := w) (vw := σ 27 0) (va := vam σ) m4 (m5 w h0 h6).2.1 (m5 w h0 h6).1 (σ 22 0 10).toNat (fun v a b => by have := m2 v a (by omega); unfold vam; split <;> omega)
  rw [Int.toNat_of_nonneg m1.1] at this
  exact this
theorem chp_14 {sh : Int → Int} {T T' : Nat → Int → Int} (h : ∀ q, T 14 q = T' 14 q) (a q : Int) : chp sh T a q = chp sh T' a q := by
  have e1 : inw sh T = inw sh T' := by funext x; unfold inw; rw [h x]
  have e2 : osm sh T a = osm sh T' a := by unfold osm; exact s5_congr (fun p _ _ => by rw [h p])
  unfold chp
  rw [e1, e2, h q]
/-- another partner than q is in the well by election -/
def exm (σ : Sg) (w q : Int) : Prop := ∃ q', 0 ≤ q' ∧ q' < 5 ∧ q' ≠ q ∧ 0 < σ 23 0 q' ∧ σ 26 0 (5 * w + q') = 0
theorem tin_14 {sh : Int → Int} {T T' : Nat → Int → Int} (h : ∀ q, T' 14 q = T 14 q) (ht : Tin sh T) : Tin sh T' := ⟨fun p a b => by rw [h p]; exact ht.1 p a b, by rw [show inw sh T' = inw sh T from by funext x; unfold inw; rw [h x]]; exact ht.2⟩
theorem mT14_eq {σ σ' : Sg} (h23 : ∀ q, 0 ≤ q → q < 5 → σ' 23 0 q = σ 23 0 q) (h33 : ∀ q, 0 ≤ q → q < 5 → σ' 33 0 q = σ 33 0 q) (q : Int) : mT σ' 14 q = mT σ 14 q := by
  by_cases hq : 0 ≤ q ∧ q < 5
  · rw [mT_14 hq.1 hq.2, mT_14 hq.1 hq.2, h23 q hq.1 hq.2, h33 q hq.1 hq.2]
  · rw [mT_z σ' 14 q (by omega), mT_z σ 14 q (by omega)]
/-- the reference's weights of those who have paid; what the others are asked for -/
def pwm (σ : Sg) (k : Int) : Int → Int := fun q => if 0 < σ 31 0 (5 * k + q) then σ 30 0 (5 * k + q) else 0
def npm (σ : Sg) (k : Int) : Int → Int := fun q => if 0 < σ 31 0 (5 * k + q) then 0 else σ 30 0 (5 * k + q)
def pym (σ : Sg) (k n : Int) : Prop := ∃ q, 0 ≤ q ∧ q < n ∧ 0 < σ 31 0 (5 * k + q)
