def Mk (σ τ : Sg) : Prop := ∀ (a : Nat) (b c : Int), 22 ≤ a → a < 42 → τ a b c = σ a b c
theorem Mk.q {σ τ : Sg} (h : Mk σ τ) : Mq σ τ := fun a b c h1 h2 _ => h a b c h1 (by omega)
theorem Mk.fm {σ τ : Sg} (h : Mk σ τ) (w : Int) : FM τ w = FM σ w := mq_FM h.q w
theorem Mk.esh {σ τ : Sg} (h : Mk σ τ) : shm τ = shm σ := mq_shm h.q
theorem Mk.mi {σ τ : Sg} (h : Mk σ τ) (r : Rel σ) : Mi τ := mi_q h.q r.mi
theorem Mk.hwm {σ τ : Sg} (h : Mk σ τ) (r : Rel σ) : 0 ≤ τ 22 0 6 ∧ τ 22 0 6 ≤ 6 := by rw [h 22 0 6 (by decide) (by decide)]; exact r.hwm
theorem Mk.hom {σ τ : Sg} (h : Mk σ τ) (r : Rel σ) : 0 ≤ τ 22 0 2 ∧ τ 22 0 2 ≤ 100000 := by rw [h 22 0 2 (by decide) (by decide)]; exact r.hom
theorem Mk.hpr {σ τ : Sg} (h : Mk σ τ) (r : Rel σ) : ∀ j, 0 ≤ j → j < 100 → I32 (τ 30 0 j - τ 31 0 j) := fun j a b => by rw [h 30 0 j (by decide) (by decide), h 31 0 j (by decide) (by decide)]; exact r.hprm j a b
theorem Mk.hpa {σ τ : Sg} (h : Mk σ τ) (r : Rel σ) : ∀ j, 0 ≤ j → j < 100 → 0 ≤ τ 31 0 j ∧ τ 31 0 j ≤ τ 30 0 j ∧ τ 30 0 j ≤ 10000000 := fun j a b => by rw [h 30 0 j (by decide) (by decide), h 31 0 j (by decide) (by decide)]; exact r.hpa j a b
theorem rel_q {σ τ σ2 : Sg} {z cd : Int} (r : Rel σ) (hF : Fs σ τ) (hm : ∀ (a : Nat) (b c : Int), a < 33 ∨ 41 < a → σ2 a b c = su (su τ 42 0 0 z) 22 0 24 cd a b c) : σ2 22 0 24 = cd ∧ σ2 42 0 0 = z ∧ Rel σ2 := by
  refine ⟨?_, ?_, r.congr fun a b c h1 h2 h3 _ => ?_⟩
  · rw [hm _ _ _ (by decide), su_at]
  · rw [hm _ _ _ (by decide), su_nk (by decide), su_at]
  · rw [hm a b c (by omega), su_ne3 (by omega), su_nk (by omega), hF a b c h1]
theorem rel_e {σ σ2 : Sg} {cd : Int} (r : Rel σ) (hm : ∀ (a : Nat) (b c : Int), a < 33 ∨ 41 < a → σ2 a b c = su σ 22 0 24 cd a b c) : σ2 22 0 24 = cd ∧ Rel σ2 := by
  refine ⟨?_, r.congr fun a b c h1 h2 h3 _ => ?_⟩
  · rw [hm _ _ _ (by decide), su_at]
  · rw [hm a b c (by omega), su_ne3 (by omega)]
theorem sN_congr {f g : Int → Int} : ∀ n : Nat, (∀ i : Int, 0 ≤ i → i < n → f i = g i) → sN f n = sN g n := by
  intro n
  induction n with
  | zero => intro _; rfl
  | succ n ih =>
    intro h
    simp only [sN]
    rw [ih (fun i a b => h i a (by omega)), h n (by omega) (by omega)]
theorem m_toEarn {σ σ1 : Sg} {k : Int} {w q : Int} (h1 : (fun k σ' => (k = 0 ∧ ∃ (z : Int) (τ9 : Sg), (z = σ 15 w q ∧ τ9 = σ ∧ (0 ≤ w ∧ w < σ 0 0 4) ∧ (0 ≤ q ∧ q < 5)) ∧ σ' = su τ9 42 0 0 z) ∨ (k = 1 ∧ σ' = σ ∧ ¬ ((0 ≤ w ∧ w < σ 0 0 4) ∧ (0 ≤ q ∧ q < 5)))) k σ1) : Mk σ σ1 := by
  rcases h1 with ⟨rfl, z, τ, hp, rfl⟩ | ⟨rfl, rfl, hcond⟩
  · obtain ⟨hz, hs_, hcond⟩ := hp
    subst hs_
    exact fun a b c _ _ => su_nk (by omega)
  · exact fun a b c _ _ => rfl
set_option maxHeartbeats 1000000 in
theorem o_toEarn {σ σ1 σ2 : Sg} {k b : Int} {w q : Int} (r : Rel σ) (h1 : (fun k σ' => (k = 0 ∧ ∃ (z : Int) (τ9 : Sg), (z = σ 15 w q ∧ τ9 = σ ∧ (0 ≤ w ∧ w < σ 0 0 4) ∧ (0 ≤ q ∧ q < 5)) ∧ σ' = su τ9 42 0 0 z) ∨ (k = 1 ∧ σ' = σ ∧ ¬ ((0 ≤ w ∧ w < σ 0 0 4) ∧ (0 ≤ q ∧ q < 5)))) k σ1) (h2 : (fun z σ' => ∃ cd, ((cd = 0 ∧ ((0 ≤ w ∧ w < σ1 22 0 6) ∧ (0 ≤ q ∧ q < 5))) ∨ (cd = 1 ∧ (¬ ((0 ≤ w ∧ w < σ1 22 0 6) ∧ (0 ≤ q ∧ q < 5))))) ∧ (cd = 0 → (z = FM σ1 w 15 q) ∧ ((∀ (a : Nat) (b c : Int), a < 33 ∨ 41 < a → σ' a b c = su σ1 22 0 24 0 a b c) ∧ (∀ q, 0 ≤ q → q < 5 → (σ' 33 0 q = 0 ∨ σ' 33 0 q = 1) ∧ (¬ 0 < σ1 23 0 q → σ' 33 0 q = 0)) ∧ mT σ' = FM σ1 w)) ∧ (¬ cd = 0 → σ' = su σ1 22 0 24 cd)) b σ2) : σ2 22 0 24 = k ∧ (k = 0 → σ2 42 0 0 = b) ∧ Rel σ2 := by
  have hk := m_toEarn h1
  have r0 := r.1
  unfold R0 at r0
  have k6 := hk 22 0 6 (by decide) (by decide)
  have k10 := hk 22 0 10 (by decide) (by decide)
  have k13 := hk 22 0 13 (by decide) (by decide)
  have k1 := hk 22 0 1 (by decide) (by decide)
  have k2 := hk 22 0 2 (by decide) (by decide)
  obtain ⟨cd, hc, h0, hn⟩ := h2
  rcases h1 with ⟨rfl, z, τ, hp, rfl⟩ | ⟨rfl, rfl, hcond⟩
  · obtain ⟨hz, hs_, hcond⟩ := hp
    have hs_ := hs_.symm; subst hs_
    have hcd : cd = 0 := by clear h0 hn; omega
    subst hcd
    obtain ⟨hb, h9, -, -⟩ := h0 rfl
    obtain ⟨e1, e2, e3⟩ := rel_q (σ2 := σ2) (cd := 0) r (fun a b c _ => rfl) (fun a b c h => h9 a b c h)
    refine ⟨e1, fun _ => ?_, e3⟩
    rw [e2]
    rw [hz, hb, hk.fm w, r.fm (by omega) (by omega), ac_at (by decide) (by decide) (by omega) (by omega)]
  · have hcd : cd = 1 := by clear h0 hn; omega
    subst hcd
    obtain ⟨e1, e2⟩ := rel_e (σ2 := σ2) (cd := 1) r (fun a b c _ => by rw [hn (by decide)])
    exact ⟨e1, fun z => absurd z (by decide), e2⟩
theorem m_backAt {σ σ1 : Sg} {k : Int} {w q : Int} (h1 : (fun k σ' => (k = 0 ∧ ∃ (z : Int) (τ9 : Sg), (z = σ 16 w q ∧ τ9 = σ ∧ (0 ≤ w ∧ w < σ 0 0 4) ∧ (0 ≤ q ∧ q < 5)) ∧ σ' = su τ9 42 0 0 (w32 z)) ∨ (k = 1 ∧ σ' = σ ∧ ¬ ((0 ≤ w ∧ w < σ 0 0 4) ∧ (0 ≤ q ∧ q < 5)))) k σ1) : Mk σ σ1 := by
  rcases h1 with ⟨rfl, z, τ, hp, rfl⟩ | ⟨rfl, rfl, hcond⟩
  · obtain ⟨hz, hs_, hcond⟩ := hp
    subst hs_
    exact fun a b c _ _ => su_nk (by omega)
  · exact fun a b c _ _ => rfl
set_option maxHeartbeats 1000000 in
theorem o_backAt {σ σ1 σ2 : Sg} {k b : Int} {w q : Int} (r : Rel σ) (h1 : (fun k σ' => (k = 0 ∧ ∃ (z : Int) (τ9 : Sg), (z = σ 16 w q ∧ τ9 = σ ∧ (0 ≤ w ∧ w < σ 0 0 4) ∧ (0 ≤ q ∧ q < 5)) ∧ σ' = su τ9 42 0 0 (w32 z)) ∨ (k = 1 ∧ σ' = σ ∧ ¬ ((0 ≤ w ∧ w < σ 0 0 4) ∧ (0 ≤ q ∧ q < 5)))) k σ1) (h2 : (fun z σ' => ∃ cd, ((cd = 0 ∧ ((0 ≤ w ∧ w < σ1 22 0 6) ∧ (0 ≤ q ∧ q < 5))) ∨ (cd = 1 ∧ (¬ ((0 ≤ w ∧ w < σ1 22 0 6) ∧ (0 ≤ q ∧ q < 5))))) ∧ (cd = 0 → (z = FM σ1 w 16 q) ∧ ((∀ (a : Nat) (b c : Int), a < 33 ∨ 41 < a → σ' a b c = su σ1 22 0 24 0 a b c) ∧ (∀ q, 0 ≤ q → q < 5 → (σ' 33 0 q = 0 ∨ σ' 33 0 q = 1) ∧ (¬ 0 < σ1 23 0 q → σ' 33 0 q = 0)) ∧ mT σ' = FM σ1 w)) ∧ (¬ cd = 0 → σ' = su σ1 22 0 24 cd)) b σ2) : σ2 22 0 24 = k ∧ (k = 0 → σ2 42 0 0 = w32 b) ∧ Rel σ2 := by
  have hk := m_backAt h1
  have r0 := r.1
  unfold R0 at r0
  have k6 := hk 22 0 6 (by decide) (by decide)
  have k10 := hk 22 0 10 (by decide) (by decide)
  have k13 := hk 22 0 13 (by decide) (by decide)
  have k1 := hk 22 0 1 (by decide) (by decide)
  have k2 := hk 22 0 2 (by decide) (by decide)
  obtain ⟨cd, hc, h0, hn⟩ := h2
  rcases h1 with ⟨rfl, z, τ, hp, rfl⟩ | ⟨rfl, rfl, hcond⟩
  · obtain ⟨hz, hs_, hcond⟩ := hp
    have hs_ := hs_.symm; subst hs_
    have hcd : cd = 0 := by clear h0 hn; omega
    subst hcd
    obtain ⟨hb, h9, -, -⟩ := h0 rfl
    obtain ⟨e1, e2, e3⟩ := rel_q (σ2 := σ2) (cd := 0) r (fun a b c _ => rfl) (fun a b c h => h9 a b c h)
    refine ⟨e1, fun _ => ?_, e3⟩
    rw [e2]
    rw [hz, hb, hk.fm w, r.fm (by omega) (by omega), ac_at (by decide) (by decide) (by omega) (by omega)]
  · have hcd : cd = 1 := by clear h0 hn; omega
    subst hcd
    obtain ⟨e1, e2⟩ := rel_e (σ2 := σ2) (cd := 1) r (fun a b c _ => by rw [hn (by decide)])
    exact ⟨e1, fun z => absurd z (by decide), e2⟩
theorem m_charged {σ σ1 : Sg} {k : Int} {w q : Int} (h1 : (fun k σ' => (k = 0 ∧ ∃ (z : Int) (τ9 : Sg), (z = σ 17 w q ∧ τ9 = σ ∧ (0 ≤ w ∧ w < σ 0 0 4) ∧ (0 ≤ q ∧ q < 5)) ∧ σ' = su τ9 42 0 0 (w32 z)) ∨ (k = 1 ∧ σ' = σ ∧ ¬ ((0 ≤ w ∧ w < σ 0 0 4) ∧ (0 ≤ q ∧ q < 5)))) k σ1) : Mk σ σ1 := by
  rcases h1 with ⟨rfl, z, τ, hp, rfl⟩ | ⟨rfl, rfl, hcond⟩
  · obtain ⟨hz, hs_, hcond⟩ := hp
    subst hs_
    exact fun a b c _ _ => su_nk (by omega)
  · exact fun a b c _ _ => rfl
set_option maxHeartbeats 1000000 in
theorem o_charged {σ σ1 σ2 : Sg} {k b : Int} {w q : Int} (r : Rel σ) (h1 : (fun k σ' => (k = 0 ∧ ∃ (z : Int) (τ9 : Sg), (z = σ 17 w q ∧ τ9 = σ ∧ (0 ≤ w ∧ w < σ 0 0 4) ∧ (0 ≤ q ∧ q < 5)) ∧ σ' = su τ9 42 0 0 (w32 z)) ∨ (k = 1 ∧ σ' = σ ∧ ¬ ((0 ≤ w ∧ w < σ 0 0 4) ∧ (0 ≤ q ∧ q < 5)))) k σ1) (h2 : (fun z σ' => ∃ cd, ((cd = 0 ∧ ((0 ≤ w ∧ w < σ1 22 0 6) ∧ (0 ≤ q ∧ q < 5))) ∨ (cd = 1 ∧ (¬ ((0 ≤ w ∧ w < σ1 22 0 6) ∧ (0 ≤ q ∧ q < 5))))) ∧ (cd = 0 → (z = FM σ1 w 17 q) ∧ ((∀ (a : Nat) (b c : Int), a < 33 ∨ 41 < a → σ' a b c = su σ1 22 0 24 0 a b c) ∧ (∀ q, 0 ≤ q → q < 5 → (σ' 33 0 q = 0 ∨ σ' 33 0 q = 1) ∧ (¬ 0 < σ1 23 0 q → σ' 33 0 q = 0)) ∧ mT σ' = FM σ1 w)) ∧ (¬ cd = 0 → σ' = su σ1 22 0 24 cd)) b σ2) : σ2 22 0 24 = k ∧ (k = 0 → σ2 42 0 0 = w32 b) ∧ Rel σ2 := by
  have hk := m_charged h1
  have r0 := r.1
  unfold R0 at r0
  have k6 := hk 22 0 6 (by decide) (by decide)
  have k10 := hk 22 0 10 (by decide) (by decide)
  have k13 := hk 22 0 13 (by decide) (by decide)
  have k1 := hk 22 0 1 (by decide) (by decide)
  have k2 := hk 22 0 2 (by decide) (by decide)
  obtain ⟨cd, hc, h0, hn⟩ := h2
  rcases h1 with ⟨rfl, z, τ, hp, rfl⟩ | ⟨rfl, rfl, hcond⟩
  · obtain ⟨hz, hs_, hcond⟩ := hp
    have hs_ := hs_.symm; subst hs_
    have hcd : cd = 0 := by clear h0 hn; omega
    subst hcd
    obtain ⟨hb, h9, -, -⟩ := h0 rfl
    obtain ⟨e1, e2, e3⟩ := rel_q (σ2 := σ2) (cd := 0) r (fun a b c _ => rfl) (fun a b c h => h9 a b c h)
    refine ⟨e1, fun _ => ?_, e3⟩
    rw [e2]
    rw [hz, hb, hk.fm w, r.fm (by omega) (by omega), ac_at (by decide) (by decide) (by omega) (by omega)]
  · have hcd : cd = 1 := by clear h0 hn; omega
    subst hcd
    obtain ⟨e1, e2⟩ := rel_e (σ2 := σ2) (cd := 1) r (fun a b c _ => by rw [hn (by decide)])
    exact ⟨e1, fun z => absurd z (by decide), e2⟩
theorem m_credited {σ σ1 : Sg} {k : Int} {w q : Int} (h1 : (fun k σ' => (k = 0 ∧ ∃ (z : Int) (τ9 : Sg), (z = σ 18 w q ∧ τ9 = σ ∧ (0 ≤ w ∧ w < σ 0 0 4) ∧ (0 ≤ q ∧ q < 5)) ∧ σ' = su τ9 42 0 0 (w32 z)) ∨ (k = 1 ∧ σ' = σ ∧ ¬ ((0 ≤ w ∧ w < σ 0 0 4) ∧ (0 ≤ q ∧ q < 5)))) k σ1) : Mk σ σ1 := by
  rcases h1 with ⟨rfl, z, τ, hp, rfl⟩ | ⟨rfl, rfl, hcond⟩
  · obtain ⟨hz, hs_, hcond⟩ := hp
    subst hs_
    exact fun a b c _ _ => su_nk (by omega)
  · exact fun a b c _ _ => rfl
set_option maxHeartbeats 1000000 in
theorem o_credited {σ σ1 σ2 : Sg} {k b : Int} {w q : Int} (r : Rel σ) (h1 : (fun k σ' => (k = 0 ∧ ∃ (z : Int) (τ9 : Sg), (z = σ 18 w q ∧ τ9 = σ ∧ (0 ≤ w ∧ w < σ 0 0 4) ∧ (0 ≤ q ∧ q < 5)) ∧ σ' = su τ9 42 0 0 (w32 z)) ∨ (k = 1 ∧ σ' = σ ∧ ¬ ((0 ≤ w ∧ w < σ 0 0 4) ∧ (0 ≤ q ∧ q < 5)))) k σ1) (h2 : (fun z σ' => ∃ cd, ((cd = 0 ∧ ((0 ≤ w ∧ w < σ1 22 0 6) ∧ (0 ≤ q ∧ q < 5))) ∨ (cd = 1 ∧ (¬ ((0 ≤ w ∧ w < σ1 22 0 6) ∧ (0 ≤ q ∧ q < 5))))) ∧ (cd = 0 → (z = FM σ1 w 18 q) ∧ ((∀ (a : Nat) (b c : Int), a < 33 ∨ 41 < a → σ' a b c = su σ1 22 0 24 0 a b c) ∧ (∀ q, 0 ≤ q → q < 5 → (σ' 33 0 q = 0 ∨ σ' 33 0 q = 1) ∧ (¬ 0 < σ1 23 0 q → σ' 33 0 q = 0)) ∧ mT σ' = FM σ1 w)) ∧ (¬ cd = 0 → σ' = su σ1 22 0 24 cd)) b σ2) : σ2 22 0 24 = k ∧ (k = 0 → σ2 42 0 0 = w32 b) ∧ Rel σ2 := by
  have hk := m_credited h1
  have r0 := r.1
  unfold R0 at r0
  have k6 := hk 22 0 6 (by decide) (by decide)
  have k10 := hk 22 0 10 (by decide) (by decide)
  have k13 := hk 22 0 13 (by decide) (by decide)
  have k1 := hk 22 0 1 (by decide) (by decide)
  have k2 := hk 22 0 2 (by decide) (by decide)
  obtain ⟨cd, hc, h0, hn⟩ := h2
  rcases h1 with ⟨rfl, z, τ, hp, rfl⟩ | ⟨rfl, rfl, hcond⟩
  · obtain ⟨hz, hs_, hcond⟩ := hp
    have hs_ := hs_.symm; subst hs_
    have hcd : cd = 0 := by clear h0 hn; omega
    subst hcd
    obtain ⟨hb, h9, -, -⟩ := h0 rfl
    obtain ⟨e1, e2, e3⟩ := rel_q (σ2 := σ2) (cd := 0) r (fun a b c _ => rfl) (fun a b c h => h9 a b c h)
    refine ⟨e1, fun _ => ?_, e3⟩
    rw [e2]
    rw [hz, hb, hk.fm w, r.fm (by omega) (by omega), ac_at (by decide) (by decide) (by omega) (by omega)]
  · have hcd : cd = 1 := by clear h0 hn; omega
    subst hcd
    obtain ⟨e1, e2⟩ := rel_e (σ2 := σ2) (cd := 1) r (fun a b c _ => by rw [hn (by decide)])
    exact ⟨e1, fun z => absurd z (by decide), e2⟩
theorem m_isIn {σ σ1 : Sg} {k : Int} {w q : Int} (h1 : (fun k σ' => (k = 0 ∧ ∃ (z : Int) (τ9 : Sg), (z = (if σ 14 w q = 0 ∧ 0 < σ 1 0 q then 1 else 0) ∧ τ9 = σ ∧ (0 ≤ w ∧ w < σ 0 0 4) ∧ (0 ≤ q ∧ q < 5)) ∧ σ' = su τ9 42 0 0 z) ∨ (k = 1 ∧ σ' = σ ∧ ¬ ((0 ≤ w ∧ w < σ 0 0 4) ∧ (0 ≤ q ∧ q < 5)))) k σ1) : Mk σ σ1 := by
  rcases h1 with ⟨rfl, z, τ, hp, rfl⟩ | ⟨rfl, rfl, hcond⟩
  · obtain ⟨hz, hs_, hcond⟩ := hp
    subst hs_
    exact fun a b c _ _ => su_nk (by omega)
  · exact fun a b c _ _ => rfl
set_option maxHeartbeats 1000000 in
theorem o_isIn {σ σ1 σ2 : Sg} {k b : Int} {w q : Int} (r : Rel σ) (h1 : (fun k σ' => (k = 0 ∧ ∃ (z : Int) (τ9 : Sg), (z = (if σ 14 w q = 0 ∧ 0 < σ 1 0 q then 1 else 0) ∧ τ9 = σ ∧ (0 ≤ w ∧ w < σ 0 0 4) ∧ (0 ≤ q ∧ q < 5)) ∧ σ' = su τ9 42 0 0 z) ∨ (k = 1 ∧ σ' = σ ∧ ¬ ((0 ≤ w ∧ w < σ 0 0 4) ∧ (0 ≤ q ∧ q < 5)))) k σ1) (h2 : (fun z σ' => ∃ cd, ((cd = 0 ∧ ((0 ≤ w ∧ w < σ1 22 0 6) ∧ (0 ≤ q ∧ q < 5))) ∨ (cd = 1 ∧ (¬ ((0 ≤ w ∧ w < σ1 22 0 6) ∧ (0 ≤ q ∧ q < 5))))) ∧ (cd = 0 → (z = if FM σ1 w 14 q = 0 ∧ 0 < σ1 23 0 q then 1 else 0) ∧ ((∀ (a : Nat) (b c : Int), a < 33 ∨ 41 < a → σ' a b c = su σ1 22 0 24 0 a b c) ∧ (∀ q, 0 ≤ q → q < 5 → (σ' 33 0 q = 0 ∨ σ' 33 0 q = 1) ∧ (¬ 0 < σ1 23 0 q → σ' 33 0 q = 0)) ∧ mT σ' = FM σ1 w)) ∧ (¬ cd = 0 → σ' = su σ1 22 0 24 cd)) b σ2) : σ2 22 0 24 = k ∧ (k = 0 → σ2 42 0 0 = b ∧ (b = 0 ∨ b = 1)) ∧ Rel σ2 := by
  have hk := m_isIn h1
  have r0 := r.1
  unfold R0 at r0
  have k6 := hk 22 0 6 (by decide) (by decide)
  have k10 := hk 22 0 10 (by decide) (by decide)
  have k13 := hk 22 0 13 (by decide) (by decide)
  have k1 := hk 22 0 1 (by decide) (by decide)
  have k2 := hk 22 0 2 (by decide) (by decide)
  obtain ⟨cd, hc, h0, hn⟩ := h2
  rcases h1 with ⟨rfl, z, τ, hp, rfl⟩ | ⟨rfl, rfl, hcond⟩
  · obtain ⟨hz, hs_, hcond⟩ := hp
    have hs_ := hs_.symm; subst hs_
    have hcd : cd = 0 := by clear h0 hn; omega
    subst hcd
    obtain ⟨hb, h9, -, -⟩ := h0 rfl
    obtain ⟨e1, e2, e3⟩ := rel_q (σ2 := σ2) (cd := 0) r (fun a b c _ => rfl) (fun a b c h => h9 a b c h)
    refine ⟨e1, fun _ => ⟨?_, by rw [hb]; split <;> omega⟩, e3⟩
    rw [e2]
    rw [hz, hb, hk.fm w, r.fm (by omega) (by omega), ac_at (by decide) (by decide) (by omega) (by omega), hk 23 0 q (by decide) (by decide), r.2.1.1 q (by omega) (by omega)]
  · have hcd : cd = 1 := by clear h0 hn; omega
    subst hcd
    obtain ⟨e1, e2⟩ := rel_e (σ2 := σ2) (cd := 1) r (fun a b c _ => by rw [hn (by decide)])
    exact ⟨e1, fun z => absurd z (by decide), e2⟩
theorem m_wellOf {σ σ1 : Sg} {k : Int} {v : Int} (h1 : (fun k σ' => (k = 0 ∧ ∃ (z : Int) (τ9 : Sg), (z = σ 3 0 v ∧ τ9 = σ ∧ (0 ≤ v ∧ v < σ 0 0 7)) ∧ σ' = su τ9 42 0 0 (w32 z)) ∨ (k = 1 ∧ σ' = σ ∧ ¬ (0 ≤ v ∧ v < σ 0 0 7))) k σ1) : Mk σ σ1 := by
  rcases h1 with ⟨rfl, z, τ, hp, rfl⟩ | ⟨rfl, rfl, hcond⟩
  · obtain ⟨hz, hs_, hcond⟩ := hp
    subst hs_
    exact fun a b c _ _ => su_nk (by omega)
  · exact fun a b c _ _ => rfl
set_option maxHeartbeats 1000000 in
theorem o_wellOf {σ σ1 σ2 : Sg} {k b : Int} {v : Int} (r : Rel σ) (h1 : (fun k σ' => (k = 0 ∧ ∃ (z : Int) (τ9 : Sg), (z = σ 3 0 v ∧ τ9 = σ ∧ (0 ≤ v ∧ v < σ 0 0 7)) ∧ σ' = su τ9 42 0 0 (w32 z)) ∨ (k = 1 ∧ σ' = σ ∧ ¬ (0 ≤ v ∧ v < σ 0 0 7))) k σ1) (h2 : (fun z σ' => ∃ cd, ((cd = 0 ∧ (0 ≤ v ∧ v < σ1 22 0 10)) ∨ (cd = 1 ∧ (¬ (0 ≤ v ∧ v < σ1 22 0 10)))) ∧ (cd = 0 → z = σ1 27 0 v ∧ σ' = su σ1 22 0 24 0) ∧ (¬ cd = 0 → σ' = su σ1 22 0 24 cd)) b σ2) : σ2 22 0 24 = k ∧ (k = 0 → σ2 42 0 0 = w32 b) ∧ Rel σ2 := by
  have hk := m_wellOf h1
  have r0 := r.1
  unfold R0 at r0
  have k6 := hk 22 0 6 (by decide) (by decide)
  have k10 := hk 22 0 10 (by decide) (by decide)
  have k13 := hk 22 0 13 (by decide) (by decide)
  have k1 := hk 22 0 1 (by decide) (by decide)
  have k2 := hk 22 0 2 (by decide) (by decide)
  obtain ⟨cd, hc, h0, hn⟩ := h2
  rcases h1 with ⟨rfl, z, τ, hp, rfl⟩ | ⟨rfl, rfl, hcond⟩
  · obtain ⟨hz, hs_, hcond⟩ := hp
    have hs_ := hs_.symm; subst hs_
    have hcd : cd = 0 := by clear h0 hn; omega
    subst hcd
    obtain ⟨hb, h9⟩ := h0 rfl
    obtain ⟨e1, e2, e3⟩ := rel_q (σ2 := σ2) (cd := 0) r (fun a b c _ => rfl) (fun a b c _ => by rw [h9])
    refine ⟨e1, fun _ => ?_, e3⟩
    rw [e2]
    have e := r.2.2.1 v (by omega) (by omega)
    unfold RV at e
    rw [hz, hb, hk 27 0 v (by decide) (by decide), e.2.1]
  · have hcd : cd = 1 := by clear h0 hn; omega
    subst hcd
    obtain ⟨e1, e2⟩ := rel_e (σ2 := σ2) (cd := 1) r (fun a b c _ => by rw [hn (by decide)])
    exact ⟨e1, fun z => absurd z (by decide), e2⟩
theorem m_amountOf {σ σ1 : Sg} {k : Int} {v : Int} (h1 : (fun k σ' => (k = 0 ∧ ∃ (z : Int) (τ9 : Sg), (z = σ 4 0 v ∧ τ9 = σ ∧ (0 ≤ v ∧ v < σ 0 0 7)) ∧ σ' = su τ9 42 0 0 (w32 z)) ∨ (k = 1 ∧ σ' = σ ∧ ¬ (0 ≤ v ∧ v < σ 0 0 7))) k σ1) : Mk σ σ1 := by
  rcases h1 with ⟨rfl, z, τ, hp, rfl⟩ | ⟨rfl, rfl, hcond⟩
  · obtain ⟨hz, hs_, hcond⟩ := hp
    subst hs_
    exact fun a b c _ _ => su_nk (by omega)
  · exact fun a b c _ _ => rfl
set_option maxHeartbeats 1000000 in
theorem o_amountOf {σ σ1 σ2 : Sg} {k b : Int} {v : Int} (r : Rel σ) (h1 : (fun k σ' => (k = 0 ∧ ∃ (z : Int) (τ9 : Sg), (z = σ 4 0 v ∧ τ9 = σ ∧ (0 ≤ v ∧ v < σ 0 0 7)) ∧ σ' = su τ9 42 0 0 (w32 z)) ∨ (k = 1 ∧ σ' = σ ∧ ¬ (0 ≤ v ∧ v < σ 0 0 7))) k σ1) (h2 : (fun z σ' => ∃ cd, ((cd = 0 ∧ (0 ≤ v ∧ v < σ1 22 0 10)) ∨ (cd = 1 ∧ (¬ (0 ≤ v ∧ v < σ1 22 0 10)))) ∧ (cd = 0 → z = vam σ1 v ∧ σ' = su σ1 22 0 24 0) ∧ (¬ cd = 0 → σ' = su σ1 22 0 24 cd)) b σ2) : σ2 22 0 24 = k ∧ (k = 0 → σ2 42 0 0 = w32 b) ∧ Rel σ2 := by
  have hk := m_amountOf h1
  have r0 := r.1
  unfold R0 at r0
  have k6 := hk 22 0 6 (by decide) (by decide)
  have k10 := hk 22 0 10 (by decide) (by decide)
  have k13 := hk 22 0 13 (by decide) (by decide)
  have k1 := hk 22 0 1 (by decide) (by decide)
  have k2 := hk 22 0 2 (by decide) (by decide)
  obtain ⟨cd, hc, h0, hn⟩ := h2
  rcases h1 with ⟨rfl, z, τ, hp, rfl⟩ | ⟨rfl, rfl, hcond⟩
  · obtain ⟨hz, hs_, hcond⟩ := hp
    have hs_ := hs_.symm; subst hs_
    have hcd : cd = 0 := by clear h0 hn; omega
    subst hcd
    obtain ⟨hb, h9⟩ := h0 rfl
    obtain ⟨e1, e2, e3⟩ := rel_q (σ2 := σ2) (cd := 0) r (fun a b c _ => rfl) (fun a b c _ => by rw [h9])
    refine ⟨e1, fun _ => ?_, e3⟩
    rw [e2]
    have e := r.2.2.1 v (by omega) (by omega)
    unfold RV at e
    rw [hz, hb, vam_at (hk 28 0 v (by decide) (by decide)) (hk 29 0 v (by decide) (by decide)), e.2.2.1]
  · have hcd : cd = 1 := by clear h0 hn; omega
    subst hcd
    obtain ⟨e1, e2⟩ := rel_e (σ2 := σ2) (cd := 1) r (fun a b c _ => by rw [hn (by decide)])
    exact ⟨e1, fun z => absurd z (by decide), e2⟩
theorem m_weight {σ σ1 : Sg} {k : Int} {w q : Int} (h1 : (fun k σ' => (k = 0 ∧ ∃ (z : Int) (τ9 : Sg), (z = chp (shf σ) (ac σ w) 10000 q ∧ Fs σ τ9 ∧ (0 ≤ w ∧ w < σ 0 0 4) ∧ (0 ≤ q ∧ q < 5)) ∧ σ' = su τ9 42 0 0 (w32 z)) ∨ (k = 1 ∧ σ' = σ ∧ ¬ ((0 ≤ w ∧ w < σ 0 0 4) ∧ (0 ≤ q ∧ q < 5)))) k σ1) : Mk σ σ1 := by
  rcases h1 with ⟨rfl, z, τ, hp, rfl⟩ | ⟨rfl, rfl, hcond⟩
  · exact fun a b c _ _ => by rw [su_nk (by omega), hp.2.1 a b c (by omega)]
  · exact fun a b c _ _ => rfl
set_option maxHeartbeats 1000000 in
theorem o_weight {σ σ1 σ2 : Sg} {k b : Int} {w q : Int} (r : Rel σ) (h1 : (fun k σ' => (k = 0 ∧ ∃ (z : Int) (τ9 : Sg), (z = chp (shf σ) (ac σ w) 10000 q ∧ Fs σ τ9 ∧ (0 ≤ w ∧ w < σ 0 0 4) ∧ (0 ≤ q ∧ q < 5)) ∧ σ' = su τ9 42 0 0 (w32 z)) ∨ (k = 1 ∧ σ' = σ ∧ ¬ ((0 ≤ w ∧ w < σ 0 0 4) ∧ (0 ≤ q ∧ q < 5)))) k σ1) (h2 : (fun z σ' => ∃ cd, ((cd = 0 ∧ ((0 ≤ w ∧ w < σ1 22 0 6) ∧ (0 ≤ q ∧ q < 5))) ∨ (cd = 1 ∧ (¬ ((0 ≤ w ∧ w < σ1 22 0 6) ∧ (0 ≤ q ∧ q < 5))))) ∧ (cd = 0 → z = chp (shm σ1) (FM σ1 w) 10000 q ∧ ∀ (a : Nat) (b c : Int), a < 33 ∨ 41 < a → σ' a b c = su σ1 22 0 24 0 a b c) ∧ (¬ cd = 0 → σ' = su σ1 22 0 24 cd)) b σ2) : σ2 22 0 24 = k ∧ (k = 0 → σ2 42 0 0 = w32 b) ∧ Rel σ2 := by
  have hk := m_weight h1
  have r0 := r.1
  unfold R0 at r0
  have k6 := hk 22 0 6 (by decide) (by decide)
  have k10 := hk 22 0 10 (by decide) (by decide)
  have k13 := hk 22 0 13 (by decide) (by decide)
  have k1 := hk 22 0 1 (by decide) (by decide)
  have k2 := hk 22 0 2 (by decide) (by decide)
  obtain ⟨cd, hc, h0, hn⟩ := h2
  rcases h1 with ⟨rfl, z, τ, hp, rfl⟩ | ⟨rfl, rfl, hcond⟩
  · obtain ⟨hz, hF, hcond⟩ := hp
    skip
    have hcd : cd = 0 := by clear h0 hn; omega
    subst hcd
    obtain ⟨hb, h9⟩ := h0 rfl
    obtain ⟨e1, e2, e3⟩ := rel_q (σ2 := σ2) (cd := 0) r (hF) (fun a b c h => h9 a b c h)
    refine ⟨e1, fun _ => ?_, e3⟩
    rw [e2]
    rw [hz, hb, hk.fm w, r.fm (by omega) (by omega), hk.esh, r.esh]
  · have hcd : cd = 1 := by clear h0 hn; omega
    subst hcd
    obtain ⟨e1, e2⟩ := rel_e (σ2 := σ2) (cd := 1) r (fun a b c _ => by rw [hn (by decide)])
    exact ⟨e1, fun z => absurd z (by decide), e2⟩
theorem m_asked {σ σ1 : Sg} {k : Int} {k9 q : Int} (h1 : (fun k σ' => (k = 0 ∧ ∃ (z : Int) (τ9 : Sg), (z = σ 20 k9 q ∧ τ9 = σ ∧ (0 ≤ k9 ∧ k9 < σ 0 0 9) ∧ (0 ≤ q ∧ q < 5)) ∧ σ' = su τ9 42 0 0 (w32 z)) ∨ (k = 1 ∧ σ' = σ ∧ ¬ ((0 ≤ k9 ∧ k9 < σ 0 0 9) ∧ (0 ≤ q ∧ q < 5)))) k σ1) : Mk σ σ1 := by
  rcases h1 with ⟨rfl, z, τ, hp, rfl⟩ | ⟨rfl, rfl, hcond⟩
  · obtain ⟨hz, hs_, hcond⟩ := hp
    subst hs_
    exact fun a b c _ _ => su_nk (by omega)
  · exact fun a b c _ _ => rfl
set_option maxHeartbeats 1000000 in
theorem o_asked {σ σ1 σ2 : Sg} {k b : Int} {k9 q : Int} (r : Rel σ) (h1 : (fun k σ' => (k = 0 ∧ ∃ (z : Int) (τ9 : Sg), (z = σ 20 k9 q ∧ τ9 = σ ∧ (0 ≤ k9 ∧ k9 < σ 0 0 9) ∧ (0 ≤ q ∧ q < 5)) ∧ σ' = su τ9 42 0 0 (w32 z)) ∨ (k = 1 ∧ σ' = σ ∧ ¬ ((0 ≤ k9 ∧ k9 < σ 0 0 9) ∧ (0 ≤ q ∧ q < 5)))) k σ1) (h2 : (fun z σ' => ∃ cd, ((cd = 0 ∧ ((0 ≤ k9 ∧ k9 < σ1 22 0 13) ∧ (0 ≤ q ∧ q < 5))) ∨ (cd = 1 ∧ (¬ ((0 ≤ k9 ∧ k9 < σ1 22 0 13) ∧ (0 ≤ q ∧ q < 5))))) ∧ (cd = 0 → z = σ1 30 0 (5 * k9 + q) ∧ σ' = su σ1 22 0 24 0) ∧ (¬ cd = 0 → σ' = su σ1 22 0 24 cd)) b σ2) : σ2 22 0 24 = k ∧ (k = 0 → σ2 42 0 0 = w32 b) ∧ Rel σ2 := by
  have hk := m_asked h1
  have r0 := r.1
  unfold R0 at r0
  have k6 := hk 22 0 6 (by decide) (by decide)
  have k10 := hk 22 0 10 (by decide) (by decide)
  have k13 := hk 22 0 13 (by decide) (by decide)
  have k1 := hk 22 0 1 (by decide) (by decide)
  have k2 := hk 22 0 2 (by decide) (by decide)
  obtain ⟨cd, hc, h0, hn⟩ := h2
  rcases h1 with ⟨rfl, z, τ, hp, rfl⟩ | ⟨rfl, rfl, hcond⟩
  · obtain ⟨hz, hs_, hcond⟩ := hp
    have hs_ := hs_.symm; subst hs_
    have hcd : cd = 0 := by clear h0 hn; omega
    subst hcd
    obtain ⟨hb, h9⟩ := h0 rfl
    obtain ⟨e1, e2, e3⟩ := rel_q (σ2 := σ2) (cd := 0) r (fun a b c _ => rfl) (fun a b c _ => by rw [h9])
    refine ⟨e1, fun _ => ?_, e3⟩
    rw [e2]
    have e := r.2.2.2.2.2.2.1 k9 q (by omega) (by omega) (by omega) (by omega)
    unfold RC at e
    rw [hz, hb, hk 30 0 _ (by decide) (by decide), e.1]
  · have hcd : cd = 1 := by clear h0 hn; omega
    subst hcd
    obtain ⟨e1, e2⟩ := rel_e (σ2 := σ2) (cd := 1) r (fun a b c _ => by rw [hn (by decide)])
    exact ⟨e1, fun z => absurd z (by decide), e2⟩
theorem m_paid {σ σ1 : Sg} {k : Int} {q : Int} (h1 : (fun k σ' => (k = 0 ∧ ∃ (z : Int) (τ9 : Sg), (z = sN (fun k => σ 21 k q) (σ 0 0 9).toNat ∧ τ9 = σ ∧ (0 ≤ q ∧ q < 5)) ∧ σ' = su τ9 42 0 0 (w32 z)) ∨ (k = 1 ∧ σ' = σ ∧ ¬ (0 ≤ q ∧ q < 5))) k σ1) : Mk σ σ1 := by
  rcases h1 with ⟨rfl, z, τ, hp, rfl⟩ | ⟨rfl, rfl, hcond⟩
  · obtain ⟨hz, hs_, hcond⟩ := hp
    subst hs_
    exact fun a b c _ _ => su_nk (by omega)
  · exact fun a b c _ _ => rfl
set_option maxHeartbeats 1000000 in
theorem o_paid {σ σ1 σ2 : Sg} {k b : Int} {q : Int} (r : Rel σ) (h1 : (fun k σ' => (k = 0 ∧ ∃ (z : Int) (τ9 : Sg), (z = sN (fun k => σ 21 k q) (σ 0 0 9).toNat ∧ τ9 = σ ∧ (0 ≤ q ∧ q < 5)) ∧ σ' = su τ9 42 0 0 (w32 z)) ∨ (k = 1 ∧ σ' = σ ∧ ¬ (0 ≤ q ∧ q < 5))) k σ1) (h2 : (fun z σ' => ∃ cd, ((cd = 0 ∧ (0 ≤ q ∧ q < 5)) ∨ (cd = 1 ∧ (¬ (0 ≤ q ∧ q < 5)))) ∧ (cd = 0 → z = sN (fun k => σ1 31 0 (5 * k + q)) (σ1 22 0 13).toNat ∧ σ' = su σ1 22 0 24 0) ∧ (¬ cd = 0 → σ' = su σ1 22 0 24 cd)) b σ2) : σ2 22 0 24 = k ∧ (k = 0 → σ2 42 0 0 = w32 b) ∧ Rel σ2 := by
  have hk := m_paid h1
  have r0 := r.1
  unfold R0 at r0
  have k6 := hk 22 0 6 (by decide) (by decide)
  have k10 := hk 22 0 10 (by decide) (by decide)
  have k13 := hk 22 0 13 (by decide) (by decide)
  have k1 := hk 22 0 1 (by decide) (by decide)
  have k2 := hk 22 0 2 (by decide) (by decide)
  obtain ⟨cd, hc, h0, hn⟩ := h2
  rcases h1 with ⟨rfl, z, τ, hp, rfl⟩ | ⟨rfl, rfl, hcond⟩
  · obtain ⟨hz, hs_, hcond⟩ := hp
    have hs_ := hs_.symm; subst hs_
    have hcd : cd = 0 := by clear h0 hn; omega
    subst hcd
    obtain ⟨hb, h9⟩ := h0 rfl
    obtain ⟨e1, e2, e3⟩ := rel_q (σ2 := σ2) (cd := 0) r (fun a b c _ => rfl) (fun a b c _ => by rw [h9])
    refine ⟨e1, fun _ => ?_, e3⟩
    rw [e2]
    rw [hz, hb, k13, r0.2.2.2.1.2.2.1]
    rw [sN_congr (f := fun k => σ 21 k q) (g := fun k => su σ 42 0 0 _ 31 0 (5 * k + q)) _ (fun i a b => by have e := r.2.2.2.2.2.2.1 i q a (by omega) (by omega) (by omega); unfold RC at e; rw [hk 31 0 _ (by decide) (by decide), e.2.1])]
  · have hcd : cd = 1 := by clear h0 hn; omega
    subst hcd
    obtain ⟨e1, e2⟩ := rel_e (σ2 := σ2) (cd := 1) r (fun a b c _ => by rw [hn (by decide)])
    exact ⟨e1, fun z => absurd z (by decide), e2⟩
theorem m_owes {σ σ1 : Sg} {k : Int} {q : Int} (h1 : (fun k σ' => (k = 0 ∧ ∃ (z : Int) (τ9 : Sg), (z = σ 6 0 q ∧ τ9 = σ ∧ (0 ≤ q ∧ q < 5)) ∧ σ' = su τ9 42 0 0 (w32 z)) ∨ (k = 1 ∧ σ' = σ ∧ ¬ (0 ≤ q ∧ q < 5))) k σ1) : Mk σ σ1 := by
  rcases h1 with ⟨rfl, z, τ, hp, rfl⟩ | ⟨rfl, rfl, hcond⟩
  · obtain ⟨hz, hs_, hcond⟩ := hp
    subst hs_
    exact fun a b c _ _ => su_nk (by omega)
  · exact fun a b c _ _ => rfl
set_option maxHeartbeats 1000000 in
theorem o_owes {σ σ1 σ2 : Sg} {k b : Int} {q : Int} (r : Rel σ) (h1 : (fun k σ' => (k = 0 ∧ ∃ (z : Int) (τ9 : Sg), (z = σ 6 0 q ∧ τ9 = σ ∧ (0 ≤ q ∧ q < 5)) ∧ σ' = su τ9 42 0 0 (w32 z)) ∨ (k = 1 ∧ σ' = σ ∧ ¬ (0 ≤ q ∧ q < 5))) k σ1) (h2 : (fun z σ' => ∃ cd, ((cd = 0 ∧ (0 ≤ q ∧ q < 5)) ∨ (cd = 1 ∧ (¬ (0 ≤ q ∧ q < 5)))) ∧ (cd = 0 → z = σ1 32 0 q ∧ σ' = su σ1 22 0 24 0) ∧ (¬ cd = 0 → σ' = su σ1 22 0 24 cd)) b σ2) : σ2 22 0 24 = k ∧ (k = 0 → σ2 42 0 0 = w32 b) ∧ Rel σ2 := by
  have hk := m_owes h1
  have r0 := r.1
  unfold R0 at r0
  have k6 := hk 22 0 6 (by decide) (by decide)
  have k10 := hk 22 0 10 (by decide) (by decide)
  have k13 := hk 22 0 13 (by decide) (by decide)
  have k1 := hk 22 0 1 (by decide) (by decide)
  have k2 := hk 22 0 2 (by decide) (by decide)
  obtain ⟨cd, hc, h0, hn⟩ := h2
  rcases h1 with ⟨rfl, z, τ, hp, rfl⟩ | ⟨rfl, rfl, hcond⟩
  · obtain ⟨hz, hs_, hcond⟩ := hp
    have hs_ := hs_.symm; subst hs_
    have hcd : cd = 0 := by clear h0 hn; omega
    subst hcd
    obtain ⟨hb, h9⟩ := h0 rfl
    obtain ⟨e1, e2, e3⟩ := rel_q (σ2 := σ2) (cd := 0) r (fun a b c _ => rfl) (fun a b c _ => by rw [h9])
    refine ⟨e1, fun _ => ?_, e3⟩
    rw [e2]
    rw [hz, hb, hk 32 0 q (by decide) (by decide), r.2.2.2.2.2.2.2.2 q (by omega) (by omega)]
  · have hcd : cd = 1 := by clear h0 hn; omega
    subst hcd
    obtain ⟨e1, e2⟩ := rel_e (σ2 := σ2) (cd := 1) r (fun a b c _ => by rw [hn (by decide)])
    exact ⟨e1, fun z => absurd z (by decide), e2⟩
theorem m_balance {σ σ1 : Sg} {k : Int} {q : Int} (h1 : (fun k σ' => (k = 0 ∧ ∃ (z : Int) (τ9 : Sg), (z = w32 (sN (fun k => σ 21 k q) (σ 0 0 9).toNat) - w32 (σ 6 0 q) + sN (fun w => σ 18 w q - σ 17 w q) (σ 0 0 4).toNat ∧ τ9 = σ ∧ (0 ≤ q ∧ q < 5)) ∧ σ' = su τ9 42 0 0 z) ∨ (k = 1 ∧ σ' = σ ∧ ¬ (0 ≤ q ∧ q < 5))) k σ1) : Mk σ σ1 := by
  rcases h1 with ⟨rfl, z, τ, hp, rfl⟩ | ⟨rfl, rfl, hcond⟩
  · obtain ⟨hz, hs_, hcond⟩ := hp
    subst hs_
    exact fun a b c _ _ => su_nk (by omega)
  · exact fun a b c _ _ => rfl
set_option maxHeartbeats 1000000 in
theorem o_balance {σ σ1 σ2 : Sg} {k b : Int} {q : Int} (r : Rel σ) (h1 : (fun k σ' => (k = 0 ∧ ∃ (z : Int) (τ9 : Sg), (z = w32 (sN (fun k => σ 21 k q) (σ 0 0 9).toNat) - w32 (σ 6 0 q) + sN (fun w => σ 18 w q - σ 17 w q) (σ 0 0 4).toNat ∧ τ9 = σ ∧ (0 ≤ q ∧ q < 5)) ∧ σ' = su τ9 42 0 0 z) ∨ (k = 1 ∧ σ' = σ ∧ ¬ (0 ≤ q ∧ q < 5))) k σ1) (h2 : (fun z σ' => ∃ cd, ((cd = 0 ∧ (0 ≤ q ∧ q < 5)) ∨ (cd = 1 ∧ (¬ (0 ≤ q ∧ q < 5)))) ∧ (cd = 0 → z = w32 (sN (fun k => σ1 31 0 (5 * k + q)) (σ1 22 0 13).toNat) - w32 (σ1 32 0 q) + sN (fun w => FM σ1 w 18 q - FM σ1 w 17 q) (σ1 22 0 6).toNat ∧ ∀ (a : Nat) (b c : Int), a < 33 ∨ 41 < a → σ' a b c = su σ1 22 0 24 0 a b c) ∧ (¬ cd = 0 → σ' = su σ1 22 0 24 cd)) b σ2) : σ2 22 0 24 = k ∧ (k = 0 → σ2 42 0 0 = b) ∧ Rel σ2 := by
  have hk := m_balance h1
  have r0 := r.1
  unfold R0 at r0
  have k6 := hk 22 0 6 (by decide) (by decide)
  have k10 := hk 22 0 10 (by decide) (by decide)
  have k13 := hk 22 0 13 (by decide) (by decide)
  have k1 := hk 22 0 1 (by decide) (by decide)
  have k2 := hk 22 0 2 (by decide) (by decide)
  obtain ⟨cd, hc, h0, hn⟩ := h2
  rcases h1 with ⟨rfl, z, τ, hp, rfl⟩ | ⟨rfl, rfl, hcond⟩
  · obtain ⟨hz, hs_, hcond⟩ := hp
    have hs_ := hs_.symm; subst hs_
    have hcd : cd = 0 := by clear h0 hn; omega
    subst hcd
    obtain ⟨hb, h9⟩ := h0 rfl
    obtain ⟨e1, e2, e3⟩ := rel_q (σ2 := σ2) (cd := 0) r (fun a b c _ => rfl) (fun a b c h => h9 a b c h)
    refine ⟨e1, fun _ => ?_, e3⟩
    rw [e2]
    rw [hz, hb, k13, r0.2.2.2.1.2.2.1, k6, r0.2.2.2.1.1, hk 32 0 q (by decide) (by decide), r.2.2.2.2.2.2.2.2 q (by omega) (by omega)]
    rw [sN_congr (f := fun k => σ 21 k q) (g := fun k => su σ 42 0 0 _ 31 0 (5 * k + q)) _ (fun i a b => by have e := r.2.2.2.2.2.2.1 i q a (by omega) (by omega) (by omega); unfold RC at e; rw [hk 31 0 _ (by decide) (by decide), e.2.1])]
    rw [sN_congr (f := fun w => σ 18 w q - σ 17 w q) (g := fun w => FM (su σ 42 0 0 _) w 18 q - FM (su σ 42 0 0 _) w 17 q) (σ 0 0 4).toNat (fun i a b => by rw [hk.fm i, r.fm a (by omega), ac_at (by decide) (by decide) (by omega) (by omega), ac_at (by decide) (by decide) (by omega) (by omega)])]
  · have hcd : cd = 1 := by clear h0 hn; omega
    subst hcd
    obtain ⟨e1, e2⟩ := rel_e (σ2 := σ2) (cd := 1) r (fun a b c _ => by rw [hn (by decide)])
    exact ⟨e1, fun z => absurd z (by decide), e2⟩
-- the calls that change something
theorem m_setShares {σ σ1 : Sg} {k : Int} {a0 a1 a2 a3 a4 : Int} (h1 : (fun k σ' => (k = 0 ∧ σ' = su (su (su (su (su σ 1 0 0 a0) 1 0 1 a1) 1 0 2 a2) 1 0 3 a3) 1 0 4 a4 ∧ (((0 ≤ a0 ∧ a0 ≤ 10000) ∧ (0 ≤ a1 ∧ a1 ≤ 10000) ∧ (0 ≤ a2 ∧ a2 ≤ 10000) ∧ (0 ≤ a3 ∧ a3 ≤ 10000) ∧ (0 ≤ a4 ∧ a4 ≤ 10000)) ∧ a0 + a1 + a2 + a3 + a4 = 10000) ∧ σ 0 0 4 = 0) ∨ (k = 1 ∧ σ' = σ ∧ ¬ (((0 ≤ a0 ∧ a0 ≤ 10000) ∧ (0 ≤ a1 ∧ a1 ≤ 10000) ∧ (0 ≤ a2 ∧ a2 ≤ 10000) ∧ (0 ≤ a3 ∧ a3 ≤ 10000) ∧ (0 ≤ a4 ∧ a4 ≤ 10000)) ∧ a0 + a1 + a2 + a3 + a4 = 10000)) ∨ (k = 2 ∧ σ' = σ ∧ (((0 ≤ a0 ∧ a0 ≤ 10000) ∧ (0 ≤ a1 ∧ a1 ≤ 10000) ∧ (0 ≤ a2 ∧ a2 ≤ 10000) ∧ (0 ≤ a3 ∧ a3 ≤ 10000) ∧ (0 ≤ a4 ∧ a4 ≤ 10000)) ∧ a0 + a1 + a2 + a3 + a4 = 10000) ∧ ¬ σ 0 0 4 = 0)) k σ1) : Mk σ σ1 := by
  rcases h1 with ⟨rfl, hτ, hcond⟩ | ⟨rfl, rfl, hcond⟩ | ⟨rfl, rfl, hcond⟩
  · subst hτ
    exact fun a b c _ _ => by simp only [su]; grind
  · exact fun a b c _ _ => rfl
  · exact fun a b c _ _ => rfl
set_option maxHeartbeats 1000000 in
theorem o_setShares {σ σ1 σ2 : Sg} {k : Int} {a0 a1 a2 a3 a4 : Int} (r : Rel σ) (h1 : (fun k σ' => (k = 0 ∧ σ' = su (su (su (su (su σ 1 0 0 a0) 1 0 1 a1) 1 0 2 a2) 1 0 3 a3) 1 0 4 a4 ∧ (((0 ≤ a0 ∧ a0 ≤ 10000) ∧ (0 ≤ a1 ∧ a1 ≤ 10000) ∧ (0 ≤ a2 ∧ a2 ≤ 10000) ∧ (0 ≤ a3 ∧ a3 ≤ 10000) ∧ (0 ≤ a4 ∧ a4 ≤ 10000)) ∧ a0 + a1 + a2 + a3 + a4 = 10000) ∧ σ 0 0 4 = 0) ∨ (k = 1 ∧ σ' = σ ∧ ¬ (((0 ≤ a0 ∧ a0 ≤ 10000) ∧ (0 ≤ a1 ∧ a1 ≤ 10000) ∧ (0 ≤ a2 ∧ a2 ≤ 10000) ∧ (0 ≤ a3 ∧ a3 ≤ 10000) ∧ (0 ≤ a4 ∧ a4 ≤ 10000)) ∧ a0 + a1 + a2 + a3 + a4 = 10000)) ∨ (k = 2 ∧ σ' = σ ∧ (((0 ≤ a0 ∧ a0 ≤ 10000) ∧ (0 ≤ a1 ∧ a1 ≤ 10000) ∧ (0 ≤ a2 ∧ a2 ≤ 10000) ∧ (0 ≤ a3 ∧ a3 ≤ 10000) ∧ (0 ≤ a4 ∧ a4 ≤ 10000)) ∧ a0 + a1 + a2 + a3 + a4 = 10000) ∧ ¬ σ 0 0 4 = 0)) k σ1) (h2 : (fun σ' => ∃ cd, ((cd = 0 ∧ ((((0 ≤ a0 ∧ a0 ≤ 10000) ∧ (0 ≤ a1 ∧ a1 ≤ 10000) ∧ (0 ≤ a2 ∧ a2 ≤ 10000) ∧ (0 ≤ a3 ∧ a3 ≤ 10000) ∧ (0 ≤ a4 ∧ a4 ≤ 10000)) ∧ a0 + a1 + a2 + a3 + a4 = 10000) ∧ σ1 22 0 6 = 0)) ∨ (cd = 1 ∧ (¬ (((0 ≤ a0 ∧ a0 ≤ 10000) ∧ (0 ≤ a1 ∧ a1 ≤ 10000) ∧ (0 ≤ a2 ∧ a2 ≤ 10000) ∧ (0 ≤ a3 ∧ a3 ≤ 10000) ∧ (0 ≤ a4 ∧ a4 ≤ 10000)) ∧ a0 + a1 + a2 + a3 + a4 = 10000))) ∨ (cd = 2 ∧ ((((0 ≤ a0 ∧ a0 ≤ 10000) ∧ (0 ≤ a1 ∧ a1 ≤ 10000) ∧ (0 ≤ a2 ∧ a2 ≤ 10000) ∧ (0 ≤ a3 ∧ a3 ≤ 10000) ∧ (0 ≤ a4 ∧ a4 ≤ 10000)) ∧ a0 + a1 + a2 + a3 + a4 = 10000) ∧ ¬ σ1 22 0 6 = 0))) ∧ (cd = 0 → σ' = su (su (su (su (su (su σ1 22 0 24 0) 23 0 0 a0) 23 0 1 a1) 23 0 2 a2) 23 0 3 a3) 23 0 4 a4) ∧ (¬ cd = 0 → σ' = su σ1 22 0 24 cd)) σ2) : σ2 22 0 24 = k ∧ Rel σ2 := by
  have hk := m_setShares h1
  have r0 := r.1
  unfold R0 at r0
  have k6 := hk 22 0 6 (by decide) (by decide)
  have k10 := hk 22 0 10 (by decide) (by decide)
  have k13 := hk 22 0 13 (by decide) (by decide)
  have k1 := hk 22 0 1 (by decide) (by decide)
  have k2 := hk 22 0 2 (by decide) (by decide)
  obtain ⟨cd, hc, h0, hn⟩ := h2
  rcases h1 with ⟨rfl, hτ, hcond⟩ | ⟨rfl, rfl, hcond⟩ | ⟨rfl, rfl, hcond⟩
  · subst hτ
    have hcd : cd = 0 := by clear h0 hn; omega
    subst hcd
    have h9 := h0 rfl
    subst h9
    refine ⟨by simp only [su]; grind, r.t_shares hcond.2 (fun a b c x1 x2 x3 x4 => by simp only [su]; grind) (p5 (by simp [su]) (by simp [su]) (by simp [su]) (by simp [su]) (by simp [su])) ⟨p5 ?_ ?_ ?_ ?_ ?_, ?_⟩⟩
    all_goals simp [shf, su, s5]
    all_goals omega
  · have hcd : cd = 1 := by clear h0 hn; omega
    subst hcd
    obtain ⟨e1, e2⟩ := rel_e (σ2 := σ2) (cd := 1) r (fun a b c _ => by rw [hn (by decide)])
    exact ⟨e1, e2⟩
  · have hcd : cd = 2 := by clear h0 hn; omega
    subst hcd
    obtain ⟨e1, e2⟩ := rel_e (σ2 := σ2) (cd := 2) r (fun a b c _ => by rw [hn (by decide)])
    exact ⟨e1, e2⟩
theorem m_setPenalty {σ σ1 : Sg} {k : Int} {a9 : Int} (h1 : (fun k σ' => (k = 0 ∧ ∃ (z : Int) (τ9 : Sg), (z = σ 0 0 1 ∧ τ9 = su σ 0 0 1 a9 ∧ (100 ≤ a9 ∧ a9 ≤ 1000)) ∧ σ' = su τ9 42 0 0 (w32 z)) ∨ (k = 1 ∧ σ' = σ ∧ ¬ (100 ≤ a9 ∧ a9 ≤ 1000))) k σ1) : Mk σ σ1 := by
  rcases h1 with ⟨rfl, z, τ, hp, rfl⟩ | ⟨rfl, rfl, hcond⟩
  · obtain ⟨hz, hs_, hcond⟩ := hp
    subst hs_
    exact fun a b c _ _ => by simp only [su]; grind
  · exact fun a b c _ _ => rfl
set_option maxHeartbeats 1000000 in
theorem o_setPenalty {σ σ1 σ2 : Sg} {k b : Int} {a9 : Int} (r : Rel σ) (h1 : (fun k σ' => (k = 0 ∧ ∃ (z : Int) (τ9 : Sg), (z = σ 0 0 1 ∧ τ9 = su σ 0 0 1 a9 ∧ (100 ≤ a9 ∧ a9 ≤ 1000)) ∧ σ' = su τ9 42 0 0 (w32 z)) ∨ (k = 1 ∧ σ' = σ ∧ ¬ (100 ≤ a9 ∧ a9 ≤ 1000))) k σ1) (h2 : (fun z σ' => ∃ cd, ((cd = 0 ∧ (100 ≤ a9 ∧ a9 ≤ 1000)) ∨ (cd = 1 ∧ (¬ (100 ≤ a9 ∧ a9 ≤ 1000)))) ∧ (cd = 0 → z = σ1 22 0 1 ∧ σ' = su (su σ1 22 0 24 0) 22 0 1 a9) ∧ (¬ cd = 0 → σ' = su σ1 22 0 24 cd)) b σ2) : σ2 22 0 24 = k ∧ (k = 0 → σ2 42 0 0 = w32 b) ∧ Rel σ2 := by
  have hk := m_setPenalty h1
  have r0 := r.1
  unfold R0 at r0
  have k6 := hk 22 0 6 (by decide) (by decide)
  have k10 := hk 22 0 10 (by decide) (by decide)
  have k13 := hk 22 0 13 (by decide) (by decide)
  have k1 := hk 22 0 1 (by decide) (by decide)
  have k2 := hk 22 0 2 (by decide) (by decide)
  obtain ⟨cd, hc, h0, hn⟩ := h2
  rcases h1 with ⟨rfl, z, τ, hp, rfl⟩ | ⟨rfl, rfl, hcond⟩
  · obtain ⟨hz, hs_, hcond⟩ := hp
    subst hs_
    have hcd : cd = 0 := by clear h0 hn; omega
    subst hcd
    obtain ⟨hb, h9⟩ := h0 rfl
    subst h9
    refine ⟨by simp [su], fun _ => ?_, r.t_pen (fun a b c x1 x2 x3 x4 => by simp only [su]; grind) (by simp [su]) (by simp [su]; omega)⟩
    rw [hb, k1, r0.2.2.2.1.2.2.2.1, ← hz]
    simp [su]
  · have hcd : cd = 1 := by clear h0 hn; omega
    subst hcd
    obtain ⟨e1, e2⟩ := rel_e (σ2 := σ2) (cd := 1) r (fun a b c _ => by rw [hn (by decide)])
    exact ⟨e1, fun z => absurd z (by decide), e2⟩
theorem m_setOverhead {σ σ1 : Sg} {k : Int} {a9 : Int} (h1 : (fun k σ' => (k = 0 ∧ ∃ (z : Int) (τ9 : Sg), (z = σ 0 0 2 ∧ τ9 = su σ 0 0 2 a9 ∧ (0 ≤ a9 ∧ a9 ≤ 100000)) ∧ σ' = su τ9 42 0 0 (w32 z)) ∨ (k = 1 ∧ σ' = σ ∧ ¬ (0 ≤ a9 ∧ a9 ≤ 100000))) k σ1) : Mk σ σ1 := by
  rcases h1 with ⟨rfl, z, τ, hp, rfl⟩ | ⟨rfl, rfl, hcond⟩
  · obtain ⟨hz, hs_, hcond⟩ := hp
    subst hs_
    exact fun a b c _ _ => by simp only [su]; grind
  · exact fun a b c _ _ => rfl
set_option maxHeartbeats 1000000 in
theorem o_setOverhead {σ σ1 σ2 : Sg} {k b : Int} {a9 : Int} (r : Rel σ) (h1 : (fun k σ' => (k = 0 ∧ ∃ (z : Int) (τ9 : Sg), (z = σ 0 0 2 ∧ τ9 = su σ 0 0 2 a9 ∧ (0 ≤ a9 ∧ a9 ≤ 100000)) ∧ σ' = su τ9 42 0 0 (w32 z)) ∨ (k = 1 ∧ σ' = σ ∧ ¬ (0 ≤ a9 ∧ a9 ≤ 100000))) k σ1) (h2 : (fun z σ' => ∃ cd, ((cd = 0 ∧ (0 ≤ a9 ∧ a9 ≤ 100000)) ∨ (cd = 1 ∧ (¬ (0 ≤ a9 ∧ a9 ≤ 100000)))) ∧ (cd = 0 → z = σ1 22 0 2 ∧ σ' = su (su σ1 22 0 24 0) 22 0 2 a9) ∧ (¬ cd = 0 → σ' = su σ1 22 0 24 cd)) b σ2) : σ2 22 0 24 = k ∧ (k = 0 → σ2 42 0 0 = w32 b) ∧ Rel σ2 := by
  have hk := m_setOverhead h1
  have r0 := r.1
  unfold R0 at r0
  have k6 := hk 22 0 6 (by decide) (by decide)
  have k10 := hk 22 0 10 (by decide) (by decide)
  have k13 := hk 22 0 13 (by decide) (by decide)
  have k1 := hk 22 0 1 (by decide) (by decide)
  have k2 := hk 22 0 2 (by decide) (by decide)
  obtain ⟨cd, hc, h0, hn⟩ := h2
  rcases h1 with ⟨rfl, z, τ, hp, rfl⟩ | ⟨rfl, rfl, hcond⟩
  · obtain ⟨hz, hs_, hcond⟩ := hp
    subst hs_
    have hcd : cd = 0 := by clear h0 hn; omega
    subst hcd
    obtain ⟨hb, h9⟩ := h0 rfl
    subst h9
    refine ⟨by simp [su], fun _ => ?_, r.t_ovh (fun a b c x1 x2 x3 x4 => by simp only [su]; grind) (by simp [su]) (by simp [su]; omega)⟩
    rw [hb, k2, r0.2.2.2.1.2.2.2.2, ← hz]
    simp [su]
  · have hcd : cd = 1 := by clear h0 hn; omega
    subst hcd
    obtain ⟨e1, e2⟩ := rel_e (σ2 := σ2) (cd := 1) r (fun a b c _ => by rw [hn (by decide)])
    exact ⟨e1, fun z => absurd z (by decide), e2⟩
theorem m_addWell {σ σ1 : Sg} {k : Int} (h1 : (fun k σ' => (k = 0 ∧ ∃ (z : Int) (τ9 : Sg), (z = σ 0 0 4 ∧ τ9 = su (su σ 12 (σ 0 0 4) 0 (σ 0 0 1)) 0 0 4 (σ 0 0 4 + 1) ∧ σ 0 0 4 < 6) ∧ σ' = su τ9 42 0 0 (w32 z)) ∨ (k = 1 ∧ σ' = σ ∧ ¬ σ 0 0 4 < 6)) k σ1) : Mk σ σ1 := by
  rcases h1 with ⟨rfl, z, τ, hp, rfl⟩ | ⟨rfl, rfl, hcond⟩
  · obtain ⟨hz, hs_, hcond⟩ := hp
    subst hs_
    exact fun a b c _ _ => by simp only [su]; grind
  · exact fun a b c _ _ => rfl
set_option maxHeartbeats 1000000 in
theorem o_addWell {σ σ1 σ2 : Sg} {k b : Int} (r : Rel σ) (h1 : (fun k σ' => (k = 0 ∧ ∃ (z : Int) (τ9 : Sg), (z = σ 0 0 4 ∧ τ9 = su (su σ 12 (σ 0 0 4) 0 (σ 0 0 1)) 0 0 4 (σ 0 0 4 + 1) ∧ σ 0 0 4 < 6) ∧ σ' = su τ9 42 0 0 (w32 z)) ∨ (k = 1 ∧ σ' = σ ∧ ¬ σ 0 0 4 < 6)) k σ1) (h2 : (fun z σ' => ∃ cd, ((cd = 0 ∧ (σ1 22 0 6 < 6)) ∨ (cd = 1 ∧ (¬ σ1 22 0 6 < 6))) ∧ (cd = 0 → z = σ1 22 0 6 ∧ σ' = su (su (su σ1 22 0 24 0) 24 0 (σ1 22 0 6) (σ1 22 0 1)) 22 0 6 (σ1 22 0 6 + 1)) ∧ (¬ cd = 0 → σ' = su σ1 22 0 24 cd)) b σ2) : σ2 22 0 24 = k ∧ (k = 0 → σ2 42 0 0 = w32 b) ∧ Rel σ2 := by
  have hk := m_addWell h1
  have r0 := r.1
  unfold R0 at r0
  have k6 := hk 22 0 6 (by decide) (by decide)
  have k10 := hk 22 0 10 (by decide) (by decide)
  have k13 := hk 22 0 13 (by decide) (by decide)
  have k1 := hk 22 0 1 (by decide) (by decide)
  have k2 := hk 22 0 2 (by decide) (by decide)
  obtain ⟨cd, hc, h0, hn⟩ := h2
  rcases h1 with ⟨rfl, z, τ, hp, rfl⟩ | ⟨rfl, rfl, hcond⟩
  · obtain ⟨hz, hs_, hcond⟩ := hp
    subst hs_
    have hcd : cd = 0 := by clear h0 hn; omega
    subst hcd
    obtain ⟨hb, h9⟩ := h0 rfl
    have q6 := k6.trans r0.2.2.2.1.1
    have q1 := k1.trans r0.2.2.2.1.2.2.2.1
    rw [q6, q1] at h9
    subst h9
    refine ⟨by simp [su], fun _ => ?_, r.t_well hcond (fun a b c x1 x2 x3 x4 => by simp only [su]; grind) (by simp [su]) (by simp [su]) (by simp [su]) (by simp [su])⟩
    rw [hb, q6, ← hz]
    simp [su]
  · have hcd : cd = 1 := by clear h0 hn; omega
    subst hcd
    obtain ⟨e1, e2⟩ := rel_e (σ2 := σ2) (cd := 1) r (fun a b c _ => by rw [hn (by decide)])
    exact ⟨e1, fun z => absurd z (by decide), e2⟩
theorem elect_eqx (σ : Sg) (w q b9 z : Int) : Eqx (fun a b c => (a = 13 ∧ b = w ∧ c = q) ∨ (a = 14 ∧ b = w ∧ c = q) ∨ (a = 26 ∧ c = 5 * w + q)) σ (su (su (su (su (su σ 13 w q (1 - b9)) 14 w q (1 - b9)) 42 0 0 z) 22 0 24 0) 26 0 (5 * w + q) (1 - b9)) := fun a b c x1 x2 x3 x4 => by
  rw [su_ne3 (by omega), su_ne3 (by omega), su_nk (by omega), su_ne3 (by omega), su_ne3 (by omega)]
def exs (σ : Sg) (w q : Int) : Prop := ∃ q', 0 ≤ q' ∧ q' < 5 ∧ q' ≠ q ∧ σ 14 w q' = 0 ∧ 0 < σ 1 0 q'
theorem Rel.e14 {σ : Sg} (r : Rel σ) {w : Int} (h0 : 0 ≤ w) (h6 : w < 6) (hn : σ 12 w 1 = 0) : ∀ q, 0 ≤ q → q < 5 → σ 14 w q = σ 13 w q := fun q a b => by
  have z := (r.2.2.2.2.2.1 w h0 h6).2
  rw [fold0 (r.none (w := w) (by omega))] at z
  have z2 := congrFun (congrFun z 14) q
  rw [ac_at (by decide) (by decide) a b, T0f_14 a b] at z2
  exact z2
theorem Rel.ex {σ σ1 : Sg} (r : Rel σ) (hk : Mk σ σ1) {w q : Int} (h0 : 0 ≤ w) (h6 : w < 6) (hn : σ 12 w 1 = 0) : exs σ w q ↔ exm σ1 w q := by
  have e := r.e14 h0 h6 hn
  have e2 := fun x a b => (r.2.2.2.2.1 w x h0 h6 a b).1
  have e3 := r.2.1.1
  have e4 := fun x => hk 26 0 x (by decide) (by decide)
  have e5 := fun x => hk 23 0 x (by decide) (by decide)
  constructor
  · rintro ⟨x, a, b, c, d, f⟩
    exact ⟨x, a, b, c, by rw [e5, e3 x a b]; exact f, by rw [e4, e2 x a b, ← e x a b]; exact d⟩
  · rintro ⟨x, a, b, c, d, f⟩
    exact ⟨x, a, b, c, by rw [e x a b, ← e2 x a b, ← e4]; exact f, by rw [← e3 x a b, ← e5]; exact d⟩
theorem m_elect {σ σ1 : Sg} {k : Int} {w q b9 : Int} (h1 : (fun k σ' => (k = 0 ∧ ∃ (z : Int) (τ9 : Sg), (z = (if σ 13 w q = 0 then 1 else 0) ∧ τ9 = su (su σ 13 w q (1 - b9)) 14 w q (1 - b9) ∧ ((0 ≤ w ∧ w < σ 0 0 4) ∧ (0 ≤ q ∧ q < 5)) ∧ σ 12 w 1 = 0 ∧ ¬ σ 1 0 q = 0 ∧ (b9 = 0 → ∃ q', 0 ≤ q' ∧ q' < 5 ∧ q' ≠ q ∧ σ 14 w q' = 0 ∧ 0 < σ 1 0 q')) ∧ σ' = su τ9 42 0 0 z) ∨ (k = 1 ∧ σ' = σ ∧ ¬ ((0 ≤ w ∧ w < σ 0 0 4) ∧ (0 ≤ q ∧ q < 5))) ∨ (k = 2 ∧ σ' = σ ∧ ((0 ≤ w ∧ w < σ 0 0 4) ∧ (0 ≤ q ∧ q < 5)) ∧ ¬ (σ 12 w 1 = 0 ∧ ¬ σ 1 0 q = 0 ∧ (b9 = 0 → ∃ q', 0 ≤ q' ∧ q' < 5 ∧ q' ≠ q ∧ σ 14 w q' = 0 ∧ 0 < σ 1 0 q')))) k σ1) : Mk σ σ1 := by
  rcases h1 with ⟨rfl, z, τ, hp, rfl⟩ | ⟨rfl, rfl, hcond⟩ | ⟨rfl, rfl, hcond⟩
  · obtain ⟨hz, hs_, hcond⟩ := hp
    subst hs_
    exact fun a b c _ _ => by rw [su_nk (by omega), su_nk (by omega), su_nk (by omega)]
  · exact fun a b c _ _ => rfl
  · exact fun a b c _ _ => rfl
set_option maxHeartbeats 1000000 in
theorem o_elect {σ σ1 σ2 : Sg} {k b : Int} {w q b9 : Int} (hb9 : b9 = 0 ∨ b9 = 1) (r : Rel σ) (h1 : (fun k σ' => (k = 0 ∧ ∃ (z : Int) (τ9 : Sg), (z = (if σ 13 w q = 0 then 1 else 0) ∧ τ9 = su (su σ 13 w q (1 - b9)) 14 w q (1 - b9) ∧ ((0 ≤ w ∧ w < σ 0 0 4) ∧ (0 ≤ q ∧ q < 5)) ∧ σ 12 w 1 = 0 ∧ ¬ σ 1 0 q = 0 ∧ (b9 = 0 → ∃ q', 0 ≤ q' ∧ q' < 5 ∧ q' ≠ q ∧ σ 14 w q' = 0 ∧ 0 < σ 1 0 q')) ∧ σ' = su τ9 42 0 0 z) ∨ (k = 1 ∧ σ' = σ ∧ ¬ ((0 ≤ w ∧ w < σ 0 0 4) ∧ (0 ≤ q ∧ q < 5))) ∨ (k = 2 ∧ σ' = σ ∧ ((0 ≤ w ∧ w < σ 0 0 4) ∧ (0 ≤ q ∧ q < 5)) ∧ ¬ (σ 12 w 1 = 0 ∧ ¬ σ 1 0 q = 0 ∧ (b9 = 0 → ∃ q', 0 ≤ q' ∧ q' < 5 ∧ q' ≠ q ∧ σ 14 w q' = 0 ∧ 0 < σ 1 0 q')))) k σ1) (h2 : (fun z σ' => ∃ cd, ((cd = 0 ∧ (((0 ≤ w ∧ w < σ1 22 0 6) ∧ (0 ≤ q ∧ q < 5)) ∧ (((0 ≤ w ∧ w < σ1 22 0 6) ∧ (0 ≤ q ∧ q < 5)) ∧ σ1 25 0 w = 0 ∧ 0 < σ1 23 0 q ∧ (b9 = 0 → exm σ1 w q)))) ∨ (cd = 1 ∧ (¬ ((0 ≤ w ∧ w < σ1 22 0 6) ∧ (0 ≤ q ∧ q < 5)))) ∨ (cd = 2 ∧ (((0 ≤ w ∧ w < σ1 22 0 6) ∧ (0 ≤ q ∧ q < 5)) ∧ ¬ (((0 ≤ w ∧ w < σ1 22 0 6) ∧ (0 ≤ q ∧ q < 5)) ∧ σ1 25 0 w = 0 ∧ 0 < σ1 23 0 q ∧ (b9 = 0 → exm σ1 w q))))) ∧ (cd = 0 → z = (if σ1 26 0 (5 * w + q) = 0 then 1 else 0) ∧ σ' = su (su σ1 22 0 24 0) 26 0 (5 * w + q) (1 - b9)) ∧ (¬ cd = 0 → σ' = su σ1 22 0 24 cd)) b σ2) : σ2 22 0 24 = k ∧ (k = 0 → σ2 42 0 0 = b ∧ (b = 0 ∨ b = 1)) ∧ Rel σ2 := by
  have hk := m_elect h1
  have r0 := r.1
  unfold R0 at r0
  have k6 := hk 22 0 6 (by decide) (by decide)
  have k10 := hk 22 0 10 (by decide) (by decide)
  have k13 := hk 22 0 13 (by decide) (by decide)
  have k1 := hk 22 0 1 (by decide) (by decide)
  have k2 := hk 22 0 2 (by decide) (by decide)
  obtain ⟨cd, hc, h0, hn⟩ := h2
  have hXY := fun (x1 : 0 ≤ w) (x2 : w < 6) => r.ex (q := q) hk x1 x2
  have h25 : 0 ≤ w → w < 6 → σ1 25 0 w = σ 12 w 1 := fun x1 x2 => by rw [hk 25 0 w (by decide) (by decide)]; exact (r.2.2.2.1 w x1 x2).2.2.1
  have h23 : 0 ≤ q → q < 5 → σ1 23 0 q = σ 1 0 q := fun x1 x2 => by rw [hk 23 0 q (by decide) (by decide)]; exact r.2.1.1 q x1 x2
  rcases h1 with ⟨rfl, z, τ, hp, rfl⟩ | ⟨rfl, rfl, hcond⟩ | ⟨rfl, rfl, hcond⟩
  · obtain ⟨hz, hs_, hcond, hn0, hs0, hex⟩ := hp
    change b9 = 0 → exs σ w q at hex
    have hcd : cd = 0 := by
      clear h0 hn
      rcases hc with ⟨e, _⟩ | ⟨e, h⟩ | ⟨e, h⟩
      · exact e
      · exact absurd (by omega) h
      · exact absurd ⟨by omega, by have := h25 (by omega) (by omega); omega, by have := h23 (by omega) (by omega); have := r.hs q (by omega) (by omega); omega, fun y => (hXY (by omega) (by omega) hn0).mp (hex y)⟩ h.2
    subst hcd
    subst hs_
    obtain ⟨hb, h9⟩ := h0 rfl
    subst h9
    have re := r.2.2.2.2.1 w q (by omega) (by omega) (by omega) (by omega)
    unfold RE at re
    refine ⟨by simp [su], fun _ => ⟨?_, by rw [hb]; split <;> omega⟩, r.t_elect (x0 := 1 - b9) hcond.1 hcond.2 (by omega) hn0 (by have := r.hs q (by omega) (by omega); omega) (fun z => ?_) (elect_eqx σ w q b9 z) (by simp [su]) (by simp [su]) (by simp [su])⟩
    · rw [hb, hk 26 0 _ (by decide) (by decide), re.1, ← hz]; simp [su]
    · obtain ⟨q', y1, y2, y3, y4, y5⟩ := hex (by omega)
      exact ⟨q', y1, y2, y3, by rw [← r.e14 (by omega) (by omega) hn0 q' y1 y2]; exact y4, y5⟩
  · have hcd : cd = 1 := by
      rcases hc with ⟨e, h⟩ | ⟨e, h⟩ | ⟨e, h⟩
      · exact absurd (by omega) hcond
      · exact e
      · exact absurd (by omega) hcond
    subst hcd
    obtain ⟨e1, e2⟩ := rel_e (σ2 := σ2) (cd := 1) r (fun a b c _ => by rw [hn (by decide)])
    exact ⟨e1, fun z => absurd z (by decide), e2⟩
  · change ((0 ≤ w ∧ w < σ1 0 0 4) ∧ 0 ≤ q ∧ q < 5) ∧ ¬ (σ1 12 w 1 = 0 ∧ ¬ σ1 1 0 q = 0 ∧ (b9 = 0 → exs σ1 w q)) at hcond
    have hcd : cd = 2 := by
      clear h0 hn
      rcases hc with ⟨e, h⟩ | ⟨e, h⟩ | ⟨e, h⟩
      · have y25 := h25 (by omega) (by omega)
        have y23 := h23 (by omega) (by omega)
        have hn0 := y25.symm.trans h.2.2.1
        exact absurd ⟨hn0, by have := h.2.2.2.1; omega, fun y => (hXY (by omega) (by omega) hn0).mpr (h.2.2.2.2 y)⟩ hcond.2
      · exact absurd (by omega) h
      · exact e
    subst hcd
    obtain ⟨e1, e2⟩ := rel_e (σ2 := σ2) (cd := 2) r (fun a b c _ => by rw [hn (by decide)])
    exact ⟨e1, fun z => absurd z (by decide), e2⟩
theorem enter_ok {σ τ σ2 : Sg} {w am x fl z : Int} (r : Rel σ) (hw0 : 0 ≤ w ∧ w < σ 0 0 4) (hn : σ 0 0 7 < 60) (hx : 1 ≤ x ∧ x ≤ 10000000) (hfl : (fl = 0 ∧ am = x) ∨ (fl = 1 ∧ am = -x)) (F : Fr (adV σ w am) τ w) (E : ac τ w = stepS (shf σ) (σ 12 w 0) (σ 0 0 7) am (ac σ w)) (h9 : σ2 = su (su (su (su (su (su (su τ 42 0 0 z) 22 0 24 0) 27 0 (σ 0 0 7) w) 28 0 (σ 0 0 7) x) 29 0 (σ 0 0 7) fl) 25 0 w 1) 22 0 10 (σ 0 0 7 + 1)) : Rel σ2 := by
  have hnd : ∀ (a : Nat) (b c : Int), (a < 22 ∨ 29 < a) → a ≠ 42 → σ2 a b c = τ a b c := fun a b c x1 x2 => by
    rw [h9, su_nk (by omega), su_nk (by omega), su_nk (by omega), su_nk (by omega), su_nk (by omega), su_nk (by omega), su_nk (by omega)]
  have gF : ∀ (a : Nat) (b c : Int), (a < 8 ∨ 11 < a) → a < 22 → (a < 14 ∨ 18 < a ∨ b ≠ w ∨ c < 0 ∨ 5 ≤ c) → σ2 a b c = adV σ w am a b c := fun a b c x1 x2 x3 => (hnd a b c (by omega) (by omega)).trans (F a b c x1 x3)
  refine r.t_enter (w0 := w) (am := am) (x := x) (fl := fl) hw0 hn hx hfl (fun a b c x1 x2 x3 x4 => ?_) ?_ ?_ ?_ ?_ ?_ ?_ ?_ ?_ ?_ ?_
  · clear hx hfl hw0 hn
    by_cases e : a < 22
    · rw [gF a b c x1 e (by omega)]
      unfold adV
      rw [su_ne3 (by omega), su_ne3 (by omega), su_ne3 (by omega), su_ne3 (by omega)]
    · rw [h9, su_ne3 (by omega), su_ne3 (by omega), su_ne3 (by omega), su_ne3 (by omega), su_ne3 (by omega), su_ne3 (by omega), su_nk (by omega), F a b c x1 (by omega)]
      unfold adV
      rw [su_nk (by omega), su_nk (by omega), su_nk (by omega), su_nk (by omega)]
  · rw [gF _ _ _ (by decide) (by decide) (Or.inl (by decide))]; simp [adV, su]
  · rw [gF _ _ _ (by decide) (by decide) (Or.inl (by decide))]; simp [adV, su]
  · rw [gF _ _ _ (by decide) (by decide) (Or.inl (by decide))]; simp [adV, su]
  · rw [gF _ _ _ (by decide) (by decide) (Or.inl (by decide))]; simp [adV, su]
  · rw [h9]; simp [su]
  · rw [h9]; simp [su]
  · rw [h9]; simp [su]
  · rw [h9]; simp [su]
  · rw [h9]; simp [su]
  · rw [ac_congr (σ := τ) (fun c q x1 x2 _ _ => hnd c w q (by omega) (by omega))]; exact E
theorem move_ok {σ τ σ2 : Sg} {v w z : Int} (r : Rel σ) (hw0 : 0 ≤ w ∧ w < σ 0 0 4) (hv0 : 0 ≤ v ∧ v < σ 0 0 7) (F : ∀ (a : Nat) (b c : Int), (a < 8 ∨ 11 < a) → (a < 14 ∨ 18 < a ∨ (b ≠ w ∧ b ≠ σ 3 0 v) ∨ c < 0 ∨ 5 ≤ c) → τ a b c = su (su σ 3 0 v w) 12 w 1 1 a b c) (A1 : ac τ w = foldS (shf σ) (σ 12 w 0) (su (su σ 3 0 v w) 12 w 1 1 3 0) (σ 4 0) w (T0f (σ 13 w)) (σ 0 0 7).toNat) (A2 : ac τ (σ 3 0 v) = foldS (shf σ) (σ 12 (σ 3 0 v) 0) (su (su σ 3 0 v w) 12 w 1 1 3 0) (σ 4 0) (σ 3 0 v) (T0f (σ 13 (σ 3 0 v))) (σ 0 0 7).toNat) (h9 : σ2 = su (su (su (su τ 42 0 0 z) 22 0 24 0) 27 0 v w) 25 0 w 1) : Rel σ2 := by
  have hnd : ∀ (a : Nat) (b c : Int), (a < 22 ∨ 29 < a) → a ≠ 42 → σ2 a b c = τ a b c := fun a b c x1 x2 => by
    rw [h9, su_nk (by omega), su_nk (by omega), su_nk (by omega), su_nk (by omega)]
  have e3 : σ2 3 0 = su (su σ 3 0 v w) 12 w 1 1 3 0 := by
    funext c
    rw [hnd _ _ _ (by decide) (by decide), F _ _ _ (by decide) (Or.inl (by decide))]
  refine r.t_move (v0 := v) (w0 := w) hw0 hv0 (fun a b c x1 x2 x3 x4 => ?_) ?_ ?_ ?_ ?_ ?_ ?_
  · clear hw0 hv0
    rw [h9, su_ne3 (by omega), su_ne3 (by omega), su_ne3 (by omega), su_nk (by omega), F a b c x1 (by omega), su_ne3 (by omega), su_ne3 (by omega)]
  · rw [e3]; simp [su]
  · rw [h9]; simp [su]
  · rw [hnd _ _ _ (by decide) (by decide), F _ _ _ (by decide) (Or.inl (by decide))]; simp [su]
  · rw [h9]; simp [su]
  · rw [ac_congr (σ := τ) (fun c q x1 x2 _ _ => hnd c w q (by omega) (by omega)), e3]; exact A1
  · rw [ac_congr (σ := τ) (fun c q x1 x2 _ _ => hnd c _ q (by omega) (by omega)), e3]; exact A2
theorem call_ok {σ τ σ2 : Sg} {f : Int → Int} {z : Int} (r : Rel σ) (hlt : σ 0 0 9 < 20) (hf : ∀ q, 0 ≤ q → q < 5 → 0 ≤ f q) (hf5 : s5 f ≤ 10000000) (F : Fs (su (sf σ 20 (σ 0 0 9) 5 f) 0 0 9 (σ 0 0 9 + 1)) τ) (h9 : ∀ (a : Nat) (b c : Int), a < 30 ∨ a = 31 ∨ a = 32 ∨ 41 < a → σ2 a b c = su (su (su τ 42 0 0 z) 22 0 24 0) 22 0 13 (σ 0 0 9 + 1) a b c) (h30 : ∀ j, σ2 30 0 j = if 5 * σ 0 0 9 ≤ j ∧ j < 5 * σ 0 0 9 + 5 then f (j - 5 * σ 0 0 9) else su τ 42 0 0 z 30 0 j) : Rel σ2 := by
  refine r.t_call (f := f) hlt hf hf5 (fun a b c x1 x2 x3 x4 => ?_) (fun q x y => ?_) (fun q x y => ?_) ?_ ?_
  · clear hlt hf hf5
    by_cases e30 : a = 30
    · subst e30
      by_cases eb : b = 0
      · subst eb
        rw [h30, if_neg (by omega), su_nk (by decide), F _ _ _ (by decide), su_nk (by decide), sf_nk (by decide)]
      · exact absurd (Or.inr (Or.inr (Or.inl ⟨rfl, Or.inl eb⟩))) x4
    · rw [h9 a b c (by omega), su_ne3 (by omega), su_ne3 (by omega), su_nk (by omega), F a b c x1, su_ne3 (by omega), sf_ne (by omega)]
  · rw [h9 _ _ _ (by decide), su_nk (by decide), su_nk (by decide), su_nk (by decide), F _ _ _ (by decide), su_nk (by decide), sf_at x y]
  · rw [h30, if_pos (by omega)]
    congr 1
    omega
  · rw [h9 _ _ _ (by decide), su_nk (by decide), su_nk (by decide), su_nk (by decide), F _ _ _ (by decide), su_at]
  · rw [h9 _ _ _ (by decide), su_at]
theorem pay_eqx (σ : Sg) (k9 q x y z : Int) : Eqx (fun a b c => (a = 21 ∧ b = k9 ∧ c = q) ∨ (a = 31 ∧ c = 5 * k9 + q)) σ (su (su (su (su σ 21 k9 q x) 42 0 0 z) 22 0 24 0) 31 0 (5 * k9 + q) y) := fun a b c x1 x2 x3 x4 => by
  rw [su_ne3 (by omega), su_ne3 (by omega), su_nk (by omega), su_ne3 (by omega)]
theorem share_ok {σ τ σ2 : Sg} {k9 z N : Int} (r : Rel σ) (hk : 0 ≤ k9 ∧ k9 < σ 0 0 9) (hN : N = s5 (fun q => if σ 21 k9 q = 0 then σ 20 k9 q else 0)) (hpy : ∃ q, 0 ≤ q ∧ q < 5 ∧ 0 < σ 21 k9 q)
    (F : ∀ (a : Nat) (b c : Int), a < 8 ∨ 11 < a → (a ≠ 6 ∨ b ≠ 0 ∨ c < 0 ∨ 5 ≤ c) → (a ≠ 20 ∨ b ≠ k9 ∨ c < 0 ∨ 5 ≤ c) → τ a b c = σ a b c) (F20 : ∀ q, 0 ≤ q → q < 5 → τ 20 k9 q = if 0 < σ 21 k9 q then σ 20 k9 q + dv N (pw σ k9) q else 0) (F6 : ∀ q, 0 ≤ q → q < 5 → τ 6 0 q = σ 6 0 q + if 0 < σ 21 k9 q then 0 else σ 20 k9 q)
    (h9 : ∀ (a : Nat) (b c : Int), a < 30 ∨ a = 31 ∨ 41 < a → σ2 a b c = su (su τ 42 0 0 z) 22 0 24 0 a b c) (h32 : ∀ q, 0 ≤ q → q < 5 → σ2 32 0 q = σ 6 0 q + if 0 < σ 21 k9 q then 0 else σ 20 k9 q) (h30 : ∀ j, ¬ (5 * k9 ≤ j ∧ j < 5 * k9 + 5) → σ2 30 0 j = σ 30 0 j) (h30c : ∀ q, 0 ≤ q → q < 5 → σ2 30 0 (5 * k9 + q) = if 0 < σ 21 k9 q then σ 20 k9 q + dv N (pw σ k9) q else 0) : Rel σ2 := by
  have hcc := r.hcc
  have c20 := fun q a b => r.c20 k9 q (by omega) (by omega) a b
  have hWp : Wt (pw σ k9) := by
    refine ⟨fun x a b => ?_, ?_⟩
    · unfold pw
      have := c20 x a b
      split <;> omega
    · obtain ⟨x, x0, x5, hx⟩ := hpy
      have h1 := s5_part (f := pw σ k9) (fun y a b => by unfold pw; have := c20 y a b; split <;> omega) x x0 x5
      have h2 : pw σ k9 x = σ 20 k9 x := by unfold pw; rw [if_pos hx]
      have := c20 x x0 x5
      omega
  clear hpy
  have hN0 : 0 ≤ N := by rw [hN]; exact s5_nn (fun q a b => by have := c20 q a b; split <;> omega)
  refine r.t_share (k0 := k9) (f := fun q => if 0 < σ 21 k9 q then σ 20 k9 q + dv N (pw σ k9) q else 0) hk (fun q x y => ?_) ?_ (fun a b c x1 x2 x3 x4 => ?_) (fun q x y => ?_) h30c (fun q x y => ?_)
  · have y1 := c20 q x y
    have y2 := dv_nn hN0 hWp q x y
    split <;> omega
  · rw [s5_congr (g := fun q => (if 0 < σ 21 k9 q then σ 20 k9 q else 0) + dv N (pw σ k9) q) (fun q x y => ?_), s5_add, dv_sum hWp, hN, ← s5_add, s5_congr (g := σ 20 k9) (fun q x y => ?_)]
    · exact r.2.2.2.2.2.2.2.1 k9 (by omega) (by omega)
    · have := c20 q x y
      split <;> split <;> omega
    · by_cases e : 0 < σ 21 k9 q
      · rw [if_pos e, if_pos e]
      · rw [if_neg e, if_neg e, dv_w0 _ hWp (by unfold pw; rw [if_neg e])]; rfl
  · clear hk hcc hN0
    by_cases e30 : a = 30
    · subst e30
      by_cases eb : b = 0
      · subst eb; exact h30 c (by omega)
      · exact absurd (Or.inr (Or.inr (Or.inr ⟨rfl, Or.inl eb⟩))) x4
    · rw [h9 a b c (by omega), su_ne3 (by omega), su_nk (by omega), F a b c x1 (by omega) (by omega)]
  · rw [h9 _ _ _ (by decide), su_nk (by decide), su_nk (by decide), F20 q x y]
  · rw [h32 q x y, h9 _ _ _ (by decide), su_nk (by decide), su_nk (by decide), F6 q x y]
theorem m_cost {σ σ1 : Sg} {k : Int} {w a9 : Int} (h1 : (fun k σ' => (k = 0 ∧ ∃ (z : Int) (τ9 : Sg), (z = σ 0 0 7 ∧ Fr (adV σ w a9) τ9 w ∧ ac τ9 w = stepS (shf σ) (σ 12 w 0) (σ 0 0 7) a9 (ac σ w) ∧ ((0 ≤ w ∧ w < σ 0 0 4) ∧ (1 ≤ a9 ∧ a9 ≤ 10000000)) ∧ σ 0 0 7 < 60) ∧ σ' = su τ9 42 0 0 (w32 z)) ∨ (k = 1 ∧ σ' = σ ∧ ¬ (0 ≤ w ∧ w < σ 0 0 4)) ∨ (k = 2 ∧ σ' = σ ∧ (0 ≤ w ∧ w < σ 0 0 4) ∧ ¬ (1 ≤ a9 ∧ a9 ≤ 10000000)) ∨ (k = 3 ∧ σ' = σ ∧ ((0 ≤ w ∧ w < σ 0 0 4) ∧ (1 ≤ a9 ∧ a9 ≤ 10000000)) ∧ ¬ (σ 0 0 7 < 60))) k σ1) : Mk σ σ1 := by
  rcases h1 with ⟨rfl, z, τ, hp, rfl⟩ | ⟨rfl, rfl, hcond⟩ | ⟨rfl, rfl, hcond⟩ | ⟨rfl, rfl, hcond⟩
  · obtain ⟨hz, F, E, hcond⟩ := hp
    clear hcond
    exact fun a b c _ _ => by
      rw [su_nk (by omega), F a b c (by omega) (by omega)]
      unfold adV
      rw [su_nk (by omega), su_nk (by omega), su_nk (by omega), su_nk (by omega)]
  · exact fun a b c _ _ => rfl
  · exact fun a b c _ _ => rfl
  · exact fun a b c _ _ => rfl
set_option maxHeartbeats 1000000 in
theorem o_cost {σ σ1 σ2 : Sg} {k b : Int} {w a9 : Int} (r : Rel σ) (h1 : (fun k σ' => (k = 0 ∧ ∃ (z : Int) (τ9 : Sg), (z = σ 0 0 7 ∧ Fr (adV σ w a9) τ9 w ∧ ac τ9 w = stepS (shf σ) (σ 12 w 0) (σ 0 0 7) a9 (ac σ w) ∧ ((0 ≤ w ∧ w < σ 0 0 4) ∧ (1 ≤ a9 ∧ a9 ≤ 10000000)) ∧ σ 0 0 7 < 60) ∧ σ' = su τ9 42 0 0 (w32 z)) ∨ (k = 1 ∧ σ' = σ ∧ ¬ (0 ≤ w ∧ w < σ 0 0 4)) ∨ (k = 2 ∧ σ' = σ ∧ (0 ≤ w ∧ w < σ 0 0 4) ∧ ¬ (1 ≤ a9 ∧ a9 ≤ 10000000)) ∨ (k = 3 ∧ σ' = σ ∧ ((0 ≤ w ∧ w < σ 0 0 4) ∧ (1 ≤ a9 ∧ a9 ≤ 10000000)) ∧ ¬ (σ 0 0 7 < 60))) k σ1) (h2 : (fun z σ' => ∃ cd, ((cd = 0 ∧ ((0 ≤ w ∧ w < σ1 22 0 6) ∧ (1 ≤ a9 ∧ a9 ≤ 10000000) ∧ σ1 22 0 10 < 60)) ∨ (cd = 1 ∧ (¬ (0 ≤ w ∧ w < σ1 22 0 6))) ∨ (cd = 2 ∧ ((0 ≤ w ∧ w < σ1 22 0 6) ∧ ¬ (1 ≤ a9 ∧ a9 ≤ 10000000))) ∨ (cd = 3 ∧ ((0 ≤ w ∧ w < σ1 22 0 6) ∧ (1 ≤ a9 ∧ a9 ≤ 10000000) ∧ ¬ (σ1 22 0 10 < 60)))) ∧ (cd = 0 → z = σ1 22 0 10 ∧ σ' = su (su (su (su (su (su σ1 22 0 24 0) 27 0 (σ1 22 0 10) w) 28 0 (σ1 22 0 10) a9) 29 0 (σ1 22 0 10) 0) 25 0 w 1) 22 0 10 (σ1 22 0 10 + 1)) ∧ (¬ cd = 0 → σ' = su σ1 22 0 24 cd)) b σ2) : σ2 22 0 24 = k ∧ (k = 0 → σ2 42 0 0 = w32 b) ∧ Rel σ2 := by
  have hk := m_cost h1
  have r0 := r.1
  unfold R0 at r0
  have k6 := hk 22 0 6 (by decide) (by decide)
  have k10 := hk 22 0 10 (by decide) (by decide)
  have k13 := hk 22 0 13 (by decide) (by decide)
  have k1 := hk 22 0 1 (by decide) (by decide)
  have k2 := hk 22 0 2 (by decide) (by decide)
  obtain ⟨cd, hc, h0, hn⟩ := h2
  rcases h1 with ⟨rfl, z, τ, hp, rfl⟩ | ⟨rfl, rfl, hcond⟩ | ⟨rfl, rfl, hcond⟩ | ⟨rfl, rfl, hcond⟩
  · obtain ⟨hz, F, E, hcond, hroom⟩ := hp
    have hcd : cd = 0 := by clear h0 hn; omega
    subst hcd
    obtain ⟨hb, h9⟩ := h0 rfl
    have q10 := k10.trans r0.2.2.2.1.2.1
    have q2 := k2.trans r0.2.2.2.1.2.2.2.2
    rw [q10] at h9 hb
    (try rw [q2] at h9)
    refine ⟨by rw [h9]; simp [su], fun _ => ?_, enter_ok r hcond.1 hroom hcond.2 (Or.inl ⟨rfl, rfl⟩) F E h9⟩
    rw [hb, ← hz, h9]; simp [su]
  · have hcd : cd = 1 := by clear h0 hn; omega
    subst hcd
    obtain ⟨e1, e2⟩ := rel_e (σ2 := σ2) (cd := 1) r (fun a b c _ => by rw [hn (by decide)])
    exact ⟨e1, fun z => absurd z (by decide), e2⟩
  · have hcd : cd = 2 := by clear h0 hn; omega
    subst hcd
    obtain ⟨e1, e2⟩ := rel_e (σ2 := σ2) (cd := 2) r (fun a b c _ => by rw [hn (by decide)])
    exact ⟨e1, fun z => absurd z (by decide), e2⟩
  · have hcd : cd = 3 := by clear h0 hn; omega
    subst hcd
    obtain ⟨e1, e2⟩ := rel_e (σ2 := σ2) (cd := 3) r (fun a b c _ => by rw [hn (by decide)])
    exact ⟨e1, fun z => absurd z (by decide), e2⟩
theorem m_income {σ σ1 : Sg} {k : Int} {w a9 : Int} (h1 : (fun k σ' => (k = 0 ∧ ∃ (z : Int) (τ9 : Sg), (z = σ 0 0 7 ∧ Fr (adV σ w (-a9)) τ9 w ∧ ac τ9 w = stepS (shf σ) (σ 12 w 0) (σ 0 0 7) (-a9) (ac σ w) ∧ ((0 ≤ w ∧ w < σ 0 0 4) ∧ (1 ≤ a9 ∧ a9 ≤ 10000000)) ∧ σ 0 0 7 < 60) ∧ σ' = su τ9 42 0 0 (w32 z)) ∨ (k = 1 ∧ σ' = σ ∧ ¬ (0 ≤ w ∧ w < σ 0 0 4)) ∨ (k = 2 ∧ σ' = σ ∧ (0 ≤ w ∧ w < σ 0 0 4) ∧ ¬ (1 ≤ a9 ∧ a9 ≤ 10000000)) ∨ (k = 3 ∧ σ' = σ ∧ ((0 ≤ w ∧ w < σ 0 0 4) ∧ (1 ≤ a9 ∧ a9 ≤ 10000000)) ∧ ¬ (σ 0 0 7 < 60))) k σ1) : Mk σ σ1 := by
  rcases h1 with ⟨rfl, z, τ, hp, rfl⟩ | ⟨rfl, rfl, hcond⟩ | ⟨rfl, rfl, hcond⟩ | ⟨rfl, rfl, hcond⟩
  · obtain ⟨hz, F, E, hcond⟩ := hp
    clear hcond
    exact fun a b c _ _ => by
      rw [su_nk (by omega), F a b c (by omega) (by omega)]
      unfold adV
      rw [su_nk (by omega), su_nk (by omega), su_nk (by omega), su_nk (by omega)]
  · exact fun a b c _ _ => rfl
  · exact fun a b c _ _ => rfl
  · exact fun a b c _ _ => rfl
set_option maxHeartbeats 1000000 in
theorem o_income {σ σ1 σ2 : Sg} {k b : Int} {w a9 : Int} (r : Rel σ) (h1 : (fun k σ' => (k = 0 ∧ ∃ (z : Int) (τ9 : Sg), (z = σ 0 0 7 ∧ Fr (adV σ w (-a9)) τ9 w ∧ ac τ9 w = stepS (shf σ) (σ 12 w 0) (σ 0 0 7) (-a9) (ac σ w) ∧ ((0 ≤ w ∧ w < σ 0 0 4) ∧ (1 ≤ a9 ∧ a9 ≤ 10000000)) ∧ σ 0 0 7 < 60) ∧ σ' = su τ9 42 0 0 (w32 z)) ∨ (k = 1 ∧ σ' = σ ∧ ¬ (0 ≤ w ∧ w < σ 0 0 4)) ∨ (k = 2 ∧ σ' = σ ∧ (0 ≤ w ∧ w < σ 0 0 4) ∧ ¬ (1 ≤ a9 ∧ a9 ≤ 10000000)) ∨ (k = 3 ∧ σ' = σ ∧ ((0 ≤ w ∧ w < σ 0 0 4) ∧ (1 ≤ a9 ∧ a9 ≤ 10000000)) ∧ ¬ (σ 0 0 7 < 60))) k σ1) (h2 : (fun z σ' => ∃ cd, ((cd = 0 ∧ ((0 ≤ w ∧ w < σ1 22 0 6) ∧ (1 ≤ a9 ∧ a9 ≤ 10000000) ∧ σ1 22 0 10 < 60)) ∨ (cd = 1 ∧ (¬ (0 ≤ w ∧ w < σ1 22 0 6))) ∨ (cd = 2 ∧ ((0 ≤ w ∧ w < σ1 22 0 6) ∧ ¬ (1 ≤ a9 ∧ a9 ≤ 10000000))) ∨ (cd = 3 ∧ ((0 ≤ w ∧ w < σ1 22 0 6) ∧ (1 ≤ a9 ∧ a9 ≤ 10000000) ∧ ¬ (σ1 22 0 10 < 60)))) ∧ (cd = 0 → z = σ1 22 0 10 ∧ σ' = su (su (su (su (su (su σ1 22 0 24 0) 27 0 (σ1 22 0 10) w) 28 0 (σ1 22 0 10) a9) 29 0 (σ1 22 0 10) 1) 25 0 w 1) 22 0 10 (σ1 22 0 10 + 1)) ∧ (¬ cd = 0 → σ' = su σ1 22 0 24 cd)) b σ2) : σ2 22 0 24 = k ∧ (k = 0 → σ2 42 0 0 = w32 b) ∧ Rel σ2 := by
  have hk := m_income h1
  have r0 := r.1
  unfold R0 at r0
  have k6 := hk 22 0 6 (by decide) (by decide)
  have k10 := hk 22 0 10 (by decide) (by decide)
  have k13 := hk 22 0 13 (by decide) (by decide)
  have k1 := hk 22 0 1 (by decide) (by decide)
  have k2 := hk 22 0 2 (by decide) (by decide)
  obtain ⟨cd, hc, h0, hn⟩ := h2
  rcases h1 with ⟨rfl, z, τ, hp, rfl⟩ | ⟨rfl, rfl, hcond⟩ | ⟨rfl, rfl, hcond⟩ | ⟨rfl, rfl, hcond⟩
  · obtain ⟨hz, F, E, hcond, hroom⟩ := hp
    have hcd : cd = 0 := by clear h0 hn; omega
    subst hcd
    obtain ⟨hb, h9⟩ := h0 rfl
    have q10 := k10.trans r0.2.2.2.1.2.1
    have q2 := k2.trans r0.2.2.2.1.2.2.2.2
    rw [q10] at h9 hb
    (try rw [q2] at h9)
    refine ⟨by rw [h9]; simp [su], fun _ => ?_, enter_ok r hcond.1 hroom hcond.2 (Or.inr ⟨rfl, rfl⟩) F E h9⟩
    rw [hb, ← hz, h9]; simp [su]
  · have hcd : cd = 1 := by clear h0 hn; omega
    subst hcd
    obtain ⟨e1, e2⟩ := rel_e (σ2 := σ2) (cd := 1) r (fun a b c _ => by rw [hn (by decide)])
    exact ⟨e1, fun z => absurd z (by decide), e2⟩
  · have hcd : cd = 2 := by clear h0 hn; omega
    subst hcd
    obtain ⟨e1, e2⟩ := rel_e (σ2 := σ2) (cd := 2) r (fun a b c _ => by rw [hn (by decide)])
    exact ⟨e1, fun z => absurd z (by decide), e2⟩
  · have hcd : cd = 3 := by clear h0 hn; omega
    subst hcd
    obtain ⟨e1, e2⟩ := rel_e (σ2 := σ2) (cd := 3) r (fun a b c _ => by rw [hn (by decide)])
    exact ⟨e1, fun z => absurd z (by decide), e2⟩
theorem m_overhead {σ σ1 : Sg} {k : Int} {w a9 : Int} (h1 : (fun k σ' => (k = 0 ∧ ∃ (z : Int) (τ9 : Sg), (z = σ 0 0 7 ∧ Fr (adV σ w (σ 0 0 2 * a9)) τ9 w ∧ ac τ9 w = stepS (shf σ) (σ 12 w 0) (σ 0 0 7) (σ 0 0 2 * a9) (ac σ w) ∧ ((0 ≤ w ∧ w < σ 0 0 4) ∧ (1 ≤ a9 ∧ a9 ≤ 24)) ∧ σ 0 0 7 < 60 ∧ ¬ σ 0 0 2 = 0) ∧ σ' = su τ9 42 0 0 (w32 z)) ∨ (k = 1 ∧ σ' = σ ∧ ¬ (0 ≤ w ∧ w < σ 0 0 4)) ∨ (k = 2 ∧ σ' = σ ∧ (0 ≤ w ∧ w < σ 0 0 4) ∧ ¬ (1 ≤ a9 ∧ a9 ≤ 24)) ∨ (k = 3 ∧ σ' = σ ∧ ((0 ≤ w ∧ w < σ 0 0 4) ∧ (1 ≤ a9 ∧ a9 ≤ 24)) ∧ ¬ (σ 0 0 7 < 60 ∧ ¬ σ 0 0 2 = 0))) k σ1) : Mk σ σ1 := by
  rcases h1 with ⟨rfl, z, τ, hp, rfl⟩ | ⟨rfl, rfl, hcond⟩ | ⟨rfl, rfl, hcond⟩ | ⟨rfl, rfl, hcond⟩
  · obtain ⟨hz, F, E, hcond⟩ := hp
    clear hcond
    exact fun a b c _ _ => by
      rw [su_nk (by omega), F a b c (by omega) (by omega)]
      unfold adV
      rw [su_nk (by omega), su_nk (by omega), su_nk (by omega), su_nk (by omega)]
  · exact fun a b c _ _ => rfl
  · exact fun a b c _ _ => rfl
  · exact fun a b c _ _ => rfl
set_option maxHeartbeats 1000000 in
theorem o_overhead {σ σ1 σ2 : Sg} {k b : Int} {w a9 : Int} (r : Rel σ) (h1 : (fun k σ' => (k = 0 ∧ ∃ (z : Int) (τ9 : Sg), (z = σ 0 0 7 ∧ Fr (adV σ w (σ 0 0 2 * a9)) τ9 w ∧ ac τ9 w = stepS (shf σ) (σ 12 w 0) (σ 0 0 7) (σ 0 0 2 * a9) (ac σ w) ∧ ((0 ≤ w ∧ w < σ 0 0 4) ∧ (1 ≤ a9 ∧ a9 ≤ 24)) ∧ σ 0 0 7 < 60 ∧ ¬ σ 0 0 2 = 0) ∧ σ' = su τ9 42 0 0 (w32 z)) ∨ (k = 1 ∧ σ' = σ ∧ ¬ (0 ≤ w ∧ w < σ 0 0 4)) ∨ (k = 2 ∧ σ' = σ ∧ (0 ≤ w ∧ w < σ 0 0 4) ∧ ¬ (1 ≤ a9 ∧ a9 ≤ 24)) ∨ (k = 3 ∧ σ' = σ ∧ ((0 ≤ w ∧ w < σ 0 0 4) ∧ (1 ≤ a9 ∧ a9 ≤ 24)) ∧ ¬ (σ 0 0 7 < 60 ∧ ¬ σ 0 0 2 = 0))) k σ1) (h2 : (fun z σ' => ∃ cd, ((cd = 0 ∧ ((0 ≤ w ∧ w < σ1 22 0 6) ∧ (1 ≤ a9 ∧ a9 ≤ 24) ∧ σ1 22 0 10 < 60 ∧ 0 < σ1 22 0 2)) ∨ (cd = 1 ∧ (¬ (0 ≤ w ∧ w < σ1 22 0 6))) ∨ (cd = 2 ∧ ((0 ≤ w ∧ w < σ1 22 0 6) ∧ ¬ (1 ≤ a9 ∧ a9 ≤ 24))) ∨ (cd = 3 ∧ ((0 ≤ w ∧ w < σ1 22 0 6) ∧ (1 ≤ a9 ∧ a9 ≤ 24) ∧ ¬ (σ1 22 0 10 < 60 ∧ 0 < σ1 22 0 2)))) ∧ (cd = 0 → z = σ1 22 0 10 ∧ σ' = su (su (su (su (su (su σ1 22 0 24 0) 27 0 (σ1 22 0 10) w) 28 0 (σ1 22 0 10) (σ1 22 0 2 * a9)) 29 0 (σ1 22 0 10) 0) 25 0 w 1) 22 0 10 (σ1 22 0 10 + 1)) ∧ (¬ cd = 0 → σ' = su σ1 22 0 24 cd)) b σ2) : σ2 22 0 24 = k ∧ (k = 0 → σ2 42 0 0 = w32 b) ∧ Rel σ2 := by
  have hk := m_overhead h1
  have r0 := r.1
  unfold R0 at r0
  have k6 := hk 22 0 6 (by decide) (by decide)
  have k10 := hk 22 0 10 (by decide) (by decide)
  have k13 := hk 22 0 13 (by decide) (by decide)
  have k1 := hk 22 0 1 (by decide) (by decide)
  have k2 := hk 22 0 2 (by decide) (by decide)
  obtain ⟨cd, hc, h0, hn⟩ := h2
  rcases h1 with ⟨rfl, z, τ, hp, rfl⟩ | ⟨rfl, rfl, hcond⟩ | ⟨rfl, rfl, hcond⟩ | ⟨rfl, rfl, hcond⟩
  · obtain ⟨hz, F, E, hcond, hroom, hnz⟩ := hp
    have hcd : cd = 0 := by clear h0 hn; omega
    subst hcd
    obtain ⟨hb, h9⟩ := h0 rfl
    have q10 := k10.trans r0.2.2.2.1.2.1
    have q2 := k2.trans r0.2.2.2.1.2.2.2.2
    rw [q10] at h9 hb
    (try rw [q2] at h9)
    refine ⟨by rw [h9]; simp [su], fun _ => ?_, enter_ok r hcond.1 hroom ⟨by have h1 := r.hoh; have h2 : 1 * 1 ≤ σ 0 0 2 * a9 := Int.mul_le_mul (by omega) (by omega) (by decide) (by omega); omega, (ovh_rng r.hoh hcond.2).2⟩ (Or.inl ⟨rfl, rfl⟩) F E h9⟩
    rw [hb, ← hz, h9]; simp [su]
  · have hcd : cd = 1 := by clear h0 hn; omega
    subst hcd
    obtain ⟨e1, e2⟩ := rel_e (σ2 := σ2) (cd := 1) r (fun a b c _ => by rw [hn (by decide)])
    exact ⟨e1, fun z => absurd z (by decide), e2⟩
  · have hcd : cd = 2 := by clear h0 hn; omega
    subst hcd
    obtain ⟨e1, e2⟩ := rel_e (σ2 := σ2) (cd := 2) r (fun a b c _ => by rw [hn (by decide)])
    exact ⟨e1, fun z => absurd z (by decide), e2⟩
  · have hcd : cd = 3 := by clear h0 hn; omega
    subst hcd
    obtain ⟨e1, e2⟩ := rel_e (σ2 := σ2) (cd := 3) r (fun a b c _ => by rw [hn (by decide)])
    exact ⟨e1, fun z => absurd z (by decide), e2⟩
theorem m_move {σ σ1 : Sg} {k : Int} {v w : Int} (h1 : (fun k σ' => (k = 0 ∧ ∃ (z : Int) (τ9 : Sg), (z = σ 3 0 v ∧ (∀ (a : Nat) (b c : Int), (a < 8 ∨ 11 < a) → (a < 14 ∨ 18 < a ∨ (b ≠ w ∧ b ≠ σ 3 0 v) ∨ c < 0 ∨ 5 ≤ c) → τ9 a b c = (su (su σ 3 0 v w) 12 w 1 1) a b c) ∧ ac τ9 w = foldS (shf σ) (σ 12 w 0) ((su (su σ 3 0 v w) 12 w 1 1) 3 0) (σ 4 0) w (T0f (σ 13 w)) (σ 0 0 7).toNat ∧ ac τ9 (σ 3 0 v) = foldS (shf σ) (σ 12 (σ 3 0 v) 0) ((su (su σ 3 0 v w) 12 w 1 1) 3 0) (σ 4 0) (σ 3 0 v) (T0f (σ 13 (σ 3 0 v))) (σ 0 0 7).toNat ∧ ((0 ≤ v ∧ v < σ 0 0 7) ∧ (0 ≤ w ∧ w < σ 0 0 4)) ∧ 0 ≤ σ 4 0 v) ∧ σ' = su τ9 42 0 0 (w32 z)) ∨ (k = 1 ∧ σ' = σ ∧ ¬ ((0 ≤ v ∧ v < σ 0 0 7) ∧ (0 ≤ w ∧ w < σ 0 0 4))) ∨ (k = 2 ∧ σ' = σ ∧ ((0 ≤ v ∧ v < σ 0 0 7) ∧ (0 ≤ w ∧ w < σ 0 0 4)) ∧ ¬ 0 ≤ σ 4 0 v)) k σ1) : Mk σ σ1 := by
  rcases h1 with ⟨rfl, z, τ, hp, rfl⟩ | ⟨rfl, rfl, hcond⟩ | ⟨rfl, rfl, hcond⟩
  · obtain ⟨hz, F, A1, A2, hcond⟩ := hp
    clear hcond
    exact fun a b c _ _ => by rw [su_nk (by omega), F a b c (by omega) (by omega), su_nk (by omega), su_nk (by omega)]
  · exact fun a b c _ _ => rfl
  · exact fun a b c _ _ => rfl
set_option maxHeartbeats 1000000 in
theorem o_move {σ σ1 σ2 : Sg} {k b : Int} {v w : Int} (r : Rel σ) (h1 : (fun k σ' => (k = 0 ∧ ∃ (z : Int) (τ9 : Sg), (z = σ 3 0 v ∧ (∀ (a : Nat) (b c : Int), (a < 8 ∨ 11 < a) → (a < 14 ∨ 18 < a ∨ (b ≠ w ∧ b ≠ σ 3 0 v) ∨ c < 0 ∨ 5 ≤ c) → τ9 a b c = (su (su σ 3 0 v w) 12 w 1 1) a b c) ∧ ac τ9 w = foldS (shf σ) (σ 12 w 0) ((su (su σ 3 0 v w) 12 w 1 1) 3 0) (σ 4 0) w (T0f (σ 13 w)) (σ 0 0 7).toNat ∧ ac τ9 (σ 3 0 v) = foldS (shf σ) (σ 12 (σ 3 0 v) 0) ((su (su σ 3 0 v w) 12 w 1 1) 3 0) (σ 4 0) (σ 3 0 v) (T0f (σ 13 (σ 3 0 v))) (σ 0 0 7).toNat ∧ ((0 ≤ v ∧ v < σ 0 0 7) ∧ (0 ≤ w ∧ w < σ 0 0 4)) ∧ 0 ≤ σ 4 0 v) ∧ σ' = su τ9 42 0 0 (w32 z)) ∨ (k = 1 ∧ σ' = σ ∧ ¬ ((0 ≤ v ∧ v < σ 0 0 7) ∧ (0 ≤ w ∧ w < σ 0 0 4))) ∨ (k = 2 ∧ σ' = σ ∧ ((0 ≤ v ∧ v < σ 0 0 7) ∧ (0 ≤ w ∧ w < σ 0 0 4)) ∧ ¬ 0 ≤ σ 4 0 v)) k σ1) (h2 : (fun z σ' => ∃ cd, ((cd = 0 ∧ (((0 ≤ v ∧ v < σ1 22 0 10) ∧ (0 ≤ w ∧ w < σ1 22 0 6)) ∧ σ1 29 0 v = 0)) ∨ (cd = 1 ∧ (¬ ((0 ≤ v ∧ v < σ1 22 0 10) ∧ (0 ≤ w ∧ w < σ1 22 0 6)))) ∨ (cd = 2 ∧ (((0 ≤ v ∧ v < σ1 22 0 10) ∧ (0 ≤ w ∧ w < σ1 22 0 6)) ∧ ¬ σ1 29 0 v = 0))) ∧ (cd = 0 → z = σ1 27 0 v ∧ σ' = su (su (su σ1 22 0 24 0) 27 0 v w) 25 0 w 1) ∧ (¬ cd = 0 → σ' = su σ1 22 0 24 cd)) b σ2) : σ2 22 0 24 = k ∧ (k = 0 → σ2 42 0 0 = w32 b) ∧ Rel σ2 := by
  have hk := m_move h1
  have r0 := r.1
  unfold R0 at r0
  have k6 := hk 22 0 6 (by decide) (by decide)
  have k10 := hk 22 0 10 (by decide) (by decide)
  have k13 := hk 22 0 13 (by decide) (by decide)
  have k1 := hk 22 0 1 (by decide) (by decide)
  have k2 := hk 22 0 2 (by decide) (by decide)
  obtain ⟨cd, hc, h0, hn⟩ := h2
  have hv29 : 0 ≤ v → v < σ 0 0 7 → ((0 ≤ σ 4 0 v ∧ σ1 29 0 v = 0) ∨ (¬ 0 ≤ σ 4 0 v ∧ ¬ σ1 29 0 v = 0)) := fun x1 x2 => by
    have rv := r.2.2.1 v x1 (by omega)
    unfold RV vam at rv
    rw [hk 29 0 v (by decide) (by decide)]
    obtain ⟨y1, y2, y3, y4, y5, y6⟩ := rv
    have y7 := y6 x2
    split at y3 <;> omega
  rcases h1 with ⟨rfl, z, τ, hp, rfl⟩ | ⟨rfl, rfl, hcond⟩ | ⟨rfl, rfl, hcond⟩
  · obtain ⟨hz, F, A1, A2, hcond, hpos⟩ := hp
    have hcd : cd = 0 := by clear h0 hn; omega
    subst hcd
    obtain ⟨hb, h9⟩ := h0 rfl
    have rv := r.2.2.1 v (by omega) (by omega)
    unfold RV at rv
    refine ⟨by rw [h9]; simp [su], fun _ => ?_, move_ok r hcond.2 hcond.1 F A1 A2 h9⟩
    rw [hb, hk 27 0 v (by decide) (by decide), rv.2.1, ← hz, h9]; simp [su]
  · have hcd : cd = 1 := by clear h0 hn; omega
    subst hcd
    obtain ⟨e1, e2⟩ := rel_e (σ2 := σ2) (cd := 1) r (fun a b c _ => by rw [hn (by decide)])
    exact ⟨e1, fun z => absurd z (by decide), e2⟩
  · have hcd : cd = 2 := by clear h0 hn; omega
    subst hcd
    obtain ⟨e1, e2⟩ := rel_e (σ2 := σ2) (cd := 2) r (fun a b c _ => by rw [hn (by decide)])
    exact ⟨e1, fun z => absurd z (by decide), e2⟩
theorem m_call {σ σ1 : Sg} {k : Int} {w a9 : Int} (h1 : (fun k σ' => (k = 0 ∧ ∃ (z : Int) (τ9 : Sg), (z = σ 0 0 9 ∧ Fs (su (sf σ 20 (σ 0 0 9) 5 (dv a9 (chp (shf σ) (ac σ w) 10000))) 0 0 9 (σ 0 0 9 + 1)) τ9 ∧ ((0 ≤ w ∧ w < σ 0 0 4) ∧ (1 ≤ a9 ∧ a9 ≤ 10000000)) ∧ σ 0 0 9 < 20) ∧ σ' = su τ9 42 0 0 (w32 z)) ∨ (k = 1 ∧ σ' = σ ∧ ¬ (0 ≤ w ∧ w < σ 0 0 4)) ∨ (k = 2 ∧ σ' = σ ∧ (0 ≤ w ∧ w < σ 0 0 4) ∧ ¬ (1 ≤ a9 ∧ a9 ≤ 10000000)) ∨ (k = 3 ∧ σ' = σ ∧ ((0 ≤ w ∧ w < σ 0 0 4) ∧ (1 ≤ a9 ∧ a9 ≤ 10000000)) ∧ ¬ σ 0 0 9 < 20)) k σ1) : Mk σ σ1 := by
  rcases h1 with ⟨rfl, z, τ, hp, rfl⟩ | ⟨rfl, rfl, hcond⟩ | ⟨rfl, rfl, hcond⟩ | ⟨rfl, rfl, hcond⟩
  · obtain ⟨hz, F, hcond⟩ := hp
    clear hcond
    exact fun a b c _ _ => by rw [su_nk (by omega), F a b c (by omega), su_nk (by omega), sf_nk (by omega)]
  · exact fun a b c _ _ => rfl
  · exact fun a b c _ _ => rfl
  · exact fun a b c _ _ => rfl
set_option maxHeartbeats 1000000 in
theorem o_call {σ σ1 σ2 : Sg} {k b : Int} {w a9 : Int} (r : Rel σ) (h1 : (fun k σ' => (k = 0 ∧ ∃ (z : Int) (τ9 : Sg), (z = σ 0 0 9 ∧ Fs (su (sf σ 20 (σ 0 0 9) 5 (dv a9 (chp (shf σ) (ac σ w) 10000))) 0 0 9 (σ 0 0 9 + 1)) τ9 ∧ ((0 ≤ w ∧ w < σ 0 0 4) ∧ (1 ≤ a9 ∧ a9 ≤ 10000000)) ∧ σ 0 0 9 < 20) ∧ σ' = su τ9 42 0 0 (w32 z)) ∨ (k = 1 ∧ σ' = σ ∧ ¬ (0 ≤ w ∧ w < σ 0 0 4)) ∨ (k = 2 ∧ σ' = σ ∧ (0 ≤ w ∧ w < σ 0 0 4) ∧ ¬ (1 ≤ a9 ∧ a9 ≤ 10000000)) ∨ (k = 3 ∧ σ' = σ ∧ ((0 ≤ w ∧ w < σ 0 0 4) ∧ (1 ≤ a9 ∧ a9 ≤ 10000000)) ∧ ¬ σ 0 0 9 < 20)) k σ1) (h2 : (fun z σ' => ∃ cd, ((cd = 0 ∧ ((0 ≤ w ∧ w < σ1 22 0 6) ∧ (1 ≤ a9 ∧ a9 ≤ 10000000) ∧ σ1 22 0 13 < 20)) ∨ (cd = 1 ∧ (¬ (0 ≤ w ∧ w < σ1 22 0 6))) ∨ (cd = 2 ∧ ((0 ≤ w ∧ w < σ1 22 0 6) ∧ ¬ (1 ≤ a9 ∧ a9 ≤ 10000000))) ∨ (cd = 3 ∧ ((0 ≤ w ∧ w < σ1 22 0 6) ∧ (1 ≤ a9 ∧ a9 ≤ 10000000) ∧ ¬ (σ1 22 0 13 < 20)))) ∧ (cd = 0 → z = σ1 22 0 13 ∧ (∀ (a : Nat) (b c : Int), a < 30 ∨ a = 31 ∨ a = 32 ∨ 41 < a → σ' a b c = (su (su σ1 22 0 24 0) 22 0 13 (σ1 22 0 13 + 1)) a b c) ∧ ∀ j, σ' 30 0 j = if 5 * σ1 22 0 13 ≤ j ∧ j < 5 * σ1 22 0 13 + 5 then dv a9 (chp (shm σ1) (FM σ1 w) 10000) (j - 5 * σ1 22 0 13) else σ1 30 0 j) ∧ (¬ cd = 0 → σ' = su σ1 22 0 24 cd)) b σ2) : σ2 22 0 24 = k ∧ (k = 0 → σ2 42 0 0 = w32 b) ∧ Rel σ2 := by
  have hk := m_call h1
  have r0 := r.1
  unfold R0 at r0
  have k6 := hk 22 0 6 (by decide) (by decide)
  have k10 := hk 22 0 10 (by decide) (by decide)
  have k13 := hk 22 0 13 (by decide) (by decide)
  have k1 := hk 22 0 1 (by decide) (by decide)
  have k2 := hk 22 0 2 (by decide) (by decide)
  obtain ⟨cd, hc, h0, hn⟩ := h2
  rcases h1 with ⟨rfl, z, τ, hp, rfl⟩ | ⟨rfl, rfl, hcond⟩ | ⟨rfl, rfl, hcond⟩ | ⟨rfl, rfl, hcond⟩
  · obtain ⟨hz, F, hcond, hlt⟩ := hp
    have hcd : cd = 0 := by clear h0 hn; omega
    subst hcd
    obtain ⟨hb, h9, h30⟩ := h0 rfl
    have q13 := k13.trans r0.2.2.2.1.2.2.1
    have hfm := (hk.fm w).trans (r.fm hcond.1.1 (by omega))
    have hsm := hk.esh.trans r.esh
    rw [q13] at h9 hb
    rw [q13, hfm, hsm] at h30
    have hW := chp_wt (a := 10000) r.hsh (r.hall w (by omega) (by omega)).1 (by decide)
    refine ⟨by rw [h9 _ _ _ (by decide)]; simp [su], fun _ => ?_, call_ok r hlt (fun q x y => dv_nn (by omega) hW q x y) (by rw [dv_sum hW]; omega) F h9 h30⟩
    rw [hb, ← hz, h9 _ _ _ (by decide)]; simp [su]
  · have hcd : cd = 1 := by clear h0 hn; omega
    subst hcd
    obtain ⟨e1, e2⟩ := rel_e (σ2 := σ2) (cd := 1) r (fun a b c _ => by rw [hn (by decide)])
    exact ⟨e1, fun z => absurd z (by decide), e2⟩
  · have hcd : cd = 2 := by clear h0 hn; omega
    subst hcd
    obtain ⟨e1, e2⟩ := rel_e (σ2 := σ2) (cd := 2) r (fun a b c _ => by rw [hn (by decide)])
    exact ⟨e1, fun z => absurd z (by decide), e2⟩
  · have hcd : cd = 3 := by clear h0 hn; omega
    subst hcd
    obtain ⟨e1, e2⟩ := rel_e (σ2 := σ2) (cd := 3) r (fun a b c _ => by rw [hn (by decide)])
    exact ⟨e1, fun z => absurd z (by decide), e2⟩
theorem m_pay {σ σ1 : Sg} {k : Int} {k9 q : Int} (h1 : (fun k σ' => (k = 0 ∧ ∃ (z : Int) (τ9 : Sg), (z = σ 20 k9 q - σ 21 k9 q ∧ τ9 = su σ 21 k9 q (σ 20 k9 q) ∧ ((0 ≤ k9 ∧ k9 < σ 0 0 9) ∧ (0 ≤ q ∧ q < 5)) ∧ ¬ σ 20 k9 q - σ 21 k9 q = 0) ∧ σ' = su τ9 42 0 0 (w32 z)) ∨ (k = 1 ∧ σ' = σ ∧ ¬ ((0 ≤ k9 ∧ k9 < σ 0 0 9) ∧ (0 ≤ q ∧ q < 5))) ∨ (k = 2 ∧ σ' = σ ∧ ((0 ≤ k9 ∧ k9 < σ 0 0 9) ∧ (0 ≤ q ∧ q < 5)) ∧ ¬ ¬ σ 20 k9 q - σ 21 k9 q = 0)) k σ1) : Mk σ σ1 := by
  rcases h1 with ⟨rfl, z, τ, hp, rfl⟩ | ⟨rfl, rfl, hcond⟩ | ⟨rfl, rfl, hcond⟩
  · obtain ⟨hz, hs_, hcond⟩ := hp
    subst hs_
    exact fun a b c _ _ => by rw [su_nk (by omega), su_nk (by omega)]
  · exact fun a b c _ _ => rfl
  · exact fun a b c _ _ => rfl
set_option maxHeartbeats 1000000 in
theorem o_pay {σ σ1 σ2 : Sg} {k b : Int} {k9 q : Int} (r : Rel σ) (h1 : (fun k σ' => (k = 0 ∧ ∃ (z : Int) (τ9 : Sg), (z = σ 20 k9 q - σ 21 k9 q ∧ τ9 = su σ 21 k9 q (σ 20 k9 q) ∧ ((0 ≤ k9 ∧ k9 < σ 0 0 9) ∧ (0 ≤ q ∧ q < 5)) ∧ ¬ σ 20 k9 q - σ 21 k9 q = 0) ∧ σ' = su τ9 42 0 0 (w32 z)) ∨ (k = 1 ∧ σ' = σ ∧ ¬ ((0 ≤ k9 ∧ k9 < σ 0 0 9) ∧ (0 ≤ q ∧ q < 5))) ∨ (k = 2 ∧ σ' = σ ∧ ((0 ≤ k9 ∧ k9 < σ 0 0 9) ∧ (0 ≤ q ∧ q < 5)) ∧ ¬ ¬ σ 20 k9 q - σ 21 k9 q = 0)) k σ1) (h2 : (fun z σ' => ∃ cd, ((cd = 0 ∧ (((0 ≤ k9 ∧ k9 < σ1 22 0 13) ∧ (0 ≤ q ∧ q < 5)) ∧ 0 < σ1 30 0 (5 * k9 + q) - σ1 31 0 (5 * k9 + q))) ∨ (cd = 1 ∧ (¬ ((0 ≤ k9 ∧ k9 < σ1 22 0 13) ∧ (0 ≤ q ∧ q < 5)))) ∨ (cd = 2 ∧ (((0 ≤ k9 ∧ k9 < σ1 22 0 13) ∧ (0 ≤ q ∧ q < 5)) ∧ ¬ 0 < σ1 30 0 (5 * k9 + q) - σ1 31 0 (5 * k9 + q)))) ∧ (cd = 0 → z = σ1 30 0 (5 * k9 + q) - σ1 31 0 (5 * k9 + q) ∧ σ' = su (su σ1 22 0 24 0) 31 0 (5 * k9 + q) (σ1 31 0 (5 * k9 + q) + (σ1 30 0 (5 * k9 + q) - σ1 31 0 (5 * k9 + q)))) ∧ (¬ cd = 0 → σ' = su σ1 22 0 24 cd)) b σ2) : σ2 22 0 24 = k ∧ (k = 0 → σ2 42 0 0 = w32 b) ∧ Rel σ2 := by
  have hk := m_pay h1
  have r0 := r.1
  unfold R0 at r0
  have k6 := hk 22 0 6 (by decide) (by decide)
  have k10 := hk 22 0 10 (by decide) (by decide)
  have k13 := hk 22 0 13 (by decide) (by decide)
  have k1 := hk 22 0 1 (by decide) (by decide)
  have k2 := hk 22 0 2 (by decide) (by decide)
  obtain ⟨cd, hc, h0, hn⟩ := h2
  rcases h1 with ⟨rfl, z, τ, hp, rfl⟩ | ⟨rfl, rfl, hcond⟩ | ⟨rfl, rfl, hcond⟩
  · obtain ⟨hz, hs_, hcond, hnz⟩ := hp
    have rc := r.2.2.2.2.2.2.1 k9 q hcond.1.1 (by omega) hcond.2.1 hcond.2.2
    unfold RC at rc
    have q30 := (hk 30 0 (5 * k9 + q) (by decide) (by decide)).trans rc.1
    have q31 := (hk 31 0 (5 * k9 + q) (by decide) (by decide)).trans rc.2.1
    rw [q30, q31] at hc h0
    have hcd : cd = 0 := by clear h0 hn; omega
    subst hcd
    subst hs_
    obtain ⟨hb, h9⟩ := h0 rfl
    subst h9
    refine ⟨by simp [su], fun _ => ?_, r.t_pay (k0 := k9) (q0 := q) hcond.1 hcond.2 (pay_eqx σ k9 q _ _ _) (by simp [su]) (by simp [su]; omega)⟩
    rw [hb, ← hz]; simp [su]
  · have hcd : cd = 1 := by clear h0 hn; omega
    subst hcd
    obtain ⟨e1, e2⟩ := rel_e (σ2 := σ2) (cd := 1) r (fun a b c _ => by rw [hn (by decide)])
    exact ⟨e1, fun z => absurd z (by decide), e2⟩
  · have rc := r.2.2.2.2.2.2.1 k9 q hcond.1.1.1 (by omega) hcond.1.2.1 hcond.1.2.2
    unfold RC at rc
    rw [rc.1, rc.2.1] at hc
    have hcd : cd = 2 := by clear h0 hn; omega
    subst hcd
    obtain ⟨e1, e2⟩ := rel_e (σ2 := σ2) (cd := 2) r (fun a b c _ => by rw [hn (by decide)])
    exact ⟨e1, fun z => absurd z (by decide), e2⟩
theorem m_shareOut {σ σ1 : Sg} {k : Int} {k9 : Int} (h1 : (fun k σ' => (k = 0 ∧ ∃ (z : Int) (τ9 : Sg), (z = s5 (fun q => if σ 21 k9 q = 0 then σ 20 k9 q else 0) ∧ ((∀ (a : Nat) (b c : Int), a < 8 ∨ 11 < a → (a ≠ 6 ∨ b ≠ 0 ∨ c < 0 ∨ 5 ≤ c) → (a ≠ 20 ∨ b ≠ k9 ∨ c < 0 ∨ 5 ≤ c) → τ9 a b c = σ a b c) ∧ (∀ q, 0 ≤ q → q < 5 → τ9 20 k9 q = if 0 < σ 21 k9 q then σ 20 k9 q + dv (s5 (fun q => if σ 21 k9 q = 0 then σ 20 k9 q else 0)) (pw σ k9) q else 0) ∧ ∀ q, 0 ≤ q → q < 5 → τ9 6 0 q = σ 6 0 q + if 0 < σ 21 k9 q then 0 else σ 20 k9 q) ∧ (0 ≤ k9 ∧ k9 < σ 0 0 9) ∧ (∃ q, 0 ≤ q ∧ q < 5 ∧ 0 < σ 21 k9 q) ∧ ¬ s5 (fun q => if σ 21 k9 q = 0 then σ 20 k9 q else 0) = 0) ∧ σ' = su τ9 42 0 0 (w32 z)) ∨ (k = 1 ∧ σ' = σ ∧ ¬ (0 ≤ k9 ∧ k9 < σ 0 0 9)) ∨ (k = 2 ∧ σ' = σ ∧ (0 ≤ k9 ∧ k9 < σ 0 0 9) ∧ ¬ ((∃ q, 0 ≤ q ∧ q < 5 ∧ 0 < σ 21 k9 q) ∧ ¬ s5 (fun q => if σ 21 k9 q = 0 then σ 20 k9 q else 0) = 0))) k σ1) : Mk σ σ1 := by
  rcases h1 with ⟨rfl, z, τ, hp, rfl⟩ | ⟨rfl, rfl, hcond⟩ | ⟨rfl, rfl, hcond⟩
  · obtain ⟨hz, ⟨F, F20, F6⟩, hcond⟩ := hp
    clear hcond hz
    exact fun a b c _ _ => by rw [su_nk (by omega), F a b c (by omega) (by omega) (by omega)]
  · exact fun a b c _ _ => rfl
  · exact fun a b c _ _ => rfl
set_option maxHeartbeats 1000000 in
theorem o_shareOut {σ σ1 σ2 : Sg} {k b : Int} {k9 : Int} (r : Rel σ) (h1 : (fun k σ' => (k = 0 ∧ ∃ (z : Int) (τ9 : Sg), (z = s5 (fun q => if σ 21 k9 q = 0 then σ 20 k9 q else 0) ∧ ((∀ (a : Nat) (b c : Int), a < 8 ∨ 11 < a → (a ≠ 6 ∨ b ≠ 0 ∨ c < 0 ∨ 5 ≤ c) → (a ≠ 20 ∨ b ≠ k9 ∨ c < 0 ∨ 5 ≤ c) → τ9 a b c = σ a b c) ∧ (∀ q, 0 ≤ q → q < 5 → τ9 20 k9 q = if 0 < σ 21 k9 q then σ 20 k9 q + dv (s5 (fun q => if σ 21 k9 q = 0 then σ 20 k9 q else 0)) (pw σ k9) q else 0) ∧ ∀ q, 0 ≤ q → q < 5 → τ9 6 0 q = σ 6 0 q + if 0 < σ 21 k9 q then 0 else σ 20 k9 q) ∧ (0 ≤ k9 ∧ k9 < σ 0 0 9) ∧ (∃ q, 0 ≤ q ∧ q < 5 ∧ 0 < σ 21 k9 q) ∧ ¬ s5 (fun q => if σ 21 k9 q = 0 then σ 20 k9 q else 0) = 0) ∧ σ' = su τ9 42 0 0 (w32 z)) ∨ (k = 1 ∧ σ' = σ ∧ ¬ (0 ≤ k9 ∧ k9 < σ 0 0 9)) ∨ (k = 2 ∧ σ' = σ ∧ (0 ≤ k9 ∧ k9 < σ 0 0 9) ∧ ¬ ((∃ q, 0 ≤ q ∧ q < 5 ∧ 0 < σ 21 k9 q) ∧ ¬ s5 (fun q => if σ 21 k9 q = 0 then σ 20 k9 q else 0) = 0))) k σ1) (h2 : (fun z σ' => ∃ cd, ((cd = 0 ∧ ((0 ≤ k9 ∧ k9 < σ1 22 0 13) ∧ pym σ1 k9 5 ∧ 0 < s5 (npm σ1 k9))) ∨ (cd = 1 ∧ (¬ (0 ≤ k9 ∧ k9 < σ1 22 0 13))) ∨ (cd = 2 ∧ ((0 ≤ k9 ∧ k9 < σ1 22 0 13) ∧ ¬ (pym σ1 k9 5 ∧ 0 < s5 (npm σ1 k9))))) ∧ (cd = 0 → z = s5 (npm σ1 k9) ∧ (∀ (a : Nat) (b c : Int), a < 30 ∨ a = 31 ∨ 41 < a → σ' a b c = su σ1 22 0 24 0 a b c) ∧ (∀ q, 0 ≤ q → q < 5 → σ' 32 0 q = σ1 32 0 q + if 0 < σ1 31 0 (5 * k9 + q) then 0 else σ1 30 0 (5 * k9 + q)) ∧ ∀ j, σ' 30 0 j = if 5 * k9 ≤ j ∧ j < 5 * k9 + 5 then (if 0 < σ1 31 0 j then σ1 30 0 j + dv (s5 (npm σ1 k9)) (pwm σ1 k9) (j - 5 * k9) else 0) else σ1 30 0 j) ∧ (¬ cd = 0 → ∀ (a : Nat) (b c : Int), a < 33 ∨ 41 < a → σ' a b c = su σ1 22 0 24 cd a b c)) b σ2) : σ2 22 0 24 = k ∧ (k = 0 → σ2 42 0 0 = w32 b) ∧ Rel σ2 := by
  have hk := m_shareOut h1
  have r0 := r.1
  unfold R0 at r0
  have k6 := hk 22 0 6 (by decide) (by decide)
  have k10 := hk 22 0 10 (by decide) (by decide)
  have k13 := hk 22 0 13 (by decide) (by decide)
  have k1 := hk 22 0 1 (by decide) (by decide)
  have k2 := hk 22 0 2 (by decide) (by decide)
  obtain ⟨cd, hc, h0, hn⟩ := h2
  have hcc := r.hcc
  have hnp : 0 ≤ k9 → k9 < σ 0 0 9 → s5 (npm σ1 k9) = s5 (fun q => if σ 21 k9 q = 0 then σ 20 k9 q else 0) := fun x1 x2 => s5_congr (fun q a b => by
    have rc := r.2.2.2.2.2.2.1 k9 q x1 (by omega) a b
    unfold RC at rc
    unfold npm
    rw [hk 31 0 _ (by decide) (by decide), hk 30 0 _ (by decide) (by decide), rc.1, rc.2.1]
    clear h1 hc h0 hn r0
    split <;> split <;> omega)
  have hpw : 0 ≤ k9 → k9 < σ 0 0 9 → ((∃ q, 0 ≤ q ∧ q < 5 ∧ 0 < σ 21 k9 q) ↔ pym σ1 k9 5) := fun x1 x2 => by
    have e := fun q a b => (hk 31 0 (5 * k9 + q) (by decide) (by decide)).trans (r.2.2.2.2.2.2.1 k9 q x1 (by omega) a b).2.1
    constructor
    · rintro ⟨q, a, b, c⟩; exact ⟨q, a, b, by rw [e q a b]; exact c⟩
    · rintro ⟨q, a, b, c⟩; exact ⟨q, a, b, by rw [← e q a b]; exact c⟩
  have hpwe : 0 ≤ k9 → k9 < σ 0 0 9 → ∀ q, 0 ≤ q → q < 5 → pwm σ1 k9 q = pw σ k9 q := fun x1 x2 q a b => by
    have rc := r.2.2.2.2.2.2.1 k9 q x1 (by omega) a b
    unfold RC at rc
    unfold pwm pw
    rw [hk 31 0 _ (by decide) (by decide), hk 30 0 _ (by decide) (by decide), rc.1, rc.2.1]
  rcases h1 with ⟨rfl, z, τ, hp, rfl⟩ | ⟨rfl, rfl, hcond⟩ | ⟨rfl, rfl, hcond⟩
  · obtain ⟨hz, ⟨F, F20, F6⟩, hcond, hpy, hnz⟩ := hp
    have hcc := r.hcc
    have X1 := hnp hcond.1 hcond.2
    have X2 := (hpw hcond.1 hcond.2).mp hpy
    have hN0 : 0 ≤ s5 (fun q => if σ 21 k9 q = 0 then σ 20 k9 q else 0) := s5_nn (fun q a b => by have := r.c20 k9 q hcond.1 (Int.lt_of_lt_of_le hcond.2 hcc.2) a b; clear hpy hpw hc h0 hn X2 hk r0; split <;> omega)
    have hcd : cd = 0 := by
      clear h0 hn hpw hpy F F20 F6 hpwe hnp
      rcases hc with ⟨e, _⟩ | ⟨e, h⟩ | ⟨e, h⟩
      · exact e
      · exact absurd (by omega) h
      · exact absurd ⟨X2, by rw [X1]; omega⟩ h.2
    subst hcd
    obtain ⟨hb, h9, h32, h30⟩ := h0 rfl
    rw [X1] at hb h30
    have hpe := hpwe hcond.1 hcond.2
    have h31 := fun q a b => (hk 31 0 (5 * k9 + q) (by decide) (by decide)).trans (r.2.2.2.2.2.2.1 k9 q hcond.1 (Int.lt_of_lt_of_le hcond.2 hcc.2) a b).2.1
    have h30e := fun q a b => (hk 30 0 (5 * k9 + q) (by decide) (by decide)).trans (r.2.2.2.2.2.2.1 k9 q hcond.1 (Int.lt_of_lt_of_le hcond.2 hcc.2) a b).1
    refine ⟨by rw [h9 _ _ _ (by decide), su_at], fun _ => ?_, share_ok r hcond rfl hpy F F20 F6 h9 (fun q x y => ?_) (fun j x => ?_) (fun q x y => ?_)⟩
    · rw [hb, ← hz, h9 _ _ _ (by decide)]; simp [su]
    · rw [h32 q x y, h31 q x y, h30e q x y, hk 32 0 q (by decide) (by decide), r.2.2.2.2.2.2.2.2 q x y]
    · rw [h30, if_neg x, hk 30 0 j (by decide) (by decide)]
    · rw [h30, if_pos ⟨by clear hpy hpw hc h0 hn X2 hk r0; omega, by clear hpy hpw hc h0 hn X2 hk r0; omega⟩, h31 q x y, h30e q x y, show 5 * k9 + q - 5 * k9 = q from by clear hpy hpw hc h0 hn X2 hk r0; omega, dv_congr hpe q x y]
  · have hcd : cd = 1 := by
      clear h0 hn
      rcases hc with ⟨e, h⟩ | ⟨e, h⟩ | ⟨e, h⟩
      · exact absurd (by omega) hcond
      · exact e
      · exact absurd (by omega) hcond
    subst hcd
    obtain ⟨e1, e2⟩ := rel_e (σ2 := σ2) (cd := 1) r (hn (by decide))
    exact ⟨e1, fun z => absurd z (by decide), e2⟩
  · obtain ⟨hc1, hc2⟩ := hcond
    have hcd : cd = 2 := by
      clear h0 hn
      rcases hc with ⟨e, h⟩ | ⟨e, h⟩ | ⟨e, h⟩
      · exact absurd ⟨(hpw hc1.1 hc1.2).mpr h.2.1, by rw [← hnp hc1.1 hc1.2]; exact Int.ne_of_gt h.2.2⟩ hc2
      · exact absurd (by clear hc2 hpw hnp hpwe; omega) h
      · exact e
    subst hcd
    obtain ⟨e1, e2⟩ := rel_e (σ2 := σ2) (cd := 2) r (hn (by decide))
    exact ⟨e1, fun z => absurd z (by decide), e2⟩
