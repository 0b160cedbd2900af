/-! bounds of the accounts -/
def Tok (sh : Int → Int) (T : Nat → Int → Int) (m : Int) : Prop := Tin sh T ∧ ∀ q, 0 ≤ q → q < 5 → 0 ≤ T 15 q ∧ T 15 q ≤ m * 100000001 ∧ 0 ≤ T 17 q ∧ T 17 q ≤ m * 10000000 ∧ 0 ≤ T 18 q ∧ T 18 q ≤ m * 10000000
theorem in_osm {sh : Int → Int} {T : Nat → Int → Int} {a : Int} (hs : Shk sh) (ha : 0 ≤ a) {q : Int} (h0 : 0 ≤ q) (h5 : q < 5) (hT : T 14 q = 0) : osm sh T a + dv a sh q ≤ a := by
  have hn := dv_nn ha hs.wt
  have h1 := s5_part (f := fun q => if T 14 q = 0 then dv a sh q else 0) (fun p x y => by have := hn p x y; split <;> omega) q h0 h5
  have h2 : s5 (fun q => if T 14 q = 0 then dv a sh q else 0) + osm sh T a = a := by
    unfold osm
    rw [← s5_add]
    have e := dv_sum (a := a) hs.wt
    rw [← s5_congr (f := dv a sh) (fun p x y => by by_cases h : T 14 p = 0 <;> simp [h])]
    exact e
  rw [if_pos hT] at h1
  omega
theorem chp_rng {sh : Int → Int} {T : Nat → Int → Int} {a : Int} (hs : Shk sh) (ht : Tin sh T) (ha : 0 ≤ a) {q : Int} (h0 : 0 ≤ q) (h5 : q < 5) : 0 ≤ chp sh T a q ∧ chp sh T a q ≤ a := by
  have hw := inw_wt hs ht
  have ho := osm_rng (T := T) hs ha
  have h1 := dv_nn ho.1 hw q h0 h5
  have h2 := dv_le ho.1 hw q h0 h5
  have h3 := dv_nn ha hs.wt q h0 h5
  unfold chp
  by_cases hT : T 14 q = 0
  · rw [if_pos hT]
    have := in_osm hs ha h0 h5 hT
    omega
  · rw [if_neg hT]
    have e : inw sh T q = 0 := by unfold inw; rw [if_neg hT]
    rw [dv_w0 _ hw e]
    omega
theorem pn_rng {o pen : Int} (ho : 0 ≤ o ∧ o ≤ 10000000) (hp : 0 ≤ pen ∧ pen ≤ 1000) : 0 ≤ pn o pen ∧ pn o pen ≤ 100000001 := by
  have h1 : 0 ≤ o * pen := Int.mul_nonneg ho.1 hp.1
  have h2 : o * pen ≤ 10000000 * 1000 := Int.mul_le_mul ho.2 hp.2 hp.1 (by decide)
  unfold pn
  omega
theorem costS_ok {sh : Int → Int} {T : Nat → Int → Int} {pen a m : Int} (hs : Shk sh) (h : Tok sh T m) (ha : 0 ≤ a ∧ a ≤ 10000000) (hp : 0 ≤ pen ∧ pen ≤ 1000) : Tok sh (costS sh pen a T) (m + 1) := by
  obtain ⟨ht, hb⟩ := h
  have e14 : ∀ q, costS sh pen a T 14 q = T 14 q := fun q => by simp [costS]
  have e18 : ∀ q, costS sh pen a T 18 q = T 18 q := fun q => by simp [costS]
  refine ⟨⟨fun q x y => by rw [e14]; exact ht.1 q x y, ?_⟩, fun q x y => ?_⟩
  · have : inw sh (costS sh pen a T) = inw sh T := by funext q; unfold inw; rw [e14]
    rw [this]; exact ht.2
  · have h1 := hb q x y
    have h2 := chp_rng hs ht ha.1 x y
    have h3 := pn_rng (o := dv a sh q) (pen := pen) ⟨dv_nn ha.1 hs.wt q x y, by have := dv_le ha.1 hs.wt q x y; omega⟩ hp
    have e17 : costS sh pen a T 17 q = T 17 q + chp sh T a q := by simp [costS, x, y]
    have e15 : costS sh pen a T 15 q = T 15 q + (if T 14 q = 0 then 0 else pn (dv a sh q) pen) := by simp [costS, x, y]
    rw [e18, e17, e15]
    split <;> omega
theorem tkn_rng {sh : Int → Int} {T : Nat → Int → Int} {a : Int} (hs : Shk sh) (ha : 0 ≤ a) {q : Int} (h0 : 0 ≤ q) (h5 : q < 5) (he : 0 ≤ T 15 q) : 0 ≤ tkn sh T a q ∧ tkn sh T a q ≤ dv a sh q ∧ tkn sh T a q ≤ T 15 q ∧ tkn sh T a q ≤ (if T 14 q = 0 then 0 else dv a sh q) := by
  have hn := dv_nn ha hs.wt q h0 h5
  unfold tkn
  split
  · omega
  · split <;> omega
theorem tks_rng {sh : Int → Int} {T : Nat → Int → Int} {a : Int} (hs : Shk sh) (ht : Tin sh T) (ha : 0 ≤ a) (he : ∀ q, 0 ≤ q → q < 5 → 0 ≤ T 15 q) {q : Int} (h0 : 0 ≤ q) (h5 : q < 5) : 0 ≤ tks sh T a q 5 ∧ tks sh T a q 5 ≤ osm sh T a ∧ (¬ T 14 q = 0 → tks sh T a q 5 = 0) := by
  have hw := inw_wt hs ht
  have t := fun x a1 a2 => tkn_rng hs ha a1 a2 (he x a1 a2)
  have t0 := t 0 (by decide) (by decide); have t1 := t 1 (by decide) (by decide); have t2 := t 2 (by decide) (by decide); have t3 := t 3 (by decide) (by decide); have t4 := t 4 (by decide) (by decide)
  have n0 := dv_nn t0.1 hw q h0 h5; have n1 := dv_nn t1.1 hw q h0 h5; have n2 := dv_nn t2.1 hw q h0 h5; have n3 := dv_nn t3.1 hw q h0 h5; have n4 := dv_nn t4.1 hw q h0 h5
  have l0 := dv_le t0.1 hw q h0 h5; have l1 := dv_le t1.1 hw q h0 h5; have l2 := dv_le t2.1 hw q h0 h5; have l3 := dv_le t3.1 hw q h0 h5; have l4 := dv_le t4.1 hw q h0 h5
  have e : tks sh T a q 5 = dv (tkn sh T a 0) (inw sh T) q + dv (tkn sh T a 1) (inw sh T) q + dv (tkn sh T a 2) (inw sh T) q + dv (tkn sh T a 3) (inw sh T) q + dv (tkn sh T a 4) (inw sh T) q := by simp [tks]
  have eo : osm sh T a = (if T 14 0 = 0 then 0 else dv a sh 0) + (if T 14 1 = 0 then 0 else dv a sh 1) + (if T 14 2 = 0 then 0 else dv a sh 2) + (if T 14 3 = 0 then 0 else dv a sh 3) + (if T 14 4 = 0 then 0 else dv a sh 4) := rfl
  refine ⟨by omega, by omega, fun hT => ?_⟩
  have ew : inw sh T q = 0 := by unfold inw; rw [if_neg hT]
  rw [e, dv_w0 _ hw ew, dv_w0 _ hw ew, dv_w0 _ hw ew, dv_w0 _ hw ew, dv_w0 _ hw ew]
  rfl
theorem incS_ok {sh : Int → Int} {T : Nat → Int → Int} {v a m : Int} (hs : Shk sh) (h : Tok sh T m) (hm : 0 ≤ m) (ha : 0 ≤ a ∧ a ≤ 10000000) : Tok sh (incS sh v a T) (m + 1) := by
  obtain ⟨ht, hb⟩ := h
  have e14 : ∀ q, 0 ≤ q → q < 5 → incS sh v a T 14 q = if T 14 q ≠ 0 ∧ T 15 q - tkn sh T a q = 0 then 0 else T 14 q := fun q x y => by simp [incS, x, y]
  have e17 : ∀ q, incS sh v a T 17 q = T 17 q := fun q => by simp [incS]
  refine ⟨⟨fun q x y => by rw [e14 q x y]; have := ht.1 q x y; split <;> omega, ?_⟩, fun q x y => ?_⟩
  · have := s5_le (f := inw sh T) (g := inw sh (incS sh v a T)) (fun q x y => by
      have := (hs.1 q x y).1
      unfold inw
      rw [e14 q x y]
      have := ht.1 q x y
      split
      · rw [if_pos (by split <;> omega)]; omega
      · split <;> omega)
    have := ht.2
    omega
  · have h1 := hb q x y
    have t := tkn_rng (T := T) (a := a) hs ha.1 x y h1.1
    have ts := tks_rng hs ht ha.1 (fun q x y => (hb q x y).1) x y
    have hn := dv_nn ha.1 hs.wt q x y
    have hl := dv_le ha.1 hs.wt q x y
    have e15 : incS sh v a T 15 q = T 15 q - tkn sh T a q := by simp [incS, x, y]
    have e18 : incS sh v a T 18 q = T 18 q + (dv a sh q - tkn sh T a q) + tks sh T a q 5 := by simp [incS, x, y]
    rw [e15, e17, e18]
    have hle : dv a sh q - tkn sh T a q + tks sh T a q 5 ≤ a := by
      by_cases hT : T 14 q = 0
      · have := in_osm hs ha.1 x y hT
        omega
      · have := ts.2.2 hT
        omega
    omega
theorem stepS_ok {sh : Int → Int} {T : Nat → Int → Int} {pen v a m : Int} (hs : Shk sh) (h : Tok sh T m) (hm : 0 ≤ m) (ha : -10000000 ≤ a ∧ a ≤ 10000000) (hp : 0 ≤ pen ∧ pen ≤ 1000) : Tok sh (stepS sh pen v a T) (m + 1) := by
  unfold stepS
  split
  · exact costS_ok hs h (by omega) hp
  · exact incS_ok hs h hm (by omega)
theorem Tok.mono {sh : Int → Int} {T : Nat → Int → Int} {m m' : Int} (h : Tok sh T m) (hm : m ≤ m') : Tok sh T m' := ⟨h.1, fun q x y => by have := h.2 q x y; omega⟩
theorem T0f_ok {sh el : Int → Int} (h : Tin sh (T0f el)) : Tok sh (T0f el) 0 := ⟨h, fun q x y => by simp [T0f, x, y]⟩
theorem foldS_ok {sh : Int → Int} {pen w : Int} {vw va el : Int → Int} (hs : Shk sh) (hp : 0 ≤ pen ∧ pen ≤ 1000) (h0 : Tin sh (T0f el)) : ∀ n : Nat, (∀ v : Int, 0 ≤ v → v < n → -10000000 ≤ va v ∧ va v ≤ 10000000) → Tok sh (foldS sh pen vw va w (T0f el) n) n := by
  intro n
  induction n with
  | zero => intro _; exact T0f_ok h0
  | succ n ih =>
    intro hv
    have i1 := ih (fun v a b => hv v a (by omega))
    simp only [foldS]
    split
    · have := stepS_ok (v := (n : Int)) hs i1 (by omega) (hv n (by omega) (by omega)) hp
      rw [Int.natCast_succ]; exact this
    · exact i1.mono (by omega)
theorem foldS_congr {sh : Int → Int} {pen w : Int} {vw va vw' va' : Int → Int} {T0 : Nat → Int → Int} : ∀ n : Nat, (∀ v : Int, 0 ≤ v → v < n → vw v = vw' v ∧ va v = va' v) → foldS sh pen vw va w T0 n = foldS sh pen vw' va' w T0 n := by
  intro n
  induction n with
  | zero => intro _; rfl
  | succ n ih =>
    intro h
    have h1 := h n (by omega) (by omega)
    simp only [foldS]
    rw [ih (fun v a b => h v a (by omega)), h1.1, h1.2]
theorem foldS_none {sh : Int → Int} {pen w : Int} {vw va : Int → Int} {T0 : Nat → Int → Int} : ∀ n : Nat, (∀ v : Int, 0 ≤ v → v < n → vw v ≠ w) → foldS sh pen vw va w T0 n = T0 := by
  intro n
  induction n with
  | zero => intro _; rfl
  | succ n ih =>
    intro h
    simp only [foldS]
    rw [ih (fun v a b => h v a (by omega)), if_neg (h n (by omega) (by omega))]
/-- rows that are 0 outside the five partners and the rows 14 to 18 -/
def Tz (T : Nat → Int → Int) : Prop := ∀ (c : Nat) (q : Int), (c < 14 ∨ 18 < c ∨ q < 0 ∨ 5 ≤ q) → T c q = 0
theorem ac_z (σ : Sg) (w : Int) : Tz (ac σ w) := fun c q h => by unfold ac; rw [if_neg (by omega)]
theorem ac_ext {σ : Sg} {w : Int} {T : Nat → Int → Int} (hz : Tz T) (h : ∀ (c : Nat) (q : Int), 14 ≤ c → c ≤ 18 → 0 ≤ q → q < 5 → σ c w q = T c q) : ac σ w = T := by
  funext c q
  by_cases hc : 14 ≤ c ∧ c ≤ 18 ∧ 0 ≤ q ∧ q < 5
  · rw [ac_at hc.1 hc.2.1 hc.2.2.1 hc.2.2.2]; exact h c q hc.1 hc.2.1 hc.2.2.1 hc.2.2.2
  · rw [ac_z σ w c q (by omega), hz c q (by omega)]
theorem costS_z {sh : Int → Int} {T : Nat → Int → Int} {pen a : Int} (h : Tz T) : Tz (costS sh pen a T) := fun c q hc => by
  unfold costS
  rw [if_neg (by omega), if_neg (by omega)]
  exact h c q hc
theorem incS_z {sh : Int → Int} {T : Nat → Int → Int} {v a : Int} (h : Tz T) : Tz (incS sh v a T) := fun c q hc => by
  unfold incS
  by_cases hq : 0 ≤ q ∧ q < 5
  · rw [if_pos hq, if_neg (by omega), if_neg (by omega), if_neg (by omega), if_neg (by omega)]
    exact h c q hc
  · rw [if_neg hq]
    exact h c q hc
theorem T0f_z (el : Int → Int) : Tz (T0f el) := fun c q hc => by
  unfold T0f
  split
  · rw [if_neg (by omega), if_neg (by omega)]
  · rfl
theorem shf_congr {σ σ' : Sg} (h : ∀ q, 0 ≤ q → q < 5 → σ' 1 0 q = σ 1 0 q) : shf σ' = shf σ := by
  funext q
  unfold shf
  by_cases hq : 0 ≤ q ∧ q < 5
  · rw [if_pos hq, if_pos hq, h q hq.1 hq.2]
  · rw [if_neg hq, if_neg hq]
theorem ac_congr {σ σ' : Sg} {w : Int} (h : ∀ (c : Nat) (q : Int), 14 ≤ c → c ≤ 18 → 0 ≤ q → q < 5 → σ' c w q = σ c w q) : ac σ' w = ac σ w := ac_ext (ac_z σ w) (fun c q h1 h2 h3 h4 => by rw [ac_at h1 h2 h3 h4]; exact h c q h1 h2 h3 h4)
theorem Fr.trans {σ1 σ2 σ3 : Sg} {w : Int} (h : Fr σ1 σ2 w) (h' : Fr σ2 σ3 w) : Fr σ1 σ3 w := fun a b c x y => (h' a b c x y).trans (h a b c x y)
theorem Fr.shf {σ σ' : Sg} {w : Int} (h : Fr σ σ' w) : shf σ' = shf σ := shf_congr (fun q _ _ => h 1 0 q (by omega) (by omega))
/-- a voucher entered: the rows that say so -/
def adV (σ : Sg) (w a : Int) : Sg := su (su (su (su σ 3 0 (σ 0 0 7) w) 4 0 (σ 0 0 7) a) 0 0 7 (σ 0 0 7 + 1)) 12 w 1 1
/-- the weights of those who have paid -/
def pw (σ : Sg) (k : Int) : Int → Int := fun q => if 0 < σ 21 k q then σ 20 k q else 0
theorem chp_sum {sh : Int → Int} {T : Nat → Int → Int} {a : Int} (hs : Shk sh) (ht : Tin sh T) (ha : 0 ≤ a) : s5 (chp sh T a) = a := by
  have hw := inw_wt hs ht
  have ho := osm_rng (T := T) hs ha
  have e : s5 (chp sh T a) = s5 (dv (osm sh T a) (inw sh T)) + s5 (fun q => if T 14 q = 0 then dv a sh q else 0) := by rw [← s5_add]; rfl
  rw [e, dv_sum hw]
  unfold osm
  rw [← s5_add]
  have e2 := dv_sum (a := a) hs.wt
  rw [← s5_congr (f := dv a sh) (fun p x y => by by_cases h : T 14 p = 0 <;> simp [h])]
  exact e2
theorem chp_wt {sh : Int → Int} {T : Nat → Int → Int} {a : Int} (hs : Shk sh) (ht : Tin sh T) (ha : 0 < a) : Wt (chp sh T a) := ⟨fun p x y => (chp_rng hs ht (by omega) x y).1, by rw [chp_sum hs ht (by omega)]; exact ha⟩
theorem ovh_rng {o a : Int} (h : 0 ≤ o ∧ o ≤ 100000) (ha : 1 ≤ a ∧ a ≤ 24) : -10000000 ≤ o * a ∧ o * a ≤ 10000000 := by
  have h1 : 0 ≤ o * a := Int.mul_nonneg h.1 (by omega)
  have h2 : o * a ≤ 100000 * 24 := Int.mul_le_mul h.2 ha.2 (by omega) (by decide)
  omega
