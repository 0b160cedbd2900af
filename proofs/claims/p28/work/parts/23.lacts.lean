theorem Rel.e14 {σ : Sg} (r : Rel σ) {w : Int} (h0 : 0 ≤ w) (h6 : w < 6) (hn : σ 12 w 1 = 0) : ∀ q, 0 ≤ q → q < 5 → σ 14 w q = σ 13 w q := fun q a b => by
  have z := (r.2.2.2.2.2.1 w h0 h6).2
  rw [fold0 (r.none (w := w) (by omega))] at z
  have z2 := congrFun (congrFun z 14) q
  rw [ac_at (by decide) (by decide) a b, T0f_14 a b] at z2
  exact z2
def oth (σ : Sg) (w q : Int) : Int → Int := fun k => if k ≠ q ∧ 0 < σ 1 0 k ∧ σ 13 w k = 0 then 1 else 0
theorem oth_pos {σ : Sg} {w q : Int} : 0 < s5 (oth σ w q) ↔ ∃ k, 0 ≤ k ∧ k < 5 ∧ k ≠ q ∧ σ 13 w k = 0 ∧ 0 < σ 1 0 k := by
  have h01 : ∀ k, 0 ≤ oth σ w q k := fun k => by unfold oth; split <;> decide
  constructor
  · intro h
    apply Classical.byContradiction
    intro hn
    have e : s5 (oth σ w q) = 0 := by
      rw [s5_congr (g := fun _ => 0) (fun k a b => by unfold oth; rw [if_neg (fun z => hn ⟨k, a, b, z.1, z.2.2, z.2.1⟩)])]
      rfl
    omega
  · rintro ⟨k, a, b, c, d, f⟩
    have h2 := s5_part (f := oth σ w q) (fun p _ _ => h01 p) k a b
    have h3 : oth σ w q k = 1 := by unfold oth; rw [if_pos ⟨c, f, d⟩]
    omega
theorem oth_rng (σ : Sg) (w q : Int) : 0 ≤ s5 (oth σ w q) ∧ s5 (oth σ w q) ≤ 5 := by
  have h9 : ∀ k, 0 ≤ oth σ w q k ∧ oth σ w q k ≤ 1 := fun k => by unfold oth; split <;> omega
  have h0 := h9 0; have h1 := h9 1; have h2 := h9 2; have h3 := h9 3; have h4 := h9 4
  unfold s5
  omega
theorem enter_ok {σ S τ : Sg} {w am x fl : Int} (iv : Inv σ) (hw0 : 0 ≤ w ∧ w < σ 0 0 4) (hn : σ 0 0 7 < 16) (hx : 1 ≤ x ∧ x ≤ 10000) (hfl : (fl = 0 ∧ am = x) ∨ (fl = 1 ∧ am = -x)) (GX : EqC σ S) (hQ : ∀ (a : Nat) (b c : Int), 22 ≤ a → a < 31 → ¬ ((a = 25 ∧ 3 * σ 0 0 7 ≤ c ∧ c < 3 * σ 0 0 7 + 3) ∨ (a = 30 ∧ c = w) ∨ (a = 29 ∧ c = 1)) → S a b c = σ a b c) (h25 : S 25 0 (3 * σ 0 0 7) = w) (h25x : S 25 0 (3 * σ 0 0 7 + 1) = x) (h25f : S 25 0 (3 * σ 0 0 7 + 2) = fl) (h30 : S 30 0 w = 1) (h29 : S 29 0 1 = σ 0 0 7 + 1) (F : Fr (adV S w am) τ w) (E : ac τ w = stepS (shf S) (S 12 w 0) (S 0 0 7) am (ac S w)) : Inv τ := by
  have r := iv.1
  have lw := iv.2
  have x7 := GX 0 0 7 (by decide) (by decide)
  have gF : ∀ (a : Nat) (b c : Int), (a < 8 ∨ 11 < a) → (a < 14 ∨ 18 < a ∨ b ≠ w) → τ a b c = su (su (su (su S 3 0 (σ 0 0 7) w) 4 0 (σ 0 0 7) am) 0 0 7 (σ 0 0 7 + 1)) 12 w 1 1 a b c := fun a b c x1 x2 => by
    rw [F a b c x1 (by omega)]
    unfold adV
    rw [x7]
  have gL : ∀ (a : Nat) (b c : Int), 22 ≤ a → τ a b c = S a b c := fun a b c x1 => by
    rw [gF a b c (by omega) (by omega), su_nk (by omega), su_nk (by omega), su_nk (by omega), su_nk (by omega)]
  have hX : Eqx (fun a b c => (a = 3 ∧ c = σ 0 0 7) ∨ (a = 4 ∧ c = σ 0 0 7) ∨ (a = 0 ∧ c = 7) ∨ (a = 12 ∧ b = w ∧ c = 1) ∨ (14 ≤ a ∧ a ≤ 18 ∧ b = w) ∨ (a = 25 ∧ 3 * σ 0 0 7 ≤ c ∧ c < 3 * σ 0 0 7 + 3) ∨ (a = 30 ∧ c = w) ∨ (a = 29 ∧ c = 1)) σ τ := fun a b c x1 x2 x3 => by
    by_cases h : a < 22
    · rw [gF a b c x1 (by omega), su_ne3 (by omega), su_ne3 (by omega), su_ne3 (by omega), su_ne3 (by omega)]
      exact GX a b c x1 h
    · rw [gL a b c (by omega)]
      exact hQ a b c (by omega) x2 (by omega)
  have t3 : τ 3 0 (σ 0 0 7) = w := by rw [gF _ _ _ (by decide) (by omega), su_nk (by decide), su_nk (by decide), su_nk (by decide), su_at]
  have t4 : τ 4 0 (σ 0 0 7) = am := by rw [gF _ _ _ (by decide) (by omega), su_nk (by decide), su_nk (by decide), su_at]
  have t7 : τ 0 0 7 = σ 0 0 7 + 1 := by rw [gF _ _ _ (by decide) (by omega), su_nk (by decide), su_at]
  have t12 : τ 12 w 1 = 1 := by rw [gF _ _ _ (by decide) (by omega), su_at]
  rw [GX.sh, GX 12 w 0 (by decide) (by decide), x7, GX.ac] at E
  refine ⟨r.t_enter hw0 (by omega) (by omega) hX t3 t4 t7 t12 E, lw.t_enter hw0 hn hX ?_ t7 t12 ?_ ?_⟩
  · unfold Lv
    rw [gL 25 0 (3 * σ 0 0 7) (by decide), gL 25 0 (3 * σ 0 0 7 + 1) (by decide), gL 25 0 (3 * σ 0 0 7 + 2) (by decide), h25, h25x, h25f, t3, t4]
    refine ⟨rfl, by omega, ?_, hx.1, hx.2⟩
    rcases hfl with ⟨rfl, rfl⟩ | ⟨rfl, rfl⟩
    · rw [if_pos rfl]
    · rw [if_neg (by decide)]
  · rw [gL _ _ _ (by decide)]; exact h30
  · rw [gL _ _ _ (by decide)]; exact h29
theorem move_ok {σ S τ : Sg} {v w : Int} (iv : Inv σ) (hw0 : 0 ≤ w ∧ w < σ 0 0 4) (hv0 : 0 ≤ v ∧ v < σ 0 0 7) (hS : S = su (su σ 25 0 (3 * v) w) 30 0 w 1) (F : ∀ (a : Nat) (b c : Int), (a < 8 ∨ 11 < a) → (a < 14 ∨ 18 < a ∨ (b ≠ w ∧ b ≠ S 3 0 v) ∨ c < 0 ∨ 5 ≤ c) → τ a b c = su (su S 3 0 v w) 12 w 1 1 a b c) (A1 : ac τ w = foldS (shf S) (S 12 w 0) (su (su S 3 0 v w) 12 w 1 1 3 0) (S 4 0) w (T0f (S 13 w)) (S 0 0 7).toNat) (A2 : ac τ (S 3 0 v) = foldS (shf S) (S 12 (S 3 0 v) 0) (su (su S 3 0 v w) 12 w 1 1 3 0) (S 4 0) (S 3 0 v) (T0f (S 13 (S 3 0 v))) (S 0 0 7).toNat) : Inv τ := by
  have r := iv.1
  have lw := iv.2
  have GX : EqC σ S := fun a b c x1 x2 => by rw [hS, su_nk (by omega), su_nk (by omega)]
  have e3 := GX.k (a := 3) (by decide) (by decide)
  have e4 := GX.k (a := 4) (by decide) (by decide)
  have e12 := GX.k (a := 12) (by decide) (by decide)
  have e13 := GX.k (a := 13) (by decide) (by decide)
  have e0 := GX.k (a := 0) (by decide) (by decide)
  have t3 : τ 3 0 = su (su S 3 0 v w) 12 w 1 1 3 0 := by
    funext c
    rw [F _ _ _ (by decide) (Or.inl (by decide))]
  have gF : ∀ (a : Nat) (b c : Int), (a < 8 ∨ 11 < a) → (a < 14 ∨ 18 < a ∨ (b ≠ w ∧ b ≠ σ 3 0 v)) → τ a b c = su (su (su (su σ 25 0 (3 * v) w) 30 0 w 1) 3 0 v w) 12 w 1 1 a b c := fun a b c x1 x2 => by
    rw [F a b c x1 (by rw [e3]; omega), hS]
  have hX : Eqx (fun a b c => (a = 3 ∧ c = v) ∨ (a = 12 ∧ b = w ∧ c = 1) ∨ (14 ≤ a ∧ a ≤ 18 ∧ (b = w ∨ b = σ 3 0 v)) ∨ (a = 25 ∧ c = 3 * v) ∨ (a = 30 ∧ c = w)) σ τ := fun a b c x1 x2 x3 => by
    clear hw0 hv0
    rw [gF a b c x1 (by omega), su_ne3 (by omega), su_ne3 (by omega), su_ne3 (by omega), su_ne3 (by omega)]
  have s3 : τ 3 0 v = w := by rw [gF _ _ _ (by decide) (by omega), su_nk (by decide), su_at]
  have s12 : τ 12 w 1 = 1 := by rw [gF _ _ _ (by decide) (by omega), su_at]
  have s25 : τ 25 0 (3 * v) = w := by rw [gF _ _ _ (by decide) (by omega), su_nk (by decide), su_nk (by decide), su_nk (by decide), su_at]
  have s30 : τ 30 0 w = 1 := by rw [gF _ _ _ (by decide) (by omega), su_nk (by decide), su_nk (by decide), su_at]
  rw [← t3, GX.sh, e12, e4, e13, e0] at A1
  rw [← t3, GX.sh, e12, e4, e13, e0, e3] at A2
  exact ⟨r.t_move hw0 hv0 hX s3 s12 A1 A2, lw.t_move hw0 hv0 hX s3 s25 s12 s30⟩
theorem su_self {σ : Sg} {kd : Nat} {j v : Int} (h : σ kd 0 j = v) : su σ kd 0 j v = σ := by
  funext a b c
  unfold su
  split
  · rename_i e
    obtain ⟨rfl, rfl, rfl⟩ := e
    exact h.symm
  · rfl
theorem ovh_lr {o a : Int} (h : 0 ≤ o ∧ o ≤ 74) (h0 : ¬ o = 0) (ha : 1 ≤ a ∧ a ≤ 24) : 1 ≤ o * a ∧ o * a ≤ 10000 := by
  have h1 : 1 * 1 ≤ o * a := Int.mul_le_mul (by omega) ha.1 (by omega) (by omega)
  have h2 : o * a ≤ 74 * 24 := Int.mul_le_mul h.2 ha.2 (by omega) (by decide)
  omega
set_option maxHeartbeats 4000000 in
set_option maxRecDepth 100000 in
theorem c_L_acts {l : Launch} (hfl : l.stackTraces = false) {cy : Nat → ClassId} {D : va_G} {ad : Ad} (hI : Inj ad) (σ : Sg) (way zz : Int) (x22 : ad 1000 22 = 1) (x23 : ad 1000 23 = 1) (x24 : ad 1000 24 = 1) (x25 : ad 1000 25 = 1) (x26 : ad 1000 26 = 1) (x27 : ad 1000 27 = 1) (x28 : ad 1000 28 = 1) (x29 : ad 1000 29 = 1) (x30 : ad 1000 30 = 1) (f34 : ¬ ad 1000 34 = 1) (f35 : ¬ ad 1000 35 = 1) (f36 : ¬ ad 1000 36 = 1) (f37 : ¬ ad 1000 37 = 1) (f38 : ¬ ad 1000 38 = 1) (f39 : ¬ ad 1000 39 = 1) (f40 : ¬ ad 1000 40 = 1) (iv : Inv σ) (hwy : 0 ≤ way ∧ way < 22) (hzz : 0 ≤ zz ∧ zz < 1000000) : KI l yL_acts wsL_acts ({ frames := 10, cells := 77, slots := 411, locals := 190 } : Room) cy D ad σ [.ref (ad 0 0), .ref (ad 22 0), .ref (ad 23 0), .ref (ad 24 0), .ref (ad 25 0), .ref (ad 26 0), .ref (ad 27 0), .ref (ad 28 0), .ref (ad 29 0), .ref (ad 30 0), .int (iI way), .int (iI zz)] (fun z σ' => z = 1 ∧ Inv σ') 77 411 := by
  refine KI.of (lv0 := [some (.ref (ad 0 0)), some (.ref (ad 22 0)), some (.ref (ad 23 0)), some (.ref (ad 24 0)), some (.ref (ad 25 0)), some (.ref (ad 26 0)), some (.ref (ad 27 0)), some (.ref (ad 28 0)), some (.ref (ad 29 0)), some (.ref (ad 30 0)), some (.int (iI way)), some (.int (iI zz)), none, none, none, none, none, none]) hfl hI (by decide) rfl (Nat.le_of_ble_eq_true rfl) rfl ?_
  intro p e s m args below meth c C hr
  have r := iv.1
  have lw := iv.2
  have c0 := lw.1
  unfold L0 at c0
  have lm := lw.2.1
  unfold Lm at lm
  have hwz : 0 ≤ (zz % σ 0 0 4) ∧ (zz % σ 0 0 4) < σ 0 0 4 := emod_rng (by omega)
  have e30 := lw.2.2.2.2.2.2.2.2 (zz % σ 0 0 4) hwz.1 (by omega)
  have K_699 : JW p l e ({ frames := 10, cells := 77, slots := 411, locals := 190 } : Room) s m args below meth c cy D ad (Ar ad s.heap.size) 18 0 0 (MQ below (QcI cy D ad (fun z σ' => z = 1 ∧ Inv σ') s.heap.size) args s 77 411 (Ar ad s.heap.size)) σ 699 [some (.ref (ad 0 0)), some (.ref (ad 22 0)), some (.ref (ad 23 0)), some (.ref (ad 24 0)), some (.ref (ad 25 0)), some (.ref (ad 26 0)), some (.ref (ad 27 0)), some (.ref (ad 28 0)), some (.ref (ad 29 0)), some (.ref (ad 30 0)), some (.int (iI way)), some (.int (iI zz)), some (.int (iI ((zz % σ 0 0 4)))), none, none, none, none, none] [] := by
    refine J_aload_0 C dL_acts_699 ?_
    refine J_aload_1 C dL_acts_700 ?_
    refine J_aload_2 C dL_acts_701 ?_
    refine J_aload_3 C dL_acts_702 ?_
    refine J_aload4 C dL_acts_703 ?_
    refine J_aload5 C dL_acts_705 ?_
    refine J_aload6 C dL_acts_707 ?_
    refine J_aload7 C dL_acts_709 ?_
    refine J_aload8 C dL_acts_711 ?_
    refine J_iload10 C dL_acts_713 ?_
    refine J_iconst C dL_acts_715 ?_
    refine J_irem C (by omega) (by omega) dL_acts_716 ?_
    refine J_iload11 C dL_acts_717 ?_
    refine J_KSI C (c_L_isCash hfl hI _ _ _ x22 x23 x24 x25 x26 x27 x28 x29 f34 f35 f36 f37 f38 f39 f40 iv (by omega) hzz) (va_cwS 11 C.1.2.2.2.2 gL_acts_L_isCash rfl rfl rfl (by decide +kernel) ⟨Nat.le_of_ble_eq_true rfl, Nat.le_of_ble_eq_true rfl⟩) rfl rfl (Nat.le_of_ble_eq_true rfl) dL_acts_719 ⟨Nat.le_of_ble_eq_true rfl, Nat.le_of_ble_eq_true rfl⟩ (fun z_719 σ_719 hp => ?_)
    obtain ⟨hz1, hi1⟩ := hp
    refine J_retZ C hr (by exact Or.inr hz1) (by decide) (by decide) dL_acts_722 ?_
    exact ⟨hz1, hi1⟩
  have K_579 : JW p l e ({ frames := 10, cells := 77, slots := 411, locals := 190 } : Room) s m args below meth c cy D ad (Ar ad s.heap.size) 18 0 0 (MQ below (QcI cy D ad (fun z σ' => z = 1 ∧ Inv σ') s.heap.size) args s 77 411 (Ar ad s.heap.size)) σ 579 [some (.ref (ad 0 0)), some (.ref (ad 22 0)), some (.ref (ad 23 0)), some (.ref (ad 24 0)), some (.ref (ad 25 0)), some (.ref (ad 26 0)), some (.ref (ad 27 0)), some (.ref (ad 28 0)), some (.ref (ad 29 0)), some (.ref (ad 30 0)), some (.int (iI way)), some (.int (iI zz)), some (.int (iI ((zz % σ 0 0 4)))), none, none, none, none, none] [] := by
    refine J_iload10 C dL_acts_579 ?_
    refine J_bipush C (by decide) dL_acts_581 ?_
    refine J_icmp_ge (tgt := 699) C (by omega) (by omega) dL_acts_583 (by decide) (fun c_583 => ?_) (fun c_583 => ?_)
    · -- to the cut at 699
      refine K_699  
    · refine J_aload8 C dL_acts_586 ?_
      refine J_iconst C dL_acts_588 ?_
      refine J_iaload C (k29 x29) (by decide) (by omega) dL_acts_589 ?_
      rw [lm.2.1]
      refine J_if_le (tgt := 699) C (by omega) dL_acts_590 (by decide) (fun c_590 => ?_) (fun c_590 => ?_)
      · -- to the cut at 699
        refine K_699  
      · refine J_iload11 C dL_acts_593 ?_
        refine J_iconst C dL_acts_595 ?_
        refine J_idiv C (by omega) (by omega) dL_acts_596 ?_
        refine J_aload8 C dL_acts_597 ?_
        refine J_iconst C dL_acts_599 ?_
        refine J_iaload C (k29 x29) (by decide) (by omega) dL_acts_600 ?_
        rw [lm.2.1]
        have hvz : 0 ≤ (zz / 3 % σ 0 0 7) ∧ (zz / 3 % σ 0 0 7) < σ 0 0 7 := emod_rng (by omega)
        obtain ⟨l1, l2, l3, l4, l5⟩ := lw.2.2.2.2.2.1 (zz / 3 % σ 0 0 7) (by omega) (by omega) (by omega)
        refine J_irem C (by omega) (by omega) dL_acts_601 ?_
        refine J_istore13 C (by decide) rfl dL_acts_602 ?_
        refine J_aload4 C dL_acts_604 ?_
        refine J_iconst C dL_acts_606 ?_
        refine J_iload13 C dL_acts_607 ?_
        refine J_imul C dL_acts_609 ?_
        refine J_iconst C dL_acts_610 ?_
        refine J_iadd C dL_acts_611 ?_
        refine J_iaload C (k25 x25) (by decide) (by omega) dL_acts_612 ?_
        refine J_if_ne (tgt := 620) C (by omega) dL_acts_613 (by decide) (fun c_613 => ?_) (fun c_613 => ?_)
        · refine J_iconst C dL_acts_620 ?_
          refine J_istore14 C (by decide) rfl dL_acts_621 ?_
          refine J_aload4 C dL_acts_623 ?_
          refine J_iconst C dL_acts_625 ?_
          refine J_iload13 C dL_acts_626 ?_
          refine J_imul C dL_acts_628 ?_
          refine J_iaload C (k25 x25) (by decide) (by omega) dL_acts_629 ?_
          rw [l1]
          refine J_istore15 C (by decide) rfl dL_acts_630 ?_
          refine J_aload4 C dL_acts_632 ?_
          refine J_iconst C dL_acts_634 ?_
          refine J_iload13 C dL_acts_635 ?_
          refine J_imul C dL_acts_637 ?_
          refine J_iload14 C dL_acts_638 ?_
          refine J_if_eq (tgt := 648) C (by omega) dL_acts_640 (by decide) (fun c_640 => ?_) (fun c_640 => ?_)
          · refine J_iload15 C dL_acts_648 ?_
            refine J_iastore C (k25 x25) (by decide) (by omega) dL_acts_650 ?_
            refine J_aload9 C dL_acts_651 ?_
            refine J_iload12 C dL_acts_653 ?_
            refine J_iload14 C dL_acts_655 ?_
            refine J_if_eq (tgt := 664) C (by omega) dL_acts_657 (by decide) (fun c_657 => ?_) (fun c_657 => ?_)
            · refine J_aload9 C dL_acts_664 ?_
              refine J_iload12 C dL_acts_666 ?_
              refine J_iaload C (k30 x30) (by decide) (by omega) dL_acts_668 ?_
              refine J_iastore C (k30 x30) (by decide) (by omega) dL_acts_669 ?_
              rw [su_self (σ := σ) (kd := 25) l1, su_self (σ := σ) (kd := 30) rfl]
              have rX := r
              have x4 : σ 0 0 4 = σ 0 0 4 := rfl
              have x7 : σ 0 0 7 = σ 0 0 7 := rfl
              refine J_aload_0 C dL_acts_670 ?_
              refine J_iload13 C dL_acts_671 ?_
              refine J_iload12 C dL_acts_673 ?_
              refine J_KWI C (c_L_moved hfl hI _ (zz / 3 % σ 0 0 7) (zz % σ 0 0 4) rX.hwc rX.hvc (by omega) (by omega) rX.hvs rX.hsh rX.hel (by omega)) (vx_cwSW 3 C.1.2.2.2.2 gL_acts_L_moved rfl rfl rfl (by decide +kernel) ⟨Nat.le_of_ble_eq_true rfl, Nat.le_of_ble_eq_true rfl⟩) rfl rfl (Nat.le_of_ble_eq_true rfl) dL_acts_675 ⟨Nat.le_of_ble_eq_true rfl, Nat.le_of_ble_eq_true rfl⟩ (fun z_675 σ_675 hp => ?_)
              have hm9 : z_675 = -2 ∧ Inv σ_675 := by
                rcases hp with ⟨h1, h2, h3, h4, h5⟩ | ⟨h1, h2, h3, h4⟩
                · rw [if_neg c_613] at l3
                  have := h5.2
                  omega
                · exact ⟨h1, by rw [h2]; exact iv⟩
              refine J_iload14 C dL_acts_678 ?_
              refine J_if_eq (tgt := 688) C (by omega) dL_acts_680 (by decide) (fun c_680 => ?_) (fun c_680 => ?_)
              · refine J_bipush C (by decide) dL_acts_688 ?_
                refine J_icmp_neS (tgt := 697) C (by
                  exact hm9.1
                  ) dL_acts_690 (by decide) ?_
                refine J_iconst C dL_acts_693 ?_
                refine J_goto (tgt := 698) C dL_acts_694 (by decide) ?_
                refine J_retZ C hr (by exact Or.inr rfl) (by decide) (by decide) dL_acts_698 ?_
                exact ⟨rfl, hm9.2⟩
              · exact absurd c_680 (by decide)
            · exact absurd c_657 (by decide)
          · exact absurd c_640 (by decide)
        · refine J_iconst C dL_acts_616 ?_
          refine J_goto (tgt := 621) C dL_acts_617 (by decide) ?_
          refine J_istore14 C (by decide) rfl dL_acts_621 ?_
          refine J_aload4 C dL_acts_623 ?_
          refine J_iconst C dL_acts_625 ?_
          refine J_iload13 C dL_acts_626 ?_
          refine J_imul C dL_acts_628 ?_
          refine J_iaload C (k25 x25) (by decide) (by omega) dL_acts_629 ?_
          rw [l1]
          refine J_istore15 C (by decide) rfl dL_acts_630 ?_
          refine J_aload4 C dL_acts_632 ?_
          refine J_iconst C dL_acts_634 ?_
          refine J_iload13 C dL_acts_635 ?_
          refine J_imul C dL_acts_637 ?_
          refine J_iload14 C dL_acts_638 ?_
          refine J_if_eq (tgt := 648) C (by omega) dL_acts_640 (by decide) (fun c_640 => ?_) (fun c_640 => ?_)
          · exact absurd c_640 (by decide)
          · refine J_iload12 C dL_acts_643 ?_
            refine J_goto (tgt := 650) C dL_acts_645 (by decide) ?_
            refine J_iastore C (k25 x25) (by decide) (by omega) dL_acts_650 ?_
            refine J_aload9 C dL_acts_651 ?_
            refine J_iload12 C dL_acts_653 ?_
            refine J_iload14 C dL_acts_655 ?_
            refine J_if_eq (tgt := 664) C (by omega) dL_acts_657 (by decide) (fun c_657 => ?_) (fun c_657 => ?_)
            · exact absurd c_657 (by decide)
            · refine J_iconst C dL_acts_660 ?_
              refine J_goto (tgt := 669) C dL_acts_661 (by decide) ?_
              refine J_iastore C (k30 x30) (by decide) (by omega) dL_acts_669 ?_
              have GX : EqC σ (su (su σ 25 0 (3 * (zz / 3 % σ 0 0 7)) (zz % σ 0 0 4)) 30 0 (zz % σ 0 0 4) 1) := fun a b c x1 x2 => by rw [su_nk (by omega), su_nk (by omega)]
              generalize hSX : (su (su σ 25 0 (3 * (zz / 3 % σ 0 0 7)) (zz % σ 0 0 4)) 30 0 (zz % σ 0 0 4) 1) = SX at GX ⊢
              have hSX := hSX.symm
              have rX := r.cls GX
              have x4 : SX 0 0 4 = σ 0 0 4 := GX 0 0 4 (by decide) (by decide)
              have x7 : SX 0 0 7 = σ 0 0 7 := GX 0 0 7 (by decide) (by decide)
              have a4 : SX 4 0 (zz / 3 % σ 0 0 7) = σ 4 0 (zz / 3 % σ 0 0 7) := GX 4 0 _ (by decide) (by decide)
              have a3 : SX 3 0 (zz / 3 % σ 0 0 7) = σ 3 0 (zz / 3 % σ 0 0 7) := GX 3 0 _ (by decide) (by decide)
              refine J_aload_0 C dL_acts_670 ?_
              refine J_iload13 C dL_acts_671 ?_
              refine J_iload12 C dL_acts_673 ?_
              refine J_KWI C (c_L_moved hfl hI _ (zz / 3 % σ 0 0 7) (zz % σ 0 0 4) rX.hwc rX.hvc (by omega) (by omega) rX.hvs rX.hsh rX.hel (by omega)) (vx_cwSW 3 C.1.2.2.2.2 gL_acts_L_moved rfl rfl rfl (by decide +kernel) ⟨Nat.le_of_ble_eq_true rfl, Nat.le_of_ble_eq_true rfl⟩) rfl rfl (Nat.le_of_ble_eq_true rfl) dL_acts_675 ⟨Nat.le_of_ble_eq_true rfl, Nat.le_of_ble_eq_true rfl⟩ (fun z_675 σ_675 hp => ?_)
              have hm9 : z_675 = σ 3 0 (zz / 3 % σ 0 0 7) ∧ Inv σ_675 := by
                rcases hp with ⟨h1, h2, h3, h4, h5⟩ | ⟨h1, h2, h3, h4⟩
                · exact ⟨by rw [h1, a3], move_ok iv hwz hvz hSX h2 h3 h4⟩
                · rw [if_pos c_613] at l3
                  exact absurd (by omega) h4
              refine J_iload14 C dL_acts_678 ?_
              refine J_if_eq (tgt := 688) C (by omega) dL_acts_680 (by decide) (fun c_680 => ?_) (fun c_680 => ?_)
              · exact absurd c_680 (by decide)
              · refine J_iload15 C dL_acts_683 ?_
                refine J_goto (tgt := 690) C dL_acts_685 (by decide) ?_
                refine J_icmp_neS (tgt := 697) C (by
                  exact hm9.1
                  ) dL_acts_690 (by decide) ?_
                refine J_iconst C dL_acts_693 ?_
                refine J_goto (tgt := 698) C dL_acts_694 (by decide) ?_
                refine J_retZ C hr (by exact Or.inr rfl) (by decide) (by decide) dL_acts_698 ?_
                exact ⟨rfl, hm9.2⟩
  have K_336 : JW p l e ({ frames := 10, cells := 77, slots := 411, locals := 190 } : Room) s m args below meth c cy D ad (Ar ad s.heap.size) 18 0 0 (MQ below (QcI cy D ad (fun z σ' => z = 1 ∧ Inv σ') s.heap.size) args s 77 411 (Ar ad s.heap.size)) σ 336 [some (.ref (ad 0 0)), some (.ref (ad 22 0)), some (.ref (ad 23 0)), some (.ref (ad 24 0)), some (.ref (ad 25 0)), some (.ref (ad 26 0)), some (.ref (ad 27 0)), some (.ref (ad 28 0)), some (.ref (ad 29 0)), some (.ref (ad 30 0)), some (.int (iI way)), some (.int (iI zz)), some (.int (iI ((zz % σ 0 0 4)))), none, none, none, none, none] [] := by
    refine J_iload10 C dL_acts_336 ?_
    refine J_bipush C (by decide) dL_acts_338 ?_
    refine J_icmp_ge (tgt := 579) C (by omega) (by omega) dL_acts_340 (by decide) (fun c_340 => ?_) (fun c_340 => ?_)
    · -- to the cut at 579
      refine K_579  
    · refine J_aload8 C dL_acts_343 ?_
      refine J_iconst C dL_acts_345 ?_
      refine J_iaload C (k29 x29) (by decide) (by omega) dL_acts_346 ?_
      rw [lm.2.1]
      refine J_bipush C (by decide) dL_acts_347 ?_
      refine J_icmp_ge (tgt := 579) C (by omega) (by omega) dL_acts_349 (by decide) (fun c_349 => ?_) (fun c_349 => ?_)
      · -- to the cut at 579
        refine K_579  
      · have K_374 : ∀ (am : Int), (1 ≤ am ∧ am ≤ 9000) → JW p l e ({ frames := 10, cells := 77, slots := 411, locals := 190 } : Room) s m args below meth c cy D ad (Ar ad s.heap.size) 18 0 0 (MQ below (QcI cy D ad (fun z σ' => z = 1 ∧ Inv σ') s.heap.size) args s 77 411 (Ar ad s.heap.size)) σ 374 [some (.ref (ad 0 0)), some (.ref (ad 22 0)), some (.ref (ad 23 0)), some (.ref (ad 24 0)), some (.ref (ad 25 0)), some (.ref (ad 26 0)), some (.ref (ad 27 0)), some (.ref (ad 28 0)), some (.ref (ad 29 0)), some (.ref (ad 30 0)), some (.int (iI way)), some (.int (iI zz)), some (.int (iI ((zz % σ 0 0 4)))), none, none, none, none, none] [.int (iI am)] := by
          intro am v0
          refine J_istore13 C (by decide) rfl dL_acts_374 ?_
          refine J_iload10 C dL_acts_376 ?_
          refine J_bipush C (by decide) dL_acts_378 ?_
          refine J_icmp_le (tgt := 387) C (by omega) (by omega) dL_acts_380 (by decide) (fun c_380 => ?_) (fun c_380 => ?_)
          · refine J_iconst C dL_acts_387 ?_
            refine J_istore14 C (by decide) rfl dL_acts_388 ?_
            refine J_iload10 C dL_acts_390 ?_
            refine J_bipush C (by decide) dL_acts_392 ?_
            refine J_icmp_ne (tgt := 401) C (by omega) (by omega) dL_acts_394 (by decide) (fun c_394 => ?_) (fun c_394 => ?_)
            · refine J_iconst C dL_acts_401 ?_
              refine J_istore15 C (by decide) rfl dL_acts_402 ?_
              refine J_iload15 C dL_acts_404 ?_
              refine J_if_eq (tgt := 440) C (by omega) dL_acts_406 (by decide) (fun c_406 => ?_) (fun c_406 => ?_)
              · refine J_aload4 C dL_acts_440 ?_
                refine J_iconst C dL_acts_442 ?_
                refine J_aload8 C dL_acts_443 ?_
                refine J_iconst C dL_acts_445 ?_
                refine J_iaload C (k29 x29) (by decide) (by omega) dL_acts_446 ?_
                rw [lm.2.1]
                refine J_imul C dL_acts_447 ?_
                refine J_iload12 C dL_acts_448 ?_
                refine J_iastore C (k25 x25) (by decide) (by omega) dL_acts_450 ?_
                refine J_aload4 C dL_acts_451 ?_
                refine J_iconst C dL_acts_453 ?_
                refine J_aload8 C dL_acts_454 ?_
                refine J_iconst C dL_acts_456 ?_
                refine J_iaload C (k29 x29) (by decide) (by omega) dL_acts_457 ?_
                rw [su_nk (by decide), lm.2.1]
                refine J_imul C dL_acts_458 ?_
                refine J_iconst C dL_acts_459 ?_
                refine J_iadd C dL_acts_460 ?_
                refine J_iload15 C dL_acts_461 ?_
                refine J_if_eq (tgt := 481) C (by omega) dL_acts_463 (by decide) (fun c_463 => ?_) (fun c_463 => ?_)
                · refine J_iload13 C dL_acts_481 ?_
                  refine J_iastore C (k25 x25) (by decide) (by omega) dL_acts_483 ?_
                  refine J_aload4 C dL_acts_484 ?_
                  refine J_iconst C dL_acts_486 ?_
                  refine J_aload8 C dL_acts_487 ?_
                  refine J_iconst C dL_acts_489 ?_
                  refine J_iaload C (k29 x29) (by decide) (by omega) dL_acts_490 ?_
                  rw [su_nk (by decide), su_nk (by decide), lm.2.1]
                  refine J_imul C dL_acts_491 ?_
                  refine J_iconst C dL_acts_492 ?_
                  refine J_iadd C dL_acts_493 ?_
                  refine J_iload14 C dL_acts_494 ?_
                  refine J_if_eq (tgt := 503) C (by omega) dL_acts_496 (by decide) (fun c_496 => ?_) (fun c_496 => ?_)
                  · refine J_iconst C dL_acts_503 ?_
                    refine J_iastore C (k25 x25) (by decide) (by omega) dL_acts_504 ?_
                    refine J_aload9 C dL_acts_505 ?_
                    refine J_iload12 C dL_acts_507 ?_
                    refine J_iconst C dL_acts_509 ?_
                    refine J_iastore C (k30 x30) (by decide) (by omega) dL_acts_510 ?_
                    refine J_aload8 C dL_acts_511 ?_
                    refine J_iconst C dL_acts_513 ?_
                    refine J_dup2 C rfl rfl dL_acts_514 ?_
                    refine J_iaload C (k29 x29) (by decide) (by omega) dL_acts_515 ?_
                    rw [su_nk (by decide), su_nk (by decide), su_nk (by decide), su_nk (by decide), lm.2.1]
                    refine J_iconst C dL_acts_516 ?_
                    refine J_iadd C dL_acts_517 ?_
                    refine J_iastore C (k29 x29) (by decide) (by omega) dL_acts_518 ?_
                    have GX : EqC σ (su (su (su (su (su σ 25 0 (3 * σ 0 0 7) (zz % σ 0 0 4)) 25 0 (3 * σ 0 0 7 + 1) am) 25 0 (3 * σ 0 0 7 + 2) 0) 30 0 (zz % σ 0 0 4) 1) 29 0 1 (σ 0 0 7 + 1)) := fun a b c x1 x2 => by rw [su_nk (by omega), su_nk (by omega), su_nk (by omega), su_nk (by omega), su_nk (by omega)]
                    have X25 : (su (su (su (su (su σ 25 0 (3 * σ 0 0 7) (zz % σ 0 0 4)) 25 0 (3 * σ 0 0 7 + 1) am) 25 0 (3 * σ 0 0 7 + 2) 0) 30 0 (zz % σ 0 0 4) 1) 29 0 1 (σ 0 0 7 + 1)) 25 0 (3 * σ 0 0 7) = (zz % σ 0 0 4) := by rw [su_nk (by decide), su_nk (by decide), su_ne (by omega), su_ne (by omega), su_at]
                    have X25x : (su (su (su (su (su σ 25 0 (3 * σ 0 0 7) (zz % σ 0 0 4)) 25 0 (3 * σ 0 0 7 + 1) am) 25 0 (3 * σ 0 0 7 + 2) 0) 30 0 (zz % σ 0 0 4) 1) 29 0 1 (σ 0 0 7 + 1)) 25 0 (3 * σ 0 0 7 + 1) = am := by rw [su_nk (by decide), su_nk (by decide), su_ne (by omega), su_at]
                    have X25f : (su (su (su (su (su σ 25 0 (3 * σ 0 0 7) (zz % σ 0 0 4)) 25 0 (3 * σ 0 0 7 + 1) am) 25 0 (3 * σ 0 0 7 + 2) 0) 30 0 (zz % σ 0 0 4) 1) 29 0 1 (σ 0 0 7 + 1)) 25 0 (3 * σ 0 0 7 + 2) = 0 := by rw [su_nk (by decide), su_nk (by decide), su_at]
                    have X30 : (su (su (su (su (su σ 25 0 (3 * σ 0 0 7) (zz % σ 0 0 4)) 25 0 (3 * σ 0 0 7 + 1) am) 25 0 (3 * σ 0 0 7 + 2) 0) 30 0 (zz % σ 0 0 4) 1) 29 0 1 (σ 0 0 7 + 1)) 30 0 (zz % σ 0 0 4) = 1 := by rw [su_nk (by decide), su_at]
                    have X29 : (su (su (su (su (su σ 25 0 (3 * σ 0 0 7) (zz % σ 0 0 4)) 25 0 (3 * σ 0 0 7 + 1) am) 25 0 (3 * σ 0 0 7 + 2) 0) 30 0 (zz % σ 0 0 4) 1) 29 0 1 (σ 0 0 7 + 1)) 29 0 1 = σ 0 0 7 + 1 := su_at
                    have hQ : ∀ (a : Nat) (b c : Int), 22 ≤ a → a < 31 → ¬ ((a = 25 ∧ 3 * σ 0 0 7 ≤ c ∧ c < 3 * σ 0 0 7 + 3) ∨ (a = 30 ∧ c = (zz % σ 0 0 4)) ∨ (a = 29 ∧ c = 1)) → (su (su (su (su (su σ 25 0 (3 * σ 0 0 7) (zz % σ 0 0 4)) 25 0 (3 * σ 0 0 7 + 1) am) 25 0 (3 * σ 0 0 7 + 2) 0) 30 0 (zz % σ 0 0 4) 1) 29 0 1 (σ 0 0 7 + 1)) a b c = σ a b c := fun a b c x1 x2 x3 => by rw [su_ne3 (by omega), su_ne3 (by omega), su_ne3 (by omega), su_ne3 (by omega), su_ne3 (by omega)]
                    generalize (su (su (su (su (su σ 25 0 (3 * σ 0 0 7) (zz % σ 0 0 4)) 25 0 (3 * σ 0 0 7 + 1) am) 25 0 (3 * σ 0 0 7 + 2) 0) 30 0 (zz % σ 0 0 4) 1) 29 0 1 (σ 0 0 7 + 1)) = SX at GX X25 X25x X25f X30 X29 hQ ⊢
                    have rX := r.cls GX
                    have x4 : SX 0 0 4 = σ 0 0 4 := GX 0 0 4 (by decide) (by decide)
                    have x7 : SX 0 0 7 = σ 0 0 7 := GX 0 0 7 (by decide) (by decide)
                    have x2 : SX 0 0 2 = σ 0 0 2 := GX 0 0 2 (by decide) (by decide)
                    have okk : ∀ τ, Fr (adV SX (zz % σ 0 0 4) am) τ (zz % σ 0 0 4) → ac τ (zz % σ 0 0 4) = stepS (shf SX) (SX 12 (zz % σ 0 0 4) 0) (SX 0 0 7) am (ac SX (zz % σ 0 0 4)) → Inv τ := fun τ F E => enter_ok iv hwz (by omega) (by omega) (by omega) GX hQ X25 X25x X25f X30 X29 F E
                    have q29 : ∀ τ, Fr (adV SX (zz % σ 0 0 4) am) τ (zz % σ 0 0 4) → τ 29 0 1 = σ 0 0 7 + 1 := fun τ F => by
                      rw [F 29 0 1 (by decide) (by omega)]
                      unfold adV
                      rw [su_nk (by decide), su_nk (by decide), su_nk (by decide), su_nk (by decide)]
                      exact X29
                    refine J_iload15 C dL_acts_519 ?_
                    refine J_if_eq (tgt := 540) C (by omega) dL_acts_521 (by decide) (fun c_521 => ?_) (fun c_521 => ?_)
                    · refine J_iload14 C dL_acts_540 ?_
                      refine J_if_eq (tgt := 556) C (by omega) dL_acts_542 (by decide) (fun c_542 => ?_) (fun c_542 => ?_)
                      · refine J_aload_0 C dL_acts_556 ?_
                        refine J_iload12 C dL_acts_557 ?_
                        refine J_iload13 C dL_acts_559 ?_
                        refine J_XVI C (c_X3_cost hfl hI _ (zz % σ 0 0 4) am rX.hwc rX.hvc (by omega) (by omega) rX.hsh rX.hall) (cwV 2 C.1.2.2.2.2 gL_acts_X3_cost rfl rfl rfl (by decide +kernel) ⟨Nat.le_of_ble_eq_true rfl, Nat.le_of_ble_eq_true rfl⟩) rc3 (by decide) rfl rfl (Nat.le_of_ble_eq_true rfl) dL_acts_561 ⟨Nat.le_of_ble_eq_true rfl, Nat.le_of_ble_eq_true rfl⟩ (fun E σ_561 hx => ?_) (fun z_561 σ_561 hp => ?_)
                        · skip
                          obtain ⟨_, hx⟩ := hx
                          rcases hx with ⟨_, hx⟩ | ⟨_, hx⟩ | ⟨_, hx⟩
                          · exact absurd (by omega) hx
                          · exact absurd (by omega) hx.2
                          · exact absurd (by omega) hx.2
                        obtain ⟨hz9, hF, hE, _⟩ := hp
                        rw [x7] at hz9
                        have ivn := okk _ hF hE
                        refine J_aload8 C dL_acts_564 ?_
                        refine J_iconst C dL_acts_566 ?_
                        refine J_iaload C (k29 x29) (by decide) (by omega) dL_acts_567 ?_
                        refine J_iconst C dL_acts_568 ?_
                        refine J_isub C dL_acts_569 ?_
                        refine J_icmp_neS (tgt := 577) C (by
                          rw [hz9, q29 _ hF]
                          omega
                          ) dL_acts_570 (by decide) ?_
                        refine J_iconst C dL_acts_573 ?_
                        refine J_goto (tgt := 578) C dL_acts_574 (by decide) ?_
                        refine J_retZ C hr (by exact Or.inr rfl) (by decide) (by decide) dL_acts_578 ?_
                        exact ⟨rfl, ivn⟩
                      · exact absurd c_542 (by decide)
                    · exact absurd c_521 (by decide)
                  · exact absurd c_496 (by decide)
                · exact absurd c_463 (by decide)
              · exact absurd c_406 (by decide)
            · refine J_iconst C dL_acts_397 ?_
              refine J_goto (tgt := 402) C dL_acts_398 (by decide) ?_
              refine J_istore15 C (by decide) rfl dL_acts_402 ?_
              refine J_iload15 C dL_acts_404 ?_
              refine J_if_eq (tgt := 440) C (by omega) dL_acts_406 (by decide) (fun c_406 => ?_) (fun c_406 => ?_)
              · exact absurd c_406 (by decide)
              · refine J_aload8 C dL_acts_409 ?_
                refine J_iconst C dL_acts_411 ?_
                refine J_iaload C (k29 x29) (by decide) (by omega) dL_acts_412 ?_
                rw [lm.2.2.2.2]
                refine J_if_ne (tgt := 440) C (by omega) dL_acts_413 (by decide) (fun c_413 => ?_) (fun c_413 => ?_)
                · refine J_aload4 C dL_acts_440 ?_
                  refine J_iconst C dL_acts_442 ?_
                  refine J_aload8 C dL_acts_443 ?_
                  refine J_iconst C dL_acts_445 ?_
                  refine J_iaload C (k29 x29) (by decide) (by omega) dL_acts_446 ?_
                  rw [lm.2.1]
                  refine J_imul C dL_acts_447 ?_
                  refine J_iload12 C dL_acts_448 ?_
                  refine J_iastore C (k25 x25) (by decide) (by omega) dL_acts_450 ?_
                  refine J_aload4 C dL_acts_451 ?_
                  refine J_iconst C dL_acts_453 ?_
                  refine J_aload8 C dL_acts_454 ?_
                  refine J_iconst C dL_acts_456 ?_
                  refine J_iaload C (k29 x29) (by decide) (by omega) dL_acts_457 ?_
                  rw [su_nk (by decide), lm.2.1]
                  refine J_imul C dL_acts_458 ?_
                  refine J_iconst C dL_acts_459 ?_
                  refine J_iadd C dL_acts_460 ?_
                  refine J_iload15 C dL_acts_461 ?_
                  refine J_if_eq (tgt := 481) C (by omega) dL_acts_463 (by decide) (fun c_463 => ?_) (fun c_463 => ?_)
                  · exact absurd c_463 (by decide)
                  · refine J_aload8 C dL_acts_466 ?_
                    refine J_iconst C dL_acts_468 ?_
                    refine J_iaload C (k29 x29) (by decide) (by omega) dL_acts_469 ?_
                    rw [su_nk (by decide), lm.2.2.2.2]
                    refine J_iconst C dL_acts_470 ?_
                    refine J_iload11 C dL_acts_471 ?_
                    refine J_bipush C (by decide) dL_acts_473 ?_
                    refine J_irem C (by omega) (by omega) dL_acts_475 ?_
                    refine J_iadd C dL_acts_476 ?_
                    refine J_imul C dL_acts_477 ?_
                    refine J_goto (tgt := 483) C dL_acts_478 (by decide) ?_
                    refine J_iastore C (k25 x25) (by decide) (by omega) dL_acts_483 ?_
                    refine J_aload4 C dL_acts_484 ?_
                    refine J_iconst C dL_acts_486 ?_
                    refine J_aload8 C dL_acts_487 ?_
                    refine J_iconst C dL_acts_489 ?_
                    refine J_iaload C (k29 x29) (by decide) (by omega) dL_acts_490 ?_
                    rw [su_nk (by decide), su_nk (by decide), lm.2.1]
                    refine J_imul C dL_acts_491 ?_
                    refine J_iconst C dL_acts_492 ?_
                    refine J_iadd C dL_acts_493 ?_
                    refine J_iload14 C dL_acts_494 ?_
                    refine J_if_eq (tgt := 503) C (by omega) dL_acts_496 (by decide) (fun c_496 => ?_) (fun c_496 => ?_)
                    · refine J_iconst C dL_acts_503 ?_
                      refine J_iastore C (k25 x25) (by decide) (by omega) dL_acts_504 ?_
                      refine J_aload9 C dL_acts_505 ?_
                      refine J_iload12 C dL_acts_507 ?_
                      refine J_iconst C dL_acts_509 ?_
                      refine J_iastore C (k30 x30) (by decide) (by omega) dL_acts_510 ?_
                      refine J_aload8 C dL_acts_511 ?_
                      refine J_iconst C dL_acts_513 ?_
                      refine J_dup2 C rfl rfl dL_acts_514 ?_
                      refine J_iaload C (k29 x29) (by decide) (by omega) dL_acts_515 ?_
                      rw [su_nk (by decide), su_nk (by decide), su_nk (by decide), su_nk (by decide), lm.2.1]
                      refine J_iconst C dL_acts_516 ?_
                      refine J_iadd C dL_acts_517 ?_
                      refine J_iastore C (k29 x29) (by decide) (by omega) dL_acts_518 ?_
                      have hov := ovh_lr (o := σ 0 0 2) (a := 1 + zz % 24) (by omega) (by omega) (by omega)
                      have GX : EqC σ (su (su (su (su (su σ 25 0 (3 * σ 0 0 7) (zz % σ 0 0 4)) 25 0 (3 * σ 0 0 7 + 1) (σ 0 0 2 * (1 + zz % 24))) 25 0 (3 * σ 0 0 7 + 2) 0) 30 0 (zz % σ 0 0 4) 1) 29 0 1 (σ 0 0 7 + 1)) := fun a b c x1 x2 => by rw [su_nk (by omega), su_nk (by omega), su_nk (by omega), su_nk (by omega), su_nk (by omega)]
                      have X25 : (su (su (su (su (su σ 25 0 (3 * σ 0 0 7) (zz % σ 0 0 4)) 25 0 (3 * σ 0 0 7 + 1) (σ 0 0 2 * (1 + zz % 24))) 25 0 (3 * σ 0 0 7 + 2) 0) 30 0 (zz % σ 0 0 4) 1) 29 0 1 (σ 0 0 7 + 1)) 25 0 (3 * σ 0 0 7) = (zz % σ 0 0 4) := by rw [su_nk (by decide), su_nk (by decide), su_ne (by omega), su_ne (by omega), su_at]
                      have X25x : (su (su (su (su (su σ 25 0 (3 * σ 0 0 7) (zz % σ 0 0 4)) 25 0 (3 * σ 0 0 7 + 1) (σ 0 0 2 * (1 + zz % 24))) 25 0 (3 * σ 0 0 7 + 2) 0) 30 0 (zz % σ 0 0 4) 1) 29 0 1 (σ 0 0 7 + 1)) 25 0 (3 * σ 0 0 7 + 1) = (σ 0 0 2 * (1 + zz % 24)) := by rw [su_nk (by decide), su_nk (by decide), su_ne (by omega), su_at]
                      have X25f : (su (su (su (su (su σ 25 0 (3 * σ 0 0 7) (zz % σ 0 0 4)) 25 0 (3 * σ 0 0 7 + 1) (σ 0 0 2 * (1 + zz % 24))) 25 0 (3 * σ 0 0 7 + 2) 0) 30 0 (zz % σ 0 0 4) 1) 29 0 1 (σ 0 0 7 + 1)) 25 0 (3 * σ 0 0 7 + 2) = 0 := by rw [su_nk (by decide), su_nk (by decide), su_at]
                      have X30 : (su (su (su (su (su σ 25 0 (3 * σ 0 0 7) (zz % σ 0 0 4)) 25 0 (3 * σ 0 0 7 + 1) (σ 0 0 2 * (1 + zz % 24))) 25 0 (3 * σ 0 0 7 + 2) 0) 30 0 (zz % σ 0 0 4) 1) 29 0 1 (σ 0 0 7 + 1)) 30 0 (zz % σ 0 0 4) = 1 := by rw [su_nk (by decide), su_at]
                      have X29 : (su (su (su (su (su σ 25 0 (3 * σ 0 0 7) (zz % σ 0 0 4)) 25 0 (3 * σ 0 0 7 + 1) (σ 0 0 2 * (1 + zz % 24))) 25 0 (3 * σ 0 0 7 + 2) 0) 30 0 (zz % σ 0 0 4) 1) 29 0 1 (σ 0 0 7 + 1)) 29 0 1 = σ 0 0 7 + 1 := su_at
                      have hQ : ∀ (a : Nat) (b c : Int), 22 ≤ a → a < 31 → ¬ ((a = 25 ∧ 3 * σ 0 0 7 ≤ c ∧ c < 3 * σ 0 0 7 + 3) ∨ (a = 30 ∧ c = (zz % σ 0 0 4)) ∨ (a = 29 ∧ c = 1)) → (su (su (su (su (su σ 25 0 (3 * σ 0 0 7) (zz % σ 0 0 4)) 25 0 (3 * σ 0 0 7 + 1) (σ 0 0 2 * (1 + zz % 24))) 25 0 (3 * σ 0 0 7 + 2) 0) 30 0 (zz % σ 0 0 4) 1) 29 0 1 (σ 0 0 7 + 1)) a b c = σ a b c := fun a b c x1 x2 x3 => by rw [su_ne3 (by omega), su_ne3 (by omega), su_ne3 (by omega), su_ne3 (by omega), su_ne3 (by omega)]
                      generalize (su (su (su (su (su σ 25 0 (3 * σ 0 0 7) (zz % σ 0 0 4)) 25 0 (3 * σ 0 0 7 + 1) (σ 0 0 2 * (1 + zz % 24))) 25 0 (3 * σ 0 0 7 + 2) 0) 30 0 (zz % σ 0 0 4) 1) 29 0 1 (σ 0 0 7 + 1)) = SX at GX X25 X25x X25f X30 X29 hQ ⊢
                      have rX := r.cls GX
                      have x4 : SX 0 0 4 = σ 0 0 4 := GX 0 0 4 (by decide) (by decide)
                      have x7 : SX 0 0 7 = σ 0 0 7 := GX 0 0 7 (by decide) (by decide)
                      have x2 : SX 0 0 2 = σ 0 0 2 := GX 0 0 2 (by decide) (by decide)
                      have okk : ∀ τ, Fr (adV SX (zz % σ 0 0 4) (σ 0 0 2 * (1 + zz % 24))) τ (zz % σ 0 0 4) → ac τ (zz % σ 0 0 4) = stepS (shf SX) (SX 12 (zz % σ 0 0 4) 0) (SX 0 0 7) (σ 0 0 2 * (1 + zz % 24)) (ac SX (zz % σ 0 0 4)) → Inv τ := fun τ F E => enter_ok iv hwz (by omega) (by omega) (by omega) GX hQ X25 X25x X25f X30 X29 F E
                      have q29 : ∀ τ, Fr (adV SX (zz % σ 0 0 4) (σ 0 0 2 * (1 + zz % 24))) τ (zz % σ 0 0 4) → τ 29 0 1 = σ 0 0 7 + 1 := fun τ F => by
                        rw [F 29 0 1 (by decide) (by omega)]
                        unfold adV
                        rw [su_nk (by decide), su_nk (by decide), su_nk (by decide), su_nk (by decide)]
                        exact X29
                      refine J_iload15 C dL_acts_519 ?_
                      refine J_if_eq (tgt := 540) C (by omega) dL_acts_521 (by decide) (fun c_521 => ?_) (fun c_521 => ?_)
                      · exact absurd c_521 (by decide)
                      · refine J_aload_0 C dL_acts_524 ?_
                        refine J_iload12 C dL_acts_525 ?_
                        refine J_iconst C dL_acts_527 ?_
                        refine J_iload11 C dL_acts_528 ?_
                        refine J_bipush C (by decide) dL_acts_530 ?_
                        refine J_irem C (by omega) (by omega) dL_acts_532 ?_
                        refine J_iadd C dL_acts_533 ?_
                        refine J_KWI C (c_L_entered hfl hI _ (zz % σ 0 0 4) (1 + zz % 24) rX.hwc rX.hvc (by omega) (by omega) rX.hsh rX.hall rX.hoh (by rw [x4]; omega)) (vx_cwSW 3 C.1.2.2.2.2 gL_acts_L_entered rfl rfl rfl (by decide +kernel) ⟨Nat.le_of_ble_eq_true rfl, Nat.le_of_ble_eq_true rfl⟩) rfl rfl (Nat.le_of_ble_eq_true rfl) dL_acts_534 ⟨Nat.le_of_ble_eq_true rfl, Nat.le_of_ble_eq_true rfl⟩ (fun z_534 σ_534 hp => ?_)
                        have hen : z_534 = σ 0 0 7 ∧ Fr (adV SX (zz % σ 0 0 4) (σ 0 0 2 * (1 + zz % 24))) σ_534 (zz % σ 0 0 4) ∧ ac σ_534 (zz % σ 0 0 4) = stepS (shf SX) (SX 12 (zz % σ 0 0 4) 0) (SX 0 0 7) (σ 0 0 2 * (1 + zz % 24)) (ac SX (zz % σ 0 0 4)) := by
                          rcases hp with ⟨h1, h2, h3, _⟩ | ⟨h1, h2, h3, h4⟩
                          · rw [x2] at h2 h3
                            exact ⟨by omega, h2, h3⟩
                          · exact absurd ⟨by omega, by omega⟩ h4
                        obtain ⟨hz9, hF, hE⟩ := hen
                        have ivn := okk _ hF hE
                        refine J_goto (tgt := 564) C dL_acts_537 (by decide) ?_
                        refine J_aload8 C dL_acts_564 ?_
                        refine J_iconst C dL_acts_566 ?_
                        refine J_iaload C (k29 x29) (by decide) (by omega) dL_acts_567 ?_
                        refine J_iconst C dL_acts_568 ?_
                        refine J_isub C dL_acts_569 ?_
                        refine J_icmp_neS (tgt := 577) C (by
                          rw [hz9, q29 _ hF]
                          omega
                          ) dL_acts_570 (by decide) ?_
                        refine J_iconst C dL_acts_573 ?_
                        refine J_goto (tgt := 578) C dL_acts_574 (by decide) ?_
                        refine J_retZ C hr (by exact Or.inr rfl) (by decide) (by decide) dL_acts_578 ?_
                        exact ⟨rfl, ivn⟩
                    · exact absurd c_496 (by decide)
                · refine J_aload_0 C dL_acts_416 ?_
                  refine J_iload12 C dL_acts_417 ?_
                  refine J_iconst C dL_acts_419 ?_
                  refine J_iload11 C dL_acts_420 ?_
                  refine J_bipush C (by decide) dL_acts_422 ?_
                  refine J_irem C (by omega) (by omega) dL_acts_424 ?_
                  refine J_iadd C dL_acts_425 ?_
                  refine J_KWI C (c_L_entered hfl hI _ (zz % σ 0 0 4) (1 + zz % 24) r.hwc r.hvc (by omega) (by omega) r.hsh r.hall r.hoh (by omega)) (vx_cwSW 3 C.1.2.2.2.2 gL_acts_L_entered rfl rfl rfl (by decide +kernel) ⟨Nat.le_of_ble_eq_true rfl, Nat.le_of_ble_eq_true rfl⟩) rfl rfl (Nat.le_of_ble_eq_true rfl) dL_acts_426 ⟨Nat.le_of_ble_eq_true rfl, Nat.le_of_ble_eq_true rfl⟩ (fun z_426 σ_426 hp => ?_)
                  have hen : z_426 = -2 ∧ σ_426 = σ := by
                    rcases hp with ⟨_, _, _, _, _, h6⟩ | ⟨h1, h2, _⟩
                    · exact absurd c_413 h6
                    · exact ⟨h1, h2⟩
                  refine J_bipush C (by decide) dL_acts_429 ?_
                  refine J_icmp_neS (tgt := 438) C (by
                    exact hen.1
                    ) dL_acts_431 (by decide) ?_
                  refine J_iconst C dL_acts_434 ?_
                  refine J_goto (tgt := 439) C dL_acts_435 (by decide) ?_
                  refine J_retZ C hr (by exact Or.inr rfl) (by decide) (by decide) dL_acts_439 ?_
                  exact ⟨rfl, by rw [hen.2]; exact iv⟩
          · refine J_iconst C dL_acts_383 ?_
            refine J_goto (tgt := 388) C dL_acts_384 (by decide) ?_
            refine J_istore14 C (by decide) rfl dL_acts_388 ?_
            refine J_iload10 C dL_acts_390 ?_
            refine J_bipush C (by decide) dL_acts_392 ?_
            refine J_icmp_ne (tgt := 401) C (by omega) (by omega) dL_acts_394 (by decide) (fun c_394 => ?_) (fun c_394 => ?_)
            · refine J_iconst C dL_acts_401 ?_
              refine J_istore15 C (by decide) rfl dL_acts_402 ?_
              refine J_iload15 C dL_acts_404 ?_
              refine J_if_eq (tgt := 440) C (by omega) dL_acts_406 (by decide) (fun c_406 => ?_) (fun c_406 => ?_)
              · refine J_aload4 C dL_acts_440 ?_
                refine J_iconst C dL_acts_442 ?_
                refine J_aload8 C dL_acts_443 ?_
                refine J_iconst C dL_acts_445 ?_
                refine J_iaload C (k29 x29) (by decide) (by omega) dL_acts_446 ?_
                rw [lm.2.1]
                refine J_imul C dL_acts_447 ?_
                refine J_iload12 C dL_acts_448 ?_
                refine J_iastore C (k25 x25) (by decide) (by omega) dL_acts_450 ?_
                refine J_aload4 C dL_acts_451 ?_
                refine J_iconst C dL_acts_453 ?_
                refine J_aload8 C dL_acts_454 ?_
                refine J_iconst C dL_acts_456 ?_
                refine J_iaload C (k29 x29) (by decide) (by omega) dL_acts_457 ?_
                rw [su_nk (by decide), lm.2.1]
                refine J_imul C dL_acts_458 ?_
                refine J_iconst C dL_acts_459 ?_
                refine J_iadd C dL_acts_460 ?_
                refine J_iload15 C dL_acts_461 ?_
                refine J_if_eq (tgt := 481) C (by omega) dL_acts_463 (by decide) (fun c_463 => ?_) (fun c_463 => ?_)
                · refine J_iload13 C dL_acts_481 ?_
                  refine J_iastore C (k25 x25) (by decide) (by omega) dL_acts_483 ?_
                  refine J_aload4 C dL_acts_484 ?_
                  refine J_iconst C dL_acts_486 ?_
                  refine J_aload8 C dL_acts_487 ?_
                  refine J_iconst C dL_acts_489 ?_
                  refine J_iaload C (k29 x29) (by decide) (by omega) dL_acts_490 ?_
                  rw [su_nk (by decide), su_nk (by decide), lm.2.1]
                  refine J_imul C dL_acts_491 ?_
                  refine J_iconst C dL_acts_492 ?_
                  refine J_iadd C dL_acts_493 ?_
                  refine J_iload14 C dL_acts_494 ?_
                  refine J_if_eq (tgt := 503) C (by omega) dL_acts_496 (by decide) (fun c_496 => ?_) (fun c_496 => ?_)
                  · exact absurd c_496 (by decide)
                  · refine J_iconst C dL_acts_499 ?_
                    refine J_goto (tgt := 504) C dL_acts_500 (by decide) ?_
                    refine J_iastore C (k25 x25) (by decide) (by omega) dL_acts_504 ?_
                    refine J_aload9 C dL_acts_505 ?_
                    refine J_iload12 C dL_acts_507 ?_
                    refine J_iconst C dL_acts_509 ?_
                    refine J_iastore C (k30 x30) (by decide) (by omega) dL_acts_510 ?_
                    refine J_aload8 C dL_acts_511 ?_
                    refine J_iconst C dL_acts_513 ?_
                    refine J_dup2 C rfl rfl dL_acts_514 ?_
                    refine J_iaload C (k29 x29) (by decide) (by omega) dL_acts_515 ?_
                    rw [su_nk (by decide), su_nk (by decide), su_nk (by decide), su_nk (by decide), lm.2.1]
                    refine J_iconst C dL_acts_516 ?_
                    refine J_iadd C dL_acts_517 ?_
                    refine J_iastore C (k29 x29) (by decide) (by omega) dL_acts_518 ?_
                    have GX : EqC σ (su (su (su (su (su σ 25 0 (3 * σ 0 0 7) (zz % σ 0 0 4)) 25 0 (3 * σ 0 0 7 + 1) am) 25 0 (3 * σ 0 0 7 + 2) 1) 30 0 (zz % σ 0 0 4) 1) 29 0 1 (σ 0 0 7 + 1)) := fun a b c x1 x2 => by rw [su_nk (by omega), su_nk (by omega), su_nk (by omega), su_nk (by omega), su_nk (by omega)]
                    have X25 : (su (su (su (su (su σ 25 0 (3 * σ 0 0 7) (zz % σ 0 0 4)) 25 0 (3 * σ 0 0 7 + 1) am) 25 0 (3 * σ 0 0 7 + 2) 1) 30 0 (zz % σ 0 0 4) 1) 29 0 1 (σ 0 0 7 + 1)) 25 0 (3 * σ 0 0 7) = (zz % σ 0 0 4) := by rw [su_nk (by decide), su_nk (by decide), su_ne (by omega), su_ne (by omega), su_at]
                    have X25x : (su (su (su (su (su σ 25 0 (3 * σ 0 0 7) (zz % σ 0 0 4)) 25 0 (3 * σ 0 0 7 + 1) am) 25 0 (3 * σ 0 0 7 + 2) 1) 30 0 (zz % σ 0 0 4) 1) 29 0 1 (σ 0 0 7 + 1)) 25 0 (3 * σ 0 0 7 + 1) = am := by rw [su_nk (by decide), su_nk (by decide), su_ne (by omega), su_at]
                    have X25f : (su (su (su (su (su σ 25 0 (3 * σ 0 0 7) (zz % σ 0 0 4)) 25 0 (3 * σ 0 0 7 + 1) am) 25 0 (3 * σ 0 0 7 + 2) 1) 30 0 (zz % σ 0 0 4) 1) 29 0 1 (σ 0 0 7 + 1)) 25 0 (3 * σ 0 0 7 + 2) = 1 := by rw [su_nk (by decide), su_nk (by decide), su_at]
                    have X30 : (su (su (su (su (su σ 25 0 (3 * σ 0 0 7) (zz % σ 0 0 4)) 25 0 (3 * σ 0 0 7 + 1) am) 25 0 (3 * σ 0 0 7 + 2) 1) 30 0 (zz % σ 0 0 4) 1) 29 0 1 (σ 0 0 7 + 1)) 30 0 (zz % σ 0 0 4) = 1 := by rw [su_nk (by decide), su_at]
                    have X29 : (su (su (su (su (su σ 25 0 (3 * σ 0 0 7) (zz % σ 0 0 4)) 25 0 (3 * σ 0 0 7 + 1) am) 25 0 (3 * σ 0 0 7 + 2) 1) 30 0 (zz % σ 0 0 4) 1) 29 0 1 (σ 0 0 7 + 1)) 29 0 1 = σ 0 0 7 + 1 := su_at
                    have hQ : ∀ (a : Nat) (b c : Int), 22 ≤ a → a < 31 → ¬ ((a = 25 ∧ 3 * σ 0 0 7 ≤ c ∧ c < 3 * σ 0 0 7 + 3) ∨ (a = 30 ∧ c = (zz % σ 0 0 4)) ∨ (a = 29 ∧ c = 1)) → (su (su (su (su (su σ 25 0 (3 * σ 0 0 7) (zz % σ 0 0 4)) 25 0 (3 * σ 0 0 7 + 1) am) 25 0 (3 * σ 0 0 7 + 2) 1) 30 0 (zz % σ 0 0 4) 1) 29 0 1 (σ 0 0 7 + 1)) a b c = σ a b c := fun a b c x1 x2 x3 => by rw [su_ne3 (by omega), su_ne3 (by omega), su_ne3 (by omega), su_ne3 (by omega), su_ne3 (by omega)]
                    generalize (su (su (su (su (su σ 25 0 (3 * σ 0 0 7) (zz % σ 0 0 4)) 25 0 (3 * σ 0 0 7 + 1) am) 25 0 (3 * σ 0 0 7 + 2) 1) 30 0 (zz % σ 0 0 4) 1) 29 0 1 (σ 0 0 7 + 1)) = SX at GX X25 X25x X25f X30 X29 hQ ⊢
                    have rX := r.cls GX
                    have x4 : SX 0 0 4 = σ 0 0 4 := GX 0 0 4 (by decide) (by decide)
                    have x7 : SX 0 0 7 = σ 0 0 7 := GX 0 0 7 (by decide) (by decide)
                    have x2 : SX 0 0 2 = σ 0 0 2 := GX 0 0 2 (by decide) (by decide)
                    have okk : ∀ τ, Fr (adV SX (zz % σ 0 0 4) (-am)) τ (zz % σ 0 0 4) → ac τ (zz % σ 0 0 4) = stepS (shf SX) (SX 12 (zz % σ 0 0 4) 0) (SX 0 0 7) (-am) (ac SX (zz % σ 0 0 4)) → Inv τ := fun τ F E => enter_ok iv hwz (by omega) (by omega) (by omega) GX hQ X25 X25x X25f X30 X29 F E
                    have q29 : ∀ τ, Fr (adV SX (zz % σ 0 0 4) (-am)) τ (zz % σ 0 0 4) → τ 29 0 1 = σ 0 0 7 + 1 := fun τ F => by
                      rw [F 29 0 1 (by decide) (by omega)]
                      unfold adV
                      rw [su_nk (by decide), su_nk (by decide), su_nk (by decide), su_nk (by decide)]
                      exact X29
                    refine J_iload15 C dL_acts_519 ?_
                    refine J_if_eq (tgt := 540) C (by omega) dL_acts_521 (by decide) (fun c_521 => ?_) (fun c_521 => ?_)
                    · refine J_iload14 C dL_acts_540 ?_
                      refine J_if_eq (tgt := 556) C (by omega) dL_acts_542 (by decide) (fun c_542 => ?_) (fun c_542 => ?_)
                      · exact absurd c_542 (by decide)
                      · refine J_aload_0 C dL_acts_545 ?_
                        refine J_iload12 C dL_acts_546 ?_
                        refine J_iload13 C dL_acts_548 ?_
                        refine J_XVI C (c_X3_income hfl hI _ (zz % σ 0 0 4) am rX.hwc rX.hvc (by omega) (by omega) rX.hsh rX.hall) (cwV 2 C.1.2.2.2.2 gL_acts_X3_income rfl rfl rfl (by decide +kernel) ⟨Nat.le_of_ble_eq_true rfl, Nat.le_of_ble_eq_true rfl⟩) rc3 (by decide) rfl rfl (Nat.le_of_ble_eq_true rfl) dL_acts_550 ⟨Nat.le_of_ble_eq_true rfl, Nat.le_of_ble_eq_true rfl⟩ (fun E σ_550 hx => ?_) (fun z_550 σ_550 hp => ?_)
                        · skip
                          obtain ⟨_, hx⟩ := hx
                          rcases hx with ⟨_, hx⟩ | ⟨_, hx⟩ | ⟨_, hx⟩
                          · exact absurd (by omega) hx
                          · exact absurd (by omega) hx.2
                          · exact absurd (by omega) hx.2
                        obtain ⟨hz9, hF, hE, _⟩ := hp
                        rw [x7] at hz9
                        have ivn := okk _ hF hE
                        refine J_goto (tgt := 564) C dL_acts_553 (by decide) ?_
                        refine J_aload8 C dL_acts_564 ?_
                        refine J_iconst C dL_acts_566 ?_
                        refine J_iaload C (k29 x29) (by decide) (by omega) dL_acts_567 ?_
                        refine J_iconst C dL_acts_568 ?_
                        refine J_isub C dL_acts_569 ?_
                        refine J_icmp_neS (tgt := 577) C (by
                          rw [hz9, q29 _ hF]
                          omega
                          ) dL_acts_570 (by decide) ?_
                        refine J_iconst C dL_acts_573 ?_
                        refine J_goto (tgt := 578) C dL_acts_574 (by decide) ?_
                        refine J_retZ C hr (by exact Or.inr rfl) (by decide) (by decide) dL_acts_578 ?_
                        exact ⟨rfl, ivn⟩
                    · exact absurd c_521 (by decide)
                · exact absurd c_463 (by decide)
              · exact absurd c_406 (by decide)
            · exfalso; omega
        refine J_iconst C dL_acts_352 ?_
        refine J_iload11 C dL_acts_353 ?_
        refine J_iconst C dL_acts_355 ?_
        refine J_idiv C (by omega) (by omega) dL_acts_356 ?_
        refine J_iload11 C dL_acts_357 ?_
        refine J_iconst C dL_acts_359 ?_
        refine J_irem C (by omega) (by omega) dL_acts_360 ?_
        refine J_if_ne (tgt := 369) C (by omega) dL_acts_361 (by decide) (fun c_361 => ?_) (fun c_361 => ?_)
        · refine J_sipush C (by decide) dL_acts_369 ?_
          refine J_irem C (by omega) (by omega) dL_acts_372 ?_
          refine J_iadd C dL_acts_373 ?_
          -- to the cut at 374
          refine K_374 _ ?_
          · omega
        · refine J_bipush C (by decide) dL_acts_364 ?_
          refine J_goto (tgt := 372) C dL_acts_366 (by decide) ?_
          refine J_irem C (by omega) (by omega) dL_acts_372 ?_
          refine J_iadd C dL_acts_373 ?_
          -- to the cut at 374
          refine K_374 _ ?_
          · omega
  have K_145 : JW p l e ({ frames := 10, cells := 77, slots := 411, locals := 190 } : Room) s m args below meth c cy D ad (Ar ad s.heap.size) 18 0 0 (MQ below (QcI cy D ad (fun z σ' => z = 1 ∧ Inv σ') s.heap.size) args s 77 411 (Ar ad s.heap.size)) σ 145 [some (.ref (ad 0 0)), some (.ref (ad 22 0)), some (.ref (ad 23 0)), some (.ref (ad 24 0)), some (.ref (ad 25 0)), some (.ref (ad 26 0)), some (.ref (ad 27 0)), some (.ref (ad 28 0)), some (.ref (ad 29 0)), some (.ref (ad 30 0)), some (.int (iI way)), some (.int (iI zz)), some (.int (iI ((zz % σ 0 0 4)))), none, none, none, none, none] [] := by
    refine J_iload10 C dL_acts_145 ?_
    refine J_bipush C (by decide) dL_acts_147 ?_
    refine J_icmp_ge (tgt := 336) C (by omega) (by omega) dL_acts_149 (by decide) (fun c_149 => ?_) (fun c_149 => ?_)
    · -- to the cut at 336
      refine K_336  
    · have K_175 : ∀ (b : Int), (b = 0 ∨ b = 1) → JW p l e ({ frames := 10, cells := 77, slots := 411, locals := 190 } : Room) s m args below meth c cy D ad (Ar ad s.heap.size) 18 0 0 (MQ below (QcI cy D ad (fun z σ' => z = 1 ∧ Inv σ') s.heap.size) args s 77 411 (Ar ad s.heap.size)) σ 175 [some (.ref (ad 0 0)), some (.ref (ad 22 0)), some (.ref (ad 23 0)), some (.ref (ad 24 0)), some (.ref (ad 25 0)), some (.ref (ad 26 0)), some (.ref (ad 27 0)), some (.ref (ad 28 0)), some (.ref (ad 29 0)), some (.ref (ad 30 0)), some (.int (iI way)), some (.int (iI zz)), some (.int (iI ((zz % σ 0 0 4)))), some (.int (iI ((zz / 3 % 5)))), none, none, none, none] [.int (iI b)] := by
        intro b hb0
        refine J_istore14 C (by decide) rfl dL_acts_175 ?_
        have K_183 : ∀ (n_ : Nat) (i : Int) (ot : Int), (0 ≤ i) → (i ≤ 5) → (5 - i < n_) → (∃ j : Nat, i = (j : Int) ∧ ot = sN (oth σ (zz % σ 0 0 4) (zz / 3 % 5)) j) → JW p l e ({ frames := 10, cells := 77, slots := 411, locals := 190 } : Room) s m args below meth c cy D ad (Ar ad s.heap.size) 18 0 0 (MQ below (QcI cy D ad (fun z σ' => z = 1 ∧ Inv σ') s.heap.size) args s 77 411 (Ar ad s.heap.size)) σ 183 [some (.ref (ad 0 0)), some (.ref (ad 22 0)), some (.ref (ad 23 0)), some (.ref (ad 24 0)), some (.ref (ad 25 0)), some (.ref (ad 26 0)), some (.ref (ad 27 0)), some (.ref (ad 28 0)), some (.ref (ad 29 0)), some (.ref (ad 30 0)), some (.int (iI way)), some (.int (iI zz)), some (.int (iI ((zz % σ 0 0 4)))), some (.int (iI ((zz / 3 % 5)))), some (.int (iI b)), some (.int (iI ot)), some (.int (iI i)), none] [] := by
          intro n_
          induction n_ with
          | zero => intro i ot g0 g1 g2 g3; omega
          | succ n_ ih_183 =>
            intro i ot g0 g1 g2 g3
            obtain ⟨j, rfl, rfl⟩ := g3
            refine J_iload16 C dL_acts_183 ?_
            refine J_iconst C dL_acts_185 ?_
            refine J_icmp_ge (tgt := 231) C (by omega) (by omega) dL_acts_186 (by decide) (fun c_186 => ?_) (fun c_186 => ?_)
            · have K_261 : ∀ (cn : Int), (cn = 0 ∨ cn = 1) → (cn = 1 ↔ (σ 12 (zz % σ 0 0 4) 1 = 0 ∧ 0 < σ 1 0 (zz / 3 % 5) ∧ (b = 0 → 0 < s5 (oth σ (zz % σ 0 0 4) (zz / 3 % 5))))) → JW p l e ({ frames := 10, cells := 77, slots := 411, locals := 190 } : Room) s m args below meth c cy D ad (Ar ad s.heap.size) 18 0 0 (MQ below (QcI cy D ad (fun z σ' => z = 1 ∧ Inv σ') s.heap.size) args s 77 411 (Ar ad s.heap.size)) σ 261 [some (.ref (ad 0 0)), some (.ref (ad 22 0)), some (.ref (ad 23 0)), some (.ref (ad 24 0)), some (.ref (ad 25 0)), some (.ref (ad 26 0)), some (.ref (ad 27 0)), some (.ref (ad 28 0)), some (.ref (ad 29 0)), some (.ref (ad 30 0)), some (.int (iI way)), some (.int (iI zz)), some (.int (iI ((zz % σ 0 0 4)))), some (.int (iI ((zz / 3 % 5)))), some (.int (iI b)), some (.int (iI (s5 (oth σ (zz % σ 0 0 4) (zz / 3 % 5))))), none, none] [.int (iI cn)] := by
                intro cn v0 v1
                refine J_istore16 C (by decide) rfl dL_acts_261 ?_
                have K_302 : ∀ (v9 : Int), (v9 = if cn = 1 then 1 - b else σ 13 (zz % σ 0 0 4) (zz / 3 % 5)) → JW p l e ({ frames := 10, cells := 77, slots := 411, locals := 190 } : Room) s m args below meth c cy D ad (Ar ad s.heap.size) 18 0 0 (MQ below (QcI cy D ad (fun z σ' => z = 1 ∧ Inv σ') s.heap.size) args s 77 411 (Ar ad s.heap.size)) σ 302 [some (.ref (ad 0 0)), some (.ref (ad 22 0)), some (.ref (ad 23 0)), some (.ref (ad 24 0)), some (.ref (ad 25 0)), some (.ref (ad 26 0)), some (.ref (ad 27 0)), some (.ref (ad 28 0)), some (.ref (ad 29 0)), some (.ref (ad 30 0)), some (.int (iI way)), some (.int (iI zz)), some (.int (iI ((zz % σ 0 0 4)))), some (.int (iI ((zz / 3 % 5)))), some (.int (iI b)), some (.int (iI (s5 (oth σ (zz % σ 0 0 4) (zz / 3 % 5))))), some (.int (iI cn)), some (.int (iI (σ 13 (zz % σ 0 0 4) (zz / 3 % 5))))] [.int (iI v9), .int (iI (5 * (zz % σ 0 0 4) + (zz / 3 % 5))), .ref (ad 23 0)] := by
                  intro v9 w0
                  refine J_iastore C (k23 x23) (by decide) (by omega) dL_acts_302 ?_
                  have GX : EqC σ (su σ 23 0 (5 * (zz % σ 0 0 4) + (zz / 3 % 5)) v9) := fun a b c x1 x2 => su_nk (by omega)
                  have rX := r.cls GX
                  have x4 := GX 0 0 4 (by decide) (by decide)
                  generalize hXs : su σ 23 0 (5 * (zz % σ 0 0 4) + (zz / 3 % 5)) v9 = SX at GX rX x4 ⊢
                  have hXs := hXs.symm
                  refine J_aload_0 C dL_acts_303 ?_
                  refine J_iload12 C dL_acts_304 ?_
                  refine J_iload13 C dL_acts_306 ?_
                  refine J_iload14 C dL_acts_308 ?_
                  refine J_KWI C (c_L_elected hfl hI _ _ _ _ rX.hwc (by omega) (by omega) hb0 rX.hf rX.hf3 rX.hs rX.hhd (by rw [x4]; omega)) (vx_cwSW 4 C.1.2.2.2.2 gL_acts_L_elected rfl rfl rfl (by decide +kernel) ⟨Nat.le_of_ble_eq_true rfl, Nat.le_of_ble_eq_true rfl⟩) rfl rfl (Nat.le_of_ble_eq_true rfl) dL_acts_310 ⟨Nat.le_of_ble_eq_true rfl, Nat.le_of_ble_eq_true rfl⟩ (fun z_310 σ_310 hp => ?_)
                  skip
                  have hq0 : 0 ≤ (zz / 3 % 5) ∧ (zz / 3 % 5) < 5 := by clear hp; omega
                  have hx0 : 1 - b = 0 ∨ 1 - b = 1 := by clear hp; omega
                  have hfin : (cn = 1 → z_310 = 1 - σ 13 (zz % σ 0 0 4) (zz / 3 % 5)) ∧ (cn = 0 → z_310 = -2) ∧ Inv σ_310 := by
                    have h13 := r.hf3 (zz % σ 0 0 4) (zz / 3 % 5) hwz.1 (by omega) (by omega) (by omega)
                    have hsP := r.hs (zz / 3 % 5) (by omega) (by omega)
                    have hre := lw.2.2.2.1 (zz % σ 0 0 4) (zz / 3 % 5) (by omega) (by omega) (by omega) (by omega)
                    have hexq : σ 12 (zz % σ 0 0 4) 1 = 0 → ((∃ q', 0 ≤ q' ∧ q' < 5 ∧ q' ≠ (zz / 3 % 5) ∧ SX 14 (zz % σ 0 0 4) q' = 0 ∧ 0 < SX 1 0 q') ↔ 0 < s5 (oth σ (zz % σ 0 0 4) (zz / 3 % 5))) := fun h0 => by
                      rw [oth_pos]
                      have e14 := r.e14 hwz.1 (by omega) h0
                      constructor
                      · rintro ⟨k, a, b, c, d, f⟩
                        exact ⟨k, a, b, c, by rw [← e14 k a b, ← GX 14 _ _ (by decide) (by decide)]; exact d, by rw [← GX 1 _ _ (by decide) (by decide)]; exact f⟩
                      · rintro ⟨k, a, b, c, d, f⟩
                        exact ⟨k, a, b, c, by rw [GX 14 _ _ (by decide) (by decide), e14 k a b]; exact d, by rw [GX 1 _ _ (by decide) (by decide)]; exact f⟩
                    have y12 := GX 12 (zz % σ 0 0 4) 1 (by decide) (by decide)
                    have y1 := GX 1 0 (zz / 3 % 5) (by decide) (by decide)
                    have y13 := GX 13 (zz % σ 0 0 4) (zz / 3 % 5) (by decide) (by decide)
                    rcases hp with ⟨h1, h2, h3, h4, h5, h6⟩ | ⟨h1, h2, h3, h4⟩
                    · have hn0 : σ 12 (zz % σ 0 0 4) 1 = 0 := y12.symm.trans h4
                      have hP0 : 0 < σ 1 0 (zz / 3 % 5) := Int.lt_iff_le_and_ne.mpr ⟨hsP.1, fun z => h5 (y1.trans z.symm)⟩
                      have hc1 : cn = 1 := v1.mpr ⟨hn0, hP0, fun hb => (hexq hn0).mp (h6 hb)⟩
                      rw [y13] at h1
                      refine ⟨fun _ => by rw [h1]; rcases h13 with e | e; rw [if_pos e, e]; rfl; rw [if_neg (by rw [e]; decide), e]; rfl, fun z => absurd z (by rw [hc1]; decide), ?_⟩
                      rw [if_pos hc1] at w0
                      have hX : Eqx (fun a b c => (a = 13 ∧ b = (zz % σ 0 0 4) ∧ c = (zz / 3 % 5)) ∨ (a = 14 ∧ b = (zz % σ 0 0 4) ∧ c = (zz / 3 % 5)) ∨ (a = 23 ∧ c = 5 * (zz % σ 0 0 4) + (zz / 3 % 5))) σ σ_310 := fun a b' c x1 x2 x3 => by
                        rw [h2, su_ne3 (by omega), su_ne3 (by omega), hXs, su_ne3 (by omega)]
                      have s13 : σ_310 13 (zz % σ 0 0 4) (zz / 3 % 5) = 1 - b := by rw [h2, su_nk (by decide), su_at]
                      have s14 : σ_310 14 (zz % σ 0 0 4) (zz / 3 % 5) = 1 - b := by rw [h2, su_at]
                      have s23 : σ_310 23 0 (5 * (zz % σ 0 0 4) + (zz / 3 % 5)) = 1 - b := by rw [h2, su_nk (by decide), su_nk (by decide), hXs, su_at, w0]
                      exact ⟨r.t_elect (x0 := 1 - b) hwz hq0 hx0 hn0 hP0 (fun z => by
                        obtain ⟨k, a, b', c, d, f⟩ := oth_pos.mp ((hexq hn0).mp (h6 (by clear h6 hexq; omega)))
                        exact ⟨k, a, b', c, d, f⟩) hX s13 s14, lw.t_elect hwz hq0 hX (by rw [s23, s13])⟩
                    · have hc0 : ¬ cn = 1 := fun z => by
                        have hc1 := v1.mp z
                        exact h4 ⟨y12.trans hc1.1, fun e => absurd (y1.symm.trans e) (by have := hc1.2.1; clear h4 hexq; omega), fun hb => (hexq hc1.1).mpr (hc1.2.2 hb)⟩
                      refine ⟨fun z => absurd z hc0, fun _ => h1, ?_⟩
                      rw [if_neg hc0] at w0
                      rw [h2, hXs, su_self (by rw [hre, w0])]
                      exact iv
                  clear hp
                  refine J_iload16 C dL_acts_313 ?_
                  refine J_if_eq (tgt := 325) C (by omega) dL_acts_315 (by decide) (fun c_315 => ?_) (fun c_315 => ?_)
                  · refine J_bipush C (by decide) dL_acts_325 ?_
                    refine J_icmp_neS (tgt := 334) C (by
                      first
                        | exact hfin.1 (by omega)
                        | exact hfin.2.1 (by omega)
                      ) dL_acts_327 (by decide) ?_
                    refine J_iconst C dL_acts_330 ?_
                    refine J_goto (tgt := 335) C dL_acts_331 (by decide) ?_
                    refine J_retZ C hr (by exact Or.inr rfl) (by decide) (by decide) dL_acts_335 ?_
                    exact ⟨rfl, hfin.2.2⟩
                  · refine J_iconst C dL_acts_318 ?_
                    refine J_iload17 C dL_acts_319 ?_
                    refine J_isub C dL_acts_321 ?_
                    refine J_goto (tgt := 327) C dL_acts_322 (by decide) ?_
                    refine J_icmp_neS (tgt := 334) C (by
                      first
                        | exact hfin.1 (by omega)
                        | exact hfin.2.1 (by omega)
                      ) dL_acts_327 (by decide) ?_
                    refine J_iconst C dL_acts_330 ?_
                    refine J_goto (tgt := 335) C dL_acts_331 (by decide) ?_
                    refine J_retZ C hr (by exact Or.inr rfl) (by decide) (by decide) dL_acts_335 ?_
                    exact ⟨rfl, hfin.2.2⟩
                refine J_aload_2 C dL_acts_263 ?_
                refine J_iconst C dL_acts_264 ?_
                refine J_iload12 C dL_acts_265 ?_
                refine J_imul C dL_acts_267 ?_
                refine J_iload13 C dL_acts_268 ?_
                refine J_iadd C dL_acts_270 ?_
                refine J_iaload C (k23 x23) (by decide) (by omega) dL_acts_271 ?_
                rw [lw.2.2.2.1 (zz % σ 0 0 4) (zz / 3 % 5) (by omega) (by omega) (by omega) (by omega)]
                refine J_istore17 C (by decide) rfl dL_acts_272 ?_
                refine J_aload_2 C dL_acts_274 ?_
                refine J_iconst C dL_acts_275 ?_
                refine J_iload12 C dL_acts_276 ?_
                refine J_imul C dL_acts_278 ?_
                refine J_iload13 C dL_acts_279 ?_
                refine J_iadd C dL_acts_281 ?_
                refine J_iload16 C dL_acts_282 ?_
                refine J_if_eq (tgt := 300) C (by omega) dL_acts_284 (by decide) (fun c_284 => ?_) (fun c_284 => ?_)
                · refine J_iload17 C dL_acts_300 ?_
                  -- to the cut at 302
                  refine K_302 _ ?_
                  · first
                      | rw [if_neg (by omega)]
                      | (rw [if_pos (by omega)]; omega)
                · refine J_iload14 C dL_acts_287 ?_
                  refine J_if_eq (tgt := 296) C (by omega) dL_acts_289 (by decide) (fun c_289 => ?_) (fun c_289 => ?_)
                  · refine J_iconst C dL_acts_296 ?_
                    refine J_goto (tgt := 302) C dL_acts_297 (by decide) ?_
                    -- to the cut at 302
                    refine K_302 _ ?_
                    · first
                        | rw [if_neg (by omega)]
                        | (rw [if_pos (by omega)]; omega)
                  · refine J_iconst C dL_acts_292 ?_
                    refine J_goto (tgt := 302) C dL_acts_293 (by decide) ?_
                    -- to the cut at 302
                    refine K_302 _ ?_
                    · first
                        | rw [if_neg (by omega)]
                        | (rw [if_pos (by omega)]; omega)
              have e5 : j = 5 := by omega
              subst e5
              rw [sN_5]
              refine J_aload9 C dL_acts_231 ?_
              refine J_iload12 C dL_acts_233 ?_
              refine J_iaload C (k30 x30) (by decide) (by omega) dL_acts_235 ?_
              rw [e30]
              refine J_if_ne (tgt := 260) C (by have := r.hhd (zz % σ 0 0 4) hwz.1 (by omega); omega) dL_acts_236 (by decide) (fun c_236 => ?_) (fun c_236 => ?_)
              · refine J_iconst C dL_acts_260 ?_
                -- to the cut at 261
                refine J_fg16 ?_
                refine K_261 _ ?_ ?_
                · first | exact Or.inl rfl | exact Or.inr rfl
                · constructor <;> omega
              · refine J_aload_1 C dL_acts_239 ?_
                refine J_iload13 C dL_acts_240 ?_
                refine J_iaload C (k22 x22) (by decide) (by omega) dL_acts_242 ?_
                rw [lw.2.2.1 (zz / 3 % 5) (by omega) (by omega)]
                refine J_if_le (tgt := 260) C (by have := r.hs (zz / 3 % 5) (by omega) (by omega); omega) dL_acts_243 (by decide) (fun c_243 => ?_) (fun c_243 => ?_)
                · refine J_iconst C dL_acts_260 ?_
                  -- to the cut at 261
                  refine J_fg16 ?_
                  refine K_261 _ ?_ ?_
                  · first | exact Or.inl rfl | exact Or.inr rfl
                  · constructor <;> omega
                · refine J_iload14 C dL_acts_246 ?_
                  refine J_if_ne (tgt := 256) C (by omega) dL_acts_248 (by decide) (fun c_248 => ?_) (fun c_248 => ?_)
                  · refine J_iconst C dL_acts_256 ?_
                    refine J_goto (tgt := 261) C dL_acts_257 (by decide) ?_
                    -- to the cut at 261
                    refine J_fg16 ?_
                    refine K_261 _ ?_ ?_
                    · first | exact Or.inl rfl | exact Or.inr rfl
                    · constructor <;> omega
                  · refine J_iload15 C dL_acts_251 ?_
                    refine J_if_le (tgt := 260) C (by have := oth_rng σ (zz % σ 0 0 4) (zz / 3 % 5); omega) dL_acts_253 (by decide) (fun c_253 => ?_) (fun c_253 => ?_)
                    · refine J_iconst C dL_acts_260 ?_
                      -- to the cut at 261
                      refine J_fg16 ?_
                      refine K_261 _ ?_ ?_
                      · first | exact Or.inl rfl | exact Or.inr rfl
                      · constructor <;> omega
                    · refine J_iconst C dL_acts_256 ?_
                      refine J_goto (tgt := 261) C dL_acts_257 (by decide) ?_
                      -- to the cut at 261
                      refine J_fg16 ?_
                      refine K_261 _ ?_ ?_
                      · first | exact Or.inl rfl | exact Or.inr rfl
                      · constructor <;> omega
            · refine J_iload15 C dL_acts_189 ?_
              refine J_iload16 C dL_acts_191 ?_
              refine J_iload13 C dL_acts_193 ?_
              refine J_icmp_eq (tgt := 221) C (by omega) (by omega) dL_acts_195 (by decide) (fun c_195 => ?_) (fun c_195 => ?_)
              · refine J_iconst C dL_acts_221 ?_
                refine J_iadd C dL_acts_222 ?_
                refine J_istore15 C (by decide) rfl dL_acts_223 ?_
                refine J_iinc16 C (by decide) rfl dL_acts_225 ?_
                refine J_goto (tgt := 183) C dL_acts_228 (by decide) ?_
                -- to the cut at 183
                refine ih_183 _ _ ?_ ?_ ?_ ?_
                · omega
                · omega
                · omega
                · refine ⟨j + 1, by omega, ?_⟩
                  simp only [sN]
                  have ho : oth σ (zz % σ 0 0 4) (zz / 3 % 5) (j : Int) = if (j : Int) ≠ (zz / 3 % 5) ∧ 0 < σ 1 0 (j : Int) ∧ σ 13 (zz % σ 0 0 4) (j : Int) = 0 then 1 else 0 := rfl
                  split at ho <;> omega
              · refine J_aload_1 C dL_acts_198 ?_
                refine J_iload16 C dL_acts_199 ?_
                refine J_iaload C (k22 x22) (by decide) (by omega) dL_acts_201 ?_
                rw [lw.2.2.1 (j : Int) (by omega) (by omega)]
                refine J_if_le (tgt := 221) C (by have := r.hs (j : Int) (by omega) (by omega); omega) dL_acts_202 (by decide) (fun c_202 => ?_) (fun c_202 => ?_)
                · refine J_iconst C dL_acts_221 ?_
                  refine J_iadd C dL_acts_222 ?_
                  refine J_istore15 C (by decide) rfl dL_acts_223 ?_
                  refine J_iinc16 C (by decide) rfl dL_acts_225 ?_
                  refine J_goto (tgt := 183) C dL_acts_228 (by decide) ?_
                  -- to the cut at 183
                  refine ih_183 _ _ ?_ ?_ ?_ ?_
                  · omega
                  · omega
                  · omega
                  · refine ⟨j + 1, by omega, ?_⟩
                    simp only [sN]
                    have ho : oth σ (zz % σ 0 0 4) (zz / 3 % 5) (j : Int) = if (j : Int) ≠ (zz / 3 % 5) ∧ 0 < σ 1 0 (j : Int) ∧ σ 13 (zz % σ 0 0 4) (j : Int) = 0 then 1 else 0 := rfl
                    split at ho <;> omega
                · refine J_aload_2 C dL_acts_205 ?_
                  refine J_iconst C dL_acts_206 ?_
                  refine J_iload12 C dL_acts_207 ?_
                  refine J_imul C dL_acts_209 ?_
                  refine J_iload16 C dL_acts_210 ?_
                  refine J_iadd C dL_acts_212 ?_
                  refine J_iaload C (k23 x23) (by decide) (by omega) dL_acts_213 ?_
                  rw [lw.2.2.2.1 (zz % σ 0 0 4) (j : Int) (by omega) (by omega) (by omega) (by omega)]
                  refine J_if_ne (tgt := 221) C (by have := r.hf3 (zz % σ 0 0 4) (j : Int) hwz.1 (by omega) (by omega) (by omega); omega) dL_acts_214 (by decide) (fun c_214 => ?_) (fun c_214 => ?_)
                  · refine J_iconst C dL_acts_221 ?_
                    refine J_iadd C dL_acts_222 ?_
                    refine J_istore15 C (by decide) rfl dL_acts_223 ?_
                    refine J_iinc16 C (by decide) rfl dL_acts_225 ?_
                    refine J_goto (tgt := 183) C dL_acts_228 (by decide) ?_
                    -- to the cut at 183
                    refine ih_183 _ _ ?_ ?_ ?_ ?_
                    · omega
                    · omega
                    · omega
                    · refine ⟨j + 1, by omega, ?_⟩
                      simp only [sN]
                      have ho : oth σ (zz % σ 0 0 4) (zz / 3 % 5) (j : Int) = if (j : Int) ≠ (zz / 3 % 5) ∧ 0 < σ 1 0 (j : Int) ∧ σ 13 (zz % σ 0 0 4) (j : Int) = 0 then 1 else 0 := rfl
                      split at ho <;> omega
                  · refine J_iconst C dL_acts_217 ?_
                    refine J_goto (tgt := 222) C dL_acts_218 (by decide) ?_
                    refine J_iadd C dL_acts_222 ?_
                    refine J_istore15 C (by decide) rfl dL_acts_223 ?_
                    refine J_iinc16 C (by decide) rfl dL_acts_225 ?_
                    refine J_goto (tgt := 183) C dL_acts_228 (by decide) ?_
                    -- to the cut at 183
                    refine ih_183 _ _ ?_ ?_ ?_ ?_
                    · omega
                    · omega
                    · omega
                    · refine ⟨j + 1, by omega, ?_⟩
                      simp only [sN]
                      have ho : oth σ (zz % σ 0 0 4) (zz / 3 % 5) (j : Int) = if (j : Int) ≠ (zz / 3 % 5) ∧ 0 < σ 1 0 (j : Int) ∧ σ 13 (zz % σ 0 0 4) (j : Int) = 0 then 1 else 0 := rfl
                      split at ho <;> omega
        refine J_iconst C dL_acts_177 ?_
        refine J_istore15 C (by decide) rfl dL_acts_178 ?_
        refine J_iconst C dL_acts_180 ?_
        refine J_istore16 C (by decide) rfl dL_acts_181 ?_
        -- to the cut at 183
        refine K_183 6 _ _ ?_ ?_ ?_ ?_
        · decide
        · decide
        · decide
        · exact ⟨0, rfl, rfl⟩
      refine J_iload11 C dL_acts_152 ?_
      refine J_iconst C dL_acts_154 ?_
      refine J_idiv C (by omega) (by decide) dL_acts_155 ?_
      refine J_iconst C dL_acts_156 ?_
      refine J_irem C (by omega) (by decide) dL_acts_157 ?_
      refine J_istore13 C (by decide) rfl dL_acts_158 ?_
      refine J_iload11 C dL_acts_160 ?_
      refine J_bipush C (by decide) dL_acts_162 ?_
      refine J_idiv C (by omega) (by decide) dL_acts_164 ?_
      refine J_iconst C dL_acts_165 ?_
      refine J_irem C (by omega) (by decide) dL_acts_166 ?_
      refine J_if_ne (tgt := 174) C (by omega) dL_acts_167 (by decide) (fun c_167 => ?_) (fun c_167 => ?_)
      · refine J_iconst C dL_acts_174 ?_
        -- to the cut at 175
        refine K_175 _ ?_
        · first | exact Or.inl rfl | exact Or.inr rfl
      · refine J_iconst C dL_acts_170 ?_
        refine J_goto (tgt := 175) C dL_acts_171 (by decide) ?_
        -- to the cut at 175
        refine K_175 _ ?_
        · first | exact Or.inl rfl | exact Or.inr rfl
  have K_103 : JW p l e ({ frames := 10, cells := 77, slots := 411, locals := 190 } : Room) s m args below meth c cy D ad (Ar ad s.heap.size) 18 0 0 (MQ below (QcI cy D ad (fun z σ' => z = 1 ∧ Inv σ') s.heap.size) args s 77 411 (Ar ad s.heap.size)) σ 103 [some (.ref (ad 0 0)), some (.ref (ad 22 0)), some (.ref (ad 23 0)), some (.ref (ad 24 0)), some (.ref (ad 25 0)), some (.ref (ad 26 0)), some (.ref (ad 27 0)), some (.ref (ad 28 0)), some (.ref (ad 29 0)), some (.ref (ad 30 0)), some (.int (iI way)), some (.int (iI zz)), some (.int (iI ((zz % σ 0 0 4)))), none, none, none, none, none] [] := by
    refine J_iload10 C dL_acts_103 ?_
    refine J_iconst C dL_acts_105 ?_
    refine J_icmp_ne (tgt := 145) C (by omega) (by omega) dL_acts_106 (by decide) (fun c_106 => ?_) (fun c_106 => ?_)
    · -- to the cut at 145
      refine K_145  
    · refine J_aload8 C dL_acts_109 ?_
      refine J_iconst C dL_acts_111 ?_
      refine J_iaload C (k29 x29) (by decide) (by omega) dL_acts_112 ?_
      rw [lm.2.2.2.2]
      refine J_istore13 C (by decide) rfl dL_acts_113 ?_
      refine J_aload8 C dL_acts_115 ?_
      refine J_iconst C dL_acts_117 ?_
      refine J_iload11 C dL_acts_118 ?_
      refine J_iconst C dL_acts_120 ?_
      refine J_irem C (by omega) (by decide) dL_acts_121 ?_
      refine J_bipush C (by decide) dL_acts_122 ?_
      refine J_imul C dL_acts_124 ?_
      refine J_iastore C (k29 x29) (by decide) (by omega) dL_acts_125 ?_
      refine J_aload_0 C dL_acts_126 ?_
      refine J_aload8 C dL_acts_127 ?_
      refine J_iconst C dL_acts_129 ?_
      refine J_iaload C (k29 x29) (by decide) (by omega) dL_acts_130 ?_
      rw [su_at]
      refine J_XVI C (c_X3_setOverhead hfl hI _ _ (by omega)) (cwV 1 C.1.2.2.2.2 gL_acts_X3_setOverhead rfl rfl rfl (by decide +kernel) ⟨Nat.le_of_ble_eq_true rfl, Nat.le_of_ble_eq_true rfl⟩) rc3 (by decide) rfl rfl (Nat.le_of_ble_eq_true rfl) dL_acts_131 ⟨Nat.le_of_ble_eq_true rfl, Nat.le_of_ble_eq_true rfl⟩ (fun E σ_131 hx => ?_) (fun z_131 σ_131 hp => ?_)
      · skip
        obtain ⟨_, _, hx⟩ := hx
        exact absurd (by omega) hx
      obtain ⟨hz_, hs_, _⟩ := hp
      refine J_iload13 C dL_acts_134 ?_
      refine J_icmp_neS (tgt := 143) C (by
        rw [hz_, su_nk (by decide)]
        ) dL_acts_136 (by decide) ?_
      refine J_iconst C dL_acts_139 ?_
      refine J_goto (tgt := 144) C dL_acts_140 (by decide) ?_
      refine J_retZ C hr (by exact Or.inr rfl) (by decide) (by decide) dL_acts_144 ?_
      refine ⟨rfl, ?_⟩
      have hX : Eqx (fun a b c => (a = 0 ∧ c = 2) ∨ (a = 29 ∧ c = 4)) σ σ_131 := fun a b c x1 x2 x3 => by rw [hs_, su_ne3 (by omega), su_ne3 (by omega)]
      have s1 : σ_131 0 0 2 = zz % 3 * 37 := by rw [hs_, su_at]
      have s29 : σ_131 29 0 4 = zz % 3 * 37 := by rw [hs_, su_nk (by decide), su_at]
      exact ⟨r.t_ovh hX (by rw [s1]; omega), lw.t_ovh hX (by rw [s29, s1]) (by rw [s1]; omega)⟩
  have K_59 : JW p l e ({ frames := 10, cells := 77, slots := 411, locals := 190 } : Room) s m args below meth c cy D ad (Ar ad s.heap.size) 18 0 0 (MQ below (QcI cy D ad (fun z σ' => z = 1 ∧ Inv σ') s.heap.size) args s 77 411 (Ar ad s.heap.size)) σ 59 [some (.ref (ad 0 0)), some (.ref (ad 22 0)), some (.ref (ad 23 0)), some (.ref (ad 24 0)), some (.ref (ad 25 0)), some (.ref (ad 26 0)), some (.ref (ad 27 0)), some (.ref (ad 28 0)), some (.ref (ad 29 0)), some (.ref (ad 30 0)), some (.int (iI way)), some (.int (iI zz)), some (.int (iI ((zz % σ 0 0 4)))), none, none, none, none, none] [] := by
    refine J_iload10 C dL_acts_59 ?_
    refine J_iconst C dL_acts_61 ?_
    refine J_icmp_ne (tgt := 103) C (by omega) (by omega) dL_acts_62 (by decide) (fun c_62 => ?_) (fun c_62 => ?_)
    · -- to the cut at 103
      refine K_103  
    · refine J_aload8 C dL_acts_65 ?_
      refine J_iconst C dL_acts_67 ?_
      refine J_iaload C (k29 x29) (by decide) (by omega) dL_acts_68 ?_
      rw [lm.2.2.2.1]
      refine J_istore13 C (by decide) rfl dL_acts_69 ?_
      refine J_aload8 C dL_acts_71 ?_
      refine J_iconst C dL_acts_73 ?_
      refine J_bipush C (by decide) dL_acts_74 ?_
      refine J_iload11 C dL_acts_76 ?_
      refine J_sipush C (by decide) dL_acts_78 ?_
      refine J_irem C (by omega) (by decide) dL_acts_81 ?_
      refine J_iadd C dL_acts_82 ?_
      refine J_iastore C (k29 x29) (by decide) (by omega) dL_acts_83 ?_
      refine J_aload_0 C dL_acts_84 ?_
      refine J_aload8 C dL_acts_85 ?_
      refine J_iconst C dL_acts_87 ?_
      refine J_iaload C (k29 x29) (by decide) (by omega) dL_acts_88 ?_
      rw [su_at]
      refine J_XVI C (c_X3_setPenalty hfl hI _ _ (by omega)) (cwV 1 C.1.2.2.2.2 gL_acts_X3_setPenalty rfl rfl rfl (by decide +kernel) ⟨Nat.le_of_ble_eq_true rfl, Nat.le_of_ble_eq_true rfl⟩) rc3 (by decide) rfl rfl (Nat.le_of_ble_eq_true rfl) dL_acts_89 ⟨Nat.le_of_ble_eq_true rfl, Nat.le_of_ble_eq_true rfl⟩ (fun E σ_89 hx => ?_) (fun z_89 σ_89 hp => ?_)
      · skip
        obtain ⟨_, _, hx⟩ := hx
        exact absurd (by omega) hx
      obtain ⟨hz_, hs_, _⟩ := hp
      refine J_iload13 C dL_acts_92 ?_
      refine J_icmp_neS (tgt := 101) C (by
        rw [hz_, su_nk (by decide)]
        ) dL_acts_94 (by decide) ?_
      refine J_iconst C dL_acts_97 ?_
      refine J_goto (tgt := 102) C dL_acts_98 (by decide) ?_
      refine J_retZ C hr (by exact Or.inr rfl) (by decide) (by decide) dL_acts_102 ?_
      refine ⟨rfl, ?_⟩
      have hX : Eqx (fun a b c => (a = 0 ∧ c = 1) ∨ (a = 29 ∧ c = 3)) σ σ_89 := fun a b c x1 x2 x3 => by rw [hs_, su_ne3 (by omega), su_ne3 (by omega)]
      have s1 : σ_89 0 0 1 = 100 + zz % 301 := by rw [hs_, su_at]
      have s29 : σ_89 29 0 3 = 100 + zz % 301 := by rw [hs_, su_nk (by decide), su_at]
      exact ⟨r.t_pen hX (by rw [s1]; omega), lw.t_pen hX (by rw [s29, s1]) (by rw [s1]; omega)⟩
  refine J_iload11 C dL_acts_0 ?_
  refine J_aload8 C dL_acts_2 ?_
  refine J_iconst C dL_acts_4 ?_
  refine J_iaload C (k29 x29) (by decide) (by omega) dL_acts_5 ?_
  rw [lm.1]
  refine J_irem C (by omega) (by omega) dL_acts_6 ?_
  refine J_istore12 C (by decide) rfl dL_acts_7 ?_
  refine J_iload10 C dL_acts_9 ?_
  refine J_if_ne (tgt := 59) C (by omega) dL_acts_11 (by decide) (fun c_11 => ?_) (fun c_11 => ?_)
  · -- to the cut at 59
    refine K_59  
  · refine J_aload8 C dL_acts_14 ?_
    refine J_iconst C dL_acts_16 ?_
    refine J_iaload C (k29 x29) (by decide) (by omega) dL_acts_17 ?_
    rw [lm.1]
    refine J_iconst C dL_acts_18 ?_
    refine J_icmp_ge (tgt := 59) C (by omega) (by omega) dL_acts_19 (by decide) (fun c_19 => ?_) (fun c_19 => ?_)
    · -- to the cut at 59
      refine K_59  
    · refine J_aload_3 C dL_acts_22 ?_
      refine J_aload8 C dL_acts_23 ?_
      refine J_iconst C dL_acts_25 ?_
      refine J_iaload C (k29 x29) (by decide) (by omega) dL_acts_26 ?_
      rw [lm.1]
      refine J_aload8 C dL_acts_27 ?_
      refine J_iconst C dL_acts_29 ?_
      refine J_iaload C (k29 x29) (by decide) (by omega) dL_acts_30 ?_
      rw [lm.2.2.2.1]
      refine J_iastore C (k24 x24) (by decide) (by omega) dL_acts_31 ?_
      refine J_aload8 C dL_acts_32 ?_
      refine J_iconst C dL_acts_34 ?_
      refine J_dup2 C rfl rfl dL_acts_35 ?_
      refine J_iaload C (k29 x29) (by decide) (by omega) dL_acts_36 ?_
      rw [su_nk (by decide), lm.1]
      refine J_iconst C dL_acts_37 ?_
      refine J_iadd C dL_acts_38 ?_
      refine J_iastore C (k29 x29) (by decide) (by omega) dL_acts_39 ?_
      have GX : EqC σ (su (su σ 24 0 (σ 0 0 4) (σ 0 0 1)) 29 0 0 (σ 0 0 4 + 1)) := fun a b c x1 x2 => by rw [su_nk (by omega), su_nk (by omega)]
      have x4 := GX 0 0 4 (by decide) (by decide)
      have x1 := GX 0 0 1 (by decide) (by decide)
      refine J_aload_0 C dL_acts_40 ?_
      refine J_XVI C (c_X3_addWell hfl hI _ (by rw [x4]; exact r.hwc)) (cwV 0 C.1.2.2.2.2 gL_acts_X3_addWell rfl rfl rfl (by decide +kernel) ⟨Nat.le_of_ble_eq_true rfl, Nat.le_of_ble_eq_true rfl⟩) rc3 (by decide) rfl rfl (Nat.le_of_ble_eq_true rfl) dL_acts_41 ⟨Nat.le_of_ble_eq_true rfl, Nat.le_of_ble_eq_true rfl⟩ (fun E σ_41 hx => ?_) (fun z_41 σ_41 hp => ?_)
      · skip
        obtain ⟨_, _, hx⟩ := hx
        exact absurd (by rw [x4]; omega) hx
      obtain ⟨hz_, hs_, _⟩ := hp
      rw [x4, x1] at hs_
      refine J_aload8 C dL_acts_44 ?_
      refine J_iconst C dL_acts_46 ?_
      refine J_iaload C (k29 x29) (by decide) (by omega) dL_acts_47 ?_
      refine J_iconst C dL_acts_48 ?_
      refine J_isub C dL_acts_49 ?_
      refine J_icmp_neS (tgt := 57) C (by
        rw [hz_, x4, hs_, su_nk (by decide), su_nk (by decide), su_at]
        omega
        ) dL_acts_50 (by decide) ?_
      refine J_iconst C dL_acts_53 ?_
      refine J_goto (tgt := 58) C dL_acts_54 (by decide) ?_
      refine J_retZ C hr (by exact Or.inr rfl) (by decide) (by decide) dL_acts_58 ?_
      refine ⟨rfl, ?_⟩
      have hX : Eqx (fun a b c => (a = 0 ∧ c = 4) ∨ (a = 12 ∧ b = σ 0 0 4 ∧ c = 0) ∨ (a = 24 ∧ c = σ 0 0 4) ∨ (a = 29 ∧ c = 0)) σ σ_41 := fun a b c x1 x2 x3 => by rw [hs_, su_ne3 (by omega), su_ne3 (by omega), su_ne3 (by omega), su_ne3 (by omega)]
      have s4 : σ_41 0 0 4 = σ 0 0 4 + 1 := by rw [hs_, su_at]
      have s12 : σ_41 12 (σ 0 0 4) 0 = σ 0 0 1 := by rw [hs_, su_nk (by decide), su_at]
      exact ⟨r.t_well (by omega) hX s4 s12, lw.t_well (by omega) hX s4 (by rw [hs_, su_nk (by decide), su_nk (by decide), su_at]) s12 (by rw [hs_, su_nk (by decide), su_nk (by decide), su_nk (by decide), su_at])⟩
