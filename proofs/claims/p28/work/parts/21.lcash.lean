theorem emod_rng {z m : Int} (h : 0 < m) : 0 ≤ z % m ∧ z % m < m := ⟨Int.emod_nonneg z (by omega), Int.emod_lt_of_pos z h⟩
/-- what those who have paid nothing are asked for, as the law adds it -/
def nq (σ : Sg) (k : Int) : Int → Int := fun q => if 0 < pw σ k q then 0 else σ 20 k q
theorem Rel.nq_eq {σ : Sg} (r : Rel σ) {k : Int} (h0 : 0 ≤ k) (h : k < 20) : s5 (nq σ k) = s5 (fun q => if σ 21 k q = 0 then σ 20 k q else 0) := s5_congr (fun q a b => by
  have e := r.c20 k q h0 h a b
  unfold nq pw
  by_cases z : 0 < σ 21 k q
  · rw [if_pos z, if_pos (by omega), if_neg (by omega)]
  · rw [if_neg z, if_neg (by omega), if_pos (by omega)])
theorem Rel.pw_pos {σ : Sg} (r : Rel σ) {k : Int} (h0 : 0 ≤ k) (h : k < 20) {q : Int} (a : 0 ≤ q) (b : q < 5) : 0 < pw σ k q ↔ 0 < σ 21 k q := by
  have e := r.c20 k q h0 h a b
  unfold pw
  split <;> omega
theorem Rel.pw_rng {σ : Sg} (r : Rel σ) {k : Int} (h0 : 0 ≤ k) (h : k < 20) {q : Int} (a : 0 ≤ q) (b : q < 5) : 0 ≤ pw σ k q ∧ pw σ k q ≤ 10000000 := by
  have e := r.c20 k q h0 h a b
  unfold pw
  split <;> omega
theorem Rel.nq_rng {σ : Sg} (r : Rel σ) {k : Int} (h0 : 0 ≤ k) (h : k < 20) {q : Int} (a : 0 ≤ q) (b : q < 5) : 0 ≤ nq σ k q ∧ nq σ k q ≤ 10000000 := by
  have e := r.c20 k q h0 h a b
  unfold nq
  split <;> omega
theorem Rel.pw_ex {σ : Sg} (r : Rel σ) {k : Int} (h0 : 0 ≤ k) (h : k < 20) : 0 < s5 (pw σ k) ↔ ∃ q, 0 ≤ q ∧ q < 5 ∧ 0 < σ 21 k q := by
  constructor
  · intro hp
    apply Classical.byContradiction
    intro hn
    have e : s5 (pw σ k) = 0 := by
      rw [s5_congr (g := fun _ => 0) (fun q a b => by unfold pw; rw [if_neg (fun z => hn ⟨q, a, b, z⟩)])]
      rfl
    omega
  · rintro ⟨q, a, b, hq⟩
    have h1 := (r.pw_pos h0 h a b).mpr hq
    have h2 := s5_part (f := pw σ k) (fun p x y => (r.pw_rng h0 h x y).1) q a b
    omega
set_option maxRecDepth 20000 in
theorem w_L_isCash_acl : Cond.arrayClass .long ∈ wsL_isCash := by decide +kernel
set_option maxHeartbeats 4000000 in
set_option maxRecDepth 100000 in
theorem c_L_isCash {l : Launch} (hfl : l.stackTraces = false) {cy : Nat → ClassId} {D : va_G} {ad : Ad} (hI : Inj ad) (σ : Sg) (way zz : Int) (x22 : ad 1000 22 = 1) (x23 : ad 1000 23 = 1) (x24 : ad 1000 24 = 1) (x25 : ad 1000 25 = 1) (x26 : ad 1000 26 = 1) (x27 : ad 1000 27 = 1) (x28 : ad 1000 28 = 1) (x29 : ad 1000 29 = 1) (f34 : ¬ ad 1000 34 = 1) (f35 : ¬ ad 1000 35 = 1) (f36 : ¬ ad 1000 36 = 1) (f37 : ¬ ad 1000 37 = 1) (f38 : ¬ ad 1000 38 = 1) (f39 : ¬ ad 1000 39 = 1) (f40 : ¬ ad 1000 40 = 1) (iv : Inv σ) (hwy : 0 ≤ way ∧ way < 22) (hzz : 0 ≤ zz ∧ zz < 1000000) : KI l yL_isCash wsL_isCash ({ frames := 9, cells := 77, slots := 411, locals := 150 } : Room) cy D ad σ [.ref (ad 0 0), .ref (ad 22 0), .ref (ad 23 0), .ref (ad 24 0), .ref (ad 25 0), .ref (ad 26 0), .ref (ad 27 0), .ref (ad 28 0), .ref (ad 29 0), .int (iI way), .int (iI zz)] (fun z σ' => z = 1 ∧ Inv σ') 77 411 := by
  refine KI.of (lv0 := [some (.ref (ad 0 0)), some (.ref (ad 22 0)), some (.ref (ad 23 0)), some (.ref (ad 24 0)), some (.ref (ad 25 0)), some (.ref (ad 26 0)), some (.ref (ad 27 0)), some (.ref (ad 28 0)), some (.ref (ad 29 0)), some (.int (iI way)), some (.int (iI zz)), none, none, none, none, none, none, none, none, none, none]) hfl hI (by decide) rfl (Nat.le_of_ble_eq_true rfl) rfl ?_
  intro p e s m args below meth c C hr
  have r := iv.1
  have lw := iv.2
  have c0 := lw.1
  unfold L0 at c0
  have lm := lw.2.1
  unfold Lm at lm
  have hwz : 0 ≤ (zz % σ 0 0 4) ∧ (zz % σ 0 0 4) < σ 0 0 4 := emod_rng (by omega)
  have Z0 : Eqs σ (sz0 (sz0 σ 39) 40) := fun a b c _ x2 _ => by rw [sz0_nk (by omega), sz0_nk (by omega)]
  have hch := fun q a b => chp_rng (a := 10000) r.hsh (r.tok (w := (zz % σ 0 0 4)) (by omega) (by omega)).1 (by decide) (q := q) a b
  have hcw := chp_wt (a := 10000) r.hsh (r.tok (w := (zz % σ 0 0 4)) (by omega) (by omega)).1 (by decide)
  have K_151 : JW p l e ({ frames := 9, cells := 77, slots := 411, locals := 150 } : Room) s m args below meth c cy D ad (Ar ad s.heap.size) 21 0 0 (MQ below (QcI cy D ad (fun z σ' => z = 1 ∧ Inv σ') s.heap.size) args s 77 411 (Ar ad s.heap.size)) σ 151 [some (.ref (ad 0 0)), some (.ref (ad 22 0)), some (.ref (ad 23 0)), some (.ref (ad 24 0)), some (.ref (ad 25 0)), some (.ref (ad 26 0)), some (.ref (ad 27 0)), some (.ref (ad 28 0)), some (.ref (ad 29 0)), some (.int (iI way)), some (.int (iI zz)), none, none, none, none, none, none, none, none, none, none] [] := by
    refine J_aload8 C dL_isCash_151 ?_
    refine J_iconst C dL_isCash_153 ?_
    refine J_iaload C (k29 x29) (by decide) (by omega) dL_isCash_154 ?_
    rw [lm.2.2.1]
    refine J_if_ne (tgt := 160) C (by omega) dL_isCash_155 (by decide) (fun c_155 => ?_) (fun c_155 => ?_)
    · refine J_iload10 C dL_isCash_160 ?_
      refine J_aload8 C dL_isCash_162 ?_
      refine J_iconst C dL_isCash_164 ?_
      refine J_iaload C (k29 x29) (by decide) (by omega) dL_isCash_165 ?_
      rw [lm.2.2.1]
      have hk9 : 0 ≤ (zz % σ 0 0 9) ∧ (zz % σ 0 0 9) < σ 0 0 9 := emod_rng (by omega)
      refine J_irem C (by omega) (by omega) dL_isCash_166 ?_
      refine J_istore11 C (by decide) rfl dL_isCash_167 ?_
      refine J_iload9 C dL_isCash_169 ?_
      refine J_iconst C dL_isCash_171 ?_
      refine J_icmp_ge (tgt := 246) C (by omega) (by omega) dL_isCash_172 (by decide) (fun c_172 => ?_) (fun c_172 => ?_)
      · refine J_iconst C dL_isCash_246 ?_
        refine J_newL (N := 5) (kd := 39) C ⟨by decide, by decide⟩ (fun _ _ => rfl) f39 w_L_isCash_acl ⟨by decide, by decide⟩ (by decide) ⟨Nat.le_of_ble_eq_true rfl, Nat.le_of_ble_eq_true rfl⟩ dL_isCash_247 (fun ad1 q_ e_ hI1 C1 hx1 hs1 x39 => ?_)
        subst e_
        rw [← (hs1 0 (by decide) (Or.inl (by decide))).2 0]
        rw [← (hs1 22 (by decide) (Or.inr x22)).2 0]
        rw [← (hs1 23 (by decide) (Or.inr x23)).2 0]
        rw [← (hs1 24 (by decide) (Or.inr x24)).2 0]
        rw [← (hs1 25 (by decide) (Or.inr x25)).2 0]
        rw [← (hs1 26 (by decide) (Or.inr x26)).2 0]
        rw [← (hs1 27 (by decide) (Or.inr x27)).2 0]
        rw [← (hs1 28 (by decide) (Or.inr x28)).2 0]
        rw [← (hs1 29 (by decide) (Or.inr x29)).2 0]
        have x22 : ad1 1000 22 = 1 := (hx1 22 (by decide)).trans x22
        have x23 : ad1 1000 23 = 1 := (hx1 23 (by decide)).trans x23
        have x24 : ad1 1000 24 = 1 := (hx1 24 (by decide)).trans x24
        have x25 : ad1 1000 25 = 1 := (hx1 25 (by decide)).trans x25
        have x26 : ad1 1000 26 = 1 := (hx1 26 (by decide)).trans x26
        have x27 : ad1 1000 27 = 1 := (hx1 27 (by decide)).trans x27
        have x28 : ad1 1000 28 = 1 := (hx1 28 (by decide)).trans x28
        have x29 : ad1 1000 29 = 1 := (hx1 29 (by decide)).trans x29
        have f34 : ¬ ad1 1000 34 = 1 := fun z => f34 ((hx1 34 (by decide)).symm.trans z)
        have f35 : ¬ ad1 1000 35 = 1 := fun z => f35 ((hx1 35 (by decide)).symm.trans z)
        have f36 : ¬ ad1 1000 36 = 1 := fun z => f36 ((hx1 36 (by decide)).symm.trans z)
        have f37 : ¬ ad1 1000 37 = 1 := fun z => f37 ((hx1 37 (by decide)).symm.trans z)
        have f38 : ¬ ad1 1000 38 = 1 := fun z => f38 ((hx1 38 (by decide)).symm.trans z)
        have f40 : ¬ ad1 1000 40 = 1 := fun z => f40 ((hx1 40 (by decide)).symm.trans z)
        refine J_astore12 C1 (by decide) rfl dL_isCash_249 ?_
        refine J_iconst C1 dL_isCash_251 ?_
        refine J_newL (N := 5) (kd := 40) C1 ⟨by decide, by decide⟩ (fun _ _ => rfl) f40 w_L_isCash_acl ⟨by decide, by decide⟩ (by decide) ⟨Nat.le_of_ble_eq_true rfl, Nat.le_of_ble_eq_true rfl⟩ dL_isCash_252 (fun ad2 q_ e_ hI2 C2 hx2 hs2 x40 => ?_)
        subst e_
        rw [← (hs2 0 (by decide) (Or.inl (by decide))).2 0]
        rw [← (hs2 22 (by decide) (Or.inr x22)).2 0]
        rw [← (hs2 23 (by decide) (Or.inr x23)).2 0]
        rw [← (hs2 24 (by decide) (Or.inr x24)).2 0]
        rw [← (hs2 25 (by decide) (Or.inr x25)).2 0]
        rw [← (hs2 26 (by decide) (Or.inr x26)).2 0]
        rw [← (hs2 27 (by decide) (Or.inr x27)).2 0]
        rw [← (hs2 28 (by decide) (Or.inr x28)).2 0]
        rw [← (hs2 29 (by decide) (Or.inr x29)).2 0]
        rw [← (hs2 39 (by decide) (Or.inr x39)).2 0]
        have x22 : ad2 1000 22 = 1 := (hx2 22 (by decide)).trans x22
        have x23 : ad2 1000 23 = 1 := (hx2 23 (by decide)).trans x23
        have x24 : ad2 1000 24 = 1 := (hx2 24 (by decide)).trans x24
        have x25 : ad2 1000 25 = 1 := (hx2 25 (by decide)).trans x25
        have x26 : ad2 1000 26 = 1 := (hx2 26 (by decide)).trans x26
        have x27 : ad2 1000 27 = 1 := (hx2 27 (by decide)).trans x27
        have x28 : ad2 1000 28 = 1 := (hx2 28 (by decide)).trans x28
        have x29 : ad2 1000 29 = 1 := (hx2 29 (by decide)).trans x29
        have x39 : ad2 1000 39 = 1 := (hx2 39 (by decide)).trans x39
        have f34 : ¬ ad2 1000 34 = 1 := fun z => f34 ((hx2 34 (by decide)).symm.trans z)
        have f35 : ¬ ad2 1000 35 = 1 := fun z => f35 ((hx2 35 (by decide)).symm.trans z)
        have f36 : ¬ ad2 1000 36 = 1 := fun z => f36 ((hx2 36 (by decide)).symm.trans z)
        have f37 : ¬ ad2 1000 37 = 1 := fun z => f37 ((hx2 37 (by decide)).symm.trans z)
        have f38 : ¬ ad2 1000 38 = 1 := fun z => f38 ((hx2 38 (by decide)).symm.trans z)
        have hs2 := hs1.trans hs2
        refine J_astore13 C2 (by decide) rfl dL_isCash_254 ?_
        refine J_lconst (z := 0) C2 (by decide) dL_isCash_256 ?_
        refine J_lstore14 C2 (by decide) rfl dL_isCash_257 ?_
        refine J_lconst (z := 0) C2 (by decide) dL_isCash_259 ?_
        refine J_lstore16 C2 (by decide) rfl dL_isCash_260 ?_
        have K_265 : ∀ (n_ : Nat) (i : Int) (sm : Int) (py : Int) (σ1 : Sg), (0 ≤ i) → (i ≤ 5) → (5 - i < n_) → (Eqs σ σ1) → (∀ q, 0 ≤ q → q < i → σ1 39 0 q = pw σ (zz % σ 0 0 9) q) → (∃ j : Nat, i = (j : Int) ∧ sm = sN (nq σ (zz % σ 0 0 9)) j ∧ py = sN (pw σ (zz % σ 0 0 9)) j) → JW p l e ({ frames := 9, cells := 77, slots := 411, locals := 150 } : Room) s m args below meth c cy D ad2 (Ar ad s.heap.size) 21 2 10 (MQ below (QcI cy D ad (fun z σ' => z = 1 ∧ Inv σ') s.heap.size) args s 77 411 (Ar ad s.heap.size)) σ1 265 [some (.ref (ad2 0 0)), some (.ref (ad2 22 0)), some (.ref (ad2 23 0)), some (.ref (ad2 24 0)), some (.ref (ad2 25 0)), some (.ref (ad2 26 0)), some (.ref (ad2 27 0)), some (.ref (ad2 28 0)), some (.ref (ad2 29 0)), some (.int (iI way)), some (.int (iI zz)), some (.int (iI ((zz % σ 0 0 9)))), some (.ref (ad2 39 0)), some (.ref (ad2 40 0)), some (.long (lI sm)), none, some (.long (lI py)), none, some (.int (iI i)), none, none] [] := by
          intro n_
          induction n_ with
          | zero => intro i sm py σ1 g0 g1 g2 g3 g4 g5; omega
          | succ n_ ih_265 =>
            intro i sm py σ1 g0 g1 g2 g3 g4 g5
            obtain ⟨j, rfl, rfl, rfl⟩ := g5
            have hy := fun q (a : 0 ≤ q) (b : q < 5) => (lw.2.2.2.2.2.2.1 (zz % σ 0 0 9) q (by omega) (by omega) a b (by omega))
            have e26 : ∀ q, 0 ≤ q → q < 5 → σ1 26 0 (5 * (zz % σ 0 0 9) + q) = σ 20 (zz % σ 0 0 9) q := fun q a b => by rw [g3.at 26 0 _ (by decide), (hy q a b).1]
            have e27 : ∀ q, 0 ≤ q → q < 5 → σ1 27 0 (5 * (zz % σ 0 0 9) + q) = σ 21 (zz % σ 0 0 9) q := fun q a b => by rw [g3.at 27 0 _ (by decide), (hy q a b).2]
            have hc9 := fun q (a : 0 ≤ q) (b : q < 5) => r.c20 (zz % σ 0 0 9) q (by omega) (by omega) a b
            have hpp := fun q (a : 0 ≤ q) (b : q < 5) => r.pw_rng (k := (zz % σ 0 0 9)) (by omega) (by omega) a b
            have hnn := fun q (a : 0 ≤ q) (b : q < 5) => r.nq_rng (k := (zz % σ 0 0 9)) (by omega) (by omega) a b
            refine J_iload18 C2 dL_isCash_265 ?_
            refine J_iconst C2 dL_isCash_267 ?_
            refine J_icmp_ge (tgt := 350) C2 (by omega) (by omega) dL_isCash_268 (by decide) (fun c_268 => ?_) (fun c_268 => ?_)
            · have e5 : j = 5 := by omega
              subst e5
              rw [sN_5, sN_5]
              have hpe := r.pw_ex (k := (zz % σ 0 0 9)) (by omega) (by omega)
              have hne := r.nq_eq (k := (zz % σ 0 0 9)) (by omega) (by omega)
              have hsp : 0 ≤ s5 (pw σ (zz % σ 0 0 9)) := s5_nn (fun q a b => (hpp q a b).1)
              have hsn : 0 ≤ s5 (nq σ (zz % σ 0 0 9)) := s5_nn (fun q a b => (hnn q a b).1)
              have p0 := hpp 0 (by decide) (by decide); have p1 := hpp 1 (by decide) (by decide); have p2 := hpp 2 (by decide) (by decide); have p3 := hpp 3 (by decide) (by decide); have p4 := hpp 4 (by decide) (by decide)
              have n0 := hnn 0 (by decide) (by decide); have n1 := hnn 1 (by decide) (by decide); have n2 := hnn 2 (by decide) (by decide); have n3 := hnn 3 (by decide) (by decide); have n4 := hnn 4 (by decide) (by decide)
              have hsp2 : s5 (pw σ (zz % σ 0 0 9)) ≤ 50000000 := by unfold s5; omega
              have hsn2 : s5 (nq σ (zz % σ 0 0 9)) ≤ 50000000 := by unfold s5; omega
              have GS : EqC σ σ1 := fun a b c x1 x2 => g3 a b c x1 (by omega) (fun z => z)
              refine J_lload16 C2 dL_isCash_350 ?_
              refine J_lconst (z := 0) C2 (by decide) dL_isCash_352 ?_
              refine J_lif_le (tgt := 368) C2 (by omega) (by omega) dL_isCash_353 dL_isCash_354 (by decide) (fun c_353 => ?_) (fun c_353 => ?_)
              · refine J_iconst C2 dL_isCash_368 ?_
                refine J_istore18 C2 (by decide) rfl dL_isCash_369 ?_
                refine J_iload18 C2 dL_isCash_371 ?_
                refine J_if_eq (tgt := 385) C2 (by omega) dL_isCash_373 (by decide) (fun c_373 => ?_) (fun c_373 => ?_)
                · refine J_iconst C2 dL_isCash_385 ?_
                  refine J_istore19 C2 (by decide) rfl dL_isCash_386 ?_
                  refine J_iload19 C2 dL_isCash_388 ?_
                  refine J_iconst C2 dL_isCash_390 ?_
                  refine J_icmp_ge (tgt := 485) C2 (by omega) (by omega) dL_isCash_391 (by decide) (fun c_391 => ?_) (fun c_391 => ?_)
                  · exact absurd c_391 (by decide)
                  · refine J_iload18 C2 dL_isCash_394 ?_
                    refine J_if_eq (tgt := 485) C2 (by omega) dL_isCash_396 (by decide) (fun c_396 => ?_) (fun c_396 => ?_)
                    · have rS : Rel σ1 := r.cls GS
                      have x9 : σ1 0 0 9 = σ 0 0 9 := GS 0 0 9 (by decide) (by decide)
                      refine J_aload_0 C2 dL_isCash_485 ?_
                      refine J_iload11 C2 dL_isCash_486 ?_
                      refine J_KWI C2 (c_L_shared hfl hI2 _ (zz % σ 0 0 9) rS.hcc (by omega) rS.c20 (by omega)) (vx_cwSW 2 C2.1.2.2.2.2 gL_isCash_L_shared rfl rfl rfl (by decide +kernel) ⟨Nat.le_of_ble_eq_true rfl, Nat.le_of_ble_eq_true rfl⟩) rfl rfl (Nat.le_of_ble_eq_true rfl) dL_isCash_488 ⟨Nat.le_of_ble_eq_true rfl, Nat.le_of_ble_eq_true rfl⟩ (fun z_488 σ_488 hp => ?_)
                      skip
                      have t21 : ∀ q, σ1 21 (zz % σ 0 0 9) q = σ 21 (zz % σ 0 0 9) q := fun q => GS 21 _ q (by decide) (by decide)
                      have t20 : ∀ q, σ1 20 (zz % σ 0 0 9) q = σ 20 (zz % σ 0 0 9) q := fun q => GS 20 _ q (by decide) (by decide)
                      have ts : s5 (fun q => if σ1 21 (zz % σ 0 0 9) q = 0 then σ1 20 (zz % σ 0 0 9) q else 0) = s5 (nq σ (zz % σ 0 0 9)) := by
                        simp only [t21, t20]
                        exact hne.symm
                      have hz0 : z_488 = -2 ∧ σ_488 = σ1 := by
                        rcases hp with ⟨h1, h2, h3, h4, h5⟩ | ⟨h1, h2, h3⟩
                        · exfalso
                          rw [ts] at h5
                          have := hpe.mpr (by
                            obtain ⟨q, a, b, c⟩ := h4
                            exact ⟨q, a, b, by rw [← t21]; exact c⟩)
                          omega
                        · exact ⟨h1, h2⟩
                      have hz9 := hz0.1
                      have iv9 : Inv σ_488 := by
                        rw [hz0.2]
                        exact iv.congr g3
                      refine J_iload18 C2 dL_isCash_491 ?_
                      refine J_if_eq (tgt := 502) C2 (by omega) dL_isCash_493 (by decide) (fun c_493 => ?_) (fun c_493 => ?_)
                      · refine J_bipush C2 (by decide) dL_isCash_502 ?_
                        refine J_icmp_neS (tgt := 511) C2 (by
                          exact hz9
                          ) dL_isCash_504 (by decide) ?_
                        refine J_iconst C2 dL_isCash_507 ?_
                        refine J_goto (tgt := 512) C2 dL_isCash_508 (by decide) ?_
                        refine J_back hs2 ?_
                        refine J_retZ C hr (by exact Or.inr rfl) (by decide) (by decide) dL_isCash_512 ?_
                        exact ⟨rfl, iv9⟩
                      · exact absurd c_493 (by decide)
                    · exact absurd c_396 (by decide)
                · exact absurd c_373 (by decide)
              · refine J_lload14 C2 dL_isCash_357 ?_
                refine J_lconst (z := 0) C2 (by decide) dL_isCash_359 ?_
                refine J_lif_le (tgt := 368) C2 (by omega) (by omega) dL_isCash_360 dL_isCash_361 (by decide) (fun c_360 => ?_) (fun c_360 => ?_)
                · refine J_iconst C2 dL_isCash_368 ?_
                  refine J_istore18 C2 (by decide) rfl dL_isCash_369 ?_
                  refine J_iload18 C2 dL_isCash_371 ?_
                  refine J_if_eq (tgt := 385) C2 (by omega) dL_isCash_373 (by decide) (fun c_373 => ?_) (fun c_373 => ?_)
                  · refine J_iconst C2 dL_isCash_385 ?_
                    refine J_istore19 C2 (by decide) rfl dL_isCash_386 ?_
                    refine J_iload19 C2 dL_isCash_388 ?_
                    refine J_iconst C2 dL_isCash_390 ?_
                    refine J_icmp_ge (tgt := 485) C2 (by omega) (by omega) dL_isCash_391 (by decide) (fun c_391 => ?_) (fun c_391 => ?_)
                    · exact absurd c_391 (by decide)
                    · refine J_iload18 C2 dL_isCash_394 ?_
                      refine J_if_eq (tgt := 485) C2 (by omega) dL_isCash_396 (by decide) (fun c_396 => ?_) (fun c_396 => ?_)
                      · have rS : Rel σ1 := r.cls GS
                        have x9 : σ1 0 0 9 = σ 0 0 9 := GS 0 0 9 (by decide) (by decide)
                        refine J_aload_0 C2 dL_isCash_485 ?_
                        refine J_iload11 C2 dL_isCash_486 ?_
                        refine J_KWI C2 (c_L_shared hfl hI2 _ (zz % σ 0 0 9) rS.hcc (by omega) rS.c20 (by omega)) (vx_cwSW 2 C2.1.2.2.2.2 gL_isCash_L_shared rfl rfl rfl (by decide +kernel) ⟨Nat.le_of_ble_eq_true rfl, Nat.le_of_ble_eq_true rfl⟩) rfl rfl (Nat.le_of_ble_eq_true rfl) dL_isCash_488 ⟨Nat.le_of_ble_eq_true rfl, Nat.le_of_ble_eq_true rfl⟩ (fun z_488 σ_488 hp => ?_)
                        skip
                        have t21 : ∀ q, σ1 21 (zz % σ 0 0 9) q = σ 21 (zz % σ 0 0 9) q := fun q => GS 21 _ q (by decide) (by decide)
                        have t20 : ∀ q, σ1 20 (zz % σ 0 0 9) q = σ 20 (zz % σ 0 0 9) q := fun q => GS 20 _ q (by decide) (by decide)
                        have ts : s5 (fun q => if σ1 21 (zz % σ 0 0 9) q = 0 then σ1 20 (zz % σ 0 0 9) q else 0) = s5 (nq σ (zz % σ 0 0 9)) := by
                          simp only [t21, t20]
                          exact hne.symm
                        have hz0 : z_488 = -2 ∧ σ_488 = σ1 := by
                          rcases hp with ⟨h1, h2, h3, h4, h5⟩ | ⟨h1, h2, h3⟩
                          · exfalso
                            rw [ts] at h5
                            have := hpe.mpr (by
                              obtain ⟨q, a, b, c⟩ := h4
                              exact ⟨q, a, b, by rw [← t21]; exact c⟩)
                            omega
                          · exact ⟨h1, h2⟩
                        have hz9 := hz0.1
                        have iv9 : Inv σ_488 := by
                          rw [hz0.2]
                          exact iv.congr g3
                        refine J_iload18 C2 dL_isCash_491 ?_
                        refine J_if_eq (tgt := 502) C2 (by omega) dL_isCash_493 (by decide) (fun c_493 => ?_) (fun c_493 => ?_)
                        · refine J_bipush C2 (by decide) dL_isCash_502 ?_
                          refine J_icmp_neS (tgt := 511) C2 (by
                            exact hz9
                            ) dL_isCash_504 (by decide) ?_
                          refine J_iconst C2 dL_isCash_507 ?_
                          refine J_goto (tgt := 512) C2 dL_isCash_508 (by decide) ?_
                          refine J_back hs2 ?_
                          refine J_retZ C hr (by exact Or.inr rfl) (by decide) (by decide) dL_isCash_512 ?_
                          exact ⟨rfl, iv9⟩
                        · exact absurd c_493 (by decide)
                      · exact absurd c_396 (by decide)
                  · exact absurd c_373 (by decide)
                · refine J_iconst C2 dL_isCash_364 ?_
                  refine J_goto (tgt := 369) C2 dL_isCash_365 (by decide) ?_
                  refine J_istore18 C2 (by decide) rfl dL_isCash_369 ?_
                  refine J_iload18 C2 dL_isCash_371 ?_
                  refine J_if_eq (tgt := 385) C2 (by omega) dL_isCash_373 (by decide) (fun c_373 => ?_) (fun c_373 => ?_)
                  · exact absurd c_373 (by decide)
                  · have K_388 : ∀ (m_ : Nat) (i : Int) (σ2 : Sg), (0 ≤ i) → (i ≤ 5) → (5 - i < m_) → (∀ (a : Nat) (b c : Int), (a < 8 ∨ 11 < a) → a < 31 → a ≠ 26 → a ≠ 28 → σ2 a b c = σ a b c) → (∀ x, σ2 26 0 x = if 5 * (zz % σ 0 0 9) ≤ x ∧ x < 5 * (zz % σ 0 0 9) + i then (fun q => if 0 < pw σ (zz % σ 0 0 9) q then σ 20 (zz % σ 0 0 9) q + dv (s5 (nq σ (zz % σ 0 0 9))) (pw σ (zz % σ 0 0 9)) q else 0) (x - 5 * (zz % σ 0 0 9)) else σ 26 0 x) → (∀ q, 0 ≤ q → q < 5 → σ2 28 0 q = σ 6 0 q + (if q < i then (if 0 < pw σ (zz % σ 0 0 9) q then 0 else σ 20 (zz % σ 0 0 9) q) else 0)) → (∀ q, 0 ≤ q → q < 5 → σ2 39 0 q = pw σ (zz % σ 0 0 9) q) → (∀ q, 0 ≤ q → q < 5 → σ2 40 0 q = dv (s5 (nq σ (zz % σ 0 0 9))) (pw σ (zz % σ 0 0 9)) q) → JW p l e ({ frames := 9, cells := 77, slots := 411, locals := 150 } : Room) s m args below meth c cy D ad2 (Ar ad s.heap.size) 21 2 10 (MQ below (QcI cy D ad (fun z σ' => z = 1 ∧ Inv σ') s.heap.size) args s 77 411 (Ar ad s.heap.size)) σ2 388 [some (.ref (ad2 0 0)), some (.ref (ad2 22 0)), some (.ref (ad2 23 0)), some (.ref (ad2 24 0)), some (.ref (ad2 25 0)), some (.ref (ad2 26 0)), some (.ref (ad2 27 0)), some (.ref (ad2 28 0)), some (.ref (ad2 29 0)), some (.int (iI way)), some (.int (iI zz)), some (.int (iI ((zz % σ 0 0 9)))), some (.ref (ad2 39 0)), some (.ref (ad2 40 0)), some (.long (lI (s5 (nq σ (zz % σ 0 0 9))))), none, none, none, some (.int (iI 1)), some (.int (iI i)), none] [] := by
                      intro m_
                      induction m_ with
                      | zero => intro i σ2 u0 u1 u2 u3 u4 u5 u6 u7; omega
                      | succ m_ ih_388 =>
                        intro i σ2 u0 u1 u2 u3 u4 u5 u6 u7
                        have q26 : σ2 26 0 (5 * (zz % σ 0 0 9) + i) = if i < 5 then σ 20 (zz % σ 0 0 9) i else σ2 26 0 (5 * (zz % σ 0 0 9) + i) := by
                          split
                          · rw [u4, if_neg (by omega), (hy i (by omega) (by omega)).1]
                          · rfl
                        refine J_iload19 C2 dL_isCash_388 ?_
                        refine J_iconst C2 dL_isCash_390 ?_
                        refine J_icmp_ge (tgt := 485) C2 (by omega) (by omega) dL_isCash_391 (by decide) (fun c_391 => ?_) (fun c_391 => ?_)
                        · have GS2 : EqC σ σ2 := fun a b c x1 x2 => u3 a b c x1 (by omega) (by omega) (by omega)
                          have rS : Rel σ2 := r.cls GS2
                          have x9 : σ2 0 0 9 = σ 0 0 9 := GS2 0 0 9 (by decide) (by decide)
                          refine J_aload_0 C2 dL_isCash_485 ?_
                          refine J_iload11 C2 dL_isCash_486 ?_
                          refine J_KWI C2 (c_L_shared hfl hI2 _ (zz % σ 0 0 9) rS.hcc (by omega) rS.c20 (by omega)) (vx_cwSW 2 C2.1.2.2.2.2 gL_isCash_L_shared rfl rfl rfl (by decide +kernel) ⟨Nat.le_of_ble_eq_true rfl, Nat.le_of_ble_eq_true rfl⟩) rfl rfl (Nat.le_of_ble_eq_true rfl) dL_isCash_488 ⟨Nat.le_of_ble_eq_true rfl, Nat.le_of_ble_eq_true rfl⟩ (fun z_488 σ_488 hp => ?_)
                          skip
                          have t21 : ∀ q, σ2 21 (zz % σ 0 0 9) q = σ 21 (zz % σ 0 0 9) q := fun q => GS2 21 _ q (by decide) (by decide)
                          have t20 : ∀ q, σ2 20 (zz % σ 0 0 9) q = σ 20 (zz % σ 0 0 9) q := fun q => GS2 20 _ q (by decide) (by decide)
                          have ts : s5 (fun q => if σ2 21 (zz % σ 0 0 9) q = 0 then σ2 20 (zz % σ 0 0 9) q else 0) = s5 (nq σ (zz % σ 0 0 9)) := by
                            simp only [t21, t20]
                            exact hne.symm
                          have tp : pw σ2 (zz % σ 0 0 9) = pw σ (zz % σ 0 0 9) := by funext q; unfold pw; rw [t21, t20]
                          have hw9 : Wt (pw σ (zz % σ 0 0 9)) := ⟨fun q a b => (hpp q a b).1, by omega⟩
                          have hd0 := dv_nn (a := s5 (nq σ (zz % σ 0 0 9))) hsn hw9
                          have hz0 : z_488 = s5 (nq σ (zz % σ 0 0 9)) ∧ (∀ (a : Nat) (b c : Int), a < 8 ∨ 11 < a → (a ≠ 6 ∨ b ≠ 0 ∨ c < 0 ∨ 5 ≤ c) → (a ≠ 20 ∨ b ≠ (zz % σ 0 0 9) ∨ c < 0 ∨ 5 ≤ c) → σ_488 a b c = σ2 a b c) ∧ (∀ q, 0 ≤ q → q < 5 → σ_488 20 (zz % σ 0 0 9) q = if 0 < σ 21 (zz % σ 0 0 9) q then σ 20 (zz % σ 0 0 9) q + dv (s5 (nq σ (zz % σ 0 0 9))) (pw σ (zz % σ 0 0 9)) q else 0) ∧ ∀ q, 0 ≤ q → q < 5 → σ_488 6 0 q = σ 6 0 q + if 0 < σ 21 (zz % σ 0 0 9) q then 0 else σ 20 (zz % σ 0 0 9) q := by
                            rcases hp with ⟨h1, ⟨h2, h3, h4⟩, h5⟩ | ⟨h1, h2, h3⟩
                            · rw [ts] at h1
                              refine ⟨h1, h2, fun q a b => ?_, fun q a b => ?_⟩
                              · have := h3 q a b
                                rw [ts, t21, t20, tp] at this
                                exact this
                              · have := h4 q a b
                                rw [t21, t20, GS2 6 0 q (by decide) (by decide)] at this
                                exact this
                            · exfalso
                              rw [ts] at h3
                              refine h3.2 ⟨?_, by omega⟩
                              obtain ⟨q, a, b, c⟩ := hpe.mp (by omega)
                              exact ⟨q, a, b, by rw [t21]; exact c⟩
                          obtain ⟨hz9, hA1, hA2, hA3⟩ := hz0
                          have hq9 : ∀ q, 0 ≤ q → q < 5 → (0 < pw σ (zz % σ 0 0 9) q ↔ 0 < σ 21 (zz % σ 0 0 9) q) := fun q a b => r.pw_pos (by omega) (by omega) a b
                          have iv9 : Inv σ_488 := by
                            have e9 : i = 5 := by omega
                            subst e9
                            have hX : Eqx (fun a b c => (a = 20 ∧ b = (zz % σ 0 0 9)) ∨ a = 6 ∨ a = 28 ∨ (a = 26 ∧ (b ≠ 0 ∨ (5 * (zz % σ 0 0 9) ≤ c ∧ c < 5 * (zz % σ 0 0 9) + 5)))) σ σ_488 := fun a b c x1 x2 x3 => by
                              rw [hA1 a b c x1 (by omega) (by omega)]
                              by_cases h26 : a = 26
                              · subst h26
                                by_cases hb : b = 0
                                · subst hb; rw [u4 c, if_neg (by omega)]
                                · exact absurd (Or.inr (Or.inr (Or.inr ⟨rfl, Or.inl hb⟩))) x3
                              · exact u3 a b c x1 x2 h26 (by omega)
                            have s20 : ∀ q, 0 ≤ q → q < 5 → σ_488 20 (zz % σ 0 0 9) q = (fun q => if 0 < pw σ (zz % σ 0 0 9) q then σ 20 (zz % σ 0 0 9) q + dv (s5 (nq σ (zz % σ 0 0 9))) (pw σ (zz % σ 0 0 9)) q else 0) q := fun q a b => by
                              rw [hA2 q a b]
                              try dsimp only
                              have := hq9 q a b
                              by_cases h : 0 < σ 21 (zz % σ 0 0 9) q
                              · rw [if_pos h, if_pos (this.mpr h)]
                              · rw [if_neg h, if_neg (fun z => h (this.mp z))]
                            refine ⟨r.t_share (f := (fun q => if 0 < pw σ (zz % σ 0 0 9) q then σ 20 (zz % σ 0 0 9) q + dv (s5 (nq σ (zz % σ 0 0 9))) (pw σ (zz % σ 0 0 9)) q else 0)) hk9 (fun q a b => ?_) ?_ hX s20, lw.t_share hk9 hX (fun q a b => ?_) (fun q a b => ?_)⟩
                            · try dsimp only
                              have h1 := hc9 q a b
                              have h2 := hd0 q a b
                              have h3 := hq9 q a b
                              split <;> omega
                            · have hs1 : s5 (σ 20 (zz % σ 0 0 9)) ≤ 10000000 := r.2.2.2.2.2.2.2 (zz % σ 0 0 9) (by omega) (by omega)
                              have hs2 : s5 (fun q => if 0 < pw σ (zz % σ 0 0 9) q then σ 20 (zz % σ 0 0 9) q + dv (s5 (nq σ (zz % σ 0 0 9))) (pw σ (zz % σ 0 0 9)) q else 0) = s5 (pw σ (zz % σ 0 0 9)) + s5 (fun q => if 0 < pw σ (zz % σ 0 0 9) q then dv (s5 (nq σ (zz % σ 0 0 9))) (pw σ (zz % σ 0 0 9)) q else 0) := by
                                rw [← s5_add]
                                exact s5_congr (fun q a b => by
                                  try dsimp only
                                  by_cases h : 0 < pw σ (zz % σ 0 0 9) q
                                  · rw [if_pos h, if_pos h]
                                    have := (hq9 q a b).mp h
                                    unfold pw
                                    rw [if_pos this]
                                  · rw [if_neg h, if_neg h]
                                    have := hpp q a b
                                    omega)
                              have hs3 : s5 (fun q => if 0 < pw σ (zz % σ 0 0 9) q then dv (s5 (nq σ (zz % σ 0 0 9))) (pw σ (zz % σ 0 0 9)) q else 0) ≤ s5 (dv (s5 (nq σ (zz % σ 0 0 9))) (pw σ (zz % σ 0 0 9))) := s5_le (fun q a b => by
                                have := hd0 q a b
                                split <;> omega)
                              rw [dv_sum hw9] at hs3
                              have hs4 : s5 (pw σ (zz % σ 0 0 9)) + s5 (nq σ (zz % σ 0 0 9)) = s5 (σ 20 (zz % σ 0 0 9)) := by
                                rw [← s5_add]
                                exact s5_congr (fun q a b => by
                                  have h1 := hq9 q a b
                                  have h2 := hc9 q a b
                                  unfold nq
                                  by_cases h : 0 < pw σ (zz % σ 0 0 9) q
                                  · rw [if_pos h]
                                    unfold pw
                                    rw [if_pos (h1.mp h)]
                                    omega
                                  · rw [if_neg h]
                                    have := hpp q a b
                                    omega)
                              omega
                            · rw [hA1 26 _ _ (by decide) (by omega) (by omega), u4, if_pos (by omega), s20 q a b, show 5 * (zz % σ 0 0 9) + q - 5 * (zz % σ 0 0 9) = q from by omega]
                            · rw [hA1 28 _ _ (by decide) (by omega) (by omega), u5 q a b, if_pos (by omega), hA3 q a b]
                              have := hq9 q a b
                              by_cases h : 0 < σ 21 (zz % σ 0 0 9) q
                              · rw [if_pos h, if_pos (this.mpr h)]
                              · rw [if_neg h, if_neg (fun z => h (this.mp z))]
                          refine J_iload18 C2 dL_isCash_491 ?_
                          refine J_if_eq (tgt := 502) C2 (by omega) dL_isCash_493 (by decide) (fun c_493 => ?_) (fun c_493 => ?_)
                          · exact absurd c_493 (by decide)
                          · refine J_lload14 C2 dL_isCash_496 ?_
                            refine J_l2i C2 dL_isCash_498 ?_
                            refine J_goto (tgt := 504) C2 dL_isCash_499 (by decide) ?_
                            refine J_icmp_neS (tgt := 511) C2 (by
                              exact hz9
                              ) dL_isCash_504 (by decide) ?_
                            refine J_iconst C2 dL_isCash_507 ?_
                            refine J_goto (tgt := 512) C2 dL_isCash_508 (by decide) ?_
                            refine J_back hs2 ?_
                            refine J_retZ C hr (by exact Or.inr rfl) (by decide) (by decide) dL_isCash_512 ?_
                            exact ⟨rfl, iv9⟩
                        · refine J_iload18 C2 dL_isCash_394 ?_
                          refine J_if_eq (tgt := 485) C2 (by omega) dL_isCash_396 (by decide) (fun c_396 => ?_) (fun c_396 => ?_)
                          · exact absurd c_396 (by decide)
                          · refine J_aload12 C2 dL_isCash_399 ?_
                            refine J_iload19 C2 dL_isCash_401 ?_
                            refine J_laload C2 (k39 x39) (by decide) (by omega) dL_isCash_403 ?_
                            rw [u6 i (by omega) (by omega)]
                            refine J_lconst (z := 0) C2 (by decide) dL_isCash_404 ?_
                            refine J_lif_le (tgt := 413) C2 (by have := hpp i (by omega) (by omega); omega) (by omega) dL_isCash_405 dL_isCash_406 (by decide) (fun c_405 => ?_) (fun c_405 => ?_)
                            · refine J_iconst C2 dL_isCash_413 ?_
                              refine J_istore20 C2 (by decide) rfl dL_isCash_414 ?_
                              refine J_aload7 C2 dL_isCash_416 ?_
                              refine J_iload19 C2 dL_isCash_418 ?_
                              refine J_dup2 C2 rfl rfl dL_isCash_420 ?_
                              refine J_iaload C2 (k28 x28) (by decide) (by omega) dL_isCash_421 ?_
                              skip
                              refine J_iload20 C2 dL_isCash_422 ?_
                              refine J_if_eq (tgt := 431) C2 (by omega) dL_isCash_424 (by decide) (fun c_424 => ?_) (fun c_424 => ?_)
                              · refine J_aload5 C2 dL_isCash_431 ?_
                                refine J_iconst C2 dL_isCash_433 ?_
                                refine J_iload11 C2 dL_isCash_434 ?_
                                refine J_imul C2 dL_isCash_436 ?_
                                refine J_iload19 C2 dL_isCash_437 ?_
                                refine J_iadd C2 dL_isCash_439 ?_
                                refine J_iaload C2 (k26 x26) (by decide) (by omega) dL_isCash_440 ?_
                                skip
                                refine J_iadd C2 dL_isCash_441 ?_
                                refine J_iastore C2 (k28 x28) (by decide) (by omega) dL_isCash_442 ?_
                                refine J_aload5 C2 dL_isCash_443 ?_
                                refine J_iconst C2 dL_isCash_445 ?_
                                refine J_iload11 C2 dL_isCash_446 ?_
                                refine J_imul C2 dL_isCash_448 ?_
                                refine J_iload19 C2 dL_isCash_449 ?_
                                refine J_iadd C2 dL_isCash_451 ?_
                                refine J_iload20 C2 dL_isCash_452 ?_
                                refine J_if_eq (tgt := 477) C2 (by omega) dL_isCash_454 (by decide) (fun c_454 => ?_) (fun c_454 => ?_)
                                · refine J_iconst C2 dL_isCash_477 ?_
                                  refine J_iastore C2 (k26 x26) (by decide) (by omega) dL_isCash_478 ?_
                                  refine J_iinc19 C2 (by decide) rfl dL_isCash_479 ?_
                                  refine J_goto (tgt := 388) C2 dL_isCash_482 (by decide) ?_
                                  -- to the cut at 388
                                  refine J_fg20 ?_
                                  refine ih_388 _ _ ?_ ?_ ?_ ?_ ?_ ?_ ?_ ?_
                                  · omega
                                  · omega
                                  · omega
                                  · intro a b c x1 x2 x3 x4
                                    rw [su_nk x3, su_nk x4]
                                    exact u3 a b c x1 x2 x3 x4
                                  · intro x
                                    rw [su_rw0]
                                    split
                                    · rename_i e
                                      rw [if_pos (by omega), e, show 5 * (zz % σ 0 0 9) + i - 5 * (zz % σ 0 0 9) = i from by omega]
                                      try dsimp only
                                      first
                                        | (rw [if_pos (by omega), su_nk (by decide), su_nk (by decide), u4, if_neg (by omega), (hy i (by omega) (by omega)).1, u7 i (by omega) (by omega)])
                                        | (rw [if_neg (by omega)])
                                    · rename_i e
                                      rw [su_nk (by decide), u4 x]
                                      by_cases hl : 5 * (zz % σ 0 0 9) ≤ x ∧ x < 5 * (zz % σ 0 0 9) + i
                                      · rw [if_pos hl, if_pos (by omega)]
                                      · rw [if_neg hl, if_neg (by omega)]
                                  · intro q a b
                                    rw [su_nk (by decide), su_rw0]
                                    split
                                    · rename_i e
                                      subst e
                                      rw [u5 q a b, if_neg (show ¬ q < q by omega), if_pos (show q < q + 1 by omega)]
                                      first
                                        | (rw [if_pos (by omega)]; omega)
                                        | (rw [if_neg (by omega)]; omega)
                                    · rename_i e
                                      rw [u5 q a b]
                                      by_cases hl : q < i
                                      · rw [if_pos hl, if_pos (show q < i + 1 by omega)]
                                      · rw [if_neg hl, if_neg (show ¬ q < i + 1 by omega)]
                                  · intro q a b
                                    rw [su_nk (by decide), su_nk (by decide)]
                                    exact u6 q a b
                                  · intro q a b
                                    rw [su_nk (by decide), su_nk (by decide)]
                                    exact u7 q a b
                                · exact absurd c_454 (by decide)
                              · exact absurd c_424 (by decide)
                            · refine J_iconst C2 dL_isCash_409 ?_
                              refine J_goto (tgt := 414) C2 dL_isCash_410 (by decide) ?_
                              refine J_istore20 C2 (by decide) rfl dL_isCash_414 ?_
                              refine J_aload7 C2 dL_isCash_416 ?_
                              refine J_iload19 C2 dL_isCash_418 ?_
                              refine J_dup2 C2 rfl rfl dL_isCash_420 ?_
                              refine J_iaload C2 (k28 x28) (by decide) (by omega) dL_isCash_421 ?_
                              skip
                              refine J_iload20 C2 dL_isCash_422 ?_
                              refine J_if_eq (tgt := 431) C2 (by omega) dL_isCash_424 (by decide) (fun c_424 => ?_) (fun c_424 => ?_)
                              · exact absurd c_424 (by decide)
                              · refine J_iconst C2 dL_isCash_427 ?_
                                refine J_goto (tgt := 441) C2 dL_isCash_428 (by decide) ?_
                                skip
                                refine J_iadd C2 dL_isCash_441 ?_
                                refine J_iastore C2 (k28 x28) (by decide) (by omega) dL_isCash_442 ?_
                                refine J_aload5 C2 dL_isCash_443 ?_
                                refine J_iconst C2 dL_isCash_445 ?_
                                refine J_iload11 C2 dL_isCash_446 ?_
                                refine J_imul C2 dL_isCash_448 ?_
                                refine J_iload19 C2 dL_isCash_449 ?_
                                refine J_iadd C2 dL_isCash_451 ?_
                                refine J_iload20 C2 dL_isCash_452 ?_
                                refine J_if_eq (tgt := 477) C2 (by omega) dL_isCash_454 (by decide) (fun c_454 => ?_) (fun c_454 => ?_)
                                · exact absurd c_454 (by decide)
                                · refine J_aload5 C2 dL_isCash_457 ?_
                                  refine J_iconst C2 dL_isCash_459 ?_
                                  refine J_iload11 C2 dL_isCash_460 ?_
                                  refine J_imul C2 dL_isCash_462 ?_
                                  refine J_iload19 C2 dL_isCash_463 ?_
                                  refine J_iadd C2 dL_isCash_465 ?_
                                  refine J_iaload C2 (k26 x26) (by decide) (by omega) dL_isCash_466 ?_
                                  refine J_aload13 C2 dL_isCash_467 ?_
                                  refine J_iload19 C2 dL_isCash_469 ?_
                                  refine J_laload C2 (k40 x40) (by decide) (by omega) dL_isCash_471 ?_
                                  refine J_l2i C2 dL_isCash_472 ?_
                                  refine J_iadd C2 dL_isCash_473 ?_
                                  refine J_goto (tgt := 478) C2 dL_isCash_474 (by decide) ?_
                                  refine J_iastore C2 (k26 x26) (by decide) (by omega) dL_isCash_478 ?_
                                  refine J_iinc19 C2 (by decide) rfl dL_isCash_479 ?_
                                  refine J_goto (tgt := 388) C2 dL_isCash_482 (by decide) ?_
                                  -- to the cut at 388
                                  refine J_fg20 ?_
                                  refine ih_388 _ _ ?_ ?_ ?_ ?_ ?_ ?_ ?_ ?_
                                  · omega
                                  · omega
                                  · omega
                                  · intro a b c x1 x2 x3 x4
                                    rw [su_nk x3, su_nk x4]
                                    exact u3 a b c x1 x2 x3 x4
                                  · intro x
                                    rw [su_rw0]
                                    split
                                    · rename_i e
                                      rw [if_pos (by omega), e, show 5 * (zz % σ 0 0 9) + i - 5 * (zz % σ 0 0 9) = i from by omega]
                                      try dsimp only
                                      first
                                        | (rw [if_pos (by omega), su_nk (by decide), su_nk (by decide), u4, if_neg (by omega), (hy i (by omega) (by omega)).1, u7 i (by omega) (by omega)])
                                        | (rw [if_neg (by omega)])
                                    · rename_i e
                                      rw [su_nk (by decide), u4 x]
                                      by_cases hl : 5 * (zz % σ 0 0 9) ≤ x ∧ x < 5 * (zz % σ 0 0 9) + i
                                      · rw [if_pos hl, if_pos (by omega)]
                                      · rw [if_neg hl, if_neg (by omega)]
                                  · intro q a b
                                    rw [su_nk (by decide), su_rw0]
                                    split
                                    · rename_i e
                                      subst e
                                      rw [u5 q a b, if_neg (show ¬ q < q by omega), if_pos (show q < q + 1 by omega)]
                                      first
                                        | (rw [if_pos (by omega)]; omega)
                                        | (rw [if_neg (by omega)]; omega)
                                    · rename_i e
                                      rw [u5 q a b]
                                      by_cases hl : q < i
                                      · rw [if_pos hl, if_pos (show q < i + 1 by omega)]
                                      · rw [if_neg hl, if_neg (show ¬ q < i + 1 by omega)]
                                  · intro q a b
                                    rw [su_nk (by decide), su_nk (by decide)]
                                    exact u6 q a b
                                  · intro q a b
                                    rw [su_nk (by decide), su_nk (by decide)]
                                    exact u7 q a b
                    refine J_lload14 C2 dL_isCash_376 ?_
                    refine J_aload12 C2 dL_isCash_378 ?_
                    refine J_aload13 C2 dL_isCash_380 ?_
                    refine J_KSV C2 (c_L_divide hfl hI2 _ (s5 (nq σ (zz % σ 0 0 9))) 39 40 (k39 x39) (k40 x40) (by decide) (by decide) (by decide) (by omega) (Wt.congr (fun q a b => (g4 q a (by omega)).symm) ⟨fun q a b => (hpp q a b).1, by omega⟩) (fun q a b => by rw [g4 q a (by omega)]; have := hpp q a b; omega)) (va_cwS 3 C2.1.2.2.2.2 gL_isCash_L_divide rfl rfl rfl (by decide +kernel) ⟨Nat.le_of_ble_eq_true rfl, Nat.le_of_ble_eq_true rfl⟩) rfl rfl (Nat.le_of_ble_eq_true rfl) dL_isCash_382 ⟨Nat.le_of_ble_eq_true rfl, Nat.le_of_ble_eq_true rfl⟩ (fun σ_382 hp => ?_)
                    have hp := hp.symm
                    subst hp
                    refine J_iconst C2 dL_isCash_385 ?_
                    refine J_istore19 C2 (by decide) rfl dL_isCash_386 ?_
                    -- to the cut at 388
                    refine J_fg16 ?_
                    refine K_388 6 _ _ ?_ ?_ ?_ ?_ ?_ ?_ ?_ ?_
                    · decide
                    · decide
                    · decide
                    · intro a b c x1 x2 x3 x4
                      rw [sf_nk (by omega)]
                      exact g3 a b c x1 x2 (fun z => z)
                    · intro x
                      rw [if_neg (by omega), sf_nk (by decide)]
                      exact g3.at 26 0 x (by decide)
                    · intro q a b
                      rw [if_neg (by omega), sf_nk (by decide), g3.at 28 0 q (by decide), lw.2.2.2.2.2.2.2.1 q a b]
                      omega
                    · intro q a b
                      rw [sf_nk (by decide)]
                      exact g4 q a (by omega)
                    · intro q a b
                      rw [sf_at a b]
                      exact dv_congr (fun x y z => g4 x y (by omega)) q a b
            · refine J_aload12 C2 dL_isCash_271 ?_
              refine J_iload18 C2 dL_isCash_273 ?_
              refine J_aload6 C2 dL_isCash_275 ?_
              refine J_iconst C2 dL_isCash_277 ?_
              refine J_iload11 C2 dL_isCash_278 ?_
              refine J_imul C2 dL_isCash_280 ?_
              refine J_iload18 C2 dL_isCash_281 ?_
              refine J_iadd C2 dL_isCash_283 ?_
              refine J_iaload C2 (k27 x27) (by decide) (by omega) dL_isCash_284 ?_
              rw [e27 (j : Int) (by omega) (by omega)]
              refine J_if_le (tgt := 302) C2 (by have := hc9 (j : Int) (by omega) (by omega); omega) dL_isCash_285 (by decide) (fun c_285 => ?_) (fun c_285 => ?_)
              · refine J_lconst (z := 0) C2 (by decide) dL_isCash_302 ?_
                refine J_lastore C2 (k39 x39) (by decide) (by omega) dL_isCash_303 ?_
                have hpw : pw σ (zz % σ 0 0 9) (j : Int) = if 0 < σ 21 (zz % σ 0 0 9) (j : Int) then σ 20 (zz % σ 0 0 9) (j : Int) else 0 := rfl
                refine J_lload16 C2 dL_isCash_304 ?_
                refine J_aload12 C2 dL_isCash_306 ?_
                refine J_iload18 C2 dL_isCash_308 ?_
                refine J_laload C2 (k39 x39) (by decide) (by omega) dL_isCash_310 ?_
                rw [su_at]
                refine J_ladd C2 dL_isCash_311 ?_
                refine J_lstore16 C2 (by decide) rfl dL_isCash_312 ?_
                refine J_lload14 C2 dL_isCash_314 ?_
                refine J_aload12 C2 dL_isCash_316 ?_
                refine J_iload18 C2 dL_isCash_318 ?_
                refine J_laload C2 (k39 x39) (by decide) (by omega) dL_isCash_320 ?_
                rw [su_at]
                refine J_lconst (z := 0) C2 (by decide) dL_isCash_321 ?_
                skip
                refine J_lif_le (tgt := 330) C2 (by have := hc9 (j : Int) (by omega) (by omega); omega) (by omega) dL_isCash_322 dL_isCash_323 (by decide) (fun c_322 => ?_) (fun c_322 => ?_)
                · refine J_aload5 C2 dL_isCash_330 ?_
                  refine J_iconst C2 dL_isCash_332 ?_
                  refine J_iload11 C2 dL_isCash_333 ?_
                  refine J_imul C2 dL_isCash_335 ?_
                  refine J_iload18 C2 dL_isCash_336 ?_
                  refine J_iadd C2 dL_isCash_338 ?_
                  refine J_iaload C2 (k26 x26) (by decide) (by omega) dL_isCash_339 ?_
                  rw [su_nk (by decide), e26 (j : Int) (by omega) (by omega)]
                  refine J_i2l C2 (by have := hc9 (j : Int) (by omega) (by omega); omega) dL_isCash_340 ?_
                  refine J_ladd C2 dL_isCash_341 ?_
                  refine J_lstore14 C2 (by decide) rfl dL_isCash_342 ?_
                  refine J_iinc18 C2 (by decide) rfl dL_isCash_344 ?_
                  refine J_goto (tgt := 265) C2 dL_isCash_347 (by decide) ?_
                  -- to the cut at 265
                  refine ih_265 _ _ _ _ ?_ ?_ ?_ ?_ ?_ ?_
                  · omega
                  · omega
                  · omega
                  · exact fun a b c x1 x2 x3 => by rw [su_nk (by omega)]; exact g3 a b c x1 x2 x3
                  · intro q a b
                    rw [su_rw0]
                    split
                    · rename_i e
                      subst e
                      unfold pw
                      first
                        | rw [if_neg (by omega)]
                        | rw [if_pos (by omega)]
                    · exact g4 q a (by omega)
                  · refine ⟨j + 1, by omega, ?_, ?_⟩
                    · have hc0 := hc9 (j : Int) (by omega) (by omega)
                      simp only [sN]
                      have hn : nq σ (zz % σ 0 0 9) (j : Int) = if 0 < pw σ (zz % σ 0 0 9) (j : Int) then 0 else σ 20 (zz % σ 0 0 9) (j : Int) := rfl
                      by_cases h21 : 0 < σ 21 (zz % σ 0 0 9) (j : Int)
                      · rw [if_pos h21] at hpw
                        rw [hpw] at hn
                        by_cases h20 : 0 < σ 20 (zz % σ 0 0 9) (j : Int)
                        · rw [if_pos h20] at hn; omega
                        · omega
                      · rw [if_neg h21] at hpw
                        rw [hpw, if_neg (by decide)] at hn
                        omega
                    · simp only [sN]
                      unfold pw
                      first
                        | rw [if_neg (by omega)]
                        | rw [if_pos (by omega)]
                · refine J_lconst (z := 0) C2 (by decide) dL_isCash_326 ?_
                  refine J_goto (tgt := 341) C2 dL_isCash_327 (by decide) ?_
                  refine J_ladd C2 dL_isCash_341 ?_
                  refine J_lstore14 C2 (by decide) rfl dL_isCash_342 ?_
                  refine J_iinc18 C2 (by decide) rfl dL_isCash_344 ?_
                  refine J_goto (tgt := 265) C2 dL_isCash_347 (by decide) ?_
                  -- to the cut at 265
                  refine ih_265 _ _ _ _ ?_ ?_ ?_ ?_ ?_ ?_
                  · omega
                  · omega
                  · omega
                  · exact fun a b c x1 x2 x3 => by rw [su_nk (by omega)]; exact g3 a b c x1 x2 x3
                  · intro q a b
                    rw [su_rw0]
                    split
                    · rename_i e
                      subst e
                      unfold pw
                      first
                        | rw [if_neg (by omega)]
                        | rw [if_pos (by omega)]
                    · exact g4 q a (by omega)
                  · refine ⟨j + 1, by omega, ?_, ?_⟩
                    · have hc0 := hc9 (j : Int) (by omega) (by omega)
                      simp only [sN]
                      have hn : nq σ (zz % σ 0 0 9) (j : Int) = if 0 < pw σ (zz % σ 0 0 9) (j : Int) then 0 else σ 20 (zz % σ 0 0 9) (j : Int) := rfl
                      by_cases h21 : 0 < σ 21 (zz % σ 0 0 9) (j : Int)
                      · rw [if_pos h21] at hpw
                        rw [hpw] at hn
                        by_cases h20 : 0 < σ 20 (zz % σ 0 0 9) (j : Int)
                        · rw [if_pos h20] at hn; omega
                        · omega
                      · rw [if_neg h21] at hpw
                        rw [hpw, if_neg (by decide)] at hn
                        omega
                    · simp only [sN]
                      unfold pw
                      first
                        | rw [if_neg (by omega)]
                        | rw [if_pos (by omega)]
              · refine J_aload5 C2 dL_isCash_288 ?_
                refine J_iconst C2 dL_isCash_290 ?_
                refine J_iload11 C2 dL_isCash_291 ?_
                refine J_imul C2 dL_isCash_293 ?_
                refine J_iload18 C2 dL_isCash_294 ?_
                refine J_iadd C2 dL_isCash_296 ?_
                refine J_iaload C2 (k26 x26) (by decide) (by omega) dL_isCash_297 ?_
                rw [e26 (j : Int) (by omega) (by omega)]
                refine J_i2l C2 (by have := hc9 (j : Int) (by omega) (by omega); omega) dL_isCash_298 ?_
                refine J_goto (tgt := 303) C2 dL_isCash_299 (by decide) ?_
                refine J_lastore C2 (k39 x39) (by decide) (by omega) dL_isCash_303 ?_
                have hpw : pw σ (zz % σ 0 0 9) (j : Int) = if 0 < σ 21 (zz % σ 0 0 9) (j : Int) then σ 20 (zz % σ 0 0 9) (j : Int) else 0 := rfl
                refine J_lload16 C2 dL_isCash_304 ?_
                refine J_aload12 C2 dL_isCash_306 ?_
                refine J_iload18 C2 dL_isCash_308 ?_
                refine J_laload C2 (k39 x39) (by decide) (by omega) dL_isCash_310 ?_
                rw [su_at]
                refine J_ladd C2 dL_isCash_311 ?_
                refine J_lstore16 C2 (by decide) rfl dL_isCash_312 ?_
                refine J_lload14 C2 dL_isCash_314 ?_
                refine J_aload12 C2 dL_isCash_316 ?_
                refine J_iload18 C2 dL_isCash_318 ?_
                refine J_laload C2 (k39 x39) (by decide) (by omega) dL_isCash_320 ?_
                rw [su_at]
                refine J_lconst (z := 0) C2 (by decide) dL_isCash_321 ?_
                skip
                refine J_lif_le (tgt := 330) C2 (by have := hc9 (j : Int) (by omega) (by omega); omega) (by omega) dL_isCash_322 dL_isCash_323 (by decide) (fun c_322 => ?_) (fun c_322 => ?_)
                · refine J_aload5 C2 dL_isCash_330 ?_
                  refine J_iconst C2 dL_isCash_332 ?_
                  refine J_iload11 C2 dL_isCash_333 ?_
                  refine J_imul C2 dL_isCash_335 ?_
                  refine J_iload18 C2 dL_isCash_336 ?_
                  refine J_iadd C2 dL_isCash_338 ?_
                  refine J_iaload C2 (k26 x26) (by decide) (by omega) dL_isCash_339 ?_
                  rw [su_nk (by decide), e26 (j : Int) (by omega) (by omega)]
                  refine J_i2l C2 (by have := hc9 (j : Int) (by omega) (by omega); omega) dL_isCash_340 ?_
                  refine J_ladd C2 dL_isCash_341 ?_
                  refine J_lstore14 C2 (by decide) rfl dL_isCash_342 ?_
                  refine J_iinc18 C2 (by decide) rfl dL_isCash_344 ?_
                  refine J_goto (tgt := 265) C2 dL_isCash_347 (by decide) ?_
                  -- to the cut at 265
                  refine ih_265 _ _ _ _ ?_ ?_ ?_ ?_ ?_ ?_
                  · omega
                  · omega
                  · omega
                  · exact fun a b c x1 x2 x3 => by rw [su_nk (by omega)]; exact g3 a b c x1 x2 x3
                  · intro q a b
                    rw [su_rw0]
                    split
                    · rename_i e
                      subst e
                      unfold pw
                      first
                        | rw [if_neg (by omega)]
                        | rw [if_pos (by omega)]
                    · exact g4 q a (by omega)
                  · refine ⟨j + 1, by omega, ?_, ?_⟩
                    · have hc0 := hc9 (j : Int) (by omega) (by omega)
                      simp only [sN]
                      have hn : nq σ (zz % σ 0 0 9) (j : Int) = if 0 < pw σ (zz % σ 0 0 9) (j : Int) then 0 else σ 20 (zz % σ 0 0 9) (j : Int) := rfl
                      by_cases h21 : 0 < σ 21 (zz % σ 0 0 9) (j : Int)
                      · rw [if_pos h21] at hpw
                        rw [hpw] at hn
                        by_cases h20 : 0 < σ 20 (zz % σ 0 0 9) (j : Int)
                        · rw [if_pos h20] at hn; omega
                        · omega
                      · rw [if_neg h21] at hpw
                        rw [hpw, if_neg (by decide)] at hn
                        omega
                    · simp only [sN]
                      unfold pw
                      first
                        | rw [if_neg (by omega)]
                        | rw [if_pos (by omega)]
                · refine J_lconst (z := 0) C2 (by decide) dL_isCash_326 ?_
                  refine J_goto (tgt := 341) C2 dL_isCash_327 (by decide) ?_
                  refine J_ladd C2 dL_isCash_341 ?_
                  refine J_lstore14 C2 (by decide) rfl dL_isCash_342 ?_
                  refine J_iinc18 C2 (by decide) rfl dL_isCash_344 ?_
                  refine J_goto (tgt := 265) C2 dL_isCash_347 (by decide) ?_
                  -- to the cut at 265
                  refine ih_265 _ _ _ _ ?_ ?_ ?_ ?_ ?_ ?_
                  · omega
                  · omega
                  · omega
                  · exact fun a b c x1 x2 x3 => by rw [su_nk (by omega)]; exact g3 a b c x1 x2 x3
                  · intro q a b
                    rw [su_rw0]
                    split
                    · rename_i e
                      subst e
                      unfold pw
                      first
                        | rw [if_neg (by omega)]
                        | rw [if_pos (by omega)]
                    · exact g4 q a (by omega)
                  · refine ⟨j + 1, by omega, ?_, ?_⟩
                    · have hc0 := hc9 (j : Int) (by omega) (by omega)
                      simp only [sN]
                      have hn : nq σ (zz % σ 0 0 9) (j : Int) = if 0 < pw σ (zz % σ 0 0 9) (j : Int) then 0 else σ 20 (zz % σ 0 0 9) (j : Int) := rfl
                      by_cases h21 : 0 < σ 21 (zz % σ 0 0 9) (j : Int)
                      · rw [if_pos h21] at hpw
                        rw [hpw] at hn
                        by_cases h20 : 0 < σ 20 (zz % σ 0 0 9) (j : Int)
                        · rw [if_pos h20] at hn; omega
                        · omega
                      · rw [if_neg h21] at hpw
                        rw [hpw, if_neg (by decide)] at hn
                        omega
                    · simp only [sN]
                      unfold pw
                      first
                        | rw [if_neg (by omega)]
                        | rw [if_pos (by omega)]
        refine J_iconst C2 dL_isCash_262 ?_
        refine J_istore18 C2 (by decide) rfl dL_isCash_263 ?_
        -- to the cut at 265
        refine K_265 6 _ _ _ _ ?_ ?_ ?_ ?_ ?_ ?_
        · decide
        · decide
        · decide
        · exact Z0
        · intro q a b; omega
        · exact ⟨0, rfl, rfl, rfl⟩
      · obtain ⟨y1, y2⟩ := lw.2.2.2.2.2.2.1 (zz % σ 0 0 9) (zz / 8 % 5) (by omega) (by omega) (by omega) (by omega) (by omega)
        have hc9 := r.c20 (zz % σ 0 0 9) (zz / 8 % 5) (by omega) (by omega) (by omega) (by omega)
        refine J_iconst C dL_isCash_175 ?_
        refine J_iload11 C dL_isCash_176 ?_
        refine J_imul C dL_isCash_178 ?_
        refine J_iload10 C dL_isCash_179 ?_
        refine J_bipush C (by decide) dL_isCash_181 ?_
        refine J_idiv C (by omega) (by omega) dL_isCash_183 ?_
        refine J_iconst C dL_isCash_184 ?_
        refine J_irem C (by omega) (by omega) dL_isCash_185 ?_
        refine J_iadd C dL_isCash_186 ?_
        refine J_istore12 C (by decide) rfl dL_isCash_187 ?_
        refine J_aload5 C dL_isCash_189 ?_
        refine J_iload12 C dL_isCash_191 ?_
        refine J_iaload C (k26 x26) (by decide) (by omega) dL_isCash_193 ?_
        rw [y1]
        refine J_aload6 C dL_isCash_194 ?_
        refine J_iload12 C dL_isCash_196 ?_
        refine J_iaload C (k27 x27) (by decide) (by omega) dL_isCash_198 ?_
        rw [y2]
        refine J_isub C dL_isCash_199 ?_
        refine J_istore13 C (by decide) rfl dL_isCash_200 ?_
        refine J_aload6 C dL_isCash_202 ?_
        refine J_iload12 C dL_isCash_204 ?_
        refine J_aload5 C dL_isCash_206 ?_
        refine J_iload12 C dL_isCash_208 ?_
        refine J_iaload C (k26 x26) (by decide) (by omega) dL_isCash_210 ?_
        rw [y1]
        refine J_iastore C (k27 x27) (by decide) (by omega) dL_isCash_211 ?_
        have GA : EqC σ (su σ 27 0 (5 * (zz % σ 0 0 9) + zz / 8 % 5) (σ 20 (zz % σ 0 0 9) (zz / 8 % 5))) := fun a b c x1 x2 => su_nk (by omega)
        have rA := r.cls GA
        have x9 : (su σ 27 0 (5 * (zz % σ 0 0 9) + zz / 8 % 5) (σ 20 (zz % σ 0 0 9) (zz / 8 % 5))) 0 0 9 = σ 0 0 9 := GA 0 0 9 (by decide) (by decide)
        refine J_aload_0 C dL_isCash_212 ?_
        refine J_iload11 C dL_isCash_213 ?_
        refine J_iload10 C dL_isCash_215 ?_
        refine J_bipush C (by decide) dL_isCash_217 ?_
        refine J_idiv C (by omega) (by omega) dL_isCash_219 ?_
        refine J_iconst C dL_isCash_220 ?_
        refine J_irem C (by omega) (by omega) dL_isCash_221 ?_
        refine J_KWI C (c_L_paid hfl hI (su σ 27 0 (5 * (zz % σ 0 0 9) + zz / 8 % 5) (σ 20 (zz % σ 0 0 9) (zz / 8 % 5))) (zz % σ 0 0 9) (zz / 8 % 5) rA.hcc (by omega) (by omega) rA.hr9p (by omega)) (vx_cwSW 3 C.1.2.2.2.2 gL_isCash_L_paid rfl rfl rfl (by decide +kernel) ⟨Nat.le_of_ble_eq_true rfl, Nat.le_of_ble_eq_true rfl⟩) rfl rfl (Nat.le_of_ble_eq_true rfl) dL_isCash_222 ⟨Nat.le_of_ble_eq_true rfl, Nat.le_of_ble_eq_true rfl⟩ (fun z_222 σ_222 hp => ?_)
        skip
        refine J_iload13 C dL_isCash_225 ?_
        refine J_if_le (tgt := 235) C (by omega) dL_isCash_227 (by decide) (fun c_227 => ?_) (fun c_227 => ?_)
        · refine J_bipush C (by decide) dL_isCash_235 ?_
          refine J_icmp_neS (tgt := 244) C (by
            rcases hp with ⟨h1, h2, h3, h4⟩ | ⟨h1, h2, h3, h4⟩
            · rw [GA 20 _ _ (by decide) (by decide), GA 21 _ _ (by decide) (by decide)] at h1 h4
              omega
            · rw [GA 20 _ _ (by decide) (by decide), GA 21 _ _ (by decide) (by decide)] at h4
              omega
            ) dL_isCash_237 (by decide) ?_
          refine J_iconst C dL_isCash_240 ?_
          refine J_goto (tgt := 245) C dL_isCash_241 (by decide) ?_
          refine J_retZ C hr (by exact Or.inr rfl) (by decide) (by decide) dL_isCash_245 ?_
          refine ⟨rfl, ?_⟩
          have hX : Eqx (fun a b c => (a = 21 ∧ b = (zz % σ 0 0 9) ∧ c = zz / 8 % 5) ∨ (a = 27 ∧ c = 5 * (zz % σ 0 0 9) + zz / 8 % 5)) σ σ_222 := fun a b c x1 x2 x3 => by
            rcases hp with ⟨h1, h2, h3, h4⟩ | ⟨h1, h2, h3, h4⟩
            · rw [h2, su_ne3 (by omega), su_ne3 (by omega)]
            · rw [h2, su_ne3 (by omega)]
          have s21 : σ_222 21 (zz % σ 0 0 9) (zz / 8 % 5) = σ 20 (zz % σ 0 0 9) (zz / 8 % 5) := by
            rcases hp with ⟨h1, h2, h3, h4⟩ | ⟨h1, h2, h3, h4⟩
            · rw [h2, su_at, GA 20 _ _ (by decide) (by decide)]
            · rw [GA 20 _ _ (by decide) (by decide), GA 21 _ _ (by decide) (by decide)] at h4
              rw [h2, GA 21 _ _ (by decide) (by decide)]
              omega
          have s27 : σ_222 27 0 (5 * (zz % σ 0 0 9) + zz / 8 % 5) = σ 20 (zz % σ 0 0 9) (zz / 8 % 5) := by
            rcases hp with ⟨h1, h2, h3, h4⟩ | ⟨h1, h2, h3, h4⟩
            · rw [h2, su_nk (by decide), su_at]
            · rw [h2, su_at]
          exact ⟨r.t_pay (by omega) (by omega) hX s21, lw.t_pay (by omega) (by omega) hX (by rw [s27, s21])⟩
        · refine J_iload13 C dL_isCash_230 ?_
          refine J_goto (tgt := 237) C dL_isCash_232 (by decide) ?_
          refine J_icmp_neS (tgt := 244) C (by
            rcases hp with ⟨h1, h2, h3, h4⟩ | ⟨h1, h2, h3, h4⟩
            · rw [GA 20 _ _ (by decide) (by decide), GA 21 _ _ (by decide) (by decide)] at h1 h4
              omega
            · rw [GA 20 _ _ (by decide) (by decide), GA 21 _ _ (by decide) (by decide)] at h4
              omega
            ) dL_isCash_237 (by decide) ?_
          refine J_iconst C dL_isCash_240 ?_
          refine J_goto (tgt := 245) C dL_isCash_241 (by decide) ?_
          refine J_retZ C hr (by exact Or.inr rfl) (by decide) (by decide) dL_isCash_245 ?_
          refine ⟨rfl, ?_⟩
          have hX : Eqx (fun a b c => (a = 21 ∧ b = (zz % σ 0 0 9) ∧ c = zz / 8 % 5) ∨ (a = 27 ∧ c = 5 * (zz % σ 0 0 9) + zz / 8 % 5)) σ σ_222 := fun a b c x1 x2 x3 => by
            rcases hp with ⟨h1, h2, h3, h4⟩ | ⟨h1, h2, h3, h4⟩
            · rw [h2, su_ne3 (by omega), su_ne3 (by omega)]
            · rw [h2, su_ne3 (by omega)]
          have s21 : σ_222 21 (zz % σ 0 0 9) (zz / 8 % 5) = σ 20 (zz % σ 0 0 9) (zz / 8 % 5) := by
            rcases hp with ⟨h1, h2, h3, h4⟩ | ⟨h1, h2, h3, h4⟩
            · rw [h2, su_at, GA 20 _ _ (by decide) (by decide)]
            · rw [GA 20 _ _ (by decide) (by decide), GA 21 _ _ (by decide) (by decide)] at h4
              rw [h2, GA 21 _ _ (by decide) (by decide)]
              omega
          have s27 : σ_222 27 0 (5 * (zz % σ 0 0 9) + zz / 8 % 5) = σ 20 (zz % σ 0 0 9) (zz / 8 % 5) := by
            rcases hp with ⟨h1, h2, h3, h4⟩ | ⟨h1, h2, h3, h4⟩
            · rw [h2, su_nk (by decide), su_at]
            · rw [h2, su_at]
          exact ⟨r.t_pay (by omega) (by omega) hX s21, lw.t_pay (by omega) (by omega) hX (by rw [s27, s21])⟩
    · refine J_iconst C dL_isCash_158 ?_
      refine J_retZ C hr (by exact Or.inr rfl) (by decide) (by decide) dL_isCash_159 ?_
      exact ⟨rfl, iv⟩
  refine J_iload9 C dL_isCash_0 ?_
  refine J_if_ne (tgt := 151) C (by omega) dL_isCash_2 (by decide) (fun c_2 => ?_) (fun c_2 => ?_)
  · -- to the cut at 151
    refine K_151  
  · refine J_aload8 C dL_isCash_5 ?_
    refine J_iconst C dL_isCash_7 ?_
    refine J_iaload C (k29 x29) (by decide) (by omega) dL_isCash_8 ?_
    rw [lm.2.2.1]
    refine J_bipush C (by decide) dL_isCash_9 ?_
    refine J_icmp_ge (tgt := 151) C (by omega) (by omega) dL_isCash_11 (by decide) (fun c_11 => ?_) (fun c_11 => ?_)
    · -- to the cut at 151
      refine K_151  
    · refine J_iconst C dL_isCash_14 ?_
      refine J_newL (N := 5) (kd := 39) C ⟨by decide, by decide⟩ (fun _ _ => rfl) f39 w_L_isCash_acl ⟨by decide, by decide⟩ (by decide) ⟨Nat.le_of_ble_eq_true rfl, Nat.le_of_ble_eq_true rfl⟩ dL_isCash_15 (fun ad1 q_ e_ hI1 C1 hx1 hs1 x39 => ?_)
      subst e_
      rw [← (hs1 0 (by decide) (Or.inl (by decide))).2 0]
      rw [← (hs1 22 (by decide) (Or.inr x22)).2 0]
      rw [← (hs1 23 (by decide) (Or.inr x23)).2 0]
      rw [← (hs1 24 (by decide) (Or.inr x24)).2 0]
      rw [← (hs1 25 (by decide) (Or.inr x25)).2 0]
      rw [← (hs1 26 (by decide) (Or.inr x26)).2 0]
      rw [← (hs1 27 (by decide) (Or.inr x27)).2 0]
      rw [← (hs1 28 (by decide) (Or.inr x28)).2 0]
      rw [← (hs1 29 (by decide) (Or.inr x29)).2 0]
      have x22 : ad1 1000 22 = 1 := (hx1 22 (by decide)).trans x22
      have x23 : ad1 1000 23 = 1 := (hx1 23 (by decide)).trans x23
      have x24 : ad1 1000 24 = 1 := (hx1 24 (by decide)).trans x24
      have x25 : ad1 1000 25 = 1 := (hx1 25 (by decide)).trans x25
      have x26 : ad1 1000 26 = 1 := (hx1 26 (by decide)).trans x26
      have x27 : ad1 1000 27 = 1 := (hx1 27 (by decide)).trans x27
      have x28 : ad1 1000 28 = 1 := (hx1 28 (by decide)).trans x28
      have x29 : ad1 1000 29 = 1 := (hx1 29 (by decide)).trans x29
      have f34 : ¬ ad1 1000 34 = 1 := fun z => f34 ((hx1 34 (by decide)).symm.trans z)
      have f35 : ¬ ad1 1000 35 = 1 := fun z => f35 ((hx1 35 (by decide)).symm.trans z)
      have f36 : ¬ ad1 1000 36 = 1 := fun z => f36 ((hx1 36 (by decide)).symm.trans z)
      have f37 : ¬ ad1 1000 37 = 1 := fun z => f37 ((hx1 37 (by decide)).symm.trans z)
      have f38 : ¬ ad1 1000 38 = 1 := fun z => f38 ((hx1 38 (by decide)).symm.trans z)
      have f40 : ¬ ad1 1000 40 = 1 := fun z => f40 ((hx1 40 (by decide)).symm.trans z)
      refine J_astore11 C1 (by decide) rfl dL_isCash_17 ?_
      refine J_iconst C1 dL_isCash_19 ?_
      refine J_newL (N := 5) (kd := 40) C1 ⟨by decide, by decide⟩ (fun _ _ => rfl) f40 w_L_isCash_acl ⟨by decide, by decide⟩ (by decide) ⟨Nat.le_of_ble_eq_true rfl, Nat.le_of_ble_eq_true rfl⟩ dL_isCash_20 (fun ad2 q_ e_ hI2 C2 hx2 hs2 x40 => ?_)
      subst e_
      rw [← (hs2 0 (by decide) (Or.inl (by decide))).2 0]
      rw [← (hs2 22 (by decide) (Or.inr x22)).2 0]
      rw [← (hs2 23 (by decide) (Or.inr x23)).2 0]
      rw [← (hs2 24 (by decide) (Or.inr x24)).2 0]
      rw [← (hs2 25 (by decide) (Or.inr x25)).2 0]
      rw [← (hs2 26 (by decide) (Or.inr x26)).2 0]
      rw [← (hs2 27 (by decide) (Or.inr x27)).2 0]
      rw [← (hs2 28 (by decide) (Or.inr x28)).2 0]
      rw [← (hs2 29 (by decide) (Or.inr x29)).2 0]
      rw [← (hs2 39 (by decide) (Or.inr x39)).2 0]
      have x22 : ad2 1000 22 = 1 := (hx2 22 (by decide)).trans x22
      have x23 : ad2 1000 23 = 1 := (hx2 23 (by decide)).trans x23
      have x24 : ad2 1000 24 = 1 := (hx2 24 (by decide)).trans x24
      have x25 : ad2 1000 25 = 1 := (hx2 25 (by decide)).trans x25
      have x26 : ad2 1000 26 = 1 := (hx2 26 (by decide)).trans x26
      have x27 : ad2 1000 27 = 1 := (hx2 27 (by decide)).trans x27
      have x28 : ad2 1000 28 = 1 := (hx2 28 (by decide)).trans x28
      have x29 : ad2 1000 29 = 1 := (hx2 29 (by decide)).trans x29
      have x39 : ad2 1000 39 = 1 := (hx2 39 (by decide)).trans x39
      have f34 : ¬ ad2 1000 34 = 1 := fun z => f34 ((hx2 34 (by decide)).symm.trans z)
      have f35 : ¬ ad2 1000 35 = 1 := fun z => f35 ((hx2 35 (by decide)).symm.trans z)
      have f36 : ¬ ad2 1000 36 = 1 := fun z => f36 ((hx2 36 (by decide)).symm.trans z)
      have f37 : ¬ ad2 1000 37 = 1 := fun z => f37 ((hx2 37 (by decide)).symm.trans z)
      have f38 : ¬ ad2 1000 38 = 1 := fun z => f38 ((hx2 38 (by decide)).symm.trans z)
      have hs2 := hs1.trans hs2
      refine J_astore12 C2 (by decide) rfl dL_isCash_22 ?_
      refine J_aload_1 C2 dL_isCash_24 ?_
      refine J_aload_2 C2 dL_isCash_25 ?_
      refine J_aload_3 C2 dL_isCash_26 ?_
      refine J_aload4 C2 dL_isCash_27 ?_
      refine J_aload8 C2 dL_isCash_29 ?_
      refine J_aload11 C2 dL_isCash_31 ?_
      refine J_iload10 C2 dL_isCash_33 ?_
      refine J_aload8 C2 dL_isCash_35 ?_
      refine J_iconst C2 dL_isCash_37 ?_
      refine J_iaload C2 (k29 x29) (by decide) (by omega) dL_isCash_38 ?_
      rw [Z0.at 29 0 0 (by decide), lm.1]
      refine J_irem C2 (by omega) (by omega) dL_isCash_39 ?_
      refine J_KSV C2 (c_L_weigh hfl hI2 _ (zz % σ 0 0 4) 39 x22 x23 x24 x25 x29 f34 f35 f36 f37 f38 (k39 x39) (by decide) (by decide) (iv.congr Z0) (by rw [Z0.at 0 0 4 (by decide)]; exact hwz)) (va_cwS 7 C2.1.2.2.2.2 gL_isCash_L_weigh rfl rfl rfl (by decide +kernel) ⟨Nat.le_of_ble_eq_true rfl, Nat.le_of_ble_eq_true rfl⟩) rfl rfl (Nat.le_of_ble_eq_true rfl) dL_isCash_40 ⟨Nat.le_of_ble_eq_true rfl, Nat.le_of_ble_eq_true rfl⟩ (fun σ_40 hp => ?_)
      obtain ⟨hw1, hw2⟩ := hp
      have K_64 : ∀ (n_ : Nat) (i : Int) (σ1 : Sg), (0 ≤ i) → (i ≤ 5) → (5 - i < n_) → (∀ (a : Nat) (b c : Int), (a < 8 ∨ 11 < a) → a < 31 → a ≠ 26 → a ≠ 27 → σ1 a b c = σ a b c) → (∀ x, σ1 26 0 x = if 5 * σ 0 0 9 ≤ x ∧ x < 5 * σ 0 0 9 + i then (dv (1 + zz / 4 % 5000) (chp (shf σ) (ac σ (zz % σ 0 0 4)) 10000)) (x - 5 * σ 0 0 9) else σ 26 0 x) → (∀ x, σ1 27 0 x = if 5 * σ 0 0 9 ≤ x ∧ x < 5 * σ 0 0 9 + i then 0 else σ 27 0 x) → (∀ q, 0 ≤ q → q < 5 → σ1 40 0 q = (dv (1 + zz / 4 % 5000) (chp (shf σ) (ac σ (zz % σ 0 0 4)) 10000)) q) → JW p l e ({ frames := 9, cells := 77, slots := 411, locals := 150 } : Room) s m args below meth c cy D ad2 (Ar ad s.heap.size) 21 71 375 (MQ below (QcI cy D ad (fun z σ' => z = 1 ∧ Inv σ') s.heap.size) args s 77 411 (Ar ad s.heap.size)) σ1 64 [some (.ref (ad2 0 0)), some (.ref (ad2 22 0)), some (.ref (ad2 23 0)), some (.ref (ad2 24 0)), some (.ref (ad2 25 0)), some (.ref (ad2 26 0)), some (.ref (ad2 27 0)), some (.ref (ad2 28 0)), some (.ref (ad2 29 0)), some (.int (iI way)), some (.int (iI zz)), some (.ref (ad2 39 0)), some (.ref (ad2 40 0)), some (.int (iI i)), none, none, none, none, none, none, none] [] := by
        intro n_
        induction n_ with
        | zero => intro i σ1 g0 g1 g2 g3 g4 g5 g6; omega
        | succ n_ ih_64 =>
          intro i σ1 g0 g1 g2 g3 g4 g5 g6
          have m2 : σ1 29 0 2 = σ 0 0 9 := by rw [g3 29 0 2 (by decide) (by decide) (by decide) (by decide), lm.2.2.1]
          have m0 : σ1 29 0 0 = σ 0 0 4 := by rw [g3 29 0 0 (by decide) (by decide) (by decide) (by decide), lm.1]
          refine J_iload13 C2 dL_isCash_64 ?_
          refine J_iconst C2 dL_isCash_66 ?_
          refine J_icmp_ge (tgt := 107) C2 (by omega) (by omega) dL_isCash_67 (by decide) (fun c_67 => ?_) (fun c_67 => ?_)
          · refine J_aload8 C2 dL_isCash_107 ?_
            refine J_iconst C2 dL_isCash_109 ?_
            refine J_dup2 C2 rfl rfl dL_isCash_110 ?_
            refine J_iaload C2 (k29 x29) (by decide) (by omega) dL_isCash_111 ?_
            rw [m2]
            refine J_iconst C2 dL_isCash_112 ?_
            refine J_iadd C2 dL_isCash_113 ?_
            refine J_iastore C2 (k29 x29) (by decide) (by omega) dL_isCash_114 ?_
            have e5 : i = 5 := by omega
            subst e5
            have ham : 1 ≤ 1 + zz / 4 % 5000 ∧ 1 + zz / 4 % 5000 ≤ 5000 := by omega
            have GX : EqC σ (su σ1 29 0 2 (σ 0 0 9 + 1)) := fun a b c x1 x2 => by rw [su_nk (by omega)]; exact g3 a b c x1 (by omega) (by omega) (by omega)
            have rX := r.cls GX
            have x9 : (su σ1 29 0 2 (σ 0 0 9 + 1)) 0 0 9 = σ 0 0 9 := GX 0 0 9 (by decide) (by decide)
            have x4 : (su σ1 29 0 2 (σ 0 0 9 + 1)) 0 0 4 = σ 0 0 4 := GX 0 0 4 (by decide) (by decide)
            refine J_aload_0 C2 dL_isCash_115 ?_
            refine J_iload10 C2 dL_isCash_116 ?_
            refine J_aload8 C2 dL_isCash_118 ?_
            refine J_iconst C2 dL_isCash_120 ?_
            refine J_iaload C2 (k29 x29) (by decide) (by omega) dL_isCash_121 ?_
            rw [su_ne (Or.inr (by decide)), m0]
            refine J_irem C2 (by omega) (by omega) dL_isCash_122 ?_
            refine J_iconst C2 dL_isCash_123 ?_
            refine J_iload10 C2 dL_isCash_124 ?_
            refine J_iconst C2 dL_isCash_126 ?_
            refine J_idiv C2 (by omega) (by omega) dL_isCash_127 ?_
            refine J_sipush C2 (by decide) dL_isCash_128 ?_
            refine J_irem C2 (by omega) (by omega) dL_isCash_131 ?_
            refine J_iadd C2 dL_isCash_132 ?_
            refine J_XVI C2 (c_X3_call hfl hI2 (su σ1 29 0 2 (σ 0 0 9 + 1)) _ _ rX.hwc rX.hcc (by omega) (by omega) rX.hsh rX.hall) (cwV 2 C2.1.2.2.2.2 gL_isCash_X3_call rfl rfl rfl (by decide +kernel) ⟨Nat.le_of_ble_eq_true rfl, Nat.le_of_ble_eq_true rfl⟩) rc3 (by decide) rfl rfl (Nat.le_of_ble_eq_true rfl) dL_isCash_133 ⟨Nat.le_of_ble_eq_true rfl, Nat.le_of_ble_eq_true rfl⟩ (fun E σ_133 hx => ?_) (fun z_133 σ_133 hp => ?_)
            · skip
              obtain ⟨_, hx⟩ := hx
              rcases hx with ⟨_, hx⟩ | ⟨_, hx⟩ | ⟨_, hx⟩
              · exact absurd (by omega) hx
              · exact absurd (by omega) hx.2
              · exact absurd (by omega) hx.2
            obtain ⟨hz_, hF, _⟩ := hp
            refine J_aload8 C2 dL_isCash_136 ?_
            refine J_iconst C2 dL_isCash_138 ?_
            refine J_iaload C2 (k29 x29) (by decide) (by omega) dL_isCash_139 ?_
            refine J_iconst C2 dL_isCash_140 ?_
            refine J_isub C2 dL_isCash_141 ?_
            refine J_icmp_neS (tgt := 149) C2 (by
              rw [hz_, x9, hF 29 0 2 (by decide), su_nk (by decide), sf_nk (by decide), su_at]
              omega
              ) dL_isCash_142 (by decide) ?_
            refine J_iconst C2 dL_isCash_145 ?_
            refine J_goto (tgt := 150) C2 dL_isCash_146 (by decide) ?_
            refine J_back hs2 ?_
            refine J_retZ C hr (by exact Or.inr rfl) (by decide) (by decide) dL_isCash_150 ?_
            refine ⟨rfl, ?_⟩
            have h6 : σ 0 0 9 < 6 := by omega
            have hF2 : ∀ (a : Nat) (b c : Int), (a < 8 ∨ 11 < a) → σ_133 a b c = su (sf (su σ1 29 0 2 (σ 0 0 9 + 1)) 20 (σ 0 0 9) 5 (dv (1 + zz / 4 % 5000) (chp (shf σ) (ac σ (zz % σ 0 0 4)) 10000))) 0 0 9 (σ 0 0 9 + 1) a b c := fun a b c x => by
              rw [hF a b c x, x9, GX.sh, GX.ac]
            have hX : Eqx (fun a b c => (a = 20 ∧ b = σ 0 0 9) ∨ (a = 0 ∧ c = 9) ∨ (a = 26 ∧ (b ≠ 0 ∨ (5 * σ 0 0 9 ≤ c ∧ c < 5 * σ 0 0 9 + 5))) ∨ (a = 27 ∧ (b ≠ 0 ∨ (5 * σ 0 0 9 ≤ c ∧ c < 5 * σ 0 0 9 + 5))) ∨ (a = 29 ∧ c = 2)) σ σ_133 := fun a b c x1 x2 x3 => by
              rw [hF2 a b c x1, su_ne3 (by omega), sf_ne (by omega), su_ne3 (by omega)]
              by_cases h26 : a = 26
              · subst h26
                by_cases hb : b = 0
                · subst hb; rw [g4 c, if_neg (by omega)]
                · exact absurd (Or.inr (Or.inr (Or.inl ⟨rfl, Or.inl hb⟩))) x3
              · by_cases h27 : a = 27
                · subst h27
                  by_cases hb : b = 0
                  · subst hb; rw [g5 c, if_neg (by omega)]
                  · exact absurd (Or.inr (Or.inr (Or.inr (Or.inl ⟨rfl, Or.inl hb⟩)))) x3
                · exact g3 a b c x1 x2 h26 h27
            have hd0 := dv_nn (a := (1 + zz / 4 % 5000)) (by omega) hcw
            have s20 : ∀ q, 0 ≤ q → q < 5 → σ_133 20 (σ 0 0 9) q = (dv (1 + zz / 4 % 5000) (chp (shf σ) (ac σ (zz % σ 0 0 4)) 10000)) q := fun q a b => by rw [hF2 _ _ _ (by decide), su_nk (by decide), sf_at a b]
            have s09 : σ_133 0 0 9 = σ 0 0 9 + 1 := by rw [hF2 _ _ _ (by decide), su_at]
            refine ⟨r.t_call (f := (dv (1 + zz / 4 % 5000) (chp (shf σ) (ac σ (zz % σ 0 0 4)) 10000))) (by omega) hd0 (by rw [dv_sum hcw]; omega) hX s20 s09, lw.t_call h6 hX (fun q a b => ?_) (fun q a b => ?_) s09 ?_⟩
            · rw [s20 q a b, hF2 _ _ _ (by decide), su_nk (by decide), sf_nk (by decide), su_nk (by decide), g4, if_pos (by omega), show 5 * σ 0 0 9 + q - 5 * σ 0 0 9 = q from by omega]
            · have hc0 := r.2.2.2.2.2.2.1 (σ 0 0 9) q (by omega) (by omega) a b
              unfold RC at hc0
              rw [hF2 27 _ _ (by decide), su_nk (by decide), sf_nk (by decide), su_nk (by decide), g5, if_pos (by omega), hF2 21 _ _ (by decide), su_nk (by decide), sf_nk (by decide), su_nk (by decide), g3 21 _ _ (by decide) (by decide) (by decide) (by decide)]
              have := hc0.2 (by omega)
              omega
            · rw [hF2 _ _ _ (by decide), su_nk (by decide), sf_nk (by decide), su_at]
          · refine J_aload5 C2 dL_isCash_70 ?_
            refine J_iconst C2 dL_isCash_72 ?_
            refine J_aload8 C2 dL_isCash_73 ?_
            refine J_iconst C2 dL_isCash_75 ?_
            refine J_iaload C2 (k29 x29) (by decide) (by omega) dL_isCash_76 ?_
            rw [m2]
            refine J_imul C2 dL_isCash_77 ?_
            refine J_iload13 C2 dL_isCash_78 ?_
            refine J_iadd C2 dL_isCash_80 ?_
            refine J_aload12 C2 dL_isCash_81 ?_
            refine J_iload13 C2 dL_isCash_83 ?_
            refine J_laload C2 (k40 x40) (by decide) (by omega) dL_isCash_85 ?_
            skip
            refine J_l2i C2 dL_isCash_86 ?_
            refine J_iastore C2 (k26 x26) (by decide) (by omega) dL_isCash_87 ?_
            refine J_aload6 C2 dL_isCash_88 ?_
            refine J_iconst C2 dL_isCash_90 ?_
            refine J_aload8 C2 dL_isCash_91 ?_
            refine J_iconst C2 dL_isCash_93 ?_
            refine J_iaload C2 (k29 x29) (by decide) (by omega) dL_isCash_94 ?_
            rw [su_nk (by decide), m2]
            refine J_imul C2 dL_isCash_95 ?_
            refine J_iload13 C2 dL_isCash_96 ?_
            refine J_iadd C2 dL_isCash_98 ?_
            refine J_iconst C2 dL_isCash_99 ?_
            refine J_iastore C2 (k27 x27) (by decide) (by omega) dL_isCash_100 ?_
            refine J_iinc13 C2 (by decide) rfl dL_isCash_101 ?_
            refine J_goto (tgt := 64) C2 dL_isCash_104 (by decide) ?_
            -- to the cut at 64
            refine ih_64 _ _ ?_ ?_ ?_ ?_ ?_ ?_ ?_
            · omega
            · omega
            · omega
            · intro a b c x1 x2 x3 x4
              rw [su_nk x4, su_nk x3]
              exact g3 a b c x1 x2 x3 x4
            · intro x
              rw [su_nk (by decide), su_rw0]
              split
              · rename_i e
                rw [if_pos (by omega), e, g6 i (by omega) (by omega), show 5 * σ 0 0 9 + i - 5 * σ 0 0 9 = i from by omega]
              · rename_i e
                rw [g4 x]
                by_cases hl : 5 * σ 0 0 9 ≤ x ∧ x < 5 * σ 0 0 9 + i
                · rw [if_pos hl, if_pos (by omega)]
                · rw [if_neg hl, if_neg (by omega)]
            · intro x
              rw [su_rw0]
              split
              · rename_i e
                rw [if_pos (by omega)]
              · rename_i e
                rw [su_nk (by decide), g5 x]
                by_cases hl : 5 * σ 0 0 9 ≤ x ∧ x < 5 * σ 0 0 9 + i
                · rw [if_pos hl, if_pos (by omega)]
                · rw [if_neg hl, if_neg (by omega)]
            · intro q a b
              rw [su_nk (by decide), su_nk (by decide)]
              exact g6 q a b
      refine J_iconst C2 dL_isCash_43 ?_
      refine J_iload10 C2 dL_isCash_44 ?_
      refine J_iconst C2 dL_isCash_46 ?_
      refine J_idiv C2 (by omega) (by omega) dL_isCash_47 ?_
      refine J_sipush C2 (by decide) dL_isCash_48 ?_
      refine J_irem C2 (by omega) (by omega) dL_isCash_51 ?_
      refine J_iadd C2 dL_isCash_52 ?_
      have ham : 1 ≤ 1 + zz / 4 % 5000 ∧ 1 + zz / 4 % 5000 ≤ 5000 := by omega
      refine J_i2l C2 (by omega) dL_isCash_53 ?_
      refine J_aload11 C2 dL_isCash_54 ?_
      refine J_aload12 C2 dL_isCash_56 ?_
      refine J_KSV C2 (c_L_divide hfl hI2 _ _ 39 40 (k39 x39) (k40 x40) (by decide) (by decide) (by decide) (by omega) (hcw.congr (fun q a b => by rw [hw2 q a b, Z0.sh, Z0.ac])) (fun q a b => by rw [hw2 q a b, Z0.sh, Z0.ac]; have := hch q a b; omega)) (va_cwS 3 C2.1.2.2.2.2 gL_isCash_L_divide rfl rfl rfl (by decide +kernel) ⟨Nat.le_of_ble_eq_true rfl, Nat.le_of_ble_eq_true rfl⟩) rfl rfl (Nat.le_of_ble_eq_true rfl) dL_isCash_58 ⟨Nat.le_of_ble_eq_true rfl, Nat.le_of_ble_eq_true rfl⟩ (fun σ_58 hp => ?_)
      have hp := hp.symm
      subst hp
      refine J_iconst C2 dL_isCash_61 ?_
      refine J_istore13 C2 (by decide) rfl dL_isCash_62 ?_
      -- to the cut at 64
      refine K_64 6 _ _ ?_ ?_ ?_ ?_ ?_ ?_ ?_
      · decide
      · decide
      · decide
      · intro a b c x1 x2 x3 x4
        rw [sf_nk (by omega), hw1 a b c (by omega) (by omega), Z0 a b c x1 x2 (fun z => z)]
      · intro x
        rw [if_neg (by omega), sf_nk (by decide), hw1 26 0 x (by decide) (by decide), Z0.at 26 0 x (by decide)]
      · intro x
        rw [if_neg (by omega), sf_nk (by decide), hw1 27 0 x (by decide) (by decide), Z0.at 27 0 x (by decide)]
      · intro q a b
        rw [sf_at a b]
        exact dv_congr (fun x y z => by rw [hw2 x y z, Z0.sh, Z0.ac]) q a b
