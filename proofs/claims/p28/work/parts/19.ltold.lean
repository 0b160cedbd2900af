theorem foldS_16 {sh : Int → Int} {pen w : Int} {vw va el : Int → Int} {q : Int} : ∀ n : Nat, -1 ≤ foldS sh pen vw va w (T0f el) n 16 q ∧ foldS sh pen vw va w (T0f el) n 16 q ≤ n := by
  intro n
  induction n with
  | zero =>
    show -1 ≤ T0f el 16 q ∧ T0f el 16 q ≤ 0
    unfold T0f
    split
    · rw [if_neg (by decide), if_pos rfl]; omega
    · omega
  | succ n ih =>
    simp only [foldS]
    split
    · unfold stepS
      split
      · unfold costS
        rw [if_neg (by omega), if_neg (by omega)]
        omega
      · unfold incS
        split
        · rw [if_neg (by decide), if_neg (by decide), if_neg (by decide), if_pos rfl]
          split <;> omega
        · omega
    · omega
theorem Rel.ac16 {σ : Sg} (r : Rel σ) {w : Int} (h0 : 0 ≤ w) (h6 : w < 6) (q : Int) : -1 ≤ ac σ w 16 q ∧ ac σ w 16 q ≤ 60 := by
  have c := r.hvc
  rw [(r.2.2.2.2.2.1 w h0 h6).2]
  have := foldS_16 (sh := shf σ) (pen := σ 12 w 0) (w := w) (vw := σ 3 0) (va := σ 4 0) (el := σ 13 w) (q := q) (σ 0 0 7).toNat
  omega
theorem Eqs.at {σ τ : Sg} (h : Eqs σ τ) (a : Nat) (b c : Int) (h1 : (a < 8 ∨ 11 < a) ∧ a < 31) : τ a b c = σ a b c := h a b c h1.1 h1.2 (fun z => z)
set_option maxRecDepth 20000 in
theorem w_L_isTold_acl : Cond.arrayClass .long ∈ wsL_isTold := by decide +kernel
set_option maxHeartbeats 4000000 in
set_option maxRecDepth 100000 in
theorem c_L_isTold {l : Launch} (hfl : l.stackTraces = false) {cy : Nat → ClassId} {D : va_G} {ad : Ad} (hI : Inj ad) (σ : Sg) (x22 : ad 1000 22 = 1) (x23 : ad 1000 23 = 1) (x24 : ad 1000 24 = 1) (x25 : ad 1000 25 = 1) (x26 : ad 1000 26 = 1) (x27 : ad 1000 27 = 1) (x28 : ad 1000 28 = 1) (x29 : ad 1000 29 = 1) (f31 : ¬ ad 1000 31 = 1) (f32 : ¬ ad 1000 32 = 1) (f33 : ¬ ad 1000 33 = 1) (f34 : ¬ ad 1000 34 = 1) (f35 : ¬ ad 1000 35 = 1) (f36 : ¬ ad 1000 36 = 1) (f37 : ¬ ad 1000 37 = 1) (f38 : ¬ ad 1000 38 = 1) (iv : Inv σ) : KI l yL_isTold wsL_isTold ({ frames := 8, cells := 1404, slots := 8102, locals := 127 } : Room) cy D ad σ [.ref (ad 0 0), .ref (ad 22 0), .ref (ad 23 0), .ref (ad 24 0), .ref (ad 25 0), .ref (ad 26 0), .ref (ad 27 0), .ref (ad 28 0), .ref (ad 29 0)] (fun z σ' => z = 1 ∧ Eqs σ σ') 1404 8102 := by
  refine KI.of (lv0 := [some (.ref (ad 0 0)), some (.ref (ad 22 0)), some (.ref (ad 23 0)), some (.ref (ad 24 0)), some (.ref (ad 25 0)), some (.ref (ad 26 0)), some (.ref (ad 27 0)), some (.ref (ad 28 0)), some (.ref (ad 29 0)), none, none, none, none, none, none, none]) hfl hI (by decide) rfl (Nat.le_of_ble_eq_true rfl) rfl ?_
  intro p e s m args below meth c C hr
  have r := iv.1
  have lw := iv.2
  have c0 := lw.1
  unfold L0 at c0
  have lm := lw.2.1
  unfold Lm at lm
  have Z0 : Eqs σ (sz0 (sz0 (sz0 σ 31) 32) 33) := fun a b c _ x2 _ => by rw [sz0_nk (by omega), sz0_nk (by omega), sz0_nk (by omega)]
  have Z3 : ∀ q, sz0 (sz0 (sz0 σ 31) 32) 33 33 0 q = 0 := fun q => sz0_at
  refine J_bipush C (by decide) dL_isTold_0 ?_
  refine J_newL (N := 25) (kd := 31) C ⟨by decide, by decide⟩ (fun _ _ => rfl) f31 w_L_isTold_acl ⟨by decide, by decide⟩ (by decide) ⟨Nat.le_of_ble_eq_true rfl, Nat.le_of_ble_eq_true rfl⟩ dL_isTold_2 (fun ad1 q_ e_ hI1 C1 hx1 hs1 x31 => ?_)
  subst e_
  rw [← (hs1 0 (by decide) (Or.inl (by decide))).2 0]
  rw [← (hs1 22 (by decide) (Or.inr x22)).2 0]
  rw [← (hs1 23 (by decide) (Or.inr x23)).2 0]
  rw [← (hs1 24 (by decide) (Or.inr x24)).2 0]
  rw [← (hs1 25 (by decide) (Or.inr x25)).2 0]
  rw [← (hs1 26 (by decide) (Or.inr x26)).2 0]
  rw [← (hs1 27 (by decide) (Or.inr x27)).2 0]
  rw [← (hs1 28 (by decide) (Or.inr x28)).2 0]
  rw [← (hs1 29 (by decide) (Or.inr x29)).2 0]
  have x22 : ad1 1000 22 = 1 := (hx1 22 (by decide)).trans x22
  have x23 : ad1 1000 23 = 1 := (hx1 23 (by decide)).trans x23
  have x24 : ad1 1000 24 = 1 := (hx1 24 (by decide)).trans x24
  have x25 : ad1 1000 25 = 1 := (hx1 25 (by decide)).trans x25
  have x26 : ad1 1000 26 = 1 := (hx1 26 (by decide)).trans x26
  have x27 : ad1 1000 27 = 1 := (hx1 27 (by decide)).trans x27
  have x28 : ad1 1000 28 = 1 := (hx1 28 (by decide)).trans x28
  have x29 : ad1 1000 29 = 1 := (hx1 29 (by decide)).trans x29
  have f32 : ¬ ad1 1000 32 = 1 := fun z => f32 ((hx1 32 (by decide)).symm.trans z)
  have f33 : ¬ ad1 1000 33 = 1 := fun z => f33 ((hx1 33 (by decide)).symm.trans z)
  have f34 : ¬ ad1 1000 34 = 1 := fun z => f34 ((hx1 34 (by decide)).symm.trans z)
  have f35 : ¬ ad1 1000 35 = 1 := fun z => f35 ((hx1 35 (by decide)).symm.trans z)
  have f36 : ¬ ad1 1000 36 = 1 := fun z => f36 ((hx1 36 (by decide)).symm.trans z)
  have f37 : ¬ ad1 1000 37 = 1 := fun z => f37 ((hx1 37 (by decide)).symm.trans z)
  have f38 : ¬ ad1 1000 38 = 1 := fun z => f38 ((hx1 38 (by decide)).symm.trans z)
  refine J_astore9 C1 (by decide) rfl dL_isTold_4 ?_
  refine J_iconst C1 dL_isTold_6 ?_
  refine J_newL (N := 5) (kd := 32) C1 ⟨by decide, by decide⟩ (fun _ _ => rfl) f32 w_L_isTold_acl ⟨by decide, by decide⟩ (by decide) ⟨Nat.le_of_ble_eq_true rfl, Nat.le_of_ble_eq_true rfl⟩ dL_isTold_7 (fun ad2 q_ e_ hI2 C2 hx2 hs2 x32 => ?_)
  subst e_
  rw [← (hs2 0 (by decide) (Or.inl (by decide))).2 0]
  rw [← (hs2 22 (by decide) (Or.inr x22)).2 0]
  rw [← (hs2 23 (by decide) (Or.inr x23)).2 0]
  rw [← (hs2 24 (by decide) (Or.inr x24)).2 0]
  rw [← (hs2 25 (by decide) (Or.inr x25)).2 0]
  rw [← (hs2 26 (by decide) (Or.inr x26)).2 0]
  rw [← (hs2 27 (by decide) (Or.inr x27)).2 0]
  rw [← (hs2 28 (by decide) (Or.inr x28)).2 0]
  rw [← (hs2 29 (by decide) (Or.inr x29)).2 0]
  rw [← (hs2 31 (by decide) (Or.inr x31)).2 0]
  have x22 : ad2 1000 22 = 1 := (hx2 22 (by decide)).trans x22
  have x23 : ad2 1000 23 = 1 := (hx2 23 (by decide)).trans x23
  have x24 : ad2 1000 24 = 1 := (hx2 24 (by decide)).trans x24
  have x25 : ad2 1000 25 = 1 := (hx2 25 (by decide)).trans x25
  have x26 : ad2 1000 26 = 1 := (hx2 26 (by decide)).trans x26
  have x27 : ad2 1000 27 = 1 := (hx2 27 (by decide)).trans x27
  have x28 : ad2 1000 28 = 1 := (hx2 28 (by decide)).trans x28
  have x29 : ad2 1000 29 = 1 := (hx2 29 (by decide)).trans x29
  have x31 : ad2 1000 31 = 1 := (hx2 31 (by decide)).trans x31
  have f33 : ¬ ad2 1000 33 = 1 := fun z => f33 ((hx2 33 (by decide)).symm.trans z)
  have f34 : ¬ ad2 1000 34 = 1 := fun z => f34 ((hx2 34 (by decide)).symm.trans z)
  have f35 : ¬ ad2 1000 35 = 1 := fun z => f35 ((hx2 35 (by decide)).symm.trans z)
  have f36 : ¬ ad2 1000 36 = 1 := fun z => f36 ((hx2 36 (by decide)).symm.trans z)
  have f37 : ¬ ad2 1000 37 = 1 := fun z => f37 ((hx2 37 (by decide)).symm.trans z)
  have f38 : ¬ ad2 1000 38 = 1 := fun z => f38 ((hx2 38 (by decide)).symm.trans z)
  have hs2 := hs1.trans hs2
  refine J_astore10 C2 (by decide) rfl dL_isTold_9 ?_
  refine J_iconst C2 dL_isTold_11 ?_
  refine J_newL (N := 5) (kd := 33) C2 ⟨by decide, by decide⟩ (fun _ _ => rfl) f33 w_L_isTold_acl ⟨by decide, by decide⟩ (by decide) ⟨Nat.le_of_ble_eq_true rfl, Nat.le_of_ble_eq_true rfl⟩ dL_isTold_12 (fun ad3 q_ e_ hI3 C3 hx3 hs3 x33 => ?_)
  subst e_
  rw [← (hs3 0 (by decide) (Or.inl (by decide))).2 0]
  rw [← (hs3 22 (by decide) (Or.inr x22)).2 0]
  rw [← (hs3 23 (by decide) (Or.inr x23)).2 0]
  rw [← (hs3 24 (by decide) (Or.inr x24)).2 0]
  rw [← (hs3 25 (by decide) (Or.inr x25)).2 0]
  rw [← (hs3 26 (by decide) (Or.inr x26)).2 0]
  rw [← (hs3 27 (by decide) (Or.inr x27)).2 0]
  rw [← (hs3 28 (by decide) (Or.inr x28)).2 0]
  rw [← (hs3 29 (by decide) (Or.inr x29)).2 0]
  rw [← (hs3 31 (by decide) (Or.inr x31)).2 0]
  rw [← (hs3 32 (by decide) (Or.inr x32)).2 0]
  have x22 : ad3 1000 22 = 1 := (hx3 22 (by decide)).trans x22
  have x23 : ad3 1000 23 = 1 := (hx3 23 (by decide)).trans x23
  have x24 : ad3 1000 24 = 1 := (hx3 24 (by decide)).trans x24
  have x25 : ad3 1000 25 = 1 := (hx3 25 (by decide)).trans x25
  have x26 : ad3 1000 26 = 1 := (hx3 26 (by decide)).trans x26
  have x27 : ad3 1000 27 = 1 := (hx3 27 (by decide)).trans x27
  have x28 : ad3 1000 28 = 1 := (hx3 28 (by decide)).trans x28
  have x29 : ad3 1000 29 = 1 := (hx3 29 (by decide)).trans x29
  have x31 : ad3 1000 31 = 1 := (hx3 31 (by decide)).trans x31
  have x32 : ad3 1000 32 = 1 := (hx3 32 (by decide)).trans x32
  have f34 : ¬ ad3 1000 34 = 1 := fun z => f34 ((hx3 34 (by decide)).symm.trans z)
  have f35 : ¬ ad3 1000 35 = 1 := fun z => f35 ((hx3 35 (by decide)).symm.trans z)
  have f36 : ¬ ad3 1000 36 = 1 := fun z => f36 ((hx3 36 (by decide)).symm.trans z)
  have f37 : ¬ ad3 1000 37 = 1 := fun z => f37 ((hx3 37 (by decide)).symm.trans z)
  have f38 : ¬ ad3 1000 38 = 1 := fun z => f38 ((hx3 38 (by decide)).symm.trans z)
  have hs3 := hs2.trans hs3
  refine J_astore11 C3 (by decide) rfl dL_isTold_14 ?_
  have K_37 : ∀ (n_ : Nat) (i : Int) (j : Nat) (σ1 : Sg), (i = (j : Int)) → (i ≤ σ 0 0 7) → (σ 0 0 7 - i < n_) → (Eqs σ σ1) → (∀ q, σ1 33 0 q = 0) → JW p l e ({ frames := 8, cells := 1404, slots := 8102, locals := 127 } : Room) s m args below meth c cy D ad3 (Ar ad s.heap.size) 16 (3 + 12 * j) (35 + 72 * j) (MQ below (QcI cy D ad (fun z σ' => z = 1 ∧ Eqs σ σ') s.heap.size) args s 1404 8102 (Ar ad s.heap.size)) σ1 37 [some (.ref (ad3 0 0)), some (.ref (ad3 22 0)), some (.ref (ad3 23 0)), some (.ref (ad3 24 0)), some (.ref (ad3 25 0)), some (.ref (ad3 26 0)), some (.ref (ad3 27 0)), some (.ref (ad3 28 0)), some (.ref (ad3 29 0)), some (.ref (ad3 31 0)), some (.ref (ad3 32 0)), some (.ref (ad3 33 0)), some (.int (iI 1)), some (.int (iI i)), none, none] [] := by
    intro n_
    induction n_ with
    | zero => intro i j σ1 g0 g1 g2 g3 g4; omega
    | succ n_ ih_37 =>
      intro i j σ1 g0 g1 g2 g3 g4
      subst g0
      have i1 : Inv σ1 := iv.congr g3
      have e29 := fun q => g3.at 29 0 q (by decide)
      refine J_iload13 C3 dL_isTold_37 ?_
      refine J_aload8 C3 dL_isTold_39 ?_
      refine J_iconst C3 dL_isTold_41 ?_
      refine J_iaload C3 (k29 x29) (by decide) (by omega) dL_isTold_42 ?_
      rw [e29 1, lm.2.1]
      refine J_icmp_ge (tgt := 124) C3 (by omega) (by omega) dL_isTold_43 (by decide) (fun c_43 => ?_) (fun c_43 => ?_)
      · have K_127 : ∀ (n_ : Nat) (i : Int) (j : Nat) (σ1 : Sg), (i = (j : Int)) → (i ≤ σ 0 0 4) → (σ 0 0 4 - i < n_) → (Eqs σ σ1) → (∀ q, 0 ≤ q → q < 5 → σ1 33 0 q = sN (fun w => ac σ w 18 q - ac σ w 17 q) j) → JW p l e ({ frames := 8, cells := 1404, slots := 8102, locals := 127 } : Room) s m args below meth c cy D ad3 (Ar ad s.heap.size) 16 (195 + 313 * j) (1187 + 1765 * j) (MQ below (QcI cy D ad (fun z σ' => z = 1 ∧ Eqs σ σ') s.heap.size) args s 1404 8102 (Ar ad s.heap.size)) σ1 127 [some (.ref (ad3 0 0)), some (.ref (ad3 22 0)), some (.ref (ad3 23 0)), some (.ref (ad3 24 0)), some (.ref (ad3 25 0)), some (.ref (ad3 26 0)), some (.ref (ad3 27 0)), some (.ref (ad3 28 0)), some (.ref (ad3 29 0)), some (.ref (ad3 31 0)), some (.ref (ad3 32 0)), some (.ref (ad3 33 0)), some (.int (iI 1)), some (.int (iI i)), none, none] [] := by
          intro n_
          induction n_ with
          | zero => intro i j σ1 g0 g1 g2 g3 g4; omega
          | succ n_ ih_127 =>
            intro i j σ1 g0 g1 g2 g3 g4
            subst g0
            have i1 : Inv σ1 := iv.congr g3
            have e29 := fun q => g3.at 29 0 q (by decide)
            have r1 := i1.1
            refine J_iload13 C3 dL_isTold_127 ?_
            refine J_aload8 C3 dL_isTold_129 ?_
            refine J_iconst C3 dL_isTold_131 ?_
            refine J_iaload C3 (k29 x29) (by decide) (by omega) dL_isTold_132 ?_
            rw [e29 0, lm.1]
            refine J_icmp_ge (tgt := 353) C3 (by omega) (by omega) dL_isTold_133 (by decide) (fun c_133 => ?_) (fun c_133 => ?_)
            · have K_356 : ∀ (m_ : Nat) (i : Int) (y : Nat), (i = (y : Int)) → (i ≤ 5) → (5 - i < m_) → JW p l e ({ frames := 8, cells := 1404, slots := 8102, locals := 127 } : Room) s m args below meth c cy D ad3 (Ar ad s.heap.size) 16 (1134 + 54 * y) (6482 + 324 * y) (MQ below (QcI cy D ad (fun z σ' => z = 1 ∧ Eqs σ σ') s.heap.size) args s 1404 8102 (Ar ad s.heap.size)) σ1 356 [some (.ref (ad3 0 0)), some (.ref (ad3 22 0)), some (.ref (ad3 23 0)), some (.ref (ad3 24 0)), some (.ref (ad3 25 0)), some (.ref (ad3 26 0)), some (.ref (ad3 27 0)), some (.ref (ad3 28 0)), some (.ref (ad3 29 0)), some (.ref (ad3 31 0)), some (.ref (ad3 32 0)), some (.ref (ad3 33 0)), some (.int (iI 1)), some (.int (iI i)), none, none] [] := by
                intro m_
                induction m_ with
                | zero => intro i y u0 u1 u2; omega
                | succ m_ ih_356 =>
                  intro i y u0 u1 u2
                  subst u0
                  have ej : j = (σ 0 0 4).toNat := by omega
                  have lc9 : ∀ c : Int, 0 ≤ c → c < σ 0 0 9 → ∀ q : Int, 0 ≤ q → q < 5 → σ1 26 0 (5 * c + q) = σ1 20 c q ∧ σ1 27 0 (5 * c + q) = σ1 21 c q := fun c a b q a2 b2 => i1.2.2.2.2.2.2.2.1 c q a (by omega) a2 b2 (by rw [g3.at 0 0 9 (by decide)]; exact b)
                  have c9 := g3.at 0 0 9 (by decide)
                  have c4 := g3.at 0 0 4 (by decide)
                  refine J_iload13 C3 dL_isTold_356 ?_
                  refine J_iconst C3 dL_isTold_358 ?_
                  refine J_icmp_ge (tgt := 505) C3 (by omega) (by omega) dL_isTold_359 (by decide) (fun c_359 => ?_) (fun c_359 => ?_)
                  · refine J_iload12 C3 dL_isTold_505 ?_
                    refine J_back hs3 ?_
                    refine J_retZ C hr (by exact Or.inr rfl) (by omega) (by omega) dL_isTold_507 ?_
                    exact ⟨rfl, g3⟩
                  · have lc9 := fun (c : Int) (a : 0 ≤ c) (b : c < σ 0 0 9) => lc9 c a b (y : Int) (by omega) (by omega)
                    refine J_iload12 C3 dL_isTold_362 ?_
                    refine J_if_eq (tgt := 505) C3 (by omega) dL_isTold_364 (by decide) (fun c_364 => ?_) (fun c_364 => ?_)
                    · exact absurd c_364 (by decide)
                    · have K_373 : ∀ (k_ : Nat) (x : Int) (p9 : Int) (z : Nat), (x = (z : Int)) → (x ≤ σ 0 0 9) → (σ 0 0 9 - x < k_) → (p9 = sN (fun c => σ1 21 c (y : Int)) z) → JW p l e ({ frames := 8, cells := 1404, slots := 8102, locals := 127 } : Room) s m args below meth c cy D ad3 (Ar ad s.heap.size) 16 (1134 + 54 * y + 6 * z) (6482 + 324 * y + 36 * z) (MQ below (QcI cy D ad (fun z σ' => z = 1 ∧ Eqs σ σ') s.heap.size) args s 1404 8102 (Ar ad s.heap.size)) σ1 373 [some (.ref (ad3 0 0)), some (.ref (ad3 22 0)), some (.ref (ad3 23 0)), some (.ref (ad3 24 0)), some (.ref (ad3 25 0)), some (.ref (ad3 26 0)), some (.ref (ad3 27 0)), some (.ref (ad3 28 0)), some (.ref (ad3 29 0)), some (.ref (ad3 31 0)), some (.ref (ad3 32 0)), some (.ref (ad3 33 0)), some (.int (iI 1)), some (.int (iI ((y : Int)))), some (.int (iI p9)), some (.int (iI x))] [] := by
                        intro k_
                        induction k_ with
                        | zero => intro x p9 z t0 t1 t2 t3; omega
                        | succ k_ ih_373 =>
                          intro x p9 z t0 t1 t2 t3
                          subst t0
                          subst t3
                          refine J_iload15 C3 dL_isTold_373 ?_
                          refine J_aload8 C3 dL_isTold_375 ?_
                          refine J_iconst C3 dL_isTold_377 ?_
                          refine J_iaload C3 (k29 x29) (by decide) (by omega) dL_isTold_378 ?_
                          rw [e29 2, lm.2.2.1]
                          refine J_icmp_ge (tgt := 436) C3 (by omega) (by omega) dL_isTold_379 (by decide) (fun c_379 => ?_) (fun c_379 => ?_)
                          · refine J_iload12 C3 dL_isTold_436 ?_
                            refine J_if_eq (tgt := 496) C3 (by omega) dL_isTold_438 (by decide) (fun c_438 => ?_) (fun c_438 => ?_)
                            · exact absurd c_438 (by decide)
                            · refine J_aload_0 C3 dL_isTold_441 ?_
                              refine J_iload13 C3 dL_isTold_442 ?_
                              refine J_XVI C3 (c_X3_paid hfl hI3 _ _ i1.1.hcc (by omega)) (cwV 1 C3.1.2.2.2.2 gL_isTold_X3_paid rfl rfl rfl (by decide +kernel) ⟨Nat.le_of_ble_eq_true rfl, Nat.le_of_ble_eq_true rfl⟩) rc3 (by decide) rfl rfl (Nat.le_of_ble_eq_true rfl) dL_isTold_444 ⟨by dsimp only; omega, by dsimp only; omega⟩ (fun E σ_444 hx => ?_) (fun z_444 σ_444 hp => ?_)
                              · skip
                                obtain ⟨_, _, hn_⟩ := hx
                                exact absurd ⟨by omega, by omega⟩ hn_
                              obtain ⟨hz_, hs_, _⟩ := hp
                              have hz_ := hz_.symm
                              have hs_ := hs_.symm
                              subst hz_
                              subst hs_
                              refine J_iload14 C3 dL_isTold_447 ?_
                              refine J_icmp_neS (tgt := 496) C3 (by
                                have ez : z = (σ 0 0 9).toNat := by omega
                                rw [c9, ez]
                                ) dL_isTold_449 (by decide) ?_
                              refine J_aload_0 C3 dL_isTold_452 ?_
                              refine J_iload13 C3 dL_isTold_453 ?_
                              refine J_XVI C3 (c_X3_owes hfl hI3 _ _ (by omega)) (cwV 1 C3.1.2.2.2.2 gL_isTold_X3_owes rfl rfl rfl (by decide +kernel) ⟨Nat.le_of_ble_eq_true rfl, Nat.le_of_ble_eq_true rfl⟩) rc3 (by decide) rfl rfl (Nat.le_of_ble_eq_true rfl) dL_isTold_455 ⟨by dsimp only; omega, by dsimp only; omega⟩ (fun E σ_455 hx => ?_) (fun z_455 σ_455 hp => ?_)
                              · skip
                                obtain ⟨_, _, hn_⟩ := hx
                                exact absurd ⟨by omega, by omega⟩ hn_
                              obtain ⟨hz_, hs_, _⟩ := hp
                              have hz_ := hz_.symm
                              have hs_ := hs_.symm
                              subst hz_
                              subst hs_
                              refine J_aload7 C3 dL_isTold_458 ?_
                              refine J_iload13 C3 dL_isTold_460 ?_
                              refine J_iaload C3 (k28 x28) (by decide) (by omega) dL_isTold_462 ?_
                              refine J_icmp_neS (tgt := 496) C3 (by
                                exact (i1.2.2.2.2.2.2.2.2.1 (y : Int) (by omega) (by omega)).symm
                                ) dL_isTold_463 (by decide) ?_
                              refine J_aload_0 C3 dL_isTold_466 ?_
                              refine J_iload13 C3 dL_isTold_467 ?_
                              refine J_XVL C3 (c_X3_balance hfl hI3 _ _ i1.1.hwc i1.1.hcc (by omega) i1.1.hr9b) (cwV 1 C3.1.2.2.2.2 gL_isTold_X3_balance rfl rfl rfl (by decide +kernel) ⟨Nat.le_of_ble_eq_true rfl, Nat.le_of_ble_eq_true rfl⟩) rc3 (by decide) rfl rfl (Nat.le_of_ble_eq_true rfl) dL_isTold_469 ⟨by dsimp only; omega, by dsimp only; omega⟩ (fun E σ_469 hx => ?_) (fun z_469 σ_469 hp => ?_)
                              · skip
                                obtain ⟨_, _, hn_⟩ := hx
                                exact absurd ⟨by omega, by omega⟩ hn_
                              obtain ⟨hz_, hs_, _⟩ := hp
                              have hz_ := hz_.symm
                              have hs_ := hs_.symm
                              subst hz_
                              subst hs_
                              refine J_aload11 C3 dL_isTold_472 ?_
                              refine J_iload13 C3 dL_isTold_474 ?_
                              refine J_laload C3 (k33 x33) (by decide) (by omega) dL_isTold_476 ?_
                              refine J_iload14 C3 dL_isTold_477 ?_
                              refine J_i2lw C3 dL_isTold_479 ?_
                              refine J_ladd C3 dL_isTold_480 ?_
                              refine J_aload7 C3 dL_isTold_481 ?_
                              refine J_iload13 C3 dL_isTold_483 ?_
                              refine J_iaload C3 (k28 x28) (by decide) (by omega) dL_isTold_485 ?_
                              refine J_i2lw C3 dL_isTold_486 ?_
                              refine J_lsub C3 dL_isTold_487 ?_
                              refine J_lif_neS (tgt := 496) C3 (by
                                have ez : z = (σ 0 0 9).toNat := by omega
                                rw [c9, c4, ← ez, ← ej, g4 (y : Int) (by omega) (by omega), i1.2.2.2.2.2.2.2.2.1 (y : Int) (by omega) (by omega)]
                                rw [sN_congr (f := fun w => σ1 18 w (y : Int) - σ1 17 w (y : Int)) (g := fun w => ac σ w 18 (y : Int) - ac σ w 17 (y : Int)) j (fun w a b => by rw [ac_at (by decide) (by decide) (by omega) (by omega), ac_at (by decide) (by decide) (by omega) (by omega), g3.at 18 w _ (by decide), g3.at 17 w _ (by decide)])]
                                omega
                                ) dL_isTold_488 dL_isTold_489 (by decide) ?_
                              refine J_iconst C3 dL_isTold_492 ?_
                              refine J_goto (tgt := 497) C3 dL_isTold_493 (by decide) ?_
                              refine J_istore12 C3 (by decide) rfl dL_isTold_497 ?_
                              refine J_iinc13 C3 (by decide) rfl dL_isTold_499 ?_
                              refine J_goto (tgt := 356) C3 dL_isTold_502 (by decide) ?_
                              -- to the cut at 356
                              refine J_widen (k := 1134 + 54 * (y + 1)) (n := 6482 + 324 * (y + 1)) (by omega) (by omega) ?_
                              refine J_fg14 ?_
                              refine J_fg15 ?_
                              refine ih_356 _ (y + 1) ?_ ?_ ?_
                              · omega
                              · omega
                              · omega
                          · refine J_iload12 C3 dL_isTold_382 ?_
                            refine J_if_eq (tgt := 436) C3 (by omega) dL_isTold_384 (by decide) (fun c_384 => ?_) (fun c_384 => ?_)
                            · exact absurd c_384 (by decide)
                            · refine J_iload14 C3 dL_isTold_387 ?_
                              refine J_aload6 C3 dL_isTold_389 ?_
                              refine J_iconst C3 dL_isTold_391 ?_
                              refine J_iload15 C3 dL_isTold_392 ?_
                              refine J_imul C3 dL_isTold_394 ?_
                              refine J_iload13 C3 dL_isTold_395 ?_
                              refine J_iadd C3 dL_isTold_397 ?_
                              refine J_iaload C3 (k27 x27) (by decide) (by omega) dL_isTold_398 ?_
                              refine J_iadd C3 dL_isTold_399 ?_
                              refine J_istore14 C3 (by decide) rfl dL_isTold_400 ?_
                              refine J_aload_0 C3 dL_isTold_402 ?_
                              refine J_iload15 C3 dL_isTold_403 ?_
                              refine J_iload13 C3 dL_isTold_405 ?_
                              refine J_XVI C3 (c_X3_asked hfl hI3 _ _ _ i1.1.hcc (by omega) (by omega)) (cwV 2 C3.1.2.2.2.2 gL_isTold_X3_asked rfl rfl rfl (by decide +kernel) ⟨Nat.le_of_ble_eq_true rfl, Nat.le_of_ble_eq_true rfl⟩) rc3 (by decide) rfl rfl (Nat.le_of_ble_eq_true rfl) dL_isTold_407 ⟨by dsimp only; omega, by dsimp only; omega⟩ (fun E σ_407 hx => ?_) (fun z_407 σ_407 hp => ?_)
                              · skip
                                obtain ⟨_, _, hn_⟩ := hx
                                exact absurd ⟨⟨by omega, by omega⟩, ⟨by omega, by omega⟩⟩ hn_
                              obtain ⟨hz_, hs_, _⟩ := hp
                              have hz_ := hz_.symm
                              have hs_ := hs_.symm
                              subst hz_
                              subst hs_
                              refine J_aload5 C3 dL_isTold_410 ?_
                              refine J_iconst C3 dL_isTold_412 ?_
                              refine J_iload15 C3 dL_isTold_413 ?_
                              refine J_imul C3 dL_isTold_415 ?_
                              refine J_iload13 C3 dL_isTold_416 ?_
                              refine J_iadd C3 dL_isTold_418 ?_
                              refine J_iaload C3 (k26 x26) (by decide) (by omega) dL_isTold_419 ?_
                              refine J_icmp_neS (tgt := 427) C3 (by
                                rw [(lc9 (z : Int) (by omega) (by omega)).1]
                                ) dL_isTold_420 (by decide) ?_
                              refine J_iconst C3 dL_isTold_423 ?_
                              refine J_goto (tgt := 428) C3 dL_isTold_424 (by decide) ?_
                              refine J_istore12 C3 (by decide) rfl dL_isTold_428 ?_
                              refine J_iinc15 C3 (by decide) rfl dL_isTold_430 ?_
                              refine J_goto (tgt := 373) C3 dL_isTold_433 (by decide) ?_
                              -- to the cut at 373
                              refine J_widen (k := 1134 + 54 * y + 6 * (z + 1)) (n := 6482 + 324 * y + 36 * (z + 1)) (by omega) (by omega) ?_
                              refine ih_373 _ _ (z + 1) ?_ ?_ ?_ ?_
                              · omega
                              · omega
                              · omega
                              · simp only [sN]
                                rw [(lc9 (z : Int) (by omega) (by omega)).2]
                      refine J_iconst C3 dL_isTold_367 ?_
                      refine J_istore14 C3 (by decide) rfl dL_isTold_368 ?_
                      refine J_iconst C3 dL_isTold_370 ?_
                      refine J_istore15 C3 (by decide) rfl dL_isTold_371 ?_
                      -- to the cut at 373
                      refine J_widen (k := 1134 + 54 * y + 6 * 0) (n := 6482 + 324 * y + 36 * 0) (by omega) (by omega) ?_
                      refine K_373 7 _ _ 0 ?_ ?_ ?_ ?_
                      · rfl
                      · omega
                      · omega
                      · rfl
              refine J_iconst C3 dL_isTold_353 ?_
              refine J_istore13 C3 (by decide) rfl dL_isTold_354 ?_
              -- to the cut at 356
              refine J_widen (k := 1134 + 54 * 0) (n := 6482 + 324 * 0) (by omega) (by omega) ?_
              refine K_356 6 _ 0 ?_ ?_ ?_
              · rfl
              · decide
              · decide
            · refine J_iload12 C3 dL_isTold_136 ?_
              refine J_if_eq (tgt := 353) C3 (by omega) dL_isTold_138 (by decide) (fun c_138 => ?_) (fun c_138 => ?_)
              · exact absurd c_138 (by decide)
              · refine J_aload_1 C3 dL_isTold_141 ?_
                refine J_aload_2 C3 dL_isTold_142 ?_
                refine J_aload_3 C3 dL_isTold_143 ?_
                refine J_aload4 C3 dL_isTold_144 ?_
                refine J_aload8 C3 dL_isTold_146 ?_
                refine J_aload9 C3 dL_isTold_148 ?_
                refine J_iload13 C3 dL_isTold_150 ?_
                refine J_KSV C3 (c_L_account hfl hI3 _ (j : Int) 31 x22 x23 x24 x25 x29 f35 f36 f37 f38 (k31 x31) (by decide) (by decide) i1 (by rw [g3.at 0 0 4 (by decide)]; omega)) (va_cwS 7 C3.1.2.2.2.2 gL_isTold_L_account rfl rfl rfl (by decide +kernel) ⟨Nat.le_of_ble_eq_true rfl, Nat.le_of_ble_eq_true rfl⟩) rfl rfl (Nat.le_of_ble_eq_true rfl) dL_isTold_152 ⟨by dsimp only; omega, by dsimp only; omega⟩ (fun σ_152 hp => ?_)
                obtain ⟨ha1, ha2⟩ := hp
                refine J_aload_1 C3 dL_isTold_155 ?_
                refine J_aload_2 C3 dL_isTold_156 ?_
                refine J_aload_3 C3 dL_isTold_157 ?_
                refine J_aload4 C3 dL_isTold_158 ?_
                refine J_aload8 C3 dL_isTold_160 ?_
                refine J_aload10 C3 dL_isTold_162 ?_
                refine J_iload13 C3 dL_isTold_164 ?_
                refine J_KSV C3 (c_L_weigh hfl hI3 _ (j : Int) 32 x22 x23 x24 x25 x29 f34 f35 f36 f37 f38 (k32 x32) (by decide) (by decide) (i1.congr (ha1.eqs (by decide))) (by rw [ha1 0 0 4 (by decide) (by decide), g3.at 0 0 4 (by decide)]; omega)) (va_cwS 7 C3.1.2.2.2.2 gL_isTold_L_weigh rfl rfl rfl (by decide +kernel) ⟨Nat.le_of_ble_eq_true rfl, Nat.le_of_ble_eq_true rfl⟩) rfl rfl (Nat.le_of_ble_eq_true rfl) dL_isTold_166 ⟨by dsimp only; omega, by dsimp only; omega⟩ (fun σ_166 hp => ?_)
                obtain ⟨hw1, hw2⟩ := hp
                have K_172 : ∀ (m_ : Nat) (x : Int) (y : Nat) (σ2 : Sg), (x = (y : Int)) → (x ≤ 5) → (5 - x < m_) → (Eqs σ σ2) → (RowE (σ2 31 0) (eT (shf σ) (ac σ (j : Int)))) → (∀ q, 0 ≤ q → q < 5 → σ2 32 0 q = chp (shf σ) (ac σ (j : Int)) 10000 q) → (∀ q, 0 ≤ q → q < 5 → σ2 33 0 q = sN (fun w => ac σ w 18 q - ac σ w 17 q) j + (if q < x then ac σ (j : Int) 18 q - ac σ (j : Int) 17 q else 0)) → JW p l e ({ frames := 8, cells := 1404, slots := 8102, locals := 127 } : Room) s m args below meth c cy D ad3 (Ar ad s.heap.size) 16 (195 + 313 * j + 133 + 36 * y) (1187 + 1765 * j + 685 + 216 * y) (MQ below (QcI cy D ad (fun z σ' => z = 1 ∧ Eqs σ σ') s.heap.size) args s 1404 8102 (Ar ad s.heap.size)) σ2 172 [some (.ref (ad3 0 0)), some (.ref (ad3 22 0)), some (.ref (ad3 23 0)), some (.ref (ad3 24 0)), some (.ref (ad3 25 0)), some (.ref (ad3 26 0)), some (.ref (ad3 27 0)), some (.ref (ad3 28 0)), some (.ref (ad3 29 0)), some (.ref (ad3 31 0)), some (.ref (ad3 32 0)), some (.ref (ad3 33 0)), some (.int (iI 1)), some (.int (iI ((j : Int)))), some (.int (iI x)), none] [] := by
                  intro m_
                  induction m_ with
                  | zero => intro x y σ2 u0 u1 u2 u3 u4 u5 u6; omega
                  | succ m_ ih_172 =>
                    intro x y σ2 u0 u1 u2 u3 u4 u5 u6
                    subst u0
                    refine J_iload14 C3 dL_isTold_172 ?_
                    refine J_iconst C3 dL_isTold_174 ?_
                    refine J_icmp_ge (tgt := 347) C3 (by omega) (by omega) dL_isTold_175 (by decide) (fun c_175 => ?_) (fun c_175 => ?_)
                    · refine J_iinc13 C3 (by decide) rfl dL_isTold_347 ?_
                      refine J_goto (tgt := 127) C3 dL_isTold_350 (by decide) ?_
                      -- to the cut at 127
                      refine J_widen (k := 195 + 313 * (j + 1)) (n := 1187 + 1765 * (j + 1)) (by omega) (by omega) ?_
                      refine J_fg14 ?_
                      refine ih_127 _ (j + 1) _ ?_ ?_ ?_ ?_ ?_
                      · omega
                      · omega
                      · omega
                      · exact u3
                      · intro q a b
                        rw [u6 q a b, if_pos (by omega)]
                        rfl
                    · refine J_iload12 C3 dL_isTold_178 ?_
                      refine J_if_eq (tgt := 347) C3 (by omega) dL_isTold_180 (by decide) (fun c_180 => ?_) (fun c_180 => ?_)
                      · exact absurd c_180 (by decide)
                      · refine J_aload11 C3 dL_isTold_183 ?_
                        refine J_iload14 C3 dL_isTold_185 ?_
                        refine J_dup2 C3 rfl rfl dL_isTold_187 ?_
                        refine J_laload C3 (k33 x33) (by decide) (by omega) dL_isTold_188 ?_
                        refine J_aload9 C3 dL_isTold_189 ?_
                        refine J_bipush C3 (by decide) dL_isTold_191 ?_
                        refine J_iload14 C3 dL_isTold_193 ?_
                        refine J_iadd C3 dL_isTold_195 ?_
                        refine J_laload C3 (k31 x31) (by decide) (by omega) dL_isTold_196 ?_
                        refine J_aload9 C3 dL_isTold_197 ?_
                        refine J_bipush C3 (by decide) dL_isTold_199 ?_
                        refine J_iload14 C3 dL_isTold_201 ?_
                        refine J_iadd C3 dL_isTold_203 ?_
                        refine J_laload C3 (k31 x31) (by decide) (by omega) dL_isTold_204 ?_
                        refine J_lsub C3 dL_isTold_205 ?_
                        refine J_ladd C3 dL_isTold_206 ?_
                        refine J_lastore C3 (k33 x33) (by decide) (by omega) dL_isTold_207 ?_
                        have E5 : Eqs σ (su σ2 33 0 (y : Int) (σ2 33 0 (y : Int) + (σ2 31 0 (20 + (y : Int)) - σ2 31 0 (15 + (y : Int))))) := u3.trans (fun a b c _ x2 _ => su_nk (by omega))
                        have R4 : RowE (su σ2 33 0 (y : Int) (σ2 33 0 (y : Int) + (σ2 31 0 (20 + (y : Int)) - σ2 31 0 (15 + (y : Int)))) 31 0) (eT (shf σ) (ac σ (j : Int))) := u4.of (fun z => su_nk (by decide))
                        have R5 : ∀ q, 0 ≤ q → q < 5 → su σ2 33 0 (y : Int) (σ2 33 0 (y : Int) + (σ2 31 0 (20 + (y : Int)) - σ2 31 0 (15 + (y : Int)))) 32 0 q = chp (shf σ) (ac σ (j : Int)) 10000 q := fun q a b => by rw [su_nk (by decide)]; exact u5 q a b
                        have R6 : ∀ q, 0 ≤ q → q < 5 → su σ2 33 0 (y : Int) (σ2 33 0 (y : Int) + (σ2 31 0 (20 + (y : Int)) - σ2 31 0 (15 + (y : Int)))) 33 0 q = sN (fun w => ac σ w 18 q - ac σ w 17 q) j + (if q < (y : Int) + 1 then ac σ (j : Int) 18 q - ac σ (j : Int) 17 q else 0) := fun q a b => by
                          rw [su_rw0]
                          split
                          · rename_i e
                            rw [u6 (y : Int) (by omega) (by omega), u4 (20 + (y : Int)) (by omega) (by omega), u4 (15 + (y : Int)) (by omega) (by omega), eT_20 (by omega), eT_15 (by omega) (by omega), if_neg (by omega), e, if_pos (by omega)]
                            omega
                          · rename_i e
                            rw [u6 q a b]
                            by_cases hl : q < (y : Int)
                            · rw [if_pos hl, if_pos (by omega)]
                            · rw [if_neg hl, if_neg (by omega)]
                        generalize su σ2 33 0 (y : Int) (σ2 33 0 (y : Int) + (σ2 31 0 (20 + (y : Int)) - σ2 31 0 (15 + (y : Int)))) = σ5 at E5 R4 R5 R6 ⊢
                        have i5 : Inv σ5 := iv.congr E5
                        have r5 := i5.1
                        have w5 := E5.at 0 0 4 (by decide)
                        have t5 : ∀ c : Nat, 14 ≤ c → c ≤ 18 → ac σ (j : Int) c (y : Int) = σ5 c (j : Int) (y : Int) := fun c x1 x2 => by rw [ac_at x1 x2 (by omega) (by omega), E5.at c (j : Int) (y : Int) (by omega)]
                        refine J_aload_0 C3 dL_isTold_208 ?_
                        refine J_iload13 C3 dL_isTold_209 ?_
                        refine J_iload14 C3 dL_isTold_211 ?_
                        refine J_XVI C3 (c_X3_isIn hfl hI3 _ _ _ r5.hwc (by omega) (by omega) r5.hf r5.hs) (cwV 2 C3.1.2.2.2.2 gL_isTold_X3_isIn rfl rfl rfl (by decide +kernel) ⟨Nat.le_of_ble_eq_true rfl, Nat.le_of_ble_eq_true rfl⟩) rc3 (by decide) rfl rfl (Nat.le_of_ble_eq_true rfl) dL_isTold_213 ⟨by dsimp only; omega, by dsimp only; omega⟩ (fun E σ_213 hx => ?_) (fun z_213 σ_213 hp => ?_)
                        · skip
                          obtain ⟨_, _, hn_⟩ := hx
                          exact absurd ⟨⟨by omega, by omega⟩, ⟨by omega, by omega⟩⟩ hn_
                        obtain ⟨hz_, hs_, _⟩ := hp
                        have hz_ := hz_.symm
                        have hs_ := hs_.symm
                        subst hz_
                        subst hs_
                        refine J_aload9 C3 dL_isTold_216 ?_
                        refine J_iload14 C3 dL_isTold_218 ?_
                        refine J_laload C3 (k31 x31) (by decide) (by omega) dL_isTold_220 ?_
                        refine J_lconst (z := 1) C3 (by decide) dL_isTold_221 ?_
                        rw [R4 (y : Int) (by omega) (by omega), eT_in (by omega)]
                        refine J_lif_ne (tgt := 230) C3 (by split <;> omega) (by omega) dL_isTold_222 dL_isTold_223 (by decide) (fun c_222 => ?_) (fun c_222 => ?_)
                        · refine J_iconst C3 dL_isTold_230 ?_
                          refine J_icmp_neS (tgt := 338) C3 (by
                            rw [shf_at (by omega) (by omega), t5 14 (by decide) (by decide), ← E5.at 1 0 (y : Int) (by decide)] at c_222
                            split at c_222 <;> split <;> omega
                            ) dL_isTold_231 (by decide) ?_
                          refine J_aload_0 C3 dL_isTold_234 ?_
                          refine J_iload13 C3 dL_isTold_235 ?_
                          refine J_iload14 C3 dL_isTold_237 ?_
                          refine J_XVL C3 (c_X3_toEarn hfl hI3 _ _ _ r5.hwc (by omega) (by omega)) (cwV 2 C3.1.2.2.2.2 gL_isTold_X3_toEarn rfl rfl rfl (by decide +kernel) ⟨Nat.le_of_ble_eq_true rfl, Nat.le_of_ble_eq_true rfl⟩) rc3 (by decide) rfl rfl (Nat.le_of_ble_eq_true rfl) dL_isTold_239 ⟨by dsimp only; omega, by dsimp only; omega⟩ (fun E σ_239 hx => ?_) (fun z_239 σ_239 hp => ?_)
                          · skip
                            obtain ⟨_, _, hn_⟩ := hx
                            exact absurd ⟨⟨by omega, by omega⟩, ⟨by omega, by omega⟩⟩ hn_
                          obtain ⟨hz_, hs_, _⟩ := hp
                          have hz_ := hz_.symm
                          have hs_ := hs_.symm
                          subst hz_
                          subst hs_
                          refine J_aload9 C3 dL_isTold_242 ?_
                          refine J_iconst C3 dL_isTold_244 ?_
                          refine J_iload14 C3 dL_isTold_245 ?_
                          refine J_iadd C3 dL_isTold_247 ?_
                          refine J_laload C3 (k31 x31) (by decide) (by omega) dL_isTold_248 ?_
                          refine J_lif_neS (tgt := 338) C3 (by
                            rw [R4 (5 + (y : Int)) (by omega) (by omega), eT_5 (by omega) (by omega), t5 15 (by decide) (by decide)]
                            ) dL_isTold_249 dL_isTold_250 (by decide) ?_
                          refine J_aload_0 C3 dL_isTold_253 ?_
                          refine J_iload13 C3 dL_isTold_254 ?_
                          refine J_iload14 C3 dL_isTold_256 ?_
                          refine J_XVI C3 (c_X3_backAt hfl hI3 _ _ _ r5.hwc (by omega) (by omega)) (cwV 2 C3.1.2.2.2.2 gL_isTold_X3_backAt rfl rfl rfl (by decide +kernel) ⟨Nat.le_of_ble_eq_true rfl, Nat.le_of_ble_eq_true rfl⟩) rc3 (by decide) rfl rfl (Nat.le_of_ble_eq_true rfl) dL_isTold_258 ⟨by dsimp only; omega, by dsimp only; omega⟩ (fun E σ_258 hx => ?_) (fun z_258 σ_258 hp => ?_)
                          · skip
                            obtain ⟨_, _, hn_⟩ := hx
                            exact absurd ⟨⟨by omega, by omega⟩, ⟨by omega, by omega⟩⟩ hn_
                          obtain ⟨hz_, hs_, _⟩ := hp
                          have hz_ := hz_.symm
                          have hs_ := hs_.symm
                          subst hz_
                          subst hs_
                          refine J_i2lw C3 dL_isTold_261 ?_
                          refine J_aload9 C3 dL_isTold_262 ?_
                          refine J_bipush C3 (by decide) dL_isTold_264 ?_
                          refine J_iload14 C3 dL_isTold_266 ?_
                          refine J_iadd C3 dL_isTold_268 ?_
                          refine J_laload C3 (k31 x31) (by decide) (by omega) dL_isTold_269 ?_
                          refine J_lif_neS (tgt := 338) C3 (by
                            rw [R4 (10 + (y : Int)) (by omega) (by omega), eT_10 (by omega) (by omega), w32_id (by rw [← t5 16 (by decide) (by decide)]; have := r.ac16 (w := (j : Int)) (by omega) (by omega) (y : Int); omega), t5 16 (by decide) (by decide)]
                            ) dL_isTold_270 dL_isTold_271 (by decide) ?_
                          refine J_aload_0 C3 dL_isTold_274 ?_
                          refine J_iload13 C3 dL_isTold_275 ?_
                          refine J_iload14 C3 dL_isTold_277 ?_
                          refine J_XVI C3 (c_X3_charged hfl hI3 _ _ _ r5.hwc (by omega) (by omega)) (cwV 2 C3.1.2.2.2.2 gL_isTold_X3_charged rfl rfl rfl (by decide +kernel) ⟨Nat.le_of_ble_eq_true rfl, Nat.le_of_ble_eq_true rfl⟩) rc3 (by decide) rfl rfl (Nat.le_of_ble_eq_true rfl) dL_isTold_279 ⟨by dsimp only; omega, by dsimp only; omega⟩ (fun E σ_279 hx => ?_) (fun z_279 σ_279 hp => ?_)
                          · skip
                            obtain ⟨_, _, hn_⟩ := hx
                            exact absurd ⟨⟨by omega, by omega⟩, ⟨by omega, by omega⟩⟩ hn_
                          obtain ⟨hz_, hs_, _⟩ := hp
                          have hz_ := hz_.symm
                          have hs_ := hs_.symm
                          subst hz_
                          subst hs_
                          refine J_i2lw C3 dL_isTold_282 ?_
                          refine J_aload9 C3 dL_isTold_283 ?_
                          refine J_bipush C3 (by decide) dL_isTold_285 ?_
                          refine J_iload14 C3 dL_isTold_287 ?_
                          refine J_iadd C3 dL_isTold_289 ?_
                          refine J_laload C3 (k31 x31) (by decide) (by omega) dL_isTold_290 ?_
                          refine J_lif_neS (tgt := 338) C3 (by
                            rw [R4 (15 + (y : Int)) (by omega) (by omega), eT_15 (by omega) (by omega), w32_id (r5.hr9b (j : Int) (y : Int) (by omega) (by omega) (by omega) (by omega)).1, t5 17 (by decide) (by decide)]
                            ) dL_isTold_291 dL_isTold_292 (by decide) ?_
                          refine J_aload_0 C3 dL_isTold_295 ?_
                          refine J_iload13 C3 dL_isTold_296 ?_
                          refine J_iload14 C3 dL_isTold_298 ?_
                          refine J_XVI C3 (c_X3_credited hfl hI3 _ _ _ r5.hwc (by omega) (by omega)) (cwV 2 C3.1.2.2.2.2 gL_isTold_X3_credited rfl rfl rfl (by decide +kernel) ⟨Nat.le_of_ble_eq_true rfl, Nat.le_of_ble_eq_true rfl⟩) rc3 (by decide) rfl rfl (Nat.le_of_ble_eq_true rfl) dL_isTold_300 ⟨by dsimp only; omega, by dsimp only; omega⟩ (fun E σ_300 hx => ?_) (fun z_300 σ_300 hp => ?_)
                          · skip
                            obtain ⟨_, _, hn_⟩ := hx
                            exact absurd ⟨⟨by omega, by omega⟩, ⟨by omega, by omega⟩⟩ hn_
                          obtain ⟨hz_, hs_, _⟩ := hp
                          have hz_ := hz_.symm
                          have hs_ := hs_.symm
                          subst hz_
                          subst hs_
                          refine J_i2lw C3 dL_isTold_303 ?_
                          refine J_aload9 C3 dL_isTold_304 ?_
                          refine J_bipush C3 (by decide) dL_isTold_306 ?_
                          refine J_iload14 C3 dL_isTold_308 ?_
                          refine J_iadd C3 dL_isTold_310 ?_
                          refine J_laload C3 (k31 x31) (by decide) (by omega) dL_isTold_311 ?_
                          refine J_lif_neS (tgt := 338) C3 (by
                            rw [R4 (20 + (y : Int)) (by omega) (by omega), eT_20 (by omega), w32_id (r5.hr9b (j : Int) (y : Int) (by omega) (by omega) (by omega) (by omega)).2, t5 18 (by decide) (by decide)]
                            ) dL_isTold_312 dL_isTold_313 (by decide) ?_
                          refine J_aload_0 C3 dL_isTold_316 ?_
                          refine J_iload13 C3 dL_isTold_317 ?_
                          refine J_iload14 C3 dL_isTold_319 ?_
                          refine J_XVI C3 (c_X3_weight hfl hI3 _ _ _ r5.hwc (by omega) (by omega) r5.hsh r5.hall) (cwV 2 C3.1.2.2.2.2 gL_isTold_X3_weight rfl rfl rfl (by decide +kernel) ⟨Nat.le_of_ble_eq_true rfl, Nat.le_of_ble_eq_true rfl⟩) rc3 (by decide) rfl rfl (Nat.le_of_ble_eq_true rfl) dL_isTold_321 ⟨by dsimp only; omega, by dsimp only; omega⟩ (fun E σ_321 hx => ?_) (fun z_321 σ_321 hp => ?_)
                          · skip
                            obtain ⟨_, _, hn_⟩ := hx
                            exact absurd ⟨⟨by omega, by omega⟩, ⟨by omega, by omega⟩⟩ hn_
                          obtain ⟨hz_, hF, _⟩ := hp
                          have hz_ := hz_.symm
                          subst hz_
                          refine J_i2lw C3 dL_isTold_324 ?_
                          refine J_aload10 C3 dL_isTold_325 ?_
                          refine J_iload14 C3 dL_isTold_327 ?_
                          refine J_laload C3 (k32 x32) (by decide) (by omega) dL_isTold_329 ?_
                          refine J_lif_neS (tgt := 338) C3 (by
                            have h1 := chp_rng (a := 10000) r.hsh (r.tok (w := (j : Int)) (by omega) (by omega)).1 (by decide) (show 0 ≤ (y : Int) by omega) (show (y : Int) < 5 by omega)
                            rw [hF 32 0 (y : Int) (by decide), R5 (y : Int) (by omega) (by omega), E5.sh, E5.ac, w32_id (by omega)]
                            ) dL_isTold_330 dL_isTold_331 (by decide) ?_
                          refine J_iconst C3 dL_isTold_334 ?_
                          refine J_goto (tgt := 339) C3 dL_isTold_335 (by decide) ?_
                          refine J_istore12 C3 (by decide) rfl dL_isTold_339 ?_
                          refine J_iinc14 C3 (by decide) rfl dL_isTold_341 ?_
                          refine J_goto (tgt := 172) C3 dL_isTold_344 (by decide) ?_
                          -- to the cut at 172
                          refine J_widen (k := 195 + 313 * j + 133 + 36 * (y + 1)) (n := 1187 + 1765 * j + 685 + 216 * (y + 1)) (by omega) (by omega) ?_
                          refine ih_172 _ (y + 1) _ ?_ ?_ ?_ ?_ ?_ ?_ ?_
                          · omega
                          · omega
                          · omega
                          · exact E5.trans hF.eqs
                          · exact R4.of (fun z => hF 31 0 z (by decide))
                          · intro q a b
                            rw [hF 32 0 q (by decide)]
                            exact R5 q a b
                          · intro q a b
                            rw [hF 33 0 q (by decide)]
                            exact R6 q a b
                        · refine J_iconst C3 dL_isTold_226 ?_
                          refine J_goto (tgt := 231) C3 dL_isTold_227 (by decide) ?_
                          refine J_icmp_neS (tgt := 338) C3 (by
                            rw [shf_at (by omega) (by omega), t5 14 (by decide) (by decide), ← E5.at 1 0 (y : Int) (by decide)] at c_222
                            split at c_222 <;> split <;> omega
                            ) dL_isTold_231 (by decide) ?_
                          refine J_aload_0 C3 dL_isTold_234 ?_
                          refine J_iload13 C3 dL_isTold_235 ?_
                          refine J_iload14 C3 dL_isTold_237 ?_
                          refine J_XVL C3 (c_X3_toEarn hfl hI3 _ _ _ r5.hwc (by omega) (by omega)) (cwV 2 C3.1.2.2.2.2 gL_isTold_X3_toEarn rfl rfl rfl (by decide +kernel) ⟨Nat.le_of_ble_eq_true rfl, Nat.le_of_ble_eq_true rfl⟩) rc3 (by decide) rfl rfl (Nat.le_of_ble_eq_true rfl) dL_isTold_239 ⟨by dsimp only; omega, by dsimp only; omega⟩ (fun E σ_239 hx => ?_) (fun z_239 σ_239 hp => ?_)
                          · skip
                            obtain ⟨_, _, hn_⟩ := hx
                            exact absurd ⟨⟨by omega, by omega⟩, ⟨by omega, by omega⟩⟩ hn_
                          obtain ⟨hz_, hs_, _⟩ := hp
                          have hz_ := hz_.symm
                          have hs_ := hs_.symm
                          subst hz_
                          subst hs_
                          refine J_aload9 C3 dL_isTold_242 ?_
                          refine J_iconst C3 dL_isTold_244 ?_
                          refine J_iload14 C3 dL_isTold_245 ?_
                          refine J_iadd C3 dL_isTold_247 ?_
                          refine J_laload C3 (k31 x31) (by decide) (by omega) dL_isTold_248 ?_
                          refine J_lif_neS (tgt := 338) C3 (by
                            rw [R4 (5 + (y : Int)) (by omega) (by omega), eT_5 (by omega) (by omega), t5 15 (by decide) (by decide)]
                            ) dL_isTold_249 dL_isTold_250 (by decide) ?_
                          refine J_aload_0 C3 dL_isTold_253 ?_
                          refine J_iload13 C3 dL_isTold_254 ?_
                          refine J_iload14 C3 dL_isTold_256 ?_
                          refine J_XVI C3 (c_X3_backAt hfl hI3 _ _ _ r5.hwc (by omega) (by omega)) (cwV 2 C3.1.2.2.2.2 gL_isTold_X3_backAt rfl rfl rfl (by decide +kernel) ⟨Nat.le_of_ble_eq_true rfl, Nat.le_of_ble_eq_true rfl⟩) rc3 (by decide) rfl rfl (Nat.le_of_ble_eq_true rfl) dL_isTold_258 ⟨by dsimp only; omega, by dsimp only; omega⟩ (fun E σ_258 hx => ?_) (fun z_258 σ_258 hp => ?_)
                          · skip
                            obtain ⟨_, _, hn_⟩ := hx
                            exact absurd ⟨⟨by omega, by omega⟩, ⟨by omega, by omega⟩⟩ hn_
                          obtain ⟨hz_, hs_, _⟩ := hp
                          have hz_ := hz_.symm
                          have hs_ := hs_.symm
                          subst hz_
                          subst hs_
                          refine J_i2lw C3 dL_isTold_261 ?_
                          refine J_aload9 C3 dL_isTold_262 ?_
                          refine J_bipush C3 (by decide) dL_isTold_264 ?_
                          refine J_iload14 C3 dL_isTold_266 ?_
                          refine J_iadd C3 dL_isTold_268 ?_
                          refine J_laload C3 (k31 x31) (by decide) (by omega) dL_isTold_269 ?_
                          refine J_lif_neS (tgt := 338) C3 (by
                            rw [R4 (10 + (y : Int)) (by omega) (by omega), eT_10 (by omega) (by omega), w32_id (by rw [← t5 16 (by decide) (by decide)]; have := r.ac16 (w := (j : Int)) (by omega) (by omega) (y : Int); omega), t5 16 (by decide) (by decide)]
                            ) dL_isTold_270 dL_isTold_271 (by decide) ?_
                          refine J_aload_0 C3 dL_isTold_274 ?_
                          refine J_iload13 C3 dL_isTold_275 ?_
                          refine J_iload14 C3 dL_isTold_277 ?_
                          refine J_XVI C3 (c_X3_charged hfl hI3 _ _ _ r5.hwc (by omega) (by omega)) (cwV 2 C3.1.2.2.2.2 gL_isTold_X3_charged rfl rfl rfl (by decide +kernel) ⟨Nat.le_of_ble_eq_true rfl, Nat.le_of_ble_eq_true rfl⟩) rc3 (by decide) rfl rfl (Nat.le_of_ble_eq_true rfl) dL_isTold_279 ⟨by dsimp only; omega, by dsimp only; omega⟩ (fun E σ_279 hx => ?_) (fun z_279 σ_279 hp => ?_)
                          · skip
                            obtain ⟨_, _, hn_⟩ := hx
                            exact absurd ⟨⟨by omega, by omega⟩, ⟨by omega, by omega⟩⟩ hn_
                          obtain ⟨hz_, hs_, _⟩ := hp
                          have hz_ := hz_.symm
                          have hs_ := hs_.symm
                          subst hz_
                          subst hs_
                          refine J_i2lw C3 dL_isTold_282 ?_
                          refine J_aload9 C3 dL_isTold_283 ?_
                          refine J_bipush C3 (by decide) dL_isTold_285 ?_
                          refine J_iload14 C3 dL_isTold_287 ?_
                          refine J_iadd C3 dL_isTold_289 ?_
                          refine J_laload C3 (k31 x31) (by decide) (by omega) dL_isTold_290 ?_
                          refine J_lif_neS (tgt := 338) C3 (by
                            rw [R4 (15 + (y : Int)) (by omega) (by omega), eT_15 (by omega) (by omega), w32_id (r5.hr9b (j : Int) (y : Int) (by omega) (by omega) (by omega) (by omega)).1, t5 17 (by decide) (by decide)]
                            ) dL_isTold_291 dL_isTold_292 (by decide) ?_
                          refine J_aload_0 C3 dL_isTold_295 ?_
                          refine J_iload13 C3 dL_isTold_296 ?_
                          refine J_iload14 C3 dL_isTold_298 ?_
                          refine J_XVI C3 (c_X3_credited hfl hI3 _ _ _ r5.hwc (by omega) (by omega)) (cwV 2 C3.1.2.2.2.2 gL_isTold_X3_credited rfl rfl rfl (by decide +kernel) ⟨Nat.le_of_ble_eq_true rfl, Nat.le_of_ble_eq_true rfl⟩) rc3 (by decide) rfl rfl (Nat.le_of_ble_eq_true rfl) dL_isTold_300 ⟨by dsimp only; omega, by dsimp only; omega⟩ (fun E σ_300 hx => ?_) (fun z_300 σ_300 hp => ?_)
                          · skip
                            obtain ⟨_, _, hn_⟩ := hx
                            exact absurd ⟨⟨by omega, by omega⟩, ⟨by omega, by omega⟩⟩ hn_
                          obtain ⟨hz_, hs_, _⟩ := hp
                          have hz_ := hz_.symm
                          have hs_ := hs_.symm
                          subst hz_
                          subst hs_
                          refine J_i2lw C3 dL_isTold_303 ?_
                          refine J_aload9 C3 dL_isTold_304 ?_
                          refine J_bipush C3 (by decide) dL_isTold_306 ?_
                          refine J_iload14 C3 dL_isTold_308 ?_
                          refine J_iadd C3 dL_isTold_310 ?_
                          refine J_laload C3 (k31 x31) (by decide) (by omega) dL_isTold_311 ?_
                          refine J_lif_neS (tgt := 338) C3 (by
                            rw [R4 (20 + (y : Int)) (by omega) (by omega), eT_20 (by omega), w32_id (r5.hr9b (j : Int) (y : Int) (by omega) (by omega) (by omega) (by omega)).2, t5 18 (by decide) (by decide)]
                            ) dL_isTold_312 dL_isTold_313 (by decide) ?_
                          refine J_aload_0 C3 dL_isTold_316 ?_
                          refine J_iload13 C3 dL_isTold_317 ?_
                          refine J_iload14 C3 dL_isTold_319 ?_
                          refine J_XVI C3 (c_X3_weight hfl hI3 _ _ _ r5.hwc (by omega) (by omega) r5.hsh r5.hall) (cwV 2 C3.1.2.2.2.2 gL_isTold_X3_weight rfl rfl rfl (by decide +kernel) ⟨Nat.le_of_ble_eq_true rfl, Nat.le_of_ble_eq_true rfl⟩) rc3 (by decide) rfl rfl (Nat.le_of_ble_eq_true rfl) dL_isTold_321 ⟨by dsimp only; omega, by dsimp only; omega⟩ (fun E σ_321 hx => ?_) (fun z_321 σ_321 hp => ?_)
                          · skip
                            obtain ⟨_, _, hn_⟩ := hx
                            exact absurd ⟨⟨by omega, by omega⟩, ⟨by omega, by omega⟩⟩ hn_
                          obtain ⟨hz_, hF, _⟩ := hp
                          have hz_ := hz_.symm
                          subst hz_
                          refine J_i2lw C3 dL_isTold_324 ?_
                          refine J_aload10 C3 dL_isTold_325 ?_
                          refine J_iload14 C3 dL_isTold_327 ?_
                          refine J_laload C3 (k32 x32) (by decide) (by omega) dL_isTold_329 ?_
                          refine J_lif_neS (tgt := 338) C3 (by
                            have h1 := chp_rng (a := 10000) r.hsh (r.tok (w := (j : Int)) (by omega) (by omega)).1 (by decide) (show 0 ≤ (y : Int) by omega) (show (y : Int) < 5 by omega)
                            rw [hF 32 0 (y : Int) (by decide), R5 (y : Int) (by omega) (by omega), E5.sh, E5.ac, w32_id (by omega)]
                            ) dL_isTold_330 dL_isTold_331 (by decide) ?_
                          refine J_iconst C3 dL_isTold_334 ?_
                          refine J_goto (tgt := 339) C3 dL_isTold_335 (by decide) ?_
                          refine J_istore12 C3 (by decide) rfl dL_isTold_339 ?_
                          refine J_iinc14 C3 (by decide) rfl dL_isTold_341 ?_
                          refine J_goto (tgt := 172) C3 dL_isTold_344 (by decide) ?_
                          -- to the cut at 172
                          refine J_widen (k := 195 + 313 * j + 133 + 36 * (y + 1)) (n := 1187 + 1765 * j + 685 + 216 * (y + 1)) (by omega) (by omega) ?_
                          refine ih_172 _ (y + 1) _ ?_ ?_ ?_ ?_ ?_ ?_ ?_
                          · omega
                          · omega
                          · omega
                          · exact E5.trans hF.eqs
                          · exact R4.of (fun z => hF 31 0 z (by decide))
                          · intro q a b
                            rw [hF 32 0 q (by decide)]
                            exact R5 q a b
                          · intro q a b
                            rw [hF 33 0 q (by decide)]
                            exact R6 q a b
                have W3 : Eqs σ σ_166 := (g3.trans (ha1.eqs (by decide))).trans (hw1.eqs (by decide))
                have W4 : RowE (σ_166 31 0) (eT (shf σ) (ac σ (j : Int))) := by
                  rw [← g3.sh, ← g3.ac]
                  exact ha2.of (fun z => hw1 31 0 z (by decide) (by decide))
                have W5 : ∀ q, 0 ≤ q → q < 5 → σ_166 32 0 q = chp (shf σ) (ac σ (j : Int)) 10000 q := fun q a b => by
                  rw [hw2 q a b]
                  have e1 := ha1.eqs (show 30 < 31 by decide)
                  rw [e1.sh, e1.ac, g3.sh, g3.ac]
                have W6 : ∀ q, 0 ≤ q → q < 5 → σ_166 33 0 q = sN (fun w => ac σ w 18 q - ac σ w 17 q) j := fun q a b => by
                  rw [hw1 33 0 q (by decide) (by decide), ha1 33 0 q (by decide) (by decide)]
                  exact g4 q a b
                refine J_iconst C3 dL_isTold_169 ?_
                refine J_istore14 C3 (by decide) rfl dL_isTold_170 ?_
                -- to the cut at 172
                refine J_widen (k := 195 + 313 * j + 133 + 36 * 0) (n := 1187 + 1765 * j + 685 + 216 * 0) (by omega) (by omega) ?_
                refine K_172 6 _ 0 _ ?_ ?_ ?_ ?_ ?_ ?_ ?_
                · rfl
                · decide
                · decide
                · exact W3
                · exact W4
                · exact W5
                · intro q a b
                  rw [W6 q a b, if_neg (by omega), Int.add_zero]
        refine J_iconst C3 dL_isTold_124 ?_
        refine J_istore13 C3 (by decide) rfl dL_isTold_125 ?_
        -- to the cut at 127
        refine J_widen (k := 195 + 313 * 0) (n := 1187 + 1765 * 0) (by omega) (by omega) ?_
        refine K_127 4 _ 0 _ ?_ ?_ ?_ ?_ ?_
        · rfl
        · omega
        · omega
        · exact g3
        · intro q _ _
          exact g4 q
      · refine J_iload12 C3 dL_isTold_46 ?_
        refine J_if_eq (tgt := 124) C3 (by omega) dL_isTold_48 (by decide) (fun c_48 => ?_) (fun c_48 => ?_)
        · exact absurd c_48 (by decide)
        · obtain ⟨l1, l2, l3, l4, l5⟩ := lw.2.2.2.2.2.1 (j : Int) (by omega) (by omega) (by omega)
          refine J_aload_0 C3 dL_isTold_51 ?_
          refine J_iload13 C3 dL_isTold_52 ?_
          refine J_XVI C3 (c_X3_wellOf hfl hI3 _ _ i1.1.hvc (by omega)) (cwV 1 C3.1.2.2.2.2 gL_isTold_X3_wellOf rfl rfl rfl (by decide +kernel) ⟨Nat.le_of_ble_eq_true rfl, Nat.le_of_ble_eq_true rfl⟩) rc3 (by decide) rfl rfl (Nat.le_of_ble_eq_true rfl) dL_isTold_54 ⟨by dsimp only; omega, by dsimp only; omega⟩ (fun E σ_54 hx => ?_) (fun z_54 σ_54 hp => ?_)
          · skip
            obtain ⟨_, _, hn_⟩ := hx
            exact absurd ⟨by omega, by rw [g3.at 0 0 7 (by decide)]; omega⟩ hn_
          obtain ⟨hz_, hs_, _⟩ := hp
          have hz_ := hz_.symm
          have hs_ := hs_.symm
          subst hz_
          subst hs_
          refine J_aload4 C3 dL_isTold_57 ?_
          refine J_iconst C3 dL_isTold_59 ?_
          refine J_iload13 C3 dL_isTold_60 ?_
          refine J_imul C3 dL_isTold_62 ?_
          refine J_iaload C3 (k25 x25) (by decide) (by omega) dL_isTold_63 ?_
          refine J_icmp_neS (tgt := 115) C3 (by
            rw [g3.at 3 0 (j : Int) (by decide), g3.at 25 0 _ (by decide), l1]
            ) dL_isTold_64 (by decide) ?_
          refine J_aload_0 C3 dL_isTold_67 ?_
          refine J_iload13 C3 dL_isTold_68 ?_
          refine J_XVI C3 (c_X3_amountOf hfl hI3 _ _ i1.1.hvc (by omega)) (cwV 1 C3.1.2.2.2.2 gL_isTold_X3_amountOf rfl rfl rfl (by decide +kernel) ⟨Nat.le_of_ble_eq_true rfl, Nat.le_of_ble_eq_true rfl⟩) rc3 (by decide) rfl rfl (Nat.le_of_ble_eq_true rfl) dL_isTold_70 ⟨by dsimp only; omega, by dsimp only; omega⟩ (fun E σ_70 hx => ?_) (fun z_70 σ_70 hp => ?_)
          · skip
            obtain ⟨_, _, hn_⟩ := hx
            exact absurd ⟨by omega, by rw [g3.at 0 0 7 (by decide)]; omega⟩ hn_
          obtain ⟨hz_, hs_, _⟩ := hp
          have hz_ := hz_.symm
          have hs_ := hs_.symm
          subst hz_
          subst hs_
          refine J_aload4 C3 dL_isTold_73 ?_
          refine J_iconst C3 dL_isTold_75 ?_
          refine J_iload13 C3 dL_isTold_76 ?_
          refine J_imul C3 dL_isTold_78 ?_
          refine J_iconst C3 dL_isTold_79 ?_
          refine J_iadd C3 dL_isTold_80 ?_
          refine J_iaload C3 (k25 x25) (by decide) (by omega) dL_isTold_81 ?_
          rw [g3.at 25 0 (3 * (j : Int) + 2) (by decide)]
          refine J_iconst C3 dL_isTold_82 ?_
          refine J_icmp_ne (tgt := 99) C3 (by omega) (by omega) dL_isTold_83 (by decide) (fun c_83 => ?_) (fun c_83 => ?_)
          · refine J_aload4 C3 dL_isTold_99 ?_
            refine J_iconst C3 dL_isTold_101 ?_
            refine J_iload13 C3 dL_isTold_102 ?_
            refine J_imul C3 dL_isTold_104 ?_
            refine J_iconst C3 dL_isTold_105 ?_
            refine J_iadd C3 dL_isTold_106 ?_
            refine J_iaload C3 (k25 x25) (by decide) (by omega) dL_isTold_107 ?_
            refine J_icmp_neS (tgt := 115) C3 (by
              first
                | (rw [g3.at 4 0 (j : Int) (by decide), g3.at 25 0 (3 * (j : Int) + 1) (by decide), l3, if_neg (by omega)])
                | (rw [g3.at 4 0 (j : Int) (by decide), g3.at 25 0 (3 * (j : Int) + 1) (by decide), l3, if_pos (by omega)])
              ) dL_isTold_108 (by decide) ?_
            refine J_iconst C3 dL_isTold_111 ?_
            refine J_goto (tgt := 116) C3 dL_isTold_112 (by decide) ?_
            refine J_istore12 C3 (by decide) rfl dL_isTold_116 ?_
            refine J_iinc13 C3 (by decide) rfl dL_isTold_118 ?_
            refine J_goto (tgt := 37) C3 dL_isTold_121 (by decide) ?_
            -- to the cut at 37
            refine J_widen (k := 3 + 12 * (j + 1)) (n := 35 + 72 * (j + 1)) (by omega) (by omega) ?_
            refine ih_37 _ (j + 1) _ ?_ ?_ ?_ ?_ ?_
            · omega
            · omega
            · omega
            · exact g3
            · exact g4
          · refine J_aload4 C3 dL_isTold_86 ?_
            refine J_iconst C3 dL_isTold_88 ?_
            refine J_iload13 C3 dL_isTold_89 ?_
            refine J_imul C3 dL_isTold_91 ?_
            refine J_iconst C3 dL_isTold_92 ?_
            refine J_iadd C3 dL_isTold_93 ?_
            refine J_iaload C3 (k25 x25) (by decide) (by omega) dL_isTold_94 ?_
            refine J_ineg C3 dL_isTold_95 ?_
            refine J_goto (tgt := 108) C3 dL_isTold_96 (by decide) ?_
            refine J_icmp_neS (tgt := 115) C3 (by
              first
                | (rw [g3.at 4 0 (j : Int) (by decide), g3.at 25 0 (3 * (j : Int) + 1) (by decide), l3, if_neg (by omega)])
                | (rw [g3.at 4 0 (j : Int) (by decide), g3.at 25 0 (3 * (j : Int) + 1) (by decide), l3, if_pos (by omega)])
              ) dL_isTold_108 (by decide) ?_
            refine J_iconst C3 dL_isTold_111 ?_
            refine J_goto (tgt := 116) C3 dL_isTold_112 (by decide) ?_
            refine J_istore12 C3 (by decide) rfl dL_isTold_116 ?_
            refine J_iinc13 C3 (by decide) rfl dL_isTold_118 ?_
            refine J_goto (tgt := 37) C3 dL_isTold_121 (by decide) ?_
            -- to the cut at 37
            refine J_widen (k := 3 + 12 * (j + 1)) (n := 35 + 72 * (j + 1)) (by omega) (by omega) ?_
            refine ih_37 _ (j + 1) _ ?_ ?_ ?_ ?_ ?_
            · omega
            · omega
            · omega
            · exact g3
            · exact g4
  refine J_aload_0 C3 dL_isTold_16 ?_
  refine J_KVI C3 (c_X3_vouchers hfl hI3 _) (cwV 0 C3.1.2.2.2.2 gL_isTold_X3_vouchers rfl rfl rfl (by decide +kernel) ⟨Nat.le_of_ble_eq_true rfl, Nat.le_of_ble_eq_true rfl⟩) rc3 (by decide) rfl rfl (Nat.le_of_ble_eq_true rfl) dL_isTold_17 ⟨Nat.le_of_ble_eq_true rfl, Nat.le_of_ble_eq_true rfl⟩ (fun z_17 σ_17 hp => ?_)
  obtain ⟨hz_, hs_⟩ := hp
  have hz_ := hz_.symm
  have hs_ := hs_.symm
  subst hz_
  subst hs_
  refine J_aload8 C3 dL_isTold_20 ?_
  refine J_iconst C3 dL_isTold_22 ?_
  refine J_iaload C3 (k29 x29) (by decide) (by omega) dL_isTold_23 ?_
  refine J_icmp_neS (tgt := 31) C3 (by
    rw [Z0.at 0 0 7 (by decide), Z0.at 29 0 1 (by decide), lm.2.1]
    ) dL_isTold_24 (by decide) ?_
  refine J_iconst C3 dL_isTold_27 ?_
  refine J_goto (tgt := 32) C3 dL_isTold_28 (by decide) ?_
  refine J_istore12 C3 (by decide) rfl dL_isTold_32 ?_
  refine J_iconst C3 dL_isTold_34 ?_
  refine J_istore13 C3 (by decide) rfl dL_isTold_35 ?_
  -- to the cut at 37
  refine K_37 17 _ 0 _ ?_ ?_ ?_ ?_ ?_
  · rfl
  · omega
  · omega
  · exact Z0
  · exact Z3
