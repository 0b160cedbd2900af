set_option maxRecDepth 20000 in
theorem w_L_enter_acl : Cond.arrayClass .long ∈ wsL_enter := by decide +kernel
set_option maxRecDepth 20000 in
theorem w_L_enter_c15 : Cond.constantLong RL 15 (lI (100)) ∈ wsL_enter := by decide +kernel
set_option maxHeartbeats 4000000 in
set_option maxRecDepth 100000 in
theorem c_L_enter0 {l : Launch} (hfl : l.stackTraces = false) {cy : Nat → ClassId} {D : va_G} {ad : Ad} (hI : Inj ad) (σ : Sg) (pen am num : Int) (ka : Nat) (sh : Int → Int) (T : Nat → Int → Int) (x22 : ad 1000 22 = 1) (f35 : ¬ ad 1000 35 = 1) (f36 : ¬ ad 1000 36 = 1) (f37 : ¬ ad 1000 37 = 1) (f38 : ¬ ad 1000 38 = 1) (hka : IsL ad ka 25) (hca : 0 ≤ (0 : Int) ∧ 0 < cnt ka) (hk1 : ka < 35 ∧ 22 < ka) (hh : ∀ q, 0 ≤ q → q < 5 → σ 22 0 q = sh q) (hs : Shk sh) (ht : Tin sh T) (hz : ∀ q, 0 ≤ q → q < 5 → sh q = 0 → T 14 q = 0) (hT : RowE (σ ka 0) (eT sh T)) (hb : ∀ q, 0 ≤ q → q < 5 → 0 ≤ T 15 q ∧ T 15 q < 4611686018427387904) (ha : 1 ≤ am ∧ am ≤ 10000000) (hp : 0 ≤ pen ∧ pen ≤ 1000) (hn : I32 num) : KV l yL_enter wsL_enter ({ frames := 1, cells := 4, slots := 20, locals := 32 } : Room) cy D ad σ [.ref (ad 22 0), .int (iI pen), .ref (ad ka 0), .long (lI am), .int (iI 0), .int (iI num)] (fun σ' => EqE ka σ σ' ∧ RowE (σ' ka 0) (eT sh (stepS sh pen num am T))) 4 20 := by
  refine KV.of (lv0 := [some (.ref (ad 22 0)), some (.int (iI pen)), some (.ref (ad ka 0)), some (.long (lI am)), none, some (.int (iI 0)), some (.int (iI num)), none, none, none, none, none, none, none, none, none, none, none]) hfl hI (by decide) rfl (Nat.le_of_ble_eq_true rfl) rfl ?_
  intro p e s m args below meth c C hr
  have hW := inw_wt hs ht
  have hWs := hs.wt
  have hnn := dv_nn (show 0 ≤ am by omega) hWs
  have hle := dv_le (show 0 ≤ am by omega) hWs
  refine J_iconst C dL_enter_0 ?_
  refine J_newL (N := 5) (kd := 35) C ⟨by decide, by decide⟩ (fun _ _ => rfl) f35 w_L_enter_acl ⟨by decide, by decide⟩ (by decide) ⟨Nat.le_of_ble_eq_true rfl, Nat.le_of_ble_eq_true rfl⟩ dL_enter_1 (fun ad1 q_ e_ hI1 C1 hx1 hs1 x35 => ?_)
  subst e_
  rw [← (hs1 22 (by decide) (Or.inr x22)).2 0]
  rw [← (hs1 ka (by omega) (hka.2.1)).2 0]
  have x22 : ad1 1000 22 = 1 := (hx1 22 (by decide)).trans x22
  have f36 : ¬ ad1 1000 36 = 1 := fun z => f36 ((hx1 36 (by decide)).symm.trans z)
  have f37 : ¬ ad1 1000 37 = 1 := fun z => f37 ((hx1 37 (by decide)).symm.trans z)
  have f38 : ¬ ad1 1000 38 = 1 := fun z => f38 ((hx1 38 (by decide)).symm.trans z)
  have hka := hka.up hs1 (by omega)
  refine J_astore7 C1 (by decide) rfl dL_enter_3 ?_
  refine J_iconst C1 dL_enter_5 ?_
  refine J_newL (N := 5) (kd := 36) C1 ⟨by decide, by decide⟩ (fun _ _ => rfl) f36 w_L_enter_acl ⟨by decide, by decide⟩ (by decide) ⟨Nat.le_of_ble_eq_true rfl, Nat.le_of_ble_eq_true rfl⟩ dL_enter_6 (fun ad2 q_ e_ hI2 C2 hx2 hs2 x36 => ?_)
  subst e_
  rw [← (hs2 22 (by decide) (Or.inr x22)).2 0]
  rw [← (hs2 ka (by omega) (hka.2.1)).2 0]
  rw [← (hs2 35 (by decide) (Or.inr x35)).2 0]
  have x22 : ad2 1000 22 = 1 := (hx2 22 (by decide)).trans x22
  have x35 : ad2 1000 35 = 1 := (hx2 35 (by decide)).trans x35
  have f37 : ¬ ad2 1000 37 = 1 := fun z => f37 ((hx2 37 (by decide)).symm.trans z)
  have f38 : ¬ ad2 1000 38 = 1 := fun z => f38 ((hx2 38 (by decide)).symm.trans z)
  have hka := hka.up hs2 (by omega)
  have hs2 := hs1.trans hs2
  refine J_astore8 C2 (by decide) rfl dL_enter_8 ?_
  refine J_iconst C2 dL_enter_10 ?_
  refine J_newL (N := 5) (kd := 37) C2 ⟨by decide, by decide⟩ (fun _ _ => rfl) f37 w_L_enter_acl ⟨by decide, by decide⟩ (by decide) ⟨Nat.le_of_ble_eq_true rfl, Nat.le_of_ble_eq_true rfl⟩ dL_enter_11 (fun ad3 q_ e_ hI3 C3 hx3 hs3 x37 => ?_)
  subst e_
  rw [← (hs3 22 (by decide) (Or.inr x22)).2 0]
  rw [← (hs3 ka (by omega) (hka.2.1)).2 0]
  rw [← (hs3 35 (by decide) (Or.inr x35)).2 0]
  rw [← (hs3 36 (by decide) (Or.inr x36)).2 0]
  have x22 : ad3 1000 22 = 1 := (hx3 22 (by decide)).trans x22
  have x35 : ad3 1000 35 = 1 := (hx3 35 (by decide)).trans x35
  have x36 : ad3 1000 36 = 1 := (hx3 36 (by decide)).trans x36
  have f38 : ¬ ad3 1000 38 = 1 := fun z => f38 ((hx3 38 (by decide)).symm.trans z)
  have hka := hka.up hs3 (by omega)
  have hs3 := hs2.trans hs3
  refine J_astore9 C3 (by decide) rfl dL_enter_13 ?_
  refine J_iconst C3 dL_enter_15 ?_
  refine J_newL (N := 5) (kd := 38) C3 ⟨by decide, by decide⟩ (fun _ _ => rfl) f38 w_L_enter_acl ⟨by decide, by decide⟩ (by decide) ⟨Nat.le_of_ble_eq_true rfl, Nat.le_of_ble_eq_true rfl⟩ dL_enter_16 (fun ad4 q_ e_ hI4 C4 hx4 hs4 x38 => ?_)
  subst e_
  rw [← (hs4 22 (by decide) (Or.inr x22)).2 0]
  rw [← (hs4 ka (by omega) (hka.2.1)).2 0]
  rw [← (hs4 35 (by decide) (Or.inr x35)).2 0]
  rw [← (hs4 36 (by decide) (Or.inr x36)).2 0]
  rw [← (hs4 37 (by decide) (Or.inr x37)).2 0]
  have x22 : ad4 1000 22 = 1 := (hx4 22 (by decide)).trans x22
  have x35 : ad4 1000 35 = 1 := (hx4 35 (by decide)).trans x35
  have x36 : ad4 1000 36 = 1 := (hx4 36 (by decide)).trans x36
  have x37 : ad4 1000 37 = 1 := (hx4 37 (by decide)).trans x37
  have hka := hka.up hs4 (by omega)
  have hs4 := hs3.trans hs4
  refine J_astore10 C4 (by decide) rfl dL_enter_18 ?_
  have K_26 : ∀ (n_ : Nat) (i : Int) (σ1 : Sg), (0 ≤ i) → (i ≤ 5) → (5 - i < n_) → (EqE ka σ σ1) → (RowE (σ1 ka 0) (eT sh T)) → (∀ q, 0 ≤ q → q < i → σ1 35 0 q = sh q) → (∀ q, 0 ≤ q → q < i → σ1 36 0 q = inw sh T q) → JW p l e ({ frames := 1, cells := 4, slots := 20, locals := 32 } : Room) s m args below meth c cy D ad4 (Ar ad s.heap.size) 18 4 20 (MQ below (QcV cy D ad (fun σ' => EqE ka σ σ' ∧ RowE (σ' ka 0) (eT sh (stepS sh pen num am T))) s.heap.size) args s 4 20 (Ar ad s.heap.size)) σ1 26 [some (.ref (ad4 22 0)), some (.int (iI pen)), some (.ref (ad4 ka 0)), some (.long (lI am)), none, some (.int (iI 0)), some (.int (iI num)), some (.ref (ad4 35 0)), some (.ref (ad4 36 0)), some (.ref (ad4 37 0)), some (.ref (ad4 38 0)), some (.long (lI 0)), none, some (.int (iI i)), none, none, none, none] [] := by
    intro n_
    induction n_ with
    | zero => intro i σ1 g0 g1 g2 g3 g4 g5 g6; omega
    | succ n_ ih_26 =>
      intro i σ1 g0 g1 g2 g3 g4 g5 g6
      have hH : ∀ q, 0 ≤ q → q < 5 → σ1 22 0 q = sh q := fun q a b => by rw [g3 22 0 q (by decide) (by omega)]; exact hh q a b
      refine J_iload13 C4 dL_enter_26 ?_
      refine J_iconst C4 dL_enter_28 ?_
      refine J_icmp_ge (tgt := 71) C4 (by omega) (by omega) dL_enter_29 (by decide) (fun c_29 => ?_) (fun c_29 => ?_)
      · refine J_lload_3 C4 dL_enter_71 ?_
        refine J_aload7 C4 dL_enter_72 ?_
        have K_82 : ∀ (n_ : Nat) (i : Int) (o : Int) (σ1 : Sg), (0 ≤ i) → (i ≤ 5) → (5 - i < n_) → (EqE ka σ σ1) → (RowE (σ1 ka 0) (eT sh (costK sh pen am T i))) → (∀ q, 0 ≤ q → q < 5 → σ1 36 0 q = inw sh T q) → (∀ q, 0 ≤ q → q < 5 → σ1 37 0 q = dv am sh q) → (∃ j : Nat, i = (j : Int) ∧ o = sN (fun q => if T 14 q = 0 then 0 else dv am sh q) j) → JW p l e ({ frames := 1, cells := 4, slots := 20, locals := 32 } : Room) s m args below meth c cy D ad4 (Ar ad s.heap.size) 18 4 20 (MQ below (QcV cy D ad (fun σ' => EqE ka σ σ' ∧ RowE (σ' ka 0) (eT sh (stepS sh pen num am T))) s.heap.size) args s 4 20 (Ar ad s.heap.size)) σ1 82 [some (.ref (ad4 22 0)), some (.int (iI pen)), some (.ref (ad4 ka 0)), some (.long (lI am)), none, some (.int (iI 0)), some (.int (iI num)), some (.ref (ad4 35 0)), some (.ref (ad4 36 0)), some (.ref (ad4 37 0)), some (.ref (ad4 38 0)), some (.long (lI o)), none, some (.int (iI i)), none, none, none, none] [] := by
          intro n_
          induction n_ with
          | zero => intro i o σ1 g0 g1 g2 g3 g4 g5 g6 g7; omega
          | succ n_ ih_82 =>
            intro i o σ1 g0 g1 g2 g3 g4 g5 g6 g7
            obtain ⟨j, rfl, rfl⟩ := g7
            have hH : ∀ q, 0 ≤ q → q < 5 → σ1 22 0 q = sh q := fun q a b => by rw [g3 22 0 q (by decide) (by omega)]; exact hh q a b
            refine J_iload13 C4 dL_enter_82 ?_
            refine J_iconst C4 dL_enter_84 ?_
            refine J_icmp_ge (tgt := 327) C4 (by omega) (by omega) dL_enter_85 (by decide) (fun c_85 => ?_) (fun c_85 => ?_)
            · refine J_iload5 C4 dL_enter_327 ?_
              refine J_if_ne (tgt := 371) C4 (by omega) dL_enter_329 (by decide) (fun c_329 => ?_) (fun c_329 => ?_)
              · exact absurd c_329 (by decide)
              · have K_344 : ∀ (m_ : Nat) (i : Int) (σ2 : Sg), (0 ≤ i) → (i ≤ 5) → (5 - i < m_) → (EqE ka σ σ2) → (RowE (σ2 ka 0) (eT sh (costL sh pen am T i))) → (∀ q, 0 ≤ q → q < 5 → σ2 38 0 q = dv (osm sh T am) (inw sh T) q) → JW p l e ({ frames := 1, cells := 4, slots := 20, locals := 32 } : Room) s m args below meth c cy D ad4 (Ar ad s.heap.size) 18 4 20 (MQ below (QcV cy D ad (fun σ' => EqE ka σ σ' ∧ RowE (σ' ka 0) (eT sh (stepS sh pen num am T))) s.heap.size) args s 4 20 (Ar ad s.heap.size)) σ2 344 [some (.ref (ad4 22 0)), some (.int (iI pen)), some (.ref (ad4 ka 0)), some (.long (lI am)), none, some (.int (iI 0)), some (.int (iI num)), some (.ref (ad4 35 0)), some (.ref (ad4 36 0)), some (.ref (ad4 37 0)), some (.ref (ad4 38 0)), some (.long (lI (osm sh T am))), none, some (.int (iI i)), none, none, none, none] [] := by
                  intro m_
                  induction m_ with
                  | zero => intro i σ2 u0 u1 u2 u3 u4 u5; omega
                  | succ m_ ih_344 =>
                    intro i σ2 u0 u1 u2 u3 u4 u5
                    refine J_iload13 C4 dL_enter_344 ?_
                    refine J_iconst C4 dL_enter_346 ?_
                    refine J_icmp_ge (tgt := 371) C4 (by omega) (by omega) dL_enter_347 (by decide) (fun c_347 => ?_) (fun c_347 => ?_)
                    · refine J_iconst C4 dL_enter_371 ?_
                      refine J_istore13 C4 (by decide) rfl dL_enter_372 ?_
                      refine J_iload13 C4 dL_enter_374 ?_
                      refine J_iconst C4 dL_enter_376 ?_
                      refine J_icmp_ge (tgt := 433) C4 (by omega) (by omega) dL_enter_377 (by decide) (fun c_377 => ?_) (fun c_377 => ?_)
                      · exact absurd c_377 (by decide)
                      · refine J_iload5 C4 dL_enter_380 ?_
                        refine J_if_eq (tgt := 433) C4 (by omega) dL_enter_382 (by decide) (fun c_382 => ?_) (fun c_382 => ?_)
                        · refine J_back hs4 ?_
                          refine J_retV C hr (by decide) (by decide) dL_enter_433 ?_
                          have e9 : i = 5 := by omega
                          subst e9
                          refine ⟨u3, ?_⟩
                          rw [show stepS sh pen num am T = costS sh pen am T from if_pos (by omega), ← costL_5]
                          exact u4
                        · exact absurd c_382 (by decide)
                    · refine J_aload_2 C4 dL_enter_350 ?_
                      refine J_bipush C4 (by decide) dL_enter_351 ?_
                      refine J_iload13 C4 dL_enter_353 ?_
                      refine J_iadd C4 dL_enter_355 ?_
                      refine J_dup2 C4 rfl rfl dL_enter_356 ?_
                      refine J_laload C4 hka hca (by omega) dL_enter_357 ?_
                      refine J_aload10 C4 dL_enter_358 ?_
                      refine J_iload13 C4 dL_enter_360 ?_
                      refine J_laload C4 (k38 x38) (by decide) (by omega) dL_enter_362 ?_
                      refine J_ladd C4 dL_enter_363 ?_
                      refine J_lastore C4 hka hca (by omega) dL_enter_364 ?_
                      refine J_iinc13 C4 (by decide) rfl dL_enter_365 ?_
                      refine J_goto (tgt := 344) C4 dL_enter_368 (by decide) ?_
                      -- to the cut at 344
                      refine ih_344 _ _ ?_ ?_ ?_ ?_ ?_ ?_
                      · omega
                      · omega
                      · omega
                      · exact u3.su (Or.inl rfl)
                      · rw [costL_s (by omega) (by omega)]
                        refine u4.su (fun z => ?_)
                        rw [eT_up15 (by omega) (by omega)]
                        split
                        · rw [u4 (15 + i) (by omega) (by omega), eT_15 (by omega) (by omega), u5 i (by omega) (by omega)]
                        · rfl
                      · intro q a b
                        rw [su_nk (by omega)]
                        exact u5 q a b
                have e5 : j = 5 := by omega
                subst e5
                rw [sN_5, show s5 (fun q => if T 14 q = 0 then 0 else dv am sh q) = osm sh T am from rfl]
                have ho := osm_rng (T := T) (a := am) hs (by omega)
                refine J_lload11 C4 dL_enter_332 ?_
                refine J_aload8 C4 dL_enter_334 ?_
                refine J_aload10 C4 dL_enter_336 ?_
                refine J_KSV C4 (c_L_divide hfl hI4 _ (osm sh T am) 36 38 (k36 x36) (k38 x38) (by decide) (by decide) (by decide) (by omega) (hW.congr (fun q a b => (g5 q a b).symm)) (fun q a b => by rw [g5 q a b]; have := hs.1 q a b; unfold inw; split <;> omega)) (va_cwS 3 C4.1.2.2.2.2 gL_enter_L_divide rfl rfl rfl (by decide +kernel) ⟨Nat.le_of_ble_eq_true rfl, Nat.le_of_ble_eq_true rfl⟩) rfl rfl (Nat.le_of_ble_eq_true rfl) dL_enter_338 ⟨Nat.le_of_ble_eq_true rfl, Nat.le_of_ble_eq_true rfl⟩ (fun σ_338 hp => ?_)
                have hp := hp.symm
                subst hp
                refine J_iconst C4 dL_enter_341 ?_
                refine J_istore13 C4 (by decide) rfl dL_enter_342 ?_
                -- to the cut at 344
                refine K_344 6 _ _ ?_ ?_ ?_ ?_ ?_ ?_
                · decide
                · decide
                · decide
                · exact g3.sf (Or.inr (by decide))
                · rw [costL_0]; exact g4.of (fun z => sf_nk (by omega))
                · intro q a b
                  rw [sf_at a b]
                  exact dv_congr (fun x y z => g5 x y z) q a b
            · refine J_aload_0 C4 dL_enter_88 ?_
              refine J_iload13 C4 dL_enter_89 ?_
              refine J_iaload C4 (k22 x22) (by decide) (by omega) dL_enter_91 ?_
              rw [hH (j : Int) (by omega) (by omega)]
              refine J_if_le (tgt := 108) C4 (by have := hs.1 (j : Int) (by omega) (by omega); omega) dL_enter_92 (by decide) (fun c_92 => ?_) (fun c_92 => ?_)
              · refine J_iconst C4 dL_enter_108 ?_
                refine J_istore14 C4 (by decide) rfl dL_enter_109 ?_
                refine J_iload5 C4 dL_enter_111 ?_
                refine J_if_eq (tgt := 223) C4 (by omega) dL_enter_113 (by decide) (fun c_113 => ?_) (fun c_113 => ?_)
                · refine J_iload5 C4 dL_enter_223 ?_
                  refine J_if_eq (tgt := 246) C4 (by omega) dL_enter_225 (by decide) (fun c_225 => ?_) (fun c_225 => ?_)
                  · refine J_iload14 C4 dL_enter_246 ?_
                    refine J_if_eq (tgt := 306) C4 (by omega) dL_enter_248 (by decide) (fun c_248 => ?_) (fun c_248 => ?_)
                    · have hTi : T 14 (j : Int) = 0 := by
                        first
                          | exact hz _ (by omega) (by omega) (by have := (hs.1 (j : Int) (by omega) (by omega)).1; omega)
                          | (apply Classical.byContradiction
                             intro z
                             exact c_100 (if_neg (fun w => z w.2)))
                      refine J_aload_2 C4 dL_enter_306 ?_
                      refine J_bipush C4 (by decide) dL_enter_307 ?_
                      refine J_iload13 C4 dL_enter_309 ?_
                      refine J_iadd C4 dL_enter_311 ?_
                      refine J_dup2 C4 rfl rfl dL_enter_312 ?_
                      refine J_laload C4 hka hca (by omega) dL_enter_313 ?_
                      refine J_aload9 C4 dL_enter_314 ?_
                      refine J_iload13 C4 dL_enter_316 ?_
                      refine J_laload C4 (k37 x37) (by decide) (by omega) dL_enter_318 ?_
                      refine J_ladd C4 dL_enter_319 ?_
                      refine J_lastore C4 hka hca (by omega) dL_enter_320 ?_
                      refine J_iinc13 C4 (by decide) rfl dL_enter_321 ?_
                      refine J_goto (tgt := 82) C4 dL_enter_324 (by decide) ?_
                      -- to the cut at 82
                      refine J_fg14 ?_
                      refine ih_82 _ _ _ ?_ ?_ ?_ ?_ ?_ ?_ ?_ ?_
                      · omega
                      · omega
                      · omega
                      · exact g3.su (Or.inl rfl)
                      · first
                          | (rw [costK_out (by omega) (by omega) hTi]
                             refine g4.su (fun z => ?_)
                             rw [eT_up5 (by omega) (by omega)]
                             split
                             · rw [g4 (5 + (j : Int)) (by omega) (by omega), eT_5 (by omega) (by omega), costK_15]
                               unfold pn
                               omega
                             · rfl)
                          | (rw [costK_in (by omega) (by omega) hTi]
                             refine g4.su (fun z => ?_)
                             rw [eT_up15 (by omega) (by omega)]
                             split
                             · rw [g4 (15 + (j : Int)) (by omega) (by omega), eT_15 (by omega) (by omega), costK_17, g6 (j : Int) (by omega) (by omega)]
                             · rfl)
                      · intro q a b
                        rw [su_nk (by omega)]
                        exact g5 q a b
                      · intro q a b
                        rw [su_nk (by omega)]
                        exact g6 q a b
                      · refine ⟨j + 1, by omega, ?_⟩
                        simp only [sN]
                        first
                          | rw [if_neg hTi, su_nk (by omega), g6 (j : Int) (by omega) (by omega)]
                          | rw [if_pos hTi, Int.add_zero]
                    · exact absurd c_248 (by decide)
                  · exact absurd c_225 (by decide)
                · exact absurd c_113 (by decide)
              · refine J_aload_2 C4 dL_enter_95 ?_
                refine J_iload13 C4 dL_enter_96 ?_
                refine J_laload C4 hka hca (by omega) dL_enter_98 ?_
                rw [g4 (j : Int) (by omega) (by omega), eT_in (by omega), costK_14]
                refine J_lconst (z := 0) C4 (by decide) dL_enter_99 ?_
                refine J_lif_ne (tgt := 108) C4 (by split <;> omega) (by omega) dL_enter_100 dL_enter_101 (by decide) (fun c_100 => ?_) (fun c_100 => ?_)
                · refine J_iconst C4 dL_enter_108 ?_
                  refine J_istore14 C4 (by decide) rfl dL_enter_109 ?_
                  refine J_iload5 C4 dL_enter_111 ?_
                  refine J_if_eq (tgt := 223) C4 (by omega) dL_enter_113 (by decide) (fun c_113 => ?_) (fun c_113 => ?_)
                  · refine J_iload5 C4 dL_enter_223 ?_
                    refine J_if_eq (tgt := 246) C4 (by omega) dL_enter_225 (by decide) (fun c_225 => ?_) (fun c_225 => ?_)
                    · refine J_iload14 C4 dL_enter_246 ?_
                      refine J_if_eq (tgt := 306) C4 (by omega) dL_enter_248 (by decide) (fun c_248 => ?_) (fun c_248 => ?_)
                      · have hTi : T 14 (j : Int) = 0 := by
                          first
                            | exact hz _ (by omega) (by omega) (by have := (hs.1 (j : Int) (by omega) (by omega)).1; omega)
                            | (apply Classical.byContradiction
                               intro z
                               exact c_100 (if_neg (fun w => z w.2)))
                        refine J_aload_2 C4 dL_enter_306 ?_
                        refine J_bipush C4 (by decide) dL_enter_307 ?_
                        refine J_iload13 C4 dL_enter_309 ?_
                        refine J_iadd C4 dL_enter_311 ?_
                        refine J_dup2 C4 rfl rfl dL_enter_312 ?_
                        refine J_laload C4 hka hca (by omega) dL_enter_313 ?_
                        refine J_aload9 C4 dL_enter_314 ?_
                        refine J_iload13 C4 dL_enter_316 ?_
                        refine J_laload C4 (k37 x37) (by decide) (by omega) dL_enter_318 ?_
                        refine J_ladd C4 dL_enter_319 ?_
                        refine J_lastore C4 hka hca (by omega) dL_enter_320 ?_
                        refine J_iinc13 C4 (by decide) rfl dL_enter_321 ?_
                        refine J_goto (tgt := 82) C4 dL_enter_324 (by decide) ?_
                        -- to the cut at 82
                        refine J_fg14 ?_
                        refine ih_82 _ _ _ ?_ ?_ ?_ ?_ ?_ ?_ ?_ ?_
                        · omega
                        · omega
                        · omega
                        · exact g3.su (Or.inl rfl)
                        · first
                            | (rw [costK_out (by omega) (by omega) hTi]
                               refine g4.su (fun z => ?_)
                               rw [eT_up5 (by omega) (by omega)]
                               split
                               · rw [g4 (5 + (j : Int)) (by omega) (by omega), eT_5 (by omega) (by omega), costK_15]
                                 unfold pn
                                 omega
                               · rfl)
                            | (rw [costK_in (by omega) (by omega) hTi]
                               refine g4.su (fun z => ?_)
                               rw [eT_up15 (by omega) (by omega)]
                               split
                               · rw [g4 (15 + (j : Int)) (by omega) (by omega), eT_15 (by omega) (by omega), costK_17, g6 (j : Int) (by omega) (by omega)]
                               · rfl)
                        · intro q a b
                          rw [su_nk (by omega)]
                          exact g5 q a b
                        · intro q a b
                          rw [su_nk (by omega)]
                          exact g6 q a b
                        · refine ⟨j + 1, by omega, ?_⟩
                          simp only [sN]
                          first
                            | rw [if_neg hTi, su_nk (by omega), g6 (j : Int) (by omega) (by omega)]
                            | rw [if_pos hTi, Int.add_zero]
                      · exact absurd c_248 (by decide)
                    · exact absurd c_225 (by decide)
                  · exact absurd c_113 (by decide)
                · refine J_iconst C4 dL_enter_104 ?_
                  refine J_goto (tgt := 109) C4 dL_enter_105 (by decide) ?_
                  refine J_istore14 C4 (by decide) rfl dL_enter_109 ?_
                  refine J_iload5 C4 dL_enter_111 ?_
                  refine J_if_eq (tgt := 223) C4 (by omega) dL_enter_113 (by decide) (fun c_113 => ?_) (fun c_113 => ?_)
                  · refine J_iload5 C4 dL_enter_223 ?_
                    refine J_if_eq (tgt := 246) C4 (by omega) dL_enter_225 (by decide) (fun c_225 => ?_) (fun c_225 => ?_)
                    · refine J_iload14 C4 dL_enter_246 ?_
                      refine J_if_eq (tgt := 306) C4 (by omega) dL_enter_248 (by decide) (fun c_248 => ?_) (fun c_248 => ?_)
                      · exact absurd c_248 (by decide)
                      · have hTi : ¬ T 14 (j : Int) = 0 := fun z => by rw [if_pos ⟨by omega, z⟩] at c_100; omega
                        refine J_aload9 C4 dL_enter_251 ?_
                        refine J_iload13 C4 dL_enter_253 ?_
                        refine J_laload C4 (k37 x37) (by decide) (by omega) dL_enter_255 ?_
                        rw [g6 (j : Int) (by omega) (by omega)]
                        refine J_iload_1 C4 dL_enter_256 ?_
                        refine J_i2l C4 (by omega) dL_enter_257 ?_
                        have hmr : 0 ≤ dv am sh (j : Int) * pen ∧ dv am sh (j : Int) * pen < 9223372036854775808 := by have := hnn (j : Int) (by omega) (by omega); have := hle (j : Int) (by omega) (by omega); exact mul_rng2 (by omega) (by omega)
                        refine J_lmul C4 dL_enter_258 ?_
                        refine J_lstore15 C4 (by decide) rfl dL_enter_259 ?_
                        refine J_aload_2 C4 dL_enter_261 ?_
                        refine J_iconst C4 dL_enter_262 ?_
                        refine J_iload13 C4 dL_enter_263 ?_
                        refine J_iadd C4 dL_enter_265 ?_
                        refine J_dup2 C4 rfl rfl dL_enter_266 ?_
                        refine J_laload C4 hka hca (by omega) dL_enter_267 ?_
                        refine J_lload15 C4 dL_enter_268 ?_
                        refine J_ldc2 C4 w_L_enter_c15 dL_enter_270 ?_
                        refine J_ldiv C4 (by exact hmr) (by decide) dL_enter_273 ?_
                        refine J_lload15 C4 dL_enter_274 ?_
                        refine J_ldc2 C4 w_L_enter_c15 dL_enter_276 ?_
                        refine J_lrem C4 (by exact hmr) (by decide) dL_enter_279 ?_
                        refine J_lconst (z := 0) C4 (by decide) dL_enter_280 ?_
                        refine J_lif_ne (tgt := 289) C4 (by omega) (by omega) dL_enter_281 dL_enter_282 (by decide) (fun c_281 => ?_) (fun c_281 => ?_)
                        · refine J_lconst (z := 1) C4 (by decide) dL_enter_289 ?_
                          refine J_ladd C4 dL_enter_290 ?_
                          refine J_ladd C4 dL_enter_291 ?_
                          refine J_lastore C4 hka hca (by omega) dL_enter_292 ?_
                          refine J_lload11 C4 dL_enter_293 ?_
                          refine J_aload9 C4 dL_enter_295 ?_
                          refine J_iload13 C4 dL_enter_297 ?_
                          refine J_laload C4 (k37 x37) (by decide) (by omega) dL_enter_299 ?_
                          refine J_ladd C4 dL_enter_300 ?_
                          refine J_lstore11 C4 (by decide) rfl dL_enter_301 ?_
                          refine J_goto (tgt := 321) C4 dL_enter_303 (by decide) ?_
                          refine J_iinc13 C4 (by decide) rfl dL_enter_321 ?_
                          refine J_goto (tgt := 82) C4 dL_enter_324 (by decide) ?_
                          -- to the cut at 82
                          refine J_fg14 ?_
                          refine J_fg15 ?_
                          refine ih_82 _ _ _ ?_ ?_ ?_ ?_ ?_ ?_ ?_ ?_
                          · omega
                          · omega
                          · omega
                          · exact g3.su (Or.inl rfl)
                          · first
                              | (rw [costK_out (by omega) (by omega) hTi]
                                 refine g4.su (fun z => ?_)
                                 rw [eT_up5 (by omega) (by omega)]
                                 split
                                 · rw [g4 (5 + (j : Int)) (by omega) (by omega), eT_5 (by omega) (by omega), costK_15]
                                   unfold pn
                                   omega
                                 · rfl)
                              | (rw [costK_in (by omega) (by omega) hTi]
                                 refine g4.su (fun z => ?_)
                                 rw [eT_up15 (by omega) (by omega)]
                                 split
                                 · rw [g4 (15 + (j : Int)) (by omega) (by omega), eT_15 (by omega) (by omega), costK_17, g6 (j : Int) (by omega) (by omega)]
                                 · rfl)
                          · intro q a b
                            rw [su_nk (by omega)]
                            exact g5 q a b
                          · intro q a b
                            rw [su_nk (by omega)]
                            exact g6 q a b
                          · refine ⟨j + 1, by omega, ?_⟩
                            simp only [sN]
                            first
                              | rw [if_neg hTi, su_nk (by omega), g6 (j : Int) (by omega) (by omega)]
                              | rw [if_pos hTi, Int.add_zero]
                        · refine J_lconst (z := 0) C4 (by decide) dL_enter_285 ?_
                          refine J_goto (tgt := 290) C4 dL_enter_286 (by decide) ?_
                          refine J_ladd C4 dL_enter_290 ?_
                          refine J_ladd C4 dL_enter_291 ?_
                          refine J_lastore C4 hka hca (by omega) dL_enter_292 ?_
                          refine J_lload11 C4 dL_enter_293 ?_
                          refine J_aload9 C4 dL_enter_295 ?_
                          refine J_iload13 C4 dL_enter_297 ?_
                          refine J_laload C4 (k37 x37) (by decide) (by omega) dL_enter_299 ?_
                          refine J_ladd C4 dL_enter_300 ?_
                          refine J_lstore11 C4 (by decide) rfl dL_enter_301 ?_
                          refine J_goto (tgt := 321) C4 dL_enter_303 (by decide) ?_
                          refine J_iinc13 C4 (by decide) rfl dL_enter_321 ?_
                          refine J_goto (tgt := 82) C4 dL_enter_324 (by decide) ?_
                          -- to the cut at 82
                          refine J_fg14 ?_
                          refine J_fg15 ?_
                          refine ih_82 _ _ _ ?_ ?_ ?_ ?_ ?_ ?_ ?_ ?_
                          · omega
                          · omega
                          · omega
                          · exact g3.su (Or.inl rfl)
                          · first
                              | (rw [costK_out (by omega) (by omega) hTi]
                                 refine g4.su (fun z => ?_)
                                 rw [eT_up5 (by omega) (by omega)]
                                 split
                                 · rw [g4 (5 + (j : Int)) (by omega) (by omega), eT_5 (by omega) (by omega), costK_15]
                                   unfold pn
                                   omega
                                 · rfl)
                              | (rw [costK_in (by omega) (by omega) hTi]
                                 refine g4.su (fun z => ?_)
                                 rw [eT_up15 (by omega) (by omega)]
                                 split
                                 · rw [g4 (15 + (j : Int)) (by omega) (by omega), eT_15 (by omega) (by omega), costK_17, g6 (j : Int) (by omega) (by omega)]
                                 · rfl)
                          · intro q a b
                            rw [su_nk (by omega)]
                            exact g5 q a b
                          · intro q a b
                            rw [su_nk (by omega)]
                            exact g6 q a b
                          · refine ⟨j + 1, by omega, ?_⟩
                            simp only [sN]
                            first
                              | rw [if_neg hTi, su_nk (by omega), g6 (j : Int) (by omega) (by omega)]
                              | rw [if_pos hTi, Int.add_zero]
                    · exact absurd c_225 (by decide)
                  · exact absurd c_113 (by decide)
        have e5 : i = 5 := by omega
        subst e5
        refine J_aload9 C4 dL_enter_74 ?_
        refine J_KSV C4 (c_L_divide hfl hI4 _ am 35 37 (k35 x35) (k37 x37) (by decide) (by decide) (by decide) (by omega) (hWs.congr (fun q a b => (g5 q a (by omega)).symm)) (fun q a b => by rw [g5 q a (by omega)]; have := hs.1 q a b; omega)) (va_cwS 3 C4.1.2.2.2.2 gL_enter_L_divide rfl rfl rfl (by decide +kernel) ⟨Nat.le_of_ble_eq_true rfl, Nat.le_of_ble_eq_true rfl⟩) rfl rfl (Nat.le_of_ble_eq_true rfl) dL_enter_76 ⟨Nat.le_of_ble_eq_true rfl, Nat.le_of_ble_eq_true rfl⟩ (fun σ_76 hp => ?_)
        have hp := hp.symm
        subst hp
        have E3 : EqE ka σ (sf σ1 37 0 5 (dv am (σ1 35 0))) := g3.sf (Or.inr (by decide))
        have E4 : RowE (sf σ1 37 0 5 (dv am (σ1 35 0)) ka 0) (eT sh T) := g4.of (fun j => sf_nk (by omega))
        have E6 : ∀ q, 0 ≤ q → q < 5 → sf σ1 37 0 5 (dv am (σ1 35 0)) 36 0 q = inw sh T q := fun q a b => by rw [sf_nk (by decide)]; exact g6 q a (by omega)
        have E7 : ∀ q, 0 ≤ q → q < 5 → sf σ1 37 0 5 (dv am (σ1 35 0)) 37 0 q = dv am sh q := fun q a b => by rw [sf_at a b]; exact dv_congr (fun x y z => g5 x y (by omega)) q a b
        refine J_iconst C4 dL_enter_79 ?_
        refine J_istore13 C4 (by decide) rfl dL_enter_80 ?_
        -- to the cut at 82
        refine K_82 6 _ _ _ ?_ ?_ ?_ ?_ ?_ ?_ ?_ ?_
        · decide
        · decide
        · decide
        · exact E3
        · rw [costK_0]; exact E4
        · exact E6
        · exact E7
        · exact ⟨0, rfl, rfl⟩
      · refine J_aload7 C4 dL_enter_32 ?_
        refine J_iload13 C4 dL_enter_34 ?_
        refine J_aload_0 C4 dL_enter_36 ?_
        refine J_iload13 C4 dL_enter_37 ?_
        refine J_iaload C4 (k22 x22) (by decide) (by omega) dL_enter_39 ?_
        rw [hH i (by omega) (by omega)]
        refine J_i2l C4 (by have := hs.1 i (by omega) (by omega); omega) dL_enter_40 ?_
        refine J_lastore C4 (k35 x35) (by decide) (by omega) dL_enter_41 ?_
        refine J_aload8 C4 dL_enter_42 ?_
        refine J_iload13 C4 dL_enter_44 ?_
        refine J_aload_2 C4 dL_enter_46 ?_
        refine J_iload13 C4 dL_enter_47 ?_
        refine J_laload C4 hka hca (by omega) dL_enter_49 ?_
        have hv : su σ1 35 0 i (sh i) ka 0 i = if 0 < sh i ∧ T 14 i = 0 then 1 else 0 := by rw [su_nk (by omega), g4 i (by omega) (by omega), eT_in (by omega)]
        rw [hv]
        refine J_lconst (z := 1) C4 (by decide) dL_enter_50 ?_
        refine J_lif_ne (tgt := 63) C4 (by split <;> omega) (by omega) dL_enter_51 dL_enter_52 (by decide) (fun c_51 => ?_) (fun c_51 => ?_)
        · refine J_lconst (z := 0) C4 (by decide) dL_enter_63 ?_
          refine J_lastore C4 (k36 x36) (by decide) (by omega) dL_enter_64 ?_
          refine J_iinc13 C4 (by decide) rfl dL_enter_65 ?_
          refine J_goto (tgt := 26) C4 dL_enter_68 (by decide) ?_
          -- to the cut at 26
          refine ih_26 _ _ ?_ ?_ ?_ ?_ ?_ ?_ ?_
          · omega
          · omega
          · omega
          · exact (g3.su (Or.inr (by decide))).su (Or.inr (by decide))
          · exact g4.of (fun j => by rw [su_nk (by omega), su_nk (by omega)])
          · intro q a b
            rw [su_nk (by decide)]
            by_cases e : q = i
            · subst e; rw [su_at]
            · rw [su_ne (Or.inr e)]; exact g5 q a (by omega)
          · intro q a b
            by_cases e : q = i
            · subst e
              rw [su_at]
              have z1 := hz q a (by omega)
              have z2 := (hs.1 q a (by omega)).1
              unfold inw
              split at c_51 <;> split <;> omega
            · rw [su_ne (Or.inr e), su_nk (by decide)]; exact g6 q a (by omega)
        · refine J_aload_0 C4 dL_enter_55 ?_
          refine J_iload13 C4 dL_enter_56 ?_
          refine J_iaload C4 (k22 x22) (by decide) (by omega) dL_enter_58 ?_
          rw [su_nk (by decide), hH i (by omega) (by omega)]
          refine J_i2l C4 (by have := hs.1 i (by omega) (by omega); omega) dL_enter_59 ?_
          refine J_goto (tgt := 64) C4 dL_enter_60 (by decide) ?_
          refine J_lastore C4 (k36 x36) (by decide) (by omega) dL_enter_64 ?_
          refine J_iinc13 C4 (by decide) rfl dL_enter_65 ?_
          refine J_goto (tgt := 26) C4 dL_enter_68 (by decide) ?_
          -- to the cut at 26
          refine ih_26 _ _ ?_ ?_ ?_ ?_ ?_ ?_ ?_
          · omega
          · omega
          · omega
          · exact (g3.su (Or.inr (by decide))).su (Or.inr (by decide))
          · exact g4.of (fun j => by rw [su_nk (by omega), su_nk (by omega)])
          · intro q a b
            rw [su_nk (by decide)]
            by_cases e : q = i
            · subst e; rw [su_at]
            · rw [su_ne (Or.inr e)]; exact g5 q a (by omega)
          · intro q a b
            by_cases e : q = i
            · subst e
              rw [su_at]
              have z1 := hz q a (by omega)
              have z2 := (hs.1 q a (by omega)).1
              unfold inw
              split at c_51 <;> split <;> omega
            · rw [su_ne (Or.inr e), su_nk (by decide)]; exact g6 q a (by omega)
  refine J_lconst (z := 0) C4 (by decide) dL_enter_20 ?_
  refine J_lstore11 C4 (by decide) rfl dL_enter_21 ?_
  refine J_iconst C4 dL_enter_23 ?_
  refine J_istore13 C4 (by decide) rfl dL_enter_24 ?_
  -- to the cut at 26
  refine K_26 6 _ _ ?_ ?_ ?_ ?_ ?_ ?_ ?_
  · decide
  · decide
  · decide
  · exact (((EqE.refl.sz (by decide)).sz (by decide)).sz (by decide)).sz (by decide)
  · exact hT.of (fun j => by rw [sz0_nk (by omega), sz0_nk (by omega), sz0_nk (by omega), sz0_nk (by omega)])
  · intro q a b; omega
  · intro q a b; omega
set_option maxHeartbeats 4000000 in
set_option maxRecDepth 100000 in
theorem c_L_enter1 {l : Launch} (hfl : l.stackTraces = false) {cy : Nat → ClassId} {D : va_G} {ad : Ad} (hI : Inj ad) (σ : Sg) (pen am num : Int) (ka : Nat) (sh : Int → Int) (T : Nat → Int → Int) (x22 : ad 1000 22 = 1) (f35 : ¬ ad 1000 35 = 1) (f36 : ¬ ad 1000 36 = 1) (f37 : ¬ ad 1000 37 = 1) (f38 : ¬ ad 1000 38 = 1) (hka : IsL ad ka 25) (hca : 0 ≤ (0 : Int) ∧ 0 < cnt ka) (hk1 : ka < 35 ∧ 22 < ka) (hh : ∀ q, 0 ≤ q → q < 5 → σ 22 0 q = sh q) (hs : Shk sh) (ht : Tin sh T) (hz : ∀ q, 0 ≤ q → q < 5 → sh q = 0 → T 14 q = 0) (hT : RowE (σ ka 0) (eT sh T)) (hb : ∀ q, 0 ≤ q → q < 5 → 0 ≤ T 15 q ∧ T 15 q < 4611686018427387904) (ha : 1 ≤ am ∧ am ≤ 10000000) (hp : 0 ≤ pen ∧ pen ≤ 1000) (hn : I32 num) : KV l yL_enter wsL_enter ({ frames := 1, cells := 4, slots := 20, locals := 32 } : Room) cy D ad σ [.ref (ad 22 0), .int (iI pen), .ref (ad ka 0), .long (lI am), .int (iI 1), .int (iI num)] (fun σ' => EqE ka σ σ' ∧ RowE (σ' ka 0) (eT sh (stepS sh pen num (-am) T))) 4 20 := by
  refine KV.of (lv0 := [some (.ref (ad 22 0)), some (.int (iI pen)), some (.ref (ad ka 0)), some (.long (lI am)), none, some (.int (iI 1)), some (.int (iI num)), none, none, none, none, none, none, none, none, none, none, none]) hfl hI (by decide) rfl (Nat.le_of_ble_eq_true rfl) rfl ?_
  intro p e s m args below meth c C hr
  have hW := inw_wt hs ht
  have hWs := hs.wt
  have hnn := dv_nn (show 0 ≤ am by omega) hWs
  have hle := dv_le (show 0 ≤ am by omega) hWs
  refine J_iconst C dL_enter_0 ?_
  refine J_newL (N := 5) (kd := 35) C ⟨by decide, by decide⟩ (fun _ _ => rfl) f35 w_L_enter_acl ⟨by decide, by decide⟩ (by decide) ⟨Nat.le_of_ble_eq_true rfl, Nat.le_of_ble_eq_true rfl⟩ dL_enter_1 (fun ad1 q_ e_ hI1 C1 hx1 hs1 x35 => ?_)
  subst e_
  rw [← (hs1 22 (by decide) (Or.inr x22)).2 0]
  rw [← (hs1 ka (by omega) (hka.2.1)).2 0]
  have x22 : ad1 1000 22 = 1 := (hx1 22 (by decide)).trans x22
  have f36 : ¬ ad1 1000 36 = 1 := fun z => f36 ((hx1 36 (by decide)).symm.trans z)
  have f37 : ¬ ad1 1000 37 = 1 := fun z => f37 ((hx1 37 (by decide)).symm.trans z)
  have f38 : ¬ ad1 1000 38 = 1 := fun z => f38 ((hx1 38 (by decide)).symm.trans z)
  have hka := hka.up hs1 (by omega)
  refine J_astore7 C1 (by decide) rfl dL_enter_3 ?_
  refine J_iconst C1 dL_enter_5 ?_
  refine J_newL (N := 5) (kd := 36) C1 ⟨by decide, by decide⟩ (fun _ _ => rfl) f36 w_L_enter_acl ⟨by decide, by decide⟩ (by decide) ⟨Nat.le_of_ble_eq_true rfl, Nat.le_of_ble_eq_true rfl⟩ dL_enter_6 (fun ad2 q_ e_ hI2 C2 hx2 hs2 x36 => ?_)
  subst e_
  rw [← (hs2 22 (by decide) (Or.inr x22)).2 0]
  rw [← (hs2 ka (by omega) (hka.2.1)).2 0]
  rw [← (hs2 35 (by decide) (Or.inr x35)).2 0]
  have x22 : ad2 1000 22 = 1 := (hx2 22 (by decide)).trans x22
  have x35 : ad2 1000 35 = 1 := (hx2 35 (by decide)).trans x35
  have f37 : ¬ ad2 1000 37 = 1 := fun z => f37 ((hx2 37 (by decide)).symm.trans z)
  have f38 : ¬ ad2 1000 38 = 1 := fun z => f38 ((hx2 38 (by decide)).symm.trans z)
  have hka := hka.up hs2 (by omega)
  have hs2 := hs1.trans hs2
  refine J_astore8 C2 (by decide) rfl dL_enter_8 ?_
  refine J_iconst C2 dL_enter_10 ?_
  refine J_newL (N := 5) (kd := 37) C2 ⟨by decide, by decide⟩ (fun _ _ => rfl) f37 w_L_enter_acl ⟨by decide, by decide⟩ (by decide) ⟨Nat.le_of_ble_eq_true rfl, Nat.le_of_ble_eq_true rfl⟩ dL_enter_11 (fun ad3 q_ e_ hI3 C3 hx3 hs3 x37 => ?_)
  subst e_
  rw [← (hs3 22 (by decide) (Or.inr x22)).2 0]
  rw [← (hs3 ka (by omega) (hka.2.1)).2 0]
  rw [← (hs3 35 (by decide) (Or.inr x35)).2 0]
  rw [← (hs3 36 (by decide) (Or.inr x36)).2 0]
  have x22 : ad3 1000 22 = 1 := (hx3 22 (by decide)).trans x22
  have x35 : ad3 1000 35 = 1 := (hx3 35 (by decide)).trans x35
  have x36 : ad3 1000 36 = 1 := (hx3 36 (by decide)).trans x36
  have f38 : ¬ ad3 1000 38 = 1 := fun z => f38 ((hx3 38 (by decide)).symm.trans z)
  have hka := hka.up hs3 (by omega)
  have hs3 := hs2.trans hs3
  refine J_astore9 C3 (by decide) rfl dL_enter_13 ?_
  refine J_iconst C3 dL_enter_15 ?_
  refine J_newL (N := 5) (kd := 38) C3 ⟨by decide, by decide⟩ (fun _ _ => rfl) f38 w_L_enter_acl ⟨by decide, by decide⟩ (by decide) ⟨Nat.le_of_ble_eq_true rfl, Nat.le_of_ble_eq_true rfl⟩ dL_enter_16 (fun ad4 q_ e_ hI4 C4 hx4 hs4 x38 => ?_)
  subst e_
  rw [← (hs4 22 (by decide) (Or.inr x22)).2 0]
  rw [← (hs4 ka (by omega) (hka.2.1)).2 0]
  rw [← (hs4 35 (by decide) (Or.inr x35)).2 0]
  rw [← (hs4 36 (by decide) (Or.inr x36)).2 0]
  rw [← (hs4 37 (by decide) (Or.inr x37)).2 0]
  have x22 : ad4 1000 22 = 1 := (hx4 22 (by decide)).trans x22
  have x35 : ad4 1000 35 = 1 := (hx4 35 (by decide)).trans x35
  have x36 : ad4 1000 36 = 1 := (hx4 36 (by decide)).trans x36
  have x37 : ad4 1000 37 = 1 := (hx4 37 (by decide)).trans x37
  have hka := hka.up hs4 (by omega)
  have hs4 := hs3.trans hs4
  refine J_astore10 C4 (by decide) rfl dL_enter_18 ?_
  have K_26 : ∀ (n_ : Nat) (i : Int) (σ1 : Sg), (0 ≤ i) → (i ≤ 5) → (5 - i < n_) → (EqE ka σ σ1) → (RowE (σ1 ka 0) (eT sh T)) → (∀ q, 0 ≤ q → q < i → σ1 35 0 q = sh q) → (∀ q, 0 ≤ q → q < i → σ1 36 0 q = inw sh T q) → JW p l e ({ frames := 1, cells := 4, slots := 20, locals := 32 } : Room) s m args below meth c cy D ad4 (Ar ad s.heap.size) 18 4 20 (MQ below (QcV cy D ad (fun σ' => EqE ka σ σ' ∧ RowE (σ' ka 0) (eT sh (stepS sh pen num (-am) T))) s.heap.size) args s 4 20 (Ar ad s.heap.size)) σ1 26 [some (.ref (ad4 22 0)), some (.int (iI pen)), some (.ref (ad4 ka 0)), some (.long (lI am)), none, some (.int (iI 1)), some (.int (iI num)), some (.ref (ad4 35 0)), some (.ref (ad4 36 0)), some (.ref (ad4 37 0)), some (.ref (ad4 38 0)), some (.long (lI 0)), none, some (.int (iI i)), none, none, none, none] [] := by
    intro n_
    induction n_ with
    | zero => intro i σ1 g0 g1 g2 g3 g4 g5 g6; omega
    | succ n_ ih_26 =>
      intro i σ1 g0 g1 g2 g3 g4 g5 g6
      have hH : ∀ q, 0 ≤ q → q < 5 → σ1 22 0 q = sh q := fun q a b => by rw [g3 22 0 q (by decide) (by omega)]; exact hh q a b
      refine J_iload13 C4 dL_enter_26 ?_
      refine J_iconst C4 dL_enter_28 ?_
      refine J_icmp_ge (tgt := 71) C4 (by omega) (by omega) dL_enter_29 (by decide) (fun c_29 => ?_) (fun c_29 => ?_)
      · refine J_lload_3 C4 dL_enter_71 ?_
        refine J_aload7 C4 dL_enter_72 ?_
        have K_82 : ∀ (n_ : Nat) (i : Int) (σ1 : Sg), (0 ≤ i) → (i ≤ 5) → (5 - i < n_) → (EqE ka σ σ1) → (∃ j : Nat, i = (j : Int) ∧ RowE (σ1 ka 0) (eT sh (incK sh am T j))) → (∀ q, 0 ≤ q → q < 5 → σ1 36 0 q = inw sh T q) → (∀ q, 0 ≤ q → q < 5 → σ1 37 0 q = dv am sh q) → JW p l e ({ frames := 1, cells := 4, slots := 20, locals := 32 } : Room) s m args below meth c cy D ad4 (Ar ad s.heap.size) 18 4 20 (MQ below (QcV cy D ad (fun σ' => EqE ka σ σ' ∧ RowE (σ' ka 0) (eT sh (stepS sh pen num (-am) T))) s.heap.size) args s 4 20 (Ar ad s.heap.size)) σ1 82 [some (.ref (ad4 22 0)), some (.int (iI pen)), some (.ref (ad4 ka 0)), some (.long (lI am)), none, some (.int (iI 1)), some (.int (iI num)), some (.ref (ad4 35 0)), some (.ref (ad4 36 0)), some (.ref (ad4 37 0)), some (.ref (ad4 38 0)), some (.long (lI 0)), none, some (.int (iI i)), none, none, none, none] [] := by
          intro n_
          induction n_ with
          | zero => intro i σ1 g0 g1 g2 g3 g4 g5 g6; omega
          | succ n_ ih_82 =>
            intro i σ1 g0 g1 g2 g3 g4 g5 g6
            obtain ⟨j, rfl, g4⟩ := g4
            have hH : ∀ q, 0 ≤ q → q < 5 → σ1 22 0 q = sh q := fun q a b => by rw [g3 22 0 q (by decide) (by omega)]; exact hh q a b
            refine J_iload13 C4 dL_enter_82 ?_
            refine J_iconst C4 dL_enter_84 ?_
            refine J_icmp_ge (tgt := 327) C4 (by omega) (by omega) dL_enter_85 (by decide) (fun c_85 => ?_) (fun c_85 => ?_)
            · refine J_iload5 C4 dL_enter_327 ?_
              refine J_if_ne (tgt := 371) C4 (by omega) dL_enter_329 (by decide) (fun c_329 => ?_) (fun c_329 => ?_)
              · have K_374 : ∀ (m_ : Nat) (i : Int) (σ2 : Sg), (0 ≤ i) → (i ≤ 5) → (5 - i < m_) → (EqE ka σ σ2) → (RowE (σ2 ka 0) (eT sh (incF sh num am T i))) → JW p l e ({ frames := 1, cells := 4, slots := 20, locals := 32 } : Room) s m args below meth c cy D ad4 (Ar ad s.heap.size) 18 4 20 (MQ below (QcV cy D ad (fun σ' => EqE ka σ σ' ∧ RowE (σ' ka 0) (eT sh (stepS sh pen num (-am) T))) s.heap.size) args s 4 20 (Ar ad s.heap.size)) σ2 374 [some (.ref (ad4 22 0)), some (.int (iI pen)), some (.ref (ad4 ka 0)), some (.long (lI am)), none, some (.int (iI 1)), some (.int (iI num)), some (.ref (ad4 35 0)), some (.ref (ad4 36 0)), some (.ref (ad4 37 0)), some (.ref (ad4 38 0)), some (.long (lI 0)), none, some (.int (iI i)), none, none, none, none] [] := by
                  intro m_
                  induction m_ with
                  | zero => intro i σ2 u0 u1 u2 u3 u4; omega
                  | succ m_ ih_374 =>
                    intro i σ2 u0 u1 u2 u3 u4
                    have hH2 : ∀ q, 0 ≤ q → q < 5 → σ2 22 0 q = sh q := fun q a b => by rw [u3 22 0 q (by decide) (by omega)]; exact hh q a b
                    refine J_iload13 C4 dL_enter_374 ?_
                    refine J_iconst C4 dL_enter_376 ?_
                    refine J_icmp_ge (tgt := 433) C4 (by omega) (by omega) dL_enter_377 (by decide) (fun c_377 => ?_) (fun c_377 => ?_)
                    · refine J_back hs4 ?_
                      refine J_retV C hr (by decide) (by decide) dL_enter_433 ?_
                      have e9 : i = 5 := by omega
                      subst e9
                      refine ⟨u3, ?_⟩
                      rw [show stepS sh pen num (-am) T = incS sh num am T from by unfold stepS; rw [if_neg (by omega), Int.neg_neg], ← incF_5]
                      exact u4
                    · refine J_iload5 C4 dL_enter_380 ?_
                      refine J_if_eq (tgt := 433) C4 (by omega) dL_enter_382 (by decide) (fun c_382 => ?_) (fun c_382 => ?_)
                      · exact absurd c_382 (by decide)
                      · refine J_aload_0 C4 dL_enter_385 ?_
                        refine J_iload13 C4 dL_enter_386 ?_
                        refine J_iaload C4 (k22 x22) (by decide) (by omega) dL_enter_388 ?_
                        rw [hH2 i (by omega) (by omega)]
                        refine J_if_le (tgt := 427) C4 (by have := hs.1 i (by omega) (by omega); omega) dL_enter_389 (by decide) (fun c_389 => ?_) (fun c_389 => ?_)
                        · refine J_iinc13 C4 (by decide) rfl dL_enter_427 ?_
                          refine J_goto (tgt := 374) C4 dL_enter_430 (by decide) ?_
                          -- to the cut at 374
                          refine ih_374 _ _ ?_ ?_ ?_ ?_ ?_
                          · omega
                          · omega
                          · omega
                          · first | exact u3 | exact (u3.su (Or.inl rfl)).su (Or.inl rfl)
                          · first
                              | (have hTi : ¬ T 14 i = 0 := fun z => by rw [if_pos ⟨by omega, z⟩] at c_397; omega
                                 rw [incF_y (by omega) (by omega) hTi c_408]
                                 have r1 : RowE (su σ2 ka 0 i 1 ka 0) (eT sh (upT (incF sh num am T i) 14 i 0)) := u4.su (fun z => by
                                   rw [eT_up0 (by omega) (by omega)]
                                   split
                                   · rw [if_pos ⟨by omega, rfl⟩]
                                   · rfl)
                                 refine r1.su (fun z => ?_)
                                 rw [eT_up10 (by omega) (by omega)])
                              | (rw [incF_n (fun w => ?_)]
                                 · exact u4
                                 · first
                                     | exact w.1 (hz _ (by omega) (by omega) (by have := (hs.1 i (by omega) (by omega)).1; omega))
                                     | exact c_408 w.2
                                     | exact c_397 (if_neg (fun y => w.1 y.2)))
                        · refine J_aload_2 C4 dL_enter_392 ?_
                          refine J_iload13 C4 dL_enter_393 ?_
                          refine J_laload C4 hka hca (by omega) dL_enter_395 ?_
                          rw [u4 i (by omega) (by omega), eT_in (by omega), incF_14]
                          refine J_lconst (z := 0) C4 (by decide) dL_enter_396 ?_
                          refine J_lif_ne (tgt := 427) C4 (by split <;> omega) (by omega) dL_enter_397 dL_enter_398 (by decide) (fun c_397 => ?_) (fun c_397 => ?_)
                          · refine J_iinc13 C4 (by decide) rfl dL_enter_427 ?_
                            refine J_goto (tgt := 374) C4 dL_enter_430 (by decide) ?_
                            -- to the cut at 374
                            refine ih_374 _ _ ?_ ?_ ?_ ?_ ?_
                            · omega
                            · omega
                            · omega
                            · first | exact u3 | exact (u3.su (Or.inl rfl)).su (Or.inl rfl)
                            · first
                                | (have hTi : ¬ T 14 i = 0 := fun z => by rw [if_pos ⟨by omega, z⟩] at c_397; omega
                                   rw [incF_y (by omega) (by omega) hTi c_408]
                                   have r1 : RowE (su σ2 ka 0 i 1 ka 0) (eT sh (upT (incF sh num am T i) 14 i 0)) := u4.su (fun z => by
                                     rw [eT_up0 (by omega) (by omega)]
                                     split
                                     · rw [if_pos ⟨by omega, rfl⟩]
                                     · rfl)
                                   refine r1.su (fun z => ?_)
                                   rw [eT_up10 (by omega) (by omega)])
                                | (rw [incF_n (fun w => ?_)]
                                   · exact u4
                                   · first
                                       | exact w.1 (hz _ (by omega) (by omega) (by have := (hs.1 i (by omega) (by omega)).1; omega))
                                       | exact c_408 w.2
                                       | exact c_397 (if_neg (fun y => w.1 y.2)))
                          · refine J_aload_2 C4 dL_enter_401 ?_
                            refine J_iconst C4 dL_enter_402 ?_
                            refine J_iload13 C4 dL_enter_403 ?_
                            refine J_iadd C4 dL_enter_405 ?_
                            refine J_laload C4 hka hca (by omega) dL_enter_406 ?_
                            rw [u4 (5 + i) (by omega) (by omega), eT_5 (by omega) (by omega), incF_15 (by omega) (by omega)]
                            refine J_lconst (z := 0) C4 (by decide) dL_enter_407 ?_
                            refine J_lif_ne (tgt := 427) C4 (by have := tkn_rng (T := T) (a := am) hs (by omega) (show 0 ≤ i by omega) (show i < 5 by omega) (hb i (by omega) (by omega)).1; have := hb i (by omega) (by omega); omega) (by omega) dL_enter_408 dL_enter_409 (by decide) (fun c_408 => ?_) (fun c_408 => ?_)
                            · refine J_iinc13 C4 (by decide) rfl dL_enter_427 ?_
                              refine J_goto (tgt := 374) C4 dL_enter_430 (by decide) ?_
                              -- to the cut at 374
                              refine ih_374 _ _ ?_ ?_ ?_ ?_ ?_
                              · omega
                              · omega
                              · omega
                              · first | exact u3 | exact (u3.su (Or.inl rfl)).su (Or.inl rfl)
                              · first
                                  | (have hTi : ¬ T 14 i = 0 := fun z => by rw [if_pos ⟨by omega, z⟩] at c_397; omega
                                     rw [incF_y (by omega) (by omega) hTi c_408]
                                     have r1 : RowE (su σ2 ka 0 i 1 ka 0) (eT sh (upT (incF sh num am T i) 14 i 0)) := u4.su (fun z => by
                                       rw [eT_up0 (by omega) (by omega)]
                                       split
                                       · rw [if_pos ⟨by omega, rfl⟩]
                                       · rfl)
                                     refine r1.su (fun z => ?_)
                                     rw [eT_up10 (by omega) (by omega)])
                                  | (rw [incF_n (fun w => ?_)]
                                     · exact u4
                                     · first
                                         | exact w.1 (hz _ (by omega) (by omega) (by have := (hs.1 i (by omega) (by omega)).1; omega))
                                         | exact c_408 w.2
                                         | exact c_397 (if_neg (fun y => w.1 y.2)))
                            · refine J_aload_2 C4 dL_enter_412 ?_
                              refine J_iload13 C4 dL_enter_413 ?_
                              refine J_lconst (z := 1) C4 (by decide) dL_enter_415 ?_
                              refine J_lastore C4 hka hca (by omega) dL_enter_416 ?_
                              refine J_aload_2 C4 dL_enter_417 ?_
                              refine J_bipush C4 (by decide) dL_enter_418 ?_
                              refine J_iload13 C4 dL_enter_420 ?_
                              refine J_iadd C4 dL_enter_422 ?_
                              refine J_iload6 C4 dL_enter_423 ?_
                              refine J_i2l C4 (by omega) dL_enter_425 ?_
                              refine J_lastore C4 hka hca (by omega) dL_enter_426 ?_
                              refine J_iinc13 C4 (by decide) rfl dL_enter_427 ?_
                              refine J_goto (tgt := 374) C4 dL_enter_430 (by decide) ?_
                              -- to the cut at 374
                              refine ih_374 _ _ ?_ ?_ ?_ ?_ ?_
                              · omega
                              · omega
                              · omega
                              · first | exact u3 | exact (u3.su (Or.inl rfl)).su (Or.inl rfl)
                              · first
                                  | (have hTi : ¬ T 14 i = 0 := fun z => by rw [if_pos ⟨by omega, z⟩] at c_397; omega
                                     rw [incF_y (by omega) (by omega) hTi c_408]
                                     have r1 : RowE (su σ2 ka 0 i 1 ka 0) (eT sh (upT (incF sh num am T i) 14 i 0)) := u4.su (fun z => by
                                       rw [eT_up0 (by omega) (by omega)]
                                       split
                                       · rw [if_pos ⟨by omega, rfl⟩]
                                       · rfl)
                                     refine r1.su (fun z => ?_)
                                     rw [eT_up10 (by omega) (by omega)])
                                  | (rw [incF_n (fun w => ?_)]
                                     · exact u4
                                     · first
                                         | exact w.1 (hz _ (by omega) (by omega) (by have := (hs.1 i (by omega) (by omega)).1; omega))
                                         | exact c_408 w.2
                                         | exact c_397 (if_neg (fun y => w.1 y.2)))
                refine J_iconst C4 dL_enter_371 ?_
                refine J_istore13 C4 (by decide) rfl dL_enter_372 ?_
                -- to the cut at 374
                refine K_374 6 _ _ ?_ ?_ ?_ ?_ ?_
                · decide
                · decide
                · decide
                · exact g3
                · have e5 : j = 5 := by omega
                  subst e5
                  rw [incF_0]
                  exact g4
              · exact absurd c_329 (by decide)
            · refine J_aload_0 C4 dL_enter_88 ?_
              refine J_iload13 C4 dL_enter_89 ?_
              refine J_iaload C4 (k22 x22) (by decide) (by omega) dL_enter_91 ?_
              rw [hH (j : Int) (by omega) (by omega)]
              refine J_if_le (tgt := 108) C4 (by have := hs.1 (j : Int) (by omega) (by omega); omega) dL_enter_92 (by decide) (fun c_92 => ?_) (fun c_92 => ?_)
              · refine J_iconst C4 dL_enter_108 ?_
                refine J_istore14 C4 (by decide) rfl dL_enter_109 ?_
                refine J_iload5 C4 dL_enter_111 ?_
                refine J_if_eq (tgt := 223) C4 (by omega) dL_enter_113 (by decide) (fun c_113 => ?_) (fun c_113 => ?_)
                · exact absurd c_113 (by decide)
                · refine J_iload14 C4 dL_enter_116 ?_
                  refine J_if_eq (tgt := 223) C4 (by omega) dL_enter_118 (by decide) (fun c_118 => ?_) (fun c_118 => ?_)
                  · refine J_iload5 C4 dL_enter_223 ?_
                    refine J_if_eq (tgt := 246) C4 (by omega) dL_enter_225 (by decide) (fun c_225 => ?_) (fun c_225 => ?_)
                    · exact absurd c_225 (by decide)
                    · have hTi : T 14 (j : Int) = 0 := by
                        first
                          | exact hz _ (by omega) (by omega) (by have := (hs.1 (j : Int) (by omega) (by omega)).1; omega)
                          | (apply Classical.byContradiction
                             intro z
                             exact c_100 (if_neg (fun w => z w.2)))
                      refine J_aload_2 C4 dL_enter_228 ?_
                      refine J_bipush C4 (by decide) dL_enter_229 ?_
                      refine J_iload13 C4 dL_enter_231 ?_
                      refine J_iadd C4 dL_enter_233 ?_
                      refine J_dup2 C4 rfl rfl dL_enter_234 ?_
                      refine J_laload C4 hka hca (by omega) dL_enter_235 ?_
                      refine J_aload9 C4 dL_enter_236 ?_
                      refine J_iload13 C4 dL_enter_238 ?_
                      refine J_laload C4 (k37 x37) (by decide) (by omega) dL_enter_240 ?_
                      refine J_ladd C4 dL_enter_241 ?_
                      refine J_lastore C4 hka hca (by omega) dL_enter_242 ?_
                      refine J_goto (tgt := 321) C4 dL_enter_243 (by decide) ?_
                      refine J_iinc13 C4 (by decide) rfl dL_enter_321 ?_
                      refine J_goto (tgt := 82) C4 dL_enter_324 (by decide) ?_
                      -- to the cut at 82
                      refine J_fg14 ?_
                      refine ih_82 _ _ ?_ ?_ ?_ ?_ ?_ ?_ ?_
                      · omega
                      · omega
                      · omega
                      · first | exact g3.su (Or.inl rfl) | exact u3
                      · first
                          | (refine ⟨j + 1, by omega, ?_⟩
                             rw [incK_in hW (by omega) hTi]
                             refine g4.su (fun z => ?_)
                             rw [eT_up20 (by omega) (by omega)]
                             split
                             · rw [g4 (20 + (j : Int)) (by omega) (by omega), eT_20 (by omega), incK_18 (by omega), g6 (j : Int) (by omega) (by omega)]
                             · rfl)
                          | (have e9 : x = 5 := by omega
                             subst e9
                             exact ⟨j + 1, by omega, by rw [← incJ_5]; exact u4⟩)
                      · intro q a b
                        first | exact u5 q a b | (rw [su_nk (by omega)]; exact g5 q a b)
                      · intro q a b
                        first | exact u6 q a b | (rw [su_nk (by omega)]; exact g6 q a b)
                  · exact absurd c_118 (by decide)
              · refine J_aload_2 C4 dL_enter_95 ?_
                refine J_iload13 C4 dL_enter_96 ?_
                refine J_laload C4 hka hca (by omega) dL_enter_98 ?_
                rw [g4 (j : Int) (by omega) (by omega), eT_in (by omega), incK_14]
                refine J_lconst (z := 0) C4 (by decide) dL_enter_99 ?_
                refine J_lif_ne (tgt := 108) C4 (by split <;> omega) (by omega) dL_enter_100 dL_enter_101 (by decide) (fun c_100 => ?_) (fun c_100 => ?_)
                · refine J_iconst C4 dL_enter_108 ?_
                  refine J_istore14 C4 (by decide) rfl dL_enter_109 ?_
                  refine J_iload5 C4 dL_enter_111 ?_
                  refine J_if_eq (tgt := 223) C4 (by omega) dL_enter_113 (by decide) (fun c_113 => ?_) (fun c_113 => ?_)
                  · exact absurd c_113 (by decide)
                  · refine J_iload14 C4 dL_enter_116 ?_
                    refine J_if_eq (tgt := 223) C4 (by omega) dL_enter_118 (by decide) (fun c_118 => ?_) (fun c_118 => ?_)
                    · refine J_iload5 C4 dL_enter_223 ?_
                      refine J_if_eq (tgt := 246) C4 (by omega) dL_enter_225 (by decide) (fun c_225 => ?_) (fun c_225 => ?_)
                      · exact absurd c_225 (by decide)
                      · have hTi : T 14 (j : Int) = 0 := by
                          first
                            | exact hz _ (by omega) (by omega) (by have := (hs.1 (j : Int) (by omega) (by omega)).1; omega)
                            | (apply Classical.byContradiction
                               intro z
                               exact c_100 (if_neg (fun w => z w.2)))
                        refine J_aload_2 C4 dL_enter_228 ?_
                        refine J_bipush C4 (by decide) dL_enter_229 ?_
                        refine J_iload13 C4 dL_enter_231 ?_
                        refine J_iadd C4 dL_enter_233 ?_
                        refine J_dup2 C4 rfl rfl dL_enter_234 ?_
                        refine J_laload C4 hka hca (by omega) dL_enter_235 ?_
                        refine J_aload9 C4 dL_enter_236 ?_
                        refine J_iload13 C4 dL_enter_238 ?_
                        refine J_laload C4 (k37 x37) (by decide) (by omega) dL_enter_240 ?_
                        refine J_ladd C4 dL_enter_241 ?_
                        refine J_lastore C4 hka hca (by omega) dL_enter_242 ?_
                        refine J_goto (tgt := 321) C4 dL_enter_243 (by decide) ?_
                        refine J_iinc13 C4 (by decide) rfl dL_enter_321 ?_
                        refine J_goto (tgt := 82) C4 dL_enter_324 (by decide) ?_
                        -- to the cut at 82
                        refine J_fg14 ?_
                        refine ih_82 _ _ ?_ ?_ ?_ ?_ ?_ ?_ ?_
                        · omega
                        · omega
                        · omega
                        · first | exact g3.su (Or.inl rfl) | exact u3
                        · first
                            | (refine ⟨j + 1, by omega, ?_⟩
                               rw [incK_in hW (by omega) hTi]
                               refine g4.su (fun z => ?_)
                               rw [eT_up20 (by omega) (by omega)]
                               split
                               · rw [g4 (20 + (j : Int)) (by omega) (by omega), eT_20 (by omega), incK_18 (by omega), g6 (j : Int) (by omega) (by omega)]
                               · rfl)
                            | (have e9 : x = 5 := by omega
                               subst e9
                               exact ⟨j + 1, by omega, by rw [← incJ_5]; exact u4⟩)
                        · intro q a b
                          first | exact u5 q a b | (rw [su_nk (by omega)]; exact g5 q a b)
                        · intro q a b
                          first | exact u6 q a b | (rw [su_nk (by omega)]; exact g6 q a b)
                    · exact absurd c_118 (by decide)
                · refine J_iconst C4 dL_enter_104 ?_
                  refine J_goto (tgt := 109) C4 dL_enter_105 (by decide) ?_
                  refine J_istore14 C4 (by decide) rfl dL_enter_109 ?_
                  refine J_iload5 C4 dL_enter_111 ?_
                  refine J_if_eq (tgt := 223) C4 (by omega) dL_enter_113 (by decide) (fun c_113 => ?_) (fun c_113 => ?_)
                  · exact absurd c_113 (by decide)
                  · refine J_iload14 C4 dL_enter_116 ?_
                    refine J_if_eq (tgt := 223) C4 (by omega) dL_enter_118 (by decide) (fun c_118 => ?_) (fun c_118 => ?_)
                    · exact absurd c_118 (by decide)
                    · have hTi : ¬ T 14 (j : Int) = 0 := fun z => by rw [if_pos ⟨by omega, z⟩] at c_100; omega
                      have htk := tkn_rng (T := T) (a := am) hs (by omega) (show 0 ≤ (j : Int) by omega) (show (j : Int) < 5 by omega) (hb (j : Int) (by omega) (by omega)).1
                      have hbj := hb (j : Int) (by omega) (by omega)
                      have hnj := hnn (j : Int) (by omega) (by omega)
                      have hlj := hle (j : Int) (by omega) (by omega)
                      refine J_aload_2 C4 dL_enter_121 ?_
                      refine J_iconst C4 dL_enter_122 ?_
                      refine J_iload13 C4 dL_enter_123 ?_
                      refine J_iadd C4 dL_enter_125 ?_
                      refine J_laload C4 hka hca (by omega) dL_enter_126 ?_
                      rw [g4 (5 + (j : Int)) (by omega) (by omega), eT_5 (by omega) (by omega), incK_15 (by omega)]
                      refine J_aload9 C4 dL_enter_127 ?_
                      refine J_iload13 C4 dL_enter_129 ?_
                      refine J_laload C4 (k37 x37) (by decide) (by omega) dL_enter_131 ?_
                      rw [g6 (j : Int) (by omega) (by omega)]
                      refine J_lif_ge (tgt := 145) C4 (by omega) (by omega) dL_enter_132 dL_enter_133 (by decide) (fun c_132 => ?_) (fun c_132 => ?_)
                      · refine J_aload9 C4 dL_enter_145 ?_
                        refine J_iload13 C4 dL_enter_147 ?_
                        refine J_laload C4 (k37 x37) (by decide) (by omega) dL_enter_149 ?_
                        try rw [g6 (j : Int) (by omega) (by omega), show dv am sh (j : Int) = tkn sh T am (j : Int) from by unfold tkn; rw [if_neg hTi, if_neg (by omega)]]
                        refine J_lstore15 C4 (by decide) rfl dL_enter_150 ?_
                        refine J_aload_2 C4 dL_enter_152 ?_
                        refine J_iconst C4 dL_enter_153 ?_
                        refine J_iload13 C4 dL_enter_154 ?_
                        refine J_iadd C4 dL_enter_156 ?_
                        refine J_dup2 C4 rfl rfl dL_enter_157 ?_
                        refine J_laload C4 hka hca (by omega) dL_enter_158 ?_
                        refine J_lload15 C4 dL_enter_159 ?_
                        refine J_lsub C4 dL_enter_161 ?_
                        refine J_lastore C4 hka hca (by omega) dL_enter_162 ?_
                        refine J_aload_2 C4 dL_enter_163 ?_
                        refine J_bipush C4 (by decide) dL_enter_164 ?_
                        refine J_iload13 C4 dL_enter_166 ?_
                        refine J_iadd C4 dL_enter_168 ?_
                        refine J_dup2 C4 rfl rfl dL_enter_169 ?_
                        refine J_laload C4 hka hca (by omega) dL_enter_170 ?_
                        refine J_aload9 C4 dL_enter_171 ?_
                        refine J_iload13 C4 dL_enter_173 ?_
                        refine J_laload C4 (k37 x37) (by decide) (by omega) dL_enter_175 ?_
                        refine J_lload15 C4 dL_enter_176 ?_
                        refine J_lsub C4 dL_enter_178 ?_
                        refine J_ladd C4 dL_enter_179 ?_
                        refine J_lastore C4 hka hca (by omega) dL_enter_180 ?_
                        have R4 : RowE ((su (su σ1 ka 0 (5 + (j : Int)) (σ1 ka 0 (5 + (j : Int)) - tkn sh T am (j : Int))) ka 0 (20 + (j : Int)) (su σ1 ka 0 (5 + (j : Int)) (σ1 ka 0 (5 + (j : Int)) - tkn sh T am (j : Int)) ka 0 (20 + (j : Int)) + (su σ1 ka 0 (5 + (j : Int)) (σ1 ka 0 (5 + (j : Int)) - tkn sh T am (j : Int)) 37 0 (j : Int) - tkn sh T am (j : Int)))) ka 0) (eT sh (incJ sh am T j 0)) := by
                          rw [incJ_0 (by omega)]
                          have r1 : RowE (su σ1 ka 0 (5 + (j : Int)) (σ1 ka 0 (5 + (j : Int)) - tkn sh T am (j : Int)) ka 0) (eT sh (upT (incK sh am T j) 15 (j : Int) (T 15 (j : Int) - tkn sh T am (j : Int)))) := g4.su (fun z => by
                            rw [eT_up5 (by omega) (by omega)]
                            split
                            · rw [g4 (5 + (j : Int)) (by omega) (by omega), eT_5 (by omega) (by omega), incK_15 (by omega)]
                            · rfl)
                          refine r1.su (fun z => ?_)
                          rw [eT_up20 (by omega) (by omega)]
                          split
                          · rw [su_ne (Or.inr (by omega)), su_nk (by omega), g4 (20 + (j : Int)) (by omega) (by omega), eT_20 (by omega), incK_18 (by omega), g6 (j : Int) (by omega) (by omega)]
                          · rfl
                        have R3 : EqE ka σ (su (su σ1 ka 0 (5 + (j : Int)) (σ1 ka 0 (5 + (j : Int)) - tkn sh T am (j : Int))) ka 0 (20 + (j : Int)) (su σ1 ka 0 (5 + (j : Int)) (σ1 ka 0 (5 + (j : Int)) - tkn sh T am (j : Int)) ka 0 (20 + (j : Int)) + (su σ1 ka 0 (5 + (j : Int)) (σ1 ka 0 (5 + (j : Int)) - tkn sh T am (j : Int)) 37 0 (j : Int) - tkn sh T am (j : Int)))) := (g3.su (Or.inl rfl)).su (Or.inl rfl)
                        have R5 : ∀ q, 0 ≤ q → q < 5 → (su (su σ1 ka 0 (5 + (j : Int)) (σ1 ka 0 (5 + (j : Int)) - tkn sh T am (j : Int))) ka 0 (20 + (j : Int)) (su σ1 ka 0 (5 + (j : Int)) (σ1 ka 0 (5 + (j : Int)) - tkn sh T am (j : Int)) ka 0 (20 + (j : Int)) + (su σ1 ka 0 (5 + (j : Int)) (σ1 ka 0 (5 + (j : Int)) - tkn sh T am (j : Int)) 37 0 (j : Int) - tkn sh T am (j : Int)))) 36 0 q = inw sh T q := fun q a b => by rw [su_nk (by omega), su_nk (by omega)]; exact g5 q a b
                        have R6 : ∀ q, 0 ≤ q → q < 5 → (su (su σ1 ka 0 (5 + (j : Int)) (σ1 ka 0 (5 + (j : Int)) - tkn sh T am (j : Int))) ka 0 (20 + (j : Int)) (su σ1 ka 0 (5 + (j : Int)) (σ1 ka 0 (5 + (j : Int)) - tkn sh T am (j : Int)) ka 0 (20 + (j : Int)) + (su σ1 ka 0 (5 + (j : Int)) (σ1 ka 0 (5 + (j : Int)) - tkn sh T am (j : Int)) 37 0 (j : Int) - tkn sh T am (j : Int)))) 37 0 q = dv am sh q := fun q a b => by rw [su_nk (by omega), su_nk (by omega)]; exact g6 q a b
                        generalize (su (su σ1 ka 0 (5 + (j : Int)) (σ1 ka 0 (5 + (j : Int)) - tkn sh T am (j : Int))) ka 0 (20 + (j : Int)) (su σ1 ka 0 (5 + (j : Int)) (σ1 ka 0 (5 + (j : Int)) - tkn sh T am (j : Int)) ka 0 (20 + (j : Int)) + (su σ1 ka 0 (5 + (j : Int)) (σ1 ka 0 (5 + (j : Int)) - tkn sh T am (j : Int)) 37 0 (j : Int) - tkn sh T am (j : Int)))) = σ9 at R3 R4 R5 R6 ⊢
                        refine J_lload15 C4 dL_enter_181 ?_
                        refine J_aload8 C4 dL_enter_183 ?_
                        refine J_aload10 C4 dL_enter_185 ?_
                        refine J_KSV C4 (c_L_divide hfl hI4 σ9 (tkn sh T am (j : Int)) 36 38 (k36 x36) (k38 x38) (by decide) (by decide) (by decide) (by omega) (hW.congr (fun q a b => (R5 q a b).symm)) (fun q a b => by rw [R5 q a b]; have := hs.1 q a b; unfold inw; split <;> omega)) (va_cwS 3 C4.1.2.2.2.2 gL_enter_L_divide rfl rfl rfl (by decide +kernel) ⟨Nat.le_of_ble_eq_true rfl, Nat.le_of_ble_eq_true rfl⟩) rfl rfl (Nat.le_of_ble_eq_true rfl) dL_enter_187 ⟨Nat.le_of_ble_eq_true rfl, Nat.le_of_ble_eq_true rfl⟩ (fun σ_187 hp => ?_)
                        have hp := hp.symm
                        subst hp
                        have K_193 : ∀ (m_ : Nat) (x : Int) (σ2 : Sg), (0 ≤ x) → (x ≤ 5) → (5 - x < m_) → (EqE ka σ σ2) → (RowE (σ2 ka 0) (eT sh (incJ sh am T j x))) → (∀ q, 0 ≤ q → q < 5 → σ2 36 0 q = inw sh T q) → (∀ q, 0 ≤ q → q < 5 → σ2 37 0 q = dv am sh q) → (∀ q, 0 ≤ q → q < 5 → σ2 38 0 q = dv (tkn sh T am (j : Int)) (inw sh T) q) → JW p l e ({ frames := 1, cells := 4, slots := 20, locals := 32 } : Room) s m args below meth c cy D ad4 (Ar ad s.heap.size) 18 4 20 (MQ below (QcV cy D ad (fun σ' => EqE ka σ σ' ∧ RowE (σ' ka 0) (eT sh (stepS sh pen num (-am) T))) s.heap.size) args s 4 20 (Ar ad s.heap.size)) σ2 193 [some (.ref (ad4 22 0)), some (.int (iI pen)), some (.ref (ad4 ka 0)), some (.long (lI am)), none, some (.int (iI 1)), some (.int (iI num)), some (.ref (ad4 35 0)), some (.ref (ad4 36 0)), some (.ref (ad4 37 0)), some (.ref (ad4 38 0)), some (.long (lI 0)), none, some (.int (iI ((j : Int)))), none, none, none, some (.int (iI x))] [] := by
                          intro m_
                          induction m_ with
                          | zero => intro x σ2 u0 u1 u2 u3 u4 u5 u6 u7; omega
                          | succ m_ ih_193 =>
                            intro x σ2 u0 u1 u2 u3 u4 u5 u6 u7
                            refine J_iload17 C4 dL_enter_193 ?_
                            refine J_iconst C4 dL_enter_195 ?_
                            refine J_icmp_ge (tgt := 220) C4 (by omega) (by omega) dL_enter_196 (by decide) (fun c_196 => ?_) (fun c_196 => ?_)
                            · refine J_goto (tgt := 321) C4 dL_enter_220 (by decide) ?_
                              refine J_iinc13 C4 (by decide) rfl dL_enter_321 ?_
                              refine J_goto (tgt := 82) C4 dL_enter_324 (by decide) ?_
                              -- to the cut at 82
                              refine J_fg17 ?_
                              refine ih_82 _ _ ?_ ?_ ?_ ?_ ?_ ?_ ?_
                              · omega
                              · omega
                              · omega
                              · first | exact g3.su (Or.inl rfl) | exact u3
                              · first
                                  | (refine ⟨j + 1, by omega, ?_⟩
                                     rw [incK_in hW (by omega) hTi]
                                     refine g4.su (fun z => ?_)
                                     rw [eT_up20 (by omega) (by omega)]
                                     split
                                     · rw [g4 (20 + (j : Int)) (by omega) (by omega), eT_20 (by omega), incK_18 (by omega), g6 (j : Int) (by omega) (by omega)]
                                     · rfl)
                                  | (have e9 : x = 5 := by omega
                                     subst e9
                                     exact ⟨j + 1, by omega, by rw [← incJ_5]; exact u4⟩)
                              · intro q a b
                                first | exact u5 q a b | (rw [su_nk (by omega)]; exact g5 q a b)
                              · intro q a b
                                first | exact u6 q a b | (rw [su_nk (by omega)]; exact g6 q a b)
                            · refine J_aload_2 C4 dL_enter_199 ?_
                              refine J_bipush C4 (by decide) dL_enter_200 ?_
                              refine J_iload17 C4 dL_enter_202 ?_
                              refine J_iadd C4 dL_enter_204 ?_
                              refine J_dup2 C4 rfl rfl dL_enter_205 ?_
                              refine J_laload C4 hka hca (by omega) dL_enter_206 ?_
                              refine J_aload10 C4 dL_enter_207 ?_
                              refine J_iload17 C4 dL_enter_209 ?_
                              refine J_laload C4 (k38 x38) (by decide) (by omega) dL_enter_211 ?_
                              refine J_ladd C4 dL_enter_212 ?_
                              refine J_lastore C4 hka hca (by omega) dL_enter_213 ?_
                              refine J_iinc17 C4 (by decide) rfl dL_enter_214 ?_
                              refine J_goto (tgt := 193) C4 dL_enter_217 (by decide) ?_
                              -- to the cut at 193
                              refine ih_193 _ _ ?_ ?_ ?_ ?_ ?_ ?_ ?_ ?_
                              · omega
                              · omega
                              · omega
                              · exact u3.su (Or.inl rfl)
                              · rw [incJ_s (by omega) (by omega)]
                                refine u4.su (fun z => ?_)
                                rw [eT_up20 (by omega) (by omega)]
                                split
                                · rw [u4 (20 + x) (by omega) (by omega), eT_20 (by omega), u7 x (by omega) (by omega)]
                                · rfl
                              · intro q a b
                                rw [su_nk (by omega)]
                                exact u5 q a b
                              · intro q a b
                                rw [su_nk (by omega)]
                                exact u6 q a b
                              · intro q a b
                                rw [su_nk (by omega)]
                                exact u7 q a b
                        refine J_iconst C4 dL_enter_190 ?_
                        refine J_istore17 C4 (by decide) rfl dL_enter_191 ?_
                        -- to the cut at 193
                        refine J_fg14 ?_
                        refine J_fg15 ?_
                        refine K_193 6 _ _ ?_ ?_ ?_ ?_ ?_ ?_ ?_ ?_
                        · decide
                        · decide
                        · decide
                        · exact R3.sf (Or.inr (by decide))
                        · exact R4.of (fun z => sf_nk (by omega))
                        · intro q a b
                          rw [sf_nk (by decide)]
                          exact R5 q a b
                        · intro q a b
                          rw [sf_nk (by decide)]
                          exact R6 q a b
                        · intro q a b
                          rw [sf_at a b]
                          exact dv_congr (fun x y z => R5 x y z) q a b
                      · refine J_aload_2 C4 dL_enter_136 ?_
                        refine J_iconst C4 dL_enter_137 ?_
                        refine J_iload13 C4 dL_enter_138 ?_
                        refine J_iadd C4 dL_enter_140 ?_
                        refine J_laload C4 hka hca (by omega) dL_enter_141 ?_
                        rw [g4 (5 + (j : Int)) (by omega) (by omega), eT_5 (by omega) (by omega), incK_15 (by omega), show T 15 (j : Int) = tkn sh T am (j : Int) from by unfold tkn; rw [if_neg hTi, if_pos c_132]]
                        refine J_goto (tgt := 150) C4 dL_enter_142 (by decide) ?_
                        try rw [g6 (j : Int) (by omega) (by omega), show dv am sh (j : Int) = tkn sh T am (j : Int) from by unfold tkn; rw [if_neg hTi, if_neg (by omega)]]
                        refine J_lstore15 C4 (by decide) rfl dL_enter_150 ?_
                        refine J_aload_2 C4 dL_enter_152 ?_
                        refine J_iconst C4 dL_enter_153 ?_
                        refine J_iload13 C4 dL_enter_154 ?_
                        refine J_iadd C4 dL_enter_156 ?_
                        refine J_dup2 C4 rfl rfl dL_enter_157 ?_
                        refine J_laload C4 hka hca (by omega) dL_enter_158 ?_
                        refine J_lload15 C4 dL_enter_159 ?_
                        refine J_lsub C4 dL_enter_161 ?_
                        refine J_lastore C4 hka hca (by omega) dL_enter_162 ?_
                        refine J_aload_2 C4 dL_enter_163 ?_
                        refine J_bipush C4 (by decide) dL_enter_164 ?_
                        refine J_iload13 C4 dL_enter_166 ?_
                        refine J_iadd C4 dL_enter_168 ?_
                        refine J_dup2 C4 rfl rfl dL_enter_169 ?_
                        refine J_laload C4 hka hca (by omega) dL_enter_170 ?_
                        refine J_aload9 C4 dL_enter_171 ?_
                        refine J_iload13 C4 dL_enter_173 ?_
                        refine J_laload C4 (k37 x37) (by decide) (by omega) dL_enter_175 ?_
                        refine J_lload15 C4 dL_enter_176 ?_
                        refine J_lsub C4 dL_enter_178 ?_
                        refine J_ladd C4 dL_enter_179 ?_
                        refine J_lastore C4 hka hca (by omega) dL_enter_180 ?_
                        have R4 : RowE ((su (su σ1 ka 0 (5 + (j : Int)) (σ1 ka 0 (5 + (j : Int)) - tkn sh T am (j : Int))) ka 0 (20 + (j : Int)) (su σ1 ka 0 (5 + (j : Int)) (σ1 ka 0 (5 + (j : Int)) - tkn sh T am (j : Int)) ka 0 (20 + (j : Int)) + (su σ1 ka 0 (5 + (j : Int)) (σ1 ka 0 (5 + (j : Int)) - tkn sh T am (j : Int)) 37 0 (j : Int) - tkn sh T am (j : Int)))) ka 0) (eT sh (incJ sh am T j 0)) := by
                          rw [incJ_0 (by omega)]
                          have r1 : RowE (su σ1 ka 0 (5 + (j : Int)) (σ1 ka 0 (5 + (j : Int)) - tkn sh T am (j : Int)) ka 0) (eT sh (upT (incK sh am T j) 15 (j : Int) (T 15 (j : Int) - tkn sh T am (j : Int)))) := g4.su (fun z => by
                            rw [eT_up5 (by omega) (by omega)]
                            split
                            · rw [g4 (5 + (j : Int)) (by omega) (by omega), eT_5 (by omega) (by omega), incK_15 (by omega)]
                            · rfl)
                          refine r1.su (fun z => ?_)
                          rw [eT_up20 (by omega) (by omega)]
                          split
                          · rw [su_ne (Or.inr (by omega)), su_nk (by omega), g4 (20 + (j : Int)) (by omega) (by omega), eT_20 (by omega), incK_18 (by omega), g6 (j : Int) (by omega) (by omega)]
                          · rfl
                        have R3 : EqE ka σ (su (su σ1 ka 0 (5 + (j : Int)) (σ1 ka 0 (5 + (j : Int)) - tkn sh T am (j : Int))) ka 0 (20 + (j : Int)) (su σ1 ka 0 (5 + (j : Int)) (σ1 ka 0 (5 + (j : Int)) - tkn sh T am (j : Int)) ka 0 (20 + (j : Int)) + (su σ1 ka 0 (5 + (j : Int)) (σ1 ka 0 (5 + (j : Int)) - tkn sh T am (j : Int)) 37 0 (j : Int) - tkn sh T am (j : Int)))) := (g3.su (Or.inl rfl)).su (Or.inl rfl)
                        have R5 : ∀ q, 0 ≤ q → q < 5 → (su (su σ1 ka 0 (5 + (j : Int)) (σ1 ka 0 (5 + (j : Int)) - tkn sh T am (j : Int))) ka 0 (20 + (j : Int)) (su σ1 ka 0 (5 + (j : Int)) (σ1 ka 0 (5 + (j : Int)) - tkn sh T am (j : Int)) ka 0 (20 + (j : Int)) + (su σ1 ka 0 (5 + (j : Int)) (σ1 ka 0 (5 + (j : Int)) - tkn sh T am (j : Int)) 37 0 (j : Int) - tkn sh T am (j : Int)))) 36 0 q = inw sh T q := fun q a b => by rw [su_nk (by omega), su_nk (by omega)]; exact g5 q a b
                        have R6 : ∀ q, 0 ≤ q → q < 5 → (su (su σ1 ka 0 (5 + (j : Int)) (σ1 ka 0 (5 + (j : Int)) - tkn sh T am (j : Int))) ka 0 (20 + (j : Int)) (su σ1 ka 0 (5 + (j : Int)) (σ1 ka 0 (5 + (j : Int)) - tkn sh T am (j : Int)) ka 0 (20 + (j : Int)) + (su σ1 ka 0 (5 + (j : Int)) (σ1 ka 0 (5 + (j : Int)) - tkn sh T am (j : Int)) 37 0 (j : Int) - tkn sh T am (j : Int)))) 37 0 q = dv am sh q := fun q a b => by rw [su_nk (by omega), su_nk (by omega)]; exact g6 q a b
                        generalize (su (su σ1 ka 0 (5 + (j : Int)) (σ1 ka 0 (5 + (j : Int)) - tkn sh T am (j : Int))) ka 0 (20 + (j : Int)) (su σ1 ka 0 (5 + (j : Int)) (σ1 ka 0 (5 + (j : Int)) - tkn sh T am (j : Int)) ka 0 (20 + (j : Int)) + (su σ1 ka 0 (5 + (j : Int)) (σ1 ka 0 (5 + (j : Int)) - tkn sh T am (j : Int)) 37 0 (j : Int) - tkn sh T am (j : Int)))) = σ9 at R3 R4 R5 R6 ⊢
                        refine J_lload15 C4 dL_enter_181 ?_
                        refine J_aload8 C4 dL_enter_183 ?_
                        refine J_aload10 C4 dL_enter_185 ?_
                        refine J_KSV C4 (c_L_divide hfl hI4 σ9 (tkn sh T am (j : Int)) 36 38 (k36 x36) (k38 x38) (by decide) (by decide) (by decide) (by omega) (hW.congr (fun q a b => (R5 q a b).symm)) (fun q a b => by rw [R5 q a b]; have := hs.1 q a b; unfold inw; split <;> omega)) (va_cwS 3 C4.1.2.2.2.2 gL_enter_L_divide rfl rfl rfl (by decide +kernel) ⟨Nat.le_of_ble_eq_true rfl, Nat.le_of_ble_eq_true rfl⟩) rfl rfl (Nat.le_of_ble_eq_true rfl) dL_enter_187 ⟨Nat.le_of_ble_eq_true rfl, Nat.le_of_ble_eq_true rfl⟩ (fun σ_187 hp => ?_)
                        have hp := hp.symm
                        subst hp
                        have K_193 : ∀ (m_ : Nat) (x : Int) (σ2 : Sg), (0 ≤ x) → (x ≤ 5) → (5 - x < m_) → (EqE ka σ σ2) → (RowE (σ2 ka 0) (eT sh (incJ sh am T j x))) → (∀ q, 0 ≤ q → q < 5 → σ2 36 0 q = inw sh T q) → (∀ q, 0 ≤ q → q < 5 → σ2 37 0 q = dv am sh q) → (∀ q, 0 ≤ q → q < 5 → σ2 38 0 q = dv (tkn sh T am (j : Int)) (inw sh T) q) → JW p l e ({ frames := 1, cells := 4, slots := 20, locals := 32 } : Room) s m args below meth c cy D ad4 (Ar ad s.heap.size) 18 4 20 (MQ below (QcV cy D ad (fun σ' => EqE ka σ σ' ∧ RowE (σ' ka 0) (eT sh (stepS sh pen num (-am) T))) s.heap.size) args s 4 20 (Ar ad s.heap.size)) σ2 193 [some (.ref (ad4 22 0)), some (.int (iI pen)), some (.ref (ad4 ka 0)), some (.long (lI am)), none, some (.int (iI 1)), some (.int (iI num)), some (.ref (ad4 35 0)), some (.ref (ad4 36 0)), some (.ref (ad4 37 0)), some (.ref (ad4 38 0)), some (.long (lI 0)), none, some (.int (iI ((j : Int)))), none, none, none, some (.int (iI x))] [] := by
                          intro m_
                          induction m_ with
                          | zero => intro x σ2 u0 u1 u2 u3 u4 u5 u6 u7; omega
                          | succ m_ ih_193 =>
                            intro x σ2 u0 u1 u2 u3 u4 u5 u6 u7
                            refine J_iload17 C4 dL_enter_193 ?_
                            refine J_iconst C4 dL_enter_195 ?_
                            refine J_icmp_ge (tgt := 220) C4 (by omega) (by omega) dL_enter_196 (by decide) (fun c_196 => ?_) (fun c_196 => ?_)
                            · refine J_goto (tgt := 321) C4 dL_enter_220 (by decide) ?_
                              refine J_iinc13 C4 (by decide) rfl dL_enter_321 ?_
                              refine J_goto (tgt := 82) C4 dL_enter_324 (by decide) ?_
                              -- to the cut at 82
                              refine J_fg17 ?_
                              refine ih_82 _ _ ?_ ?_ ?_ ?_ ?_ ?_ ?_
                              · omega
                              · omega
                              · omega
                              · first | exact g3.su (Or.inl rfl) | exact u3
                              · first
                                  | (refine ⟨j + 1, by omega, ?_⟩
                                     rw [incK_in hW (by omega) hTi]
                                     refine g4.su (fun z => ?_)
                                     rw [eT_up20 (by omega) (by omega)]
                                     split
                                     · rw [g4 (20 + (j : Int)) (by omega) (by omega), eT_20 (by omega), incK_18 (by omega), g6 (j : Int) (by omega) (by omega)]
                                     · rfl)
                                  | (have e9 : x = 5 := by omega
                                     subst e9
                                     exact ⟨j + 1, by omega, by rw [← incJ_5]; exact u4⟩)
                              · intro q a b
                                first | exact u5 q a b | (rw [su_nk (by omega)]; exact g5 q a b)
                              · intro q a b
                                first | exact u6 q a b | (rw [su_nk (by omega)]; exact g6 q a b)
                            · refine J_aload_2 C4 dL_enter_199 ?_
                              refine J_bipush C4 (by decide) dL_enter_200 ?_
                              refine J_iload17 C4 dL_enter_202 ?_
                              refine J_iadd C4 dL_enter_204 ?_
                              refine J_dup2 C4 rfl rfl dL_enter_205 ?_
                              refine J_laload C4 hka hca (by omega) dL_enter_206 ?_
                              refine J_aload10 C4 dL_enter_207 ?_
                              refine J_iload17 C4 dL_enter_209 ?_
                              refine J_laload C4 (k38 x38) (by decide) (by omega) dL_enter_211 ?_
                              refine J_ladd C4 dL_enter_212 ?_
                              refine J_lastore C4 hka hca (by omega) dL_enter_213 ?_
                              refine J_iinc17 C4 (by decide) rfl dL_enter_214 ?_
                              refine J_goto (tgt := 193) C4 dL_enter_217 (by decide) ?_
                              -- to the cut at 193
                              refine ih_193 _ _ ?_ ?_ ?_ ?_ ?_ ?_ ?_ ?_
                              · omega
                              · omega
                              · omega
                              · exact u3.su (Or.inl rfl)
                              · rw [incJ_s (by omega) (by omega)]
                                refine u4.su (fun z => ?_)
                                rw [eT_up20 (by omega) (by omega)]
                                split
                                · rw [u4 (20 + x) (by omega) (by omega), eT_20 (by omega), u7 x (by omega) (by omega)]
                                · rfl
                              · intro q a b
                                rw [su_nk (by omega)]
                                exact u5 q a b
                              · intro q a b
                                rw [su_nk (by omega)]
                                exact u6 q a b
                              · intro q a b
                                rw [su_nk (by omega)]
                                exact u7 q a b
                        refine J_iconst C4 dL_enter_190 ?_
                        refine J_istore17 C4 (by decide) rfl dL_enter_191 ?_
                        -- to the cut at 193
                        refine J_fg14 ?_
                        refine J_fg15 ?_
                        refine K_193 6 _ _ ?_ ?_ ?_ ?_ ?_ ?_ ?_ ?_
                        · decide
                        · decide
                        · decide
                        · exact R3.sf (Or.inr (by decide))
                        · exact R4.of (fun z => sf_nk (by omega))
                        · intro q a b
                          rw [sf_nk (by decide)]
                          exact R5 q a b
                        · intro q a b
                          rw [sf_nk (by decide)]
                          exact R6 q a b
                        · intro q a b
                          rw [sf_at a b]
                          exact dv_congr (fun x y z => R5 x y z) q a b
        have e5 : i = 5 := by omega
        subst e5
        refine J_aload9 C4 dL_enter_74 ?_
        refine J_KSV C4 (c_L_divide hfl hI4 _ am 35 37 (k35 x35) (k37 x37) (by decide) (by decide) (by decide) (by omega) (hWs.congr (fun q a b => (g5 q a (by omega)).symm)) (fun q a b => by rw [g5 q a (by omega)]; have := hs.1 q a b; omega)) (va_cwS 3 C4.1.2.2.2.2 gL_enter_L_divide rfl rfl rfl (by decide +kernel) ⟨Nat.le_of_ble_eq_true rfl, Nat.le_of_ble_eq_true rfl⟩) rfl rfl (Nat.le_of_ble_eq_true rfl) dL_enter_76 ⟨Nat.le_of_ble_eq_true rfl, Nat.le_of_ble_eq_true rfl⟩ (fun σ_76 hp => ?_)
        have hp := hp.symm
        subst hp
        have E3 : EqE ka σ (sf σ1 37 0 5 (dv am (σ1 35 0))) := g3.sf (Or.inr (by decide))
        have E4 : RowE (sf σ1 37 0 5 (dv am (σ1 35 0)) ka 0) (eT sh T) := g4.of (fun j => sf_nk (by omega))
        have E6 : ∀ q, 0 ≤ q → q < 5 → sf σ1 37 0 5 (dv am (σ1 35 0)) 36 0 q = inw sh T q := fun q a b => by rw [sf_nk (by decide)]; exact g6 q a (by omega)
        have E7 : ∀ q, 0 ≤ q → q < 5 → sf σ1 37 0 5 (dv am (σ1 35 0)) 37 0 q = dv am sh q := fun q a b => by rw [sf_at a b]; exact dv_congr (fun x y z => g5 x y (by omega)) q a b
        refine J_iconst C4 dL_enter_79 ?_
        refine J_istore13 C4 (by decide) rfl dL_enter_80 ?_
        -- to the cut at 82
        refine K_82 6 _ _ ?_ ?_ ?_ ?_ ?_ ?_ ?_
        · decide
        · decide
        · decide
        · exact E3
        · exact ⟨0, rfl, by rw [incK_0]; exact E4⟩
        · exact E6
        · exact E7
      · refine J_aload7 C4 dL_enter_32 ?_
        refine J_iload13 C4 dL_enter_34 ?_
        refine J_aload_0 C4 dL_enter_36 ?_
        refine J_iload13 C4 dL_enter_37 ?_
        refine J_iaload C4 (k22 x22) (by decide) (by omega) dL_enter_39 ?_
        rw [hH i (by omega) (by omega)]
        refine J_i2l C4 (by have := hs.1 i (by omega) (by omega); omega) dL_enter_40 ?_
        refine J_lastore C4 (k35 x35) (by decide) (by omega) dL_enter_41 ?_
        refine J_aload8 C4 dL_enter_42 ?_
        refine J_iload13 C4 dL_enter_44 ?_
        refine J_aload_2 C4 dL_enter_46 ?_
        refine J_iload13 C4 dL_enter_47 ?_
        refine J_laload C4 hka hca (by omega) dL_enter_49 ?_
        have hv : su σ1 35 0 i (sh i) ka 0 i = if 0 < sh i ∧ T 14 i = 0 then 1 else 0 := by rw [su_nk (by omega), g4 i (by omega) (by omega), eT_in (by omega)]
        rw [hv]
        refine J_lconst (z := 1) C4 (by decide) dL_enter_50 ?_
        refine J_lif_ne (tgt := 63) C4 (by split <;> omega) (by omega) dL_enter_51 dL_enter_52 (by decide) (fun c_51 => ?_) (fun c_51 => ?_)
        · refine J_lconst (z := 0) C4 (by decide) dL_enter_63 ?_
          refine J_lastore C4 (k36 x36) (by decide) (by omega) dL_enter_64 ?_
          refine J_iinc13 C4 (by decide) rfl dL_enter_65 ?_
          refine J_goto (tgt := 26) C4 dL_enter_68 (by decide) ?_
          -- to the cut at 26
          refine ih_26 _ _ ?_ ?_ ?_ ?_ ?_ ?_ ?_
          · omega
          · omega
          · omega
          · exact (g3.su (Or.inr (by decide))).su (Or.inr (by decide))
          · exact g4.of (fun j => by rw [su_nk (by omega), su_nk (by omega)])
          · intro q a b
            rw [su_nk (by decide)]
            by_cases e : q = i
            · subst e; rw [su_at]
            · rw [su_ne (Or.inr e)]; exact g5 q a (by omega)
          · intro q a b
            by_cases e : q = i
            · subst e
              rw [su_at]
              have z1 := hz q a (by omega)
              have z2 := (hs.1 q a (by omega)).1
              unfold inw
              split at c_51 <;> split <;> omega
            · rw [su_ne (Or.inr e), su_nk (by decide)]; exact g6 q a (by omega)
        · refine J_aload_0 C4 dL_enter_55 ?_
          refine J_iload13 C4 dL_enter_56 ?_
          refine J_iaload C4 (k22 x22) (by decide) (by omega) dL_enter_58 ?_
          rw [su_nk (by decide), hH i (by omega) (by omega)]
          refine J_i2l C4 (by have := hs.1 i (by omega) (by omega); omega) dL_enter_59 ?_
          refine J_goto (tgt := 64) C4 dL_enter_60 (by decide) ?_
          refine J_lastore C4 (k36 x36) (by decide) (by omega) dL_enter_64 ?_
          refine J_iinc13 C4 (by decide) rfl dL_enter_65 ?_
          refine J_goto (tgt := 26) C4 dL_enter_68 (by decide) ?_
          -- to the cut at 26
          refine ih_26 _ _ ?_ ?_ ?_ ?_ ?_ ?_ ?_
          · omega
          · omega
          · omega
          · exact (g3.su (Or.inr (by decide))).su (Or.inr (by decide))
          · exact g4.of (fun j => by rw [su_nk (by omega), su_nk (by omega)])
          · intro q a b
            rw [su_nk (by decide)]
            by_cases e : q = i
            · subst e; rw [su_at]
            · rw [su_ne (Or.inr e)]; exact g5 q a (by omega)
          · intro q a b
            by_cases e : q = i
            · subst e
              rw [su_at]
              have z1 := hz q a (by omega)
              have z2 := (hs.1 q a (by omega)).1
              unfold inw
              split at c_51 <;> split <;> omega
            · rw [su_ne (Or.inr e), su_nk (by decide)]; exact g6 q a (by omega)
  refine J_lconst (z := 0) C4 (by decide) dL_enter_20 ?_
  refine J_lstore11 C4 (by decide) rfl dL_enter_21 ?_
  refine J_iconst C4 dL_enter_23 ?_
  refine J_istore13 C4 (by decide) rfl dL_enter_24 ?_
  -- to the cut at 26
  refine K_26 6 _ _ ?_ ?_ ?_ ?_ ?_ ?_ ?_
  · decide
  · decide
  · decide
  · exact (((EqE.refl.sz (by decide)).sz (by decide)).sz (by decide)).sz (by decide)
  · exact hT.of (fun j => by rw [sz0_nk (by omega), sz0_nk (by omega), sz0_nk (by omega), sz0_nk (by omega)])
  · intro q a b; omega
  · intro q a b; omega
theorem c_L_enter {l : Launch} (hfl : l.stackTraces = false) {cy : Nat → ClassId} {D : va_G} {ad : Ad} (hI : Inj ad) (σ : Sg) (pen am num inc : Int) (hinc : inc = 0 ∨ inc = 1) (ka : Nat) (sh : Int → Int) (T : Nat → Int → Int) (x22 : ad 1000 22 = 1) (f35 : ¬ ad 1000 35 = 1) (f36 : ¬ ad 1000 36 = 1) (f37 : ¬ ad 1000 37 = 1) (f38 : ¬ ad 1000 38 = 1) (hka : IsL ad ka 25) (hca : 0 ≤ (0 : Int) ∧ 0 < cnt ka) (hk1 : ka < 35 ∧ 22 < ka) (hh : ∀ q, 0 ≤ q → q < 5 → σ 22 0 q = sh q) (hs : Shk sh) (ht : Tin sh T) (hz : ∀ q, 0 ≤ q → q < 5 → sh q = 0 → T 14 q = 0) (hT : RowE (σ ka 0) (eT sh T)) (hb : ∀ q, 0 ≤ q → q < 5 → 0 ≤ T 15 q ∧ T 15 q < 4611686018427387904) (ha : 1 ≤ am ∧ am ≤ 10000000) (hp : 0 ≤ pen ∧ pen ≤ 1000) (hn : I32 num) : KV l yL_enter wsL_enter ({ frames := 1, cells := 4, slots := 20, locals := 32 } : Room) cy D ad σ [.ref (ad 22 0), .int (iI pen), .ref (ad ka 0), .long (lI am), .int (iI inc), .int (iI num)] (fun σ' => EqE ka σ σ' ∧ RowE (σ' ka 0) (eT sh (stepS sh pen num (if inc = 0 then am else -am) T))) 4 20 := by
  rcases hinc with rfl | rfl
  · rw [if_pos rfl]
    exact c_L_enter0 hfl hI σ pen am num ka sh T x22 f35 f36 f37 f38 hka hca hk1 hh hs ht hz hT hb ha hp hn
  · rw [if_neg (by decide)]
    exact c_L_enter1 hfl hI σ pen am num ka sh T x22 f35 f36 f37 f38 hka hca hk1 hh hs ht hz hT hb ha hp hn
