theorem rel0 : Rel σ0 := by
  have es : ∀ q : Int, shf σ0 q = if q = 0 then 10000 else 0 := fun q => by
    unfold shf
    show (if 0 ≤ q ∧ q < 5 then (if q = 0 then (10000 : Int) else 0) else 0) = _
    by_cases h0 : q = 0
    · subst h0; decide
    · rw [if_neg h0]; split <;> rfl
  have z0 : (0 : Int) ≤ 0 := Int.le_refl 0
  have hT : ∀ w : Int, Tin (shf σ0) (T0f (σ0 13 w)) := fun w => by
    have e14 : ∀ q, T0f (σ0 13 w) 14 q = 0 := fun q => by
      show (if 0 ≤ q ∧ q < 5 then (0 : Int) else 0) = 0
      split <;> rfl
    refine ⟨fun p _ _ => Or.inl (e14 p), ?_⟩
    have ei : ∀ q, inw (shf σ0) (T0f (σ0 13 w)) q = if q = 0 then 10000 else 0 := fun q => by
      unfold inw
      rw [if_pos (e14 q), es]
    unfold s5
    simp only [ei]
    decide
  refine ⟨⟨⟨by decide, by decide⟩, ⟨by decide, by decide⟩, ⟨by decide, by decide⟩, ⟨rfl, rfl, rfl, rfl, rfl⟩, ⟨by decide, by decide⟩, ⟨by decide, by decide⟩⟩, ⟨fun q _ _ => rfl, fun p _ _ => ?_, ?_⟩, fun v h0 h1 => ?_, fun w h0 h1 => ?_, fun w q _ _ _ _ => ?_, fun w h0 h1 => ⟨hT w, ?_⟩, fun k q _ _ _ _ => ?_, fun k _ _ => ?_, fun q _ _ => rfl⟩
  · rw [es]
    split <;> omega
  · unfold s5
    simp only [es]
    decide
  · exact ⟨⟨z0, (show (0 : Int) < 6 by decide)⟩, rfl, rfl, ⟨z0, (show (0 : Int) ≤ 10000000 by decide)⟩, Or.inl rfl, fun h => absurd (show v < 0 from h) (by omega)⟩
  · exact ⟨⟨fun h => absurd (show w < 0 from h) (by omega), z0, (show (0 : Int) ≤ 1000 by decide)⟩, ⟨(show (0 : Int) ≤ 300 by decide), (show (300 : Int) ≤ 1000 by decide)⟩, rfl, Or.inl rfl⟩
  · exact ⟨rfl, Or.inl rfl, fun h => absurd rfl h⟩
  · show ac σ0 w = T0f (σ0 13 w)
    funext c q
    unfold ac T0f
    by_cases hq : 0 ≤ q ∧ q < 5
    · rw [if_pos hq]
      by_cases h14 : c = 14
      · subst h14
        show (if 14 ≤ 14 ∧ 14 ≤ 18 ∧ 0 ≤ q ∧ q < 5 then (0 : Int) else 0) = 0
        split <;> rfl
      by_cases h16 : c = 16
      · subst h16
        show (if 14 ≤ 16 ∧ 16 ≤ 18 ∧ 0 ≤ q ∧ q < 5 then (if q < 5 then (-1 : Int) else 0) else 0) = -1
        rw [if_pos (show 14 ≤ 16 ∧ 16 ≤ 18 ∧ 0 ≤ q ∧ q < 5 from ⟨by decide, by decide, hq.1, hq.2⟩), if_pos hq.2]
      rw [if_neg h14, if_neg h16]
      split
      · rename_i hc
        obtain rfl | rfl | rfl : c = 15 ∨ c = 17 ∨ c = 18 := by omega
        all_goals rfl
      · rfl
    · rw [if_neg hq, if_neg (fun z => hq ⟨z.2.2.1, z.2.2.2⟩)]
  · exact ⟨rfl, rfl, ⟨z0, z0⟩, fun _ => rfl⟩
  · show (0 : Int) + 0 + 0 + 0 + 0 ≤ 10000000
    decide
set_option maxHeartbeats 4000000 in
set_option maxRecDepth 100000 in
theorem law_loop {p : Program} {l : Launch} {e : Env} {s : State} {m : MethodId} {below : List Frame} {meth : Method} {c : Code} {cy : Nat → ClassId} {D : va_G} {ad : Ad} {A : Nat → Prop} {b L : Nat} {xs : Nat → Int32} (C : Cx p l e room_1 s m #[Value.ref b] below meth c cy D ad A 8 cL_law RL wsL_law) (hfl : l.stackTraces = false) (hX : va_X b L xs s s.heap) (hbl : b < s.heap.size) (hbA : ¬ A b) (hL : L ≤ 3072) (hr : meth.sig.returnType = ret) (hA : ∀ q, A q → s.heap.size ≤ q) : ∀ (n t : Nat) (σ : Sg), Rel σ → 512 < t + n → t ≤ 512 → JW p l e room_1 s m #[Value.ref b] below meth c cy D ad A 8 (200 + 6 * t) (2000 + 36 * t) (lw_Z below #[Value.ref b] s) σ 23 [some (.ref b), some (.ref (ad 0 0)), some (.ref (ad 22 0)), some (.ref (ad 42 0)), some (.int (iI (6 * (t : Int)))), none, none, none] [] := by
  intro n
  induction n with
  | zero => intro t σ _ h1 h2; omega
  | succ n ih =>
    intro t σ r h1 h2
    refine J_iload4 C dL_law_23 ?_
    refine J_aload_0 C dL_law_25 ?_
    refine J_slen C hX hbl hbA dL_law_26 ?_
    refine J_bipush C (by decide) dL_law_27 ?_
    refine J_isub C dL_law_29 ?_
    refine J_icmp_gt (tgt := 1743) C (by omega) (by omega) dL_law_30 (by decide) (fun cc => ?_) (fun cc => ?_)
    · refine J_iconst C dL_law_1743 ?_
      intro H locs ls g1 g2 g3
      refine va_forget (fun q hq => hA _ (g2.2.2 q hq)) ?_
      refine W.widen (k := 648160) (n := 7151623) (by omega) (by omega) ?_
      rw [show iI 1 = (1 : Int32) from by decide]
      exact lw_ret C.1.1 C.1.2.1 hr C.2.2.2.2.1 dL_law_1744
    · have hi : 0 ≤ 6 * (t : Int) ∧ 6 * (t : Int) + 6 ≤ L := ⟨by omega, by omega⟩
      have ht : t < 512 := by omega
      have hcap : (200 + 6 * t) + 6 ≤ 648160 ∧ (2000 + 36 * t) + 36 ≤ 7151623 := ⟨by omega, by omega⟩
      have K : ∀ σ' : Sg, Rel σ' → JW p l e room_1 s m #[Value.ref b] below meth c cy D ad A 8 ((200 + 6 * t) + 6) ((2000 + 36 * t) + 36) (lw_Z below #[Value.ref b] s) σ' 1737 [some (.ref b), some (.ref (ad 0 0)), some (.ref (ad 22 0)), some (.ref (ad 42 0)), some (.int (iI (6 * (t : Int)))), none, none, none] [] := by
        intro σ' r'
        refine J_iinc4 C (by decide) rfl dL_law_1737 ?_
        refine J_goto (tgt := 23) C dL_law_1740 (by decide) ?_
        have e1 : 6 * (t : Int) + 6 = 6 * ((t + 1 : Nat) : Int) := by omega
        have e2 : (200 + 6 * t) + 6 = 200 + 6 * (t + 1) := by omega
        have e3 : (2000 + 36 * t) + 36 = 2000 + 36 * (t + 1) := by omega
        rw [e1, e2, e3]
        exact ih (t + 1) σ' r' (by omega) (by omega)
      refine J_aload_0 C dL_law_33 ?_
      refine J_iload4 C dL_law_34 ?_
      refine J_sld (i := 6 * (t : Int)) (k := 0) C hX hbl hbA hL (by omega) ⟨by omega, by omega⟩ dL_law_36 ?_
      refine J_bipush C (by decide) dL_law_37 ?_
      obtain ⟨z, z0, z32, hz⟩ := and31 (sv xs (6 * (t : Int)) 0)
      refine J_iand C hz dL_law_39 ?_
      rcases (show z = 0 ∨ z = 1 ∨ z = 2 ∨ z = 3 ∨ z = 4 ∨ z = 5 ∨ z = 6 ∨ z = 7 ∨ z = 8 ∨ z = 9 ∨ z = 10 ∨ z = 11 ∨ z = 12 ∨ z = 13 ∨ z = 14 ∨ z = 15 ∨ z = 16 ∨ z = 17 ∨ z = 18 ∨ z = 19 ∨ z = 20 ∨ z = 21 ∨ z = 22 ∨ z = 23 ∨ z = 24 ∨ 25 ≤ z by omega) with rfl | rfl | rfl | rfl | rfl | rfl | rfl | rfl | rfl | rfl | rfl | rfl | rfl | rfl | rfl | rfl | rfl | rfl | rfl | rfl | rfl | rfl | rfl | rfl | rfl | hz25
      · exact J_tabIn (off := 116) (tgt := 156) C ⟨by decide, by decide⟩ dL_law_40 (by decide) (by decide) rfl (by decide) (b_setShares C hfl hX hbl hbA hL r hi hcap K)
      · exact J_tabIn (off := 200) (tgt := 240) C ⟨by decide, by decide⟩ dL_law_40 (by decide) (by decide) rfl (by decide) (b_setPenalty C hfl hX hbl hbA hL r hi hcap K)
      · exact J_tabIn (off := 256) (tgt := 296) C ⟨by decide, by decide⟩ dL_law_40 (by decide) (by decide) rfl (by decide) (b_setOverhead C hfl hX hbl hbA hL r hi hcap K)
      · exact J_tabIn (off := 312) (tgt := 352) C ⟨by decide, by decide⟩ dL_law_40 (by decide) (by decide) rfl (by decide) (b_addWell C hfl hX hbl hbA hL r hi hcap K)
      · exact J_tabIn (off := 356) (tgt := 396) C ⟨by decide, by decide⟩ dL_law_40 (by decide) (by decide) rfl (by decide) (b_elect C hfl hX hbl hbA hL r hi hcap K)
      · exact J_tabIn (off := 459) (tgt := 499) C ⟨by decide, by decide⟩ dL_law_40 (by decide) (by decide) rfl (by decide) (b_cost C hfl hX hbl hbA hL r hi hcap K)
      · exact J_tabIn (off := 527) (tgt := 567) C ⟨by decide, by decide⟩ dL_law_40 (by decide) (by decide) rfl (by decide) (b_overhead C hfl hX hbl hbA hL r hi hcap K)
      · exact J_tabIn (off := 595) (tgt := 635) C ⟨by decide, by decide⟩ dL_law_40 (by decide) (by decide) rfl (by decide) (b_income C hfl hX hbl hbA hL r hi hcap K)
      · exact J_tabIn (off := 663) (tgt := 703) C ⟨by decide, by decide⟩ dL_law_40 (by decide) (by decide) rfl (by decide) (b_move C hfl hX hbl hbA hL r hi hcap K)
      · exact J_tabIn (off := 731) (tgt := 771) C ⟨by decide, by decide⟩ dL_law_40 (by decide) (by decide) rfl (by decide) (b_vouchers C hfl hX hbl hbA hL r hi hcap K)
      · exact J_tabIn (off := 744) (tgt := 784) C ⟨by decide, by decide⟩ dL_law_40 (by decide) (by decide) rfl (by decide) (b_wellOf C hfl hX hbl hbA hL r hi hcap K)
      · exact J_tabIn (off := 800) (tgt := 840) C ⟨by decide, by decide⟩ dL_law_40 (by decide) (by decide) rfl (by decide) (b_amountOf C hfl hX hbl hbA hL r hi hcap K)
      · exact J_tabIn (off := 856) (tgt := 896) C ⟨by decide, by decide⟩ dL_law_40 (by decide) (by decide) rfl (by decide) (b_isIn C hfl hX hbl hbA hL r hi hcap K)
      · exact J_tabIn (off := 931) (tgt := 971) C ⟨by decide, by decide⟩ dL_law_40 (by decide) (by decide) rfl (by decide) (b_toEarn C hfl hX hbl hbA hL r hi hcap K)
      · exact J_tabIn (off := 998) (tgt := 1038) C ⟨by decide, by decide⟩ dL_law_40 (by decide) (by decide) rfl (by decide) (b_backAt C hfl hX hbl hbA hL r hi hcap K)
      · exact J_tabIn (off := 1066) (tgt := 1106) C ⟨by decide, by decide⟩ dL_law_40 (by decide) (by decide) rfl (by decide) (b_charged C hfl hX hbl hbA hL r hi hcap K)
      · exact J_tabIn (off := 1134) (tgt := 1174) C ⟨by decide, by decide⟩ dL_law_40 (by decide) (by decide) rfl (by decide) (b_credited C hfl hX hbl hbA hL r hi hcap K)
      · exact J_tabIn (off := 1202) (tgt := 1242) C ⟨by decide, by decide⟩ dL_law_40 (by decide) (by decide) rfl (by decide) (b_weight C hfl hX hbl hbA hL r hi hcap K)
      · exact J_tabIn (off := 1270) (tgt := 1310) C ⟨by decide, by decide⟩ dL_law_40 (by decide) (by decide) rfl (by decide) (b_call C hfl hX hbl hbA hL r hi hcap K)
      · exact J_tabIn (off := 1338) (tgt := 1378) C ⟨by decide, by decide⟩ dL_law_40 (by decide) (by decide) rfl (by decide) (b_pay C hfl hX hbl hbA hL r hi hcap K)
      · exact J_tabIn (off := 1406) (tgt := 1446) C ⟨by decide, by decide⟩ dL_law_40 (by decide) (by decide) rfl (by decide) (b_shareOut C hfl hX hbl hbA hL r hi hcap K)
      · exact J_tabIn (off := 1462) (tgt := 1502) C ⟨by decide, by decide⟩ dL_law_40 (by decide) (by decide) rfl (by decide) (b_asked C hfl hX hbl hbA hL r hi hcap K)
      · exact J_tabIn (off := 1530) (tgt := 1570) C ⟨by decide, by decide⟩ dL_law_40 (by decide) (by decide) rfl (by decide) (b_paid C hfl hX hbl hbA hL r hi hcap K)
      · exact J_tabIn (off := 1586) (tgt := 1626) C ⟨by decide, by decide⟩ dL_law_40 (by decide) (by decide) rfl (by decide) (b_owes C hfl hX hbl hbA hL r hi hcap K)
      · exact J_tabIn (off := 1642) (tgt := 1682) C ⟨by decide, by decide⟩ dL_law_40 (by decide) (by decide) rfl (by decide) (b_balance C hfl hX hbl hbA hL r hi hcap K)
      · exact J_tabOut (tgt := 1737) C ⟨by omega, by omega⟩ dL_law_40 (Or.inr (by omega)) (by decide) (J_widen (by omega) (by omega) (K σ r))
