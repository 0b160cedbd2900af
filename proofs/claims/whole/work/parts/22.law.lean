theorem J_catchN {p : Program} {l : Launch} {e : Env} {R : Room} {s : State} {m : MethodId} {args : Array Value} {below : List Frame} {meth : Method} {c : Code} {cy : Nat → ClassId} {D : va_G} {ad : Ad} {A : Nat → Prop} {nL : Nat} {cells slots : Nat} {Q : State → Prop} {σ : Sg} {pc : Nat} {lv : List (Option Value)} {st : List Value} {cc : ByteArray} {own : String} {Ts : List Cond} (C : Cx p l e R s m args below meth c cy D ad A nL cc own Ts) {E : String} {hh : List (Nat × Nat × Nat × Nat)} (hT : c.exceptionTable.toList = tableOf hh) (pre : List (Nat × Nat × Nat × Nat)) (a b tgt ix : Nat) (suf : List (Nat × Nat × Nat × Nat)) (hsplit : hh = pre ++ (a, b, tgt, ix) :: suf) (hE : E ∈ [nIAE, nISE, nIOE]) (hpass : ∀ z ∈ pre, z.2.2.2 ≠ 0 ∧ ∃ nm : String, nm ∈ [nIAE, nISE, nIOE] ∧ Cond.classLink own z.2.2.2 nm ∈ Ts ∧ E ≠ nm) (hx : (decide (a ≤ pc) && decide (pc < b)) = true) (h0 : ix ≠ 0) (hl : Cond.classLink own ix E ∈ Ts) (kk : ∀ q : Nat, JW p l e R s m args below meth c cy D ad A nL cells slots Q σ tgt lv [.ref q]) : JX p l e R s m args below meth c cy D ad A nL cells slots Q σ pc lv st E := by
  subst hsplit
  refine J_catch C (tableOf pre) ⟨a, b, tgt, ix⟩ (tableOf suf) (by rw [hT]; unfold tableOf; rw [List.map_append, List.map_cons]) hE (fun z hz => ?_) hx h0 hl kk
  unfold tableOf at hz
  rw [List.mem_map] at hz
  obtain ⟨y, hy, rfl⟩ := hz
  exact hpass y hy
set_option maxRecDepth 20000 in
theorem w_L_setShares_h13 : Cond.classLink RL 13 nIAE ∈ wsL_setShares := by decide +kernel
set_option maxRecDepth 20000 in
theorem w_L_setShares_h15 : Cond.classLink RL 15 nISE ∈ wsL_setShares := by decide +kernel
set_option maxHeartbeats 4000000 in
set_option maxRecDepth 100000 in
theorem c_L_setShares {l : Launch} (hfl : l.stackTraces = false) {cy : Nat → ClassId} {D : va_G} {ad : Ad} (hI : Inj ad) (σ : Sg) (a0 a1 a2 a3 a4 : Int) (i0 : I32 a0) (i1 : I32 a1) (i2 : I32 a2) (i3 : I32 a3) (i4 : I32 a4) (hwc : 0 ≤ σ 0 0 4 ∧ σ 0 0 4 ≤ 6) : KI l yL_setShares wsL_setShares ({ frames := 8, cells := 6, slots := 36, locals := 130 } : Room) cy D ad σ [.ref (ad 0 0), .int (iI a0), .int (iI a1), .int (iI a2), .int (iI a3), .int (iI a4)] (fun k σ' => (k = 0 ∧ σ' = su (su (su (su (su σ 1 0 0 a0) 1 0 1 a1) 1 0 2 a2) 1 0 3 a3) 1 0 4 a4 ∧ (((0 ≤ a0 ∧ a0 ≤ 10000) ∧ (0 ≤ a1 ∧ a1 ≤ 10000) ∧ (0 ≤ a2 ∧ a2 ≤ 10000) ∧ (0 ≤ a3 ∧ a3 ≤ 10000) ∧ (0 ≤ a4 ∧ a4 ≤ 10000)) ∧ a0 + a1 + a2 + a3 + a4 = 10000) ∧ σ 0 0 4 = 0) ∨ (k = 1 ∧ σ' = σ ∧ ¬ (((0 ≤ a0 ∧ a0 ≤ 10000) ∧ (0 ≤ a1 ∧ a1 ≤ 10000) ∧ (0 ≤ a2 ∧ a2 ≤ 10000) ∧ (0 ≤ a3 ∧ a3 ≤ 10000) ∧ (0 ≤ a4 ∧ a4 ≤ 10000)) ∧ a0 + a1 + a2 + a3 + a4 = 10000)) ∨ (k = 2 ∧ σ' = σ ∧ (((0 ≤ a0 ∧ a0 ≤ 10000) ∧ (0 ≤ a1 ∧ a1 ≤ 10000) ∧ (0 ≤ a2 ∧ a2 ≤ 10000) ∧ (0 ≤ a3 ∧ a3 ≤ 10000) ∧ (0 ≤ a4 ∧ a4 ≤ 10000)) ∧ a0 + a1 + a2 + a3 + a4 = 10000) ∧ ¬ σ 0 0 4 = 0)) 6 36 := by
  refine WI.of (lv0 := [some (.ref (ad 0 0)), some (.int (iI a0)), some (.int (iI a1)), some (.int (iI a2)), some (.int (iI a3)), some (.int (iI a4)), none]) hfl hI (by decide) rfl (Nat.le_of_ble_eq_true rfl) rfl ?_
  intro p e s m args below meth c C hr hT
  refine J_aload_0 C dL_setShares_0 ?_
  refine J_iload_1 C dL_setShares_1 ?_
  refine J_iload_2 C dL_setShares_2 ?_
  refine J_iload_3 C dL_setShares_3 ?_
  refine J_iload4 C dL_setShares_4 ?_
  refine J_iload5 C dL_setShares_6 ?_
  refine J_XVV C (c_X3_setShares hfl hI _ a0 a1 a2 a3 a4 i0 i1 i2 i3 i4 hwc) (cwV 5 C.1.2.2.2.2 gL_setShares_X3_setShares rfl rfl rfl (by decide +kernel) ⟨Nat.le_of_ble_eq_true rfl, Nat.le_of_ble_eq_true rfl⟩) rc3 (by decide) rfl rfl (Nat.le_of_ble_eq_true rfl) dL_setShares_8 ⟨Nat.le_of_ble_eq_true rfl, Nat.le_of_ble_eq_true rfl⟩ (fun E σ_8 hx => ?_) (fun σ_8 hp => ?_)
  · skip
    obtain ⟨hs_, hx⟩ := hx
    have hs_ := hs_.symm
    subst hs_
    rcases hx with ⟨rfl, hx⟩ | ⟨rfl, hx⟩
    · refine J_catchN C hT [] 0 11 14 13 [(0, 11, 18, 15)] rfl (by decide) (fun _ h => absurd h List.not_mem_nil) rfl (by decide) w_L_setShares_h13 (fun q_ => ?_)
      refine J_astore6 C (by decide) rfl dL_setShares_14 ?_
      refine J_iconst C dL_setShares_16 ?_
      refine J_retI C hr (by decide) (by decide) dL_setShares_17 ?_
      exact Or.inr (Or.inl ⟨rfl, rfl, hx⟩)
    · refine J_catchN C hT [(0, 11, 14, 13)] 0 11 18 15 [] rfl (by decide) (List.forall_mem_cons.mpr ⟨⟨by decide, nIAE, by decide, w_L_setShares_h13, by decide⟩, (fun _ h => absurd h List.not_mem_nil)⟩) rfl (by decide) w_L_setShares_h15 (fun q_ => ?_)
      refine J_astore6 C (by decide) rfl dL_setShares_18 ?_
      refine J_iconst C dL_setShares_20 ?_
      refine J_retI C hr (by decide) (by decide) dL_setShares_21 ?_
      exact Or.inr (Or.inr (⟨rfl, rfl, hx⟩))
  skip
  refine J_goto (tgt := 22) C dL_setShares_11 (by decide) ?_
  refine J_iconst C dL_setShares_22 ?_
  refine J_retI C hr (by decide) (by decide) dL_setShares_23 ?_
  exact Or.inl ⟨rfl, hp⟩
set_option maxRecDepth 20000 in
theorem w_L_setPenalty_h13 : Cond.classLink RL 13 nIAE ∈ wsL_setPenalty := by decide +kernel
set_option maxHeartbeats 4000000 in
set_option maxRecDepth 100000 in
theorem c_L_setPenalty {l : Launch} (hfl : l.stackTraces = false) {cy : Nat → ClassId} {D : va_G} {ad : Ad} (hI : Inj ad) (σ : Sg) (a9 : Int) (ia : I32 a9) : KI l yL_setPenalty wsL_setPenalty ({ frames := 8, cells := 6, slots := 36, locals := 127 } : Room) cy D ad σ [.ref (ad 0 0), .int (iI a9), .ref (ad 42 0)] (fun k σ' => (k = 0 ∧ ∃ (z : Int) (τ9 : Sg), (z = σ 0 0 1 ∧ τ9 = su σ 0 0 1 a9 ∧ (100 ≤ a9 ∧ a9 ≤ 1000)) ∧ σ' = su τ9 42 0 0 (w32 z)) ∨ (k = 1 ∧ σ' = σ ∧ ¬ (100 ≤ a9 ∧ a9 ≤ 1000))) 6 36 := by
  refine WI.of (lv0 := [some (.ref (ad 0 0)), some (.int (iI a9)), some (.ref (ad 42 0)), none]) hfl hI (by decide) rfl (Nat.le_of_ble_eq_true rfl) rfl ?_
  intro p e s m args below meth c C hr hT
  refine J_aload_2 C dL_setPenalty_0 ?_
  refine J_iconst C dL_setPenalty_1 ?_
  refine J_aload_0 C dL_setPenalty_2 ?_
  refine J_iload_1 C dL_setPenalty_3 ?_
  refine J_XVI C (c_X3_setPenalty hfl hI _ a9 ia) (cwV 1 C.1.2.2.2.2 gL_setPenalty_X3_setPenalty rfl rfl rfl (by decide +kernel) ⟨Nat.le_of_ble_eq_true rfl, Nat.le_of_ble_eq_true rfl⟩) rc3 (by decide) rfl rfl (Nat.le_of_ble_eq_true rfl) dL_setPenalty_4 ⟨Nat.le_of_ble_eq_true rfl, Nat.le_of_ble_eq_true rfl⟩ (fun E σ_4 hx => ?_) (fun z_4 σ_4 hp => ?_)
  · skip
    obtain ⟨hs_, hx⟩ := hx
    have hs_ := hs_.symm
    subst hs_
    obtain ⟨rfl, hx⟩ := hx
    · refine J_catchN C hT [] 0 9 12 13 [] rfl (by decide) (fun _ h => absurd h List.not_mem_nil) rfl (by decide) w_L_setPenalty_h13 (fun q_ => ?_)
      refine J_astore_3 C (by decide) rfl dL_setPenalty_12 ?_
      refine J_iconst C dL_setPenalty_13 ?_
      refine J_retI C hr (by decide) (by decide) dL_setPenalty_14 ?_
      exact Or.inr (⟨rfl, rfl, hx⟩)
  skip
  refine J_i2lw C dL_setPenalty_7 ?_
  refine J_lastore C k42 (by decide) (by omega) dL_setPenalty_8 ?_
  refine J_goto (tgt := 15) C dL_setPenalty_9 (by decide) ?_
  refine J_iconst C dL_setPenalty_15 ?_
  refine J_retI C hr (by decide) (by decide) dL_setPenalty_16 ?_
  exact Or.inl ⟨rfl, _, _, hp, rfl⟩
set_option maxRecDepth 20000 in
theorem w_L_setOverhead_h13 : Cond.classLink RL 13 nIAE ∈ wsL_setOverhead := by decide +kernel
set_option maxHeartbeats 4000000 in
set_option maxRecDepth 100000 in
theorem c_L_setOverhead {l : Launch} (hfl : l.stackTraces = false) {cy : Nat → ClassId} {D : va_G} {ad : Ad} (hI : Inj ad) (σ : Sg) (a9 : Int) (ia : I32 a9) : KI l yL_setOverhead wsL_setOverhead ({ frames := 8, cells := 6, slots := 36, locals := 127 } : Room) cy D ad σ [.ref (ad 0 0), .int (iI a9), .ref (ad 42 0)] (fun k σ' => (k = 0 ∧ ∃ (z : Int) (τ9 : Sg), (z = σ 0 0 2 ∧ τ9 = su σ 0 0 2 a9 ∧ (0 ≤ a9 ∧ a9 ≤ 100000)) ∧ σ' = su τ9 42 0 0 (w32 z)) ∨ (k = 1 ∧ σ' = σ ∧ ¬ (0 ≤ a9 ∧ a9 ≤ 100000))) 6 36 := by
  refine WI.of (lv0 := [some (.ref (ad 0 0)), some (.int (iI a9)), some (.ref (ad 42 0)), none]) hfl hI (by decide) rfl (Nat.le_of_ble_eq_true rfl) rfl ?_
  intro p e s m args below meth c C hr hT
  refine J_aload_2 C dL_setOverhead_0 ?_
  refine J_iconst C dL_setOverhead_1 ?_
  refine J_aload_0 C dL_setOverhead_2 ?_
  refine J_iload_1 C dL_setOverhead_3 ?_
  refine J_XVI C (c_X3_setOverhead hfl hI _ a9 ia) (cwV 1 C.1.2.2.2.2 gL_setOverhead_X3_setOverhead rfl rfl rfl (by decide +kernel) ⟨Nat.le_of_ble_eq_true rfl, Nat.le_of_ble_eq_true rfl⟩) rc3 (by decide) rfl rfl (Nat.le_of_ble_eq_true rfl) dL_setOverhead_4 ⟨Nat.le_of_ble_eq_true rfl, Nat.le_of_ble_eq_true rfl⟩ (fun E σ_4 hx => ?_) (fun z_4 σ_4 hp => ?_)
  · skip
    obtain ⟨hs_, hx⟩ := hx
    have hs_ := hs_.symm
    subst hs_
    obtain ⟨rfl, hx⟩ := hx
    · refine J_catchN C hT [] 0 9 12 13 [] rfl (by decide) (fun _ h => absurd h List.not_mem_nil) rfl (by decide) w_L_setOverhead_h13 (fun q_ => ?_)
      refine J_astore_3 C (by decide) rfl dL_setOverhead_12 ?_
      refine J_iconst C dL_setOverhead_13 ?_
      refine J_retI C hr (by decide) (by decide) dL_setOverhead_14 ?_
      exact Or.inr (⟨rfl, rfl, hx⟩)
  skip
  refine J_i2lw C dL_setOverhead_7 ?_
  refine J_lastore C k42 (by decide) (by omega) dL_setOverhead_8 ?_
  refine J_goto (tgt := 15) C dL_setOverhead_9 (by decide) ?_
  refine J_iconst C dL_setOverhead_15 ?_
  refine J_retI C hr (by decide) (by decide) dL_setOverhead_16 ?_
  exact Or.inl ⟨rfl, _, _, hp, rfl⟩
set_option maxRecDepth 20000 in
theorem w_L_addWell_h15 : Cond.classLink RL 15 nISE ∈ wsL_addWell := by decide +kernel
set_option maxHeartbeats 4000000 in
set_option maxRecDepth 100000 in
theorem c_L_addWell {l : Launch} (hfl : l.stackTraces = false) {cy : Nat → ClassId} {D : va_G} {ad : Ad} (hI : Inj ad) (σ : Sg) (hwc : 0 ≤ σ 0 0 4 ∧ σ 0 0 4 ≤ 6) : KI l yL_addWell wsL_addWell ({ frames := 7, cells := 6, slots := 36, locals := 102 } : Room) cy D ad σ [.ref (ad 0 0), .ref (ad 42 0)] (fun k σ' => (k = 0 ∧ ∃ (z : Int) (τ9 : Sg), (z = σ 0 0 4 ∧ τ9 = su (su σ 12 (σ 0 0 4) 0 (σ 0 0 1)) 0 0 4 (σ 0 0 4 + 1) ∧ σ 0 0 4 < 6) ∧ σ' = su τ9 42 0 0 (w32 z)) ∨ (k = 1 ∧ σ' = σ ∧ ¬ σ 0 0 4 < 6)) 6 36 := by
  refine WI.of (lv0 := [some (.ref (ad 0 0)), some (.ref (ad 42 0)), none]) hfl hI (by decide) rfl (Nat.le_of_ble_eq_true rfl) rfl ?_
  intro p e s m args below meth c C hr hT
  refine J_aload_1 C dL_addWell_0 ?_
  refine J_iconst C dL_addWell_1 ?_
  refine J_aload_0 C dL_addWell_2 ?_
  refine J_XVI C (c_X3_addWell hfl hI _ hwc) (cwV 0 C.1.2.2.2.2 gL_addWell_X3_addWell rfl rfl rfl (by decide +kernel) ⟨Nat.le_of_ble_eq_true rfl, Nat.le_of_ble_eq_true rfl⟩) rc3 (by decide) rfl rfl (Nat.le_of_ble_eq_true rfl) dL_addWell_3 ⟨Nat.le_of_ble_eq_true rfl, Nat.le_of_ble_eq_true rfl⟩ (fun E σ_3 hx => ?_) (fun z_3 σ_3 hp => ?_)
  · skip
    obtain ⟨hs_, hx⟩ := hx
    have hs_ := hs_.symm
    subst hs_
    obtain ⟨rfl, hx⟩ := hx
    · refine J_catchN C hT [] 0 8 11 15 [] rfl (by decide) (fun _ h => absurd h List.not_mem_nil) rfl (by decide) w_L_addWell_h15 (fun q_ => ?_)
      refine J_astore_2 C (by decide) rfl dL_addWell_11 ?_
      refine J_iconst C dL_addWell_12 ?_
      refine J_retI C hr (by decide) (by decide) dL_addWell_13 ?_
      exact Or.inr (⟨rfl, rfl, hx⟩)
  skip
  refine J_i2lw C dL_addWell_6 ?_
  refine J_lastore C k42 (by decide) (by omega) dL_addWell_7 ?_
  refine J_goto (tgt := 14) C dL_addWell_8 (by decide) ?_
  refine J_iconst C dL_addWell_14 ?_
  refine J_retI C hr (by decide) (by decide) dL_addWell_15 ?_
  exact Or.inl ⟨rfl, _, _, hp, rfl⟩
set_option maxRecDepth 20000 in
theorem w_L_elect_h32 : Cond.classLink RL 32 nIOE ∈ wsL_elect := by decide +kernel
set_option maxRecDepth 20000 in
theorem w_L_elect_h15 : Cond.classLink RL 15 nISE ∈ wsL_elect := by decide +kernel
set_option maxHeartbeats 4000000 in
set_option maxRecDepth 100000 in
theorem c_L_elect {l : Launch} (hfl : l.stackTraces = false) {cy : Nat → ClassId} {D : va_G} {ad : Ad} (hI : Inj ad) (σ : Sg) (w q b9 : Int) (hwc : 0 ≤ σ 0 0 4 ∧ σ 0 0 4 ≤ 6) (hw9 : I32 w) (hq9 : I32 q) (hb9 : b9 = 0 ∨ b9 = 1) (hf : ∀ w q, 0 ≤ w → w < 6 → 0 ≤ q → q < 5 → σ 14 w q = 0 ∨ σ 14 w q = 1) (hf3 : ∀ w q, 0 ≤ w → w < 6 → 0 ≤ q → q < 5 → σ 13 w q = 0 ∨ σ 13 w q = 1) (hs : ∀ q, 0 ≤ q → q < 5 → 0 ≤ σ 1 0 q ∧ σ 1 0 q ≤ 10000) (hhd : ∀ w, 0 ≤ w → w < 6 → σ 12 w 1 = 0 ∨ σ 12 w 1 = 1) : KI l yL_elect wsL_elect ({ frames := 8, cells := 6, slots := 36, locals := 128 } : Room) cy D ad σ [.ref (ad 0 0), .int (iI w), .int (iI q), .int (iI b9), .ref (ad 42 0)] (fun k σ' => (k = 0 ∧ ∃ (z : Int) (τ9 : Sg), (z = (if σ 13 w q = 0 then 1 else 0) ∧ τ9 = su (su σ 13 w q (1 - b9)) 14 w q (1 - b9) ∧ ((0 ≤ w ∧ w < σ 0 0 4) ∧ (0 ≤ q ∧ q < 5)) ∧ σ 12 w 1 = 0 ∧ ¬ σ 1 0 q = 0 ∧ (b9 = 0 → ∃ q', 0 ≤ q' ∧ q' < 5 ∧ q' ≠ q ∧ σ 14 w q' = 0 ∧ 0 < σ 1 0 q')) ∧ σ' = su τ9 42 0 0 z) ∨ (k = 1 ∧ σ' = σ ∧ ¬ ((0 ≤ w ∧ w < σ 0 0 4) ∧ (0 ≤ q ∧ q < 5))) ∨ (k = 2 ∧ σ' = σ ∧ ((0 ≤ w ∧ w < σ 0 0 4) ∧ (0 ≤ q ∧ q < 5)) ∧ ¬ (σ 12 w 1 = 0 ∧ ¬ σ 1 0 q = 0 ∧ (b9 = 0 → ∃ q', 0 ≤ q' ∧ q' < 5 ∧ q' ≠ q ∧ σ 14 w q' = 0 ∧ 0 < σ 1 0 q')))) 6 36 := by
  refine WI.of (lv0 := [some (.ref (ad 0 0)), some (.int (iI w)), some (.int (iI q)), some (.int (iI b9)), some (.ref (ad 42 0)), none]) hfl hI (by decide) rfl (Nat.le_of_ble_eq_true rfl) rfl ?_
  intro p e s m args below meth c C hr hT
  refine J_aload4 C dL_elect_0 ?_
  refine J_iconst C dL_elect_2 ?_
  refine J_aload_0 C dL_elect_3 ?_
  refine J_iload_1 C dL_elect_4 ?_
  refine J_iload_2 C dL_elect_5 ?_
  refine J_iload_3 C dL_elect_6 ?_
  refine J_XVI C (c_X3_elect hfl hI _ w q b9 hwc hw9 hq9 hb9 hf hf3 hs hhd) (cwV 3 C.1.2.2.2.2 gL_elect_X3_elect rfl rfl rfl (by decide +kernel) ⟨Nat.le_of_ble_eq_true rfl, Nat.le_of_ble_eq_true rfl⟩) rc3 (by decide) rfl rfl (Nat.le_of_ble_eq_true rfl) dL_elect_7 ⟨Nat.le_of_ble_eq_true rfl, Nat.le_of_ble_eq_true rfl⟩ (fun E σ_7 hx => ?_) (fun z_7 σ_7 hp => ?_)
  · skip
    obtain ⟨hs_, hx⟩ := hx
    have hs_ := hs_.symm
    subst hs_
    rcases hx with ⟨rfl, hx⟩ | ⟨rfl, hx⟩
    · refine J_catchN C hT [] 0 19 22 32 [(0, 19, 26, 15)] rfl (by decide) (fun _ h => absurd h List.not_mem_nil) rfl (by decide) w_L_elect_h32 (fun q_ => ?_)
      refine J_astore5 C (by decide) rfl dL_elect_22 ?_
      refine J_iconst C dL_elect_24 ?_
      refine J_retI C hr (by decide) (by decide) dL_elect_25 ?_
      exact Or.inr (Or.inl ⟨rfl, rfl, hx⟩)
    · refine J_catchN C hT [(0, 19, 22, 32)] 0 19 26 15 [] rfl (by decide) (List.forall_mem_cons.mpr ⟨⟨by decide, nIOE, by decide, w_L_elect_h32, by decide⟩, (fun _ h => absurd h List.not_mem_nil)⟩) rfl (by decide) w_L_elect_h15 (fun q_ => ?_)
      refine J_astore5 C (by decide) rfl dL_elect_26 ?_
      refine J_iconst C dL_elect_28 ?_
      refine J_retI C hr (by decide) (by decide) dL_elect_29 ?_
      exact Or.inr (Or.inr (⟨rfl, rfl, hx⟩))
  skip
  refine J_if_eq (tgt := 17) C (by have := hp.1; split at this <;> omega) dL_elect_10 (by decide) (fun c_10 => ?_) (fun c_10 => ?_)
  · refine J_lconst (z := 0) C (by decide) dL_elect_17 ?_
    refine J_lastore C k42 (by decide) (by omega) dL_elect_18 ?_
    refine J_goto (tgt := 30) C dL_elect_19 (by decide) ?_
    refine J_iconst C dL_elect_30 ?_
    refine J_retI C hr (by decide) (by decide) dL_elect_31 ?_
    first
      | (have e9 : z_7 = 0 := by assumption
         exact Or.inl ⟨rfl, _, _, hp, by rw [e9]⟩)
      | (have e9 : z_7 = 1 := by
           have := hp.1
           split at this <;> omega
         exact Or.inl ⟨rfl, _, _, hp, by rw [e9]⟩)
  · refine J_lconst (z := 1) C (by decide) dL_elect_13 ?_
    refine J_goto (tgt := 18) C dL_elect_14 (by decide) ?_
    refine J_lastore C k42 (by decide) (by omega) dL_elect_18 ?_
    refine J_goto (tgt := 30) C dL_elect_19 (by decide) ?_
    refine J_iconst C dL_elect_30 ?_
    refine J_retI C hr (by decide) (by decide) dL_elect_31 ?_
    first
      | (have e9 : z_7 = 0 := by assumption
         exact Or.inl ⟨rfl, _, _, hp, by rw [e9]⟩)
      | (have e9 : z_7 = 1 := by
           have := hp.1
           split at this <;> omega
         exact Or.inl ⟨rfl, _, _, hp, by rw [e9]⟩)
set_option maxRecDepth 20000 in
theorem w_L_cost_h32 : Cond.classLink RL 32 nIOE ∈ wsL_cost := by decide +kernel
set_option maxRecDepth 20000 in
theorem w_L_cost_h13 : Cond.classLink RL 13 nIAE ∈ wsL_cost := by decide +kernel
set_option maxRecDepth 20000 in
theorem w_L_cost_h15 : Cond.classLink RL 15 nISE ∈ wsL_cost := by decide +kernel
set_option maxHeartbeats 4000000 in
set_option maxRecDepth 100000 in
theorem c_L_cost {l : Launch} (hfl : l.stackTraces = false) {cy : Nat → ClassId} {D : va_G} {ad : Ad} (hI : Inj ad) (σ : Sg) (w a9 : Int) (hwc : 0 ≤ σ 0 0 4 ∧ σ 0 0 4 ≤ 6) (hvc : 0 ≤ σ 0 0 7 ∧ σ 0 0 7 ≤ 60) (hw9 : I32 w) (ia : I32 a9) (hsh : Shk (shf σ)) (hall : ∀ w, 0 ≤ w → w < 6 → Tin (shf σ) (ac σ w) ∧ (0 ≤ σ 12 w 0 ∧ σ 12 w 0 ≤ 1000) ∧ ∀ q, 0 ≤ q → q < 5 → 0 ≤ σ 15 w q ∧ σ 15 w q < 4611686018427387904) : KI l yL_cost wsL_cost ({ frames := 8, cells := 6, slots := 36, locals := 166 } : Room) cy D ad σ [.ref (ad 0 0), .int (iI w), .int (iI a9), .ref (ad 42 0)] (fun k σ' => (k = 0 ∧ ∃ (z : Int) (τ9 : Sg), (z = σ 0 0 7 ∧ Fr (adV σ w a9) τ9 w ∧ ac τ9 w = stepS (shf σ) (σ 12 w 0) (σ 0 0 7) a9 (ac σ w) ∧ ((0 ≤ w ∧ w < σ 0 0 4) ∧ (1 ≤ a9 ∧ a9 ≤ 10000000)) ∧ σ 0 0 7 < 60) ∧ σ' = su τ9 42 0 0 (w32 z)) ∨ (k = 1 ∧ σ' = σ ∧ ¬ (0 ≤ w ∧ w < σ 0 0 4)) ∨ (k = 2 ∧ σ' = σ ∧ (0 ≤ w ∧ w < σ 0 0 4) ∧ ¬ (1 ≤ a9 ∧ a9 ≤ 10000000)) ∨ (k = 3 ∧ σ' = σ ∧ ((0 ≤ w ∧ w < σ 0 0 4) ∧ (1 ≤ a9 ∧ a9 ≤ 10000000)) ∧ ¬ (σ 0 0 7 < 60))) 6 36 := by
  refine WI.of (lv0 := [some (.ref (ad 0 0)), some (.int (iI w)), some (.int (iI a9)), some (.ref (ad 42 0)), none]) hfl hI (by decide) rfl (Nat.le_of_ble_eq_true rfl) rfl ?_
  intro p e s m args below meth c C hr hT
  refine J_aload_3 C dL_cost_0 ?_
  refine J_iconst C dL_cost_1 ?_
  refine J_aload_0 C dL_cost_2 ?_
  refine J_iload_1 C dL_cost_3 ?_
  refine J_iload_2 C dL_cost_4 ?_
  refine J_XVI C (c_X3_cost hfl hI _ w a9 hwc hvc hw9 ia hsh hall) (cwV 2 C.1.2.2.2.2 gL_cost_X3_cost rfl rfl rfl (by decide +kernel) ⟨Nat.le_of_ble_eq_true rfl, Nat.le_of_ble_eq_true rfl⟩) rc3 (by decide) rfl rfl (Nat.le_of_ble_eq_true rfl) dL_cost_5 ⟨Nat.le_of_ble_eq_true rfl, Nat.le_of_ble_eq_true rfl⟩ (fun E σ_5 hx => ?_) (fun z_5 σ_5 hp => ?_)
  · skip
    obtain ⟨hs_, hx⟩ := hx
    have hs_ := hs_.symm
    subst hs_
    rcases hx with ⟨rfl, hx⟩ | ⟨rfl, hx⟩ | ⟨rfl, hx⟩
    · refine J_catchN C hT [] 0 10 13 32 [(0, 10, 17, 13), (0, 10, 21, 15)] rfl (by decide) (fun _ h => absurd h List.not_mem_nil) rfl (by decide) w_L_cost_h32 (fun q_ => ?_)
      refine J_astore4 C (by decide) rfl dL_cost_13 ?_
      refine J_iconst C dL_cost_15 ?_
      refine J_retI C hr (by decide) (by decide) dL_cost_16 ?_
      exact Or.inr (Or.inl ⟨rfl, rfl, hx⟩)
    · refine J_catchN C hT [(0, 10, 13, 32)] 0 10 17 13 [(0, 10, 21, 15)] rfl (by decide) (List.forall_mem_cons.mpr ⟨⟨by decide, nIOE, by decide, w_L_cost_h32, by decide⟩, (fun _ h => absurd h List.not_mem_nil)⟩) rfl (by decide) w_L_cost_h13 (fun q_ => ?_)
      refine J_astore4 C (by decide) rfl dL_cost_17 ?_
      refine J_iconst C dL_cost_19 ?_
      refine J_retI C hr (by decide) (by decide) dL_cost_20 ?_
      exact Or.inr (Or.inr (Or.inl ⟨rfl, rfl, hx⟩))
    · refine J_catchN C hT [(0, 10, 13, 32), (0, 10, 17, 13)] 0 10 21 15 [] rfl (by decide) (List.forall_mem_cons.mpr ⟨⟨by decide, nIOE, by decide, w_L_cost_h32, by decide⟩, (List.forall_mem_cons.mpr ⟨⟨by decide, nIAE, by decide, w_L_cost_h13, by decide⟩, (fun _ h => absurd h List.not_mem_nil)⟩)⟩) rfl (by decide) w_L_cost_h15 (fun q_ => ?_)
      refine J_astore4 C (by decide) rfl dL_cost_21 ?_
      refine J_iconst C dL_cost_23 ?_
      refine J_retI C hr (by decide) (by decide) dL_cost_24 ?_
      exact Or.inr (Or.inr (Or.inr (⟨rfl, rfl, hx⟩)))
  skip
  refine J_i2lw C dL_cost_8 ?_
  refine J_lastore C k42 (by decide) (by omega) dL_cost_9 ?_
  refine J_goto (tgt := 25) C dL_cost_10 (by decide) ?_
  refine J_iconst C dL_cost_25 ?_
  refine J_retI C hr (by decide) (by decide) dL_cost_26 ?_
  exact Or.inl ⟨rfl, _, _, hp, rfl⟩
set_option maxRecDepth 20000 in
theorem w_L_overhead_h32 : Cond.classLink RL 32 nIOE ∈ wsL_overhead := by decide +kernel
set_option maxRecDepth 20000 in
theorem w_L_overhead_h13 : Cond.classLink RL 13 nIAE ∈ wsL_overhead := by decide +kernel
set_option maxRecDepth 20000 in
theorem w_L_overhead_h15 : Cond.classLink RL 15 nISE ∈ wsL_overhead := by decide +kernel
set_option maxHeartbeats 4000000 in
set_option maxRecDepth 100000 in
theorem c_L_overhead {l : Launch} (hfl : l.stackTraces = false) {cy : Nat → ClassId} {D : va_G} {ad : Ad} (hI : Inj ad) (σ : Sg) (w a9 : Int) (hwc : 0 ≤ σ 0 0 4 ∧ σ 0 0 4 ≤ 6) (hvc : 0 ≤ σ 0 0 7 ∧ σ 0 0 7 ≤ 60) (hw9 : I32 w) (ia : I32 a9) (hsh : Shk (shf σ)) (hall : ∀ w, 0 ≤ w → w < 6 → Tin (shf σ) (ac σ w) ∧ (0 ≤ σ 12 w 0 ∧ σ 12 w 0 ≤ 1000) ∧ ∀ q, 0 ≤ q → q < 5 → 0 ≤ σ 15 w q ∧ σ 15 w q < 4611686018427387904) (hoh : 0 ≤ σ 0 0 2 ∧ σ 0 0 2 ≤ 100000) : KI l yL_overhead wsL_overhead ({ frames := 8, cells := 6, slots := 36, locals := 166 } : Room) cy D ad σ [.ref (ad 0 0), .int (iI w), .int (iI a9), .ref (ad 42 0)] (fun k σ' => (k = 0 ∧ ∃ (z : Int) (τ9 : Sg), (z = σ 0 0 7 ∧ Fr (adV σ w (σ 0 0 2 * a9)) τ9 w ∧ ac τ9 w = stepS (shf σ) (σ 12 w 0) (σ 0 0 7) (σ 0 0 2 * a9) (ac σ w) ∧ ((0 ≤ w ∧ w < σ 0 0 4) ∧ (1 ≤ a9 ∧ a9 ≤ 24)) ∧ σ 0 0 7 < 60 ∧ ¬ σ 0 0 2 = 0) ∧ σ' = su τ9 42 0 0 (w32 z)) ∨ (k = 1 ∧ σ' = σ ∧ ¬ (0 ≤ w ∧ w < σ 0 0 4)) ∨ (k = 2 ∧ σ' = σ ∧ (0 ≤ w ∧ w < σ 0 0 4) ∧ ¬ (1 ≤ a9 ∧ a9 ≤ 24)) ∨ (k = 3 ∧ σ' = σ ∧ ((0 ≤ w ∧ w < σ 0 0 4) ∧ (1 ≤ a9 ∧ a9 ≤ 24)) ∧ ¬ (σ 0 0 7 < 60 ∧ ¬ σ 0 0 2 = 0))) 6 36 := by
  refine WI.of (lv0 := [some (.ref (ad 0 0)), some (.int (iI w)), some (.int (iI a9)), some (.ref (ad 42 0)), none]) hfl hI (by decide) rfl (Nat.le_of_ble_eq_true rfl) rfl ?_
  intro p e s m args below meth c C hr hT
  refine J_aload_3 C dL_overhead_0 ?_
  refine J_iconst C dL_overhead_1 ?_
  refine J_aload_0 C dL_overhead_2 ?_
  refine J_iload_1 C dL_overhead_3 ?_
  refine J_iload_2 C dL_overhead_4 ?_
  refine J_XVI C (c_X3_overhead hfl hI _ w a9 hwc hvc hw9 ia hsh hall hoh) (cwV 2 C.1.2.2.2.2 gL_overhead_X3_overhead rfl rfl rfl (by decide +kernel) ⟨Nat.le_of_ble_eq_true rfl, Nat.le_of_ble_eq_true rfl⟩) rc3 (by decide) rfl rfl (Nat.le_of_ble_eq_true rfl) dL_overhead_5 ⟨Nat.le_of_ble_eq_true rfl, Nat.le_of_ble_eq_true rfl⟩ (fun E σ_5 hx => ?_) (fun z_5 σ_5 hp => ?_)
  · skip
    obtain ⟨hs_, hx⟩ := hx
    have hs_ := hs_.symm
    subst hs_
    rcases hx with ⟨rfl, hx⟩ | ⟨rfl, hx⟩ | ⟨rfl, hx⟩
    · refine J_catchN C hT [] 0 10 13 32 [(0, 10, 17, 13), (0, 10, 21, 15)] rfl (by decide) (fun _ h => absurd h List.not_mem_nil) rfl (by decide) w_L_overhead_h32 (fun q_ => ?_)
      refine J_astore4 C (by decide) rfl dL_overhead_13 ?_
      refine J_iconst C dL_overhead_15 ?_
      refine J_retI C hr (by decide) (by decide) dL_overhead_16 ?_
      exact Or.inr (Or.inl ⟨rfl, rfl, hx⟩)
    · refine J_catchN C hT [(0, 10, 13, 32)] 0 10 17 13 [(0, 10, 21, 15)] rfl (by decide) (List.forall_mem_cons.mpr ⟨⟨by decide, nIOE, by decide, w_L_overhead_h32, by decide⟩, (fun _ h => absurd h List.not_mem_nil)⟩) rfl (by decide) w_L_overhead_h13 (fun q_ => ?_)
      refine J_astore4 C (by decide) rfl dL_overhead_17 ?_
      refine J_iconst C dL_overhead_19 ?_
      refine J_retI C hr (by decide) (by decide) dL_overhead_20 ?_
      exact Or.inr (Or.inr (Or.inl ⟨rfl, rfl, hx⟩))
    · refine J_catchN C hT [(0, 10, 13, 32), (0, 10, 17, 13)] 0 10 21 15 [] rfl (by decide) (List.forall_mem_cons.mpr ⟨⟨by decide, nIOE, by decide, w_L_overhead_h32, by decide⟩, (List.forall_mem_cons.mpr ⟨⟨by decide, nIAE, by decide, w_L_overhead_h13, by decide⟩, (fun _ h => absurd h List.not_mem_nil)⟩)⟩) rfl (by decide) w_L_overhead_h15 (fun q_ => ?_)
      refine J_astore4 C (by decide) rfl dL_overhead_21 ?_
      refine J_iconst C dL_overhead_23 ?_
      refine J_retI C hr (by decide) (by decide) dL_overhead_24 ?_
      exact Or.inr (Or.inr (Or.inr (⟨rfl, rfl, hx⟩)))
  skip
  refine J_i2lw C dL_overhead_8 ?_
  refine J_lastore C k42 (by decide) (by omega) dL_overhead_9 ?_
  refine J_goto (tgt := 25) C dL_overhead_10 (by decide) ?_
  refine J_iconst C dL_overhead_25 ?_
  refine J_retI C hr (by decide) (by decide) dL_overhead_26 ?_
  exact Or.inl ⟨rfl, _, _, hp, rfl⟩
set_option maxRecDepth 20000 in
theorem w_L_income_h32 : Cond.classLink RL 32 nIOE ∈ wsL_income := by decide +kernel
set_option maxRecDepth 20000 in
theorem w_L_income_h13 : Cond.classLink RL 13 nIAE ∈ wsL_income := by decide +kernel
set_option maxRecDepth 20000 in
theorem w_L_income_h15 : Cond.classLink RL 15 nISE ∈ wsL_income := by decide +kernel
set_option maxHeartbeats 4000000 in
set_option maxRecDepth 100000 in
theorem c_L_income {l : Launch} (hfl : l.stackTraces = false) {cy : Nat → ClassId} {D : va_G} {ad : Ad} (hI : Inj ad) (σ : Sg) (w a9 : Int) (hwc : 0 ≤ σ 0 0 4 ∧ σ 0 0 4 ≤ 6) (hvc : 0 ≤ σ 0 0 7 ∧ σ 0 0 7 ≤ 60) (hw9 : I32 w) (ia : I32 a9) (hsh : Shk (shf σ)) (hall : ∀ w, 0 ≤ w → w < 6 → Tin (shf σ) (ac σ w) ∧ (0 ≤ σ 12 w 0 ∧ σ 12 w 0 ≤ 1000) ∧ ∀ q, 0 ≤ q → q < 5 → 0 ≤ σ 15 w q ∧ σ 15 w q < 4611686018427387904) : KI l yL_income wsL_income ({ frames := 8, cells := 6, slots := 36, locals := 166 } : Room) cy D ad σ [.ref (ad 0 0), .int (iI w), .int (iI a9), .ref (ad 42 0)] (fun k σ' => (k = 0 ∧ ∃ (z : Int) (τ9 : Sg), (z = σ 0 0 7 ∧ Fr (adV σ w (-a9)) τ9 w ∧ ac τ9 w = stepS (shf σ) (σ 12 w 0) (σ 0 0 7) (-a9) (ac σ w) ∧ ((0 ≤ w ∧ w < σ 0 0 4) ∧ (1 ≤ a9 ∧ a9 ≤ 10000000)) ∧ σ 0 0 7 < 60) ∧ σ' = su τ9 42 0 0 (w32 z)) ∨ (k = 1 ∧ σ' = σ ∧ ¬ (0 ≤ w ∧ w < σ 0 0 4)) ∨ (k = 2 ∧ σ' = σ ∧ (0 ≤ w ∧ w < σ 0 0 4) ∧ ¬ (1 ≤ a9 ∧ a9 ≤ 10000000)) ∨ (k = 3 ∧ σ' = σ ∧ ((0 ≤ w ∧ w < σ 0 0 4) ∧ (1 ≤ a9 ∧ a9 ≤ 10000000)) ∧ ¬ (σ 0 0 7 < 60))) 6 36 := by
  refine WI.of (lv0 := [some (.ref (ad 0 0)), some (.int (iI w)), some (.int (iI a9)), some (.ref (ad 42 0)), none]) hfl hI (by decide) rfl (Nat.le_of_ble_eq_true rfl) rfl ?_
  intro p e s m args below meth c C hr hT
  refine J_aload_3 C dL_income_0 ?_
  refine J_iconst C dL_income_1 ?_
  refine J_aload_0 C dL_income_2 ?_
  refine J_iload_1 C dL_income_3 ?_
  refine J_iload_2 C dL_income_4 ?_
  refine J_XVI C (c_X3_income hfl hI _ w a9 hwc hvc hw9 ia hsh hall) (cwV 2 C.1.2.2.2.2 gL_income_X3_income rfl rfl rfl (by decide +kernel) ⟨Nat.le_of_ble_eq_true rfl, Nat.le_of_ble_eq_true rfl⟩) rc3 (by decide) rfl rfl (Nat.le_of_ble_eq_true rfl) dL_income_5 ⟨Nat.le_of_ble_eq_true rfl, Nat.le_of_ble_eq_true rfl⟩ (fun E σ_5 hx => ?_) (fun z_5 σ_5 hp => ?_)
  · skip
    obtain ⟨hs_, hx⟩ := hx
    have hs_ := hs_.symm
    subst hs_
    rcases hx with ⟨rfl, hx⟩ | ⟨rfl, hx⟩ | ⟨rfl, hx⟩
    · refine J_catchN C hT [] 0 10 13 32 [(0, 10, 17, 13), (0, 10, 21, 15)] rfl (by decide) (fun _ h => absurd h List.not_mem_nil) rfl (by decide) w_L_income_h32 (fun q_ => ?_)
      refine J_astore4 C (by decide) rfl dL_income_13 ?_
      refine J_iconst C dL_income_15 ?_
      refine J_retI C hr (by decide) (by decide) dL_income_16 ?_
      exact Or.inr (Or.inl ⟨rfl, rfl, hx⟩)
    · refine J_catchN C hT [(0, 10, 13, 32)] 0 10 17 13 [(0, 10, 21, 15)] rfl (by decide) (List.forall_mem_cons.mpr ⟨⟨by decide, nIOE, by decide, w_L_income_h32, by decide⟩, (fun _ h => absurd h List.not_mem_nil)⟩) rfl (by decide) w_L_income_h13 (fun q_ => ?_)
      refine J_astore4 C (by decide) rfl dL_income_17 ?_
      refine J_iconst C dL_income_19 ?_
      refine J_retI C hr (by decide) (by decide) dL_income_20 ?_
      exact Or.inr (Or.inr (Or.inl ⟨rfl, rfl, hx⟩))
    · refine J_catchN C hT [(0, 10, 13, 32), (0, 10, 17, 13)] 0 10 21 15 [] rfl (by decide) (List.forall_mem_cons.mpr ⟨⟨by decide, nIOE, by decide, w_L_income_h32, by decide⟩, (List.forall_mem_cons.mpr ⟨⟨by decide, nIAE, by decide, w_L_income_h13, by decide⟩, (fun _ h => absurd h List.not_mem_nil)⟩)⟩) rfl (by decide) w_L_income_h15 (fun q_ => ?_)
      refine J_astore4 C (by decide) rfl dL_income_21 ?_
      refine J_iconst C dL_income_23 ?_
      refine J_retI C hr (by decide) (by decide) dL_income_24 ?_
      exact Or.inr (Or.inr (Or.inr (⟨rfl, rfl, hx⟩)))
  skip
  refine J_i2lw C dL_income_8 ?_
  refine J_lastore C k42 (by decide) (by omega) dL_income_9 ?_
  refine J_goto (tgt := 25) C dL_income_10 (by decide) ?_
  refine J_iconst C dL_income_25 ?_
  refine J_retI C hr (by decide) (by decide) dL_income_26 ?_
  exact Or.inl ⟨rfl, _, _, hp, rfl⟩
set_option maxRecDepth 20000 in
theorem w_L_move_h32 : Cond.classLink RL 32 nIOE ∈ wsL_move := by decide +kernel
set_option maxRecDepth 20000 in
theorem w_L_move_h15 : Cond.classLink RL 15 nISE ∈ wsL_move := by decide +kernel
set_option maxHeartbeats 4000000 in
set_option maxRecDepth 100000 in
theorem c_L_move {l : Launch} (hfl : l.stackTraces = false) {cy : Nat → ClassId} {D : va_G} {ad : Ad} (hI : Inj ad) (σ : Sg) (v w : Int) (hwc : 0 ≤ σ 0 0 4 ∧ σ 0 0 4 ≤ 6) (hvc : 0 ≤ σ 0 0 7 ∧ σ 0 0 7 ≤ 60) (hv9 : I32 v) (hw9 : I32 w) (hvs : ∀ v, 0 ≤ v → v < 60 → (0 ≤ σ 3 0 v ∧ σ 3 0 v < 6) ∧ -10000000 ≤ σ 4 0 v ∧ σ 4 0 v ≤ 10000000) (hsh : Shk (shf σ)) (hel : ∀ w, 0 ≤ w → w < 6 → (∀ q, 0 ≤ q → q < 5 → σ 13 w q = 0 ∨ σ 13 w q = 1) ∧ Tin (shf σ) (T0f (σ 13 w)) ∧ 0 ≤ σ 12 w 0 ∧ σ 12 w 0 ≤ 1000) : KI l yL_move wsL_move ({ frames := 8, cells := 6, slots := 36, locals := 166 } : Room) cy D ad σ [.ref (ad 0 0), .int (iI v), .int (iI w), .ref (ad 42 0)] (fun k σ' => (k = 0 ∧ ∃ (z : Int) (τ9 : Sg), (z = σ 3 0 v ∧ (∀ (a : Nat) (b c : Int), (a < 8 ∨ 11 < a) → (a < 14 ∨ 18 < a ∨ (b ≠ w ∧ b ≠ σ 3 0 v) ∨ c < 0 ∨ 5 ≤ c) → τ9 a b c = (su (su σ 3 0 v w) 12 w 1 1) a b c) ∧ ac τ9 w = foldS (shf σ) (σ 12 w 0) ((su (su σ 3 0 v w) 12 w 1 1) 3 0) (σ 4 0) w (T0f (σ 13 w)) (σ 0 0 7).toNat ∧ ac τ9 (σ 3 0 v) = foldS (shf σ) (σ 12 (σ 3 0 v) 0) ((su (su σ 3 0 v w) 12 w 1 1) 3 0) (σ 4 0) (σ 3 0 v) (T0f (σ 13 (σ 3 0 v))) (σ 0 0 7).toNat ∧ ((0 ≤ v ∧ v < σ 0 0 7) ∧ (0 ≤ w ∧ w < σ 0 0 4)) ∧ 0 ≤ σ 4 0 v) ∧ σ' = su τ9 42 0 0 (w32 z)) ∨ (k = 1 ∧ σ' = σ ∧ ¬ ((0 ≤ v ∧ v < σ 0 0 7) ∧ (0 ≤ w ∧ w < σ 0 0 4))) ∨ (k = 2 ∧ σ' = σ ∧ ((0 ≤ v ∧ v < σ 0 0 7) ∧ (0 ≤ w ∧ w < σ 0 0 4)) ∧ ¬ 0 ≤ σ 4 0 v)) 6 36 := by
  refine WI.of (lv0 := [some (.ref (ad 0 0)), some (.int (iI v)), some (.int (iI w)), some (.ref (ad 42 0)), none]) hfl hI (by decide) rfl (Nat.le_of_ble_eq_true rfl) rfl ?_
  intro p e s m args below meth c C hr hT
  refine J_aload_3 C dL_move_0 ?_
  refine J_iconst C dL_move_1 ?_
  refine J_aload_0 C dL_move_2 ?_
  refine J_iload_1 C dL_move_3 ?_
  refine J_iload_2 C dL_move_4 ?_
  refine J_XVI C (c_X3_move hfl hI _ v w hwc hvc hv9 hw9 hvs hsh hel) (cwV 2 C.1.2.2.2.2 gL_move_X3_move rfl rfl rfl (by decide +kernel) ⟨Nat.le_of_ble_eq_true rfl, Nat.le_of_ble_eq_true rfl⟩) rc3 (by decide) rfl rfl (Nat.le_of_ble_eq_true rfl) dL_move_5 ⟨Nat.le_of_ble_eq_true rfl, Nat.le_of_ble_eq_true rfl⟩ (fun E σ_5 hx => ?_) (fun z_5 σ_5 hp => ?_)
  · skip
    obtain ⟨hs_, hx⟩ := hx
    have hs_ := hs_.symm
    subst hs_
    rcases hx with ⟨rfl, hx⟩ | ⟨rfl, hx⟩
    · refine J_catchN C hT [] 0 10 13 32 [(0, 10, 17, 15)] rfl (by decide) (fun _ h => absurd h List.not_mem_nil) rfl (by decide) w_L_move_h32 (fun q_ => ?_)
      refine J_astore4 C (by decide) rfl dL_move_13 ?_
      refine J_iconst C dL_move_15 ?_
      refine J_retI C hr (by decide) (by decide) dL_move_16 ?_
      exact Or.inr (Or.inl ⟨rfl, rfl, hx⟩)
    · refine J_catchN C hT [(0, 10, 13, 32)] 0 10 17 15 [] rfl (by decide) (List.forall_mem_cons.mpr ⟨⟨by decide, nIOE, by decide, w_L_move_h32, by decide⟩, (fun _ h => absurd h List.not_mem_nil)⟩) rfl (by decide) w_L_move_h15 (fun q_ => ?_)
      refine J_astore4 C (by decide) rfl dL_move_17 ?_
      refine J_iconst C dL_move_19 ?_
      refine J_retI C hr (by decide) (by decide) dL_move_20 ?_
      exact Or.inr (Or.inr (⟨rfl, rfl, hx⟩))
  skip
  refine J_i2lw C dL_move_8 ?_
  refine J_lastore C k42 (by decide) (by omega) dL_move_9 ?_
  refine J_goto (tgt := 21) C dL_move_10 (by decide) ?_
  refine J_iconst C dL_move_21 ?_
  refine J_retI C hr (by decide) (by decide) dL_move_22 ?_
  exact Or.inl ⟨rfl, _, _, hp, rfl⟩
set_option maxRecDepth 20000 in
theorem w_L_wellOf_h32 : Cond.classLink RL 32 nIOE ∈ wsL_wellOf := by decide +kernel
set_option maxHeartbeats 4000000 in
set_option maxRecDepth 100000 in
theorem c_L_wellOf {l : Launch} (hfl : l.stackTraces = false) {cy : Nat → ClassId} {D : va_G} {ad : Ad} (hI : Inj ad) (σ : Sg) (v : Int) (hvc : 0 ≤ σ 0 0 7 ∧ σ 0 0 7 ≤ 60) (hv9 : I32 v) : KI l yL_wellOf wsL_wellOf ({ frames := 8, cells := 6, slots := 36, locals := 124 } : Room) cy D ad σ [.ref (ad 0 0), .int (iI v), .ref (ad 42 0)] (fun k σ' => (k = 0 ∧ ∃ (z : Int) (τ9 : Sg), (z = σ 3 0 v ∧ τ9 = σ ∧ (0 ≤ v ∧ v < σ 0 0 7)) ∧ σ' = su τ9 42 0 0 (w32 z)) ∨ (k = 1 ∧ σ' = σ ∧ ¬ (0 ≤ v ∧ v < σ 0 0 7))) 6 36 := by
  refine WI.of (lv0 := [some (.ref (ad 0 0)), some (.int (iI v)), some (.ref (ad 42 0)), none]) hfl hI (by decide) rfl (Nat.le_of_ble_eq_true rfl) rfl ?_
  intro p e s m args below meth c C hr hT
  refine J_aload_2 C dL_wellOf_0 ?_
  refine J_iconst C dL_wellOf_1 ?_
  refine J_aload_0 C dL_wellOf_2 ?_
  refine J_iload_1 C dL_wellOf_3 ?_
  refine J_XVI C (c_X3_wellOf hfl hI _ v hvc hv9) (cwV 1 C.1.2.2.2.2 gL_wellOf_X3_wellOf rfl rfl rfl (by decide +kernel) ⟨Nat.le_of_ble_eq_true rfl, Nat.le_of_ble_eq_true rfl⟩) rc3 (by decide) rfl rfl (Nat.le_of_ble_eq_true rfl) dL_wellOf_4 ⟨Nat.le_of_ble_eq_true rfl, Nat.le_of_ble_eq_true rfl⟩ (fun E σ_4 hx => ?_) (fun z_4 σ_4 hp => ?_)
  · skip
    obtain ⟨hs_, hx⟩ := hx
    have hs_ := hs_.symm
    subst hs_
    obtain ⟨rfl, hx⟩ := hx
    · refine J_catchN C hT [] 0 9 12 32 [] rfl (by decide) (fun _ h => absurd h List.not_mem_nil) rfl (by decide) w_L_wellOf_h32 (fun q_ => ?_)
      refine J_astore_3 C (by decide) rfl dL_wellOf_12 ?_
      refine J_iconst C dL_wellOf_13 ?_
      refine J_retI C hr (by decide) (by decide) dL_wellOf_14 ?_
      exact Or.inr (⟨rfl, rfl, hx⟩)
  skip
  refine J_i2lw C dL_wellOf_7 ?_
  refine J_lastore C k42 (by decide) (by omega) dL_wellOf_8 ?_
  refine J_goto (tgt := 15) C dL_wellOf_9 (by decide) ?_
  refine J_iconst C dL_wellOf_15 ?_
  refine J_retI C hr (by decide) (by decide) dL_wellOf_16 ?_
  exact Or.inl ⟨rfl, _, _, hp, rfl⟩
set_option maxRecDepth 20000 in
theorem w_L_amountOf_h32 : Cond.classLink RL 32 nIOE ∈ wsL_amountOf := by decide +kernel
set_option maxHeartbeats 4000000 in
set_option maxRecDepth 100000 in
theorem c_L_amountOf {l : Launch} (hfl : l.stackTraces = false) {cy : Nat → ClassId} {D : va_G} {ad : Ad} (hI : Inj ad) (σ : Sg) (v : Int) (hvc : 0 ≤ σ 0 0 7 ∧ σ 0 0 7 ≤ 60) (hv9 : I32 v) : KI l yL_amountOf wsL_amountOf ({ frames := 8, cells := 6, slots := 36, locals := 124 } : Room) cy D ad σ [.ref (ad 0 0), .int (iI v), .ref (ad 42 0)] (fun k σ' => (k = 0 ∧ ∃ (z : Int) (τ9 : Sg), (z = σ 4 0 v ∧ τ9 = σ ∧ (0 ≤ v ∧ v < σ 0 0 7)) ∧ σ' = su τ9 42 0 0 (w32 z)) ∨ (k = 1 ∧ σ' = σ ∧ ¬ (0 ≤ v ∧ v < σ 0 0 7))) 6 36 := by
  refine WI.of (lv0 := [some (.ref (ad 0 0)), some (.int (iI v)), some (.ref (ad 42 0)), none]) hfl hI (by decide) rfl (Nat.le_of_ble_eq_true rfl) rfl ?_
  intro p e s m args below meth c C hr hT
  refine J_aload_2 C dL_amountOf_0 ?_
  refine J_iconst C dL_amountOf_1 ?_
  refine J_aload_0 C dL_amountOf_2 ?_
  refine J_iload_1 C dL_amountOf_3 ?_
  refine J_XVI C (c_X3_amountOf hfl hI _ v hvc hv9) (cwV 1 C.1.2.2.2.2 gL_amountOf_X3_amountOf rfl rfl rfl (by decide +kernel) ⟨Nat.le_of_ble_eq_true rfl, Nat.le_of_ble_eq_true rfl⟩) rc3 (by decide) rfl rfl (Nat.le_of_ble_eq_true rfl) dL_amountOf_4 ⟨Nat.le_of_ble_eq_true rfl, Nat.le_of_ble_eq_true rfl⟩ (fun E σ_4 hx => ?_) (fun z_4 σ_4 hp => ?_)
  · skip
    obtain ⟨hs_, hx⟩ := hx
    have hs_ := hs_.symm
    subst hs_
    obtain ⟨rfl, hx⟩ := hx
    · refine J_catchN C hT [] 0 9 12 32 [] rfl (by decide) (fun _ h => absurd h List.not_mem_nil) rfl (by decide) w_L_amountOf_h32 (fun q_ => ?_)
      refine J_astore_3 C (by decide) rfl dL_amountOf_12 ?_
      refine J_iconst C dL_amountOf_13 ?_
      refine J_retI C hr (by decide) (by decide) dL_amountOf_14 ?_
      exact Or.inr (⟨rfl, rfl, hx⟩)
  skip
  refine J_i2lw C dL_amountOf_7 ?_
  refine J_lastore C k42 (by decide) (by omega) dL_amountOf_8 ?_
  refine J_goto (tgt := 15) C dL_amountOf_9 (by decide) ?_
  refine J_iconst C dL_amountOf_15 ?_
  refine J_retI C hr (by decide) (by decide) dL_amountOf_16 ?_
  exact Or.inl ⟨rfl, _, _, hp, rfl⟩
set_option maxRecDepth 20000 in
theorem w_L_isIn_h32 : Cond.classLink RL 32 nIOE ∈ wsL_isIn := by decide +kernel
set_option maxHeartbeats 4000000 in
set_option maxRecDepth 100000 in
theorem c_L_isIn {l : Launch} (hfl : l.stackTraces = false) {cy : Nat → ClassId} {D : va_G} {ad : Ad} (hI : Inj ad) (σ : Sg) (w q : Int) (hwc : 0 ≤ σ 0 0 4 ∧ σ 0 0 4 ≤ 6) (hw9 : I32 w) (hq9 : I32 q) (hf : ∀ w q, 0 ≤ w → w < 6 → 0 ≤ q → q < 5 → σ 14 w q = 0 ∨ σ 14 w q = 1) (hs : ∀ q, 0 ≤ q → q < 5 → 0 ≤ σ 1 0 q ∧ σ 1 0 q ≤ 10000) : KI l yL_isIn wsL_isIn ({ frames := 8, cells := 6, slots := 36, locals := 125 } : Room) cy D ad σ [.ref (ad 0 0), .int (iI w), .int (iI q), .ref (ad 42 0)] (fun k σ' => (k = 0 ∧ ∃ (z : Int) (τ9 : Sg), (z = (if σ 14 w q = 0 ∧ 0 < σ 1 0 q then 1 else 0) ∧ τ9 = σ ∧ (0 ≤ w ∧ w < σ 0 0 4) ∧ (0 ≤ q ∧ q < 5)) ∧ σ' = su τ9 42 0 0 z) ∨ (k = 1 ∧ σ' = σ ∧ ¬ ((0 ≤ w ∧ w < σ 0 0 4) ∧ (0 ≤ q ∧ q < 5)))) 6 36 := by
  refine WI.of (lv0 := [some (.ref (ad 0 0)), some (.int (iI w)), some (.int (iI q)), some (.ref (ad 42 0)), none]) hfl hI (by decide) rfl (Nat.le_of_ble_eq_true rfl) rfl ?_
  intro p e s m args below meth c C hr hT
  refine J_aload_3 C dL_isIn_0 ?_
  refine J_iconst C dL_isIn_1 ?_
  refine J_aload_0 C dL_isIn_2 ?_
  refine J_iload_1 C dL_isIn_3 ?_
  refine J_iload_2 C dL_isIn_4 ?_
  refine J_XVI C (c_X3_isIn hfl hI _ w q hwc hw9 hq9 hf hs) (cwV 2 C.1.2.2.2.2 gL_isIn_X3_isIn rfl rfl rfl (by decide +kernel) ⟨Nat.le_of_ble_eq_true rfl, Nat.le_of_ble_eq_true rfl⟩) rc3 (by decide) rfl rfl (Nat.le_of_ble_eq_true rfl) dL_isIn_5 ⟨Nat.le_of_ble_eq_true rfl, Nat.le_of_ble_eq_true rfl⟩ (fun E σ_5 hx => ?_) (fun z_5 σ_5 hp => ?_)
  · skip
    obtain ⟨hs_, hx⟩ := hx
    have hs_ := hs_.symm
    subst hs_
    obtain ⟨rfl, hx⟩ := hx
    · refine J_catchN C hT [] 0 17 20 32 [] rfl (by decide) (fun _ h => absurd h List.not_mem_nil) rfl (by decide) w_L_isIn_h32 (fun q_ => ?_)
      refine J_astore4 C (by decide) rfl dL_isIn_20 ?_
      refine J_iconst C dL_isIn_22 ?_
      refine J_retI C hr (by decide) (by decide) dL_isIn_23 ?_
      exact Or.inr (⟨rfl, rfl, hx⟩)
  skip
  refine J_if_eq (tgt := 15) C (by have := hp.1; split at this <;> omega) dL_isIn_8 (by decide) (fun c_8 => ?_) (fun c_8 => ?_)
  · refine J_lconst (z := 0) C (by decide) dL_isIn_15 ?_
    refine J_lastore C k42 (by decide) (by omega) dL_isIn_16 ?_
    refine J_goto (tgt := 24) C dL_isIn_17 (by decide) ?_
    refine J_iconst C dL_isIn_24 ?_
    refine J_retI C hr (by decide) (by decide) dL_isIn_25 ?_
    first
      | (have e9 : z_5 = 0 := by assumption
         exact Or.inl ⟨rfl, _, _, hp, by rw [e9]⟩)
      | (have e9 : z_5 = 1 := by
           have := hp.1
           split at this <;> omega
         exact Or.inl ⟨rfl, _, _, hp, by rw [e9]⟩)
  · refine J_lconst (z := 1) C (by decide) dL_isIn_11 ?_
    refine J_goto (tgt := 16) C dL_isIn_12 (by decide) ?_
    refine J_lastore C k42 (by decide) (by omega) dL_isIn_16 ?_
    refine J_goto (tgt := 24) C dL_isIn_17 (by decide) ?_
    refine J_iconst C dL_isIn_24 ?_
    refine J_retI C hr (by decide) (by decide) dL_isIn_25 ?_
    first
      | (have e9 : z_5 = 0 := by assumption
         exact Or.inl ⟨rfl, _, _, hp, by rw [e9]⟩)
      | (have e9 : z_5 = 1 := by
           have := hp.1
           split at this <;> omega
         exact Or.inl ⟨rfl, _, _, hp, by rw [e9]⟩)
set_option maxRecDepth 20000 in
theorem w_L_toEarn_h32 : Cond.classLink RL 32 nIOE ∈ wsL_toEarn := by decide +kernel
set_option maxHeartbeats 4000000 in
set_option maxRecDepth 100000 in
theorem c_L_toEarn {l : Launch} (hfl : l.stackTraces = false) {cy : Nat → ClassId} {D : va_G} {ad : Ad} (hI : Inj ad) (σ : Sg) (w q : Int) (hwc : 0 ≤ σ 0 0 4 ∧ σ 0 0 4 ≤ 6) (hw9 : I32 w) (hq9 : I32 q) : KI l yL_toEarn wsL_toEarn ({ frames := 8, cells := 6, slots := 36, locals := 125 } : Room) cy D ad σ [.ref (ad 0 0), .int (iI w), .int (iI q), .ref (ad 42 0)] (fun k σ' => (k = 0 ∧ ∃ (z : Int) (τ9 : Sg), (z = σ 15 w q ∧ τ9 = σ ∧ (0 ≤ w ∧ w < σ 0 0 4) ∧ (0 ≤ q ∧ q < 5)) ∧ σ' = su τ9 42 0 0 z) ∨ (k = 1 ∧ σ' = σ ∧ ¬ ((0 ≤ w ∧ w < σ 0 0 4) ∧ (0 ≤ q ∧ q < 5)))) 6 36 := by
  refine WI.of (lv0 := [some (.ref (ad 0 0)), some (.int (iI w)), some (.int (iI q)), some (.ref (ad 42 0)), none]) hfl hI (by decide) rfl (Nat.le_of_ble_eq_true rfl) rfl ?_
  intro p e s m args below meth c C hr hT
  refine J_aload_3 C dL_toEarn_0 ?_
  refine J_iconst C dL_toEarn_1 ?_
  refine J_aload_0 C dL_toEarn_2 ?_
  refine J_iload_1 C dL_toEarn_3 ?_
  refine J_iload_2 C dL_toEarn_4 ?_
  refine J_XVL C (c_X3_toEarn hfl hI _ w q hwc hw9 hq9) (cwV 2 C.1.2.2.2.2 gL_toEarn_X3_toEarn rfl rfl rfl (by decide +kernel) ⟨Nat.le_of_ble_eq_true rfl, Nat.le_of_ble_eq_true rfl⟩) rc3 (by decide) rfl rfl (Nat.le_of_ble_eq_true rfl) dL_toEarn_5 ⟨Nat.le_of_ble_eq_true rfl, Nat.le_of_ble_eq_true rfl⟩ (fun E σ_5 hx => ?_) (fun z_5 σ_5 hp => ?_)
  · skip
    obtain ⟨hs_, hx⟩ := hx
    have hs_ := hs_.symm
    subst hs_
    obtain ⟨rfl, hx⟩ := hx
    · refine J_catchN C hT [] 0 9 12 32 [] rfl (by decide) (fun _ h => absurd h List.not_mem_nil) rfl (by decide) w_L_toEarn_h32 (fun q_ => ?_)
      refine J_astore4 C (by decide) rfl dL_toEarn_12 ?_
      refine J_iconst C dL_toEarn_14 ?_
      refine J_retI C hr (by decide) (by decide) dL_toEarn_15 ?_
      exact Or.inr (⟨rfl, rfl, hx⟩)
  skip
  refine J_lastore C k42 (by decide) (by omega) dL_toEarn_8 ?_
  refine J_goto (tgt := 16) C dL_toEarn_9 (by decide) ?_
  refine J_iconst C dL_toEarn_16 ?_
  refine J_retI C hr (by decide) (by decide) dL_toEarn_17 ?_
  exact Or.inl ⟨rfl, _, _, hp, rfl⟩
set_option maxRecDepth 20000 in
theorem w_L_backAt_h32 : Cond.classLink RL 32 nIOE ∈ wsL_backAt := by decide +kernel
set_option maxHeartbeats 4000000 in
set_option maxRecDepth 100000 in
theorem c_L_backAt {l : Launch} (hfl : l.stackTraces = false) {cy : Nat → ClassId} {D : va_G} {ad : Ad} (hI : Inj ad) (σ : Sg) (w q : Int) (hwc : 0 ≤ σ 0 0 4 ∧ σ 0 0 4 ≤ 6) (hw9 : I32 w) (hq9 : I32 q) : KI l yL_backAt wsL_backAt ({ frames := 8, cells := 6, slots := 36, locals := 125 } : Room) cy D ad σ [.ref (ad 0 0), .int (iI w), .int (iI q), .ref (ad 42 0)] (fun k σ' => (k = 0 ∧ ∃ (z : Int) (τ9 : Sg), (z = σ 16 w q ∧ τ9 = σ ∧ (0 ≤ w ∧ w < σ 0 0 4) ∧ (0 ≤ q ∧ q < 5)) ∧ σ' = su τ9 42 0 0 (w32 z)) ∨ (k = 1 ∧ σ' = σ ∧ ¬ ((0 ≤ w ∧ w < σ 0 0 4) ∧ (0 ≤ q ∧ q < 5)))) 6 36 := by
  refine WI.of (lv0 := [some (.ref (ad 0 0)), some (.int (iI w)), some (.int (iI q)), some (.ref (ad 42 0)), none]) hfl hI (by decide) rfl (Nat.le_of_ble_eq_true rfl) rfl ?_
  intro p e s m args below meth c C hr hT
  refine J_aload_3 C dL_backAt_0 ?_
  refine J_iconst C dL_backAt_1 ?_
  refine J_aload_0 C dL_backAt_2 ?_
  refine J_iload_1 C dL_backAt_3 ?_
  refine J_iload_2 C dL_backAt_4 ?_
  refine J_XVI C (c_X3_backAt hfl hI _ w q hwc hw9 hq9) (cwV 2 C.1.2.2.2.2 gL_backAt_X3_backAt rfl rfl rfl (by decide +kernel) ⟨Nat.le_of_ble_eq_true rfl, Nat.le_of_ble_eq_true rfl⟩) rc3 (by decide) rfl rfl (Nat.le_of_ble_eq_true rfl) dL_backAt_5 ⟨Nat.le_of_ble_eq_true rfl, Nat.le_of_ble_eq_true rfl⟩ (fun E σ_5 hx => ?_) (fun z_5 σ_5 hp => ?_)
  · skip
    obtain ⟨hs_, hx⟩ := hx
    have hs_ := hs_.symm
    subst hs_
    obtain ⟨rfl, hx⟩ := hx
    · refine J_catchN C hT [] 0 10 13 32 [] rfl (by decide) (fun _ h => absurd h List.not_mem_nil) rfl (by decide) w_L_backAt_h32 (fun q_ => ?_)
      refine J_astore4 C (by decide) rfl dL_backAt_13 ?_
      refine J_iconst C dL_backAt_15 ?_
      refine J_retI C hr (by decide) (by decide) dL_backAt_16 ?_
      exact Or.inr (⟨rfl, rfl, hx⟩)
  skip
  refine J_i2lw C dL_backAt_8 ?_
  refine J_lastore C k42 (by decide) (by omega) dL_backAt_9 ?_
  refine J_goto (tgt := 17) C dL_backAt_10 (by decide) ?_
  refine J_iconst C dL_backAt_17 ?_
  refine J_retI C hr (by decide) (by decide) dL_backAt_18 ?_
  exact Or.inl ⟨rfl, _, _, hp, rfl⟩
set_option maxRecDepth 20000 in
theorem w_L_charged_h32 : Cond.classLink RL 32 nIOE ∈ wsL_charged := by decide +kernel
set_option maxHeartbeats 4000000 in
set_option maxRecDepth 100000 in
theorem c_L_charged {l : Launch} (hfl : l.stackTraces = false) {cy : Nat → ClassId} {D : va_G} {ad : Ad} (hI : Inj ad) (σ : Sg) (w q : Int) (hwc : 0 ≤ σ 0 0 4 ∧ σ 0 0 4 ≤ 6) (hw9 : I32 w) (hq9 : I32 q) : KI l yL_charged wsL_charged ({ frames := 8, cells := 6, slots := 36, locals := 125 } : Room) cy D ad σ [.ref (ad 0 0), .int (iI w), .int (iI q), .ref (ad 42 0)] (fun k σ' => (k = 0 ∧ ∃ (z : Int) (τ9 : Sg), (z = σ 17 w q ∧ τ9 = σ ∧ (0 ≤ w ∧ w < σ 0 0 4) ∧ (0 ≤ q ∧ q < 5)) ∧ σ' = su τ9 42 0 0 (w32 z)) ∨ (k = 1 ∧ σ' = σ ∧ ¬ ((0 ≤ w ∧ w < σ 0 0 4) ∧ (0 ≤ q ∧ q < 5)))) 6 36 := by
  refine WI.of (lv0 := [some (.ref (ad 0 0)), some (.int (iI w)), some (.int (iI q)), some (.ref (ad 42 0)), none]) hfl hI (by decide) rfl (Nat.le_of_ble_eq_true rfl) rfl ?_
  intro p e s m args below meth c C hr hT
  refine J_aload_3 C dL_charged_0 ?_
  refine J_iconst C dL_charged_1 ?_
  refine J_aload_0 C dL_charged_2 ?_
  refine J_iload_1 C dL_charged_3 ?_
  refine J_iload_2 C dL_charged_4 ?_
  refine J_XVI C (c_X3_charged hfl hI _ w q hwc hw9 hq9) (cwV 2 C.1.2.2.2.2 gL_charged_X3_charged rfl rfl rfl (by decide +kernel) ⟨Nat.le_of_ble_eq_true rfl, Nat.le_of_ble_eq_true rfl⟩) rc3 (by decide) rfl rfl (Nat.le_of_ble_eq_true rfl) dL_charged_5 ⟨Nat.le_of_ble_eq_true rfl, Nat.le_of_ble_eq_true rfl⟩ (fun E σ_5 hx => ?_) (fun z_5 σ_5 hp => ?_)
  · skip
    obtain ⟨hs_, hx⟩ := hx
    have hs_ := hs_.symm
    subst hs_
    obtain ⟨rfl, hx⟩ := hx
    · refine J_catchN C hT [] 0 10 13 32 [] rfl (by decide) (fun _ h => absurd h List.not_mem_nil) rfl (by decide) w_L_charged_h32 (fun q_ => ?_)
      refine J_astore4 C (by decide) rfl dL_charged_13 ?_
      refine J_iconst C dL_charged_15 ?_
      refine J_retI C hr (by decide) (by decide) dL_charged_16 ?_
      exact Or.inr (⟨rfl, rfl, hx⟩)
  skip
  refine J_i2lw C dL_charged_8 ?_
  refine J_lastore C k42 (by decide) (by omega) dL_charged_9 ?_
  refine J_goto (tgt := 17) C dL_charged_10 (by decide) ?_
  refine J_iconst C dL_charged_17 ?_
  refine J_retI C hr (by decide) (by decide) dL_charged_18 ?_
  exact Or.inl ⟨rfl, _, _, hp, rfl⟩
set_option maxRecDepth 20000 in
theorem w_L_credited_h32 : Cond.classLink RL 32 nIOE ∈ wsL_credited := by decide +kernel
set_option maxHeartbeats 4000000 in
set_option maxRecDepth 100000 in
theorem c_L_credited {l : Launch} (hfl : l.stackTraces = false) {cy : Nat → ClassId} {D : va_G} {ad : Ad} (hI : Inj ad) (σ : Sg) (w q : Int) (hwc : 0 ≤ σ 0 0 4 ∧ σ 0 0 4 ≤ 6) (hw9 : I32 w) (hq9 : I32 q) : KI l yL_credited wsL_credited ({ frames := 8, cells := 6, slots := 36, locals := 125 } : Room) cy D ad σ [.ref (ad 0 0), .int (iI w), .int (iI q), .ref (ad 42 0)] (fun k σ' => (k = 0 ∧ ∃ (z : Int) (τ9 : Sg), (z = σ 18 w q ∧ τ9 = σ ∧ (0 ≤ w ∧ w < σ 0 0 4) ∧ (0 ≤ q ∧ q < 5)) ∧ σ' = su τ9 42 0 0 (w32 z)) ∨ (k = 1 ∧ σ' = σ ∧ ¬ ((0 ≤ w ∧ w < σ 0 0 4) ∧ (0 ≤ q ∧ q < 5)))) 6 36 := by
  refine WI.of (lv0 := [some (.ref (ad 0 0)), some (.int (iI w)), some (.int (iI q)), some (.ref (ad 42 0)), none]) hfl hI (by decide) rfl (Nat.le_of_ble_eq_true rfl) rfl ?_
  intro p e s m args below meth c C hr hT
  refine J_aload_3 C dL_credited_0 ?_
  refine J_iconst C dL_credited_1 ?_
  refine J_aload_0 C dL_credited_2 ?_
  refine J_iload_1 C dL_credited_3 ?_
  refine J_iload_2 C dL_credited_4 ?_
  refine J_XVI C (c_X3_credited hfl hI _ w q hwc hw9 hq9) (cwV 2 C.1.2.2.2.2 gL_credited_X3_credited rfl rfl rfl (by decide +kernel) ⟨Nat.le_of_ble_eq_true rfl, Nat.le_of_ble_eq_true rfl⟩) rc3 (by decide) rfl rfl (Nat.le_of_ble_eq_true rfl) dL_credited_5 ⟨Nat.le_of_ble_eq_true rfl, Nat.le_of_ble_eq_true rfl⟩ (fun E σ_5 hx => ?_) (fun z_5 σ_5 hp => ?_)
  · skip
    obtain ⟨hs_, hx⟩ := hx
    have hs_ := hs_.symm
    subst hs_
    obtain ⟨rfl, hx⟩ := hx
    · refine J_catchN C hT [] 0 10 13 32 [] rfl (by decide) (fun _ h => absurd h List.not_mem_nil) rfl (by decide) w_L_credited_h32 (fun q_ => ?_)
      refine J_astore4 C (by decide) rfl dL_credited_13 ?_
      refine J_iconst C dL_credited_15 ?_
      refine J_retI C hr (by decide) (by decide) dL_credited_16 ?_
      exact Or.inr (⟨rfl, rfl, hx⟩)
  skip
  refine J_i2lw C dL_credited_8 ?_
  refine J_lastore C k42 (by decide) (by omega) dL_credited_9 ?_
  refine J_goto (tgt := 17) C dL_credited_10 (by decide) ?_
  refine J_iconst C dL_credited_17 ?_
  refine J_retI C hr (by decide) (by decide) dL_credited_18 ?_
  exact Or.inl ⟨rfl, _, _, hp, rfl⟩
set_option maxRecDepth 20000 in
theorem w_L_weight_h32 : Cond.classLink RL 32 nIOE ∈ wsL_weight := by decide +kernel
set_option maxHeartbeats 4000000 in
set_option maxRecDepth 100000 in
theorem c_L_weight {l : Launch} (hfl : l.stackTraces = false) {cy : Nat → ClassId} {D : va_G} {ad : Ad} (hI : Inj ad) (σ : Sg) (w q : Int) (hwc : 0 ≤ σ 0 0 4 ∧ σ 0 0 4 ≤ 6) (hw9 : I32 w) (hq9 : I32 q) (hsh : Shk (shf σ)) (hall : ∀ w, 0 ≤ w → w < 6 → Tin (shf σ) (ac σ w) ∧ (0 ≤ σ 12 w 0 ∧ σ 12 w 0 ≤ 1000) ∧ ∀ q, 0 ≤ q → q < 5 → 0 ≤ σ 15 w q ∧ σ 15 w q < 4611686018427387904) : KI l yL_weight wsL_weight ({ frames := 8, cells := 6, slots := 36, locals := 125 } : Room) cy D ad σ [.ref (ad 0 0), .int (iI w), .int (iI q), .ref (ad 42 0)] (fun k σ' => (k = 0 ∧ ∃ (z : Int) (τ9 : Sg), (z = chp (shf σ) (ac σ w) 10000 q ∧ Fs σ τ9 ∧ (0 ≤ w ∧ w < σ 0 0 4) ∧ (0 ≤ q ∧ q < 5)) ∧ σ' = su τ9 42 0 0 (w32 z)) ∨ (k = 1 ∧ σ' = σ ∧ ¬ ((0 ≤ w ∧ w < σ 0 0 4) ∧ (0 ≤ q ∧ q < 5)))) 6 36 := by
  refine WI.of (lv0 := [some (.ref (ad 0 0)), some (.int (iI w)), some (.int (iI q)), some (.ref (ad 42 0)), none]) hfl hI (by decide) rfl (Nat.le_of_ble_eq_true rfl) rfl ?_
  intro p e s m args below meth c C hr hT
  refine J_aload_3 C dL_weight_0 ?_
  refine J_iconst C dL_weight_1 ?_
  refine J_aload_0 C dL_weight_2 ?_
  refine J_iload_1 C dL_weight_3 ?_
  refine J_iload_2 C dL_weight_4 ?_
  refine J_XVI C (c_X3_weight hfl hI _ w q hwc hw9 hq9 hsh hall) (cwV 2 C.1.2.2.2.2 gL_weight_X3_weight rfl rfl rfl (by decide +kernel) ⟨Nat.le_of_ble_eq_true rfl, Nat.le_of_ble_eq_true rfl⟩) rc3 (by decide) rfl rfl (Nat.le_of_ble_eq_true rfl) dL_weight_5 ⟨Nat.le_of_ble_eq_true rfl, Nat.le_of_ble_eq_true rfl⟩ (fun E σ_5 hx => ?_) (fun z_5 σ_5 hp => ?_)
  · skip
    obtain ⟨hs_, hx⟩ := hx
    have hs_ := hs_.symm
    subst hs_
    obtain ⟨rfl, hx⟩ := hx
    · refine J_catchN C hT [] 0 10 13 32 [] rfl (by decide) (fun _ h => absurd h List.not_mem_nil) rfl (by decide) w_L_weight_h32 (fun q_ => ?_)
      refine J_astore4 C (by decide) rfl dL_weight_13 ?_
      refine J_iconst C dL_weight_15 ?_
      refine J_retI C hr (by decide) (by decide) dL_weight_16 ?_
      exact Or.inr (⟨rfl, rfl, hx⟩)
  skip
  refine J_i2lw C dL_weight_8 ?_
  refine J_lastore C k42 (by decide) (by omega) dL_weight_9 ?_
  refine J_goto (tgt := 17) C dL_weight_10 (by decide) ?_
  refine J_iconst C dL_weight_17 ?_
  refine J_retI C hr (by decide) (by decide) dL_weight_18 ?_
  exact Or.inl ⟨rfl, _, _, hp, rfl⟩
set_option maxRecDepth 20000 in
theorem w_L_call_h32 : Cond.classLink RL 32 nIOE ∈ wsL_call := by decide +kernel
set_option maxRecDepth 20000 in
theorem w_L_call_h13 : Cond.classLink RL 13 nIAE ∈ wsL_call := by decide +kernel
set_option maxRecDepth 20000 in
theorem w_L_call_h15 : Cond.classLink RL 15 nISE ∈ wsL_call := by decide +kernel
set_option maxHeartbeats 4000000 in
set_option maxRecDepth 100000 in
theorem c_L_call {l : Launch} (hfl : l.stackTraces = false) {cy : Nat → ClassId} {D : va_G} {ad : Ad} (hI : Inj ad) (σ : Sg) (w a9 : Int) (hwc : 0 ≤ σ 0 0 4 ∧ σ 0 0 4 ≤ 6) (hcc : 0 ≤ σ 0 0 9 ∧ σ 0 0 9 ≤ 20) (hw9 : I32 w) (ia : I32 a9) (hsh : Shk (shf σ)) (hall : ∀ w, 0 ≤ w → w < 6 → Tin (shf σ) (ac σ w) ∧ (0 ≤ σ 12 w 0 ∧ σ 12 w 0 ≤ 1000) ∧ ∀ q, 0 ≤ q → q < 5 → 0 ≤ σ 15 w q ∧ σ 15 w q < 4611686018427387904) : KI l yL_call wsL_call ({ frames := 8, cells := 6, slots := 36, locals := 127 } : Room) cy D ad σ [.ref (ad 0 0), .int (iI w), .int (iI a9), .ref (ad 42 0)] (fun k σ' => (k = 0 ∧ ∃ (z : Int) (τ9 : Sg), (z = σ 0 0 9 ∧ Fs (su (sf σ 20 (σ 0 0 9) 5 (dv a9 (chp (shf σ) (ac σ w) 10000))) 0 0 9 (σ 0 0 9 + 1)) τ9 ∧ ((0 ≤ w ∧ w < σ 0 0 4) ∧ (1 ≤ a9 ∧ a9 ≤ 10000000)) ∧ σ 0 0 9 < 20) ∧ σ' = su τ9 42 0 0 (w32 z)) ∨ (k = 1 ∧ σ' = σ ∧ ¬ (0 ≤ w ∧ w < σ 0 0 4)) ∨ (k = 2 ∧ σ' = σ ∧ (0 ≤ w ∧ w < σ 0 0 4) ∧ ¬ (1 ≤ a9 ∧ a9 ≤ 10000000)) ∨ (k = 3 ∧ σ' = σ ∧ ((0 ≤ w ∧ w < σ 0 0 4) ∧ (1 ≤ a9 ∧ a9 ≤ 10000000)) ∧ ¬ σ 0 0 9 < 20)) 6 36 := by
  refine WI.of (lv0 := [some (.ref (ad 0 0)), some (.int (iI w)), some (.int (iI a9)), some (.ref (ad 42 0)), none]) hfl hI (by decide) rfl (Nat.le_of_ble_eq_true rfl) rfl ?_
  intro p e s m args below meth c C hr hT
  refine J_aload_3 C dL_call_0 ?_
  refine J_iconst C dL_call_1 ?_
  refine J_aload_0 C dL_call_2 ?_
  refine J_iload_1 C dL_call_3 ?_
  refine J_iload_2 C dL_call_4 ?_
  refine J_XVI C (c_X3_call hfl hI _ w a9 hwc hcc hw9 ia hsh hall) (cwV 2 C.1.2.2.2.2 gL_call_X3_call rfl rfl rfl (by decide +kernel) ⟨Nat.le_of_ble_eq_true rfl, Nat.le_of_ble_eq_true rfl⟩) rc3 (by decide) rfl rfl (Nat.le_of_ble_eq_true rfl) dL_call_5 ⟨Nat.le_of_ble_eq_true rfl, Nat.le_of_ble_eq_true rfl⟩ (fun E σ_5 hx => ?_) (fun z_5 σ_5 hp => ?_)
  · skip
    obtain ⟨hs_, hx⟩ := hx
    have hs_ := hs_.symm
    subst hs_
    rcases hx with ⟨rfl, hx⟩ | ⟨rfl, hx⟩ | ⟨rfl, hx⟩
    · refine J_catchN C hT [] 0 10 13 32 [(0, 10, 17, 13), (0, 10, 21, 15)] rfl (by decide) (fun _ h => absurd h List.not_mem_nil) rfl (by decide) w_L_call_h32 (fun q_ => ?_)
      refine J_astore4 C (by decide) rfl dL_call_13 ?_
      refine J_iconst C dL_call_15 ?_
      refine J_retI C hr (by decide) (by decide) dL_call_16 ?_
      exact Or.inr (Or.inl ⟨rfl, rfl, hx⟩)
    · refine J_catchN C hT [(0, 10, 13, 32)] 0 10 17 13 [(0, 10, 21, 15)] rfl (by decide) (List.forall_mem_cons.mpr ⟨⟨by decide, nIOE, by decide, w_L_call_h32, by decide⟩, (fun _ h => absurd h List.not_mem_nil)⟩) rfl (by decide) w_L_call_h13 (fun q_ => ?_)
      refine J_astore4 C (by decide) rfl dL_call_17 ?_
      refine J_iconst C dL_call_19 ?_
      refine J_retI C hr (by decide) (by decide) dL_call_20 ?_
      exact Or.inr (Or.inr (Or.inl ⟨rfl, rfl, hx⟩))
    · refine J_catchN C hT [(0, 10, 13, 32), (0, 10, 17, 13)] 0 10 21 15 [] rfl (by decide) (List.forall_mem_cons.mpr ⟨⟨by decide, nIOE, by decide, w_L_call_h32, by decide⟩, (List.forall_mem_cons.mpr ⟨⟨by decide, nIAE, by decide, w_L_call_h13, by decide⟩, (fun _ h => absurd h List.not_mem_nil)⟩)⟩) rfl (by decide) w_L_call_h15 (fun q_ => ?_)
      refine J_astore4 C (by decide) rfl dL_call_21 ?_
      refine J_iconst C dL_call_23 ?_
      refine J_retI C hr (by decide) (by decide) dL_call_24 ?_
      exact Or.inr (Or.inr (Or.inr (⟨rfl, rfl, hx⟩)))
  skip
  refine J_i2lw C dL_call_8 ?_
  refine J_lastore C k42 (by decide) (by omega) dL_call_9 ?_
  refine J_goto (tgt := 25) C dL_call_10 (by decide) ?_
  refine J_iconst C dL_call_25 ?_
  refine J_retI C hr (by decide) (by decide) dL_call_26 ?_
  exact Or.inl ⟨rfl, _, _, hp, rfl⟩
set_option maxRecDepth 20000 in
theorem w_L_pay_h32 : Cond.classLink RL 32 nIOE ∈ wsL_pay := by decide +kernel
set_option maxRecDepth 20000 in
theorem w_L_pay_h15 : Cond.classLink RL 15 nISE ∈ wsL_pay := by decide +kernel
set_option maxHeartbeats 4000000 in
set_option maxRecDepth 100000 in
theorem c_L_pay {l : Launch} (hfl : l.stackTraces = false) {cy : Nat → ClassId} {D : va_G} {ad : Ad} (hI : Inj ad) (σ : Sg) (k9 q : Int) (hcc : 0 ≤ σ 0 0 9 ∧ σ 0 0 9 ≤ 20) (hk9 : I32 k9) (hq9 : I32 q) (hr9 : ∀ k q, 0 ≤ k → k < 20 → 0 ≤ q → q < 5 → I32 (σ 20 k q - σ 21 k q)) : KI l yL_pay wsL_pay ({ frames := 8, cells := 6, slots := 36, locals := 127 } : Room) cy D ad σ [.ref (ad 0 0), .int (iI k9), .int (iI q), .ref (ad 42 0)] (fun k σ' => (k = 0 ∧ ∃ (z : Int) (τ9 : Sg), (z = σ 20 k9 q - σ 21 k9 q ∧ τ9 = su σ 21 k9 q (σ 20 k9 q) ∧ ((0 ≤ k9 ∧ k9 < σ 0 0 9) ∧ (0 ≤ q ∧ q < 5)) ∧ ¬ σ 20 k9 q - σ 21 k9 q = 0) ∧ σ' = su τ9 42 0 0 (w32 z)) ∨ (k = 1 ∧ σ' = σ ∧ ¬ ((0 ≤ k9 ∧ k9 < σ 0 0 9) ∧ (0 ≤ q ∧ q < 5))) ∨ (k = 2 ∧ σ' = σ ∧ ((0 ≤ k9 ∧ k9 < σ 0 0 9) ∧ (0 ≤ q ∧ q < 5)) ∧ ¬ ¬ σ 20 k9 q - σ 21 k9 q = 0)) 6 36 := by
  refine WI.of (lv0 := [some (.ref (ad 0 0)), some (.int (iI k9)), some (.int (iI q)), some (.ref (ad 42 0)), none]) hfl hI (by decide) rfl (Nat.le_of_ble_eq_true rfl) rfl ?_
  intro p e s m args below meth c C hr hT
  refine J_aload_3 C dL_pay_0 ?_
  refine J_iconst C dL_pay_1 ?_
  refine J_aload_0 C dL_pay_2 ?_
  refine J_iload_1 C dL_pay_3 ?_
  refine J_iload_2 C dL_pay_4 ?_
  refine J_XVI C (c_X3_pay hfl hI _ k9 q hcc hk9 hq9 hr9) (cwV 2 C.1.2.2.2.2 gL_pay_X3_pay rfl rfl rfl (by decide +kernel) ⟨Nat.le_of_ble_eq_true rfl, Nat.le_of_ble_eq_true rfl⟩) rc3 (by decide) rfl rfl (Nat.le_of_ble_eq_true rfl) dL_pay_5 ⟨Nat.le_of_ble_eq_true rfl, Nat.le_of_ble_eq_true rfl⟩ (fun E σ_5 hx => ?_) (fun z_5 σ_5 hp => ?_)
  · skip
    obtain ⟨hs_, hx⟩ := hx
    have hs_ := hs_.symm
    subst hs_
    rcases hx with ⟨rfl, hx⟩ | ⟨rfl, hx⟩
    · refine J_catchN C hT [] 0 10 13 32 [(0, 10, 17, 15)] rfl (by decide) (fun _ h => absurd h List.not_mem_nil) rfl (by decide) w_L_pay_h32 (fun q_ => ?_)
      refine J_astore4 C (by decide) rfl dL_pay_13 ?_
      refine J_iconst C dL_pay_15 ?_
      refine J_retI C hr (by decide) (by decide) dL_pay_16 ?_
      exact Or.inr (Or.inl ⟨rfl, rfl, hx⟩)
    · refine J_catchN C hT [(0, 10, 13, 32)] 0 10 17 15 [] rfl (by decide) (List.forall_mem_cons.mpr ⟨⟨by decide, nIOE, by decide, w_L_pay_h32, by decide⟩, (fun _ h => absurd h List.not_mem_nil)⟩) rfl (by decide) w_L_pay_h15 (fun q_ => ?_)
      refine J_astore4 C (by decide) rfl dL_pay_17 ?_
      refine J_iconst C dL_pay_19 ?_
      refine J_retI C hr (by decide) (by decide) dL_pay_20 ?_
      exact Or.inr (Or.inr (⟨rfl, rfl, hx⟩))
  skip
  refine J_i2lw C dL_pay_8 ?_
  refine J_lastore C k42 (by decide) (by omega) dL_pay_9 ?_
  refine J_goto (tgt := 21) C dL_pay_10 (by decide) ?_
  refine J_iconst C dL_pay_21 ?_
  refine J_retI C hr (by decide) (by decide) dL_pay_22 ?_
  exact Or.inl ⟨rfl, _, _, hp, rfl⟩
set_option maxRecDepth 20000 in
theorem w_L_shareOut_h32 : Cond.classLink RL 32 nIOE ∈ wsL_shareOut := by decide +kernel
set_option maxRecDepth 20000 in
theorem w_L_shareOut_h15 : Cond.classLink RL 15 nISE ∈ wsL_shareOut := by decide +kernel
set_option maxHeartbeats 4000000 in
set_option maxRecDepth 100000 in
theorem c_L_shareOut {l : Launch} (hfl : l.stackTraces = false) {cy : Nat → ClassId} {D : va_G} {ad : Ad} (hI : Inj ad) (σ : Sg) (k9 : Int) (hcc : 0 ≤ σ 0 0 9 ∧ σ 0 0 9 ≤ 20) (hk9 : I32 k9) (hr9 : ∀ k q, 0 ≤ k → k < 20 → 0 ≤ q → q < 5 → 0 ≤ σ 21 k q ∧ σ 21 k q ≤ σ 20 k q ∧ σ 20 k q ≤ 10000000) : KI l yL_shareOut wsL_shareOut ({ frames := 8, cells := 6, slots := 36, locals := 126 } : Room) cy D ad σ [.ref (ad 0 0), .int (iI k9), .ref (ad 42 0)] (fun k σ' => (k = 0 ∧ ∃ (z : Int) (τ9 : Sg), (z = s5 (fun q => if σ 21 k9 q = 0 then σ 20 k9 q else 0) ∧ ((∀ (a : Nat) (b c : Int), a < 8 ∨ 11 < a → (a ≠ 6 ∨ b ≠ 0 ∨ c < 0 ∨ 5 ≤ c) → (a ≠ 20 ∨ b ≠ k9 ∨ c < 0 ∨ 5 ≤ c) → τ9 a b c = σ a b c) ∧ (∀ q, 0 ≤ q → q < 5 → τ9 20 k9 q = if 0 < σ 21 k9 q then σ 20 k9 q + dv (s5 (fun q => if σ 21 k9 q = 0 then σ 20 k9 q else 0)) (pw σ k9) q else 0) ∧ ∀ q, 0 ≤ q → q < 5 → τ9 6 0 q = σ 6 0 q + if 0 < σ 21 k9 q then 0 else σ 20 k9 q) ∧ (0 ≤ k9 ∧ k9 < σ 0 0 9) ∧ (∃ q, 0 ≤ q ∧ q < 5 ∧ 0 < σ 21 k9 q) ∧ ¬ s5 (fun q => if σ 21 k9 q = 0 then σ 20 k9 q else 0) = 0) ∧ σ' = su τ9 42 0 0 (w32 z)) ∨ (k = 1 ∧ σ' = σ ∧ ¬ (0 ≤ k9 ∧ k9 < σ 0 0 9)) ∨ (k = 2 ∧ σ' = σ ∧ (0 ≤ k9 ∧ k9 < σ 0 0 9) ∧ ¬ ((∃ q, 0 ≤ q ∧ q < 5 ∧ 0 < σ 21 k9 q) ∧ ¬ s5 (fun q => if σ 21 k9 q = 0 then σ 20 k9 q else 0) = 0))) 6 36 := by
  refine WI.of (lv0 := [some (.ref (ad 0 0)), some (.int (iI k9)), some (.ref (ad 42 0)), none]) hfl hI (by decide) rfl (Nat.le_of_ble_eq_true rfl) rfl ?_
  intro p e s m args below meth c C hr hT
  refine J_aload_2 C dL_shareOut_0 ?_
  refine J_iconst C dL_shareOut_1 ?_
  refine J_aload_0 C dL_shareOut_2 ?_
  refine J_iload_1 C dL_shareOut_3 ?_
  refine J_XVI C (c_X3_shareOut hfl hI _ k9 hcc hk9 hr9) (cwV 1 C.1.2.2.2.2 gL_shareOut_X3_shareOut rfl rfl rfl (by decide +kernel) ⟨Nat.le_of_ble_eq_true rfl, Nat.le_of_ble_eq_true rfl⟩) rc3 (by decide) rfl rfl (Nat.le_of_ble_eq_true rfl) dL_shareOut_4 ⟨Nat.le_of_ble_eq_true rfl, Nat.le_of_ble_eq_true rfl⟩ (fun E σ_4 hx => ?_) (fun z_4 σ_4 hp => ?_)
  · skip
    obtain ⟨hs_, hx⟩ := hx
    have hs_ := hs_.symm
    subst hs_
    rcases hx with ⟨rfl, hx⟩ | ⟨rfl, hx⟩
    · refine J_catchN C hT [] 0 9 12 32 [(0, 9, 15, 15)] rfl (by decide) (fun _ h => absurd h List.not_mem_nil) rfl (by decide) w_L_shareOut_h32 (fun q_ => ?_)
      refine J_astore_3 C (by decide) rfl dL_shareOut_12 ?_
      refine J_iconst C dL_shareOut_13 ?_
      refine J_retI C hr (by decide) (by decide) dL_shareOut_14 ?_
      exact Or.inr (Or.inl ⟨rfl, rfl, hx⟩)
    · refine J_catchN C hT [(0, 9, 12, 32)] 0 9 15 15 [] rfl (by decide) (List.forall_mem_cons.mpr ⟨⟨by decide, nIOE, by decide, w_L_shareOut_h32, by decide⟩, (fun _ h => absurd h List.not_mem_nil)⟩) rfl (by decide) w_L_shareOut_h15 (fun q_ => ?_)
      refine J_astore_3 C (by decide) rfl dL_shareOut_15 ?_
      refine J_iconst C dL_shareOut_16 ?_
      refine J_retI C hr (by decide) (by decide) dL_shareOut_17 ?_
      exact Or.inr (Or.inr (⟨rfl, rfl, hx⟩))
  skip
  refine J_i2lw C dL_shareOut_7 ?_
  refine J_lastore C k42 (by decide) (by omega) dL_shareOut_8 ?_
  refine J_goto (tgt := 18) C dL_shareOut_9 (by decide) ?_
  refine J_iconst C dL_shareOut_18 ?_
  refine J_retI C hr (by decide) (by decide) dL_shareOut_19 ?_
  exact Or.inl ⟨rfl, _, _, hp, rfl⟩
set_option maxRecDepth 20000 in
theorem w_L_asked_h32 : Cond.classLink RL 32 nIOE ∈ wsL_asked := by decide +kernel
set_option maxHeartbeats 4000000 in
set_option maxRecDepth 100000 in
theorem c_L_asked {l : Launch} (hfl : l.stackTraces = false) {cy : Nat → ClassId} {D : va_G} {ad : Ad} (hI : Inj ad) (σ : Sg) (k9 q : Int) (hcc : 0 ≤ σ 0 0 9 ∧ σ 0 0 9 ≤ 20) (hk9 : I32 k9) (hq9 : I32 q) : KI l yL_asked wsL_asked ({ frames := 8, cells := 6, slots := 36, locals := 125 } : Room) cy D ad σ [.ref (ad 0 0), .int (iI k9), .int (iI q), .ref (ad 42 0)] (fun k σ' => (k = 0 ∧ ∃ (z : Int) (τ9 : Sg), (z = σ 20 k9 q ∧ τ9 = σ ∧ (0 ≤ k9 ∧ k9 < σ 0 0 9) ∧ (0 ≤ q ∧ q < 5)) ∧ σ' = su τ9 42 0 0 (w32 z)) ∨ (k = 1 ∧ σ' = σ ∧ ¬ ((0 ≤ k9 ∧ k9 < σ 0 0 9) ∧ (0 ≤ q ∧ q < 5)))) 6 36 := by
  refine WI.of (lv0 := [some (.ref (ad 0 0)), some (.int (iI k9)), some (.int (iI q)), some (.ref (ad 42 0)), none]) hfl hI (by decide) rfl (Nat.le_of_ble_eq_true rfl) rfl ?_
  intro p e s m args below meth c C hr hT
  refine J_aload_3 C dL_asked_0 ?_
  refine J_iconst C dL_asked_1 ?_
  refine J_aload_0 C dL_asked_2 ?_
  refine J_iload_1 C dL_asked_3 ?_
  refine J_iload_2 C dL_asked_4 ?_
  refine J_XVI C (c_X3_asked hfl hI _ k9 q hcc hk9 hq9) (cwV 2 C.1.2.2.2.2 gL_asked_X3_asked rfl rfl rfl (by decide +kernel) ⟨Nat.le_of_ble_eq_true rfl, Nat.le_of_ble_eq_true rfl⟩) rc3 (by decide) rfl rfl (Nat.le_of_ble_eq_true rfl) dL_asked_5 ⟨Nat.le_of_ble_eq_true rfl, Nat.le_of_ble_eq_true rfl⟩ (fun E σ_5 hx => ?_) (fun z_5 σ_5 hp => ?_)
  · skip
    obtain ⟨hs_, hx⟩ := hx
    have hs_ := hs_.symm
    subst hs_
    obtain ⟨rfl, hx⟩ := hx
    · refine J_catchN C hT [] 0 10 13 32 [] rfl (by decide) (fun _ h => absurd h List.not_mem_nil) rfl (by decide) w_L_asked_h32 (fun q_ => ?_)
      refine J_astore4 C (by decide) rfl dL_asked_13 ?_
      refine J_iconst C dL_asked_15 ?_
      refine J_retI C hr (by decide) (by decide) dL_asked_16 ?_
      exact Or.inr (⟨rfl, rfl, hx⟩)
  skip
  refine J_i2lw C dL_asked_8 ?_
  refine J_lastore C k42 (by decide) (by omega) dL_asked_9 ?_
  refine J_goto (tgt := 17) C dL_asked_10 (by decide) ?_
  refine J_iconst C dL_asked_17 ?_
  refine J_retI C hr (by decide) (by decide) dL_asked_18 ?_
  exact Or.inl ⟨rfl, _, _, hp, rfl⟩
set_option maxRecDepth 20000 in
theorem w_L_paid_h32 : Cond.classLink RL 32 nIOE ∈ wsL_paid := by decide +kernel
set_option maxHeartbeats 4000000 in
set_option maxRecDepth 100000 in
theorem c_L_paid {l : Launch} (hfl : l.stackTraces = false) {cy : Nat → ClassId} {D : va_G} {ad : Ad} (hI : Inj ad) (σ : Sg) (q : Int) (hcc : 0 ≤ σ 0 0 9 ∧ σ 0 0 9 ≤ 20) (hq9 : I32 q) : KI l yL_paid wsL_paid ({ frames := 8, cells := 6, slots := 36, locals := 124 } : Room) cy D ad σ [.ref (ad 0 0), .int (iI q), .ref (ad 42 0)] (fun k σ' => (k = 0 ∧ ∃ (z : Int) (τ9 : Sg), (z = sN (fun k => σ 21 k q) (σ 0 0 9).toNat ∧ τ9 = σ ∧ (0 ≤ q ∧ q < 5)) ∧ σ' = su τ9 42 0 0 (w32 z)) ∨ (k = 1 ∧ σ' = σ ∧ ¬ (0 ≤ q ∧ q < 5))) 6 36 := by
  refine WI.of (lv0 := [some (.ref (ad 0 0)), some (.int (iI q)), some (.ref (ad 42 0)), none]) hfl hI (by decide) rfl (Nat.le_of_ble_eq_true rfl) rfl ?_
  intro p e s m args below meth c C hr hT
  refine J_aload_2 C dL_paid_0 ?_
  refine J_iconst C dL_paid_1 ?_
  refine J_aload_0 C dL_paid_2 ?_
  refine J_iload_1 C dL_paid_3 ?_
  refine J_XVI C (c_X3_paid hfl hI _ q hcc hq9) (cwV 1 C.1.2.2.2.2 gL_paid_X3_paid rfl rfl rfl (by decide +kernel) ⟨Nat.le_of_ble_eq_true rfl, Nat.le_of_ble_eq_true rfl⟩) rc3 (by decide) rfl rfl (Nat.le_of_ble_eq_true rfl) dL_paid_4 ⟨Nat.le_of_ble_eq_true rfl, Nat.le_of_ble_eq_true rfl⟩ (fun E σ_4 hx => ?_) (fun z_4 σ_4 hp => ?_)
  · skip
    obtain ⟨hs_, hx⟩ := hx
    have hs_ := hs_.symm
    subst hs_
    obtain ⟨rfl, hx⟩ := hx
    · refine J_catchN C hT [] 0 9 12 32 [] rfl (by decide) (fun _ h => absurd h List.not_mem_nil) rfl (by decide) w_L_paid_h32 (fun q_ => ?_)
      refine J_astore_3 C (by decide) rfl dL_paid_12 ?_
      refine J_iconst C dL_paid_13 ?_
      refine J_retI C hr (by decide) (by decide) dL_paid_14 ?_
      exact Or.inr (⟨rfl, rfl, hx⟩)
  skip
  refine J_i2lw C dL_paid_7 ?_
  refine J_lastore C k42 (by decide) (by omega) dL_paid_8 ?_
  refine J_goto (tgt := 15) C dL_paid_9 (by decide) ?_
  refine J_iconst C dL_paid_15 ?_
  refine J_retI C hr (by decide) (by decide) dL_paid_16 ?_
  exact Or.inl ⟨rfl, _, _, hp, rfl⟩
set_option maxRecDepth 20000 in
theorem w_L_owes_h32 : Cond.classLink RL 32 nIOE ∈ wsL_owes := by decide +kernel
set_option maxHeartbeats 4000000 in
set_option maxRecDepth 100000 in
theorem c_L_owes {l : Launch} (hfl : l.stackTraces = false) {cy : Nat → ClassId} {D : va_G} {ad : Ad} (hI : Inj ad) (σ : Sg) (q : Int) (hq9 : I32 q) : KI l yL_owes wsL_owes ({ frames := 8, cells := 6, slots := 36, locals := 124 } : Room) cy D ad σ [.ref (ad 0 0), .int (iI q), .ref (ad 42 0)] (fun k σ' => (k = 0 ∧ ∃ (z : Int) (τ9 : Sg), (z = σ 6 0 q ∧ τ9 = σ ∧ (0 ≤ q ∧ q < 5)) ∧ σ' = su τ9 42 0 0 (w32 z)) ∨ (k = 1 ∧ σ' = σ ∧ ¬ (0 ≤ q ∧ q < 5))) 6 36 := by
  refine WI.of (lv0 := [some (.ref (ad 0 0)), some (.int (iI q)), some (.ref (ad 42 0)), none]) hfl hI (by decide) rfl (Nat.le_of_ble_eq_true rfl) rfl ?_
  intro p e s m args below meth c C hr hT
  refine J_aload_2 C dL_owes_0 ?_
  refine J_iconst C dL_owes_1 ?_
  refine J_aload_0 C dL_owes_2 ?_
  refine J_iload_1 C dL_owes_3 ?_
  refine J_XVI C (c_X3_owes hfl hI _ q hq9) (cwV 1 C.1.2.2.2.2 gL_owes_X3_owes rfl rfl rfl (by decide +kernel) ⟨Nat.le_of_ble_eq_true rfl, Nat.le_of_ble_eq_true rfl⟩) rc3 (by decide) rfl rfl (Nat.le_of_ble_eq_true rfl) dL_owes_4 ⟨Nat.le_of_ble_eq_true rfl, Nat.le_of_ble_eq_true rfl⟩ (fun E σ_4 hx => ?_) (fun z_4 σ_4 hp => ?_)
  · skip
    obtain ⟨hs_, hx⟩ := hx
    have hs_ := hs_.symm
    subst hs_
    obtain ⟨rfl, hx⟩ := hx
    · refine J_catchN C hT [] 0 9 12 32 [] rfl (by decide) (fun _ h => absurd h List.not_mem_nil) rfl (by decide) w_L_owes_h32 (fun q_ => ?_)
      refine J_astore_3 C (by decide) rfl dL_owes_12 ?_
      refine J_iconst C dL_owes_13 ?_
      refine J_retI C hr (by decide) (by decide) dL_owes_14 ?_
      exact Or.inr (⟨rfl, rfl, hx⟩)
  skip
  refine J_i2lw C dL_owes_7 ?_
  refine J_lastore C k42 (by decide) (by omega) dL_owes_8 ?_
  refine J_goto (tgt := 15) C dL_owes_9 (by decide) ?_
  refine J_iconst C dL_owes_15 ?_
  refine J_retI C hr (by decide) (by decide) dL_owes_16 ?_
  exact Or.inl ⟨rfl, _, _, hp, rfl⟩
set_option maxRecDepth 20000 in
theorem w_L_balance_h32 : Cond.classLink RL 32 nIOE ∈ wsL_balance := by decide +kernel
set_option maxHeartbeats 4000000 in
set_option maxRecDepth 100000 in
theorem c_L_balance {l : Launch} (hfl : l.stackTraces = false) {cy : Nat → ClassId} {D : va_G} {ad : Ad} (hI : Inj ad) (σ : Sg) (q : Int) (hwc : 0 ≤ σ 0 0 4 ∧ σ 0 0 4 ≤ 6) (hcc : 0 ≤ σ 0 0 9 ∧ σ 0 0 9 ≤ 20) (hq9 : I32 q) (hr9 : ∀ w q, 0 ≤ w → w < 6 → 0 ≤ q → q < 5 → I32 (σ 17 w q) ∧ I32 (σ 18 w q)) : KI l yL_balance wsL_balance ({ frames := 8, cells := 6, slots := 36, locals := 127 } : Room) cy D ad σ [.ref (ad 0 0), .int (iI q), .ref (ad 42 0)] (fun k σ' => (k = 0 ∧ ∃ (z : Int) (τ9 : Sg), (z = w32 (sN (fun k => σ 21 k q) (σ 0 0 9).toNat) - w32 (σ 6 0 q) + sN (fun w => σ 18 w q - σ 17 w q) (σ 0 0 4).toNat ∧ τ9 = σ ∧ (0 ≤ q ∧ q < 5)) ∧ σ' = su τ9 42 0 0 z) ∨ (k = 1 ∧ σ' = σ ∧ ¬ (0 ≤ q ∧ q < 5))) 6 36 := by
  refine WI.of (lv0 := [some (.ref (ad 0 0)), some (.int (iI q)), some (.ref (ad 42 0)), none]) hfl hI (by decide) rfl (Nat.le_of_ble_eq_true rfl) rfl ?_
  intro p e s m args below meth c C hr hT
  refine J_aload_2 C dL_balance_0 ?_
  refine J_iconst C dL_balance_1 ?_
  refine J_aload_0 C dL_balance_2 ?_
  refine J_iload_1 C dL_balance_3 ?_
  refine J_XVL C (c_X3_balance hfl hI _ q hwc hcc hq9 hr9) (cwV 1 C.1.2.2.2.2 gL_balance_X3_balance rfl rfl rfl (by decide +kernel) ⟨Nat.le_of_ble_eq_true rfl, Nat.le_of_ble_eq_true rfl⟩) rc3 (by decide) rfl rfl (Nat.le_of_ble_eq_true rfl) dL_balance_4 ⟨Nat.le_of_ble_eq_true rfl, Nat.le_of_ble_eq_true rfl⟩ (fun E σ_4 hx => ?_) (fun z_4 σ_4 hp => ?_)
  · skip
    obtain ⟨hs_, hx⟩ := hx
    have hs_ := hs_.symm
    subst hs_
    obtain ⟨rfl, hx⟩ := hx
    · refine J_catchN C hT [] 0 8 11 32 [] rfl (by decide) (fun _ h => absurd h List.not_mem_nil) rfl (by decide) w_L_balance_h32 (fun q_ => ?_)
      refine J_astore_3 C (by decide) rfl dL_balance_11 ?_
      refine J_iconst C dL_balance_12 ?_
      refine J_retI C hr (by decide) (by decide) dL_balance_13 ?_
      exact Or.inr (⟨rfl, rfl, hx⟩)
  skip
  refine J_lastore C k42 (by decide) (by omega) dL_balance_7 ?_
  refine J_goto (tgt := 14) C dL_balance_8 (by decide) ?_
  refine J_iconst C dL_balance_14 ?_
  refine J_retI C hr (by decide) (by decide) dL_balance_15 ?_
  exact Or.inl ⟨rfl, _, _, hp, rfl⟩
