theorem J_catchN {p : Program} {l : Launch} {e : Env} {R : Room} {s : State} {m : MethodId} {args : Array Value} {below : List Frame} {meth : Method} {c : Code} {cy : Nat → ClassId} {D : va_G} {ad : Ad} {A : Nat → Prop} {nL : Nat} {cells slots : Nat} {Q : State → Prop} {σ : Sg} {pc : Nat} {lv : List (Option Value)} {st : List Value} {cc : ByteArray} {own : String} {Ts : List Cond} (C : Cx p l e R s m args below meth c cy D ad A nL cc own Ts) {E : String} {hh : List (Nat × Nat × Nat × Nat)} (hT : c.exceptionTable.toList = tableOf hh) (pre : List (Nat × Nat × Nat × Nat)) (a b tgt ix : Nat) (suf : List (Nat × Nat × Nat × Nat)) (hsplit : hh = pre ++ (a, b, tgt, ix) :: suf) (hE : E ∈ [nIAE, nISE, nIOE]) (hpass : ∀ z ∈ pre, z.2.2.2 ≠ 0 ∧ ∃ nm : String, nm ∈ [nIAE, nISE, nIOE] ∧ Cond.classLink own z.2.2.2 nm ∈ Ts ∧ E ≠ nm) (hx : (decide (a ≤ pc) && decide (pc < b)) = true) (h0 : ix ≠ 0) (hl : Cond.classLink own ix E ∈ Ts) (kk : ∀ q : Nat, JW p l e R s m args below meth c cy D ad A nL cells slots Q σ tgt lv [.ref q]) : JX p l e R s m args below meth c cy D ad A nL cells slots Q σ pc lv st E := by
  subst hsplit
  refine J_catch C (tableOf pre) ⟨a, b, tgt, ix⟩ (tableOf suf) (by rw [hT]; unfold tableOf; rw [List.map_append, List.map_cons]) hE (fun z hz => ?_) hx h0 hl kk
  unfold tableOf at hz
  rw [List.mem_map] at hz
  obtain ⟨y, hy, rfl⟩ := hz
  exact hpass y hy
set_option maxRecDepth 20000 in
theorem w_L_elected_h83 : Cond.classLink RL 83 nISE ∈ wsL_elected := by decide +kernel
set_option maxHeartbeats 4000000 in
set_option maxRecDepth 100000 in
theorem c_L_elected {l : Launch} (hfl : l.stackTraces = false) {cy : Nat → ClassId} {D : va_G} {ad : Ad} (hI : Inj ad) (σ : Sg) (w q b9 : Int) (hwc : 0 ≤ σ 0 0 4 ∧ σ 0 0 4 ≤ 6) (hw9 : I32 w) (hq9 : I32 q) (hb9 : b9 = 0 ∨ b9 = 1) (hf : ∀ w q, 0 ≤ w → w < 6 → 0 ≤ q → q < 5 → σ 14 w q = 0 ∨ σ 14 w q = 1) (hf3 : ∀ w q, 0 ≤ w → w < 6 → 0 ≤ q → q < 5 → σ 13 w q = 0 ∨ σ 13 w q = 1) (hs : ∀ q, 0 ≤ q → q < 5 → 0 ≤ σ 1 0 q ∧ σ 1 0 q ≤ 10000) (hhd : ∀ w, 0 ≤ w → w < 6 → σ 12 w 1 = 0 ∨ σ 12 w 1 = 1) (h9 : (0 ≤ w ∧ w < σ 0 0 4) ∧ (0 ≤ q ∧ q < 5)) : KI l yL_elected wsL_elected ({ frames := 8, cells := 6, slots := 36, locals := 128 } : Room) cy D ad σ [.ref (ad 0 0), .int (iI w), .int (iI q), .int (iI b9)] (fun z σ' => (z = (if σ 13 w q = 0 then 1 else 0) ∧ σ' = su (su σ 13 w q (1 - b9)) 14 w q (1 - b9) ∧ ((0 ≤ w ∧ w < σ 0 0 4) ∧ (0 ≤ q ∧ q < 5)) ∧ σ 12 w 1 = 0 ∧ ¬ σ 1 0 q = 0 ∧ (b9 = 0 → ∃ q', 0 ≤ q' ∧ q' < 5 ∧ q' ≠ q ∧ σ 14 w q' = 0 ∧ 0 < σ 1 0 q')) ∨ (z = -2 ∧ σ' = σ ∧ (((0 ≤ w ∧ w < σ 0 0 4) ∧ (0 ≤ q ∧ q < 5)) ∧ ¬ (σ 12 w 1 = 0 ∧ ¬ σ 1 0 q = 0 ∧ (b9 = 0 → ∃ q', 0 ≤ q' ∧ q' < 5 ∧ q' ≠ q ∧ σ 14 w q' = 0 ∧ 0 < σ 1 0 q'))))) 6 36 := by
  refine WI.of (lv0 := [some (.ref (ad 0 0)), some (.int (iI w)), some (.int (iI q)), some (.int (iI b9)), none]) hfl hI (by decide) rfl (Nat.le_of_ble_eq_true rfl) rfl ?_
  intro p e s m args below meth c C hr hT
  refine J_aload_0 C dL_elected_0 ?_
  refine J_iload_1 C dL_elected_1 ?_
  refine J_iload_2 C dL_elected_2 ?_
  refine J_iload_3 C dL_elected_3 ?_
  refine J_XVI C (c_X3_elect hfl hI _ w q b9 hwc hw9 hq9 hb9 hf hf3 hs hhd) (cwV 3 C.1.2.2.2.2 gL_elected_X3_elect rfl rfl rfl (by decide +kernel) ⟨Nat.le_of_ble_eq_true rfl, Nat.le_of_ble_eq_true rfl⟩) rc3 (by decide) rfl rfl (Nat.le_of_ble_eq_true rfl) dL_elected_4 ⟨Nat.le_of_ble_eq_true rfl, Nat.le_of_ble_eq_true rfl⟩ (fun E σ_4 hx => ?_) (fun z_4 σ_4 hp => ?_)
  · skip
    obtain ⟨hs_, hx⟩ := hx
    have hs_ := hs_.symm
    subst hs_
    rcases hx with ⟨rfl, hx⟩ | ⟨rfl, hx⟩
    · exact absurd h9 (fun z => by clear hI; first | exact hx z | exact hx z.1 | exact hx.2 z.2)
    · refine J_catchN C hT [] 0 15 16 83 [] rfl (by decide) (fun _ h => absurd h List.not_mem_nil) rfl (by decide) w_L_elected_h83 (fun q_ => ?_)
      refine J_astore4 C (by decide) rfl dL_elected_16 ?_
      refine J_bipush C (by decide) dL_elected_18 ?_
      refine J_retI C hr (by decide) (by decide) dL_elected_20 ?_
      exact Or.inr ⟨rfl, rfl, hx⟩
  skip
  refine J_if_eq (tgt := 14) C (by have := hp.1; split at this <;> omega) dL_elected_7 (by decide) (fun c_7 => ?_) (fun c_7 => ?_)
  · refine J_iconst C dL_elected_14 ?_
    refine J_retI C hr (by decide) (by decide) dL_elected_15 ?_
    first
      | (have e9 : z_4 = 0 := by assumption
         rw [e9] at hp
         exact Or.inl hp)
      | (have e9 : z_4 = 1 := by
           have := hp.1
           split at this <;> omega
         rw [e9] at hp
         exact Or.inl hp)
  · refine J_iconst C dL_elected_10 ?_
    refine J_goto (tgt := 15) C dL_elected_11 (by decide) ?_
    refine J_retI C hr (by decide) (by decide) dL_elected_15 ?_
    first
      | (have e9 : z_4 = 0 := by assumption
         rw [e9] at hp
         exact Or.inl hp)
      | (have e9 : z_4 = 1 := by
           have := hp.1
           split at this <;> omega
         rw [e9] at hp
         exact Or.inl hp)
set_option maxRecDepth 20000 in
theorem w_L_entered_h83 : Cond.classLink RL 83 nISE ∈ wsL_entered := by decide +kernel
set_option maxHeartbeats 4000000 in
set_option maxRecDepth 100000 in
theorem c_L_entered {l : Launch} (hfl : l.stackTraces = false) {cy : Nat → ClassId} {D : va_G} {ad : Ad} (hI : Inj ad) (σ : Sg) (w a9 : Int) (hwc : 0 ≤ σ 0 0 4 ∧ σ 0 0 4 ≤ 6) (hvc : 0 ≤ σ 0 0 7 ∧ σ 0 0 7 ≤ 60) (hw9 : I32 w) (ia : I32 a9) (hsh : Shk (shf σ)) (hall : ∀ w, 0 ≤ w → w < 6 → Tin (shf σ) (ac σ w) ∧ (0 ≤ σ 12 w 0 ∧ σ 12 w 0 ≤ 1000) ∧ ∀ q, 0 ≤ q → q < 5 → 0 ≤ σ 15 w q ∧ σ 15 w q < 4611686018427387904) (hoh : 0 ≤ σ 0 0 2 ∧ σ 0 0 2 ≤ 100000) (h9 : (0 ≤ w ∧ w < σ 0 0 4) ∧ (1 ≤ a9 ∧ a9 ≤ 24)) : KI l yL_entered wsL_entered ({ frames := 8, cells := 6, slots := 36, locals := 166 } : Room) cy D ad σ [.ref (ad 0 0), .int (iI w), .int (iI a9)] (fun z σ' => (z = σ 0 0 7 ∧ Fr (adV σ w (σ 0 0 2 * a9)) σ' w ∧ ac σ' w = stepS (shf σ) (σ 12 w 0) (σ 0 0 7) (σ 0 0 2 * a9) (ac σ w) ∧ ((0 ≤ w ∧ w < σ 0 0 4) ∧ (1 ≤ a9 ∧ a9 ≤ 24)) ∧ σ 0 0 7 < 60 ∧ ¬ σ 0 0 2 = 0) ∨ (z = -2 ∧ σ' = σ ∧ (((0 ≤ w ∧ w < σ 0 0 4) ∧ (1 ≤ a9 ∧ a9 ≤ 24)) ∧ ¬ (σ 0 0 7 < 60 ∧ ¬ σ 0 0 2 = 0)))) 6 36 := by
  refine WI.of (lv0 := [some (.ref (ad 0 0)), some (.int (iI w)), some (.int (iI a9)), none]) hfl hI (by decide) rfl (Nat.le_of_ble_eq_true rfl) rfl ?_
  intro p e s m args below meth c C hr hT
  refine J_aload_0 C dL_entered_0 ?_
  refine J_iload_1 C dL_entered_1 ?_
  refine J_iload_2 C dL_entered_2 ?_
  refine J_XVI C (c_X3_overhead hfl hI _ w a9 hwc hvc hw9 ia hsh hall hoh) (cwV 2 C.1.2.2.2.2 gL_entered_X3_overhead rfl rfl rfl (by decide +kernel) ⟨Nat.le_of_ble_eq_true rfl, Nat.le_of_ble_eq_true rfl⟩) rc3 (by decide) rfl rfl (Nat.le_of_ble_eq_true rfl) dL_entered_3 ⟨Nat.le_of_ble_eq_true rfl, Nat.le_of_ble_eq_true rfl⟩ (fun E σ_3 hx => ?_) (fun z_3 σ_3 hp => ?_)
  · skip
    obtain ⟨hs_, hx⟩ := hx
    have hs_ := hs_.symm
    subst hs_
    rcases hx with ⟨rfl, hx⟩ | ⟨rfl, hx⟩ | ⟨rfl, hx⟩
    · exact absurd h9 (fun z => by clear hI; first | exact hx z | exact hx z.1 | exact hx.2 z.2)
    · exact absurd h9 (fun z => by clear hI; first | exact hx z | exact hx z.1 | exact hx.2 z.2)
    · refine J_catchN C hT [] 0 6 7 83 [] rfl (by decide) (fun _ h => absurd h List.not_mem_nil) rfl (by decide) w_L_entered_h83 (fun q_ => ?_)
      refine J_astore_3 C (by decide) rfl dL_entered_7 ?_
      refine J_bipush C (by decide) dL_entered_8 ?_
      refine J_retI C hr (by decide) (by decide) dL_entered_10 ?_
      exact Or.inr ⟨rfl, rfl, hx⟩
  skip
  refine J_retI C hr (by decide) (by decide) dL_entered_6 ?_
  exact Or.inl hp
set_option maxRecDepth 20000 in
theorem w_L_moved_h83 : Cond.classLink RL 83 nISE ∈ wsL_moved := by decide +kernel
set_option maxHeartbeats 4000000 in
set_option maxRecDepth 100000 in
theorem c_L_moved {l : Launch} (hfl : l.stackTraces = false) {cy : Nat → ClassId} {D : va_G} {ad : Ad} (hI : Inj ad) (σ : Sg) (v w : Int) (hwc : 0 ≤ σ 0 0 4 ∧ σ 0 0 4 ≤ 6) (hvc : 0 ≤ σ 0 0 7 ∧ σ 0 0 7 ≤ 60) (hv9 : I32 v) (hw9 : I32 w) (hvs : ∀ v, 0 ≤ v → v < 60 → (0 ≤ σ 3 0 v ∧ σ 3 0 v < 6) ∧ -10000000 ≤ σ 4 0 v ∧ σ 4 0 v ≤ 10000000) (hsh : Shk (shf σ)) (hel : ∀ w, 0 ≤ w → w < 6 → (∀ q, 0 ≤ q → q < 5 → σ 13 w q = 0 ∨ σ 13 w q = 1) ∧ Tin (shf σ) (T0f (σ 13 w)) ∧ 0 ≤ σ 12 w 0 ∧ σ 12 w 0 ≤ 1000) (h9 : (0 ≤ v ∧ v < σ 0 0 7) ∧ (0 ≤ w ∧ w < σ 0 0 4)) : KI l yL_moved wsL_moved ({ frames := 8, cells := 6, slots := 36, locals := 166 } : Room) cy D ad σ [.ref (ad 0 0), .int (iI v), .int (iI w)] (fun z σ' => (z = σ 3 0 v ∧ (∀ (a : Nat) (b c : Int), (a < 8 ∨ 11 < a) → (a < 14 ∨ 18 < a ∨ (b ≠ w ∧ b ≠ σ 3 0 v) ∨ c < 0 ∨ 5 ≤ c) → σ' a b c = (su (su σ 3 0 v w) 12 w 1 1) a b c) ∧ ac σ' w = foldS (shf σ) (σ 12 w 0) ((su (su σ 3 0 v w) 12 w 1 1) 3 0) (σ 4 0) w (T0f (σ 13 w)) (σ 0 0 7).toNat ∧ ac σ' (σ 3 0 v) = foldS (shf σ) (σ 12 (σ 3 0 v) 0) ((su (su σ 3 0 v w) 12 w 1 1) 3 0) (σ 4 0) (σ 3 0 v) (T0f (σ 13 (σ 3 0 v))) (σ 0 0 7).toNat ∧ ((0 ≤ v ∧ v < σ 0 0 7) ∧ (0 ≤ w ∧ w < σ 0 0 4)) ∧ 0 ≤ σ 4 0 v) ∨ (z = -2 ∧ σ' = σ ∧ (((0 ≤ v ∧ v < σ 0 0 7) ∧ (0 ≤ w ∧ w < σ 0 0 4)) ∧ ¬ 0 ≤ σ 4 0 v))) 6 36 := by
  refine WI.of (lv0 := [some (.ref (ad 0 0)), some (.int (iI v)), some (.int (iI w)), none]) hfl hI (by decide) rfl (Nat.le_of_ble_eq_true rfl) rfl ?_
  intro p e s m args below meth c C hr hT
  refine J_aload_0 C dL_moved_0 ?_
  refine J_iload_1 C dL_moved_1 ?_
  refine J_iload_2 C dL_moved_2 ?_
  refine J_XVI C (c_X3_move hfl hI _ v w hwc hvc hv9 hw9 hvs hsh hel) (cwV 2 C.1.2.2.2.2 gL_moved_X3_move rfl rfl rfl (by decide +kernel) ⟨Nat.le_of_ble_eq_true rfl, Nat.le_of_ble_eq_true rfl⟩) rc3 (by decide) rfl rfl (Nat.le_of_ble_eq_true rfl) dL_moved_3 ⟨Nat.le_of_ble_eq_true rfl, Nat.le_of_ble_eq_true rfl⟩ (fun E σ_3 hx => ?_) (fun z_3 σ_3 hp => ?_)
  · skip
    obtain ⟨hs_, hx⟩ := hx
    have hs_ := hs_.symm
    subst hs_
    rcases hx with ⟨rfl, hx⟩ | ⟨rfl, hx⟩
    · exact absurd h9 (fun z => by clear hI; first | exact hx z | exact hx z.1 | exact hx.2 z.2)
    · refine J_catchN C hT [] 0 6 7 83 [] rfl (by decide) (fun _ h => absurd h List.not_mem_nil) rfl (by decide) w_L_moved_h83 (fun q_ => ?_)
      refine J_astore_3 C (by decide) rfl dL_moved_7 ?_
      refine J_bipush C (by decide) dL_moved_8 ?_
      refine J_retI C hr (by decide) (by decide) dL_moved_10 ?_
      exact Or.inr ⟨rfl, rfl, hx⟩
  skip
  refine J_retI C hr (by decide) (by decide) dL_moved_6 ?_
  exact Or.inl hp
set_option maxRecDepth 20000 in
theorem w_L_paid_h83 : Cond.classLink RL 83 nISE ∈ wsL_paid := by decide +kernel
set_option maxHeartbeats 4000000 in
set_option maxRecDepth 100000 in
theorem c_L_paid {l : Launch} (hfl : l.stackTraces = false) {cy : Nat → ClassId} {D : va_G} {ad : Ad} (hI : Inj ad) (σ : Sg) (k9 q : Int) (hcc : 0 ≤ σ 0 0 9 ∧ σ 0 0 9 ≤ 20) (hk9 : I32 k9) (hq9 : I32 q) (hr9 : ∀ k q, 0 ≤ k → k < 20 → 0 ≤ q → q < 5 → I32 (σ 20 k q - σ 21 k q)) (h9 : (0 ≤ k9 ∧ k9 < σ 0 0 9) ∧ (0 ≤ q ∧ q < 5)) : KI l yL_paid wsL_paid ({ frames := 8, cells := 6, slots := 36, locals := 127 } : Room) cy D ad σ [.ref (ad 0 0), .int (iI k9), .int (iI q)] (fun z σ' => (z = σ 20 k9 q - σ 21 k9 q ∧ σ' = su σ 21 k9 q (σ 20 k9 q) ∧ ((0 ≤ k9 ∧ k9 < σ 0 0 9) ∧ (0 ≤ q ∧ q < 5)) ∧ ¬ σ 20 k9 q - σ 21 k9 q = 0) ∨ (z = -2 ∧ σ' = σ ∧ (((0 ≤ k9 ∧ k9 < σ 0 0 9) ∧ (0 ≤ q ∧ q < 5)) ∧ ¬ ¬ σ 20 k9 q - σ 21 k9 q = 0))) 6 36 := by
  refine WI.of (lv0 := [some (.ref (ad 0 0)), some (.int (iI k9)), some (.int (iI q)), none]) hfl hI (by decide) rfl (Nat.le_of_ble_eq_true rfl) rfl ?_
  intro p e s m args below meth c C hr hT
  refine J_aload_0 C dL_paid_0 ?_
  refine J_iload_1 C dL_paid_1 ?_
  refine J_iload_2 C dL_paid_2 ?_
  refine J_XVI C (c_X3_pay hfl hI _ k9 q hcc hk9 hq9 hr9) (cwV 2 C.1.2.2.2.2 gL_paid_X3_pay rfl rfl rfl (by decide +kernel) ⟨Nat.le_of_ble_eq_true rfl, Nat.le_of_ble_eq_true rfl⟩) rc3 (by decide) rfl rfl (Nat.le_of_ble_eq_true rfl) dL_paid_3 ⟨Nat.le_of_ble_eq_true rfl, Nat.le_of_ble_eq_true rfl⟩ (fun E σ_3 hx => ?_) (fun z_3 σ_3 hp => ?_)
  · skip
    obtain ⟨hs_, hx⟩ := hx
    have hs_ := hs_.symm
    subst hs_
    rcases hx with ⟨rfl, hx⟩ | ⟨rfl, hx⟩
    · exact absurd h9 (fun z => by clear hI; first | exact hx z | exact hx z.1 | exact hx.2 z.2)
    · refine J_catchN C hT [] 0 6 7 83 [] rfl (by decide) (fun _ h => absurd h List.not_mem_nil) rfl (by decide) w_L_paid_h83 (fun q_ => ?_)
      refine J_astore_3 C (by decide) rfl dL_paid_7 ?_
      refine J_bipush C (by decide) dL_paid_8 ?_
      refine J_retI C hr (by decide) (by decide) dL_paid_10 ?_
      exact Or.inr ⟨rfl, rfl, hx⟩
  skip
  refine J_retI C hr (by decide) (by decide) dL_paid_6 ?_
  exact Or.inl hp
set_option maxRecDepth 20000 in
theorem w_L_shared_h83 : Cond.classLink RL 83 nISE ∈ wsL_shared := by decide +kernel
set_option maxHeartbeats 4000000 in
set_option maxRecDepth 100000 in
theorem c_L_shared {l : Launch} (hfl : l.stackTraces = false) {cy : Nat → ClassId} {D : va_G} {ad : Ad} (hI : Inj ad) (σ : Sg) (k9 : Int) (hcc : 0 ≤ σ 0 0 9 ∧ σ 0 0 9 ≤ 20) (hk9 : I32 k9) (hr9 : ∀ k q, 0 ≤ k → k < 20 → 0 ≤ q → q < 5 → 0 ≤ σ 21 k q ∧ σ 21 k q ≤ σ 20 k q ∧ σ 20 k q ≤ 10000000) (h9 : 0 ≤ k9 ∧ k9 < σ 0 0 9) : KI l yL_shared wsL_shared ({ frames := 8, cells := 6, slots := 36, locals := 126 } : Room) cy D ad σ [.ref (ad 0 0), .int (iI k9)] (fun z σ' => (z = s5 (fun q => if σ 21 k9 q = 0 then σ 20 k9 q else 0) ∧ ((∀ (a : Nat) (b c : Int), a < 8 ∨ 11 < a → (a ≠ 6 ∨ b ≠ 0 ∨ c < 0 ∨ 5 ≤ c) → (a ≠ 20 ∨ b ≠ k9 ∨ c < 0 ∨ 5 ≤ c) → σ' a b c = σ a b c) ∧ (∀ q, 0 ≤ q → q < 5 → σ' 20 k9 q = if 0 < σ 21 k9 q then σ 20 k9 q + dv (s5 (fun q => if σ 21 k9 q = 0 then σ 20 k9 q else 0)) (pw σ k9) q else 0) ∧ ∀ q, 0 ≤ q → q < 5 → σ' 6 0 q = σ 6 0 q + if 0 < σ 21 k9 q then 0 else σ 20 k9 q) ∧ (0 ≤ k9 ∧ k9 < σ 0 0 9) ∧ (∃ q, 0 ≤ q ∧ q < 5 ∧ 0 < σ 21 k9 q) ∧ ¬ s5 (fun q => if σ 21 k9 q = 0 then σ 20 k9 q else 0) = 0) ∨ (z = -2 ∧ σ' = σ ∧ ((0 ≤ k9 ∧ k9 < σ 0 0 9) ∧ ¬ ((∃ q, 0 ≤ q ∧ q < 5 ∧ 0 < σ 21 k9 q) ∧ ¬ s5 (fun q => if σ 21 k9 q = 0 then σ 20 k9 q else 0) = 0)))) 6 36 := by
  refine WI.of (lv0 := [some (.ref (ad 0 0)), some (.int (iI k9)), none]) hfl hI (by decide) rfl (Nat.le_of_ble_eq_true rfl) rfl ?_
  intro p e s m args below meth c C hr hT
  refine J_aload_0 C dL_shared_0 ?_
  refine J_iload_1 C dL_shared_1 ?_
  refine J_XVI C (c_X3_shareOut hfl hI _ k9 hcc hk9 hr9) (cwV 1 C.1.2.2.2.2 gL_shared_X3_shareOut rfl rfl rfl (by decide +kernel) ⟨Nat.le_of_ble_eq_true rfl, Nat.le_of_ble_eq_true rfl⟩) rc3 (by decide) rfl rfl (Nat.le_of_ble_eq_true rfl) dL_shared_2 ⟨Nat.le_of_ble_eq_true rfl, Nat.le_of_ble_eq_true rfl⟩ (fun E σ_2 hx => ?_) (fun z_2 σ_2 hp => ?_)
  · skip
    obtain ⟨hs_, hx⟩ := hx
    have hs_ := hs_.symm
    subst hs_
    rcases hx with ⟨rfl, hx⟩ | ⟨rfl, hx⟩
    · exact absurd h9 (fun z => by clear hI; first | exact hx z | exact hx z.1 | exact hx.2 z.2)
    · refine J_catchN C hT [] 0 5 6 83 [] rfl (by decide) (fun _ h => absurd h List.not_mem_nil) rfl (by decide) w_L_shared_h83 (fun q_ => ?_)
      refine J_astore_2 C (by decide) rfl dL_shared_6 ?_
      refine J_bipush C (by decide) dL_shared_7 ?_
      refine J_retI C hr (by decide) (by decide) dL_shared_9 ?_
      exact Or.inr ⟨rfl, rfl, hx⟩
  skip
  refine J_retI C hr (by decide) (by decide) dL_shared_5 ?_
  exact Or.inl hp
