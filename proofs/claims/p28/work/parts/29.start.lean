set_option maxRecDepth 20000 in
theorem t_law_ins0 : Cond.instantiable RX0 2 ∈ lw_tbl := by decide +kernel
set_option maxRecDepth 20000 in
theorem t_law_ins1 : Cond.instantiable RX1 1 ∈ lw_tbl := by decide +kernel
set_option maxRecDepth 20000 in
theorem t_law_ins2 : Cond.instantiable RX2 8 ∈ lw_tbl := by decide +kernel
set_option maxRecDepth 20000 in
theorem t_law_ins3 : Cond.instantiable RX3 15 ∈ lw_tbl := by decide +kernel
set_option maxRecDepth 20000 in
theorem t_law_aci : Cond.arrayClass .int ∈ lw_tbl := by decide +kernel
set_option maxRecDepth 20000 in
theorem t_law_acl : Cond.arrayClass .long ∈ lw_tbl := by decide +kernel
set_option maxRecDepth 20000 in
theorem t_law_acz : Cond.arrayClass .boolean ∈ lw_tbl := by decide +kernel
set_option maxRecDepth 20000 in
theorem t_law_aow : Cond.arrayOver (.object "JointVenture$Well") ∈ lw_tbl := by decide +kernel
set_option maxRecDepth 20000 in
theorem t_law_aoc : Cond.arrayOver (.object "JointVenture$CashCall") ∈ lw_tbl := by decide +kernel
set_option maxRecDepth 20000 in
theorem t_law_mn52 : Cond.methodLinkNest RX3 52 yX1_init RX3 ∈ lw_tbl := by decide +kernel
set_option maxRecDepth 20000 in
theorem t_law_mn67 : Cond.methodLinkNest RX3 67 yX0_init RX3 ∈ lw_tbl := by decide +kernel
set_option maxRecDepth 20000 in
theorem t_law_lu : Cond.laysStatic Bundle.tN "UNASSIGNED_STACK" Bundle.steD ∈ lw_tbl := by decide +kernel
set_option maxRecDepth 20000 in
theorem t_law_ls : Cond.laysStatic Bundle.tN "SUPPRESSED_SENTINEL" Bundle.listD ∈ lw_tbl := by decide +kernel
set_option maxRecDepth 20000 in
theorem t_law_it : Cond.initialized Bundle.tN ∈ lw_tbl := by decide +kernel
-- (the last printed row, which split.py's cut leaves out)
theorem dL_law_4 : decode cL_law 4 = .ok (.ireturn, 1) := by decide +kernel
set_option maxRecDepth 20000 in
theorem t_law_str : ∀ q ∈ strs, Cond.stringRef RX3 q.1 q.2 ∈ lw_tbl := by decide +kernel
set_option maxRecDepth 20000 in
theorem t_law_thw : ∀ w ∈ thw, w ∈ lw_tbl := by decide +kernel
theorem t_law_thwo : ∀ w ∈ thw, vx_ot w = true := by decide +kernel
set_option maxRecDepth 20000 in
theorem g_law_u : Cond.isRef (.static Bundle.tN "UNASSIGNED_STACK" Bundle.steD) ∈ flatC (Jvm.Cond.and given_1 narrow_1) := by decide +kernel
set_option maxRecDepth 20000 in
theorem g_law_s : Cond.isRef (.static Bundle.tN "SUPPRESSED_SENTINEL" Bundle.listD) ∈ flatC (Jvm.Cond.and given_1 narrow_1) := by decide +kernel
set_option maxRecDepth 20000 in
theorem g_law_nc : ∀ E ∈ [nIAE, nISE, nIOE], ∀ T ∈ [nIAE, nISE, nIOE], E ≠ T → Cond.not (.castable E T) ∈ flatC (Jvm.Cond.and given_1 narrow_1) := by decide +kernel
theorem arr_K {args : Array Value} {s : State} {ty : FieldType} (h : (Cond.arrayClass ty).before args s = true) : ∃ cA : ClassId, ArrOfT s cA ty ∧ s.vm.findClass ("[" ++ ty.toString) = some cA := by
  obtain ⟨c, k, comp, h1, h2, h3⟩ := Cond.arrayClass_spec h
  exact ⟨c, fun n z => ⟨fun k h => (by cases h), k, h2, comp, h3⟩, h1⟩
theorem arr_O {args : Array Value} {s : State} {n : String} (h : (Cond.arrayOver (.object n)).before args s = true) : ∃ cA : ClassId, ArrOfT s cA (.object n) ∧ va_RA s cA (.object n) := by
  obtain ⟨comp, c, k, h1, h2, h3, h4, h5⟩ := Cond.arrayOver_spec h
  exact ⟨c, fun n z => ⟨fun k h => (by cases h), k, h3, comp, h4⟩, k, comp, h3, h4, h1, h5⟩
set_option maxHeartbeats 4000000 in
set_option maxRecDepth 100000 in
/-- YOUR PART: from the entry, for every script of at most 260 ints, the law comes to its end with true -/
theorem whole_start {p : Program} {e : Env} {s : State} {m : MethodId} {below : List Frame} {meth : Method} {c : Code} (l : Launch) (hflags : l.flags = flags0) {b L : Nat} {xs : Nat → Int32} (hL : L ≤ 260) (C0 : lw_At p s m meth c b L xs) : W p l e room_1 s m #[Value.ref b] below meth c s.heap [] 0 0 (lw_Z below #[Value.ref b] s) (entryFrame m ([Value.ref b] : List Value).toArray 1) := by
  obtain ⟨hx, hb, hr, hml, hown, hts, hX, hbl, hlocks, hgv⟩ := id C0
  have hfl : l.stackTraces = false := by
    unfold Launch.stackTraces
    rw [hflags]
    decide +kernel
  have hf := flat_of_before _ hgv
  obtain ⟨c0, i0, K0⟩ := u_known (C := RX0) (T := TX0) (N := 2) (n := 2) hts (fun w h => (wsX00_inq w h).1) (hts _ t_law_ins0)
  obtain ⟨c1, i1, K1⟩ := u_known (C := RX1) (T := TX1) (N := 1) (n := 1) hts (fun w h => (wsX10_inq w h).1) (hts _ t_law_ins1)
  obtain ⟨c2, i2, K2⟩ := u_known (C := RX2) (T := TX2) (N := 8) (n := 8) hts (fun w h => (wsX20_inq w h).1) (hts _ t_law_ins2)
  obtain ⟨c3, i3, K3⟩ := u_known (C := RX3) (T := TX3) (N := 15) (n := 15) hts (fun w h => (wsX30_inq w h).1) (hts _ t_law_ins3)
  obtain ⟨y0, A0, B0⟩ := arr_K (hts _ t_law_aci)
  obtain ⟨y1, A1, B1⟩ := arr_K (hts _ t_law_acl)
  obtain ⟨y2, A2, B2⟩ := arr_K (hts _ t_law_acz)
  obtain ⟨y3, A3, B3⟩ := arr_O (hts _ t_law_aow)
  obtain ⟨y4, A4, B4⟩ := arr_O (hts _ t_law_aoc)
  obtain ⟨cy, D, hK⟩ : ∃ (cy : Nat → ClassId) (D : va_G), va_K D vwCl (tysO cy) s := by
    refine ⟨fun k => match k with | 0 => y0 | 1 => y1 | 2 => y2 | 3 => y3 | _ => y4, (fun k => match k with | 0 => c0 | 1 => c1 | 2 => c2 | _ => c3, fun k => match k with | 0 => i0 | 1 => i1 | 2 => i2 | _ => i3), ?_, ?_⟩
    · intro k q hq
      match k, hq with
      | 0, hq => cases hq; exact K0
      | 1, hq => cases hq; exact K1
      | 2, hq => cases hq; exact K2
      | 3, hq => cases hq; exact K3
      | k + 4, hq => simp [vwCl] at hq
    · intro k q hq
      match k, hq with
      | 0, hq => cases hq; exact ⟨A0, B0⟩
      | 1, hq => cases hq; exact ⟨A1, B1⟩
      | 2, hq => cases hq; exact ⟨A2, B2⟩
      | 3, hq => cases hq; exact ⟨A3, B3⟩
      | 4, hq => cases hq; exact ⟨A4, B4⟩
      | k + 5, hq => simp [tysO] at hq
  have hO : AO s := ⟨va_AO.of (hts _ t_law_aow), va_AO.of (hts _ t_law_aoc), va_Nw.of rfl (hts _ t_law_mn52), va_Nw.of rfl (hts _ t_law_mn67)⟩
  have hSx : ∀ ad : Ad, (∀ q, Aw ad q → s.heap.size ≤ q) → Sx cy D ad s s.heap := by
    intro ad haw
    refine ⟨hK, vx_Zqof (hts _ t_law_lu) (hts _ t_law_it) (hf _ g_law_u) (fun a h z => absurd (haw a z) (Nat.not_le.mpr h)), vx_Zqof (hts _ t_law_ls) (hts _ t_law_it) (hf _ g_law_s) (fun a h z => absurd (haw a z) (Nat.not_le.mpr h)), fun q hq => ?_, fun w hw => ?_, fun E hE T hT hne => va_Nc.of (hf _ (g_law_nc E hE T hT hne))⟩
    · have hw := hts _ (t_law_str q hq)
      obtain ⟨k, cf, i, a, h1, h2, h3, h4, h5, h6⟩ := Cond.stringRef_spec K3.2.1 hw
      exact ⟨a, vk_R.of hw h6⟩
    · exact vx_ot_at (State.WarmedH.refl s) rfl (t_law_thwo w hw) (hts _ (t_law_thw w hw))
  have C : CallFix p m c code 1 s #[Value.ref b] wsL_law RL := ⟨hx, hb, hml, hown, fun w h => hts w (wsL_law_in w h)⟩
  have hl := lv_entry ([.ref b] : List Value) (n := 1) (Nat.le_of_ble_eq_true rfl)
  rw [lg_entry_eq]
  generalize (lg_sl ([.ref b] : List Value) ++ List.replicate (1 - (lg_sl ([.ref b] : List Value)).length) Slot.unset).toArray = ls at hl ⊢
  refine lv_aload_n C.1 C.2.1 dL_law_0 rfl (hl.2.2 (0, .ref b) List.mem_cons_self) ?_
  refine va_calli (vx_runSW (As := [.ref b]) (rest := []) C (c_L_isHeld hfl hL s.heap.size) (vx_cwSW 1 C.2.2.2.2 gL_law_L_isHeld rfl rfl rfl (by decide +kernel) ⟨Nat.le_of_ble_eq_true rfl, Nat.le_of_ble_eq_true rfl⟩) ⟨H_forb, fun U hU hW => ⟨rfl, by rw [hU], by rw [hU]; exact hX.moved hW.alike, hbl, va_K.moved hW.alike hK, AO.warm hW hO, fun ad h => by rw [hU]; exact (hSx ad h).warm hW⟩⟩ rfl rfl hl.1 rfl (lv_room (Nat.le_of_ble_eq_true rfl)) dL_law_1 ⟨Nat.le_of_ble_eq_true rfl, Nat.le_of_ble_eq_true rfl⟩) (va_S.rf (A := fun q => s.heap.size ≤ q)) (fun q _ h => h) (fun q h => h) ?_
  rintro r u t H1 locs1 ht hvm hp hB hz1 hk1 hS
  have hp : r = iI 1 := hp
  subst hp
  refine va_forget (fun q hq => hS.2.2 q hq) ?_
  refine W.widen (k := 600086) (n := 7301442) (Nat.le_of_ble_eq_true rfl) (Nat.le_of_ble_eq_true rfl) ?_
  rw [show iI 1 = (1 : Int32) from by decide]
  exact lw_ret hx hb hr hlocks dL_law_4
