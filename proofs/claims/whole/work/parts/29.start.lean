set_option maxRecDepth 20000 in
theorem w_law_cl8 : Cond.classLink RL 8 RX3 ∈ wsL_law := by decide +kernel
set_option maxRecDepth 20000 in
theorem w_law_insX3 : Cond.instantiable RX3 15 ∈ wsL_law := by decide +kernel
set_option maxRecDepth 20000 in
theorem w_law_nX3 : Cond.initialized RX3 ∈ wsL_law := by decide +kernel
set_option maxRecDepth 20000 in
theorem w_law_ml95 : Cond.methodLink RL 95 yX3_init ∈ wsL_law := by decide +kernel
set_option maxRecDepth 20000 in
theorem w_law_imX3 : Cond.instanceMethod yX3_init ∈ wsL_law := by decide +kernel
set_option maxRecDepth 20000 in
theorem w_law_cl96 : Cond.classLink RL 96 RX4 ∈ wsL_law := by decide +kernel
set_option maxRecDepth 20000 in
theorem w_law_insX4 : Cond.instantiable RX4 25 ∈ wsL_law := by decide +kernel
set_option maxRecDepth 20000 in
theorem w_law_nX4 : Cond.initialized RX4 ∈ wsL_law := by decide +kernel
set_option maxRecDepth 20000 in
theorem w_law_ml98 : Cond.methodLink RL 98 yX4_init ∈ wsL_law := by decide +kernel
set_option maxRecDepth 20000 in
theorem w_law_imX4 : Cond.instanceMethod yX4_init ∈ wsL_law := by decide +kernel
set_option maxRecDepth 20000 in
theorem w_law_acl : Cond.arrayClass .long ∈ wsL_law := by decide +kernel
set_option maxRecDepth 20000 in
theorem in_law_X3 : ∀ w ∈ wsX30, w ∈ wsL_law := by decide +kernel
set_option maxRecDepth 20000 in
theorem in_law_X4 : ∀ w ∈ wsX40, w ∈ wsL_law := by decide +kernel
set_option maxRecDepth 20000 in
theorem t_law_ins0 : Cond.instantiable RX0 2 ∈ lw_tbl := by decide +kernel
set_option maxRecDepth 20000 in
theorem t_law_ins1 : Cond.instantiable RX1 1 ∈ lw_tbl := by decide +kernel
set_option maxRecDepth 20000 in
theorem t_law_ins2 : Cond.instantiable RX2 8 ∈ lw_tbl := by decide +kernel
set_option maxRecDepth 20000 in
theorem t_law_ins3 : Cond.instantiable RX3 15 ∈ lw_tbl := by decide +kernel
set_option maxRecDepth 20000 in
theorem t_law_ins4 : Cond.instantiable RX4 25 ∈ lw_tbl := by decide +kernel
set_option maxRecDepth 20000 in
theorem t_law_aci : Cond.arrayClass .int ∈ lw_tbl := by decide +kernel
set_option maxRecDepth 20000 in
theorem t_law_acl : Cond.arrayClass .long ∈ lw_tbl := by decide +kernel
set_option maxRecDepth 20000 in
theorem t_law_acz : Cond.arrayClass .boolean ∈ lw_tbl := by decide +kernel
set_option maxRecDepth 20000 in
theorem t_law_aow : Cond.arrayOver (.object "JointVenture$Well") ∈ lw_tbl := by decide +kernel
set_option maxRecDepth 20000 in
theorem t_law_aoc : Cond.arrayOver (.object "JointVenture$CashCall") ∈ lw_tbl := by decide +kernel
set_option maxRecDepth 20000 in
theorem t_law_mn52 : Cond.methodLinkNest RX3 52 yX1_init RX3 ∈ lw_tbl := by decide +kernel
set_option maxRecDepth 20000 in
theorem t_law_mn67 : Cond.methodLinkNest RX3 67 yX0_init RX3 ∈ lw_tbl := by decide +kernel
set_option maxRecDepth 20000 in
theorem t_law_lu : Cond.laysStatic Bundle.tN "UNASSIGNED_STACK" Bundle.steD ∈ lw_tbl := by decide +kernel
set_option maxRecDepth 20000 in
theorem t_law_ls : Cond.laysStatic Bundle.tN "SUPPRESSED_SENTINEL" Bundle.listD ∈ lw_tbl := by decide +kernel
set_option maxRecDepth 20000 in
theorem t_law_it : Cond.initialized Bundle.tN ∈ lw_tbl := by decide +kernel
set_option maxRecDepth 20000 in
theorem t_law_str : ∀ q ∈ strs, Cond.stringRef RX3 q.1 q.2 ∈ lw_tbl := by decide +kernel
set_option maxRecDepth 20000 in
theorem t_law_thw : ∀ w ∈ thw, w ∈ lw_tbl := by decide +kernel
theorem t_law_thwo : ∀ w ∈ thw, vx_ot w = true := by decide +kernel
set_option maxRecDepth 20000 in
theorem g_law_u : Cond.isRef (.static Bundle.tN "UNASSIGNED_STACK" Bundle.steD) ∈ flatC (Jvm.Cond.and given_1 narrow_1) := by decide +kernel
set_option maxRecDepth 20000 in
theorem g_law_s : Cond.isRef (.static Bundle.tN "SUPPRESSED_SENTINEL" Bundle.listD) ∈ flatC (Jvm.Cond.and given_1 narrow_1) := by decide +kernel
set_option maxRecDepth 20000 in
theorem g_law_nc : ∀ E ∈ [nIAE, nISE, nIOE], ∀ T ∈ [nIAE, nISE, nIOE], E ≠ T → Cond.not (.castable E T) ∈ flatC (Jvm.Cond.and given_1 narrow_1) := by decide +kernel
theorem arr_K {args : Array Value} {s : State} {ty : FieldType} (h : (Cond.arrayClass ty).before args s = true) : ∃ cA : ClassId, ArrOfT s cA ty ∧ s.vm.findClass ("[" ++ ty.toString) = some cA := by
  obtain ⟨c, k, comp, h1, h2, h3⟩ := Cond.arrayClass_spec h
  exact ⟨c, fun n z => ⟨fun k h => (by cases h), k, h2, comp, h3⟩, h1⟩
theorem arr_O {args : Array Value} {s : State} {n : String} (h : (Cond.arrayOver (.object n)).before args s = true) : ∃ cA : ClassId, ArrOfT s cA (.object n) ∧ va_RA s cA (.object n) := by
  obtain ⟨comp, c, k, h1, h2, h3, h4, h5⟩ := Cond.arrayOver_spec h
  exact ⟨c, fun n z => ⟨fun k h => (by cases h), k, h3, comp, h4⟩, k, comp, h3, h4, h1, h5⟩
/-- the addresses of all, out of those of the class, of the reference, and of the answer's row -/
def adJ (a3 a4 : Ad) (q : Nat) : Ad := fun kd k => if kd < 22 then a3 kd k else if kd < 42 then a4 kd k else q
theorem wI_3 {cy : Nat → ClassId} {a3 a4 : Ad} {q : Nat} {σ : Sg} {kd : Nat} {k : Int} (h : kd < 22) : wI cy (adJ a3 a4 q) σ kd k = wI cy a3 σ kd k := by
  obtain rfl | rfl | rfl | rfl | rfl | rfl | rfl | rfl | rfl | rfl | rfl | rfl | rfl | rfl | rfl | rfl | rfl | rfl | rfl | rfl | rfl | rfl : kd = 0 ∨ kd = 1 ∨ kd = 2 ∨ kd = 3 ∨ kd = 4 ∨ kd = 5 ∨ kd = 6 ∨ kd = 7 ∨ kd = 8 ∨ kd = 9 ∨ kd = 10 ∨ kd = 11 ∨ kd = 12 ∨ kd = 13 ∨ kd = 14 ∨ kd = 15 ∨ kd = 16 ∨ kd = 17 ∨ kd = 18 ∨ kd = 19 ∨ kd = 20 ∨ kd = 21 := by omega
  all_goals rfl
theorem wI_4 {cy : Nat → ClassId} {a3 a4 : Ad} {q : Nat} {σ : Sg} {kd : Nat} {k : Int} (h : 22 ≤ kd) (h2 : kd < 42) : wI cy (adJ a3 a4 q) σ kd k = wM cy a4 σ kd k := by
  obtain rfl | rfl | rfl | rfl | rfl | rfl | rfl | rfl | rfl | rfl | rfl | rfl | rfl | rfl | rfl | rfl | rfl | rfl | rfl | rfl : kd = 22 ∨ kd = 23 ∨ kd = 24 ∨ kd = 25 ∨ kd = 26 ∨ kd = 27 ∨ kd = 28 ∨ kd = 29 ∨ kd = 30 ∨ kd = 31 ∨ kd = 32 ∨ kd = 33 ∨ kd = 34 ∨ kd = 35 ∨ kd = 36 ∨ kd = 37 ∨ kd = 38 ∨ kd = 39 ∨ kd = 40 ∨ kd = 41 := by omega
  all_goals rfl
theorem cnt_43 {kd : Nat} {k : Int} (h0 : 0 ≤ k) (h : k < cnt kd) : kd < 43 := by
  unfold cnt at h
  by_cases h4 : kd < 43
  · exact h4
  · rw [if_neg (by omega), if_neg (by omega), if_neg (by omega), if_neg h4] at h
    omega
theorem cnt_1 {kd : Nat} {k : Int} (h0 : 0 ≤ k) (h : k < cnt kd) (h2 : 22 ≤ kd) : k = 0 := by
  unfold cnt at h
  rw [if_neg (by omega), if_neg (by omega), if_neg (by omega)] at h
  split at h <;> omega
set_option maxHeartbeats 4000000 in
set_option maxRecDepth 100000 in
theorem law_made {p : Program} {l : Launch} {e : Env} {s : State} {m : MethodId} {below : List Frame} {meth : Method} {c : Code} {cy : Nat → ClassId} {D : va_G} {b L : Nat} {xs : Nat → Int32} (C : Gx p l e room_1 s m #[Value.ref b] below meth c cy D (fun q => s.heap.size ≤ q) 8 cL_law RL wsL_law) (hfl : l.stackTraces = false) (hX : va_X b L xs s s.heap) (hbl : b < s.heap.size) (hL : L ≤ 3072) (hr : meth.sig.returnType = ret) (hSx : ∀ ad : Ad, (∀ q, Aw ad q → s.heap.size ≤ q) → Sx cy D ad s s.heap) : GW p l e room_1 s m #[Value.ref b] below meth c cy D (fun q => s.heap.size ≤ q) 8 0 0 (lw_Z below #[Value.ref b] s) (fun _ => none) 0 [some (.ref b), none, none, none, none, none, none, none] [] := by
  refine G_new (ci := 3) (fs := [.null, .int (iI 0), .int (iI 0), .null, .int (iI 0), .null, .null, .int (iI 0), .null, .int (iI 0), .null, .null, .null, .null, .null]) C 0 0 in_law_X3 tyX3 tyX3_ok w_law_cl8 w_law_insX3 w_law_nX3 rfl (by decide) ⟨Nat.le_of_ble_eq_true rfl, Nat.le_of_ble_eq_true rfl⟩ dL_law_0 (fun q1 E1 hf1 hn1 hk1 => ?_)
  refine G_dup C rfl dL_law_3 ?_
  refine G_KI C (k_X3_init q1) (cwI 0 C.1.2.2.2.2 gL_law_X3_init rfl rfl rfl (C.1.2.2.2.2 _ w_law_nX3) (C.1.2.2.2.2 _ w_law_ml95) (C.1.2.2.2.2 _ w_law_imX3) rfl (by decide +kernel) ⟨Nat.le_of_ble_eq_true rfl, Nat.le_of_ble_eq_true rfl⟩) hn1 rfl (Nat.le_of_ble_eq_true rfl) dL_law_4 ⟨Nat.le_of_ble_eq_true rfl, Nat.le_of_ble_eq_true rfl⟩ (fun E2' hp2 E2 hm2 hk2 => ?_)
  obtain ⟨a3, ha3, f3⟩ := hp2
  have f3 : ∀ (kd : Nat) (k : Int), kd < 22 → 0 ≤ k → k < cnt kd → E2 (a3 kd k) = some (kd, k, wI cy a3 σ0 kd k) := fun kd k x y z => hm2 _ _ (f3 kd k x y z)
  refine G_astore_1 C (by decide) rfl dL_law_7 ?_
  refine G_new (ci := 4) (fs := [.null, .int (iI 0), .int (iI 0), .null, .null, .null, .int (iI 0), .null, .null, .null, .int (iI 0), .null, .null, .int (iI 0), .null, .null, .null, .null, .null, .null, .null, .null, .null, .null, .int (iI 0)]) C 22 0 in_law_X4 tyX4 tyX4_ok w_law_cl96 w_law_insX4 w_law_nX4 rfl (by decide) ⟨Nat.le_of_ble_eq_true rfl, Nat.le_of_ble_eq_true rfl⟩ dL_law_8 (fun q3 E3 hf3 hn3 hk3 => ?_)
  have f3 : ∀ (kd : Nat) (k : Int), kd < 22 → 0 ≤ k → k < cnt kd → E3 (a3 kd k) = some (kd, k, wI cy a3 σ0 kd k) := fun kd k x y z => hk3 _ _ (f3 kd k x y z)
  refine G_dup C rfl dL_law_11 ?_
  refine G_KI C (k_X4_init q3) (cwI 0 C.1.2.2.2.2 gL_law_X4_init rfl rfl rfl (C.1.2.2.2.2 _ w_law_nX4) (C.1.2.2.2.2 _ w_law_ml98) (C.1.2.2.2.2 _ w_law_imX4) rfl (by decide +kernel) ⟨Nat.le_of_ble_eq_true rfl, Nat.le_of_ble_eq_true rfl⟩) hn3 rfl (Nat.le_of_ble_eq_true rfl) dL_law_12 ⟨Nat.le_of_ble_eq_true rfl, Nat.le_of_ble_eq_true rfl⟩ (fun E4' hp4 E4 hm4 hk4 => ?_)
  obtain ⟨a4, ha4, f4⟩ := hp4
  have f4 : ∀ kd : Nat, 22 ≤ kd → kd < 42 → E4 (a4 kd 0) = some (kd, 0, wM cy a4 σ0 kd 0) := fun kd x y => hm4 _ _ (f4 kd x y)
  have f3 : ∀ (kd : Nat) (k : Int), kd < 22 → 0 ≤ k → k < cnt kd → E4 (a3 kd k) = some (kd, k, wI cy a3 σ0 kd k) := fun kd k x y z => hk4 _ _ _ _ (f3 kd k x y z) (Or.inl (by omega))
  refine G_astore_2 C (by decide) rfl dL_law_15 ?_
  refine G_iconst C dL_law_16 ?_
  refine G_newa_long (N := 1) C 42 0 w_law_acl ⟨by decide, by decide⟩ (by decide) ⟨Nat.le_of_ble_eq_true rfl, Nat.le_of_ble_eq_true rfl⟩ dL_law_17 (fun q5 E5 hf5 hn5 hk5 => ?_)
  have f4 : ∀ kd : Nat, 22 ≤ kd → kd < 42 → E5 (a4 kd 0) = some (kd, 0, wM cy a4 σ0 kd 0) := fun kd x y => hk5 _ _ (f4 kd x y)
  have f3 : ∀ (kd : Nat) (k : Int), kd < 22 → 0 ≤ k → k < cnt kd → E5 (a3 kd k) = some (kd, k, wI cy a3 σ0 kd k) := fun kd k x y z => hk5 _ _ (f3 kd k x y z)
  refine G_astore_3 C (by decide) rfl dL_law_19 ?_
  refine G_iconst C dL_law_20 ?_
  refine G_istore4 C (by decide) rfl dL_law_21 ?_
  refine G_wid 200 2000 (Nat.le_of_ble_eq_true rfl) (Nat.le_of_ble_eq_true rfl) ?_
  subst ha3
  subst ha4
  have fa : ∀ (kd : Nat) (k : Int), 0 ≤ k → k < cnt kd → E5 (adJ a3 a4 q5 kd k) = some (kd, k, wI cy (adJ a3 a4 q5) σ0 kd k) := by
    intro kd k h0 h1
    have h43 := cnt_43 h0 h1
    by_cases h22 : kd < 22
    · rw [wI_3 h22]
      have e : adJ a3 a4 q5 kd k = a3 kd k := if_pos h22
      rw [e]
      exact f3 kd k h22 h0 h1
    · have hk := cnt_1 h0 h1 (by omega)
      subst hk
      by_cases h42 : kd < 42
      · rw [wI_4 (by omega) h42]
        have e : adJ a3 a4 q5 kd 0 = a4 kd 0 := (if_neg h22).trans (if_pos h42)
        rw [e]
        exact f4 kd (by omega) h42
      · have ek : kd = 42 := by omega
        subst ek
        exact hn5
  intro H locs ls h1 h2 h3
  have haw : ∀ q, Aw (adJ a3 a4 q5) q → s.heap.size ≤ q := by
    rintro q ⟨kd, k, g0, g1, rfl⟩
    exact (h1 _ _ (fa kd k g0 g1)).2
  have hI : Inj (adJ a3 a4 q5) := by
    intro x y i j g0 g1 g2 g3 ge
    have e := fa x i g0 g1
    rw [ge, fa y j g2 g3] at e
    have e := Option.some.inj e
    exact ⟨(congrArg (fun z => z.1) e).symm, (congrArg (fun z => z.2.1) e).symm⟩
  have CX : Cx p l e room_1 s m #[Value.ref b] below meth c cy D (adJ a3 a4 q5) (fun q => s.heap.size ≤ q) 8 cL_law RL wsL_law := ⟨C.1, hI, fun q h => h.elim (haw q) (fun h => h), hSx _ haw, C.2.2.2.1, hfl, fun q h => Or.inr h⟩
  have hW : Wd cy D (adJ a3 a4 q5) σ0 H := fun kd k g0 g1 => wI_at (h1 _ _ (fa kd k g0 g1)).1
  exact law_loop CX hfl hX hbl (Nat.not_le.mpr hbl) hL hr (fun _ h => h) 513 0 σ0 rel0 (by decide) (by decide) H locs ls hW h2 h3
set_option maxHeartbeats 4000000 in
set_option maxRecDepth 100000 in
/-- YOUR PART: from the entry, for every script of at most 3072 ints, the law comes to its end with true -/
theorem whole_start {p : Program} {e : Env} {s : State} {m : MethodId} {below : List Frame} {meth : Method} {c : Code} (l : Launch) (hflags : l.flags = flags0) {b L : Nat} {xs : Nat → Int32} (hL : L ≤ 3072) (C0 : lw_At p s m meth c b L xs) : W p l e room_1 s m #[Value.ref b] below meth c s.heap [] 0 0 (lw_Z below #[Value.ref b] s) (entryFrame m ([Value.ref b] : List Value).toArray 8) := by
  obtain ⟨hx, hb, hr, hml, hown, hts, hX, hbl, hlocks, hgv⟩ := id C0
  have hfl : l.stackTraces = false := by
    unfold Launch.stackTraces
    rw [hflags]
    decide +kernel
  have hf := flat_of_before _ hgv
  obtain ⟨c0, i0, K0⟩ := u_known (C := RX0) (T := TX0) (N := 2) (n := 2) hts (fun w h => (wsX00_inq w h).1) (hts _ t_law_ins0)
  obtain ⟨c1, i1, K1⟩ := u_known (C := RX1) (T := TX1) (N := 1) (n := 1) hts (fun w h => (wsX10_inq w h).1) (hts _ t_law_ins1)
  obtain ⟨c2, i2, K2⟩ := u_known (C := RX2) (T := TX2) (N := 8) (n := 8) hts (fun w h => (wsX20_inq w h).1) (hts _ t_law_ins2)
  obtain ⟨c3, i3, K3⟩ := u_known (C := RX3) (T := TX3) (N := 15) (n := 15) hts (fun w h => (wsX30_inq w h).1) (hts _ t_law_ins3)
  obtain ⟨c4, i4, K4⟩ := u_known (C := RX4) (T := TX4) (N := 25) (n := 25) hts (fun w h => (wsX40_inq w h).1) (hts _ t_law_ins4)
  obtain ⟨y0, A0, B0⟩ := arr_K (hts _ t_law_aci)
  obtain ⟨y1, A1, B1⟩ := arr_K (hts _ t_law_acl)
  obtain ⟨y2, A2, B2⟩ := arr_K (hts _ t_law_acz)
  obtain ⟨y3, A3, B3⟩ := arr_O (hts _ t_law_aow)
  obtain ⟨y4, A4, B4⟩ := arr_O (hts _ t_law_aoc)
  obtain ⟨cy, D, hK⟩ : ∃ (cy : Nat → ClassId) (D : va_G), va_K D vwCl (tysO cy) s := by
    refine ⟨fun k => match k with | 0 => y0 | 1 => y1 | 2 => y2 | 3 => y3 | _ => y4, (fun k => match k with | 0 => c0 | 1 => c1 | 2 => c2 | 3 => c3 | _ => c4, fun k => match k with | 0 => i0 | 1 => i1 | 2 => i2 | 3 => i3 | _ => i4), ?_, ?_⟩
    · intro k q hq
      match k, hq with
      | 0, hq => cases hq; exact K0
      | 1, hq => cases hq; exact K1
      | 2, hq => cases hq; exact K2
      | 3, hq => cases hq; exact K3
      | 4, hq => cases hq; exact K4
      | k + 5, hq => simp [vwCl] at hq
    · intro k q hq
      match k, hq with
      | 0, hq => cases hq; exact ⟨A0, B0⟩
      | 1, hq => cases hq; exact ⟨A1, B1⟩
      | 2, hq => cases hq; exact ⟨A2, B2⟩
      | 3, hq => cases hq; exact ⟨A3, B3⟩
      | 4, hq => cases hq; exact ⟨A4, B4⟩
      | k + 5, hq => simp [tysO] at hq
  have hO : AO s := ⟨va_AO.of (hts _ t_law_aow), va_AO.of (hts _ t_law_aoc), va_Nw.of rfl (hts _ t_law_mn52), va_Nw.of rfl (hts _ t_law_mn67)⟩
  have hSx : ∀ ad : Ad, (∀ q, Aw ad q → s.heap.size ≤ q) → Sx cy D ad s s.heap := by
    intro ad haw
    refine ⟨hK, vx_Zqof (hts _ t_law_lu) (hts _ t_law_it) (hf _ g_law_u) (fun a h z => absurd (haw a z) (Nat.not_le.mpr h)), vx_Zqof (hts _ t_law_ls) (hts _ t_law_it) (hf _ g_law_s) (fun a h z => absurd (haw a z) (Nat.not_le.mpr h)), fun q hq => ?_, fun w hw => ?_, fun E hE T hT hne => va_Nc.of (hf _ (g_law_nc E hE T hT hne))⟩
    · have hw := hts _ (t_law_str q hq)
      obtain ⟨k, cf, i, a, h1, h2, h3, h4, h5, h6⟩ := Cond.stringRef_spec K3.2.1 hw
      exact ⟨a, vk_R.of hw h6⟩
    · exact vx_ot_at (State.WarmedH.refl s) rfl (t_law_thwo w hw) (hts _ (t_law_thw w hw))
  have C : Gx p l e room_1 s m #[Value.ref b] below meth c cy D (fun q => s.heap.size ≤ q) 8 cL_law RL wsL_law := ⟨⟨hx, hb, hml, hown, fun w h => hts w (wsL_law_in w h)⟩, fun _ h => h, hK, hlocks, hO⟩
  have hl := lv_entry ([.ref b]) (n := 8) (Nat.le_of_ble_eq_true rfl)
  rw [lg_entry_eq]
  generalize (lg_sl ([.ref b]) ++ List.replicate (8 - (lg_sl ([.ref b])).length) Slot.unset).toArray = ls at hl ⊢
  have hl : lv_has ls 8 [(0, .ref b)] := hl
  refine law_made C hfl hX hbl hL hr hSx s.heap [] ls (fun a t h => by simp at h) va_S.rf ⟨hl.1, hl.2.1, fun i v h => ?_⟩
  match i, h with
  | 0, h => cases h; exact hl.2.2 (0, .ref b) List.mem_cons_self
  | 1, h => cases h
  | 2, h => cases h
  | 3, h => cases h
  | 4, h => cases h
  | 5, h => cases h
  | 6, h => cases h
  | 7, h => cases h
  | i + 8, h => simp at h
