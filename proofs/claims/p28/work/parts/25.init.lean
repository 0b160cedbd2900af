def σ0 : Sg := fun a _ c => match a with
  | 0 => if c = 1 then 300 else 0
  | 1 => if c = 0 then 10000 else 0
  | 12 => if c = 0 then 300 else 0
  | 16 => if c < 5 then -1 else 0
  | _ => 0
theorem G_wid {p : Program} {l : Launch} {e : Env} {R : Room} {s : State} {m : MethodId} {args : Array Value} {below : List Frame} {meth : Method} {c : Code} {cy : Nat → ClassId} {D : va_G} {A : Nat → Prop} {nL : Nat} {cells slots : Nat} {Q : State → Prop} {E : Ew} {pc : Nat} {lv : List (Option Value)} {st : List Value} (c2 s2 : Nat) (hc : cells ≤ c2) (hs : slots ≤ s2) (k : GW p l e R s m args below meth c cy D A nL c2 s2 Q E pc lv st) : GW p l e R s m args below meth c cy D A nL cells slots Q E pc lv st := fun H locs ls h1 h2 h3 => W.widen hc hs (k H locs ls h1 h2 h3)
set_option maxHeartbeats 4000000 in
set_option maxRecDepth 100000 in
theorem k_J7_fill_53178 {l : Launch} {cy : Nat → ClassId} {D : va_G} (h : Nat) (k : Int) : KG l yJ7_fill_53178 wsJ7_fill_53178 ({ frames := 0, cells := 0, slots := 0, locals := 0 } : Room) cy D (One h (16, k, .inl (cy 0, 5, .inl (fun _ => iI 0)))) [.ref h, .int (iI (-1))] (fun E1 => E1 h = some (16, k, .inl (cy 0, 5, .inl (fun j => if (j : Int) < 5 then iI (-1) else iI 0)))) 0 0 := by
  refine KG.of (lv0 := [some (.ref h), some (.int (iI (-1))), none, none]) (by decide) rfl (Nat.le_of_ble_eq_true rfl) rfl ?_
  intro p e s m args below meth c C hr hin
  have K : ∀ (n : Nat) (i : Int) (E : Ew), 0 ≤ i → i ≤ 5 → 5 - i < n → E h = some (16, k, .inl (cy 0, 5, .inl (fun j => if (j : Int) < i then iI (-1) else iI 0))) → GW p l e ({ frames := 0, cells := 0, slots := 0, locals := 0 } : Room) s m args below meth c cy D (Af (One h (16, k, .inl (cy 0, 5, .inl (fun _ => iI 0)))) s.heap.size) 4 0 0 (MQ below (QcG D (One h (16, k, .inl (cy 0, 5, .inl (fun _ => iI 0)))) (fun E1 => E1 h = some (16, k, .inl (cy 0, 5, .inl (fun j => if (j : Int) < 5 then iI (-1) else iI 0)))) s.heap.size) args s 0 0 (Af (One h (16, k, .inl (cy 0, 5, .inl (fun _ => iI 0)))) s.heap.size)) E 5 [some (.ref h), some (.int (iI (-1))), some (.int (iI i)), some (.int (iI 5))] [] := by
    intro n
    induction n with
    | zero => intro i E h0 h1 h2; omega
    | succ n ih =>
      intro i E h0 h1 h2 f
      refine G_iload_2 C dJ7_fill_53178_5 ?_
      refine G_iload_3 C dJ7_fill_53178_6 ?_
      refine G_icmp_ge (tgt := 20) C (by omega) (by omega) dJ7_fill_53178_7 (by decide) (fun c7 => ?_) (fun c7 => ?_)
      · refine G_retV C hr (Nat.le_of_ble_eq_true rfl) (Nat.le_of_ble_eq_true rfl) dJ7_fill_53178_20 ?_
        have e5 : i = 5 := by omega
        subst e5
        exact f
      · refine G_aload_0 C dJ7_fill_53178_10 ?_
        refine G_iload_2 C dJ7_fill_53178_11 ?_
        refine G_iload_1 C dJ7_fill_53178_12 ?_
        refine G_iastore C f (by decide) ⟨h0, by omega⟩ dJ7_fill_53178_13 (fun E1 hn hk => ?_)
        refine G_iinc2 C (by decide) rfl dJ7_fill_53178_14 ?_
        refine G_goto (tgt := 5) C dJ7_fill_53178_17 (by decide) ?_
        refine ih (i + 1) E1 (by omega) (by omega) (by omega) (hn.trans ?_)
        congr 7
        funext j
        split <;> split <;> first | rfl | omega | (split <;> first | rfl | omega)
  refine G_iconst C dJ7_fill_53178_0 ?_
  refine G_istore_2 C (by decide) rfl dJ7_fill_53178_1 ?_
  refine G_aload_0 C dJ7_fill_53178_2 ?_
  refine G_alenI (E := One h (16, k, .inl (cy 0, 5, .inl (fun _ => iI 0)))) (kd := 16) (k := k) C (if_pos rfl) dJ7_fill_53178_3 ?_
  refine G_istore_3 C (by decide) rfl dJ7_fill_53178_4 ?_
  refine K 6 0 _ (by decide) (by decide) (by decide) (Eq.trans (if_pos rfl) ?_)
  congr 7
set_option maxRecDepth 20000 in
theorem w_X1_init_o3 : Cond.methodLink RX1 3 objectInit ∈ wsX1_init := by decide +kernel
set_option maxRecDepth 20000 in
theorem w_X1_init_oi : Cond.instanceMethod objectInit ∈ wsX1_init := by decide +kernel
set_option maxRecDepth 20000 in
theorem w_X1_init_oc : Cond.code objectInit ⟨#[0xb1]⟩ 1 none ∈ wsX1_init := by decide +kernel
set_option maxRecDepth 20000 in
theorem w_X1_init_aclong : Cond.arrayClass .long ∈ wsX1_init := by decide +kernel
set_option maxRecDepth 20000 in
theorem w_X1_init_f9 : Cond.fieldLink RX1 9 "JointVenture$Division" "remainders" "[J" ∈ wsX1_init := by decide +kernel
set_option maxRecDepth 20000 in
theorem in_X1_init_X1 : ∀ w ∈ wsX10, w ∈ wsX1_init := by decide +kernel
set_option maxHeartbeats 4000000 in
set_option maxRecDepth 100000 in
theorem k_X1_init {l : Launch} {cy : Nat → ClassId} {D : va_G} (h : Nat) (k : Int) : KG l yX1_init wsX1_init ({ frames := 1, cells := 1, slots := 5, locals := 12 } : Room) cy D (One h (7, 0, .inr (1, [.null]))) [.ref h] (fun E1 => ∃ q8 : Nat, E1 h = some (7, 0, .inr (1, [.ref q8])) ∧ E1 q8 = some (8, 0, .inl (cy 1, 5, .inr (.inl (fun _ => lI 0))))) 1 5 := by
  refine KG.of (lv0 := [some (.ref h)]) (by decide) rfl (Nat.le_of_ble_eq_true rfl) rfl ?_
  intro p e s m args below meth c C hr hin
  have f_O : One h (7, 0, .inr (1, [.null])) h = some (7, 0, .inr (1, [.null])) := if_pos rfl
  refine G_aload_0 C dX1_init_0 ?_
  refine G_objInit C w_X1_init_o3 w_X1_init_oi w_X1_init_oc ⟨Nat.le_of_ble_eq_true rfl, Nat.le_of_ble_eq_true rfl⟩ dX1_init_1 ?_
  refine G_aload_0 C dX1_init_4 ?_
  refine G_iconst C dX1_init_5 ?_
  refine G_newa_long (N := 5) C 8 0 w_X1_init_aclong ⟨by decide, by decide⟩ (by decide) ⟨Nat.le_of_ble_eq_true rfl, Nat.le_of_ble_eq_true rfl⟩ dX1_init_6 (fun q1 E1 hf1 hn1 hk1 => ?_)
  replace f_O := hk1 _ _ f_O
  have f_a8 : E1 q1 = some (8, 0, .inl (cy 1, 5, .inr (.inl (fun _ => lI 0)))) := hn1
  refine G_put (f := 0) (ty := .array .long) C in_X1_init_X1 tyX1 tyX1_ok nmX1 rfl f_O (by decide) w_X1_init_f9 rfl (Or.inl ⟨rfl, hin, rfl⟩) (by decide +kernel) rfl rfl (Nat.le_of_ble_eq_true rfl) dX1_init_8 (fun E2 hn2 hk2 => ?_)
  replace f_a8 := hk2 _ _ _ _ f_a8 (Or.inl (by decide))
  have f_O : E2 h = some (7, 0, .inr (1, [.ref q1])) := hn2
  refine G_retV C hr (Nat.le_of_ble_eq_true rfl) (Nat.le_of_ble_eq_true rfl) dX1_init_11 ?_
  exact ⟨_, f_O, f_a8⟩
set_option maxRecDepth 20000 in
theorem w_X0_init_o3 : Cond.methodLink RX0 3 objectInit ∈ wsX0_init := by decide +kernel
set_option maxRecDepth 20000 in
theorem w_X0_init_oi : Cond.instanceMethod objectInit ∈ wsX0_init := by decide +kernel
set_option maxRecDepth 20000 in
theorem w_X0_init_oc : Cond.code objectInit ⟨#[0xb1]⟩ 1 none ∈ wsX0_init := by decide +kernel
set_option maxRecDepth 20000 in
theorem w_X0_init_acint : Cond.arrayClass .int ∈ wsX0_init := by decide +kernel
set_option maxRecDepth 20000 in
theorem w_X0_init_f9 : Cond.fieldLink RX0 9 "JointVenture$CashCall" "asked" "[I" ∈ wsX0_init := by decide +kernel
set_option maxRecDepth 20000 in
theorem in_X0_init_X0 : ∀ w ∈ wsX00, w ∈ wsX0_init := by decide +kernel
set_option maxRecDepth 20000 in
theorem w_X0_init_f15 : Cond.fieldLink RX0 15 "JointVenture$CashCall" "paid" "[I" ∈ wsX0_init := by decide +kernel
set_option maxHeartbeats 4000000 in
set_option maxRecDepth 100000 in
theorem k_X0_init {l : Launch} {cy : Nat → ClassId} {D : va_G} (h : Nat) (k : Int) : KG l yX0_init wsX0_init ({ frames := 1, cells := 2, slots := 10, locals := 12 } : Room) cy D (One h (19, k, .inr (0, [.null, .null]))) [.ref h] (fun E1 => ∃ q20 q21 : Nat, E1 h = some (19, k, .inr (0, [.ref q20, .ref q21])) ∧ E1 q20 = some (20, k, .inl (cy 0, 5, .inl (fun _ => iI 0))) ∧ E1 q21 = some (21, k, .inl (cy 0, 5, .inl (fun _ => iI 0)))) 2 10 := by
  refine KG.of (lv0 := [some (.ref h)]) (by decide) rfl (Nat.le_of_ble_eq_true rfl) rfl ?_
  intro p e s m args below meth c C hr hin
  have f_O : One h (19, k, .inr (0, [.null, .null])) h = some (19, k, .inr (0, [.null, .null])) := if_pos rfl
  refine G_aload_0 C dX0_init_0 ?_
  refine G_objInit C w_X0_init_o3 w_X0_init_oi w_X0_init_oc ⟨Nat.le_of_ble_eq_true rfl, Nat.le_of_ble_eq_true rfl⟩ dX0_init_1 ?_
  refine G_aload_0 C dX0_init_4 ?_
  refine G_iconst C dX0_init_5 ?_
  refine G_newa_int (N := 5) C 20 k w_X0_init_acint ⟨by decide, by decide⟩ (by decide) ⟨Nat.le_of_ble_eq_true rfl, Nat.le_of_ble_eq_true rfl⟩ dX0_init_6 (fun q1 E1 hf1 hn1 hk1 => ?_)
  replace f_O := hk1 _ _ f_O
  have f_a20 : E1 q1 = some (20, k, .inl (cy 0, 5, .inl (fun _ => iI 0))) := hn1
  refine G_put (f := 0) (ty := .array .int) C in_X0_init_X0 tyX0 tyX0_ok nmX0 rfl f_O (by decide) w_X0_init_f9 rfl (Or.inl ⟨rfl, hin, rfl⟩) (by decide +kernel) rfl rfl (Nat.le_of_ble_eq_true rfl) dX0_init_8 (fun E2 hn2 hk2 => ?_)
  replace f_a20 := hk2 _ _ _ _ f_a20 (Or.inl (by decide))
  have f_O : E2 h = some (19, k, .inr (0, [.ref q1, .null])) := hn2
  refine G_aload_0 C dX0_init_11 ?_
  refine G_iconst C dX0_init_12 ?_
  refine G_newa_int (N := 5) C 21 k w_X0_init_acint ⟨by decide, by decide⟩ (by decide) ⟨Nat.le_of_ble_eq_true rfl, Nat.le_of_ble_eq_true rfl⟩ dX0_init_13 (fun q3 E3 hf3 hn3 hk3 => ?_)
  replace f_O := hk3 _ _ f_O
  replace f_a20 := hk3 _ _ f_a20
  have f_a21 : E3 q3 = some (21, k, .inl (cy 0, 5, .inl (fun _ => iI 0))) := hn3
  refine G_put (f := 1) (ty := .array .int) C in_X0_init_X0 tyX0 tyX0_ok nmX0 rfl f_O (by decide) w_X0_init_f15 rfl (Or.inl ⟨rfl, hin, rfl⟩) (by decide +kernel) rfl rfl (Nat.le_of_ble_eq_true rfl) dX0_init_15 (fun E4 hn4 hk4 => ?_)
  replace f_a20 := hk4 _ _ _ _ f_a20 (Or.inl (by decide))
  replace f_a21 := hk4 _ _ _ _ f_a21 (Or.inl (by decide))
  have f_O : E4 h = some (19, k, .inr (0, [.ref q1, .ref q3])) := hn4
  refine G_retV C hr (Nat.le_of_ble_eq_true rfl) (Nat.le_of_ble_eq_true rfl) dX0_init_18 ?_
  exact ⟨_, _, f_O, f_a20, f_a21⟩
set_option maxRecDepth 20000 in
theorem w_X2_init_o3 : Cond.methodLink RX2 3 objectInit ∈ wsX2_init := by decide +kernel
set_option maxRecDepth 20000 in
theorem w_X2_init_oi : Cond.instanceMethod objectInit ∈ wsX2_init := by decide +kernel
set_option maxRecDepth 20000 in
theorem w_X2_init_oc : Cond.code objectInit ⟨#[0xb1]⟩ 1 none ∈ wsX2_init := by decide +kernel
set_option maxRecDepth 20000 in
theorem w_X2_init_f9 : Cond.fieldLink RX2 9 "JointVenture$Well" "penalty" "I" ∈ wsX2_init := by decide +kernel
set_option maxRecDepth 20000 in
theorem in_X2_init_X2 : ∀ w ∈ wsX20, w ∈ wsX2_init := by decide +kernel
set_option maxRecDepth 20000 in
theorem w_X2_init_f15 : Cond.fieldLink RX2 15 "JointVenture$Well" "hadVoucher" "Z" ∈ wsX2_init := by decide +kernel
set_option maxRecDepth 20000 in
theorem w_X2_init_acboolean : Cond.arrayClass .boolean ∈ wsX2_init := by decide +kernel
set_option maxRecDepth 20000 in
theorem w_X2_init_f19 : Cond.fieldLink RX2 19 "JointVenture$Well" "electedOut" "[Z" ∈ wsX2_init := by decide +kernel
set_option maxRecDepth 20000 in
theorem w_X2_init_f23 : Cond.fieldLink RX2 23 "JointVenture$Well" "out" "[Z" ∈ wsX2_init := by decide +kernel
set_option maxRecDepth 20000 in
theorem w_X2_init_aclong : Cond.arrayClass .long ∈ wsX2_init := by decide +kernel
set_option maxRecDepth 20000 in
theorem w_X2_init_f26 : Cond.fieldLink RX2 26 "JointVenture$Well" "toEarn" "[J" ∈ wsX2_init := by decide +kernel
set_option maxRecDepth 20000 in
theorem w_X2_init_acint : Cond.arrayClass .int ∈ wsX2_init := by decide +kernel
set_option maxRecDepth 20000 in
theorem w_X2_init_f30 : Cond.fieldLink RX2 30 "JointVenture$Well" "backAt" "[I" ∈ wsX2_init := by decide +kernel
set_option maxRecDepth 20000 in
theorem w_X2_init_f34 : Cond.fieldLink RX2 34 "JointVenture$Well" "charged" "[I" ∈ wsX2_init := by decide +kernel
set_option maxRecDepth 20000 in
theorem w_X2_init_f37 : Cond.fieldLink RX2 37 "JointVenture$Well" "credited" "[I" ∈ wsX2_init := by decide +kernel
set_option maxHeartbeats 4000000 in
set_option maxRecDepth 100000 in
theorem k_X2_init {l : Launch} {cy : Nat → ClassId} {D : va_G} (h : Nat) (k : Int) : KG l yX2_init wsX2_init ({ frames := 1, cells := 6, slots := 30, locals := 23 } : Room) cy D (One h (12, k, .inr (2, [.int (iI 0), .int (iI 0), .null, .null, .null, .null, .null, .null]))) [.ref h] (fun E1 => ∃ q13 q14 q15 q16 q17 q18 : Nat, E1 h = some (12, k, .inr (2, [.int (iI 300), .int (iI 0), .ref q13, .ref q14, .ref q15, .ref q16, .ref q17, .ref q18])) ∧ E1 q13 = some (13, k, .inl (cy 2, 5, .inl (fun _ => iI 0))) ∧ E1 q14 = some (14, k, .inl (cy 2, 5, .inl (fun _ => iI 0))) ∧ E1 q15 = some (15, k, .inl (cy 1, 5, .inr (.inl (fun _ => lI 0)))) ∧ E1 q16 = some (16, k, .inl (cy 0, 5, .inl (fun j => if (j : Int) < 5 then iI (-1) else iI 0))) ∧ E1 q17 = some (17, k, .inl (cy 0, 5, .inl (fun _ => iI 0))) ∧ E1 q18 = some (18, k, .inl (cy 0, 5, .inl (fun _ => iI 0)))) 6 30 := by
  refine KG.of (lv0 := [some (.ref h)]) (by decide) rfl (Nat.le_of_ble_eq_true rfl) rfl ?_
  intro p e s m args below meth c C hr hin
  have f_O : One h (12, k, .inr (2, [.int (iI 0), .int (iI 0), .null, .null, .null, .null, .null, .null])) h = some (12, k, .inr (2, [.int (iI 0), .int (iI 0), .null, .null, .null, .null, .null, .null])) := if_pos rfl
  refine G_aload_0 C dX2_init_0 ?_
  refine G_objInit C w_X2_init_o3 w_X2_init_oi w_X2_init_oc ⟨Nat.le_of_ble_eq_true rfl, Nat.le_of_ble_eq_true rfl⟩ dX2_init_1 ?_
  refine G_aload_0 C dX2_init_4 ?_
  refine G_sipush C (by decide) dX2_init_5 ?_
  refine G_put (f := 0) (ty := .int) C in_X2_init_X2 tyX2 tyX2_ok nmX2 rfl f_O (by decide) w_X2_init_f9 rfl (Or.inr rfl) (by decide +kernel) rfl rfl (Nat.le_of_ble_eq_true rfl) dX2_init_8 (fun E1 hn1 hk1 => ?_)
  have f_O : E1 h = some (12, k, .inr (2, [.int (iI 300), .int (iI 0), .null, .null, .null, .null, .null, .null])) := hn1
  refine G_aload_0 C dX2_init_11 ?_
  refine G_iconst C dX2_init_12 ?_
  refine G_put (f := 1) (ty := .boolean) C in_X2_init_X2 tyX2 tyX2_ok nmX2 rfl f_O (by decide) w_X2_init_f15 rfl (Or.inr rfl) (by decide +kernel) rfl rfl (Nat.le_of_ble_eq_true rfl) dX2_init_13 (fun E2 hn2 hk2 => ?_)
  have f_O : E2 h = some (12, k, .inr (2, [.int (iI 300), .int (iI 0), .null, .null, .null, .null, .null, .null])) := hn2
  refine G_aload_0 C dX2_init_16 ?_
  refine G_iconst C dX2_init_17 ?_
  refine G_newa_boolean (N := 5) C 13 k w_X2_init_acboolean ⟨by decide, by decide⟩ (by decide) ⟨Nat.le_of_ble_eq_true rfl, Nat.le_of_ble_eq_true rfl⟩ dX2_init_18 (fun q3 E3 hf3 hn3 hk3 => ?_)
  replace f_O := hk3 _ _ f_O
  have f_a13 : E3 q3 = some (13, k, .inl (cy 2, 5, .inl (fun _ => iI 0))) := hn3
  refine G_put (f := 2) (ty := .array .boolean) C in_X2_init_X2 tyX2 tyX2_ok nmX2 rfl f_O (by decide) w_X2_init_f19 rfl (Or.inl ⟨rfl, hin, rfl⟩) (by decide +kernel) rfl rfl (Nat.le_of_ble_eq_true rfl) dX2_init_20 (fun E4 hn4 hk4 => ?_)
  replace f_a13 := hk4 _ _ _ _ f_a13 (Or.inl (by decide))
  have f_O : E4 h = some (12, k, .inr (2, [.int (iI 300), .int (iI 0), .ref q3, .null, .null, .null, .null, .null])) := hn4
  refine G_aload_0 C dX2_init_23 ?_
  refine G_iconst C dX2_init_24 ?_
  refine G_newa_boolean (N := 5) C 14 k w_X2_init_acboolean ⟨by decide, by decide⟩ (by decide) ⟨Nat.le_of_ble_eq_true rfl, Nat.le_of_ble_eq_true rfl⟩ dX2_init_25 (fun q5 E5 hf5 hn5 hk5 => ?_)
  replace f_O := hk5 _ _ f_O
  replace f_a13 := hk5 _ _ f_a13
  have f_a14 : E5 q5 = some (14, k, .inl (cy 2, 5, .inl (fun _ => iI 0))) := hn5
  refine G_put (f := 3) (ty := .array .boolean) C in_X2_init_X2 tyX2 tyX2_ok nmX2 rfl f_O (by decide) w_X2_init_f23 rfl (Or.inl ⟨rfl, hin, rfl⟩) (by decide +kernel) rfl rfl (Nat.le_of_ble_eq_true rfl) dX2_init_27 (fun E6 hn6 hk6 => ?_)
  replace f_a13 := hk6 _ _ _ _ f_a13 (Or.inl (by decide))
  replace f_a14 := hk6 _ _ _ _ f_a14 (Or.inl (by decide))
  have f_O : E6 h = some (12, k, .inr (2, [.int (iI 300), .int (iI 0), .ref q3, .ref q5, .null, .null, .null, .null])) := hn6
  refine G_aload_0 C dX2_init_30 ?_
  refine G_iconst C dX2_init_31 ?_
  refine G_newa_long (N := 5) C 15 k w_X2_init_aclong ⟨by decide, by decide⟩ (by decide) ⟨Nat.le_of_ble_eq_true rfl, Nat.le_of_ble_eq_true rfl⟩ dX2_init_32 (fun q7 E7 hf7 hn7 hk7 => ?_)
  replace f_O := hk7 _ _ f_O
  replace f_a13 := hk7 _ _ f_a13
  replace f_a14 := hk7 _ _ f_a14
  have f_a15 : E7 q7 = some (15, k, .inl (cy 1, 5, .inr (.inl (fun _ => lI 0)))) := hn7
  refine G_put (f := 4) (ty := .array .long) C in_X2_init_X2 tyX2 tyX2_ok nmX2 rfl f_O (by decide) w_X2_init_f26 rfl (Or.inl ⟨rfl, hin, rfl⟩) (by decide +kernel) rfl rfl (Nat.le_of_ble_eq_true rfl) dX2_init_34 (fun E8 hn8 hk8 => ?_)
  replace f_a13 := hk8 _ _ _ _ f_a13 (Or.inl (by decide))
  replace f_a14 := hk8 _ _ _ _ f_a14 (Or.inl (by decide))
  replace f_a15 := hk8 _ _ _ _ f_a15 (Or.inl (by decide))
  have f_O : E8 h = some (12, k, .inr (2, [.int (iI 300), .int (iI 0), .ref q3, .ref q5, .ref q7, .null, .null, .null])) := hn8
  refine G_aload_0 C dX2_init_37 ?_
  refine G_iconst C dX2_init_38 ?_
  refine G_newa_int (N := 5) C 16 k w_X2_init_acint ⟨by decide, by decide⟩ (by decide) ⟨Nat.le_of_ble_eq_true rfl, Nat.le_of_ble_eq_true rfl⟩ dX2_init_39 (fun q9 E9 hf9 hn9 hk9 => ?_)
  replace f_O := hk9 _ _ f_O
  replace f_a13 := hk9 _ _ f_a13
  replace f_a14 := hk9 _ _ f_a14
  replace f_a15 := hk9 _ _ f_a15
  have f_a16 : E9 q9 = some (16, k, .inl (cy 0, 5, .inl (fun _ => iI 0))) := hn9
  refine G_put (f := 5) (ty := .array .int) C in_X2_init_X2 tyX2 tyX2_ok nmX2 rfl f_O (by decide) w_X2_init_f30 rfl (Or.inl ⟨rfl, hin, rfl⟩) (by decide +kernel) rfl rfl (Nat.le_of_ble_eq_true rfl) dX2_init_41 (fun E10 hn10 hk10 => ?_)
  replace f_a13 := hk10 _ _ _ _ f_a13 (Or.inl (by decide))
  replace f_a14 := hk10 _ _ _ _ f_a14 (Or.inl (by decide))
  replace f_a15 := hk10 _ _ _ _ f_a15 (Or.inl (by decide))
  replace f_a16 := hk10 _ _ _ _ f_a16 (Or.inl (by decide))
  have f_O : E10 h = some (12, k, .inr (2, [.int (iI 300), .int (iI 0), .ref q3, .ref q5, .ref q7, .ref q9, .null, .null])) := hn10
  refine G_aload_0 C dX2_init_44 ?_
  refine G_iconst C dX2_init_45 ?_
  refine G_newa_int (N := 5) C 17 k w_X2_init_acint ⟨by decide, by decide⟩ (by decide) ⟨Nat.le_of_ble_eq_true rfl, Nat.le_of_ble_eq_true rfl⟩ dX2_init_46 (fun q11 E11 hf11 hn11 hk11 => ?_)
  replace f_O := hk11 _ _ f_O
  replace f_a13 := hk11 _ _ f_a13
  replace f_a14 := hk11 _ _ f_a14
  replace f_a15 := hk11 _ _ f_a15
  replace f_a16 := hk11 _ _ f_a16
  have f_a17 : E11 q11 = some (17, k, .inl (cy 0, 5, .inl (fun _ => iI 0))) := hn11
  refine G_put (f := 6) (ty := .array .int) C in_X2_init_X2 tyX2 tyX2_ok nmX2 rfl f_O (by decide) w_X2_init_f34 rfl (Or.inl ⟨rfl, hin, rfl⟩) (by decide +kernel) rfl rfl (Nat.le_of_ble_eq_true rfl) dX2_init_48 (fun E12 hn12 hk12 => ?_)
  replace f_a13 := hk12 _ _ _ _ f_a13 (Or.inl (by decide))
  replace f_a14 := hk12 _ _ _ _ f_a14 (Or.inl (by decide))
  replace f_a15 := hk12 _ _ _ _ f_a15 (Or.inl (by decide))
  replace f_a16 := hk12 _ _ _ _ f_a16 (Or.inl (by decide))
  replace f_a17 := hk12 _ _ _ _ f_a17 (Or.inl (by decide))
  have f_O : E12 h = some (12, k, .inr (2, [.int (iI 300), .int (iI 0), .ref q3, .ref q5, .ref q7, .ref q9, .ref q11, .null])) := hn12
  refine G_aload_0 C dX2_init_51 ?_
  refine G_iconst C dX2_init_52 ?_
  refine G_newa_int (N := 5) C 18 k w_X2_init_acint ⟨by decide, by decide⟩ (by decide) ⟨Nat.le_of_ble_eq_true rfl, Nat.le_of_ble_eq_true rfl⟩ dX2_init_53 (fun q13 E13 hf13 hn13 hk13 => ?_)
  replace f_O := hk13 _ _ f_O
  replace f_a13 := hk13 _ _ f_a13
  replace f_a14 := hk13 _ _ f_a14
  replace f_a15 := hk13 _ _ f_a15
  replace f_a16 := hk13 _ _ f_a16
  replace f_a17 := hk13 _ _ f_a17
  have f_a18 : E13 q13 = some (18, k, .inl (cy 0, 5, .inl (fun _ => iI 0))) := hn13
  refine G_put (f := 7) (ty := .array .int) C in_X2_init_X2 tyX2 tyX2_ok nmX2 rfl f_O (by decide) w_X2_init_f37 rfl (Or.inl ⟨rfl, hin, rfl⟩) (by decide +kernel) rfl rfl (Nat.le_of_ble_eq_true rfl) dX2_init_55 (fun E14 hn14 hk14 => ?_)
  replace f_a13 := hk14 _ _ _ _ f_a13 (Or.inl (by decide))
  replace f_a14 := hk14 _ _ _ _ f_a14 (Or.inl (by decide))
  replace f_a15 := hk14 _ _ _ _ f_a15 (Or.inl (by decide))
  replace f_a16 := hk14 _ _ _ _ f_a16 (Or.inl (by decide))
  replace f_a17 := hk14 _ _ _ _ f_a17 (Or.inl (by decide))
  replace f_a18 := hk14 _ _ _ _ f_a18 (Or.inl (by decide))
  have f_O : E14 h = some (12, k, .inr (2, [.int (iI 300), .int (iI 0), .ref q3, .ref q5, .ref q7, .ref q9, .ref q11, .ref q13])) := hn14
  refine G_aload_0 C dX2_init_58 ?_
  refine G_get (f := 5) C in_X2_init_X2 rfl f_O (by decide) w_X2_init_f30 rfl rfl dX2_init_59 ?_
  refine G_iconst C dX2_init_62 ?_
  refine G_KS (As := [.ref q9, .int (iI (-1))]) C (k_J7_fill_53178 q9 k) (va_cwS 2 C.1.2.2.2.2 gX2_init_J7_fill_53178 rfl rfl rfl (by decide +kernel) ⟨Nat.le_of_ble_eq_true rfl, Nat.le_of_ble_eq_true rfl⟩) f_a16 rfl rfl (Nat.le_of_ble_eq_true rfl) dX2_init_63 ⟨Nat.le_of_ble_eq_true rfl, Nat.le_of_ble_eq_true rfl⟩ (fun E1_15 hp15 E15 hm15 hk15 => ?_)
  replace f_O := hk15 _ _ _ _ f_O (Or.inl (by decide))
  replace f_a13 := hk15 _ _ _ _ f_a13 (Or.inl (by decide))
  replace f_a14 := hk15 _ _ _ _ f_a14 (Or.inl (by decide))
  replace f_a15 := hk15 _ _ _ _ f_a15 (Or.inl (by decide))
  replace f_a17 := hk15 _ _ _ _ f_a17 (Or.inl (by decide))
  replace f_a18 := hk15 _ _ _ _ f_a18 (Or.inl (by decide))
  have f_a16 : E15 q9 = some (16, k, .inl (cy 0, 5, .inl (fun j => if (j : Int) < 5 then iI (-1) else iI 0))) := hm15 _ _ hp15
  refine G_retV C hr (Nat.le_of_ble_eq_true rfl) (Nat.le_of_ble_eq_true rfl) dX2_init_66 ?_
  exact ⟨_, _, _, _, _, _, f_O, f_a13, f_a14, f_a15, f_a16, f_a17, f_a18⟩
theorem row10 : (fun j : Nat => if (j : Int) = 0 then iI 10000 else iI 0) = fun j : Nat => iI (if (j : Int) = 0 then 10000 else 0) := by
  funext j
  split <;> rfl
theorem row16 : (fun j : Nat => if (j : Int) < 5 then iI (-1) else iI 0) = fun j : Nat => iI (if (j : Int) < 5 then -1 else 0) := by
  funext j
  split <;> rfl
theorem arrV_cg {cA : ClassId} {n : Nat} {f g : Nat → Value} (h : ∀ j, j < n → f j = g j) : arrV cA n f = arrV cA n g := by
  unfold arrV
  congr 1
  exact congrArg _ (funext fun j => h j.val j.isLt)
/-- as wM, but that the rows of wells and of calls say nothing past their ends -/
def wI (cy : Nat → ClassId) (ad : Ad) (σ : Sg) (kd : Nat) (k : Int) : va_E :=
  if kd = 2 then .inl (cy 3, 6, .inr (.inr (.inr (.inr (fun x => if (x : Int) < 6 then some (ad 12 (x : Int)) else none)))))
  else if kd = 5 then .inl (cy 4, 20, .inr (.inr (.inr (.inr (fun x => if (x : Int) < 20 then some (ad 19 (x : Int)) else none)))))
  else wM cy ad σ kd k
theorem wI_at {cy : Nat → ClassId} {D : va_G} {ad : Ad} {σ : Sg} {kd : Nat} {k : Int} {a : Nat} {H : Heap} (h : va_at D vwCl (a, wI cy ad σ kd k) H) : va_at D vwCl (a, wM cy ad σ kd k) H := by
  unfold wI at h
  by_cases e2 : kd = 2
  · subst e2
    rw [if_pos rfl] at h
    have h' : H[a]? = some (vp_cell (cy 3) (6, .inr (.inr (.inr (.inr (fun x => if (x : Int) < 6 then some (ad 12 (x : Int)) else none)))))) := h
    show H[a]? = some (vp_cell (cy 3) (6, .inr (.inr (.inr (.inr (fun x => some (ad 12 (x : Int))))))))
    rw [h', vp_cell_q, vp_cell_q]
    exact congrArg some (arrV_cg fun j hj => by rw [if_pos (by omega)])
  · rw [if_neg e2] at h
    by_cases e5 : kd = 5
    · subst e5
      rw [if_pos rfl] at h
      have h' : H[a]? = some (vp_cell (cy 4) (20, .inr (.inr (.inr (.inr (fun x => if (x : Int) < 20 then some (ad 19 (x : Int)) else none)))))) := h
      show H[a]? = some (vp_cell (cy 4) (20, .inr (.inr (.inr (.inr (fun x => some (ad 19 (x : Int))))))))
      rw [h', vp_cell_q, vp_cell_q]
      exact congrArg some (arrV_cg fun j hj => by rw [if_pos (by omega)])
    · rw [if_neg e5] at h
      exact h
theorem wM_w {cy : Nat → ClassId} {aw aw' : Ad} {σ : Sg} {kd : Nat} {j : Int} (h1 : 12 ≤ kd) (h2 : kd ≤ 18) (h : ∀ x, aw' x j = aw x j) : wM cy aw' σ kd j = wM cy aw σ kd j := by
  obtain rfl | rfl | rfl | rfl | rfl | rfl | rfl : kd = 12 ∨ kd = 13 ∨ kd = 14 ∨ kd = 15 ∨ kd = 16 ∨ kd = 17 ∨ kd = 18 := by omega
  · simp only [wM, h]
  all_goals rfl
theorem wM_c {cy : Nat → ClassId} {aw aw' : Ad} {σ : Sg} {kd : Nat} {j : Int} (h1 : 19 ≤ kd) (h2 : kd ≤ 21) (h : ∀ x, aw' x j = aw x j) : wM cy aw' σ kd j = wM cy aw σ kd j := by
  obtain rfl | rfl | rfl : kd = 19 ∨ kd = 20 ∨ kd = 21 := by omega
  · simp only [wM, h]
  all_goals rfl
set_option maxRecDepth 20000 in
theorem w_X3_init_o1 : Cond.methodLink RX3 1 objectInit ∈ wsX3_init := by decide +kernel
set_option maxRecDepth 20000 in
theorem w_X3_init_oi : Cond.instanceMethod objectInit ∈ wsX3_init := by decide +kernel
set_option maxRecDepth 20000 in
theorem w_X3_init_oc : Cond.code objectInit ⟨#[0xb1]⟩ 1 none ∈ wsX3_init := by decide +kernel
set_option maxRecDepth 20000 in
theorem w_X3_init_acint : Cond.arrayClass .int ∈ wsX3_init := by decide +kernel
set_option maxRecDepth 20000 in
theorem w_X3_init_f9 : Cond.fieldLink RX3 9 "JointVenture" "shares" "[I" ∈ wsX3_init := by decide +kernel
set_option maxRecDepth 20000 in
theorem in_X3_init_X3 : ∀ w ∈ wsX30, w ∈ wsX3_init := by decide +kernel
set_option maxRecDepth 20000 in
theorem w_X3_init_f13 : Cond.fieldLink RX3 13 "JointVenture" "newPenalty" "I" ∈ wsX3_init := by decide +kernel
set_option maxRecDepth 20000 in
theorem w_X3_init_f17 : Cond.fieldLink RX3 17 "JointVenture" "monthlyOverhead" "I" ∈ wsX3_init := by decide +kernel
set_option maxRecDepth 20000 in
theorem w_X3_init_cl20 : Cond.classLink RX3 20 "JointVenture$Well" ∈ wsX3_init := by decide +kernel
set_option maxRecDepth 20000 in
theorem w_X3_init_f22 : Cond.fieldLink RX3 22 "JointVenture" "wells" "[LJointVenture$Well;" ∈ wsX3_init := by decide +kernel
set_option maxRecDepth 20000 in
theorem w_X3_init_f26 : Cond.fieldLink RX3 26 "JointVenture" "wellCount" "I" ∈ wsX3_init := by decide +kernel
set_option maxRecDepth 20000 in
theorem w_X3_init_f29 : Cond.fieldLink RX3 29 "JointVenture" "voucherWells" "[I" ∈ wsX3_init := by decide +kernel
set_option maxRecDepth 20000 in
theorem w_X3_init_f32 : Cond.fieldLink RX3 32 "JointVenture" "voucherAmounts" "[I" ∈ wsX3_init := by decide +kernel
set_option maxRecDepth 20000 in
theorem w_X3_init_f35 : Cond.fieldLink RX3 35 "JointVenture" "voucherCount" "I" ∈ wsX3_init := by decide +kernel
set_option maxRecDepth 20000 in
theorem w_X3_init_cl38 : Cond.classLink RX3 38 "JointVenture$CashCall" ∈ wsX3_init := by decide +kernel
set_option maxRecDepth 20000 in
theorem w_X3_init_f40 : Cond.fieldLink RX3 40 "JointVenture" "cashCalls" "[LJointVenture$CashCall;" ∈ wsX3_init := by decide +kernel
set_option maxRecDepth 20000 in
theorem w_X3_init_f44 : Cond.fieldLink RX3 44 "JointVenture" "cashCallCount" "I" ∈ wsX3_init := by decide +kernel
set_option maxRecDepth 20000 in
theorem w_X3_init_f47 : Cond.fieldLink RX3 47 "JointVenture" "owed" "[I" ∈ wsX3_init := by decide +kernel
set_option maxRecDepth 20000 in
theorem w_X3_init_cl50 : Cond.classLink RX3 50 RX1 ∈ wsX3_init := by decide +kernel
set_option maxRecDepth 20000 in
theorem w_X3_init_insX1 : Cond.instantiable RX1 1 ∈ wsX3_init := by decide +kernel
set_option maxRecDepth 20000 in
theorem w_X3_init_nX1 : Cond.initialized RX1 ∈ wsX3_init := by decide +kernel
set_option maxRecDepth 20000 in
theorem in_X3_init_X1 : ∀ w ∈ wsX10, w ∈ wsX3_init := by decide +kernel
set_option maxRecDepth 20000 in
theorem w_X3_init_imX1 : Cond.instanceMethod yX1_init ∈ wsX3_init := by decide +kernel
set_option maxRecDepth 20000 in
theorem w_X3_init_f53 : Cond.fieldLink RX3 53 "JointVenture" "division" "LJointVenture$Division;" ∈ wsX3_init := by decide +kernel
set_option maxRecDepth 20000 in
theorem w_X3_init_f57 : Cond.fieldLink RX3 57 "JointVenture" "ownParts" "[I" ∈ wsX3_init := by decide +kernel
set_option maxRecDepth 20000 in
theorem w_X3_init_f60 : Cond.fieldLink RX3 60 "JointVenture" "weights" "[I" ∈ wsX3_init := by decide +kernel
set_option maxRecDepth 20000 in
theorem w_X3_init_f63 : Cond.fieldLink RX3 63 "JointVenture" "portions" "[I" ∈ wsX3_init := by decide +kernel
set_option maxRecDepth 20000 in
theorem w_X3_init_insX0 : Cond.instantiable RX0 2 ∈ wsX3_init := by decide +kernel
set_option maxRecDepth 20000 in
theorem w_X3_init_nX0 : Cond.initialized RX0 ∈ wsX3_init := by decide +kernel
set_option maxRecDepth 20000 in
theorem in_X3_init_X0 : ∀ w ∈ wsX00, w ∈ wsX3_init := by decide +kernel
set_option maxRecDepth 20000 in
theorem w_X3_init_imX0 : Cond.instanceMethod yX0_init ∈ wsX3_init := by decide +kernel
set_option maxRecDepth 20000 in
theorem w_X3_init_insX2 : Cond.instantiable RX2 8 ∈ wsX3_init := by decide +kernel
set_option maxRecDepth 20000 in
theorem w_X3_init_nX2 : Cond.initialized RX2 ∈ wsX3_init := by decide +kernel
set_option maxRecDepth 20000 in
theorem in_X3_init_X2 : ∀ w ∈ wsX20, w ∈ wsX3_init := by decide +kernel
set_option maxRecDepth 20000 in
theorem w_X3_init_ml66 : Cond.methodLink RX3 66 yX2_init ∈ wsX3_init := by decide +kernel
set_option maxRecDepth 20000 in
theorem w_X3_init_imX2 : Cond.instanceMethod yX2_init ∈ wsX3_init := by decide +kernel
set_option maxHeartbeats 8000000 in
set_option maxRecDepth 100000 in
theorem k_X3_init {l : Launch} {cy : Nat → ClassId} {D : va_G} (h : Nat) : KG l yX3_init wsX3_init ({ frames := 3, cells := 113, slots := 645, locals := 43 } : Room) cy D (One h (0, 0, .inr (3, [.null, .int (iI 0), .int (iI 0), .null, .int (iI 0), .null, .null, .int (iI 0), .null, .int (iI 0), .null, .null, .null, .null, .null]))) [.ref h] (fun E1 => ∃ ad : Ad, ad 0 0 = h ∧ ∀ (kd : Nat) (k : Int), kd < 22 → 0 ≤ k → k < cnt kd → E1 (ad kd k) = some (kd, k, wI cy ad σ0 kd k)) 113 645 := by
  refine KG.of (lv0 := [some (.ref h), none]) (by decide) rfl (Nat.le_of_ble_eq_true rfl) rfl ?_
  intro p e s m args below meth c C hr hin
  have K149 : ∀ (n j : Nat) (E : Ew) (aw ak : Ad) (x_a1 x_a2 x_a3 x_a4 x_a5 x_a6 x_n7 x_a8 x_a9 x_a10 x_a11 : Nat), j ≤ 20 → 20 < j + n → (E h = some (0, 0, .inr (3, [.ref x_a1, .int (iI 300), .int (iI 0), .ref x_a2, .int (iI 0), .ref x_a3, .ref x_a4, .int (iI 0), .ref x_a5, .int (iI 0), .ref x_a6, .ref x_n7, .ref x_a9, .ref x_a10, .ref x_a11]))) → (E x_a1 = some (1, 0, .inl (cy 0, 5, .inl (fun j => if (j : Int) = 0 then iI 10000 else iI 0)))) → (E x_a2 = some (2, 0, .inl (cy 3, 6, .inr (.inr (.inr (.inr (fun x => if (x : Int) < 6 then some (aw 12 (x : Int)) else none))))))) → (E x_a3 = some (3, 0, .inl (cy 0, 60, .inl (fun _ => iI 0)))) → (E x_a4 = some (4, 0, .inl (cy 0, 60, .inl (fun _ => iI 0)))) → (E x_a5 = some (5, 0, .inl (cy 4, 20, .inr (.inr (.inr (.inr (fun x => if (x : Int) < (j : Int) then some (ak 19 (x : Int)) else none))))))) → (E x_a6 = some (6, 0, .inl (cy 0, 5, .inl (fun _ => iI 0)))) → (E x_n7 = some (7, 0, .inr (1, [.ref x_a8]))) → (E x_a8 = some (8, 0, .inl (cy 1, 5, .inr (.inl (fun _ => lI 0))))) → (E x_a9 = some (9, 0, .inl (cy 0, 5, .inl (fun _ => iI 0)))) → (E x_a10 = some (10, 0, .inl (cy 0, 5, .inl (fun _ => iI 0)))) → (E x_a11 = some (11, 0, .inl (cy 0, 5, .inl (fun _ => iI 0)))) → (∀ x : Int, 0 ≤ x → x < 6 → ∀ kd : Nat, 12 ≤ kd → kd ≤ 18 → E (aw kd x) = some (kd, x, wM cy aw σ0 kd x)) → (∀ x : Int, 0 ≤ x → x < (j : Int) → ∀ kd : Nat, 19 ≤ kd → kd ≤ 21 → E (ak kd x) = some (kd, x, wM cy ak σ0 kd x)) → GW p l e ({ frames := 3, cells := 113, slots := 645, locals := 43 } : Room) s m args below meth c cy D (Af (One h (0, 0, .inr (3, [.null, .int (iI 0), .int (iI 0), .null, .int (iI 0), .null, .null, .int (iI 0), .null, .int (iI 0), .null, .null, .null, .null, .null]))) s.heap.size) 2 (53 + 3 * j) (405 + 12 * j) (MQ below (QcG D (One h (0, 0, .inr (3, [.null, .int (iI 0), .int (iI 0), .null, .int (iI 0), .null, .null, .int (iI 0), .null, .int (iI 0), .null, .null, .null, .null, .null]))) (fun E1 => ∃ ad : Ad, ad 0 0 = h ∧ ∀ (kd : Nat) (k : Int), kd < 22 → 0 ≤ k → k < cnt kd → E1 (ad kd k) = some (kd, k, wI cy ad σ0 kd k)) s.heap.size) args s 113 645 (Af (One h (0, 0, .inr (3, [.null, .int (iI 0), .int (iI 0), .null, .int (iI 0), .null, .null, .int (iI 0), .null, .int (iI 0), .null, .null, .null, .null, .null]))) s.heap.size)) E 149 [some (.ref h), some (.int (iI (j : Int)))] [] := by
    intro n
    induction n with
    | zero => intro j E aw ak x_a1 x_a2 x_a3 x_a4 x_a5 x_a6 x_n7 x_a8 x_a9 x_a10 x_a11 h1 h2; omega
    | succ n ih =>
      intro j E aw ak x_a1 x_a2 x_a3 x_a4 x_a5 x_a6 x_n7 x_a8 x_a9 x_a10 x_a11 h1 h2 f_O f_a1 f_a2 f_a3 f_a4 f_a5 f_a6 f_n7 f_a8 f_a9 f_a10 f_a11 f_W f_C
      refine G_iload_1 C dX3_init_149 ?_
      refine G_bipush C (by decide) dX3_init_150 ?_
      refine G_icmp_ge (tgt := 174) C (by omega) (by omega) dX3_init_152 (by decide) (fun c => ?_) (fun c => ?_)
      · have e20 : j = 20 := by omega
        subst e20
        refine G_retV C hr (Nat.le_of_ble_eq_true rfl) (Nat.le_of_ble_eq_true rfl) dX3_init_174 ?_
        refine ⟨fun kd k => match kd with | 0 => h | 1 => x_a1 | 2 => x_a2 | 3 => x_a3 | 4 => x_a4 | 5 => x_a5 | 6 => x_a6 | 7 => x_n7 | 8 => x_a8 | 9 => x_a9 | 10 => x_a10 | 11 => x_a11 | 12 => aw 12 k | 13 => aw 13 k | 14 => aw 14 k | 15 => aw 15 k | 16 => aw 16 k | 17 => aw 17 k | 18 => aw 18 k | 19 => ak 19 k | 20 => ak 20 k | 21 => ak 21 k | _ => 0, rfl, fun kd k k1 k2 k3 => ?_⟩
        obtain rfl | rfl | rfl | rfl | rfl | rfl | rfl | rfl | rfl | rfl | rfl | rfl | rfl | rfl | rfl | rfl | rfl | rfl | rfl | rfl | rfl | rfl : kd = 0 ∨ kd = 1 ∨ kd = 2 ∨ kd = 3 ∨ kd = 4 ∨ kd = 5 ∨ kd = 6 ∨ kd = 7 ∨ kd = 8 ∨ kd = 9 ∨ kd = 10 ∨ kd = 11 ∨ kd = 12 ∨ kd = 13 ∨ kd = 14 ∨ kd = 15 ∨ kd = 16 ∨ kd = 17 ∨ kd = 18 ∨ kd = 19 ∨ kd = 20 ∨ kd = 21 := by omega
        · obtain rfl : k = 0 := by have k3 : k < 1 := k3; omega
          exact f_O
        · obtain rfl : k = 0 := by have k3 : k < 1 := k3; omega
          exact f_a1.trans (congrArg (fun f => some (1, (0 : Int), (Sum.inl (cy 0, 5, Sum.inl f) : va_E))) row10)
        · obtain rfl : k = 0 := by have k3 : k < 1 := k3; omega
          exact f_a2
        · obtain rfl : k = 0 := by have k3 : k < 1 := k3; omega
          exact f_a3
        · obtain rfl : k = 0 := by have k3 : k < 1 := k3; omega
          exact f_a4
        · obtain rfl : k = 0 := by have k3 : k < 1 := k3; omega
          exact f_a5
        · obtain rfl : k = 0 := by have k3 : k < 1 := k3; omega
          exact f_a6
        · obtain rfl : k = 0 := by have k3 : k < 1 := k3; omega
          exact f_n7
        · obtain rfl : k = 0 := by have k3 : k < 1 := k3; omega
          exact f_a8
        · obtain rfl : k = 0 := by have k3 : k < 1 := k3; omega
          exact f_a9
        · obtain rfl : k = 0 := by have k3 : k < 1 := k3; omega
          exact f_a10
        · obtain rfl : k = 0 := by have k3 : k < 1 := k3; omega
          exact f_a11
        · exact f_W k k2 k3 12 (by decide) (by decide)
        · exact f_W k k2 k3 13 (by decide) (by decide)
        · exact f_W k k2 k3 14 (by decide) (by decide)
        · exact f_W k k2 k3 15 (by decide) (by decide)
        · exact f_W k k2 k3 16 (by decide) (by decide)
        · exact f_W k k2 k3 17 (by decide) (by decide)
        · exact f_W k k2 k3 18 (by decide) (by decide)
        · exact f_C k k2 k3 19 (by decide) (by decide)
        · exact f_C k k2 k3 20 (by decide) (by decide)
        · exact f_C k k2 k3 21 (by decide) (by decide)
      · have hj : j < 20 := by omega
        refine G_aload_0 C dX3_init_155 ?_
        refine G_get (f := 8) C in_X3_init_X3 rfl f_O (by decide) w_X3_init_f40 rfl rfl dX3_init_156 ?_
        refine G_iload_1 C dX3_init_159 ?_
        refine G_new (ci := 0) (fs := [.null, .null]) C 19 (j : Int) in_X3_init_X0 tyX0 tyX0_ok w_X3_init_cl38 w_X3_init_insX0 w_X3_init_nX0 rfl (by decide) ⟨by dsimp only; omega, by dsimp only; omega⟩ dX3_init_160 (fun q1 E1 hf1 hn1 hk1 => ?_)
        replace f_O := hk1 _ _ f_O
        replace f_a1 := hk1 _ _ f_a1
        replace f_a2 := hk1 _ _ f_a2
        replace f_a3 := hk1 _ _ f_a3
        replace f_a4 := hk1 _ _ f_a4
        replace f_a5 := hk1 _ _ f_a5
        replace f_a6 := hk1 _ _ f_a6
        replace f_n7 := hk1 _ _ f_n7
        replace f_a8 := hk1 _ _ f_a8
        replace f_a9 := hk1 _ _ f_a9
        replace f_a10 := hk1 _ _ f_a10
        replace f_a11 := hk1 _ _ f_a11
        replace f_W := fun x a b kd c d => hk1 _ _ (f_W x a b kd c d)
        replace f_C := fun x a b kd c d => hk1 _ _ (f_C x a b kd c d)
        have f_n19 : E1 q1 = some (19, (j : Int), .inr (0, [.null, .null])) := hn1
        refine G_dup C rfl dX3_init_163 ?_
        refine G_KIN C (k_X0_init q1 (j : Int)) ⟨va_cnB 0 C.1.2.2.2.2 gX3_init_X0_init_n67 rfl rfl rfl C.2.2.2.2.2.2.2 (C.1.2.2.2.2 _ w_X3_init_nX0) (by decide +kernel) ⟨Nat.le_of_ble_eq_true rfl, Nat.le_of_ble_eq_true rfl⟩, rfl, C.1.2.2.2.2 _ w_X3_init_imX0⟩ f_n19 rfl (Nat.le_of_ble_eq_true rfl) dX3_init_164 ⟨by dsimp only; omega, by dsimp only; omega⟩ (fun E1_2 hp2 E2 hm2 hk2 => ?_)
        obtain ⟨q20_2, q21_2, g_O, g_q20, g_q21⟩ := hp2
        replace f_O := hk2 _ _ _ _ f_O (Or.inl (by decide))
        replace f_a1 := hk2 _ _ _ _ f_a1 (Or.inl (by decide))
        replace f_a2 := hk2 _ _ _ _ f_a2 (Or.inl (by decide))
        replace f_a3 := hk2 _ _ _ _ f_a3 (Or.inl (by decide))
        replace f_a4 := hk2 _ _ _ _ f_a4 (Or.inl (by decide))
        replace f_a5 := hk2 _ _ _ _ f_a5 (Or.inl (by decide))
        replace f_a6 := hk2 _ _ _ _ f_a6 (Or.inl (by decide))
        replace f_n7 := hk2 _ _ _ _ f_n7 (Or.inl (by decide))
        replace f_a8 := hk2 _ _ _ _ f_a8 (Or.inl (by decide))
        replace f_a9 := hk2 _ _ _ _ f_a9 (Or.inl (by decide))
        replace f_a10 := hk2 _ _ _ _ f_a10 (Or.inl (by decide))
        replace f_a11 := hk2 _ _ _ _ f_a11 (Or.inl (by decide))
        replace f_W := fun x a b kd c d => hk2 _ _ _ _ (f_W x a b kd c d) (by omega)
        replace f_C := fun x a b kd c d => hk2 _ _ _ _ (f_C x a b kd c d) (by omega)
        have f_n19 : E2 q1 = some (19, (j : Int), .inr (0, [.ref q20_2, .ref q21_2])) := hm2 _ _ g_O
        have f_a20 : E2 q20_2 = some (20, (j : Int), .inl (cy 0, 5, .inl (fun _ => iI 0))) := hm2 _ _ g_q20
        have f_a21 : E2 q21_2 = some (21, (j : Int), .inl (cy 0, 5, .inl (fun _ => iI 0))) := hm2 _ _ g_q21
        refine G_aastC C f_a5 f_n19 (by decide) ⟨by omega, by omega⟩ dX3_init_167 (fun E3 hn3 hk3 => ?_)
        replace f_O := hk3 _ _ _ _ f_O (Or.inl (by decide))
        replace f_a1 := hk3 _ _ _ _ f_a1 (Or.inl (by decide))
        replace f_a2 := hk3 _ _ _ _ f_a2 (Or.inl (by decide))
        replace f_a3 := hk3 _ _ _ _ f_a3 (Or.inl (by decide))
        replace f_a4 := hk3 _ _ _ _ f_a4 (Or.inl (by decide))
        replace f_a6 := hk3 _ _ _ _ f_a6 (Or.inl (by decide))
        replace f_n7 := hk3 _ _ _ _ f_n7 (Or.inl (by decide))
        replace f_a8 := hk3 _ _ _ _ f_a8 (Or.inl (by decide))
        replace f_a9 := hk3 _ _ _ _ f_a9 (Or.inl (by decide))
        replace f_a10 := hk3 _ _ _ _ f_a10 (Or.inl (by decide))
        replace f_a11 := hk3 _ _ _ _ f_a11 (Or.inl (by decide))
        replace f_n19 := hk3 _ _ _ _ f_n19 (Or.inl (by decide))
        replace f_a20 := hk3 _ _ _ _ f_a20 (Or.inl (by decide))
        replace f_a21 := hk3 _ _ _ _ f_a21 (Or.inl (by decide))
        replace f_W := fun x a b kd c d => hk3 _ _ _ _ (f_W x a b kd c d) (by omega)
        replace f_C := fun x a b kd c d => hk3 _ _ _ _ (f_C x a b kd c d) (by omega)
        replace f_a5 := hn3
        refine G_iinc1 C (by decide) rfl dX3_init_168 ?_
        refine G_goto (tgt := 149) C dX3_init_171 (by decide) ?_
        have haj : ∀ x y : Int, ∀ kd : Nat, (fun (kd : Nat) (x : Int) => if x = (j : Int) then (if kd = 19 then q1 else if kd = 20 then q20_2 else q21_2) else ak kd x) kd x = if x = (j : Int) then (if kd = 19 then q1 else if kd = 20 then q20_2 else q21_2) else ak kd x := fun _ _ _ => rfl
        generalize hak : (fun (kd : Nat) (x : Int) => if x = (j : Int) then (if kd = 19 then q1 else if kd = 20 then q20_2 else q21_2) else ak kd x) = ak2 at haj
        refine G_wid (53 + 3 * (j + 1)) (405 + 12 * (j + 1)) (by omega) (by omega) (ih (j + 1) _ aw ak2 x_a1 x_a2 x_a3 x_a4 x_a5 x_a6 x_n7 x_a8 x_a9 x_a10 x_a11 (by omega) (by omega) f_O f_a1 f_a2 f_a3 f_a4 (f_a5.trans ?_) f_a6 f_n7 f_a8 f_a9 f_a10 f_a11 f_W (fun x a b kd c1 c2 => ?_))
        · congr 10
          funext x
          rw [haj _ 0 19]
          by_cases e : (x : Int) = (j : Int)
          · rw [if_pos e, if_pos e, if_pos (by omega), if_pos rfl]
          · rw [if_neg e, if_neg e]; by_cases e2 : (x : Int) < (j : Int); (· rw [if_pos e2, if_pos (by omega)]); (· rw [if_neg e2, if_neg (by omega)])
        · by_cases e : x = (j : Int)
          · subst e
            have z := fun kd => haj (j : Int) 0 kd
            simp only [if_true] at z
            obtain rfl | rfl | rfl : kd = 19 ∨ kd = 20 ∨ kd = 21 := by omega
            · rw [z]; refine Eq.trans f_n19 ?_; simp only [wM, z]; rfl
            · rw [z]; exact f_a20
            · rw [z]; exact f_a21
          · have z : ∀ y, ak2 y x = ak y x := fun y => by rw [haj x 0 y, if_neg e]
            rw [z, wM_c c1 c2 z]
            exact f_C x a (by omega) kd c1 c2
  have K122 : ∀ (n j : Nat) (E : Ew) (aw : Ad) (x_a1 x_a2 x_a3 x_a4 x_a5 x_a6 x_n7 x_a8 x_a9 x_a10 x_a11 : Nat), j ≤ 6 → 6 < j + n → (E h = some (0, 0, .inr (3, [.ref x_a1, .int (iI 300), .int (iI 0), .ref x_a2, .int (iI 0), .ref x_a3, .ref x_a4, .int (iI 0), .ref x_a5, .int (iI 0), .ref x_a6, .ref x_n7, .ref x_a9, .ref x_a10, .ref x_a11]))) → (E x_a1 = some (1, 0, .inl (cy 0, 5, .inl (fun j => if (j : Int) = 0 then iI 10000 else iI 0)))) → (E x_a2 = some (2, 0, .inl (cy 3, 6, .inr (.inr (.inr (.inr (fun x => if (x : Int) < (j : Int) then some (aw 12 (x : Int)) else none))))))) → (E x_a3 = some (3, 0, .inl (cy 0, 60, .inl (fun _ => iI 0)))) → (E x_a4 = some (4, 0, .inl (cy 0, 60, .inl (fun _ => iI 0)))) → (E x_a5 = some (5, 0, .inl (cy 4, 20, .inr (.inr (.inr (.inr (fun _ => none))))))) → (E x_a6 = some (6, 0, .inl (cy 0, 5, .inl (fun _ => iI 0)))) → (E x_n7 = some (7, 0, .inr (1, [.ref x_a8]))) → (E x_a8 = some (8, 0, .inl (cy 1, 5, .inr (.inl (fun _ => lI 0))))) → (E x_a9 = some (9, 0, .inl (cy 0, 5, .inl (fun _ => iI 0)))) → (E x_a10 = some (10, 0, .inl (cy 0, 5, .inl (fun _ => iI 0)))) → (E x_a11 = some (11, 0, .inl (cy 0, 5, .inl (fun _ => iI 0)))) → (∀ x : Int, 0 ≤ x → x < (j : Int) → ∀ kd : Nat, 12 ≤ kd → kd ≤ 18 → E (aw kd x) = some (kd, x, wM cy aw σ0 kd x)) → GW p l e ({ frames := 3, cells := 113, slots := 645, locals := 43 } : Room) s m args below meth c cy D (Af (One h (0, 0, .inr (3, [.null, .int (iI 0), .int (iI 0), .null, .int (iI 0), .null, .null, .int (iI 0), .null, .int (iI 0), .null, .null, .null, .null, .null]))) s.heap.size) 2 (11 + 7 * j) (177 + 38 * j) (MQ below (QcG D (One h (0, 0, .inr (3, [.null, .int (iI 0), .int (iI 0), .null, .int (iI 0), .null, .null, .int (iI 0), .null, .int (iI 0), .null, .null, .null, .null, .null]))) (fun E1 => ∃ ad : Ad, ad 0 0 = h ∧ ∀ (kd : Nat) (k : Int), kd < 22 → 0 ≤ k → k < cnt kd → E1 (ad kd k) = some (kd, k, wI cy ad σ0 kd k)) s.heap.size) args s 113 645 (Af (One h (0, 0, .inr (3, [.null, .int (iI 0), .int (iI 0), .null, .int (iI 0), .null, .null, .int (iI 0), .null, .int (iI 0), .null, .null, .null, .null, .null]))) s.heap.size)) E 122 [some (.ref h), some (.int (iI (j : Int)))] [] := by
    intro n
    induction n with
    | zero => intro j E aw x_a1 x_a2 x_a3 x_a4 x_a5 x_a6 x_n7 x_a8 x_a9 x_a10 x_a11 h1 h2; omega
    | succ n ih =>
      intro j E aw x_a1 x_a2 x_a3 x_a4 x_a5 x_a6 x_n7 x_a8 x_a9 x_a10 x_a11 h1 h2 f_O f_a1 f_a2 f_a3 f_a4 f_a5 f_a6 f_n7 f_a8 f_a9 f_a10 f_a11 f_W
      refine G_iload_1 C dX3_init_122 ?_
      refine G_bipush C (by decide) dX3_init_123 ?_
      refine G_icmp_ge (tgt := 147) C (by omega) (by omega) dX3_init_125 (by decide) (fun c => ?_) (fun c => ?_)
      · have e6 : j = 6 := by omega
        subst e6
        refine G_iconst C dX3_init_147 ?_
        refine G_istore_1 C (by decide) rfl dX3_init_148 ?_
        refine K149 21 0 E aw (fun _ _ => 0) x_a1 x_a2 x_a3 x_a4 x_a5 x_a6 x_n7 x_a8 x_a9 x_a10 x_a11 (by decide) (by decide) f_O f_a1 f_a2 f_a3 f_a4 (f_a5.trans ?_) f_a6 f_n7 f_a8 f_a9 f_a10 f_a11 f_W (fun x a b => absurd b (by omega))
        congr 8
      · have hj : j < 6 := by omega
        refine G_aload_0 C dX3_init_128 ?_
        refine G_get (f := 3) C in_X3_init_X3 rfl f_O (by decide) w_X3_init_f22 rfl rfl dX3_init_129 ?_
        refine G_iload_1 C dX3_init_132 ?_
        refine G_new (ci := 2) (fs := [.int (iI 0), .int (iI 0), .null, .null, .null, .null, .null, .null]) C 12 (j : Int) in_X3_init_X2 tyX2 tyX2_ok w_X3_init_cl20 w_X3_init_insX2 w_X3_init_nX2 rfl (by decide) ⟨by dsimp only; omega, by dsimp only; omega⟩ dX3_init_133 (fun q1 E1 hf1 hn1 hk1 => ?_)
        replace f_O := hk1 _ _ f_O
        replace f_a1 := hk1 _ _ f_a1
        replace f_a2 := hk1 _ _ f_a2
        replace f_a3 := hk1 _ _ f_a3
        replace f_a4 := hk1 _ _ f_a4
        replace f_a5 := hk1 _ _ f_a5
        replace f_a6 := hk1 _ _ f_a6
        replace f_n7 := hk1 _ _ f_n7
        replace f_a8 := hk1 _ _ f_a8
        replace f_a9 := hk1 _ _ f_a9
        replace f_a10 := hk1 _ _ f_a10
        replace f_a11 := hk1 _ _ f_a11
        replace f_W := fun x a b kd c d => hk1 _ _ (f_W x a b kd c d)
        have f_n12 : E1 q1 = some (12, (j : Int), .inr (2, [.int (iI 0), .int (iI 0), .null, .null, .null, .null, .null, .null])) := hn1
        refine G_dup C rfl dX3_init_136 ?_
        refine G_KI C (k_X2_init q1 (j : Int)) (cwI 0 C.1.2.2.2.2 gX3_init_X2_init rfl rfl rfl (C.1.2.2.2.2 _ w_X3_init_nX2) (C.1.2.2.2.2 _ w_X3_init_ml66) (C.1.2.2.2.2 _ w_X3_init_imX2) rfl (by decide +kernel) ⟨Nat.le_of_ble_eq_true rfl, Nat.le_of_ble_eq_true rfl⟩) f_n12 rfl (Nat.le_of_ble_eq_true rfl) dX3_init_137 ⟨by dsimp only; omega, by dsimp only; omega⟩ (fun E1_2 hp2 E2 hm2 hk2 => ?_)
        obtain ⟨q13_2, q14_2, q15_2, q16_2, q17_2, q18_2, g_O, g_q13, g_q14, g_q15, g_q16, g_q17, g_q18⟩ := hp2
        replace f_O := hk2 _ _ _ _ f_O (Or.inl (by decide))
        replace f_a1 := hk2 _ _ _ _ f_a1 (Or.inl (by decide))
        replace f_a2 := hk2 _ _ _ _ f_a2 (Or.inl (by decide))
        replace f_a3 := hk2 _ _ _ _ f_a3 (Or.inl (by decide))
        replace f_a4 := hk2 _ _ _ _ f_a4 (Or.inl (by decide))
        replace f_a5 := hk2 _ _ _ _ f_a5 (Or.inl (by decide))
        replace f_a6 := hk2 _ _ _ _ f_a6 (Or.inl (by decide))
        replace f_n7 := hk2 _ _ _ _ f_n7 (Or.inl (by decide))
        replace f_a8 := hk2 _ _ _ _ f_a8 (Or.inl (by decide))
        replace f_a9 := hk2 _ _ _ _ f_a9 (Or.inl (by decide))
        replace f_a10 := hk2 _ _ _ _ f_a10 (Or.inl (by decide))
        replace f_a11 := hk2 _ _ _ _ f_a11 (Or.inl (by decide))
        replace f_W := fun x a b kd c d => hk2 _ _ _ _ (f_W x a b kd c d) (by omega)
        have f_n12 : E2 q1 = some (12, (j : Int), .inr (2, [.int (iI 300), .int (iI 0), .ref q13_2, .ref q14_2, .ref q15_2, .ref q16_2, .ref q17_2, .ref q18_2])) := hm2 _ _ g_O
        have f_a13 : E2 q13_2 = some (13, (j : Int), .inl (cy 2, 5, .inl (fun _ => iI 0))) := hm2 _ _ g_q13
        have f_a14 : E2 q14_2 = some (14, (j : Int), .inl (cy 2, 5, .inl (fun _ => iI 0))) := hm2 _ _ g_q14
        have f_a15 : E2 q15_2 = some (15, (j : Int), .inl (cy 1, 5, .inr (.inl (fun _ => lI 0)))) := hm2 _ _ g_q15
        have f_a16 : E2 q16_2 = some (16, (j : Int), .inl (cy 0, 5, .inl (fun j => if (j : Int) < 5 then iI (-1) else iI 0))) := hm2 _ _ g_q16
        have f_a17 : E2 q17_2 = some (17, (j : Int), .inl (cy 0, 5, .inl (fun _ => iI 0))) := hm2 _ _ g_q17
        have f_a18 : E2 q18_2 = some (18, (j : Int), .inl (cy 0, 5, .inl (fun _ => iI 0))) := hm2 _ _ g_q18
        refine G_aastW C f_a2 f_n12 (by decide) ⟨by omega, by omega⟩ dX3_init_140 (fun E3 hn3 hk3 => ?_)
        replace f_O := hk3 _ _ _ _ f_O (Or.inl (by decide))
        replace f_a1 := hk3 _ _ _ _ f_a1 (Or.inl (by decide))
        replace f_a3 := hk3 _ _ _ _ f_a3 (Or.inl (by decide))
        replace f_a4 := hk3 _ _ _ _ f_a4 (Or.inl (by decide))
        replace f_a5 := hk3 _ _ _ _ f_a5 (Or.inl (by decide))
        replace f_a6 := hk3 _ _ _ _ f_a6 (Or.inl (by decide))
        replace f_n7 := hk3 _ _ _ _ f_n7 (Or.inl (by decide))
        replace f_a8 := hk3 _ _ _ _ f_a8 (Or.inl (by decide))
        replace f_a9 := hk3 _ _ _ _ f_a9 (Or.inl (by decide))
        replace f_a10 := hk3 _ _ _ _ f_a10 (Or.inl (by decide))
        replace f_a11 := hk3 _ _ _ _ f_a11 (Or.inl (by decide))
        replace f_n12 := hk3 _ _ _ _ f_n12 (Or.inl (by decide))
        replace f_a13 := hk3 _ _ _ _ f_a13 (Or.inl (by decide))
        replace f_a14 := hk3 _ _ _ _ f_a14 (Or.inl (by decide))
        replace f_a15 := hk3 _ _ _ _ f_a15 (Or.inl (by decide))
        replace f_a16 := hk3 _ _ _ _ f_a16 (Or.inl (by decide))
        replace f_a17 := hk3 _ _ _ _ f_a17 (Or.inl (by decide))
        replace f_a18 := hk3 _ _ _ _ f_a18 (Or.inl (by decide))
        replace f_W := fun x a b kd c d => hk3 _ _ _ _ (f_W x a b kd c d) (by omega)
        replace f_a2 := hn3
        refine G_iinc1 C (by decide) rfl dX3_init_141 ?_
        refine G_goto (tgt := 122) C dX3_init_144 (by decide) ?_
        have haj : ∀ x y : Int, ∀ kd : Nat, (fun (kd : Nat) (x : Int) => if x = (j : Int) then (if kd = 12 then q1 else if kd = 13 then q13_2 else if kd = 14 then q14_2 else if kd = 15 then q15_2 else if kd = 16 then q16_2 else if kd = 17 then q17_2 else q18_2) else aw kd x) kd x = if x = (j : Int) then (if kd = 12 then q1 else if kd = 13 then q13_2 else if kd = 14 then q14_2 else if kd = 15 then q15_2 else if kd = 16 then q16_2 else if kd = 17 then q17_2 else q18_2) else aw kd x := fun _ _ _ => rfl
        generalize hak : (fun (kd : Nat) (x : Int) => if x = (j : Int) then (if kd = 12 then q1 else if kd = 13 then q13_2 else if kd = 14 then q14_2 else if kd = 15 then q15_2 else if kd = 16 then q16_2 else if kd = 17 then q17_2 else q18_2) else aw kd x) = aw2 at haj
        refine G_wid (11 + 7 * (j + 1)) (177 + 38 * (j + 1)) (by omega) (by omega) (ih (j + 1) _ aw2 x_a1 x_a2 x_a3 x_a4 x_a5 x_a6 x_n7 x_a8 x_a9 x_a10 x_a11 (by omega) (by omega) f_O f_a1 (f_a2.trans ?_) f_a3 f_a4 f_a5 f_a6 f_n7 f_a8 f_a9 f_a10 f_a11 (fun x a b kd c1 c2 => ?_))
        · congr 10
          funext x
          rw [haj _ 0 12]
          by_cases e : (x : Int) = (j : Int)
          · rw [if_pos e, if_pos e, if_pos (by omega), if_pos rfl]
          · rw [if_neg e, if_neg e]; by_cases e2 : (x : Int) < (j : Int); (· rw [if_pos e2, if_pos (by omega)]); (· rw [if_neg e2, if_neg (by omega)])
        · by_cases e : x = (j : Int)
          · subst e
            have z := fun kd => haj (j : Int) 0 kd
            simp only [if_true] at z
            obtain rfl | rfl | rfl | rfl | rfl | rfl | rfl : kd = 12 ∨ kd = 13 ∨ kd = 14 ∨ kd = 15 ∨ kd = 16 ∨ kd = 17 ∨ kd = 18 := by omega
            · rw [z]; refine Eq.trans f_n12 ?_; simp only [wM, z]; rfl
            · rw [z]; exact f_a13
            · rw [z]; exact f_a14
            · rw [z]; exact f_a15
            · rw [z]; exact f_a16.trans (congrArg (fun f => some (16, (j : Int), (Sum.inl (cy 0, 5, Sum.inl f) : va_E))) row16)
            · rw [z]; exact f_a17
            · rw [z]; exact f_a18
          · have z : ∀ y, aw2 y x = aw y x := fun y => by rw [haj x 0 y, if_neg e]
            rw [z, wM_w c1 c2 z]
            exact f_W x a (by omega) kd c1 c2
  have f_O : One h (0, 0, .inr (3, [.null, .int (iI 0), .int (iI 0), .null, .int (iI 0), .null, .null, .int (iI 0), .null, .int (iI 0), .null, .null, .null, .null, .null])) h = some (0, 0, .inr (3, [.null, .int (iI 0), .int (iI 0), .null, .int (iI 0), .null, .null, .int (iI 0), .null, .int (iI 0), .null, .null, .null, .null, .null])) := if_pos rfl
  refine G_aload_0 C dX3_init_0 ?_
  refine G_objInit C w_X3_init_o1 w_X3_init_oi w_X3_init_oc ⟨Nat.le_of_ble_eq_true rfl, Nat.le_of_ble_eq_true rfl⟩ dX3_init_1 ?_
  refine G_aload_0 C dX3_init_4 ?_
  refine G_iconst C dX3_init_5 ?_
  refine G_newa_int (N := 5) C 1 0 w_X3_init_acint ⟨by decide, by decide⟩ (by decide) ⟨Nat.le_of_ble_eq_true rfl, Nat.le_of_ble_eq_true rfl⟩ dX3_init_6 (fun q1 E1 hf1 hn1 hk1 => ?_)
  replace f_O := hk1 _ _ f_O
  have f_a1 : E1 q1 = some (1, 0, .inl (cy 0, 5, .inl (fun _ => iI 0))) := hn1
  refine G_put (f := 0) (ty := .array .int) C in_X3_init_X3 tyX3 tyX3_ok nmX3 rfl f_O (by decide) w_X3_init_f9 rfl (Or.inl ⟨rfl, hin, rfl⟩) (by decide +kernel) rfl rfl (Nat.le_of_ble_eq_true rfl) dX3_init_8 (fun E2 hn2 hk2 => ?_)
  replace f_a1 := hk2 _ _ _ _ f_a1 (Or.inl (by decide))
  have f_O : E2 h = some (0, 0, .inr (3, [.ref q1, .int (iI 0), .int (iI 0), .null, .int (iI 0), .null, .null, .int (iI 0), .null, .int (iI 0), .null, .null, .null, .null, .null])) := hn2
  refine G_aload_0 C dX3_init_11 ?_
  refine G_sipush C (by decide) dX3_init_12 ?_
  refine G_put (f := 1) (ty := .int) C in_X3_init_X3 tyX3 tyX3_ok nmX3 rfl f_O (by decide) w_X3_init_f13 rfl (Or.inr rfl) (by decide +kernel) rfl rfl (Nat.le_of_ble_eq_true rfl) dX3_init_15 (fun E3 hn3 hk3 => ?_)
  replace f_a1 := hk3 _ _ _ _ f_a1 (Or.inl (by decide))
  have f_O : E3 h = some (0, 0, .inr (3, [.ref q1, .int (iI 300), .int (iI 0), .null, .int (iI 0), .null, .null, .int (iI 0), .null, .int (iI 0), .null, .null, .null, .null, .null])) := hn3
  refine G_aload_0 C dX3_init_18 ?_
  refine G_iconst C dX3_init_19 ?_
  refine G_put (f := 2) (ty := .int) C in_X3_init_X3 tyX3 tyX3_ok nmX3 rfl f_O (by decide) w_X3_init_f17 rfl (Or.inr rfl) (by decide +kernel) rfl rfl (Nat.le_of_ble_eq_true rfl) dX3_init_20 (fun E4 hn4 hk4 => ?_)
  replace f_a1 := hk4 _ _ _ _ f_a1 (Or.inl (by decide))
  have f_O : E4 h = some (0, 0, .inr (3, [.ref q1, .int (iI 300), .int (iI 0), .null, .int (iI 0), .null, .null, .int (iI 0), .null, .int (iI 0), .null, .null, .null, .null, .null])) := hn4
  refine G_aload_0 C dX3_init_23 ?_
  refine G_bipush C (by decide) dX3_init_24 ?_
  refine G_anewW (N := 6) C 2 0 w_X3_init_cl20 ⟨by decide, by decide⟩ (by decide) ⟨Nat.le_of_ble_eq_true rfl, Nat.le_of_ble_eq_true rfl⟩ dX3_init_26 (fun q5 E5 hf5 hn5 hk5 => ?_)
  replace f_O := hk5 _ _ f_O
  replace f_a1 := hk5 _ _ f_a1
  have f_a2 : E5 q5 = some (2, 0, .inl (cy 3, 6, .inr (.inr (.inr (.inr (fun _ => none)))))) := hn5
  refine G_put (f := 3) (ty := .array (.object "JointVenture$Well")) C in_X3_init_X3 tyX3 tyX3_ok nmX3 rfl f_O (by decide) w_X3_init_f22 rfl (Or.inl ⟨rfl, hin, rfl⟩) (by decide +kernel) rfl rfl (Nat.le_of_ble_eq_true rfl) dX3_init_29 (fun E6 hn6 hk6 => ?_)
  replace f_a1 := hk6 _ _ _ _ f_a1 (Or.inl (by decide))
  replace f_a2 := hk6 _ _ _ _ f_a2 (Or.inl (by decide))
  have f_O : E6 h = some (0, 0, .inr (3, [.ref q1, .int (iI 300), .int (iI 0), .ref q5, .int (iI 0), .null, .null, .int (iI 0), .null, .int (iI 0), .null, .null, .null, .null, .null])) := hn6
  refine G_aload_0 C dX3_init_32 ?_
  refine G_iconst C dX3_init_33 ?_
  refine G_put (f := 4) (ty := .int) C in_X3_init_X3 tyX3 tyX3_ok nmX3 rfl f_O (by decide) w_X3_init_f26 rfl (Or.inr rfl) (by decide +kernel) rfl rfl (Nat.le_of_ble_eq_true rfl) dX3_init_34 (fun E7 hn7 hk7 => ?_)
  replace f_a1 := hk7 _ _ _ _ f_a1 (Or.inl (by decide))
  replace f_a2 := hk7 _ _ _ _ f_a2 (Or.inl (by decide))
  have f_O : E7 h = some (0, 0, .inr (3, [.ref q1, .int (iI 300), .int (iI 0), .ref q5, .int (iI 0), .null, .null, .int (iI 0), .null, .int (iI 0), .null, .null, .null, .null, .null])) := hn7
  refine G_aload_0 C dX3_init_37 ?_
  refine G_bipush C (by decide) dX3_init_38 ?_
  refine G_newa_int (N := 60) C 3 0 w_X3_init_acint ⟨by decide, by decide⟩ (by decide) ⟨Nat.le_of_ble_eq_true rfl, Nat.le_of_ble_eq_true rfl⟩ dX3_init_40 (fun q8 E8 hf8 hn8 hk8 => ?_)
  replace f_O := hk8 _ _ f_O
  replace f_a1 := hk8 _ _ f_a1
  replace f_a2 := hk8 _ _ f_a2
  have f_a3 : E8 q8 = some (3, 0, .inl (cy 0, 60, .inl (fun _ => iI 0))) := hn8
  refine G_put (f := 5) (ty := .array .int) C in_X3_init_X3 tyX3 tyX3_ok nmX3 rfl f_O (by decide) w_X3_init_f29 rfl (Or.inl ⟨rfl, hin, rfl⟩) (by decide +kernel) rfl rfl (Nat.le_of_ble_eq_true rfl) dX3_init_42 (fun E9 hn9 hk9 => ?_)
  replace f_a1 := hk9 _ _ _ _ f_a1 (Or.inl (by decide))
  replace f_a2 := hk9 _ _ _ _ f_a2 (Or.inl (by decide))
  replace f_a3 := hk9 _ _ _ _ f_a3 (Or.inl (by decide))
  have f_O : E9 h = some (0, 0, .inr (3, [.ref q1, .int (iI 300), .int (iI 0), .ref q5, .int (iI 0), .ref q8, .null, .int (iI 0), .null, .int (iI 0), .null, .null, .null, .null, .null])) := hn9
  refine G_aload_0 C dX3_init_45 ?_
  refine G_bipush C (by decide) dX3_init_46 ?_
  refine G_newa_int (N := 60) C 4 0 w_X3_init_acint ⟨by decide, by decide⟩ (by decide) ⟨Nat.le_of_ble_eq_true rfl, Nat.le_of_ble_eq_true rfl⟩ dX3_init_48 (fun q10 E10 hf10 hn10 hk10 => ?_)
  replace f_O := hk10 _ _ f_O
  replace f_a1 := hk10 _ _ f_a1
  replace f_a2 := hk10 _ _ f_a2
  replace f_a3 := hk10 _ _ f_a3
  have f_a4 : E10 q10 = some (4, 0, .inl (cy 0, 60, .inl (fun _ => iI 0))) := hn10
  refine G_put (f := 6) (ty := .array .int) C in_X3_init_X3 tyX3 tyX3_ok nmX3 rfl f_O (by decide) w_X3_init_f32 rfl (Or.inl ⟨rfl, hin, rfl⟩) (by decide +kernel) rfl rfl (Nat.le_of_ble_eq_true rfl) dX3_init_50 (fun E11 hn11 hk11 => ?_)
  replace f_a1 := hk11 _ _ _ _ f_a1 (Or.inl (by decide))
  replace f_a2 := hk11 _ _ _ _ f_a2 (Or.inl (by decide))
  replace f_a3 := hk11 _ _ _ _ f_a3 (Or.inl (by decide))
  replace f_a4 := hk11 _ _ _ _ f_a4 (Or.inl (by decide))
  have f_O : E11 h = some (0, 0, .inr (3, [.ref q1, .int (iI 300), .int (iI 0), .ref q5, .int (iI 0), .ref q8, .ref q10, .int (iI 0), .null, .int (iI 0), .null, .null, .null, .null, .null])) := hn11
  refine G_aload_0 C dX3_init_53 ?_
  refine G_iconst C dX3_init_54 ?_
  refine G_put (f := 7) (ty := .int) C in_X3_init_X3 tyX3 tyX3_ok nmX3 rfl f_O (by decide) w_X3_init_f35 rfl (Or.inr rfl) (by decide +kernel) rfl rfl (Nat.le_of_ble_eq_true rfl) dX3_init_55 (fun E12 hn12 hk12 => ?_)
  replace f_a1 := hk12 _ _ _ _ f_a1 (Or.inl (by decide))
  replace f_a2 := hk12 _ _ _ _ f_a2 (Or.inl (by decide))
  replace f_a3 := hk12 _ _ _ _ f_a3 (Or.inl (by decide))
  replace f_a4 := hk12 _ _ _ _ f_a4 (Or.inl (by decide))
  have f_O : E12 h = some (0, 0, .inr (3, [.ref q1, .int (iI 300), .int (iI 0), .ref q5, .int (iI 0), .ref q8, .ref q10, .int (iI 0), .null, .int (iI 0), .null, .null, .null, .null, .null])) := hn12
  refine G_aload_0 C dX3_init_58 ?_
  refine G_bipush C (by decide) dX3_init_59 ?_
  refine G_anewC (N := 20) C 5 0 w_X3_init_cl38 ⟨by decide, by decide⟩ (by decide) ⟨Nat.le_of_ble_eq_true rfl, Nat.le_of_ble_eq_true rfl⟩ dX3_init_61 (fun q13 E13 hf13 hn13 hk13 => ?_)
  replace f_O := hk13 _ _ f_O
  replace f_a1 := hk13 _ _ f_a1
  replace f_a2 := hk13 _ _ f_a2
  replace f_a3 := hk13 _ _ f_a3
  replace f_a4 := hk13 _ _ f_a4
  have f_a5 : E13 q13 = some (5, 0, .inl (cy 4, 20, .inr (.inr (.inr (.inr (fun _ => none)))))) := hn13
  refine G_put (f := 8) (ty := .array (.object "JointVenture$CashCall")) C in_X3_init_X3 tyX3 tyX3_ok nmX3 rfl f_O (by decide) w_X3_init_f40 rfl (Or.inl ⟨rfl, hin, rfl⟩) (by decide +kernel) rfl rfl (Nat.le_of_ble_eq_true rfl) dX3_init_64 (fun E14 hn14 hk14 => ?_)
  replace f_a1 := hk14 _ _ _ _ f_a1 (Or.inl (by decide))
  replace f_a2 := hk14 _ _ _ _ f_a2 (Or.inl (by decide))
  replace f_a3 := hk14 _ _ _ _ f_a3 (Or.inl (by decide))
  replace f_a4 := hk14 _ _ _ _ f_a4 (Or.inl (by decide))
  replace f_a5 := hk14 _ _ _ _ f_a5 (Or.inl (by decide))
  have f_O : E14 h = some (0, 0, .inr (3, [.ref q1, .int (iI 300), .int (iI 0), .ref q5, .int (iI 0), .ref q8, .ref q10, .int (iI 0), .ref q13, .int (iI 0), .null, .null, .null, .null, .null])) := hn14
  refine G_aload_0 C dX3_init_67 ?_
  refine G_iconst C dX3_init_68 ?_
  refine G_put (f := 9) (ty := .int) C in_X3_init_X3 tyX3 tyX3_ok nmX3 rfl f_O (by decide) w_X3_init_f44 rfl (Or.inr rfl) (by decide +kernel) rfl rfl (Nat.le_of_ble_eq_true rfl) dX3_init_69 (fun E15 hn15 hk15 => ?_)
  replace f_a1 := hk15 _ _ _ _ f_a1 (Or.inl (by decide))
  replace f_a2 := hk15 _ _ _ _ f_a2 (Or.inl (by decide))
  replace f_a3 := hk15 _ _ _ _ f_a3 (Or.inl (by decide))
  replace f_a4 := hk15 _ _ _ _ f_a4 (Or.inl (by decide))
  replace f_a5 := hk15 _ _ _ _ f_a5 (Or.inl (by decide))
  have f_O : E15 h = some (0, 0, .inr (3, [.ref q1, .int (iI 300), .int (iI 0), .ref q5, .int (iI 0), .ref q8, .ref q10, .int (iI 0), .ref q13, .int (iI 0), .null, .null, .null, .null, .null])) := hn15
  refine G_aload_0 C dX3_init_72 ?_
  refine G_iconst C dX3_init_73 ?_
  refine G_newa_int (N := 5) C 6 0 w_X3_init_acint ⟨by decide, by decide⟩ (by decide) ⟨Nat.le_of_ble_eq_true rfl, Nat.le_of_ble_eq_true rfl⟩ dX3_init_74 (fun q16 E16 hf16 hn16 hk16 => ?_)
  replace f_O := hk16 _ _ f_O
  replace f_a1 := hk16 _ _ f_a1
  replace f_a2 := hk16 _ _ f_a2
  replace f_a3 := hk16 _ _ f_a3
  replace f_a4 := hk16 _ _ f_a4
  replace f_a5 := hk16 _ _ f_a5
  have f_a6 : E16 q16 = some (6, 0, .inl (cy 0, 5, .inl (fun _ => iI 0))) := hn16
  refine G_put (f := 10) (ty := .array .int) C in_X3_init_X3 tyX3 tyX3_ok nmX3 rfl f_O (by decide) w_X3_init_f47 rfl (Or.inl ⟨rfl, hin, rfl⟩) (by decide +kernel) rfl rfl (Nat.le_of_ble_eq_true rfl) dX3_init_76 (fun E17 hn17 hk17 => ?_)
  replace f_a1 := hk17 _ _ _ _ f_a1 (Or.inl (by decide))
  replace f_a2 := hk17 _ _ _ _ f_a2 (Or.inl (by decide))
  replace f_a3 := hk17 _ _ _ _ f_a3 (Or.inl (by decide))
  replace f_a4 := hk17 _ _ _ _ f_a4 (Or.inl (by decide))
  replace f_a5 := hk17 _ _ _ _ f_a5 (Or.inl (by decide))
  replace f_a6 := hk17 _ _ _ _ f_a6 (Or.inl (by decide))
  have f_O : E17 h = some (0, 0, .inr (3, [.ref q1, .int (iI 300), .int (iI 0), .ref q5, .int (iI 0), .ref q8, .ref q10, .int (iI 0), .ref q13, .int (iI 0), .ref q16, .null, .null, .null, .null])) := hn17
  refine G_aload_0 C dX3_init_79 ?_
  refine G_new (ci := 1) (fs := [.null]) C 7 0 in_X3_init_X1 tyX1 tyX1_ok w_X3_init_cl50 w_X3_init_insX1 w_X3_init_nX1 rfl (by decide) ⟨Nat.le_of_ble_eq_true rfl, Nat.le_of_ble_eq_true rfl⟩ dX3_init_80 (fun q18 E18 hf18 hn18 hk18 => ?_)
  replace f_O := hk18 _ _ f_O
  replace f_a1 := hk18 _ _ f_a1
  replace f_a2 := hk18 _ _ f_a2
  replace f_a3 := hk18 _ _ f_a3
  replace f_a4 := hk18 _ _ f_a4
  replace f_a5 := hk18 _ _ f_a5
  replace f_a6 := hk18 _ _ f_a6
  have f_n7 : E18 q18 = some (7, 0, .inr (1, [.null])) := hn18
  refine G_dup C rfl dX3_init_83 ?_
  refine G_KIN C (k_X1_init q18 0) ⟨va_cnB 0 C.1.2.2.2.2 gX3_init_X1_init_n52 rfl rfl rfl C.2.2.2.2.2.2.1 (C.1.2.2.2.2 _ w_X3_init_nX1) (by decide +kernel) ⟨Nat.le_of_ble_eq_true rfl, Nat.le_of_ble_eq_true rfl⟩, rfl, C.1.2.2.2.2 _ w_X3_init_imX1⟩ f_n7 rfl (Nat.le_of_ble_eq_true rfl) dX3_init_84 ⟨Nat.le_of_ble_eq_true rfl, Nat.le_of_ble_eq_true rfl⟩ (fun E1_19 hp19 E19 hm19 hk19 => ?_)
  obtain ⟨q8_19, g_O, g_q8⟩ := hp19
  replace f_O := hk19 _ _ _ _ f_O (Or.inl (by decide))
  replace f_a1 := hk19 _ _ _ _ f_a1 (Or.inl (by decide))
  replace f_a2 := hk19 _ _ _ _ f_a2 (Or.inl (by decide))
  replace f_a3 := hk19 _ _ _ _ f_a3 (Or.inl (by decide))
  replace f_a4 := hk19 _ _ _ _ f_a4 (Or.inl (by decide))
  replace f_a5 := hk19 _ _ _ _ f_a5 (Or.inl (by decide))
  replace f_a6 := hk19 _ _ _ _ f_a6 (Or.inl (by decide))
  have f_n7 : E19 q18 = some (7, 0, .inr (1, [.ref q8_19])) := hm19 _ _ g_O
  have f_a8 : E19 q8_19 = some (8, 0, .inl (cy 1, 5, .inr (.inl (fun _ => lI 0)))) := hm19 _ _ g_q8
  refine G_put (f := 11) (ty := .object "JointVenture$Division") C in_X3_init_X3 tyX3 tyX3_ok nmX3 rfl f_O (by decide) w_X3_init_f53 rfl (Or.inl ⟨rfl, hin, rfl⟩) (by decide +kernel) rfl rfl (Nat.le_of_ble_eq_true rfl) dX3_init_87 (fun E20 hn20 hk20 => ?_)
  replace f_a1 := hk20 _ _ _ _ f_a1 (Or.inl (by decide))
  replace f_a2 := hk20 _ _ _ _ f_a2 (Or.inl (by decide))
  replace f_a3 := hk20 _ _ _ _ f_a3 (Or.inl (by decide))
  replace f_a4 := hk20 _ _ _ _ f_a4 (Or.inl (by decide))
  replace f_a5 := hk20 _ _ _ _ f_a5 (Or.inl (by decide))
  replace f_a6 := hk20 _ _ _ _ f_a6 (Or.inl (by decide))
  replace f_n7 := hk20 _ _ _ _ f_n7 (Or.inl (by decide))
  replace f_a8 := hk20 _ _ _ _ f_a8 (Or.inl (by decide))
  have f_O : E20 h = some (0, 0, .inr (3, [.ref q1, .int (iI 300), .int (iI 0), .ref q5, .int (iI 0), .ref q8, .ref q10, .int (iI 0), .ref q13, .int (iI 0), .ref q16, .ref q18, .null, .null, .null])) := hn20
  refine G_aload_0 C dX3_init_90 ?_
  refine G_iconst C dX3_init_91 ?_
  refine G_newa_int (N := 5) C 9 0 w_X3_init_acint ⟨by decide, by decide⟩ (by decide) ⟨Nat.le_of_ble_eq_true rfl, Nat.le_of_ble_eq_true rfl⟩ dX3_init_92 (fun q21 E21 hf21 hn21 hk21 => ?_)
  replace f_O := hk21 _ _ f_O
  replace f_a1 := hk21 _ _ f_a1
  replace f_a2 := hk21 _ _ f_a2
  replace f_a3 := hk21 _ _ f_a3
  replace f_a4 := hk21 _ _ f_a4
  replace f_a5 := hk21 _ _ f_a5
  replace f_a6 := hk21 _ _ f_a6
  replace f_n7 := hk21 _ _ f_n7
  replace f_a8 := hk21 _ _ f_a8
  have f_a9 : E21 q21 = some (9, 0, .inl (cy 0, 5, .inl (fun _ => iI 0))) := hn21
  refine G_put (f := 12) (ty := .array .int) C in_X3_init_X3 tyX3 tyX3_ok nmX3 rfl f_O (by decide) w_X3_init_f57 rfl (Or.inl ⟨rfl, hin, rfl⟩) (by decide +kernel) rfl rfl (Nat.le_of_ble_eq_true rfl) dX3_init_94 (fun E22 hn22 hk22 => ?_)
  replace f_a1 := hk22 _ _ _ _ f_a1 (Or.inl (by decide))
  replace f_a2 := hk22 _ _ _ _ f_a2 (Or.inl (by decide))
  replace f_a3 := hk22 _ _ _ _ f_a3 (Or.inl (by decide))
  replace f_a4 := hk22 _ _ _ _ f_a4 (Or.inl (by decide))
  replace f_a5 := hk22 _ _ _ _ f_a5 (Or.inl (by decide))
  replace f_a6 := hk22 _ _ _ _ f_a6 (Or.inl (by decide))
  replace f_n7 := hk22 _ _ _ _ f_n7 (Or.inl (by decide))
  replace f_a8 := hk22 _ _ _ _ f_a8 (Or.inl (by decide))
  replace f_a9 := hk22 _ _ _ _ f_a9 (Or.inl (by decide))
  have f_O : E22 h = some (0, 0, .inr (3, [.ref q1, .int (iI 300), .int (iI 0), .ref q5, .int (iI 0), .ref q8, .ref q10, .int (iI 0), .ref q13, .int (iI 0), .ref q16, .ref q18, .ref q21, .null, .null])) := hn22
  refine G_aload_0 C dX3_init_97 ?_
  refine G_iconst C dX3_init_98 ?_
  refine G_newa_int (N := 5) C 10 0 w_X3_init_acint ⟨by decide, by decide⟩ (by decide) ⟨Nat.le_of_ble_eq_true rfl, Nat.le_of_ble_eq_true rfl⟩ dX3_init_99 (fun q23 E23 hf23 hn23 hk23 => ?_)
  replace f_O := hk23 _ _ f_O
  replace f_a1 := hk23 _ _ f_a1
  replace f_a2 := hk23 _ _ f_a2
  replace f_a3 := hk23 _ _ f_a3
  replace f_a4 := hk23 _ _ f_a4
  replace f_a5 := hk23 _ _ f_a5
  replace f_a6 := hk23 _ _ f_a6
  replace f_n7 := hk23 _ _ f_n7
  replace f_a8 := hk23 _ _ f_a8
  replace f_a9 := hk23 _ _ f_a9
  have f_a10 : E23 q23 = some (10, 0, .inl (cy 0, 5, .inl (fun _ => iI 0))) := hn23
  refine G_put (f := 13) (ty := .array .int) C in_X3_init_X3 tyX3 tyX3_ok nmX3 rfl f_O (by decide) w_X3_init_f60 rfl (Or.inl ⟨rfl, hin, rfl⟩) (by decide +kernel) rfl rfl (Nat.le_of_ble_eq_true rfl) dX3_init_101 (fun E24 hn24 hk24 => ?_)
  replace f_a1 := hk24 _ _ _ _ f_a1 (Or.inl (by decide))
  replace f_a2 := hk24 _ _ _ _ f_a2 (Or.inl (by decide))
  replace f_a3 := hk24 _ _ _ _ f_a3 (Or.inl (by decide))
  replace f_a4 := hk24 _ _ _ _ f_a4 (Or.inl (by decide))
  replace f_a5 := hk24 _ _ _ _ f_a5 (Or.inl (by decide))
  replace f_a6 := hk24 _ _ _ _ f_a6 (Or.inl (by decide))
  replace f_n7 := hk24 _ _ _ _ f_n7 (Or.inl (by decide))
  replace f_a8 := hk24 _ _ _ _ f_a8 (Or.inl (by decide))
  replace f_a9 := hk24 _ _ _ _ f_a9 (Or.inl (by decide))
  replace f_a10 := hk24 _ _ _ _ f_a10 (Or.inl (by decide))
  have f_O : E24 h = some (0, 0, .inr (3, [.ref q1, .int (iI 300), .int (iI 0), .ref q5, .int (iI 0), .ref q8, .ref q10, .int (iI 0), .ref q13, .int (iI 0), .ref q16, .ref q18, .ref q21, .ref q23, .null])) := hn24
  refine G_aload_0 C dX3_init_104 ?_
  refine G_iconst C dX3_init_105 ?_
  refine G_newa_int (N := 5) C 11 0 w_X3_init_acint ⟨by decide, by decide⟩ (by decide) ⟨Nat.le_of_ble_eq_true rfl, Nat.le_of_ble_eq_true rfl⟩ dX3_init_106 (fun q25 E25 hf25 hn25 hk25 => ?_)
  replace f_O := hk25 _ _ f_O
  replace f_a1 := hk25 _ _ f_a1
  replace f_a2 := hk25 _ _ f_a2
  replace f_a3 := hk25 _ _ f_a3
  replace f_a4 := hk25 _ _ f_a4
  replace f_a5 := hk25 _ _ f_a5
  replace f_a6 := hk25 _ _ f_a6
  replace f_n7 := hk25 _ _ f_n7
  replace f_a8 := hk25 _ _ f_a8
  replace f_a9 := hk25 _ _ f_a9
  replace f_a10 := hk25 _ _ f_a10
  have f_a11 : E25 q25 = some (11, 0, .inl (cy 0, 5, .inl (fun _ => iI 0))) := hn25
  refine G_put (f := 14) (ty := .array .int) C in_X3_init_X3 tyX3 tyX3_ok nmX3 rfl f_O (by decide) w_X3_init_f63 rfl (Or.inl ⟨rfl, hin, rfl⟩) (by decide +kernel) rfl rfl (Nat.le_of_ble_eq_true rfl) dX3_init_108 (fun E26 hn26 hk26 => ?_)
  replace f_a1 := hk26 _ _ _ _ f_a1 (Or.inl (by decide))
  replace f_a2 := hk26 _ _ _ _ f_a2 (Or.inl (by decide))
  replace f_a3 := hk26 _ _ _ _ f_a3 (Or.inl (by decide))
  replace f_a4 := hk26 _ _ _ _ f_a4 (Or.inl (by decide))
  replace f_a5 := hk26 _ _ _ _ f_a5 (Or.inl (by decide))
  replace f_a6 := hk26 _ _ _ _ f_a6 (Or.inl (by decide))
  replace f_n7 := hk26 _ _ _ _ f_n7 (Or.inl (by decide))
  replace f_a8 := hk26 _ _ _ _ f_a8 (Or.inl (by decide))
  replace f_a9 := hk26 _ _ _ _ f_a9 (Or.inl (by decide))
  replace f_a10 := hk26 _ _ _ _ f_a10 (Or.inl (by decide))
  replace f_a11 := hk26 _ _ _ _ f_a11 (Or.inl (by decide))
  have f_O : E26 h = some (0, 0, .inr (3, [.ref q1, .int (iI 300), .int (iI 0), .ref q5, .int (iI 0), .ref q8, .ref q10, .int (iI 0), .ref q13, .int (iI 0), .ref q16, .ref q18, .ref q21, .ref q23, .ref q25])) := hn26
  refine G_aload_0 C dX3_init_111 ?_
  refine G_get (f := 0) C in_X3_init_X3 rfl f_O (by decide) w_X3_init_f9 rfl rfl dX3_init_112 ?_
  refine G_iconst C dX3_init_115 ?_
  refine G_sipush C (by decide) dX3_init_116 ?_
  refine G_iastore C f_a1 (by decide) ⟨by decide, by decide⟩ dX3_init_119 (fun E27 hn27 hk27 => ?_)
  replace f_O := hk27 _ _ _ _ f_O (Or.inl (by decide))
  replace f_a2 := hk27 _ _ _ _ f_a2 (Or.inl (by decide))
  replace f_a3 := hk27 _ _ _ _ f_a3 (Or.inl (by decide))
  replace f_a4 := hk27 _ _ _ _ f_a4 (Or.inl (by decide))
  replace f_a5 := hk27 _ _ _ _ f_a5 (Or.inl (by decide))
  replace f_a6 := hk27 _ _ _ _ f_a6 (Or.inl (by decide))
  replace f_n7 := hk27 _ _ _ _ f_n7 (Or.inl (by decide))
  replace f_a8 := hk27 _ _ _ _ f_a8 (Or.inl (by decide))
  replace f_a9 := hk27 _ _ _ _ f_a9 (Or.inl (by decide))
  replace f_a10 := hk27 _ _ _ _ f_a10 (Or.inl (by decide))
  replace f_a11 := hk27 _ _ _ _ f_a11 (Or.inl (by decide))
  have f_a1 : E27 q1 = some (1, 0, .inl (cy 0, 5, .inl (fun j => if (j : Int) = 0 then iI 10000 else iI 0))) := hn27
  refine G_iconst C dX3_init_120 ?_
  refine G_istore_1 C (by decide) rfl dX3_init_121 ?_
  refine K122 7 0 _ (fun _ _ => 0) q1 q5 q8 q10 q13 q16 q18 q8_19 q21 q23 q25 (by decide) (by decide) f_O f_a1 (f_a2.trans ?_) f_a3 f_a4 f_a5 f_a6 f_n7 f_a8 f_a9 f_a10 f_a11 (fun x a b => absurd b (by omega))
  congr 8
