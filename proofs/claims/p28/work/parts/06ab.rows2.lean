section JK
variable {p : Program} {l : Launch} {e : Env} {R : Room} {s : State} {m : MethodId} {args : Array Value} {below : List Frame} {meth : Method} {c : Code} {cy : Nat → ClassId} {D : va_G} {ad : Ad} {A : Nat → Prop} {nL : Nat} {cells slots : Nat} {Q : State → Prop} {σ : Sg} {pc : Nat} {lv : List (Option Value)} {st : List Value} {cc : ByteArray} {own : String} {Ts : List Cond}
theorem cmp_rng (x y : Int) : I32 (if y < x then 1 else if x = y then 0 else -1) := by split; omega; split <;> omega
theorem J_lif_eq (C : Cx p l e R s m args below meth c cy D ad A nL cc own Ts) {x y off : Int} {tgt : Nat} (hx : I64 x) (hy : I64 y) (d : decode cc pc = .ok (.lcmp, 1)) (d2 : decode cc (pc + 1) = .ok (.ifCond .eq off, 3)) (ht : ((pc + 1 : Nat) : Int) + off = (tgt : Int)) (k1 : x = y → JW p l e R s m args below meth c cy D ad A nL cells slots Q σ tgt lv st) (k2 : ¬ x = y → JW p l e R s m args below meth c cy D ad A nL cells slots Q σ (pc + 1 + 3) lv st) : JW p l e R s m args below meth c cy D ad A nL cells slots Q σ pc lv (.long (lI y) :: .long (lI x) :: st) := by
  refine J_lcmp C hx hy d (J_if_eq C (cmp_rng x y) d2 ht (fun z => k1 ?_) (fun z => k2 ?_))
  all_goals
    revert z
    by_cases h1 : y < x
    · rw [if_pos h1]; omega
    · rw [if_neg h1]
      by_cases h2 : x = y
      · rw [if_pos h2]; omega
      · rw [if_neg h2]; omega
theorem J_lif_ne (C : Cx p l e R s m args below meth c cy D ad A nL cc own Ts) {x y off : Int} {tgt : Nat} (hx : I64 x) (hy : I64 y) (d : decode cc pc = .ok (.lcmp, 1)) (d2 : decode cc (pc + 1) = .ok (.ifCond .ne off, 3)) (ht : ((pc + 1 : Nat) : Int) + off = (tgt : Int)) (k1 : ¬ x = y → JW p l e R s m args below meth c cy D ad A nL cells slots Q σ tgt lv st) (k2 : x = y → JW p l e R s m args below meth c cy D ad A nL cells slots Q σ (pc + 1 + 3) lv st) : JW p l e R s m args below meth c cy D ad A nL cells slots Q σ pc lv (.long (lI y) :: .long (lI x) :: st) := by
  refine J_lcmp C hx hy d (J_if_ne C (cmp_rng x y) d2 ht (fun z => k1 ?_) (fun z => k2 ?_))
  all_goals
    revert z
    by_cases h1 : y < x
    · rw [if_pos h1]; omega
    · rw [if_neg h1]
      by_cases h2 : x = y
      · rw [if_pos h2]; omega
      · rw [if_neg h2]; omega
theorem J_lif_lt (C : Cx p l e R s m args below meth c cy D ad A nL cc own Ts) {x y off : Int} {tgt : Nat} (hx : I64 x) (hy : I64 y) (d : decode cc pc = .ok (.lcmp, 1)) (d2 : decode cc (pc + 1) = .ok (.ifCond .lt off, 3)) (ht : ((pc + 1 : Nat) : Int) + off = (tgt : Int)) (k1 : x < y → JW p l e R s m args below meth c cy D ad A nL cells slots Q σ tgt lv st) (k2 : y ≤ x → JW p l e R s m args below meth c cy D ad A nL cells slots Q σ (pc + 1 + 3) lv st) : JW p l e R s m args below meth c cy D ad A nL cells slots Q σ pc lv (.long (lI y) :: .long (lI x) :: st) := by
  refine J_lcmp C hx hy d (J_if_lt C (cmp_rng x y) d2 ht (fun z => k1 ?_) (fun z => k2 ?_))
  all_goals
    revert z
    by_cases h1 : y < x
    · rw [if_pos h1]; omega
    · rw [if_neg h1]
      by_cases h2 : x = y
      · rw [if_pos h2]; omega
      · rw [if_neg h2]; omega
theorem J_lif_ge (C : Cx p l e R s m args below meth c cy D ad A nL cc own Ts) {x y off : Int} {tgt : Nat} (hx : I64 x) (hy : I64 y) (d : decode cc pc = .ok (.lcmp, 1)) (d2 : decode cc (pc + 1) = .ok (.ifCond .ge off, 3)) (ht : ((pc + 1 : Nat) : Int) + off = (tgt : Int)) (k1 : y ≤ x → JW p l e R s m args below meth c cy D ad A nL cells slots Q σ tgt lv st) (k2 : x < y → JW p l e R s m args below meth c cy D ad A nL cells slots Q σ (pc + 1 + 3) lv st) : JW p l e R s m args below meth c cy D ad A nL cells slots Q σ pc lv (.long (lI y) :: .long (lI x) :: st) := by
  refine J_lcmp C hx hy d (J_if_ge C (cmp_rng x y) d2 ht (fun z => k1 ?_) (fun z => k2 ?_))
  all_goals
    revert z
    by_cases h1 : y < x
    · rw [if_pos h1]; omega
    · rw [if_neg h1]
      by_cases h2 : x = y
      · rw [if_pos h2]; omega
      · rw [if_neg h2]; omega
theorem J_lif_gt (C : Cx p l e R s m args below meth c cy D ad A nL cc own Ts) {x y off : Int} {tgt : Nat} (hx : I64 x) (hy : I64 y) (d : decode cc pc = .ok (.lcmp, 1)) (d2 : decode cc (pc + 1) = .ok (.ifCond .gt off, 3)) (ht : ((pc + 1 : Nat) : Int) + off = (tgt : Int)) (k1 : y < x → JW p l e R s m args below meth c cy D ad A nL cells slots Q σ tgt lv st) (k2 : x ≤ y → JW p l e R s m args below meth c cy D ad A nL cells slots Q σ (pc + 1 + 3) lv st) : JW p l e R s m args below meth c cy D ad A nL cells slots Q σ pc lv (.long (lI y) :: .long (lI x) :: st) := by
  refine J_lcmp C hx hy d (J_if_gt C (cmp_rng x y) d2 ht (fun z => k1 ?_) (fun z => k2 ?_))
  all_goals
    revert z
    by_cases h1 : y < x
    · rw [if_pos h1]; omega
    · rw [if_neg h1]
      by_cases h2 : x = y
      · rw [if_pos h2]; omega
      · rw [if_neg h2]; omega
theorem J_lif_le (C : Cx p l e R s m args below meth c cy D ad A nL cc own Ts) {x y off : Int} {tgt : Nat} (hx : I64 x) (hy : I64 y) (d : decode cc pc = .ok (.lcmp, 1)) (d2 : decode cc (pc + 1) = .ok (.ifCond .le off, 3)) (ht : ((pc + 1 : Nat) : Int) + off = (tgt : Int)) (k1 : x ≤ y → JW p l e R s m args below meth c cy D ad A nL cells slots Q σ tgt lv st) (k2 : y < x → JW p l e R s m args below meth c cy D ad A nL cells slots Q σ (pc + 1 + 3) lv st) : JW p l e R s m args below meth c cy D ad A nL cells slots Q σ pc lv (.long (lI y) :: .long (lI x) :: st) := by
  refine J_lcmp C hx hy d (J_if_le C (cmp_rng x y) d2 ht (fun z => k1 ?_) (fun z => k2 ?_))
  all_goals
    revert z
    by_cases h1 : y < x
    · rw [if_pos h1]; omega
    · rw [if_neg h1]
      by_cases h2 : x = y
      · rw [if_pos h2]; omega
      · rw [if_neg h2]; omega
theorem J_alenI (C : Cx p l e R s m args below meth c cy D ad A nL cc own Ts) {kd n : Nat} {k : Int} (hK : IsI ad kd n) (hk : 0 ≤ k ∧ k < cnt kd) (d : decode cc pc = .ok (.arraylength, 1)) (kk : JW p l e R s m args below meth c cy D ad A nL cells slots Q σ (pc + 1) lv (.int (iI (n : Int)) :: st)) : JW p l e R s m args below meth c cy D ad A nL cells slots Q σ pc lv (.ref (ad kd k) :: st) := by
  intro H locs ls h1 h2 h3
  have hP := h1 kd k hk.1 hk.2 hK.2.1
  rw [hK.2.2 cy σ k] at hP
  have hP : H[ad kd k]? = some (arrV (cy 0) n (fun j => .int (iI (σ kd k (j : Int))))) := hP
  refine W.alen (n := iI (n : Int)) C.1.1 C.1.2.1 hP ((C.2.2.2.1.1.2 0 _ rfl).1 n (fun j => .int (iI (σ kd k (j : Int))))) ?_ rfl rfl d (kk H locs ls h1 h2 h3)
  rw [arrV_size]
  unfold iI
  rfl
theorem J_alenL (C : Cx p l e R s m args below meth c cy D ad A nL cc own Ts) {kd n : Nat} {k : Int} (hK : IsL ad kd n) (hk : 0 ≤ k ∧ k < cnt kd) (d : decode cc pc = .ok (.arraylength, 1)) (kk : JW p l e R s m args below meth c cy D ad A nL cells slots Q σ (pc + 1) lv (.int (iI (n : Int)) :: st)) : JW p l e R s m args below meth c cy D ad A nL cells slots Q σ pc lv (.ref (ad kd k) :: st) := by
  intro H locs ls h1 h2 h3
  have hP := h1 kd k hk.1 hk.2 hK.2.1
  rw [hK.2.2 cy σ k] at hP
  have hP : H[ad kd k]? = some (arrV (cy 1) n (fun j => .long (lI (σ kd k (j : Int))))) := hP
  refine W.alen (n := iI (n : Int)) C.1.1 C.1.2.1 hP ((C.2.2.2.1.1.2 1 _ rfl).1 n (fun j => .long (lI (σ kd k (j : Int))))) ?_ rfl rfl d (kk H locs ls h1 h2 h3)
  rw [arrV_size]
  unfold iI
  rfl
theorem J_alenZ (C : Cx p l e R s m args below meth c cy D ad A nL cc own Ts) {kd n : Nat} {k : Int} (hK : IsZ ad kd n) (hk : 0 ≤ k ∧ k < cnt kd) (d : decode cc pc = .ok (.arraylength, 1)) (kk : JW p l e R s m args below meth c cy D ad A nL cells slots Q σ (pc + 1) lv (.int (iI (n : Int)) :: st)) : JW p l e R s m args below meth c cy D ad A nL cells slots Q σ pc lv (.ref (ad kd k) :: st) := by
  intro H locs ls h1 h2 h3
  have hP := h1 kd k hk.1 hk.2 hK.2.1
  rw [hK.2.2 cy σ k] at hP
  have hP : H[ad kd k]? = some (arrV (cy 2) n (fun j => .int (iI (σ kd k (j : Int))))) := hP
  refine W.alen (n := iI (n : Int)) C.1.1 C.1.2.1 hP ((C.2.2.2.1.1.2 2 _ rfl).1 n (fun j => .int (iI (σ kd k (j : Int))))) ?_ rfl rfl d (kk H locs ls h1 h2 h3)
  rw [arrV_size]
  unfold iI
  rfl
theorem J_min (C : Cx p l e R s m args below meth c cy D ad A nL cc own Ts) {x y : Int} {idx : Nat} (hw : (Cond.methodLink own idx Lib.MathLoose.min_long.x ∈ Ts ∧ Cond.static Lib.MathLoose.min_long.x ∈ Ts) ∧ Cond.initialized "java/lang/Math" ∈ Ts ∧ Cond.code Lib.MathLoose.min_long.x Lib.MathLoose.min_long.code 4 (some .long) ∈ Ts) (hx : I64 x) (hy : I64 y) (d : decode cc pc = .ok (.invokestatic idx, 3)) (hf : 1 ≤ R.frames) (hW : (st.map fun v => v.category).sum + 15 ≤ R.locals) (hr : cells ≤ R.cells ∧ slots ≤ R.slots) (kk : JW p l e R s m args below meth c cy D ad A nL cells slots Q σ (pc + 3) lv (.long (lI (if y < x then y else x)) :: st)) : JW p l e R s m args below meth c cy D ad A nL cells slots Q σ pc lv (.long (lI y) :: .long (lI x) :: st) := by
  intro H locs ls h1 h2 h3
  have hts := C.1.2.2.2.2
  refine va_mmin_long C.1.1 C.1.2.1 (C.1.2.2.1.trans h3.1.symm) C.1.2.2.2.1 (hts _ hw.1.1) (hts _ hw.1.2) (hts _ hw.2.1) (hts _ hw.2.2) hf hW hr.1 hr.2 d ?_
  have e : (if lI y < lI x then lI y else lI x) = lI (if y < x then y else x) := by
    by_cases h : y < x
    · rw [if_pos h, if_pos ((lI_lt hy hx).mpr h)]
    · rw [if_neg h, if_neg (fun z => h ((lI_lt hy hx).mp z))]
  rw [e]
  exact kk H locs ls h1 h2 h3
theorem J_fg0 {b : Option Value} {t : List (Option Value)} (k : JW p l e R s m args below meth c cy D ad A nL cells slots Q σ pc (none :: t) st) : JW p l e R s m args below meth c cy D ad A nL cells slots Q σ pc (b :: t) st := by
  refine J_less (lv' := none :: t) (fun i v h => ?_) k
  by_cases hi : i = 0
  · subst hi; cases h
  · have e : (b :: t)[i]? = ((b :: t).set 0 none)[i]? := by rw [List.getElem?_set_ne (Ne.symm hi)]
    rw [e]; exact h
theorem J_fg1 {a0 : Option Value} {b : Option Value} {t : List (Option Value)} (k : JW p l e R s m args below meth c cy D ad A nL cells slots Q σ pc (a0 :: none :: t) st) : JW p l e R s m args below meth c cy D ad A nL cells slots Q σ pc (a0 :: b :: t) st := by
  refine J_less (lv' := a0 :: none :: t) (fun i v h => ?_) k
  by_cases hi : i = 1
  · subst hi; cases h
  · have e : (a0 :: b :: t)[i]? = ((a0 :: b :: t).set 1 none)[i]? := by rw [List.getElem?_set_ne (Ne.symm hi)]
    rw [e]; exact h
theorem J_fg2 {a0 a1 : Option Value} {b : Option Value} {t : List (Option Value)} (k : JW p l e R s m args below meth c cy D ad A nL cells slots Q σ pc (a0 :: a1 :: none :: t) st) : JW p l e R s m args below meth c cy D ad A nL cells slots Q σ pc (a0 :: a1 :: b :: t) st := by
  refine J_less (lv' := a0 :: a1 :: none :: t) (fun i v h => ?_) k
  by_cases hi : i = 2
  · subst hi; cases h
  · have e : (a0 :: a1 :: b :: t)[i]? = ((a0 :: a1 :: b :: t).set 2 none)[i]? := by rw [List.getElem?_set_ne (Ne.symm hi)]
    rw [e]; exact h
theorem J_fg3 {a0 a1 a2 : Option Value} {b : Option Value} {t : List (Option Value)} (k : JW p l e R s m args below meth c cy D ad A nL cells slots Q σ pc (a0 :: a1 :: a2 :: none :: t) st) : JW p l e R s m args below meth c cy D ad A nL cells slots Q σ pc (a0 :: a1 :: a2 :: b :: t) st := by
  refine J_less (lv' := a0 :: a1 :: a2 :: none :: t) (fun i v h => ?_) k
  by_cases hi : i = 3
  · subst hi; cases h
  · have e : (a0 :: a1 :: a2 :: b :: t)[i]? = ((a0 :: a1 :: a2 :: b :: t).set 3 none)[i]? := by rw [List.getElem?_set_ne (Ne.symm hi)]
    rw [e]; exact h
theorem J_fg4 {a0 a1 a2 a3 : Option Value} {b : Option Value} {t : List (Option Value)} (k : JW p l e R s m args below meth c cy D ad A nL cells slots Q σ pc (a0 :: a1 :: a2 :: a3 :: none :: t) st) : JW p l e R s m args below meth c cy D ad A nL cells slots Q σ pc (a0 :: a1 :: a2 :: a3 :: b :: t) st := by
  refine J_less (lv' := a0 :: a1 :: a2 :: a3 :: none :: t) (fun i v h => ?_) k
  by_cases hi : i = 4
  · subst hi; cases h
  · have e : (a0 :: a1 :: a2 :: a3 :: b :: t)[i]? = ((a0 :: a1 :: a2 :: a3 :: b :: t).set 4 none)[i]? := by rw [List.getElem?_set_ne (Ne.symm hi)]
    rw [e]; exact h
theorem J_fg5 {a0 a1 a2 a3 a4 : Option Value} {b : Option Value} {t : List (Option Value)} (k : JW p l e R s m args below meth c cy D ad A nL cells slots Q σ pc (a0 :: a1 :: a2 :: a3 :: a4 :: none :: t) st) : JW p l e R s m args below meth c cy D ad A nL cells slots Q σ pc (a0 :: a1 :: a2 :: a3 :: a4 :: b :: t) st := by
  refine J_less (lv' := a0 :: a1 :: a2 :: a3 :: a4 :: none :: t) (fun i v h => ?_) k
  by_cases hi : i = 5
  · subst hi; cases h
  · have e : (a0 :: a1 :: a2 :: a3 :: a4 :: b :: t)[i]? = ((a0 :: a1 :: a2 :: a3 :: a4 :: b :: t).set 5 none)[i]? := by rw [List.getElem?_set_ne (Ne.symm hi)]
    rw [e]; exact h
theorem J_fg6 {a0 a1 a2 a3 a4 a5 : Option Value} {b : Option Value} {t : List (Option Value)} (k : JW p l e R s m args below meth c cy D ad A nL cells slots Q σ pc (a0 :: a1 :: a2 :: a3 :: a4 :: a5 :: none :: t) st) : JW p l e R s m args below meth c cy D ad A nL cells slots Q σ pc (a0 :: a1 :: a2 :: a3 :: a4 :: a5 :: b :: t) st := by
  refine J_less (lv' := a0 :: a1 :: a2 :: a3 :: a4 :: a5 :: none :: t) (fun i v h => ?_) k
  by_cases hi : i = 6
  · subst hi; cases h
  · have e : (a0 :: a1 :: a2 :: a3 :: a4 :: a5 :: b :: t)[i]? = ((a0 :: a1 :: a2 :: a3 :: a4 :: a5 :: b :: t).set 6 none)[i]? := by rw [List.getElem?_set_ne (Ne.symm hi)]
    rw [e]; exact h
theorem J_fg7 {a0 a1 a2 a3 a4 a5 a6 : Option Value} {b : Option Value} {t : List (Option Value)} (k : JW p l e R s m args below meth c cy D ad A nL cells slots Q σ pc (a0 :: a1 :: a2 :: a3 :: a4 :: a5 :: a6 :: none :: t) st) : JW p l e R s m args below meth c cy D ad A nL cells slots Q σ pc (a0 :: a1 :: a2 :: a3 :: a4 :: a5 :: a6 :: b :: t) st := by
  refine J_less (lv' := a0 :: a1 :: a2 :: a3 :: a4 :: a5 :: a6 :: none :: t) (fun i v h => ?_) k
  by_cases hi : i = 7
  · subst hi; cases h
  · have e : (a0 :: a1 :: a2 :: a3 :: a4 :: a5 :: a6 :: b :: t)[i]? = ((a0 :: a1 :: a2 :: a3 :: a4 :: a5 :: a6 :: b :: t).set 7 none)[i]? := by rw [List.getElem?_set_ne (Ne.symm hi)]
    rw [e]; exact h
theorem J_fg8 {a0 a1 a2 a3 a4 a5 a6 a7 : Option Value} {b : Option Value} {t : List (Option Value)} (k : JW p l e R s m args below meth c cy D ad A nL cells slots Q σ pc (a0 :: a1 :: a2 :: a3 :: a4 :: a5 :: a6 :: a7 :: none :: t) st) : JW p l e R s m args below meth c cy D ad A nL cells slots Q σ pc (a0 :: a1 :: a2 :: a3 :: a4 :: a5 :: a6 :: a7 :: b :: t) st := by
  refine J_less (lv' := a0 :: a1 :: a2 :: a3 :: a4 :: a5 :: a6 :: a7 :: none :: t) (fun i v h => ?_) k
  by_cases hi : i = 8
  · subst hi; cases h
  · have e : (a0 :: a1 :: a2 :: a3 :: a4 :: a5 :: a6 :: a7 :: b :: t)[i]? = ((a0 :: a1 :: a2 :: a3 :: a4 :: a5 :: a6 :: a7 :: b :: t).set 8 none)[i]? := by rw [List.getElem?_set_ne (Ne.symm hi)]
    rw [e]; exact h
theorem J_fg9 {a0 a1 a2 a3 a4 a5 a6 a7 a8 : Option Value} {b : Option Value} {t : List (Option Value)} (k : JW p l e R s m args below meth c cy D ad A nL cells slots Q σ pc (a0 :: a1 :: a2 :: a3 :: a4 :: a5 :: a6 :: a7 :: a8 :: none :: t) st) : JW p l e R s m args below meth c cy D ad A nL cells slots Q σ pc (a0 :: a1 :: a2 :: a3 :: a4 :: a5 :: a6 :: a7 :: a8 :: b :: t) st := by
  refine J_less (lv' := a0 :: a1 :: a2 :: a3 :: a4 :: a5 :: a6 :: a7 :: a8 :: none :: t) (fun i v h => ?_) k
  by_cases hi : i = 9
  · subst hi; cases h
  · have e : (a0 :: a1 :: a2 :: a3 :: a4 :: a5 :: a6 :: a7 :: a8 :: b :: t)[i]? = ((a0 :: a1 :: a2 :: a3 :: a4 :: a5 :: a6 :: a7 :: a8 :: b :: t).set 9 none)[i]? := by rw [List.getElem?_set_ne (Ne.symm hi)]
    rw [e]; exact h
theorem J_fg10 {a0 a1 a2 a3 a4 a5 a6 a7 a8 a9 : Option Value} {b : Option Value} {t : List (Option Value)} (k : JW p l e R s m args below meth c cy D ad A nL cells slots Q σ pc (a0 :: a1 :: a2 :: a3 :: a4 :: a5 :: a6 :: a7 :: a8 :: a9 :: none :: t) st) : JW p l e R s m args below meth c cy D ad A nL cells slots Q σ pc (a0 :: a1 :: a2 :: a3 :: a4 :: a5 :: a6 :: a7 :: a8 :: a9 :: b :: t) st := by
  refine J_less (lv' := a0 :: a1 :: a2 :: a3 :: a4 :: a5 :: a6 :: a7 :: a8 :: a9 :: none :: t) (fun i v h => ?_) k
  by_cases hi : i = 10
  · subst hi; cases h
  · have e : (a0 :: a1 :: a2 :: a3 :: a4 :: a5 :: a6 :: a7 :: a8 :: a9 :: b :: t)[i]? = ((a0 :: a1 :: a2 :: a3 :: a4 :: a5 :: a6 :: a7 :: a8 :: a9 :: b :: t).set 10 none)[i]? := by rw [List.getElem?_set_ne (Ne.symm hi)]
    rw [e]; exact h
theorem J_fg11 {a0 a1 a2 a3 a4 a5 a6 a7 a8 a9 a10 : Option Value} {b : Option Value} {t : List (Option Value)} (k : JW p l e R s m args below meth c cy D ad A nL cells slots Q σ pc (a0 :: a1 :: a2 :: a3 :: a4 :: a5 :: a6 :: a7 :: a8 :: a9 :: a10 :: none :: t) st) : JW p l e R s m args below meth c cy D ad A nL cells slots Q σ pc (a0 :: a1 :: a2 :: a3 :: a4 :: a5 :: a6 :: a7 :: a8 :: a9 :: a10 :: b :: t) st := by
  refine J_less (lv' := a0 :: a1 :: a2 :: a3 :: a4 :: a5 :: a6 :: a7 :: a8 :: a9 :: a10 :: none :: t) (fun i v h => ?_) k
  by_cases hi : i = 11
  · subst hi; cases h
  · have e : (a0 :: a1 :: a2 :: a3 :: a4 :: a5 :: a6 :: a7 :: a8 :: a9 :: a10 :: b :: t)[i]? = ((a0 :: a1 :: a2 :: a3 :: a4 :: a5 :: a6 :: a7 :: a8 :: a9 :: a10 :: b :: t).set 11 none)[i]? := by rw [List.getElem?_set_ne (Ne.symm hi)]
    rw [e]; exact h
theorem J_fg12 {a0 a1 a2 a3 a4 a5 a6 a7 a8 a9 a10 a11 : Option Value} {b : Option Value} {t : List (Option Value)} (k : JW p l e R s m args below meth c cy D ad A nL cells slots Q σ pc (a0 :: a1 :: a2 :: a3 :: a4 :: a5 :: a6 :: a7 :: a8 :: a9 :: a10 :: a11 :: none :: t) st) : JW p l e R s m args below meth c cy D ad A nL cells slots Q σ pc (a0 :: a1 :: a2 :: a3 :: a4 :: a5 :: a6 :: a7 :: a8 :: a9 :: a10 :: a11 :: b :: t) st := by
  refine J_less (lv' := a0 :: a1 :: a2 :: a3 :: a4 :: a5 :: a6 :: a7 :: a8 :: a9 :: a10 :: a11 :: none :: t) (fun i v h => ?_) k
  by_cases hi : i = 12
  · subst hi; cases h
  · have e : (a0 :: a1 :: a2 :: a3 :: a4 :: a5 :: a6 :: a7 :: a8 :: a9 :: a10 :: a11 :: b :: t)[i]? = ((a0 :: a1 :: a2 :: a3 :: a4 :: a5 :: a6 :: a7 :: a8 :: a9 :: a10 :: a11 :: b :: t).set 12 none)[i]? := by rw [List.getElem?_set_ne (Ne.symm hi)]
    rw [e]; exact h
theorem J_fg13 {a0 a1 a2 a3 a4 a5 a6 a7 a8 a9 a10 a11 a12 : Option Value} {b : Option Value} {t : List (Option Value)} (k : JW p l e R s m args below meth c cy D ad A nL cells slots Q σ pc (a0 :: a1 :: a2 :: a3 :: a4 :: a5 :: a6 :: a7 :: a8 :: a9 :: a10 :: a11 :: a12 :: none :: t) st) : JW p l e R s m args below meth c cy D ad A nL cells slots Q σ pc (a0 :: a1 :: a2 :: a3 :: a4 :: a5 :: a6 :: a7 :: a8 :: a9 :: a10 :: a11 :: a12 :: b :: t) st := by
  refine J_less (lv' := a0 :: a1 :: a2 :: a3 :: a4 :: a5 :: a6 :: a7 :: a8 :: a9 :: a10 :: a11 :: a12 :: none :: t) (fun i v h => ?_) k
  by_cases hi : i = 13
  · subst hi; cases h
  · have e : (a0 :: a1 :: a2 :: a3 :: a4 :: a5 :: a6 :: a7 :: a8 :: a9 :: a10 :: a11 :: a12 :: b :: t)[i]? = ((a0 :: a1 :: a2 :: a3 :: a4 :: a5 :: a6 :: a7 :: a8 :: a9 :: a10 :: a11 :: a12 :: b :: t).set 13 none)[i]? := by rw [List.getElem?_set_ne (Ne.symm hi)]
    rw [e]; exact h
theorem J_fg14 {a0 a1 a2 a3 a4 a5 a6 a7 a8 a9 a10 a11 a12 a13 : Option Value} {b : Option Value} {t : List (Option Value)} (k : JW p l e R s m args below meth c cy D ad A nL cells slots Q σ pc (a0 :: a1 :: a2 :: a3 :: a4 :: a5 :: a6 :: a7 :: a8 :: a9 :: a10 :: a11 :: a12 :: a13 :: none :: t) st) : JW p l e R s m args below meth c cy D ad A nL cells slots Q σ pc (a0 :: a1 :: a2 :: a3 :: a4 :: a5 :: a6 :: a7 :: a8 :: a9 :: a10 :: a11 :: a12 :: a13 :: b :: t) st := by
  refine J_less (lv' := a0 :: a1 :: a2 :: a3 :: a4 :: a5 :: a6 :: a7 :: a8 :: a9 :: a10 :: a11 :: a12 :: a13 :: none :: t) (fun i v h => ?_) k
  by_cases hi : i = 14
  · subst hi; cases h
  · have e : (a0 :: a1 :: a2 :: a3 :: a4 :: a5 :: a6 :: a7 :: a8 :: a9 :: a10 :: a11 :: a12 :: a13 :: b :: t)[i]? = ((a0 :: a1 :: a2 :: a3 :: a4 :: a5 :: a6 :: a7 :: a8 :: a9 :: a10 :: a11 :: a12 :: a13 :: b :: t).set 14 none)[i]? := by rw [List.getElem?_set_ne (Ne.symm hi)]
    rw [e]; exact h
theorem J_fg15 {a0 a1 a2 a3 a4 a5 a6 a7 a8 a9 a10 a11 a12 a13 a14 : Option Value} {b : Option Value} {t : List (Option Value)} (k : JW p l e R s m args below meth c cy D ad A nL cells slots Q σ pc (a0 :: a1 :: a2 :: a3 :: a4 :: a5 :: a6 :: a7 :: a8 :: a9 :: a10 :: a11 :: a12 :: a13 :: a14 :: none :: t) st) : JW p l e R s m args below meth c cy D ad A nL cells slots Q σ pc (a0 :: a1 :: a2 :: a3 :: a4 :: a5 :: a6 :: a7 :: a8 :: a9 :: a10 :: a11 :: a12 :: a13 :: a14 :: b :: t) st := by
  refine J_less (lv' := a0 :: a1 :: a2 :: a3 :: a4 :: a5 :: a6 :: a7 :: a8 :: a9 :: a10 :: a11 :: a12 :: a13 :: a14 :: none :: t) (fun i v h => ?_) k
  by_cases hi : i = 15
  · subst hi; cases h
  · have e : (a0 :: a1 :: a2 :: a3 :: a4 :: a5 :: a6 :: a7 :: a8 :: a9 :: a10 :: a11 :: a12 :: a13 :: a14 :: b :: t)[i]? = ((a0 :: a1 :: a2 :: a3 :: a4 :: a5 :: a6 :: a7 :: a8 :: a9 :: a10 :: a11 :: a12 :: a13 :: a14 :: b :: t).set 15 none)[i]? := by rw [List.getElem?_set_ne (Ne.symm hi)]
    rw [e]; exact h
theorem J_fg16 {a0 a1 a2 a3 a4 a5 a6 a7 a8 a9 a10 a11 a12 a13 a14 a15 : Option Value} {b : Option Value} {t : List (Option Value)} (k : JW p l e R s m args below meth c cy D ad A nL cells slots Q σ pc (a0 :: a1 :: a2 :: a3 :: a4 :: a5 :: a6 :: a7 :: a8 :: a9 :: a10 :: a11 :: a12 :: a13 :: a14 :: a15 :: none :: t) st) : JW p l e R s m args below meth c cy D ad A nL cells slots Q σ pc (a0 :: a1 :: a2 :: a3 :: a4 :: a5 :: a6 :: a7 :: a8 :: a9 :: a10 :: a11 :: a12 :: a13 :: a14 :: a15 :: b :: t) st := by
  refine J_less (lv' := a0 :: a1 :: a2 :: a3 :: a4 :: a5 :: a6 :: a7 :: a8 :: a9 :: a10 :: a11 :: a12 :: a13 :: a14 :: a15 :: none :: t) (fun i v h => ?_) k
  by_cases hi : i = 16
  · subst hi; cases h
  · have e : (a0 :: a1 :: a2 :: a3 :: a4 :: a5 :: a6 :: a7 :: a8 :: a9 :: a10 :: a11 :: a12 :: a13 :: a14 :: a15 :: b :: t)[i]? = ((a0 :: a1 :: a2 :: a3 :: a4 :: a5 :: a6 :: a7 :: a8 :: a9 :: a10 :: a11 :: a12 :: a13 :: a14 :: a15 :: b :: t).set 16 none)[i]? := by rw [List.getElem?_set_ne (Ne.symm hi)]
    rw [e]; exact h
theorem J_fg17 {a0 a1 a2 a3 a4 a5 a6 a7 a8 a9 a10 a11 a12 a13 a14 a15 a16 : Option Value} {b : Option Value} {t : List (Option Value)} (k : JW p l e R s m args below meth c cy D ad A nL cells slots Q σ pc (a0 :: a1 :: a2 :: a3 :: a4 :: a5 :: a6 :: a7 :: a8 :: a9 :: a10 :: a11 :: a12 :: a13 :: a14 :: a15 :: a16 :: none :: t) st) : JW p l e R s m args below meth c cy D ad A nL cells slots Q σ pc (a0 :: a1 :: a2 :: a3 :: a4 :: a5 :: a6 :: a7 :: a8 :: a9 :: a10 :: a11 :: a12 :: a13 :: a14 :: a15 :: a16 :: b :: t) st := by
  refine J_less (lv' := a0 :: a1 :: a2 :: a3 :: a4 :: a5 :: a6 :: a7 :: a8 :: a9 :: a10 :: a11 :: a12 :: a13 :: a14 :: a15 :: a16 :: none :: t) (fun i v h => ?_) k
  by_cases hi : i = 17
  · subst hi; cases h
  · have e : (a0 :: a1 :: a2 :: a3 :: a4 :: a5 :: a6 :: a7 :: a8 :: a9 :: a10 :: a11 :: a12 :: a13 :: a14 :: a15 :: a16 :: b :: t)[i]? = ((a0 :: a1 :: a2 :: a3 :: a4 :: a5 :: a6 :: a7 :: a8 :: a9 :: a10 :: a11 :: a12 :: a13 :: a14 :: a15 :: a16 :: b :: t).set 17 none)[i]? := by rw [List.getElem?_set_ne (Ne.symm hi)]
    rw [e]; exact h
theorem J_fg18 {a0 a1 a2 a3 a4 a5 a6 a7 a8 a9 a10 a11 a12 a13 a14 a15 a16 a17 : Option Value} {b : Option Value} {t : List (Option Value)} (k : JW p l e R s m args below meth c cy D ad A nL cells slots Q σ pc (a0 :: a1 :: a2 :: a3 :: a4 :: a5 :: a6 :: a7 :: a8 :: a9 :: a10 :: a11 :: a12 :: a13 :: a14 :: a15 :: a16 :: a17 :: none :: t) st) : JW p l e R s m args below meth c cy D ad A nL cells slots Q σ pc (a0 :: a1 :: a2 :: a3 :: a4 :: a5 :: a6 :: a7 :: a8 :: a9 :: a10 :: a11 :: a12 :: a13 :: a14 :: a15 :: a16 :: a17 :: b :: t) st := by
  refine J_less (lv' := a0 :: a1 :: a2 :: a3 :: a4 :: a5 :: a6 :: a7 :: a8 :: a9 :: a10 :: a11 :: a12 :: a13 :: a14 :: a15 :: a16 :: a17 :: none :: t) (fun i v h => ?_) k
  by_cases hi : i = 18
  · subst hi; cases h
  · have e : (a0 :: a1 :: a2 :: a3 :: a4 :: a5 :: a6 :: a7 :: a8 :: a9 :: a10 :: a11 :: a12 :: a13 :: a14 :: a15 :: a16 :: a17 :: b :: t)[i]? = ((a0 :: a1 :: a2 :: a3 :: a4 :: a5 :: a6 :: a7 :: a8 :: a9 :: a10 :: a11 :: a12 :: a13 :: a14 :: a15 :: a16 :: a17 :: b :: t).set 18 none)[i]? := by rw [List.getElem?_set_ne (Ne.symm hi)]
    rw [e]; exact h
theorem J_fg19 {a0 a1 a2 a3 a4 a5 a6 a7 a8 a9 a10 a11 a12 a13 a14 a15 a16 a17 a18 : Option Value} {b : Option Value} {t : List (Option Value)} (k : JW p l e R s m args below meth c cy D ad A nL cells slots Q σ pc (a0 :: a1 :: a2 :: a3 :: a4 :: a5 :: a6 :: a7 :: a8 :: a9 :: a10 :: a11 :: a12 :: a13 :: a14 :: a15 :: a16 :: a17 :: a18 :: none :: t) st) : JW p l e R s m args below meth c cy D ad A nL cells slots Q σ pc (a0 :: a1 :: a2 :: a3 :: a4 :: a5 :: a6 :: a7 :: a8 :: a9 :: a10 :: a11 :: a12 :: a13 :: a14 :: a15 :: a16 :: a17 :: a18 :: b :: t) st := by
  refine J_less (lv' := a0 :: a1 :: a2 :: a3 :: a4 :: a5 :: a6 :: a7 :: a8 :: a9 :: a10 :: a11 :: a12 :: a13 :: a14 :: a15 :: a16 :: a17 :: a18 :: none :: t) (fun i v h => ?_) k
  by_cases hi : i = 19
  · subst hi; cases h
  · have e : (a0 :: a1 :: a2 :: a3 :: a4 :: a5 :: a6 :: a7 :: a8 :: a9 :: a10 :: a11 :: a12 :: a13 :: a14 :: a15 :: a16 :: a17 :: a18 :: b :: t)[i]? = ((a0 :: a1 :: a2 :: a3 :: a4 :: a5 :: a6 :: a7 :: a8 :: a9 :: a10 :: a11 :: a12 :: a13 :: a14 :: a15 :: a16 :: a17 :: a18 :: b :: t).set 19 none)[i]? := by rw [List.getElem?_set_ne (Ne.symm hi)]
    rw [e]; exact h
theorem J_fg20 {a0 a1 a2 a3 a4 a5 a6 a7 a8 a9 a10 a11 a12 a13 a14 a15 a16 a17 a18 a19 : Option Value} {b : Option Value} {t : List (Option Value)} (k : JW p l e R s m args below meth c cy D ad A nL cells slots Q σ pc (a0 :: a1 :: a2 :: a3 :: a4 :: a5 :: a6 :: a7 :: a8 :: a9 :: a10 :: a11 :: a12 :: a13 :: a14 :: a15 :: a16 :: a17 :: a18 :: a19 :: none :: t) st) : JW p l e R s m args below meth c cy D ad A nL cells slots Q σ pc (a0 :: a1 :: a2 :: a3 :: a4 :: a5 :: a6 :: a7 :: a8 :: a9 :: a10 :: a11 :: a12 :: a13 :: a14 :: a15 :: a16 :: a17 :: a18 :: a19 :: b :: t) st := by
  refine J_less (lv' := a0 :: a1 :: a2 :: a3 :: a4 :: a5 :: a6 :: a7 :: a8 :: a9 :: a10 :: a11 :: a12 :: a13 :: a14 :: a15 :: a16 :: a17 :: a18 :: a19 :: none :: t) (fun i v h => ?_) k
  by_cases hi : i = 20
  · subst hi; cases h
  · have e : (a0 :: a1 :: a2 :: a3 :: a4 :: a5 :: a6 :: a7 :: a8 :: a9 :: a10 :: a11 :: a12 :: a13 :: a14 :: a15 :: a16 :: a17 :: a18 :: a19 :: b :: t)[i]? = ((a0 :: a1 :: a2 :: a3 :: a4 :: a5 :: a6 :: a7 :: a8 :: a9 :: a10 :: a11 :: a12 :: a13 :: a14 :: a15 :: a16 :: a17 :: a18 :: a19 :: b :: t).set 20 none)[i]? := by rw [List.getElem?_set_ne (Ne.symm hi)]
    rw [e]; exact h
theorem J_fg21 {a0 a1 a2 a3 a4 a5 a6 a7 a8 a9 a10 a11 a12 a13 a14 a15 a16 a17 a18 a19 a20 : Option Value} {b : Option Value} {t : List (Option Value)} (k : JW p l e R s m args below meth c cy D ad A nL cells slots Q σ pc (a0 :: a1 :: a2 :: a3 :: a4 :: a5 :: a6 :: a7 :: a8 :: a9 :: a10 :: a11 :: a12 :: a13 :: a14 :: a15 :: a16 :: a17 :: a18 :: a19 :: a20 :: none :: t) st) : JW p l e R s m args below meth c cy D ad A nL cells slots Q σ pc (a0 :: a1 :: a2 :: a3 :: a4 :: a5 :: a6 :: a7 :: a8 :: a9 :: a10 :: a11 :: a12 :: a13 :: a14 :: a15 :: a16 :: a17 :: a18 :: a19 :: a20 :: b :: t) st := by
  refine J_less (lv' := a0 :: a1 :: a2 :: a3 :: a4 :: a5 :: a6 :: a7 :: a8 :: a9 :: a10 :: a11 :: a12 :: a13 :: a14 :: a15 :: a16 :: a17 :: a18 :: a19 :: a20 :: none :: t) (fun i v h => ?_) k
  by_cases hi : i = 21
  · subst hi; cases h
  · have e : (a0 :: a1 :: a2 :: a3 :: a4 :: a5 :: a6 :: a7 :: a8 :: a9 :: a10 :: a11 :: a12 :: a13 :: a14 :: a15 :: a16 :: a17 :: a18 :: a19 :: a20 :: b :: t)[i]? = ((a0 :: a1 :: a2 :: a3 :: a4 :: a5 :: a6 :: a7 :: a8 :: a9 :: a10 :: a11 :: a12 :: a13 :: a14 :: a15 :: a16 :: a17 :: a18 :: a19 :: a20 :: b :: t).set 21 none)[i]? := by rw [List.getElem?_set_ne (Ne.symm hi)]
    rw [e]; exact h
theorem J_fg22 {a0 a1 a2 a3 a4 a5 a6 a7 a8 a9 a10 a11 a12 a13 a14 a15 a16 a17 a18 a19 a20 a21 : Option Value} {b : Option Value} {t : List (Option Value)} (k : JW p l e R s m args below meth c cy D ad A nL cells slots Q σ pc (a0 :: a1 :: a2 :: a3 :: a4 :: a5 :: a6 :: a7 :: a8 :: a9 :: a10 :: a11 :: a12 :: a13 :: a14 :: a15 :: a16 :: a17 :: a18 :: a19 :: a20 :: a21 :: none :: t) st) : JW p l e R s m args below meth c cy D ad A nL cells slots Q σ pc (a0 :: a1 :: a2 :: a3 :: a4 :: a5 :: a6 :: a7 :: a8 :: a9 :: a10 :: a11 :: a12 :: a13 :: a14 :: a15 :: a16 :: a17 :: a18 :: a19 :: a20 :: a21 :: b :: t) st := by
  refine J_less (lv' := a0 :: a1 :: a2 :: a3 :: a4 :: a5 :: a6 :: a7 :: a8 :: a9 :: a10 :: a11 :: a12 :: a13 :: a14 :: a15 :: a16 :: a17 :: a18 :: a19 :: a20 :: a21 :: none :: t) (fun i v h => ?_) k
  by_cases hi : i = 22
  · subst hi; cases h
  · have e : (a0 :: a1 :: a2 :: a3 :: a4 :: a5 :: a6 :: a7 :: a8 :: a9 :: a10 :: a11 :: a12 :: a13 :: a14 :: a15 :: a16 :: a17 :: a18 :: a19 :: a20 :: a21 :: b :: t)[i]? = ((a0 :: a1 :: a2 :: a3 :: a4 :: a5 :: a6 :: a7 :: a8 :: a9 :: a10 :: a11 :: a12 :: a13 :: a14 :: a15 :: a16 :: a17 :: a18 :: a19 :: a20 :: a21 :: b :: t).set 22 none)[i]? := by rw [List.getElem?_set_ne (Ne.symm hi)]
    rw [e]; exact h
theorem J_fg23 {a0 a1 a2 a3 a4 a5 a6 a7 a8 a9 a10 a11 a12 a13 a14 a15 a16 a17 a18 a19 a20 a21 a22 : Option Value} {b : Option Value} {t : List (Option Value)} (k : JW p l e R s m args below meth c cy D ad A nL cells slots Q σ pc (a0 :: a1 :: a2 :: a3 :: a4 :: a5 :: a6 :: a7 :: a8 :: a9 :: a10 :: a11 :: a12 :: a13 :: a14 :: a15 :: a16 :: a17 :: a18 :: a19 :: a20 :: a21 :: a22 :: none :: t) st) : JW p l e R s m args below meth c cy D ad A nL cells slots Q σ pc (a0 :: a1 :: a2 :: a3 :: a4 :: a5 :: a6 :: a7 :: a8 :: a9 :: a10 :: a11 :: a12 :: a13 :: a14 :: a15 :: a16 :: a17 :: a18 :: a19 :: a20 :: a21 :: a22 :: b :: t) st := by
  refine J_less (lv' := a0 :: a1 :: a2 :: a3 :: a4 :: a5 :: a6 :: a7 :: a8 :: a9 :: a10 :: a11 :: a12 :: a13 :: a14 :: a15 :: a16 :: a17 :: a18 :: a19 :: a20 :: a21 :: a22 :: none :: t) (fun i v h => ?_) k
  by_cases hi : i = 23
  · subst hi; cases h
  · have e : (a0 :: a1 :: a2 :: a3 :: a4 :: a5 :: a6 :: a7 :: a8 :: a9 :: a10 :: a11 :: a12 :: a13 :: a14 :: a15 :: a16 :: a17 :: a18 :: a19 :: a20 :: a21 :: a22 :: b :: t)[i]? = ((a0 :: a1 :: a2 :: a3 :: a4 :: a5 :: a6 :: a7 :: a8 :: a9 :: a10 :: a11 :: a12 :: a13 :: a14 :: a15 :: a16 :: a17 :: a18 :: a19 :: a20 :: a21 :: a22 :: b :: t).set 23 none)[i]? := by rw [List.getElem?_set_ne (Ne.symm hi)]
    rw [e]; exact h
def w32 (x : Int) : Int := (iI x).toInt
theorem w32_id {x : Int} (h : I32 x) : w32 x = x := iI_toInt h
theorem w32_r (x : Int) : I32 (w32 x) := i32_r (iI x)
theorem J_i2lw (C : Cx p l e R s m args below meth c cy D ad A nL cc own Ts) {x : Int} (d : decode cc pc = .ok (.i2l, 1)) (kk : JW p l e R s m args below meth c cy D ad A nL cells slots Q σ (pc + 1) lv (.long (lI (w32 x)) :: st)) : JW p l e R s m args below meth c cy D ad A nL cells slots Q σ pc lv (.int (iI x) :: st) := by
  intro H locs ls h1 h2 h3
  exact lv_i2l C.1.1 C.1.2.1 d (by rw [iI_of (iI x)]; exact iI_wide (i32_r _)) (kk H locs ls h1 h2 h3)
end JK
