/-! worlds that are being made: an address, its place in the whole, what lies there -/
abbrev Ew : Type := Nat → Option (Nat × Int × va_E)
def One (q : Nat) (t : Nat × Int × va_E) : Ew := fun a => if a = q then some t else none
def Gd (D : va_G) (A : Nat → Prop) (E : Ew) (H : Heap) : Prop := ∀ (a : Nat) (t : Nat × Int × va_E), E a = some t → va_at D vwCl (a, t.2.2) H ∧ A a
def AO (U : State) : Prop := va_AO "JointVenture$Well" U ∧ va_AO "JointVenture$CashCall" U ∧ va_Nw (.methodLinkNest RX3 52 yX1_init RX3) U ∧ va_Nw (.methodLinkNest RX3 67 yX0_init RX3) U
theorem AO.warm {s U : State} (hW : s.WarmedH U.vm) (h : AO s) : AO U := ⟨va_AO.moved hW.alike h.1, va_AO.moved hW.alike h.2.1, va_Nw.warmM hW h.2.2.1, va_Nw.warmM hW h.2.2.2⟩
theorem AO.calling {U : State} {g : JFrame} {mk : MethodId} {a : Array Value} (h : AO U) : AO (U.calling g mk a) := ⟨va_AO.moved (u := U) (U := U.calling g mk a) (Vm.Alike.refl U.vm) h.1, va_AO.moved (u := U) (U := U.calling g mk a) (Vm.Alike.refl U.vm) h.2.1, va_Nw.same rfl rfl h.2.2.1, va_Nw.same rfl rfl h.2.2.2⟩
def Gx (p : Program) (l : Launch) (e : Env) (R : Room) (s : State) (m : MethodId) (args : Array Value) (below : List Frame) (meth : Method) (c : Code) (cy : Nat → ClassId) (D : va_G) (A : Nat → Prop) (nL : Nat) (cc : ByteArray) (own : String) (Ts : List Cond) : Prop := CallFix p m c cc nL s args Ts own ∧ (∀ q, s.heap.size ≤ q → A q) ∧ va_K D vwCl (tysO cy) s ∧ meth.locks = false ∧ AO s
def GW (p : Program) (l : Launch) (e : Env) (R : Room) (s : State) (m : MethodId) (args : Array Value) (below : List Frame) (meth : Method) (c : Code) (cy : Nat → ClassId) (D : va_G) (A : Nat → Prop) (nL : Nat) (cells slots : Nat) (Q : State → Prop) (E : Ew) (pc : Nat) (lv : List (Option Value)) (st : List Value) : Prop :=
  ∀ (H : Heap) (locs : List Loc) (ls : Array Slot), Gd D A E H → va_S A s.heap H locs → Lh ls nL lv → W p l e R s m args below meth c H locs cells slots Q (F0 m pc ls st)
section GG
variable {p : Program} {l : Launch} {e : Env} {R : Room} {s : State} {m : MethodId} {args : Array Value} {below : List Frame} {meth : Method} {c : Code} {cy : Nat → ClassId} {D : va_G} {A : Nat → Prop} {nL : Nat} {cells slots : Nat} {Q : State → Prop} {E : Ew} {pc : Nat} {lv : List (Option Value)} {st : List Value} {cc : ByteArray} {own : String} {Ts : List Cond}
theorem G_iconst (C : Gx p l e R s m args below meth c cy D A nL cc own Ts) {n : Int} (d : decode cc pc = .ok (.iconst n, 1)) (k : GW p l e R s m args below meth c cy D A nL cells slots Q E (pc + 1) lv (.int (iI n) :: st)) : GW p l e R s m args below meth c cy D A nL cells slots Q E pc lv st := by
  intro H locs ls h1 h2 h3
  exact lv_iconst (v := iI n) C.1.1 C.1.2.1 d rfl (k H locs ls h1 h2 h3)
theorem G_bipush (C : Gx p l e R s m args below meth c cy D A nL cc own Ts) {n : Int} (hv : (Int8.ofInt n).toInt32 = iI n) (d : decode cc pc = .ok (.bipush n, 2)) (k : GW p l e R s m args below meth c cy D A nL cells slots Q E (pc + 2) lv (.int (iI n) :: st)) : GW p l e R s m args below meth c cy D A nL cells slots Q E pc lv st := by
  intro H locs ls h1 h2 h3
  exact lv_bipush (v := iI n) C.1.1 C.1.2.1 d hv (k H locs ls h1 h2 h3)
theorem G_sipush (C : Gx p l e R s m args below meth c cy D A nL cc own Ts) {n : Int} (hv : (Int16.ofInt n).toInt32 = iI n) (d : decode cc pc = .ok (.sipush n, 3)) (k : GW p l e R s m args below meth c cy D A nL cells slots Q E (pc + 3) lv (.int (iI n) :: st)) : GW p l e R s m args below meth c cy D A nL cells slots Q E pc lv st := by
  intro H locs ls h1 h2 h3
  exact lv_sipush (v := iI n) C.1.1 C.1.2.1 d hv (k H locs ls h1 h2 h3)
theorem G_dup (C : Gx p l e R s m args below meth c cy D A nL cc own Ts) {v : Value} (hv : v.category = 1) (d : decode cc pc = .ok (.dup, 1)) (k : GW p l e R s m args below meth c cy D A nL cells slots Q E (pc + 1) lv (v :: v :: st)) : GW p l e R s m args below meth c cy D A nL cells slots Q E pc lv (v :: st) := by
  intro H locs ls h1 h2 h3
  exact lv_dup C.1.1 C.1.2.1 d hv (k H locs ls h1 h2 h3)
theorem G_icmp_ge (C : Gx p l e R s m args below meth c cy D A nL cc own Ts) {x y off : Int} {tgt : Nat} (hx : I32 x) (hy : I32 y) (d : decode cc pc = .ok (.if_icmp .ge off, 3)) (ht : (pc : Int) + off = (tgt : Int)) (k1 : y ≤ x → GW p l e R s m args below meth c cy D A nL cells slots Q E tgt lv st) (k2 : x < y → GW p l e R s m args below meth c cy D A nL cells slots Q E (pc + 3) lv st) : GW p l e R s m args below meth c cy D A nL cells slots Q E pc lv (.int (iI y) :: .int (iI x) :: st) := by
  intro H locs ls h1 h2 h3
  exact lv_icmp_ge C.1.1 C.1.2.1 d ht (fun z => k1 ((iI_le hy hx).mp z) H locs ls h1 h2 h3) (fun z => k2 (by have := mt (iI_le hy hx).mpr z; omega) H locs ls h1 h2 h3)
theorem G_goto (C : Gx p l e R s m args below meth c cy D A nL cc own Ts) {off : Int} {tgt : Nat} (d : decode cc pc = .ok (.goto off, 3)) (ht : (pc : Int) + off = (tgt : Int)) (k : GW p l e R s m args below meth c cy D A nL cells slots Q E tgt lv st) : GW p l e R s m args below meth c cy D A nL cells slots Q E pc lv st := by
  intro H locs ls h1 h2 h3
  exact lv_goto C.1.1 C.1.2.1 d ht (k H locs ls h1 h2 h3)
theorem G_iload_0 (C : Gx p l e R s m args below meth c cy D A nL cc own Ts) {t : List (Option Value)} {x : Int} (d : decode cc pc = .ok (.iload_n 0, 1)) (k : GW p l e R s m args below meth c cy D A nL cells slots Q E (pc + 1) (some (.int (iI x)) :: t) (.int (iI x) :: st)) : GW p l e R s m args below meth c cy D A nL cells slots Q E pc (some (.int (iI x)) :: t) st := by
  intro H locs ls h1 h2 h3
  exact lv_iload_n C.1.1 C.1.2.1 d rfl (h3.2.2 0 _ rfl) (k H locs ls h1 h2 h3)
theorem G_iload_1 (C : Gx p l e R s m args below meth c cy D A nL cc own Ts) {a0 : Option Value} {t : List (Option Value)} {x : Int} (d : decode cc pc = .ok (.iload_n 1, 1)) (k : GW p l e R s m args below meth c cy D A nL cells slots Q E (pc + 1) (a0 :: some (.int (iI x)) :: t) (.int (iI x) :: st)) : GW p l e R s m args below meth c cy D A nL cells slots Q E pc (a0 :: some (.int (iI x)) :: t) st := by
  intro H locs ls h1 h2 h3
  exact lv_iload_n C.1.1 C.1.2.1 d rfl (h3.2.2 1 _ rfl) (k H locs ls h1 h2 h3)
theorem G_iload_2 (C : Gx p l e R s m args below meth c cy D A nL cc own Ts) {a0 a1 : Option Value} {t : List (Option Value)} {x : Int} (d : decode cc pc = .ok (.iload_n 2, 1)) (k : GW p l e R s m args below meth c cy D A nL cells slots Q E (pc + 1) (a0 :: a1 :: some (.int (iI x)) :: t) (.int (iI x) :: st)) : GW p l e R s m args below meth c cy D A nL cells slots Q E pc (a0 :: a1 :: some (.int (iI x)) :: t) st := by
  intro H locs ls h1 h2 h3
  exact lv_iload_n C.1.1 C.1.2.1 d rfl (h3.2.2 2 _ rfl) (k H locs ls h1 h2 h3)
theorem G_iload_3 (C : Gx p l e R s m args below meth c cy D A nL cc own Ts) {a0 a1 a2 : Option Value} {t : List (Option Value)} {x : Int} (d : decode cc pc = .ok (.iload_n 3, 1)) (k : GW p l e R s m args below meth c cy D A nL cells slots Q E (pc + 1) (a0 :: a1 :: a2 :: some (.int (iI x)) :: t) (.int (iI x) :: st)) : GW p l e R s m args below meth c cy D A nL cells slots Q E pc (a0 :: a1 :: a2 :: some (.int (iI x)) :: t) st := by
  intro H locs ls h1 h2 h3
  exact lv_iload_n C.1.1 C.1.2.1 d rfl (h3.2.2 3 _ rfl) (k H locs ls h1 h2 h3)
theorem G_aload_0 (C : Gx p l e R s m args below meth c cy D A nL cc own Ts) {t : List (Option Value)} {x : Nat} (d : decode cc pc = .ok (.aload_n 0, 1)) (k : GW p l e R s m args below meth c cy D A nL cells slots Q E (pc + 1) (some (.ref x) :: t) (.ref x :: st)) : GW p l e R s m args below meth c cy D A nL cells slots Q E pc (some (.ref x) :: t) st := by
  intro H locs ls h1 h2 h3
  exact lv_aload_n C.1.1 C.1.2.1 d rfl (h3.2.2 0 _ rfl) (k H locs ls h1 h2 h3)
theorem G_aload_1 (C : Gx p l e R s m args below meth c cy D A nL cc own Ts) {a0 : Option Value} {t : List (Option Value)} {x : Nat} (d : decode cc pc = .ok (.aload_n 1, 1)) (k : GW p l e R s m args below meth c cy D A nL cells slots Q E (pc + 1) (a0 :: some (.ref x) :: t) (.ref x :: st)) : GW p l e R s m args below meth c cy D A nL cells slots Q E pc (a0 :: some (.ref x) :: t) st := by
  intro H locs ls h1 h2 h3
  exact lv_aload_n C.1.1 C.1.2.1 d rfl (h3.2.2 1 _ rfl) (k H locs ls h1 h2 h3)
theorem G_aload_2 (C : Gx p l e R s m args below meth c cy D A nL cc own Ts) {a0 a1 : Option Value} {t : List (Option Value)} {x : Nat} (d : decode cc pc = .ok (.aload_n 2, 1)) (k : GW p l e R s m args below meth c cy D A nL cells slots Q E (pc + 1) (a0 :: a1 :: some (.ref x) :: t) (.ref x :: st)) : GW p l e R s m args below meth c cy D A nL cells slots Q E pc (a0 :: a1 :: some (.ref x) :: t) st := by
  intro H locs ls h1 h2 h3
  exact lv_aload_n C.1.1 C.1.2.1 d rfl (h3.2.2 2 _ rfl) (k H locs ls h1 h2 h3)
theorem G_aload_3 (C : Gx p l e R s m args below meth c cy D A nL cc own Ts) {a0 a1 a2 : Option Value} {t : List (Option Value)} {x : Nat} (d : decode cc pc = .ok (.aload_n 3, 1)) (k : GW p l e R s m args below meth c cy D A nL cells slots Q E (pc + 1) (a0 :: a1 :: a2 :: some (.ref x) :: t) (.ref x :: st)) : GW p l e R s m args below meth c cy D A nL cells slots Q E pc (a0 :: a1 :: a2 :: some (.ref x) :: t) st := by
  intro H locs ls h1 h2 h3
  exact lv_aload_n C.1.1 C.1.2.1 d rfl (h3.2.2 3 _ rfl) (k H locs ls h1 h2 h3)
theorem G_istore_1 (C : Gx p l e R s m args below meth c cy D A nL cc own Ts) {a0 : Option Value} {t : List (Option Value)} {b : Option Value} {x : Int} (hn : 1 < nL) (hp : nlo a0 = true) (d : decode cc pc = .ok (.istore_n 1, 1)) (k : GW p l e R s m args below meth c cy D A nL cells slots Q E (pc + 1) (a0 :: some (.int (iI x)) :: t) st) : GW p l e R s m args below meth c cy D A nL cells slots Q E pc (a0 :: b :: t) (.int (iI x) :: st) := by
  intro H locs ls h1 h2 h3
  exact lv_istore_n C.1.1 C.1.2.1 d rfl h3.has hn rfl (fun ls' h' => k H locs ls' h1 h2 (Lh.set1 (show nlat ((a0 :: b :: t)) 1 = true from hp) h'))
theorem G_istore_2 (C : Gx p l e R s m args below meth c cy D A nL cc own Ts) {a0 a1 : Option Value} {t : List (Option Value)} {b : Option Value} {x : Int} (hn : 2 < nL) (hp : nlo a1 = true) (d : decode cc pc = .ok (.istore_n 2, 1)) (k : GW p l e R s m args below meth c cy D A nL cells slots Q E (pc + 1) (a0 :: a1 :: some (.int (iI x)) :: t) st) : GW p l e R s m args below meth c cy D A nL cells slots Q E pc (a0 :: a1 :: b :: t) (.int (iI x) :: st) := by
  intro H locs ls h1 h2 h3
  exact lv_istore_n C.1.1 C.1.2.1 d rfl h3.has hn rfl (fun ls' h' => k H locs ls' h1 h2 (Lh.set1 (show nlat ((a0 :: a1 :: b :: t)) 2 = true from hp) h'))
theorem G_istore_3 (C : Gx p l e R s m args below meth c cy D A nL cc own Ts) {a0 a1 a2 : Option Value} {t : List (Option Value)} {b : Option Value} {x : Int} (hn : 3 < nL) (hp : nlo a2 = true) (d : decode cc pc = .ok (.istore_n 3, 1)) (k : GW p l e R s m args below meth c cy D A nL cells slots Q E (pc + 1) (a0 :: a1 :: a2 :: some (.int (iI x)) :: t) st) : GW p l e R s m args below meth c cy D A nL cells slots Q E pc (a0 :: a1 :: a2 :: b :: t) (.int (iI x) :: st) := by
  intro H locs ls h1 h2 h3
  exact lv_istore_n C.1.1 C.1.2.1 d rfl h3.has hn rfl (fun ls' h' => k H locs ls' h1 h2 (Lh.set1 (show nlat ((a0 :: a1 :: a2 :: b :: t)) 3 = true from hp) h'))
theorem G_astore_1 (C : Gx p l e R s m args below meth c cy D A nL cc own Ts) {a0 : Option Value} {t : List (Option Value)} {b : Option Value} {x : Nat} (hn : 1 < nL) (hp : nlo a0 = true) (d : decode cc pc = .ok (.astore_n 1, 1)) (k : GW p l e R s m args below meth c cy D A nL cells slots Q E (pc + 1) (a0 :: some (.ref x) :: t) st) : GW p l e R s m args below meth c cy D A nL cells slots Q E pc (a0 :: b :: t) (.ref x :: st) := by
  intro H locs ls h1 h2 h3
  exact lv_astore_n C.1.1 C.1.2.1 d rfl h3.has hn rfl (fun ls' h' => k H locs ls' h1 h2 (Lh.set1 (show nlat ((a0 :: b :: t)) 1 = true from hp) h'))
theorem G_astore_2 (C : Gx p l e R s m args below meth c cy D A nL cc own Ts) {a0 a1 : Option Value} {t : List (Option Value)} {b : Option Value} {x : Nat} (hn : 2 < nL) (hp : nlo a1 = true) (d : decode cc pc = .ok (.astore_n 2, 1)) (k : GW p l e R s m args below meth c cy D A nL cells slots Q E (pc + 1) (a0 :: a1 :: some (.ref x) :: t) st) : GW p l e R s m args below meth c cy D A nL cells slots Q E pc (a0 :: a1 :: b :: t) (.ref x :: st) := by
  intro H locs ls h1 h2 h3
  exact lv_astore_n C.1.1 C.1.2.1 d rfl h3.has hn rfl (fun ls' h' => k H locs ls' h1 h2 (Lh.set1 (show nlat ((a0 :: a1 :: b :: t)) 2 = true from hp) h'))
theorem G_astore_3 (C : Gx p l e R s m args below meth c cy D A nL cc own Ts) {a0 a1 a2 : Option Value} {t : List (Option Value)} {b : Option Value} {x : Nat} (hn : 3 < nL) (hp : nlo a2 = true) (d : decode cc pc = .ok (.astore_n 3, 1)) (k : GW p l e R s m args below meth c cy D A nL cells slots Q E (pc + 1) (a0 :: a1 :: a2 :: some (.ref x) :: t) st) : GW p l e R s m args below meth c cy D A nL cells slots Q E pc (a0 :: a1 :: a2 :: b :: t) (.ref x :: st) := by
  intro H locs ls h1 h2 h3
  exact lv_astore_n C.1.1 C.1.2.1 d rfl h3.has hn rfl (fun ls' h' => k H locs ls' h1 h2 (Lh.set1 (show nlat ((a0 :: a1 :: a2 :: b :: t)) 3 = true from hp) h'))
theorem G_istore4 (C : Gx p l e R s m args below meth c cy D A nL cc own Ts) {a0 a1 a2 a3 : Option Value} {t : List (Option Value)} {b : Option Value} {x : Int} (hn : 4 < nL) (hp : nlo a3 = true) (d : decode cc pc = .ok (.istore 4, 2)) (k : GW p l e R s m args below meth c cy D A nL cells slots Q E (pc + 2) (a0 :: a1 :: a2 :: a3 :: some (.int (iI x)) :: t) st) : GW p l e R s m args below meth c cy D A nL cells slots Q E pc (a0 :: a1 :: a2 :: a3 :: b :: t) (.int (iI x) :: st) := by
  intro H locs ls h1 h2 h3
  exact lv_istore C.1.1 C.1.2.1 d h3.has hn rfl (fun ls' h' => k H locs ls' h1 h2 (Lh.set1 (show nlat ((a0 :: a1 :: a2 :: a3 :: b :: t)) 4 = true from hp) h'))
theorem G_iload4 (C : Gx p l e R s m args below meth c cy D A nL cc own Ts) {a0 a1 a2 a3 : Option Value} {t : List (Option Value)} {x : Int} (d : decode cc pc = .ok (.iload 4, 2)) (k : GW p l e R s m args below meth c cy D A nL cells slots Q E (pc + 2) (a0 :: a1 :: a2 :: a3 :: some (.int (iI x)) :: t) (.int (iI x) :: st)) : GW p l e R s m args below meth c cy D A nL cells slots Q E pc (a0 :: a1 :: a2 :: a3 :: some (.int (iI x)) :: t) st := by
  intro H locs ls h1 h2 h3
  exact lv_iload C.1.1 C.1.2.1 d (h3.2.2 4 _ rfl) (k H locs ls h1 h2 h3)
theorem G_astore4 (C : Gx p l e R s m args below meth c cy D A nL cc own Ts) {a0 a1 a2 a3 : Option Value} {t : List (Option Value)} {b : Option Value} {x : Nat} (hn : 4 < nL) (hp : nlo a3 = true) (d : decode cc pc = .ok (.astore 4, 2)) (k : GW p l e R s m args below meth c cy D A nL cells slots Q E (pc + 2) (a0 :: a1 :: a2 :: a3 :: some (.ref x) :: t) st) : GW p l e R s m args below meth c cy D A nL cells slots Q E pc (a0 :: a1 :: a2 :: a3 :: b :: t) (.ref x :: st) := by
  intro H locs ls h1 h2 h3
  exact lv_astore C.1.1 C.1.2.1 d h3.has hn rfl (fun ls' h' => k H locs ls' h1 h2 (Lh.set1 (show nlat ((a0 :: a1 :: a2 :: a3 :: b :: t)) 4 = true from hp) h'))
theorem G_astore5 (C : Gx p l e R s m args below meth c cy D A nL cc own Ts) {a0 a1 a2 a3 a4 : Option Value} {t : List (Option Value)} {b : Option Value} {x : Nat} (hn : 5 < nL) (hp : nlo a4 = true) (d : decode cc pc = .ok (.astore 5, 2)) (k : GW p l e R s m args below meth c cy D A nL cells slots Q E (pc + 2) (a0 :: a1 :: a2 :: a3 :: a4 :: some (.ref x) :: t) st) : GW p l e R s m args below meth c cy D A nL cells slots Q E pc (a0 :: a1 :: a2 :: a3 :: a4 :: b :: t) (.ref x :: st) := by
  intro H locs ls h1 h2 h3
  exact lv_astore C.1.1 C.1.2.1 d h3.has hn rfl (fun ls' h' => k H locs ls' h1 h2 (Lh.set1 (show nlat ((a0 :: a1 :: a2 :: a3 :: a4 :: b :: t)) 5 = true from hp) h'))
theorem G_astore6 (C : Gx p l e R s m args below meth c cy D A nL cc own Ts) {a0 a1 a2 a3 a4 a5 : Option Value} {t : List (Option Value)} {b : Option Value} {x : Nat} (hn : 6 < nL) (hp : nlo a5 = true) (d : decode cc pc = .ok (.astore 6, 2)) (k : GW p l e R s m args below meth c cy D A nL cells slots Q E (pc + 2) (a0 :: a1 :: a2 :: a3 :: a4 :: a5 :: some (.ref x) :: t) st) : GW p l e R s m args below meth c cy D A nL cells slots Q E pc (a0 :: a1 :: a2 :: a3 :: a4 :: a5 :: b :: t) (.ref x :: st) := by
  intro H locs ls h1 h2 h3
  exact lv_astore C.1.1 C.1.2.1 d h3.has hn rfl (fun ls' h' => k H locs ls' h1 h2 (Lh.set1 (show nlat ((a0 :: a1 :: a2 :: a3 :: a4 :: a5 :: b :: t)) 6 = true from hp) h'))
theorem G_astore7 (C : Gx p l e R s m args below meth c cy D A nL cc own Ts) {a0 a1 a2 a3 a4 a5 a6 : Option Value} {t : List (Option Value)} {b : Option Value} {x : Nat} (hn : 7 < nL) (hp : nlo a6 = true) (d : decode cc pc = .ok (.astore 7, 2)) (k : GW p l e R s m args below meth c cy D A nL cells slots Q E (pc + 2) (a0 :: a1 :: a2 :: a3 :: a4 :: a5 :: a6 :: some (.ref x) :: t) st) : GW p l e R s m args below meth c cy D A nL cells slots Q E pc (a0 :: a1 :: a2 :: a3 :: a4 :: a5 :: a6 :: b :: t) (.ref x :: st) := by
  intro H locs ls h1 h2 h3
  exact lv_astore C.1.1 C.1.2.1 d h3.has hn rfl (fun ls' h' => k H locs ls' h1 h2 (Lh.set1 (show nlat ((a0 :: a1 :: a2 :: a3 :: a4 :: a5 :: a6 :: b :: t)) 7 = true from hp) h'))
theorem G_astore8 (C : Gx p l e R s m args below meth c cy D A nL cc own Ts) {a0 a1 a2 a3 a4 a5 a6 a7 : Option Value} {t : List (Option Value)} {b : Option Value} {x : Nat} (hn : 8 < nL) (hp : nlo a7 = true) (d : decode cc pc = .ok (.astore 8, 2)) (k : GW p l e R s m args below meth c cy D A nL cells slots Q E (pc + 2) (a0 :: a1 :: a2 :: a3 :: a4 :: a5 :: a6 :: a7 :: some (.ref x) :: t) st) : GW p l e R s m args below meth c cy D A nL cells slots Q E pc (a0 :: a1 :: a2 :: a3 :: a4 :: a5 :: a6 :: a7 :: b :: t) (.ref x :: st) := by
  intro H locs ls h1 h2 h3
  exact lv_astore C.1.1 C.1.2.1 d h3.has hn rfl (fun ls' h' => k H locs ls' h1 h2 (Lh.set1 (show nlat ((a0 :: a1 :: a2 :: a3 :: a4 :: a5 :: a6 :: a7 :: b :: t)) 8 = true from hp) h'))
theorem G_astore9 (C : Gx p l e R s m args below meth c cy D A nL cc own Ts) {a0 a1 a2 a3 a4 a5 a6 a7 a8 : Option Value} {t : List (Option Value)} {b : Option Value} {x : Nat} (hn : 9 < nL) (hp : nlo a8 = true) (d : decode cc pc = .ok (.astore 9, 2)) (k : GW p l e R s m args below meth c cy D A nL cells slots Q E (pc + 2) (a0 :: a1 :: a2 :: a3 :: a4 :: a5 :: a6 :: a7 :: a8 :: some (.ref x) :: t) st) : GW p l e R s m args below meth c cy D A nL cells slots Q E pc (a0 :: a1 :: a2 :: a3 :: a4 :: a5 :: a6 :: a7 :: a8 :: b :: t) (.ref x :: st) := by
  intro H locs ls h1 h2 h3
  exact lv_astore C.1.1 C.1.2.1 d h3.has hn rfl (fun ls' h' => k H locs ls' h1 h2 (Lh.set1 (show nlat ((a0 :: a1 :: a2 :: a3 :: a4 :: a5 :: a6 :: a7 :: a8 :: b :: t)) 9 = true from hp) h'))
theorem G_astore10 (C : Gx p l e R s m args below meth c cy D A nL cc own Ts) {a0 a1 a2 a3 a4 a5 a6 a7 a8 a9 : Option Value} {t : List (Option Value)} {b : Option Value} {x : Nat} (hn : 10 < nL) (hp : nlo a9 = true) (d : decode cc pc = .ok (.astore 10, 2)) (k : GW p l e R s m args below meth c cy D A nL cells slots Q E (pc + 2) (a0 :: a1 :: a2 :: a3 :: a4 :: a5 :: a6 :: a7 :: a8 :: a9 :: some (.ref x) :: t) st) : GW p l e R s m args below meth c cy D A nL cells slots Q E pc (a0 :: a1 :: a2 :: a3 :: a4 :: a5 :: a6 :: a7 :: a8 :: a9 :: b :: t) (.ref x :: st) := by
  intro H locs ls h1 h2 h3
  exact lv_astore C.1.1 C.1.2.1 d h3.has hn rfl (fun ls' h' => k H locs ls' h1 h2 (Lh.set1 (show nlat ((a0 :: a1 :: a2 :: a3 :: a4 :: a5 :: a6 :: a7 :: a8 :: a9 :: b :: t)) 10 = true from hp) h'))
theorem G_iinc1 (C : Gx p l e R s m args below meth c cy D A nL cc own Ts) {a0 : Option Value} {t : List (Option Value)} {x z : Int} (hn : 1 < nL) (hp : nlo a0 = true) (d : decode cc pc = .ok (.iinc 1 z, 3)) (k : GW p l e R s m args below meth c cy D A nL cells slots Q E (pc + 3) (a0 :: some (.int (iI (x + z))) :: t) st) : GW p l e R s m args below meth c cy D A nL cells slots Q E pc (a0 :: some (.int (iI x)) :: t) st := by
  intro H locs ls h1 h2 h3
  obtain ⟨i, hi⟩ := List.getElem?_of_mem (lhL_mem.mpr (show ((a0 :: some (.int (iI x)) :: t))[1]? = some (some (.int (iI x))) from rfl))
  exact lv_iinc (v := iI (x + z)) (k := i) C.1.1 C.1.2.1 d h3.has hi (iI_add x z) hn rfl (fun ls' h' => k H locs ls' h1 h2 (Lh.set1 (show nlat ((a0 :: some (.int (iI x)) :: t)) 1 = true from hp) h'))
theorem G_iinc2 (C : Gx p l e R s m args below meth c cy D A nL cc own Ts) {a0 a1 : Option Value} {t : List (Option Value)} {x z : Int} (hn : 2 < nL) (hp : nlo a1 = true) (d : decode cc pc = .ok (.iinc 2 z, 3)) (k : GW p l e R s m args below meth c cy D A nL cells slots Q E (pc + 3) (a0 :: a1 :: some (.int (iI (x + z))) :: t) st) : GW p l e R s m args below meth c cy D A nL cells slots Q E pc (a0 :: a1 :: some (.int (iI x)) :: t) st := by
  intro H locs ls h1 h2 h3
  obtain ⟨i, hi⟩ := List.getElem?_of_mem (lhL_mem.mpr (show ((a0 :: a1 :: some (.int (iI x)) :: t))[2]? = some (some (.int (iI x))) from rfl))
  exact lv_iinc (v := iI (x + z)) (k := i) C.1.1 C.1.2.1 d h3.has hi (iI_add x z) hn rfl (fun ls' h' => k H locs ls' h1 h2 (Lh.set1 (show nlat ((a0 :: a1 :: some (.int (iI x)) :: t)) 2 = true from hp) h'))
theorem Gd.ext {H H1 : Heap} {kd : Nat} {k : Int} {x : va_E} (h : Gd D A E H) (hz : H.size < H1.size) (ho : ∀ q : Nat, q < H.size → H1[q]? = H[q]?) (hx : va_at D vwCl (H.size, x) H1) (hA : A H.size) : Gd D A (fun a => if a = H.size then some (kd, k, x) else E a) H1 := by
  intro a t ht
  dsimp only at ht
  by_cases e : a = H.size
  · subst e
    rw [if_pos rfl] at ht
    cases ht
    exact ⟨hx, hA⟩
  · rw [if_neg e] at ht
    have g := h a t ht
    exact ⟨g.1.kept (ho a g.1.lt), g.2⟩
theorem Gd.new {H : Heap} (h : Gd D A E H) (u : Nat × Int × va_E) : ∀ (a : Nat) (t : Nat × Int × va_E), E a = some t → (if a = H.size then some u else E a) = some t := by
  intro a t ht
  have g := (h a t ht).1.lt
  rw [if_neg (Nat.ne_of_lt g)]
  exact ht
theorem Gd.put {H H1 : Heap} {a : Nat} {t : Nat × Int × va_E} {x : va_E} (h : Gd D A E H) (he : E a = some t) (hx : va_at D vwCl (a, x) H1) (ho : ∀ q : Nat, q ≠ a → H1[q]? = H[q]?) : Gd D A (fun b => if b = a then some (t.1, t.2.1, x) else E b) H1 := by
  intro b u hu
  dsimp only at hu
  by_cases e : b = a
  · subst e
    rw [if_pos rfl] at hu
    cases hu
    exact ⟨hx, (h b t he).2⟩
  · rw [if_neg e] at hu
    have g := h b u hu
    exact ⟨g.1.kept (ho b e), g.2⟩
theorem ne_tag {E : Ew} {a b kd kd' : Nat} {k k' : Int} {x x' : va_E} (ha : E a = some (kd, k, x)) (hb : E b = some (kd', k', x')) (h : kd' ≠ kd ∨ k' ≠ k) : b ≠ a := by
  intro e
  subst e
  rw [ha] at hb
  cases hb
  omega
theorem G_new (C : Gx p l e R s m args below meth c cy D A nL cc own Ts) {Cn : String} {T : u_T} {N ci idx : Nat} {fs : List Value} (kd : Nat) (k : Int) (hin : ∀ w ∈ u_ws Cn T N, w ∈ Ts) (ty0 : Nat → FieldType) (hty : ∀ k, k < N → parseFieldDescriptor (T k).2.2.1 = some (ty0 k)) (hcl : Cond.classLink own idx Cn ∈ Ts) (hinst : Cond.instantiable Cn N ∈ Ts) (hini : Cond.initialized Cn ∈ Ts) (hc : vwCl[ci]? = some (Cn, T, N)) (hfs : ∀ j, j < N → defaultValue (ty0 j) = vp_V fs j) (hf : cells + 1 ≤ R.cells ∧ slots + N ≤ R.slots) (d : decode cc pc = .ok (.new idx, 3)) (kk : ∀ (q : Nat) (E' : Ew), s.heap.size ≤ q → E' q = some (kd, k, .inr (ci, fs)) → (∀ a t, E a = some t → E' a = some t) → GW p l e R s m args below meth c cy D A nL (cells + 1) (slots + N) Q E' (pc + 3) lv (.ref q :: st)) : GW p l e R s m args below meth c cy D A nL cells slots Q E pc lv st := by
  intro H locs ls h1 h2 h3
  have hts := C.1.2.2.2.2
  have hKn := C.2.2.1.1 ci _ hc
  refine W.newcK C.1.1 C.1.2.1 C.1.2.2.2.1 (hts _ hcl) (hts _ hinst) (hts _ hini) rfl d hf.1 hf.2 hKn.2.1 rfl fun H1 kC hkC e1 z1 o1 => ?_
  have hz : H.size < H1.size := by omega
  exact kk H.size _ h2.1 (if_pos rfl) (h1.new _) H1 locs ls (h1.ext (kd := kd) (k := k) (x := .inr (ci, fs)) hz o1 ⟨_, hc, (u_born ty0 hts hin hKn hkC e1 hty).to hfs⟩ (C.2.1 _ h2.1)) ⟨Nat.le_trans h2.1 (by omega), fun x h1' h2' => (o1 x (Nat.lt_of_lt_of_le h1' h2.1)).trans (h2.2.1 x h1' h2'), h2.2.2⟩ h3
theorem G_newa_int (C : Gx p l e R s m args below meth c cy D A nL cc own Ts) {N : Nat} (kd : Nat) (k : Int) (harr : Cond.arrayClass .int ∈ Ts) (hN : ¬ iI (N : Int) < 0 ∧ (iI (N : Int)).toNatClampNeg = N) (hb : N * componentBytes .int ≤ 536870912) (hf : cells + 1 ≤ R.cells ∧ slots + N ≤ R.slots) (d : decode cc pc = .ok (.newarray .int, 2)) (kk : ∀ (q : Nat) (E' : Ew), s.heap.size ≤ q → E' q = some (kd, k, .inl (cy 0, N, .inl (fun _ => iI 0))) → (∀ a t, E a = some t → E' a = some t) → GW p l e R s m args below meth c cy D A nL (cells + 1) (slots + N) Q E' (pc + 2) lv (.ref q :: st)) : GW p l e R s m args below meth c cy D A nL cells slots Q E pc lv (.int (iI (N : Int)) :: st) := by
  intro H locs ls h1 h2 h3
  refine va_newaK (atype := .int) C.1.1 C.1.2.1 (C.1.2.2.2.2 _ harr) rfl d rfl hN.1 hN.2 hb hf.1 hf.2 rfl fun H1 cA e1 z1 o1 hAr hNm => ?_
  have hcA : cA = cy 0 := Option.some.inj (hNm.symm.trans (C.2.2.1.2 0 _ rfl).2)
  subst hcA
  have hz : H.size < H1.size := by omega
  exact kk H.size _ h2.1 (if_pos rfl) (h1.new _) H1 locs ls (h1.ext (kd := kd) (k := k) (x := .inl (cy 0, N, .inl (fun _ => iI 0))) hz o1 e1 (C.2.1 _ h2.1)) ⟨Nat.le_trans h2.1 (by omega), fun x h1' h2' => (o1 x (Nat.lt_of_lt_of_le h1' h2.1)).trans (h2.2.1 x h1' h2'), h2.2.2⟩ h3
theorem G_newa_long (C : Gx p l e R s m args below meth c cy D A nL cc own Ts) {N : Nat} (kd : Nat) (k : Int) (harr : Cond.arrayClass .long ∈ Ts) (hN : ¬ iI (N : Int) < 0 ∧ (iI (N : Int)).toNatClampNeg = N) (hb : N * componentBytes .long ≤ 536870912) (hf : cells + 1 ≤ R.cells ∧ slots + N ≤ R.slots) (d : decode cc pc = .ok (.newarray .long, 2)) (kk : ∀ (q : Nat) (E' : Ew), s.heap.size ≤ q → E' q = some (kd, k, .inl (cy 1, N, .inr (.inl (fun _ => lI 0)))) → (∀ a t, E a = some t → E' a = some t) → GW p l e R s m args below meth c cy D A nL (cells + 1) (slots + N) Q E' (pc + 2) lv (.ref q :: st)) : GW p l e R s m args below meth c cy D A nL cells slots Q E pc lv (.int (iI (N : Int)) :: st) := by
  intro H locs ls h1 h2 h3
  refine va_newaK (atype := .long) C.1.1 C.1.2.1 (C.1.2.2.2.2 _ harr) rfl d rfl hN.1 hN.2 hb hf.1 hf.2 rfl fun H1 cA e1 z1 o1 hAr hNm => ?_
  have hcA : cA = cy 1 := Option.some.inj (hNm.symm.trans (C.2.2.1.2 1 _ rfl).2)
  subst hcA
  have hz : H.size < H1.size := by omega
  exact kk H.size _ h2.1 (if_pos rfl) (h1.new _) H1 locs ls (h1.ext (kd := kd) (k := k) (x := .inl (cy 1, N, .inr (.inl (fun _ => lI 0)))) hz o1 e1 (C.2.1 _ h2.1)) ⟨Nat.le_trans h2.1 (by omega), fun x h1' h2' => (o1 x (Nat.lt_of_lt_of_le h1' h2.1)).trans (h2.2.1 x h1' h2'), h2.2.2⟩ h3
theorem G_newa_boolean (C : Gx p l e R s m args below meth c cy D A nL cc own Ts) {N : Nat} (kd : Nat) (k : Int) (harr : Cond.arrayClass .boolean ∈ Ts) (hN : ¬ iI (N : Int) < 0 ∧ (iI (N : Int)).toNatClampNeg = N) (hb : N * componentBytes .boolean ≤ 536870912) (hf : cells + 1 ≤ R.cells ∧ slots + N ≤ R.slots) (d : decode cc pc = .ok (.newarray .boolean, 2)) (kk : ∀ (q : Nat) (E' : Ew), s.heap.size ≤ q → E' q = some (kd, k, .inl (cy 2, N, .inl (fun _ => iI 0))) → (∀ a t, E a = some t → E' a = some t) → GW p l e R s m args below meth c cy D A nL (cells + 1) (slots + N) Q E' (pc + 2) lv (.ref q :: st)) : GW p l e R s m args below meth c cy D A nL cells slots Q E pc lv (.int (iI (N : Int)) :: st) := by
  intro H locs ls h1 h2 h3
  refine va_newaK (atype := .boolean) C.1.1 C.1.2.1 (C.1.2.2.2.2 _ harr) rfl d rfl hN.1 hN.2 hb hf.1 hf.2 rfl fun H1 cA e1 z1 o1 hAr hNm => ?_
  have hcA : cA = cy 2 := Option.some.inj (hNm.symm.trans (C.2.2.1.2 2 _ rfl).2)
  subst hcA
  have hz : H.size < H1.size := by omega
  exact kk H.size _ h2.1 (if_pos rfl) (h1.new _) H1 locs ls (h1.ext (kd := kd) (k := k) (x := .inl (cy 2, N, .inl (fun _ => iI 0))) hz o1 e1 (C.2.1 _ h2.1)) ⟨Nat.le_trans h2.1 (by omega), fun x h1' h2' => (o1 x (Nat.lt_of_lt_of_le h1' h2.1)).trans (h2.2.1 x h1' h2'), h2.2.2⟩ h3
theorem G_anewW (C : Gx p l e R s m args below meth c cy D A nL cc own Ts) {N idx : Nat} (kd : Nat) (k : Int) (hl : Cond.classLink own idx "JointVenture$Well" ∈ Ts) (hN : ¬ iI (N : Int) < 0 ∧ (iI (N : Int)).toNatClampNeg = N) (hb : (iI (N : Int)).toNatClampNeg * 4 ≤ 536870912) (hf : cells + 1 ≤ R.cells ∧ slots + N ≤ R.slots) (d : decode cc pc = .ok (.anewarray idx, 3)) (kk : ∀ (q : Nat) (E' : Ew), s.heap.size ≤ q → E' q = some (kd, k, .inl (cy 3, N, .inr (.inr (.inr (.inr (fun _ => none)))))) → (∀ a t, E a = some t → E' a = some t) → GW p l e R s m args below meth c cy D A nL (cells + 1) (slots + N) Q E' (pc + 3) lv (.ref q :: st)) : GW p l e R s m args below meth c cy D A nL cells slots Q E pc lv (.int (iI (N : Int)) :: st) := by
  intro H locs ls h1 h2 h3
  have hf2 : slots + (iI (N : Int)).toNatClampNeg ≤ R.slots := by rw [hN.2]; exact hf.2
  refine W.anew C.1.1 C.1.2.1 C.1.2.2.2.1 (C.1.2.2.2.2 _ hl) (va_AO.use C.2.2.2.2.1) rfl d rfl hN.1 hb hf.1 hf2 fun cA kA comp f1 f2 f3 f4 => ?_
  obtain ⟨kA', comp', r1, r2, r3, r4⟩ := (C.2.2.1.2 3 _ rfl).2
  have hcA : cA = cy 3 := Option.some.inj (f1.symm.trans r4)
  subst hcA
  rw [hN.2]
  generalize hH1 : H.push ({ cls := cy 3, slots := Array.replicate N .null, vm := .none } : Cell) = H1
  have z1 : H1.size = H.size + 1 := by rw [← hH1, Array.size_push]
  have e1 : H1[H.size]? = some (arrV (cy 3) N (fun _ => .null)) := by rw [← hH1, Array.getElem?_push_size, ← arrV_new]
  have o1 : ∀ q : Nat, q < H.size → H1[q]? = H[q]? := fun q hq => by rw [← hH1, Array.getElem?_push, if_neg (Nat.ne_of_lt hq)]
  have hz : H.size < H1.size := by omega
  refine kk H.size _ h2.1 (if_pos rfl) (h1.new _) H1 locs ls (h1.ext hz o1 ?_ (C.2.1 _ h2.1)) ⟨Nat.le_trans h2.1 (by omega), fun x h1' h2' => (o1 x (Nat.lt_of_lt_of_le h1' h2.1)).trans (h2.2.1 x h1' h2'), h2.2.2⟩ h3
  show H1[H.size]? = some (vp_cell _ _)
  rw [vp_cell_q]
  exact e1
theorem G_anewC (C : Gx p l e R s m args below meth c cy D A nL cc own Ts) {N idx : Nat} (kd : Nat) (k : Int) (hl : Cond.classLink own idx "JointVenture$CashCall" ∈ Ts) (hN : ¬ iI (N : Int) < 0 ∧ (iI (N : Int)).toNatClampNeg = N) (hb : (iI (N : Int)).toNatClampNeg * 4 ≤ 536870912) (hf : cells + 1 ≤ R.cells ∧ slots + N ≤ R.slots) (d : decode cc pc = .ok (.anewarray idx, 3)) (kk : ∀ (q : Nat) (E' : Ew), s.heap.size ≤ q → E' q = some (kd, k, .inl (cy 4, N, .inr (.inr (.inr (.inr (fun _ => none)))))) → (∀ a t, E a = some t → E' a = some t) → GW p l e R s m args below meth c cy D A nL (cells + 1) (slots + N) Q E' (pc + 3) lv (.ref q :: st)) : GW p l e R s m args below meth c cy D A nL cells slots Q E pc lv (.int (iI (N : Int)) :: st) := by
  intro H locs ls h1 h2 h3
  have hf2 : slots + (iI (N : Int)).toNatClampNeg ≤ R.slots := by rw [hN.2]; exact hf.2
  refine W.anew C.1.1 C.1.2.1 C.1.2.2.2.1 (C.1.2.2.2.2 _ hl) (va_AO.use C.2.2.2.2.2.1) rfl d rfl hN.1 hb hf.1 hf2 fun cA kA comp f1 f2 f3 f4 => ?_
  obtain ⟨kA', comp', r1, r2, r3, r4⟩ := (C.2.2.1.2 4 _ rfl).2
  have hcA : cA = cy 4 := Option.some.inj (f1.symm.trans r4)
  subst hcA
  rw [hN.2]
  generalize hH1 : H.push ({ cls := cy 4, slots := Array.replicate N .null, vm := .none } : Cell) = H1
  have z1 : H1.size = H.size + 1 := by rw [← hH1, Array.size_push]
  have e1 : H1[H.size]? = some (arrV (cy 4) N (fun _ => .null)) := by rw [← hH1, Array.getElem?_push_size, ← arrV_new]
  have o1 : ∀ q : Nat, q < H.size → H1[q]? = H[q]? := fun q hq => by rw [← hH1, Array.getElem?_push, if_neg (Nat.ne_of_lt hq)]
  have hz : H.size < H1.size := by omega
  refine kk H.size _ h2.1 (if_pos rfl) (h1.new _) H1 locs ls (h1.ext hz o1 ?_ (C.2.1 _ h2.1)) ⟨Nat.le_trans h2.1 (by omega), fun x h1' h2' => (o1 x (Nat.lt_of_lt_of_le h1' h2.1)).trans (h2.2.1 x h1' h2'), h2.2.2⟩ h3
  show H1[H.size]? = some (vp_cell _ _)
  rw [vp_cell_q]
  exact e1
theorem G_put (C : Gx p l e R s m args below meth c cy D A nL cc own Ts) {Cn ref : String} {T : u_T} {N ci idx f kd a : Nat} {k : Int} {fs : List Value} {v : Value} {ty : FieldType} (hin : ∀ w ∈ u_ws Cn T N, w ∈ Ts) (ty0 : Nat → FieldType) (hty : ∀ k, k < N → parseFieldDescriptor (T k).2.2.1 = some (ty0 k)) (hnm : ∀ a, a < N → ∀ b, b < N → a ≠ b → (T a).2.1 ≠ (T b).2.1) (hc : vwCl[ci]? = some (Cn, T, N)) (hE : E a = some (kd, k, .inr (ci, fs))) (hf : f < N) (hl : Cond.fieldLink own idx ref (T f).2.1 (T f).2.2.1 ∈ Ts) (hs : (T f).1 = ref) (hfin : (T f).2.2.2 = true ∧ meth.name = "<init>" ∧ (T f).1 = own ∨ (T f).2.2.2 = false) (hd : parseFieldDescriptor (T f).2.2.1 = some ty) (hn : narrow ty v = v) (hfit : fits ty v = true) (hlen : f < fs.length) (d : decode cc pc = .ok (.putfield idx, 3)) (kk : ∀ E' : Ew, E' a = some (kd, k, .inr (ci, fs.set f v)) → (∀ b kd' k' x, E b = some (kd', k', x) → (kd' ≠ kd ∨ k' ≠ k) → E' b = some (kd', k', x)) → GW p l e R s m args below meth c cy D A nL cells slots Q E' (pc + 3) lv st) : GW p l e R s m args below meth c cy D A nL cells slots Q E pc lv (v :: .ref a :: st) := by
  intro H locs ls h1 h2 h3
  have hts := C.1.2.2.2.2
  have hg := h1 a _ hE
  have hP : va_P D vwCl [(a, .inr (ci, fs))] H := fun i q hq => by
    match i, hq with
    | 0, hq => cases hq; exact hg.1
    | i + 1, hq => simp at hq
  have key : ∀ (H1 : Heap) (locs1 : List Loc), va_at D vwCl (a, .inr (ci, fs.set f v)) H1 → (∀ q : Nat, q ≠ a → H1[q]? = H[q]?) → va_S A s.heap H1 locs1 → W p l e R s m args below meth c H1 locs1 cells slots Q (F0 m (pc + 3) ls st) := fun H1 locs1 hx ho hS => by
    refine kk _ (if_pos rfl) (fun b kd' k' x hb hne => ?_) H1 locs1 ls (h1.put hE hx ho) hS h3
    show (if b = a then _ else E b) = _
    rw [if_neg (ne_tag hE hb hne)]
    exact hb
  have hK := C.2.2.1
  have hap := va_apart (own := own) hts hin ty0 hty hnm hK hc
  obtain ⟨r, g1, cell, q1, q2, q3, q4⟩ := hg.1
  have hr : r = (Cn, T, N) := Option.some.inj (g1.symm.trans hc)
  subst hr
  obtain ⟨hS, hfc, kC, hkC, hkind⟩ := hK.1 ci _ hc
  obtain ⟨cf, kf, fi, f', hi, hsl⟩ := hS f hf
  have hlay := hts _ (hin _ (u_in_lay hf))
  unfold u_lay at hlay
  have hst := (u_facts hfc hkC (u_lays hts hin hf) hi).1
  rcases hfin with ⟨hfin, hin2, hdecl⟩ | hfin
  · rw [if_pos hfin] at hlay
    have hcf : m.cls = cf := by
      obtain ⟨_, _, c', _, _, _, -, -, hf', -, -, -, hown2, -⟩ := Cond.laysFinal_spec hlay
      have e1 : c' = cf := by have := hi.symm.trans hf'; simp at this; exact this.1.symm
      rw [hdecl] at hown2
      rw [← e1]; exact Option.some.inj (C.1.2.2.2.1.symm.trans hown2)
    have h6 := u_fits hfc hkC hkind (Or.inr hlay) hi hd hn hfit
    refine W.putFinK C.1.1 C.1.2.1 C.1.2.2.2.1 (hts _ hl) (by rw [← hs]; exact hi) hst hcf hin2 (by rw [q2]; exact h6) q1 q3 (by rw [hsl]; exact k2_hasslot (q4 f hf)) rfl rfl d fun H' e1 e2 e3 => ?_
    rw [hsl] at e1 ⊢
    exact key H' _ ⟨_, hc, t_OB.to (V := updV (vp_V fs) f v) ⟨_, e1, q2, q3, t_set q4 hap hf v⟩ (fun j _ => vp_updV_set hlen v j)⟩ e3 (h2.put e2 e3 hg.2)
  · rw [if_neg (by rw [hfin]; decide)] at hlay
    have h6 := u_store hfc hkC hkind hlay hi hd hn hfit
    refine W.putK C.1.1 C.1.2.1 (f := f') ⟨C.1.2.2.2.1, hts _ hl, ⟨_, _, _, (by rw [hs] at hi; exact hi)⟩, hst⟩ (by rw [q2]; exact h6) q1 q3 (by rw [hsl]; exact k2_hasslot (q4 f hf)) rfl rfl d fun H' e1 e2 e3 => ?_
    rw [hsl] at e1 ⊢
    exact key H' _ ⟨_, hc, t_OB.to (V := updV (vp_V fs) f v) ⟨_, e1, q2, q3, t_set q4 hap hf v⟩ (fun j _ => vp_updV_set hlen v j)⟩ e3 (h2.put e2 e3 hg.2)
theorem one_G {H : Heap} {a : Nat} {x : va_E} (h : va_at D vwCl (a, x) H) : va_P D vwCl [(a, x)] H := fun i q hq => by
  match i, hq with
  | 0, hq => cases hq; exact h
  | i + 1, hq => simp at hq
theorem G_get (C : Gx p l e R s m args below meth c cy D A nL cc own Ts) {Cn ref : String} {T : u_T} {N ci idx f kd a : Nat} {k : Int} {fs : List Value} {v : Value} (hin : ∀ w ∈ u_ws Cn T N, w ∈ Ts) (hc : vwCl[ci]? = some (Cn, T, N)) (hE : E a = some (kd, k, .inr (ci, fs))) (hf : f < N) (hl : Cond.fieldLink own idx ref (T f).2.1 (T f).2.2.1 ∈ Ts) (hs : (T f).1 = ref) (hv : fs[f]? = some v) (d : decode cc pc = .ok (.getfield idx, 3)) (kk : GW p l e R s m args below meth c cy D A nL cells slots Q E (pc + 3) lv (v :: st)) : GW p l e R s m args below meth c cy D A nL cells slots Q E pc lv (.ref a :: st) := by
  intro H locs ls h1 h2 h3
  subst hs
  exact va_get C.1.1 C.1.2.1 C.1.2.2.2.2 hin C.1.2.2.2.1 C.2.2.1 (one_G (h1 a _ hE).1) 0 rfl hc f hf (C.1.2.2.2.2 _ hl) (fun _ h => h) hv d (kk H locs ls h1 h2 h3)
theorem G_alenI (C : Gx p l e R s m args below meth c cy D A nL cc own Ts) {a N kd : Nat} {k : Int} {f : Nat → Int32} (hE : E a = some (kd, k, .inl (cy 0, N, .inl f))) (d : decode cc pc = .ok (.arraylength, 1)) (kk : GW p l e R s m args below meth c cy D A nL cells slots Q E (pc + 1) lv (.int (iI (N : Int)) :: st)) : GW p l e R s m args below meth c cy D A nL cells slots Q E pc lv (.ref a :: st) := by
  intro H locs ls h1 h2 h3
  exact va_alen C.1.1 C.1.2.1 C.2.2.1 (one_G (h1 a _ hE).1) 0 0 rfl rfl (by show Int32.ofNat N = iI (N : Int); unfold iI; rw [Int32.ofInt_eq_ofNat]) d (kk H locs ls h1 h2 h3)
theorem G_iastore (C : Gx p l e R s m args below meth c cy D A nL cc own Ts) {a N kd : Nat} {k z v : Int} {f : Nat → Int32} (hE : E a = some (kd, k, .inl (cy 0, N, .inl f))) (hN : N ≤ 1000) (hz : 0 ≤ z ∧ z < N) (d : decode cc pc = .ok (.iastore, 1)) (kk : ∀ E' : Ew, E' a = some (kd, k, .inl (cy 0, N, .inl (fun j => if (j : Int) = z then iI v else f j))) → (∀ b kd' k' x, E b = some (kd', k', x) → (kd' ≠ kd ∨ k' ≠ k) → E' b = some (kd', k', x)) → GW p l e R s m args below meth c cy D A nL cells slots Q E' (pc + 1) lv st) : GW p l e R s m args below meth c cy D A nL cells slots Q E pc lv (.int (iI v) :: .int (iI z) :: .ref a :: st) := by
  intro H locs ls h1 h2 h3
  have hg := h1 a _ hE
  obtain ⟨hi, hc⟩ := iI_ix hz.1 hz.2 hN
  have hP : H[a]? = some (arrV (cy 0) N (fun j => .int (f j))) := hg.1
  refine W.iast C.1.1 C.1.2.1 hP ((C.2.2.1.2 0 _ rfl).1 N (fun j => .int (f j))) (fun q => by cases q) (by rw [arrV_size]; exact hi) rfl rfl d fun H1 e1 zs oq => ?_
  rw [hc, arrV_store] at e1
  refine kk _ (if_pos rfl) (fun b kd' k' x hb hne => ?_) H1 _ ls (h1.put hE ?_ oq) (h2.put zs oq hg.2) h3
  · show (if b = a then _ else E b) = _
    rw [if_neg (ne_tag hE hb hne)]
    exact hb
  · show H1[a]? = some (arrV (cy 0) N (fun j => .int (if (j : Int) = z then iI v else f j)))
    rw [e1]
    congr 2
    funext j
    unfold updV
    by_cases h : j = z.toNat
    · subst h
      rw [if_pos rfl, if_pos (by omega)]
    · rw [if_neg h, if_neg (by omega)]
theorem G_aastW (C : Gx p l e R s m args below meth c cy D A nL cc own Ts) {a q N kd kd2 : Nat} {k k2 z : Int} {fs : List Value} {f : Nat → Option Nat} (hE : E a = some (kd, k, .inl (cy 3, N, .inr (.inr (.inr (.inr f)))))) (hv : E q = some (kd2, k2, .inr (2, fs))) (hN : N ≤ 1000) (hz : 0 ≤ z ∧ z < N) (d : decode cc pc = .ok (.aastore, 1)) (kk : ∀ E' : Ew, E' a = some (kd, k, .inl (cy 3, N, .inr (.inr (.inr (.inr (fun j => if (j : Int) = z then some q else f j)))))) → (∀ b kd' k' x, E b = some (kd', k', x) → (kd' ≠ kd ∨ k' ≠ k) → E' b = some (kd', k', x)) → GW p l e R s m args below meth c cy D A nL cells slots Q E' (pc + 1) lv st) : GW p l e R s m args below meth c cy D A nL cells slots Q E pc lv (.ref q :: .int (iI z) :: .ref a :: st) := by
  intro H locs ls h1 h2 h3
  have hg := h1 a _ hE
  obtain ⟨hi, hc⟩ := iI_ix hz.1 hz.2 hN
  have hlt : (iI z).toNatClampNeg < N := Nat.not_le.mp fun q => hi (Or.inr q)
  have h0 : ¬ iI z < 0 := fun q => hi (Or.inl q)
  obtain ⟨r', hr', cellV, g1, g2, g3, -⟩ := (h1 q _ hv).1
  have hcls := (C.2.2.1.1 2 _ rfl).2
  obtain ⟨kA, comp, k1, k2', k3, -⟩ := (C.2.2.1.2 3 _ rfl).2
  have hcomp : comp = D.1 2 := Option.some.inj (k3.symm.trans hcls.1)
  subst hcomp
  obtain ⟨kC, hkC, -⟩ := hcls.2
  have hP : H[a]? = some (vp_cell (cy 3) (N, .inr (.inr (.inr (.inr f))))) := hg.1
  refine W.aast C.1.1 C.1.2.1 hP (fun q h => by cases h) (fun h => by cases h) k1 k2' rfl hkC ⟨h0, by rw [vp_cell_q, arrV_size]; exact hlt⟩ g1 (fun q h => by rw [g3] at h; cases h) (by rw [g2]; exact hkC) (by rw [g2]; exact va_assign hcls) rfl rfl d fun H1 e zs oq => ?_
  refine kk _ (if_pos rfl) (fun b kd' k' x hb hne => ?_) H1 _ ls (h1.put hE ?_ oq) (h2.put zs oq hg.2) h3
  · show (if b = a then _ else E b) = _
    rw [if_neg (ne_tag hE hb hne)]
    exact hb
  · show H1[a]? = some (vp_cell _ _)
    rw [e, vp_cell_q, vp_cell_q, arrV_store, hc]
    congr 2
    funext j
    unfold updV
    by_cases h : j = z.toNat
    · subst h
      rw [if_pos rfl, if_pos (by omega)]
      rfl
    · rw [if_neg h, if_neg (by omega)]
theorem G_aastC (C : Gx p l e R s m args below meth c cy D A nL cc own Ts) {a q N kd kd2 : Nat} {k k2 z : Int} {fs : List Value} {f : Nat → Option Nat} (hE : E a = some (kd, k, .inl (cy 4, N, .inr (.inr (.inr (.inr f)))))) (hv : E q = some (kd2, k2, .inr (0, fs))) (hN : N ≤ 1000) (hz : 0 ≤ z ∧ z < N) (d : decode cc pc = .ok (.aastore, 1)) (kk : ∀ E' : Ew, E' a = some (kd, k, .inl (cy 4, N, .inr (.inr (.inr (.inr (fun j => if (j : Int) = z then some q else f j)))))) → (∀ b kd' k' x, E b = some (kd', k', x) → (kd' ≠ kd ∨ k' ≠ k) → E' b = some (kd', k', x)) → GW p l e R s m args below meth c cy D A nL cells slots Q E' (pc + 1) lv st) : GW p l e R s m args below meth c cy D A nL cells slots Q E pc lv (.ref q :: .int (iI z) :: .ref a :: st) := by
  intro H locs ls h1 h2 h3
  have hg := h1 a _ hE
  obtain ⟨hi, hc⟩ := iI_ix hz.1 hz.2 hN
  have hlt : (iI z).toNatClampNeg < N := Nat.not_le.mp fun q => hi (Or.inr q)
  have h0 : ¬ iI z < 0 := fun q => hi (Or.inl q)
  obtain ⟨r', hr', cellV, g1, g2, g3, -⟩ := (h1 q _ hv).1
  have hcls := (C.2.2.1.1 0 _ rfl).2
  obtain ⟨kA, comp, k1, k2', k3, -⟩ := (C.2.2.1.2 4 _ rfl).2
  have hcomp : comp = D.1 0 := Option.some.inj (k3.symm.trans hcls.1)
  subst hcomp
  obtain ⟨kC, hkC, -⟩ := hcls.2
  have hP : H[a]? = some (vp_cell (cy 4) (N, .inr (.inr (.inr (.inr f))))) := hg.1
  refine W.aast C.1.1 C.1.2.1 hP (fun q h => by cases h) (fun h => by cases h) k1 k2' rfl hkC ⟨h0, by rw [vp_cell_q, arrV_size]; exact hlt⟩ g1 (fun q h => by rw [g3] at h; cases h) (by rw [g2]; exact hkC) (by rw [g2]; exact va_assign hcls) rfl rfl d fun H1 e zs oq => ?_
  refine kk _ (if_pos rfl) (fun b kd' k' x hb hne => ?_) H1 _ ls (h1.put hE ?_ oq) (h2.put zs oq hg.2) h3
  · show (if b = a then _ else E b) = _
    rw [if_neg (ne_tag hE hb hne)]
    exact hb
  · show H1[a]? = some (vp_cell _ _)
    rw [e, vp_cell_q, vp_cell_q, arrV_store, hc]
    congr 2
    funext j
    unfold updV
    by_cases h : j = z.toNat
    · subst h
      rw [if_pos rfl, if_pos (by omega)]
      rfl
    · rw [if_neg h, if_neg (by omega)]
def Af (E : Ew) (sz : Nat) : Nat → Prop := fun q => E q ≠ none ∨ sz ≤ q
abbrev PcG (cy : Nat → ClassId) (D : va_G) (E : Ew) (av : List Value) (sz : Nat) : Array Value → State → Prop := va_Pc av (fun U => U.heap.size = sz ∧ (∀ a t, E a = some t → va_at D vwCl (a, t.2.2) U.heap) ∧ va_K D vwCl (tysO cy) U ∧ AO U)
abbrev QcG (D : va_G) (E : Ew) (post : Ew → Prop) (sz : Nat) : Array Value → State → Outcome → State → Prop := va_Qv post (fun (E' : Ew) (t : State) => Gd D (Af E sz) E' t.heap) (Af E sz)
def KG (l : Launch) (y : MethodName) (ws : List Cond) (rm : Room) (cy : Nat → ClassId) (D : va_G) (E : Ew) (av : List Value) (post : Ew → Prop) (mc ms : Nat) : Prop := ∀ sz : Nat, Met l y ws rm (PcG cy D E av sz) (QcG D E post sz) mc ms (Af E sz)
theorem G_forb {E : Ew} {av : List Value} {sz : Nat} : FrameBlind (PcG cy D E av sz) := fun a U g mk q => ⟨q.1, q.2.1, q.2.2.1, va_K.moved (u := U) (U := U.calling g mk a) (Vm.Alike.refl U.vm) q.2.2.2.1, AO.calling (g := g) (mk := mk) (a := a) q.2.2.2.2⟩
theorem KG.of {l : Launch} {y : MethodName} {ws ws0 : List Cond} {rm : Room} {cc : ByteArray} {maxL : Nat} {ret : Option FieldType} {E : Ew} {av : List Value} {post : Ew → Prop} {mc ms : Nat} {lv0 : List (Option Value)} (hy : plainName y.cls = true) (hw : ws = Cond.code y cc maxL ret :: ws0) (hlen : (lg_sl av).length ≤ maxL) (hlv : lhL lv0 = lv_args 0 av)
    (body : ∀ (p : Program) (e : Env) (s : State) (m : MethodId) (args : Array Value) (below : List Frame) (meth : Method) (c : Code), Gx p l e rm s m args below meth c cy D (Af E s.heap.size) maxL cc y.cls ws → meth.sig.returnType = ret → meth.name = y.name → GW p l e rm s m args below meth c cy D (Af E s.heap.size) maxL 0 0 (MQ below (QcG D E post s.heap.size) args s mc ms (Af E s.heap.size)) E 0 lv0 []) : KG l y ws rm cy D E av post mc ms := by
  intro sz
  refine Met.ofW (cc := cc) (maxL := maxL) (ret := ret) hy hw ?_
  intro p e s m args below meth c s₁ B hml hv
  obtain ⟨rfl, hsz, hP, hK, hO⟩ := hv
  subst hsz
  have C : Gx p l e rm s m av.toArray below meth c cy D (Af E s.heap.size) maxL cc y.cls ws := ⟨⟨B.exec, B.bytes, hml, findClass_of_methodNamed B.named, atoms_spec (ws := ws) B.pre⟩, fun _ h => Or.inr h, hK, B.notSynchronized, hO⟩
  have hl := lv_entry av (n := maxL) hlen
  rw [lg_entry_eq]
  generalize (lg_sl av ++ List.replicate (maxL - (lg_sl av).length) Slot.unset).toArray = ls at hl ⊢
  exact body p e s m av.toArray below meth c C B.returns (name_of_methodNamed B.named B.method).1 s.heap [] ls (fun a t h => ⟨hP a t h, Or.inl (by rw [h]; exact fun z => by cases z)⟩) va_S.rf ⟨hl.1, hl.2.1, fun i v h => hl.2.2 (i, v) (by rw [← hlv]; exact lhL_mem.mpr h)⟩
theorem G_retV {l : Launch} {E0 : Ew} (C : Gx p l e R s m args below meth c cy D (Af E0 s.heap.size) nL cc own Ts) {post : Ew → Prop} {mc ms : Nat} (hr : meth.sig.returnType = none) (hc : cells ≤ mc) (hs : slots ≤ ms) (d : decode cc pc = .ok (.return_, 1)) (hp : post E) : GW p l e R s m args below meth c cy D (Af E0 s.heap.size) nL cells slots (MQ below (QcG D E0 post s.heap.size) args s mc ms (Af E0 s.heap.size)) E pc lv [] := by
  intro H locs ls h1 h2 h3
  refine W.widen hc hs ?_
  exact W.vret C.1.1 C.1.2.1 hr (fun t ht hW => ⟨⟨E, rfl, hp, by show Gd D _ E t.heap; rw [ht]; exact h1⟩, h2.F ht⟩) h2.2.2 d C.2.2.2.1
theorem G_objInit (C : Gx p l e R s m args below meth c cy D A nL cc own Ts) {idx a : Nat} (hl : Cond.methodLink own idx objectInit ∈ Ts) (hi : Cond.instanceMethod objectInit ∈ Ts) (hcd : Cond.code objectInit ⟨#[0xb1]⟩ 1 none ∈ Ts) (hR : 1 ≤ R.frames ∧ 12 ≤ R.locals) (d : decode cc pc = .ok (.invokespecial idx, 3)) (kk : GW p l e R s m args below meth c cy D A nL cells slots Q E (pc + 3) lv []) : GW p l e R s m args below meth c cy D A nL cells slots Q E pc lv [.ref a] := by
  intro H locs ls h1 h2 h3
  refine W.objInit C.1.1 C.1.2.1 C.1.2.2.2.1 (C.1.2.2.2.2 _ hl) (C.1.2.2.2.2 _ hi) (C.1.2.2.2.2 _ hcd) rfl (by rw [C.1.2.2.1]; exact h3.1) rfl d hR.1 hR.2 ?_
  exact kk H locs ls h1 h2 h3
theorem G_KI (C : Gx p l e R s m args below meth c cy D A nL cc own Ts) {y : MethodName} {bytes : ByteArray} {maxL mc ms idx b kd : Nat} {k : Int} {x : va_E} {ws' : List Cond} {rm : Room} {rest : List Value} {post : Ew → Prop} (hM : KG l y ws' rm cy D (One b (kd, k, x)) [.ref b] post mc ms) (cw : CallB R s args own idx y bytes maxL none ws' rm mc ms 0 ∧ y.name = "<init>" ∧ (Cond.instanceMethod y).before args s = true) (hE : E b = some (kd, k, x)) (hst : st = .ref b :: rest) (hW : (rest.map fun v => v.category).sum ≤ 8) (d : decode cc pc = .ok (.invokespecial idx, 3)) (hf : cells + mc ≤ R.cells ∧ slots + ms ≤ R.slots) (kk : ∀ E1, post E1 → ∀ E' : Ew, (∀ a t, E1 a = some t → E' a = some t) → (∀ b kd' k' x, E b = some (kd', k', x) → (kd' ≠ kd ∨ k' ≠ k) → E' b = some (kd', k', x)) → GW p l e R s m args below meth c cy D A nL (cells + mc) (slots + ms) Q E' (pc + 3) lv rest) : GW p l e R s m args below meth c cy D A nL cells slots Q E pc lv st := by
  intro H locs ls h1 h2 h3
  subst hst
  have hone : ∀ a t, One b (kd, k, x) a = some t → a = b ∧ t = (kd, k, x) := fun a t h => by
    unfold One at h
    by_cases e : a = b
    · rw [if_pos e] at h; cases h; exact ⟨e, rfl⟩
    · rw [if_neg e] at h; cases h
  have hA : ∀ q, Af (One b (kd, k, x)) H.size q → A q := fun q hq => hq.elim (fun z => by
    cases ho : One b (kd, k, x) q with
    | none => exact absurd ho z
    | some t => obtain ⟨rfl, rfl⟩ := hone q t ho; exact (h1 _ _ hE).2) (fun z => C.2.1 q (Nat.le_trans h2.1 z))
  refine va_callv (va_runI (As := []) (rest := rest) C.1 (hM H.size) cw ⟨G_forb, fun U hU hW => ⟨rfl, by rw [hU], by rw [hU]; exact fun a t h => (by obtain ⟨rfl, rfl⟩ := hone a t h; exact (h1 _ _ hE).1), va_K.moved hW.alike C.2.2.1, AO.warm hW C.2.2.2.2⟩⟩ rfl rfl h3.1 rfl (lv_room hW) d hf) h2 (fun q _ h => hA q h) hA ?_
  rintro E1 t H1 locs1 ht hvm hp hB hz1 hk1 hS
  rw [ht] at hB
  have hnone : ∀ a u, E a = some u → a ≠ b → E1 a = none := fun a u ha hne => by
    cases h : E1 a with
    | none => rfl
    | some w =>
      rcases (hB a w h).2 with z | z
      · cases ho : One b (kd, k, x) a with
        | none => exact absurd ho z
        | some t => exact absurd (hone a t ho).1 hne
      · exact absurd (h1 a u ha).1.lt (Nat.not_lt.mpr z)
  refine kk E1 hp (fun a => match E1 a with | some w => some w | none => if a = b then none else E a) (fun a w h => by show (match E1 a with | some w => some w | none => if a = b then none else E a) = some w; rw [h]) (fun a kd' k' x' ha hne => ?_) H1 locs1 ls (fun a w h => ?_) hS h3
  · have hab := ne_tag hE ha hne
    show (match E1 a with | some w => some w | none => if a = b then none else E a) = _
    rw [hnone a _ ha hab, if_neg hab]
    exact ha
  · have h' : (match E1 a with | some w => some w | none => if a = b then none else E a) = some w := h
    cases h9 : E1 a with
    | some w9 =>
      rw [h9] at h'
      cases h'
      exact ⟨(hB a w h9).1, hA a (hB a w h9).2⟩
    | none =>
      rw [h9] at h'
      by_cases e : a = b
      · rw [if_pos e] at h'; cases h'
      · rw [if_neg e] at h'
        have g := h1 a w h'
        refine ⟨g.1.kept (hk1 a g.1.lt (fun z => z.elim (fun z => ?_) (fun z => absurd g.1.lt (Nat.not_lt.mpr z)))), g.2⟩
        cases ho : One b (kd, k, x) a with
        | none => exact absurd ho z
        | some t => exact absurd (hone a t ho).1 e
theorem G_KS (C : Gx p l e R s m args below meth c cy D A nL cc own Ts) {y : MethodName} {bytes : ByteArray} {maxL mc ms n idx b kd : Nat} {k : Int} {x : va_E} {ret : Option FieldType} {ws' : List Cond} {rm : Room} {As rest : List Value} {post : Ew → Prop} (hM : KG l y ws' rm cy D (One b (kd, k, x)) As post mc ms) (cw : CallB R s args own idx y bytes maxL ret ws' rm mc ms n ∧ (Cond.static y).before args s = true) (hE : E b = some (kd, k, x)) (hst : st = As.reverse ++ rest) (hn : As.length = n) (hW : (rest.map fun v => v.category).sum ≤ 8) (d : decode cc pc = .ok (.invokestatic idx, 3)) (hf : cells + mc ≤ R.cells ∧ slots + ms ≤ R.slots) (kk : ∀ E1, post E1 → ∀ E' : Ew, (∀ a t, E1 a = some t → E' a = some t) → (∀ b kd' k' x, E b = some (kd', k', x) → (kd' ≠ kd ∨ k' ≠ k) → E' b = some (kd', k', x)) → GW p l e R s m args below meth c cy D A nL (cells + mc) (slots + ms) Q E' (pc + 3) lv rest) : GW p l e R s m args below meth c cy D A nL cells slots Q E pc lv st := by
  intro H locs ls h1 h2 h3
  subst hst
  have hone : ∀ a t, One b (kd, k, x) a = some t → a = b ∧ t = (kd, k, x) := fun a t h => by
    unfold One at h
    by_cases e : a = b
    · rw [if_pos e] at h; cases h; exact ⟨e, rfl⟩
    · rw [if_neg e] at h; cases h
  have hA : ∀ q, Af (One b (kd, k, x)) H.size q → A q := fun q hq => hq.elim (fun z => by
    cases ho : One b (kd, k, x) q with
    | none => exact absurd ho z
    | some t => obtain ⟨rfl, rfl⟩ := hone q t ho; exact (h1 _ _ hE).2) (fun z => C.2.1 q (Nat.le_trans h2.1 z))
  refine va_callv (va_runS (As := As) (rest := rest) C.1 (hM H.size) cw ⟨G_forb, fun U hU hW => ⟨rfl, by rw [hU], by rw [hU]; exact fun a t h => (by obtain ⟨rfl, rfl⟩ := hone a t h; exact (h1 _ _ hE).1), va_K.moved hW.alike C.2.2.1, AO.warm hW C.2.2.2.2⟩⟩ rfl hn h3.1 rfl (lv_room hW) d hf) h2 (fun q _ h => hA q h) hA ?_
  rintro E1 t H1 locs1 ht hvm hp hB hz1 hk1 hS
  rw [ht] at hB
  have hnone : ∀ a u, E a = some u → a ≠ b → E1 a = none := fun a u ha hne => by
    cases h : E1 a with
    | none => rfl
    | some w =>
      rcases (hB a w h).2 with z | z
      · cases ho : One b (kd, k, x) a with
        | none => exact absurd ho z
        | some t => exact absurd (hone a t ho).1 hne
      · exact absurd (h1 a u ha).1.lt (Nat.not_lt.mpr z)
  refine kk E1 hp (fun a => match E1 a with | some w => some w | none => if a = b then none else E a) (fun a w h => by show (match E1 a with | some w => some w | none => if a = b then none else E a) = some w; rw [h]) (fun a kd' k' x' ha hne => ?_) H1 locs1 ls (fun a w h => ?_) hS h3
  · have hab := ne_tag hE ha hne
    show (match E1 a with | some w => some w | none => if a = b then none else E a) = _
    rw [hnone a _ ha hab, if_neg hab]
    exact ha
  · have h' : (match E1 a with | some w => some w | none => if a = b then none else E a) = some w := h
    cases h9 : E1 a with
    | some w9 =>
      rw [h9] at h'
      cases h'
      exact ⟨(hB a w h9).1, hA a (hB a w h9).2⟩
    | none =>
      rw [h9] at h'
      by_cases e : a = b
      · rw [if_pos e] at h'; cases h'
      · rw [if_neg e] at h'
        have g := h1 a w h'
        refine ⟨g.1.kept (hk1 a g.1.lt (fun z => z.elim (fun z => ?_) (fun z => absurd g.1.lt (Nat.not_lt.mpr z)))), g.2⟩
        cases ho : One b (kd, k, x) a with
        | none => exact absurd ho z
        | some t => exact absurd (hone a t ho).1 e
theorem G_KIN (C : Gx p l e R s m args below meth c cy D A nL cc own Ts) {y : MethodName} {bytes : ByteArray} {host : String} {maxL mc ms idx b kd : Nat} {k : Int} {x : va_E} {ws' : List Cond} {rm : Room} {rest : List Value} {post : Ew → Prop} (hM : KG l y ws' rm cy D (One b (kd, k, x)) [.ref b] post mc ms) (cw : va_CN R s args own idx y host bytes maxL none ws' rm mc ms 0 ∧ y.name = "<init>" ∧ (Cond.instanceMethod y).before args s = true) (hE : E b = some (kd, k, x)) (hst : st = .ref b :: rest) (hW : (rest.map fun v => v.category).sum ≤ 8) (d : decode cc pc = .ok (.invokespecial idx, 3)) (hf : cells + mc ≤ R.cells ∧ slots + ms ≤ R.slots) (kk : ∀ E1, post E1 → ∀ E' : Ew, (∀ a t, E1 a = some t → E' a = some t) → (∀ b kd' k' x, E b = some (kd', k', x) → (kd' ≠ kd ∨ k' ≠ k) → E' b = some (kd', k', x)) → GW p l e R s m args below meth c cy D A nL (cells + mc) (slots + ms) Q E' (pc + 3) lv rest) : GW p l e R s m args below meth c cy D A nL cells slots Q E pc lv st := by
  intro H locs ls h1 h2 h3
  subst hst
  have hone : ∀ a t, One b (kd, k, x) a = some t → a = b ∧ t = (kd, k, x) := fun a t h => by
    unfold One at h
    by_cases e : a = b
    · rw [if_pos e] at h; cases h; exact ⟨e, rfl⟩
    · rw [if_neg e] at h; cases h
  have hA : ∀ q, Af (One b (kd, k, x)) H.size q → A q := fun q hq => hq.elim (fun z => by
    cases ho : One b (kd, k, x) q with
    | none => exact absurd ho z
    | some t => obtain ⟨rfl, rfl⟩ := hone q t ho; exact (h1 _ _ hE).2) (fun z => C.2.1 q (Nat.le_trans h2.1 z))
  refine va_callv (va_runIN (As := []) (rest := rest) C.1 (hM H.size) cw ⟨G_forb, fun U hU hW => ⟨rfl, by rw [hU], by rw [hU]; exact fun a t h => (by obtain ⟨rfl, rfl⟩ := hone a t h; exact (h1 _ _ hE).1), va_K.moved hW.alike C.2.2.1, AO.warm hW C.2.2.2.2⟩⟩ rfl rfl h3.1 rfl (lv_room hW) d hf) h2 (fun q _ h => hA q h) hA ?_
  rintro E1 t H1 locs1 ht hvm hp hB hz1 hk1 hS
  rw [ht] at hB
  have hnone : ∀ a u, E a = some u → a ≠ b → E1 a = none := fun a u ha hne => by
    cases h : E1 a with
    | none => rfl
    | some w =>
      rcases (hB a w h).2 with z | z
      · cases ho : One b (kd, k, x) a with
        | none => exact absurd ho z
        | some t => exact absurd (hone a t ho).1 hne
      · exact absurd (h1 a u ha).1.lt (Nat.not_lt.mpr z)
  refine kk E1 hp (fun a => match E1 a with | some w => some w | none => if a = b then none else E a) (fun a w h => by show (match E1 a with | some w => some w | none => if a = b then none else E a) = some w; rw [h]) (fun a kd' k' x' ha hne => ?_) H1 locs1 ls (fun a w h => ?_) hS h3
  · have hab := ne_tag hE ha hne
    show (match E1 a with | some w => some w | none => if a = b then none else E a) = _
    rw [hnone a _ ha hab, if_neg hab]
    exact ha
  · have h' : (match E1 a with | some w => some w | none => if a = b then none else E a) = some w := h
    cases h9 : E1 a with
    | some w9 =>
      rw [h9] at h'
      cases h'
      exact ⟨(hB a w h9).1, hA a (hB a w h9).2⟩
    | none =>
      rw [h9] at h'
      by_cases e : a = b
      · rw [if_pos e] at h'; cases h'
      · rw [if_neg e] at h'
        have g := h1 a w h'
        refine ⟨g.1.kept (hk1 a g.1.lt (fun z => z.elim (fun z => ?_) (fun z => absurd g.1.lt (Nat.not_lt.mpr z)))), g.2⟩
        cases ho : One b (kd, k, x) a with
        | none => exact absurd ho z
        | some t => exact absurd (hone a t ho).1 e
end GG
