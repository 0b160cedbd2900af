def strs : List (Nat × String) := [(101, "the well has or had a voucher"), (103, "the partner has no share"), (109, "nobody would be in"), (126, "the overhead is 0"), (131, "the voucher is an income"), (157, "there are 20 calls"), (172, "nothing is asked that is not paid"), (178, "nobody has paid anything"), (184, "nothing is asked of those who have paid nothing"), (194, "an argument is out of its range"), (198, "there is no such partner"), (201, "there is no such well"), (203, "there is no such voucher"), (205, "there is no such call"), (207, "there are 60 vouchers"), (74, "the shares are not 10000 together"), (81, "there is a well"), (85, "there are 6 wells")]
abbrev nIAE : String := "java/lang/IllegalArgumentException"
abbrev nISE : String := "java/lang/IllegalStateException"
abbrev nIOE : String := "java/lang/IndexOutOfBoundsException"
abbrev nms : List String := ["java/lang/RuntimeException", "java/lang/Exception"]
def thw : List Cond := vx_atS RX3 76 nIAE nms ++ (vx_atS RX3 83 nISE nms ++ vx_atS RX3 200 nIOE nms)
def Sx (cy : Nat → ClassId) (D : va_G) (ad : Ad) (U : State) (H : Heap) : Prop := va_K D vwCl (tysO cy) U ∧ vx_Zq Bundle.tN "UNASSIGNED_STACK" Bundle.steD (Aw ad) U H ∧ vx_Zq Bundle.tN "SUPPRESSED_SENTINEL" Bundle.listD (Aw ad) U H ∧ (∀ q ∈ strs, ∃ a : Nat, vk_R RX3 q.1 q.2 a U) ∧ (∀ w ∈ thw, w.before #[] U = true) ∧ ∀ E ∈ [nIAE, nISE, nIOE], ∀ T ∈ [nIAE, nISE, nIOE], E ≠ T → va_Nc E T U
def Cx (p : Program) (l : Launch) (e : Env) (R : Room) (s : State) (m : MethodId) (args : Array Value) (below : List Frame) (meth : Method) (c : Code) (cy : Nat → ClassId) (D : va_G) (ad : Ad) (A : Nat → Prop) (nL : Nat) (cc : ByteArray) (own : String) (Ts : List Cond) : Prop := CallFix p m c cc nL s args Ts own ∧ Inj ad ∧ (∀ q, Ar ad s.heap.size q → A q) ∧ Sx cy D ad s s.heap ∧ meth.locks = false ∧ l.stackTraces = false ∧ ∀ q, A q → Ar ad s.heap.size q
def JW (p : Program) (l : Launch) (e : Env) (R : Room) (s : State) (m : MethodId) (args : Array Value) (below : List Frame) (meth : Method) (c : Code) (cy : Nat → ClassId) (D : va_G) (ad : Ad) (A : Nat → Prop) (nL : Nat) (cells slots : Nat) (Q : State → Prop) (σ : Sg) (pc : Nat) (lv : List (Option Value)) (st : List Value) : Prop :=
  ∀ (H : Heap) (locs : List Loc) (ls : Array Slot), Wd cy D ad σ H → va_S A s.heap H locs → Lh ls nL lv → W p l e R s m args below meth c H locs cells slots Q (F0 m pc ls st)
def JX (p : Program) (l : Launch) (e : Env) (R : Room) (s : State) (m : MethodId) (args : Array Value) (below : List Frame) (meth : Method) (c : Code) (cy : Nat → ClassId) (D : va_G) (ad : Ad) (A : Nat → Prop) (nL : Nat) (cells slots : Nat) (Q : State → Prop) (σ : Sg) (pc : Nat) (lv : List (Option Value)) (st : List Value) (E : String) : Prop :=
  ∀ (H : Heap) (locs : List Loc) (ls : Array Slot) (ce : Cell) (q : Addr), Wd cy D ad σ H → va_S A s.heap H locs → Lh ls nL lv → H[q]? = some ce → ce.vm = .none → s.vm.findClass E = some ce.cls → vx_W p l e R s m args below meth c H locs cells slots Q (F0 m pc ls st) q
section JJ
variable {p : Program} {l : Launch} {e : Env} {R : Room} {s : State} {m : MethodId} {args : Array Value} {below : List Frame} {meth : Method} {c : Code} {cy : Nat → ClassId} {D : va_G} {ad : Ad} {A : Nat → Prop} {nL : Nat} {cells slots : Nat} {Q : State → Prop} {σ : Sg} {pc : Nat} {lv : List (Option Value)} {st : List Value} {cc : ByteArray} {own : String} {Ts : List Cond}
theorem J_iconst (C : Cx p l e R s m args below meth c cy D ad A nL cc own Ts) {n : Int} (d : decode cc pc = .ok (.iconst n, 1)) (k : JW p l e R s m args below meth c cy D ad A nL cells slots Q σ (pc + 1) lv (.int (iI n) :: st)) : JW p l e R s m args below meth c cy D ad A nL cells slots Q σ pc lv st := by
  intro H locs ls h1 h2 h3
  exact lv_iconst (v := iI n) C.1.1 C.1.2.1 d rfl (k H locs ls h1 h2 h3)
theorem J_bipush (C : Cx p l e R s m args below meth c cy D ad A nL cc own Ts) {n : Int} (hv : (Int8.ofInt n).toInt32 = iI n) (d : decode cc pc = .ok (.bipush n, 2)) (k : JW p l e R s m args below meth c cy D ad A nL cells slots Q σ (pc + 2) lv (.int (iI n) :: st)) : JW p l e R s m args below meth c cy D ad A nL cells slots Q σ pc lv st := by
  intro H locs ls h1 h2 h3
  exact lv_bipush (v := iI n) C.1.1 C.1.2.1 d hv (k H locs ls h1 h2 h3)
theorem J_sipush (C : Cx p l e R s m args below meth c cy D ad A nL cc own Ts) {n : Int} (hv : (Int16.ofInt n).toInt32 = iI n) (d : decode cc pc = .ok (.sipush n, 3)) (k : JW p l e R s m args below meth c cy D ad A nL cells slots Q σ (pc + 3) lv (.int (iI n) :: st)) : JW p l e R s m args below meth c cy D ad A nL cells slots Q σ pc lv st := by
  intro H locs ls h1 h2 h3
  exact lv_sipush (v := iI n) C.1.1 C.1.2.1 d hv (k H locs ls h1 h2 h3)
theorem J_lconst (C : Cx p l e R s m args below meth c cy D ad A nL cc own Ts) {n : Fin 2} {z : Int} (hv : Int64.ofNat n.val = lI z) (d : decode cc pc = .ok (.lconst n, 1)) (k : JW p l e R s m args below meth c cy D ad A nL cells slots Q σ (pc + 1) lv (.long (lI z) :: st)) : JW p l e R s m args below meth c cy D ad A nL cells slots Q σ pc lv st := by
  intro H locs ls h1 h2 h3
  exact lv_lconst (v := lI z) C.1.1 C.1.2.1 d hv (k H locs ls h1 h2 h3)
theorem J_ldc (C : Cx p l e R s m args below meth c cy D ad A nL cc own Ts) {i : Nat} {z : Int} (hw : Cond.constant own i (iI z) ∈ Ts) (d : decode cc pc = .ok (.ldc i, 2)) (k : JW p l e R s m args below meth c cy D ad A nL cells slots Q σ (pc + 2) lv (.int (iI z) :: st)) : JW p l e R s m args below meth c cy D ad A nL cells slots Q σ pc lv st := by
  intro H locs ls h1 h2 h3
  exact lv_ldc C.1.1 C.1.2.1 C.1.2.2.2.1 (C.1.2.2.2.2 _ hw) d (k H locs ls h1 h2 h3)
theorem J_ldcw (C : Cx p l e R s m args below meth c cy D ad A nL cc own Ts) {i : Nat} {z : Int} (hw : Cond.constant own i (iI z) ∈ Ts) (d : decode cc pc = .ok (.ldc_w i, 3)) (k : JW p l e R s m args below meth c cy D ad A nL cells slots Q σ (pc + 3) lv (.int (iI z) :: st)) : JW p l e R s m args below meth c cy D ad A nL cells slots Q σ pc lv st := by
  intro H locs ls h1 h2 h3
  exact lv_ldcw C.1.1 C.1.2.1 C.1.2.2.2.1 (C.1.2.2.2.2 _ hw) d (k H locs ls h1 h2 h3)
theorem J_ldc2 (C : Cx p l e R s m args below meth c cy D ad A nL cc own Ts) {i : Nat} {z : Int} (hw : Cond.constantLong own i (lI z) ∈ Ts) (d : decode cc pc = .ok (.ldc2_w i, 3)) (k : JW p l e R s m args below meth c cy D ad A nL cells slots Q σ (pc + 3) lv (.long (lI z) :: st)) : JW p l e R s m args below meth c cy D ad A nL cells slots Q σ pc lv st := by
  intro H locs ls h1 h2 h3
  exact lv_ldc2 C.1.1 C.1.2.1 C.1.2.2.2.1 (C.1.2.2.2.2 _ hw) d (k H locs ls h1 h2 h3)
theorem J_iadd (C : Cx p l e R s m args below meth c cy D ad A nL cc own Ts) {x y : Int} (d : decode cc pc = .ok (.iadd, 1)) (k : JW p l e R s m args below meth c cy D ad A nL cells slots Q σ (pc + 1) lv (.int (iI (x + y)) :: st)) : JW p l e R s m args below meth c cy D ad A nL cells slots Q σ pc lv (.int (iI y) :: .int (iI x) :: st) := by
  intro H locs ls h1 h2 h3
  exact lv_iadd C.1.1 C.1.2.1 d (by rw [iI_add]; exact k H locs ls h1 h2 h3)
theorem J_ladd (C : Cx p l e R s m args below meth c cy D ad A nL cc own Ts) {x y : Int} (d : decode cc pc = .ok (.ladd, 1)) (k : JW p l e R s m args below meth c cy D ad A nL cells slots Q σ (pc + 1) lv (.long (lI (x + y)) :: st)) : JW p l e R s m args below meth c cy D ad A nL cells slots Q σ pc lv (.long (lI y) :: .long (lI x) :: st) := by
  intro H locs ls h1 h2 h3
  exact lv_ladd C.1.1 C.1.2.1 d (by rw [lI_add]; exact k H locs ls h1 h2 h3)
theorem J_isub (C : Cx p l e R s m args below meth c cy D ad A nL cc own Ts) {x y : Int} (d : decode cc pc = .ok (.isub, 1)) (k : JW p l e R s m args below meth c cy D ad A nL cells slots Q σ (pc + 1) lv (.int (iI (x - y)) :: st)) : JW p l e R s m args below meth c cy D ad A nL cells slots Q σ pc lv (.int (iI y) :: .int (iI x) :: st) := by
  intro H locs ls h1 h2 h3
  exact lv_isub C.1.1 C.1.2.1 d (by rw [iI_sub]; exact k H locs ls h1 h2 h3)
theorem J_lsub (C : Cx p l e R s m args below meth c cy D ad A nL cc own Ts) {x y : Int} (d : decode cc pc = .ok (.lsub, 1)) (k : JW p l e R s m args below meth c cy D ad A nL cells slots Q σ (pc + 1) lv (.long (lI (x - y)) :: st)) : JW p l e R s m args below meth c cy D ad A nL cells slots Q σ pc lv (.long (lI y) :: .long (lI x) :: st) := by
  intro H locs ls h1 h2 h3
  exact lv_lsub C.1.1 C.1.2.1 d (by rw [lI_sub]; exact k H locs ls h1 h2 h3)
theorem J_imul (C : Cx p l e R s m args below meth c cy D ad A nL cc own Ts) {x y : Int} (d : decode cc pc = .ok (.imul, 1)) (k : JW p l e R s m args below meth c cy D ad A nL cells slots Q σ (pc + 1) lv (.int (iI (x * y)) :: st)) : JW p l e R s m args below meth c cy D ad A nL cells slots Q σ pc lv (.int (iI y) :: .int (iI x) :: st) := by
  intro H locs ls h1 h2 h3
  exact lv_imul C.1.1 C.1.2.1 d (by rw [iI_mul]; exact k H locs ls h1 h2 h3)
theorem J_lmul (C : Cx p l e R s m args below meth c cy D ad A nL cc own Ts) {x y : Int} (d : decode cc pc = .ok (.lmul, 1)) (k : JW p l e R s m args below meth c cy D ad A nL cells slots Q σ (pc + 1) lv (.long (lI (x * y)) :: st)) : JW p l e R s m args below meth c cy D ad A nL cells slots Q σ pc lv (.long (lI y) :: .long (lI x) :: st) := by
  intro H locs ls h1 h2 h3
  exact lv_lmul C.1.1 C.1.2.1 d (by rw [lI_mul]; exact k H locs ls h1 h2 h3)
theorem J_ineg (C : Cx p l e R s m args below meth c cy D ad A nL cc own Ts) {x : Int} (d : decode cc pc = .ok (.ineg, 1)) (k : JW p l e R s m args below meth c cy D ad A nL cells slots Q σ (pc + 1) lv (.int (iI (-x)) :: st)) : JW p l e R s m args below meth c cy D ad A nL cells slots Q σ pc lv (.int (iI x) :: st) := by
  intro H locs ls h1 h2 h3
  exact lv_ineg C.1.1 C.1.2.1 d (by rw [iI_neg]; exact k H locs ls h1 h2 h3)
theorem J_iand (C : Cx p l e R s m args below meth c cy D ad A nL cc own Ts) {x y z : Int} (hz : iI x &&& iI y = iI z) (d : decode cc pc = .ok (.iand, 1)) (k : JW p l e R s m args below meth c cy D ad A nL cells slots Q σ (pc + 1) lv (.int (iI z) :: st)) : JW p l e R s m args below meth c cy D ad A nL cells slots Q σ pc lv (.int (iI y) :: .int (iI x) :: st) := by
  intro H locs ls h1 h2 h3
  exact lv_iand C.1.1 C.1.2.1 d (by rw [hz]; exact k H locs ls h1 h2 h3)
theorem J_ldiv (C : Cx p l e R s m args below meth c cy D ad A nL cc own Ts) {x y : Int} (ha : 0 ≤ x ∧ x < 9223372036854775808) (hb : 0 < y ∧ y < 9223372036854775808) (d : decode cc pc = .ok (.ldiv, 1)) (k : JW p l e R s m args below meth c cy D ad A nL cells slots Q σ (pc + 1) lv (.long (lI (x / y)) :: st)) : JW p l e R s m args below meth c cy D ad A nL cells slots Q σ pc lv (.long (lI y) :: .long (lI x) :: st) := by
  intro H locs ls h1 h2 h3
  exact lv_ldiv C.1.1 C.1.2.1 d (fun z => by have := (lI_eq (b := 0) (by omega) (by omega)).mp (z.trans (by rfl)); omega) (by rw [lI_div ha hb]; exact k H locs ls h1 h2 h3)
theorem J_lrem (C : Cx p l e R s m args below meth c cy D ad A nL cc own Ts) {x y : Int} (ha : 0 ≤ x ∧ x < 9223372036854775808) (hb : 0 < y ∧ y < 9223372036854775808) (d : decode cc pc = .ok (.lrem, 1)) (k : JW p l e R s m args below meth c cy D ad A nL cells slots Q σ (pc + 1) lv (.long (lI (x % y)) :: st)) : JW p l e R s m args below meth c cy D ad A nL cells slots Q σ pc lv (.long (lI y) :: .long (lI x) :: st) := by
  intro H locs ls h1 h2 h3
  exact lv_lrem C.1.1 C.1.2.1 d (fun z => by have := (lI_eq (b := 0) (by omega) (by omega)).mp (z.trans (by rfl)); omega) (by rw [lI_rem ha hb]; exact k H locs ls h1 h2 h3)
theorem J_i2l (C : Cx p l e R s m args below meth c cy D ad A nL cc own Ts) {x : Int} (hx : I32 x) (d : decode cc pc = .ok (.i2l, 1)) (k : JW p l e R s m args below meth c cy D ad A nL cells slots Q σ (pc + 1) lv (.long (lI x) :: st)) : JW p l e R s m args below meth c cy D ad A nL cells slots Q σ pc lv (.int (iI x) :: st) := by
  intro H locs ls h1 h2 h3
  exact lv_i2l C.1.1 C.1.2.1 d (iI_wide hx) (k H locs ls h1 h2 h3)
theorem J_l2i (C : Cx p l e R s m args below meth c cy D ad A nL cc own Ts) {x : Int} (d : decode cc pc = .ok (.l2i, 1)) (k : JW p l e R s m args below meth c cy D ad A nL cells slots Q σ (pc + 1) lv (.int (iI x) :: st)) : JW p l e R s m args below meth c cy D ad A nL cells slots Q σ pc lv (.long (lI x) :: st) := by
  intro H locs ls h1 h2 h3
  exact lv_l2i C.1.1 C.1.2.1 d (lI_low x) (k H locs ls h1 h2 h3)
theorem J_dup (C : Cx p l e R s m args below meth c cy D ad A nL cc own Ts) {v : Value} (hv : v.category = 1) (d : decode cc pc = .ok (.dup, 1)) (k : JW p l e R s m args below meth c cy D ad A nL cells slots Q σ (pc + 1) lv (v :: v :: st)) : JW p l e R s m args below meth c cy D ad A nL cells slots Q σ pc lv (v :: st) := by
  intro H locs ls h1 h2 h3
  exact lv_dup C.1.1 C.1.2.1 d hv (k H locs ls h1 h2 h3)
theorem J_dup2 (C : Cx p l e R s m args below meth c cy D ad A nL cc own Ts) {v w : Value} (hv : v.category = 1) (hw : w.category = 1) (d : decode cc pc = .ok (.dup2, 1)) (k : JW p l e R s m args below meth c cy D ad A nL cells slots Q σ (pc + 1) lv (v :: w :: v :: w :: st)) : JW p l e R s m args below meth c cy D ad A nL cells slots Q σ pc lv (v :: w :: st) := by
  intro H locs ls h1 h2 h3
  exact lv_dup2_11 C.1.1 C.1.2.1 d hv hw (k H locs ls h1 h2 h3)
theorem J_icmp_eq (C : Cx p l e R s m args below meth c cy D ad A nL cc own Ts) {x y off : Int} {tgt : Nat} (hx : I32 x) (hy : I32 y) (d : decode cc pc = .ok (.if_icmp .eq off, 3)) (ht : (pc : Int) + off = (tgt : Int)) (k1 : x = y → JW p l e R s m args below meth c cy D ad A nL cells slots Q σ tgt lv st) (k2 : ¬ x = y → JW p l e R s m args below meth c cy D ad A nL cells slots Q σ (pc + 3) lv st) : JW p l e R s m args below meth c cy D ad A nL cells slots Q σ pc lv (.int (iI y) :: .int (iI x) :: st) := by
  intro H locs ls h1 h2 h3
  exact lv_icmp_eq C.1.1 C.1.2.1 d ht (fun z => k1 ((iI_eq hx hy).mp z) H locs ls h1 h2 h3) (fun z => k2 (fun w => z ((iI_eq hx hy).mpr w)) H locs ls h1 h2 h3)
theorem J_if_eq (C : Cx p l e R s m args below meth c cy D ad A nL cc own Ts) {x off : Int} {tgt : Nat} (hx : I32 x) (d : decode cc pc = .ok (.ifCond .eq off, 3)) (ht : (pc : Int) + off = (tgt : Int)) (k1 : x = 0 → JW p l e R s m args below meth c cy D ad A nL cells slots Q σ tgt lv st) (k2 : ¬ x = 0 → JW p l e R s m args below meth c cy D ad A nL cells slots Q σ (pc + 3) lv st) : JW p l e R s m args below meth c cy D ad A nL cells slots Q σ pc lv (.int (iI x) :: st) := by
  intro H locs ls h1 h2 h3
  exact lv_if_eq C.1.1 C.1.2.1 d ht (fun z => k1 ((iI_eq hx (show I32 0 by omega)).mp z) H locs ls h1 h2 h3) (fun z => k2 (fun w => z ((iI_eq hx (show I32 0 by omega)).mpr w)) H locs ls h1 h2 h3)
theorem J_icmp_ne (C : Cx p l e R s m args below meth c cy D ad A nL cc own Ts) {x y off : Int} {tgt : Nat} (hx : I32 x) (hy : I32 y) (d : decode cc pc = .ok (.if_icmp .ne off, 3)) (ht : (pc : Int) + off = (tgt : Int)) (k1 : ¬ x = y → JW p l e R s m args below meth c cy D ad A nL cells slots Q σ tgt lv st) (k2 : x = y → JW p l e R s m args below meth c cy D ad A nL cells slots Q σ (pc + 3) lv st) : JW p l e R s m args below meth c cy D ad A nL cells slots Q σ pc lv (.int (iI y) :: .int (iI x) :: st) := by
  intro H locs ls h1 h2 h3
  exact lv_icmp_ne C.1.1 C.1.2.1 d ht (fun z => k1 (fun w => z ((iI_eq hx hy).mpr w)) H locs ls h1 h2 h3) (fun z => k2 ((iI_eq hx hy).mp (by first | exact z | exact Classical.not_not.mp z)) H locs ls h1 h2 h3)
theorem J_if_ne (C : Cx p l e R s m args below meth c cy D ad A nL cc own Ts) {x off : Int} {tgt : Nat} (hx : I32 x) (d : decode cc pc = .ok (.ifCond .ne off, 3)) (ht : (pc : Int) + off = (tgt : Int)) (k1 : ¬ x = 0 → JW p l e R s m args below meth c cy D ad A nL cells slots Q σ tgt lv st) (k2 : x = 0 → JW p l e R s m args below meth c cy D ad A nL cells slots Q σ (pc + 3) lv st) : JW p l e R s m args below meth c cy D ad A nL cells slots Q σ pc lv (.int (iI x) :: st) := by
  intro H locs ls h1 h2 h3
  exact lv_if_ne C.1.1 C.1.2.1 d ht (fun z => k1 (fun w => z ((iI_eq hx (show I32 0 by omega)).mpr w)) H locs ls h1 h2 h3) (fun z => k2 ((iI_eq hx (show I32 0 by omega)).mp (by first | exact z | exact Classical.not_not.mp z)) H locs ls h1 h2 h3)
theorem J_icmp_lt (C : Cx p l e R s m args below meth c cy D ad A nL cc own Ts) {x y off : Int} {tgt : Nat} (hx : I32 x) (hy : I32 y) (d : decode cc pc = .ok (.if_icmp .lt off, 3)) (ht : (pc : Int) + off = (tgt : Int)) (k1 : x < y → JW p l e R s m args below meth c cy D ad A nL cells slots Q σ tgt lv st) (k2 : y ≤ x → JW p l e R s m args below meth c cy D ad A nL cells slots Q σ (pc + 3) lv st) : JW p l e R s m args below meth c cy D ad A nL cells slots Q σ pc lv (.int (iI y) :: .int (iI x) :: st) := by
  intro H locs ls h1 h2 h3
  exact lv_icmp_lt C.1.1 C.1.2.1 d ht (fun z => k1 ((iI_lt hx hy).mp z) H locs ls h1 h2 h3) (fun z => k2 (by have := mt (iI_lt hx hy).mpr z; omega) H locs ls h1 h2 h3)
theorem J_if_lt (C : Cx p l e R s m args below meth c cy D ad A nL cc own Ts) {x off : Int} {tgt : Nat} (hx : I32 x) (d : decode cc pc = .ok (.ifCond .lt off, 3)) (ht : (pc : Int) + off = (tgt : Int)) (k1 : x < 0 → JW p l e R s m args below meth c cy D ad A nL cells slots Q σ tgt lv st) (k2 : 0 ≤ x → JW p l e R s m args below meth c cy D ad A nL cells slots Q σ (pc + 3) lv st) : JW p l e R s m args below meth c cy D ad A nL cells slots Q σ pc lv (.int (iI x) :: st) := by
  intro H locs ls h1 h2 h3
  exact lv_if_lt C.1.1 C.1.2.1 d ht (fun z => k1 ((iI_lt hx (show I32 0 by omega)).mp z) H locs ls h1 h2 h3) (fun z => k2 (by have := mt (iI_lt hx (show I32 0 by omega)).mpr z; omega) H locs ls h1 h2 h3)
theorem J_icmp_ge (C : Cx p l e R s m args below meth c cy D ad A nL cc own Ts) {x y off : Int} {tgt : Nat} (hx : I32 x) (hy : I32 y) (d : decode cc pc = .ok (.if_icmp .ge off, 3)) (ht : (pc : Int) + off = (tgt : Int)) (k1 : y ≤ x → JW p l e R s m args below meth c cy D ad A nL cells slots Q σ tgt lv st) (k2 : x < y → JW p l e R s m args below meth c cy D ad A nL cells slots Q σ (pc + 3) lv st) : JW p l e R s m args below meth c cy D ad A nL cells slots Q σ pc lv (.int (iI y) :: .int (iI x) :: st) := by
  intro H locs ls h1 h2 h3
  exact lv_icmp_ge C.1.1 C.1.2.1 d ht (fun z => k1 ((iI_le hy hx).mp z) H locs ls h1 h2 h3) (fun z => k2 (by have := mt (iI_le hy hx).mpr z; omega) H locs ls h1 h2 h3)
theorem J_if_ge (C : Cx p l e R s m args below meth c cy D ad A nL cc own Ts) {x off : Int} {tgt : Nat} (hx : I32 x) (d : decode cc pc = .ok (.ifCond .ge off, 3)) (ht : (pc : Int) + off = (tgt : Int)) (k1 : 0 ≤ x → JW p l e R s m args below meth c cy D ad A nL cells slots Q σ tgt lv st) (k2 : x < 0 → JW p l e R s m args below meth c cy D ad A nL cells slots Q σ (pc + 3) lv st) : JW p l e R s m args below meth c cy D ad A nL cells slots Q σ pc lv (.int (iI x) :: st) := by
  intro H locs ls h1 h2 h3
  exact lv_if_ge C.1.1 C.1.2.1 d ht (fun z => k1 ((iI_le (show I32 0 by omega) hx).mp z) H locs ls h1 h2 h3) (fun z => k2 (by have := mt (iI_le (show I32 0 by omega) hx).mpr z; omega) H locs ls h1 h2 h3)
theorem J_icmp_gt (C : Cx p l e R s m args below meth c cy D ad A nL cc own Ts) {x y off : Int} {tgt : Nat} (hx : I32 x) (hy : I32 y) (d : decode cc pc = .ok (.if_icmp .gt off, 3)) (ht : (pc : Int) + off = (tgt : Int)) (k1 : y < x → JW p l e R s m args below meth c cy D ad A nL cells slots Q σ tgt lv st) (k2 : x ≤ y → JW p l e R s m args below meth c cy D ad A nL cells slots Q σ (pc + 3) lv st) : JW p l e R s m args below meth c cy D ad A nL cells slots Q σ pc lv (.int (iI y) :: .int (iI x) :: st) := by
  intro H locs ls h1 h2 h3
  exact lv_icmp_gt C.1.1 C.1.2.1 d ht (fun z => k1 ((iI_lt hy hx).mp z) H locs ls h1 h2 h3) (fun z => k2 (by have := mt (iI_lt hy hx).mpr z; omega) H locs ls h1 h2 h3)
theorem J_if_gt (C : Cx p l e R s m args below meth c cy D ad A nL cc own Ts) {x off : Int} {tgt : Nat} (hx : I32 x) (d : decode cc pc = .ok (.ifCond .gt off, 3)) (ht : (pc : Int) + off = (tgt : Int)) (k1 : 0 < x → JW p l e R s m args below meth c cy D ad A nL cells slots Q σ tgt lv st) (k2 : x ≤ 0 → JW p l e R s m args below meth c cy D ad A nL cells slots Q σ (pc + 3) lv st) : JW p l e R s m args below meth c cy D ad A nL cells slots Q σ pc lv (.int (iI x) :: st) := by
  intro H locs ls h1 h2 h3
  exact lv_if_gt C.1.1 C.1.2.1 d ht (fun z => k1 ((iI_lt (show I32 0 by omega) hx).mp z) H locs ls h1 h2 h3) (fun z => k2 (by have := mt (iI_lt (show I32 0 by omega) hx).mpr z; omega) H locs ls h1 h2 h3)
theorem J_icmp_le (C : Cx p l e R s m args below meth c cy D ad A nL cc own Ts) {x y off : Int} {tgt : Nat} (hx : I32 x) (hy : I32 y) (d : decode cc pc = .ok (.if_icmp .le off, 3)) (ht : (pc : Int) + off = (tgt : Int)) (k1 : x ≤ y → JW p l e R s m args below meth c cy D ad A nL cells slots Q σ tgt lv st) (k2 : y < x → JW p l e R s m args below meth c cy D ad A nL cells slots Q σ (pc + 3) lv st) : JW p l e R s m args below meth c cy D ad A nL cells slots Q σ pc lv (.int (iI y) :: .int (iI x) :: st) := by
  intro H locs ls h1 h2 h3
  exact lv_icmp_le C.1.1 C.1.2.1 d ht (fun z => k1 ((iI_le hx hy).mp z) H locs ls h1 h2 h3) (fun z => k2 (by have := mt (iI_le hx hy).mpr z; omega) H locs ls h1 h2 h3)
theorem J_if_le (C : Cx p l e R s m args below meth c cy D ad A nL cc own Ts) {x off : Int} {tgt : Nat} (hx : I32 x) (d : decode cc pc = .ok (.ifCond .le off, 3)) (ht : (pc : Int) + off = (tgt : Int)) (k1 : x ≤ 0 → JW p l e R s m args below meth c cy D ad A nL cells slots Q σ tgt lv st) (k2 : 0 < x → JW p l e R s m args below meth c cy D ad A nL cells slots Q σ (pc + 3) lv st) : JW p l e R s m args below meth c cy D ad A nL cells slots Q σ pc lv (.int (iI x) :: st) := by
  intro H locs ls h1 h2 h3
  exact lv_if_le C.1.1 C.1.2.1 d ht (fun z => k1 ((iI_le hx (show I32 0 by omega)).mp z) H locs ls h1 h2 h3) (fun z => k2 (by have := mt (iI_le hx (show I32 0 by omega)).mpr z; omega) H locs ls h1 h2 h3)
theorem J_goto (C : Cx p l e R s m args below meth c cy D ad A nL cc own Ts) {off : Int} {tgt : Nat} (d : decode cc pc = .ok (.goto off, 3)) (ht : (pc : Int) + off = (tgt : Int)) (k : JW p l e R s m args below meth c cy D ad A nL cells slots Q σ tgt lv st) : JW p l e R s m args below meth c cy D ad A nL cells slots Q σ pc lv st := by
  intro H locs ls h1 h2 h3
  exact lv_goto C.1.1 C.1.2.1 d ht (k H locs ls h1 h2 h3)
theorem lcmp_v (x y : Int) (hx : I64 x) (hy : I64 y) : lg_cmp (lI x) (lI y) = iI (if y < x then 1 else if x = y then 0 else -1) := by
  unfold lg_cmp
  by_cases h1 : y < x
  · simp only [lI_lt hy hx, h1, if_true]; rfl
  · by_cases h2 : x = y
    · subst h2
      simp; rfl
    · simp only [lI_lt hy hx, h1, if_false, lI_eq hx hy, h2]; rfl
theorem J_lcmp (C : Cx p l e R s m args below meth c cy D ad A nL cc own Ts) {x y : Int} (hx : I64 x) (hy : I64 y) (d : decode cc pc = .ok (.lcmp, 1)) (k : JW p l e R s m args below meth c cy D ad A nL cells slots Q σ (pc + 1) lv (.int (iI (if y < x then 1 else if x = y then 0 else -1)) :: st)) : JW p l e R s m args below meth c cy D ad A nL cells slots Q σ pc lv (.long (lI y) :: .long (lI x) :: st) := by
  intro H locs ls h1 h2 h3
  exact W.lcmp C.1.1 C.1.2.1 d (by rw [lcmp_v x y hx hy]; exact k H locs ls h1 h2 h3)
theorem J_iload_0 (C : Cx p l e R s m args below meth c cy D ad A nL cc own Ts) {t : List (Option Value)} {x : Int} (d : decode cc pc = .ok (.iload_n 0, 1)) (k : JW p l e R s m args below meth c cy D ad A nL cells slots Q σ (pc + 1) (some (.int (iI x)) :: t) (.int (iI x) :: st)) : JW p l e R s m args below meth c cy D ad A nL cells slots Q σ pc (some (.int (iI x)) :: t) st := by
  intro H locs ls h1 h2 h3
  exact lv_iload_n C.1.1 C.1.2.1 d rfl (h3.2.2 0 _ rfl) (k H locs ls h1 h2 h3)
theorem J_iload0 (C : Cx p l e R s m args below meth c cy D ad A nL cc own Ts) {t : List (Option Value)} {x : Int} (d : decode cc pc = .ok (.iload 0, 2)) (k : JW p l e R s m args below meth c cy D ad A nL cells slots Q σ (pc + 2) (some (.int (iI x)) :: t) (.int (iI x) :: st)) : JW p l e R s m args below meth c cy D ad A nL cells slots Q σ pc (some (.int (iI x)) :: t) st := by
  intro H locs ls h1 h2 h3
  exact lv_iload C.1.1 C.1.2.1 d (h3.2.2 0 _ rfl) (k H locs ls h1 h2 h3)
theorem J_lload_0 (C : Cx p l e R s m args below meth c cy D ad A nL cc own Ts) {t : List (Option Value)} {x : Int} (d : decode cc pc = .ok (.lload_n 0, 1)) (k : JW p l e R s m args below meth c cy D ad A nL cells slots Q σ (pc + 1) (some (.long (lI x)) :: t) (.long (lI x) :: st)) : JW p l e R s m args below meth c cy D ad A nL cells slots Q σ pc (some (.long (lI x)) :: t) st := by
  intro H locs ls h1 h2 h3
  exact lv_lload_n C.1.1 C.1.2.1 d rfl (h3.2.2 0 _ rfl) (k H locs ls h1 h2 h3)
theorem J_lload0 (C : Cx p l e R s m args below meth c cy D ad A nL cc own Ts) {t : List (Option Value)} {x : Int} (d : decode cc pc = .ok (.lload 0, 2)) (k : JW p l e R s m args below meth c cy D ad A nL cells slots Q σ (pc + 2) (some (.long (lI x)) :: t) (.long (lI x) :: st)) : JW p l e R s m args below meth c cy D ad A nL cells slots Q σ pc (some (.long (lI x)) :: t) st := by
  intro H locs ls h1 h2 h3
  exact lv_lload C.1.1 C.1.2.1 d (h3.2.2 0 _ rfl) (k H locs ls h1 h2 h3)
theorem J_aload_0 (C : Cx p l e R s m args below meth c cy D ad A nL cc own Ts) {t : List (Option Value)} {x : Nat} (d : decode cc pc = .ok (.aload_n 0, 1)) (k : JW p l e R s m args below meth c cy D ad A nL cells slots Q σ (pc + 1) (some (.ref x) :: t) (.ref x :: st)) : JW p l e R s m args below meth c cy D ad A nL cells slots Q σ pc (some (.ref x) :: t) st := by
  intro H locs ls h1 h2 h3
  exact lv_aload_n C.1.1 C.1.2.1 d rfl (h3.2.2 0 _ rfl) (k H locs ls h1 h2 h3)
theorem J_aload0 (C : Cx p l e R s m args below meth c cy D ad A nL cc own Ts) {t : List (Option Value)} {x : Nat} (d : decode cc pc = .ok (.aload 0, 2)) (k : JW p l e R s m args below meth c cy D ad A nL cells slots Q σ (pc + 2) (some (.ref x) :: t) (.ref x :: st)) : JW p l e R s m args below meth c cy D ad A nL cells slots Q σ pc (some (.ref x) :: t) st := by
  intro H locs ls h1 h2 h3
  exact lv_aload C.1.1 C.1.2.1 d (h3.2.2 0 _ rfl) (k H locs ls h1 h2 h3)
theorem J_istore_0 (C : Cx p l e R s m args below meth c cy D ad A nL cc own Ts) {t : List (Option Value)} {b : Option Value} {x : Int} (hn : 0 < nL) (d : decode cc pc = .ok (.istore_n 0, 1)) (k : JW p l e R s m args below meth c cy D ad A nL cells slots Q σ (pc + 1) (some (.int (iI x)) :: t) st) : JW p l e R s m args below meth c cy D ad A nL cells slots Q σ pc (b :: t) (.int (iI x) :: st) := by
  intro H locs ls h1 h2 h3
  exact lv_istore_n C.1.1 C.1.2.1 d rfl h3.has hn rfl (fun ls' h' => k H locs ls' h1 h2 (Lh.set1 rfl h'))
theorem J_istore0 (C : Cx p l e R s m args below meth c cy D ad A nL cc own Ts) {t : List (Option Value)} {b : Option Value} {x : Int} (hn : 0 < nL) (d : decode cc pc = .ok (.istore 0, 2)) (k : JW p l e R s m args below meth c cy D ad A nL cells slots Q σ (pc + 2) (some (.int (iI x)) :: t) st) : JW p l e R s m args below meth c cy D ad A nL cells slots Q σ pc (b :: t) (.int (iI x) :: st) := by
  intro H locs ls h1 h2 h3
  exact lv_istore C.1.1 C.1.2.1 d h3.has hn rfl (fun ls' h' => k H locs ls' h1 h2 (Lh.set1 rfl h'))
theorem J_astore_0 (C : Cx p l e R s m args below meth c cy D ad A nL cc own Ts) {t : List (Option Value)} {b : Option Value} {x : Nat} (hn : 0 < nL) (d : decode cc pc = .ok (.astore_n 0, 1)) (k : JW p l e R s m args below meth c cy D ad A nL cells slots Q σ (pc + 1) (some (.ref x) :: t) st) : JW p l e R s m args below meth c cy D ad A nL cells slots Q σ pc (b :: t) (.ref x :: st) := by
  intro H locs ls h1 h2 h3
  exact lv_astore_n C.1.1 C.1.2.1 d rfl h3.has hn rfl (fun ls' h' => k H locs ls' h1 h2 (Lh.set1 rfl h'))
theorem J_astore0 (C : Cx p l e R s m args below meth c cy D ad A nL cc own Ts) {t : List (Option Value)} {b : Option Value} {x : Nat} (hn : 0 < nL) (d : decode cc pc = .ok (.astore 0, 2)) (k : JW p l e R s m args below meth c cy D ad A nL cells slots Q σ (pc + 2) (some (.ref x) :: t) st) : JW p l e R s m args below meth c cy D ad A nL cells slots Q σ pc (b :: t) (.ref x :: st) := by
  intro H locs ls h1 h2 h3
  exact lv_astore C.1.1 C.1.2.1 d h3.has hn rfl (fun ls' h' => k H locs ls' h1 h2 (Lh.set1 rfl h'))
theorem J_lstore_0 (C : Cx p l e R s m args below meth c cy D ad A nL cc own Ts) {t : List (Option Value)} {b b2 : Option Value} {x : Int} (hn : 0 + 1 < nL) (d : decode cc pc = .ok (.lstore_n 0, 1)) (k : JW p l e R s m args below meth c cy D ad A nL cells slots Q σ (pc + 1) (some (.long (lI x)) :: none :: t) st) : JW p l e R s m args below meth c cy D ad A nL cells slots Q σ pc (b :: b2 :: t) (.long (lI x) :: st) := by
  intro H locs ls h1 h2 h3
  exact lv_lstore_n C.1.1 C.1.2.1 d rfl h3.has hn rfl (fun ls' h' => k H locs ls' h1 h2 (Lh.set2 rfl h'))
theorem J_lstore0 (C : Cx p l e R s m args below meth c cy D ad A nL cc own Ts) {t : List (Option Value)} {b b2 : Option Value} {x : Int} (hn : 0 + 1 < nL) (d : decode cc pc = .ok (.lstore 0, 2)) (k : JW p l e R s m args below meth c cy D ad A nL cells slots Q σ (pc + 2) (some (.long (lI x)) :: none :: t) st) : JW p l e R s m args below meth c cy D ad A nL cells slots Q σ pc (b :: b2 :: t) (.long (lI x) :: st) := by
  intro H locs ls h1 h2 h3
  exact lv_lstore C.1.1 C.1.2.1 d h3.has hn rfl (fun ls' h' => k H locs ls' h1 h2 (Lh.set2 rfl h'))
theorem J_iinc0 (C : Cx p l e R s m args below meth c cy D ad A nL cc own Ts) {t : List (Option Value)} {x z : Int} (hn : 0 < nL) (d : decode cc pc = .ok (.iinc 0 z, 3)) (k : JW p l e R s m args below meth c cy D ad A nL cells slots Q σ (pc + 3) (some (.int (iI (x + z))) :: t) st) : JW p l e R s m args below meth c cy D ad A nL cells slots Q σ pc (some (.int (iI x)) :: t) st := by
  intro H locs ls h1 h2 h3
  obtain ⟨i, hi⟩ := List.getElem?_of_mem (lhL_mem.mpr (show ((some (.int (iI x)) :: t))[0]? = some (some (.int (iI x))) from rfl))
  exact lv_iinc (v := iI (x + z)) (k := i) C.1.1 C.1.2.1 d h3.has hi (iI_add x z) hn rfl (fun ls' h' => k H locs ls' h1 h2 (Lh.set1 rfl h'))
theorem J_iload_1 (C : Cx p l e R s m args below meth c cy D ad A nL cc own Ts) {a0 : Option Value} {t : List (Option Value)} {x : Int} (d : decode cc pc = .ok (.iload_n 1, 1)) (k : JW p l e R s m args below meth c cy D ad A nL cells slots Q σ (pc + 1) (a0 :: some (.int (iI x)) :: t) (.int (iI x) :: st)) : JW p l e R s m args below meth c cy D ad A nL cells slots Q σ pc (a0 :: some (.int (iI x)) :: t) st := by
  intro H locs ls h1 h2 h3
  exact lv_iload_n C.1.1 C.1.2.1 d rfl (h3.2.2 1 _ rfl) (k H locs ls h1 h2 h3)
theorem J_iload1 (C : Cx p l e R s m args below meth c cy D ad A nL cc own Ts) {a0 : Option Value} {t : List (Option Value)} {x : Int} (d : decode cc pc = .ok (.iload 1, 2)) (k : JW p l e R s m args below meth c cy D ad A nL cells slots Q σ (pc + 2) (a0 :: some (.int (iI x)) :: t) (.int (iI x) :: st)) : JW p l e R s m args below meth c cy D ad A nL cells slots Q σ pc (a0 :: some (.int (iI x)) :: t) st := by
  intro H locs ls h1 h2 h3
  exact lv_iload C.1.1 C.1.2.1 d (h3.2.2 1 _ rfl) (k H locs ls h1 h2 h3)
theorem J_lload_1 (C : Cx p l e R s m args below meth c cy D ad A nL cc own Ts) {a0 : Option Value} {t : List (Option Value)} {x : Int} (d : decode cc pc = .ok (.lload_n 1, 1)) (k : JW p l e R s m args below meth c cy D ad A nL cells slots Q σ (pc + 1) (a0 :: some (.long (lI x)) :: t) (.long (lI x) :: st)) : JW p l e R s m args below meth c cy D ad A nL cells slots Q σ pc (a0 :: some (.long (lI x)) :: t) st := by
  intro H locs ls h1 h2 h3
  exact lv_lload_n C.1.1 C.1.2.1 d rfl (h3.2.2 1 _ rfl) (k H locs ls h1 h2 h3)
theorem J_lload1 (C : Cx p l e R s m args below meth c cy D ad A nL cc own Ts) {a0 : Option Value} {t : List (Option Value)} {x : Int} (d : decode cc pc = .ok (.lload 1, 2)) (k : JW p l e R s m args below meth c cy D ad A nL cells slots Q σ (pc + 2) (a0 :: some (.long (lI x)) :: t) (.long (lI x) :: st)) : JW p l e R s m args below meth c cy D ad A nL cells slots Q σ pc (a0 :: some (.long (lI x)) :: t) st := by
  intro H locs ls h1 h2 h3
  exact lv_lload C.1.1 C.1.2.1 d (h3.2.2 1 _ rfl) (k H locs ls h1 h2 h3)
theorem J_aload_1 (C : Cx p l e R s m args below meth c cy D ad A nL cc own Ts) {a0 : Option Value} {t : List (Option Value)} {x : Nat} (d : decode cc pc = .ok (.aload_n 1, 1)) (k : JW p l e R s m args below meth c cy D ad A nL cells slots Q σ (pc + 1) (a0 :: some (.ref x) :: t) (.ref x :: st)) : JW p l e R s m args below meth c cy D ad A nL cells slots Q σ pc (a0 :: some (.ref x) :: t) st := by
  intro H locs ls h1 h2 h3
  exact lv_aload_n C.1.1 C.1.2.1 d rfl (h3.2.2 1 _ rfl) (k H locs ls h1 h2 h3)
theorem J_aload1 (C : Cx p l e R s m args below meth c cy D ad A nL cc own Ts) {a0 : Option Value} {t : List (Option Value)} {x : Nat} (d : decode cc pc = .ok (.aload 1, 2)) (k : JW p l e R s m args below meth c cy D ad A nL cells slots Q σ (pc + 2) (a0 :: some (.ref x) :: t) (.ref x :: st)) : JW p l e R s m args below meth c cy D ad A nL cells slots Q σ pc (a0 :: some (.ref x) :: t) st := by
  intro H locs ls h1 h2 h3
  exact lv_aload C.1.1 C.1.2.1 d (h3.2.2 1 _ rfl) (k H locs ls h1 h2 h3)
theorem J_istore_1 (C : Cx p l e R s m args below meth c cy D ad A nL cc own Ts) {a0 : Option Value} {t : List (Option Value)} {b : Option Value} {x : Int} (hn : 1 < nL) (hp : nlo a0 = true) (d : decode cc pc = .ok (.istore_n 1, 1)) (k : JW p l e R s m args below meth c cy D ad A nL cells slots Q σ (pc + 1) (a0 :: some (.int (iI x)) :: t) st) : JW p l e R s m args below meth c cy D ad A nL cells slots Q σ pc (a0 :: b :: t) (.int (iI x) :: st) := by
  intro H locs ls h1 h2 h3
  exact lv_istore_n C.1.1 C.1.2.1 d rfl h3.has hn rfl (fun ls' h' => k H locs ls' h1 h2 (Lh.set1 (show nlat ((a0 :: b :: t)) 1 = true from hp) h'))
theorem J_istore1 (C : Cx p l e R s m args below meth c cy D ad A nL cc own Ts) {a0 : Option Value} {t : List (Option Value)} {b : Option Value} {x : Int} (hn : 1 < nL) (hp : nlo a0 = true) (d : decode cc pc = .ok (.istore 1, 2)) (k : JW p l e R s m args below meth c cy D ad A nL cells slots Q σ (pc + 2) (a0 :: some (.int (iI x)) :: t) st) : JW p l e R s m args below meth c cy D ad A nL cells slots Q σ pc (a0 :: b :: t) (.int (iI x) :: st) := by
  intro H locs ls h1 h2 h3
  exact lv_istore C.1.1 C.1.2.1 d h3.has hn rfl (fun ls' h' => k H locs ls' h1 h2 (Lh.set1 (show nlat ((a0 :: b :: t)) 1 = true from hp) h'))
theorem J_astore_1 (C : Cx p l e R s m args below meth c cy D ad A nL cc own Ts) {a0 : Option Value} {t : List (Option Value)} {b : Option Value} {x : Nat} (hn : 1 < nL) (hp : nlo a0 = true) (d : decode cc pc = .ok (.astore_n 1, 1)) (k : JW p l e R s m args below meth c cy D ad A nL cells slots Q σ (pc + 1) (a0 :: some (.ref x) :: t) st) : JW p l e R s m args below meth c cy D ad A nL cells slots Q σ pc (a0 :: b :: t) (.ref x :: st) := by
  intro H locs ls h1 h2 h3
  exact lv_astore_n C.1.1 C.1.2.1 d rfl h3.has hn rfl (fun ls' h' => k H locs ls' h1 h2 (Lh.set1 (show nlat ((a0 :: b :: t)) 1 = true from hp) h'))
theorem J_astore1 (C : Cx p l e R s m args below meth c cy D ad A nL cc own Ts) {a0 : Option Value} {t : List (Option Value)} {b : Option Value} {x : Nat} (hn : 1 < nL) (hp : nlo a0 = true) (d : decode cc pc = .ok (.astore 1, 2)) (k : JW p l e R s m args below meth c cy D ad A nL cells slots Q σ (pc + 2) (a0 :: some (.ref x) :: t) st) : JW p l e R s m args below meth c cy D ad A nL cells slots Q σ pc (a0 :: b :: t) (.ref x :: st) := by
  intro H locs ls h1 h2 h3
  exact lv_astore C.1.1 C.1.2.1 d h3.has hn rfl (fun ls' h' => k H locs ls' h1 h2 (Lh.set1 (show nlat ((a0 :: b :: t)) 1 = true from hp) h'))
theorem J_lstore_1 (C : Cx p l e R s m args below meth c cy D ad A nL cc own Ts) {a0 : Option Value} {t : List (Option Value)} {b b2 : Option Value} {x : Int} (hn : 1 + 1 < nL) (hp : nlo a0 = true) (d : decode cc pc = .ok (.lstore_n 1, 1)) (k : JW p l e R s m args below meth c cy D ad A nL cells slots Q σ (pc + 1) (a0 :: some (.long (lI x)) :: none :: t) st) : JW p l e R s m args below meth c cy D ad A nL cells slots Q σ pc (a0 :: b :: b2 :: t) (.long (lI x) :: st) := by
  intro H locs ls h1 h2 h3
  exact lv_lstore_n C.1.1 C.1.2.1 d rfl h3.has hn rfl (fun ls' h' => k H locs ls' h1 h2 (Lh.set2 (show nlat ((a0 :: b :: b2 :: t)) 1 = true from hp) h'))
theorem J_lstore1 (C : Cx p l e R s m args below meth c cy D ad A nL cc own Ts) {a0 : Option Value} {t : List (Option Value)} {b b2 : Option Value} {x : Int} (hn : 1 + 1 < nL) (hp : nlo a0 = true) (d : decode cc pc = .ok (.lstore 1, 2)) (k : JW p l e R s m args below meth c cy D ad A nL cells slots Q σ (pc + 2) (a0 :: some (.long (lI x)) :: none :: t) st) : JW p l e R s m args below meth c cy D ad A nL cells slots Q σ pc (a0 :: b :: b2 :: t) (.long (lI x) :: st) := by
  intro H locs ls h1 h2 h3
  exact lv_lstore C.1.1 C.1.2.1 d h3.has hn rfl (fun ls' h' => k H locs ls' h1 h2 (Lh.set2 (show nlat ((a0 :: b :: b2 :: t)) 1 = true from hp) h'))
theorem J_iinc1 (C : Cx p l e R s m args below meth c cy D ad A nL cc own Ts) {a0 : Option Value} {t : List (Option Value)} {x z : Int} (hn : 1 < nL) (hp : nlo a0 = true) (d : decode cc pc = .ok (.iinc 1 z, 3)) (k : JW p l e R s m args below meth c cy D ad A nL cells slots Q σ (pc + 3) (a0 :: some (.int (iI (x + z))) :: t) st) : JW p l e R s m args below meth c cy D ad A nL cells slots Q σ pc (a0 :: some (.int (iI x)) :: t) st := by
  intro H locs ls h1 h2 h3
  obtain ⟨i, hi⟩ := List.getElem?_of_mem (lhL_mem.mpr (show ((a0 :: some (.int (iI x)) :: t))[1]? = some (some (.int (iI x))) from rfl))
  exact lv_iinc (v := iI (x + z)) (k := i) C.1.1 C.1.2.1 d h3.has hi (iI_add x z) hn rfl (fun ls' h' => k H locs ls' h1 h2 (Lh.set1 (show nlat ((a0 :: some (.int (iI x)) :: t)) 1 = true from hp) h'))
theorem J_iload_2 (C : Cx p l e R s m args below meth c cy D ad A nL cc own Ts) {a0 a1 : Option Value} {t : List (Option Value)} {x : Int} (d : decode cc pc = .ok (.iload_n 2, 1)) (k : JW p l e R s m args below meth c cy D ad A nL cells slots Q σ (pc + 1) (a0 :: a1 :: some (.int (iI x)) :: t) (.int (iI x) :: st)) : JW p l e R s m args below meth c cy D ad A nL cells slots Q σ pc (a0 :: a1 :: some (.int (iI x)) :: t) st := by
  intro H locs ls h1 h2 h3
  exact lv_iload_n C.1.1 C.1.2.1 d rfl (h3.2.2 2 _ rfl) (k H locs ls h1 h2 h3)
theorem J_iload2 (C : Cx p l e R s m args below meth c cy D ad A nL cc own Ts) {a0 a1 : Option Value} {t : List (Option Value)} {x : Int} (d : decode cc pc = .ok (.iload 2, 2)) (k : JW p l e R s m args below meth c cy D ad A nL cells slots Q σ (pc + 2) (a0 :: a1 :: some (.int (iI x)) :: t) (.int (iI x) :: st)) : JW p l e R s m args below meth c cy D ad A nL cells slots Q σ pc (a0 :: a1 :: some (.int (iI x)) :: t) st := by
  intro H locs ls h1 h2 h3
  exact lv_iload C.1.1 C.1.2.1 d (h3.2.2 2 _ rfl) (k H locs ls h1 h2 h3)
theorem J_lload_2 (C : Cx p l e R s m args below meth c cy D ad A nL cc own Ts) {a0 a1 : Option Value} {t : List (Option Value)} {x : Int} (d : decode cc pc = .ok (.lload_n 2, 1)) (k : JW p l e R s m args below meth c cy D ad A nL cells slots Q σ (pc + 1) (a0 :: a1 :: some (.long (lI x)) :: t) (.long (lI x) :: st)) : JW p l e R s m args below meth c cy D ad A nL cells slots Q σ pc (a0 :: a1 :: some (.long (lI x)) :: t) st := by
  intro H locs ls h1 h2 h3
  exact lv_lload_n C.1.1 C.1.2.1 d rfl (h3.2.2 2 _ rfl) (k H locs ls h1 h2 h3)
theorem J_lload2 (C : Cx p l e R s m args below meth c cy D ad A nL cc own Ts) {a0 a1 : Option Value} {t : List (Option Value)} {x : Int} (d : decode cc pc = .ok (.lload 2, 2)) (k : JW p l e R s m args below meth c cy D ad A nL cells slots Q σ (pc + 2) (a0 :: a1 :: some (.long (lI x)) :: t) (.long (lI x) :: st)) : JW p l e R s m args below meth c cy D ad A nL cells slots Q σ pc (a0 :: a1 :: some (.long (lI x)) :: t) st := by
  intro H locs ls h1 h2 h3
  exact lv_lload C.1.1 C.1.2.1 d (h3.2.2 2 _ rfl) (k H locs ls h1 h2 h3)
theorem J_aload_2 (C : Cx p l e R s m args below meth c cy D ad A nL cc own Ts) {a0 a1 : Option Value} {t : List (Option Value)} {x : Nat} (d : decode cc pc = .ok (.aload_n 2, 1)) (k : JW p l e R s m args below meth c cy D ad A nL cells slots Q σ (pc + 1) (a0 :: a1 :: some (.ref x) :: t) (.ref x :: st)) : JW p l e R s m args below meth c cy D ad A nL cells slots Q σ pc (a0 :: a1 :: some (.ref x) :: t) st := by
  intro H locs ls h1 h2 h3
  exact lv_aload_n C.1.1 C.1.2.1 d rfl (h3.2.2 2 _ rfl) (k H locs ls h1 h2 h3)
theorem J_aload2 (C : Cx p l e R s m args below meth c cy D ad A nL cc own Ts) {a0 a1 : Option Value} {t : List (Option Value)} {x : Nat} (d : decode cc pc = .ok (.aload 2, 2)) (k : JW p l e R s m args below meth c cy D ad A nL cells slots Q σ (pc + 2) (a0 :: a1 :: some (.ref x) :: t) (.ref x :: st)) : JW p l e R s m args below meth c cy D ad A nL cells slots Q σ pc (a0 :: a1 :: some (.ref x) :: t) st := by
  intro H locs ls h1 h2 h3
  exact lv_aload C.1.1 C.1.2.1 d (h3.2.2 2 _ rfl) (k H locs ls h1 h2 h3)
theorem J_istore_2 (C : Cx p l e R s m args below meth c cy D ad A nL cc own Ts) {a0 a1 : Option Value} {t : List (Option Value)} {b : Option Value} {x : Int} (hn : 2 < nL) (hp : nlo a1 = true) (d : decode cc pc = .ok (.istore_n 2, 1)) (k : JW p l e R s m args below meth c cy D ad A nL cells slots Q σ (pc + 1) (a0 :: a1 :: some (.int (iI x)) :: t) st) : JW p l e R s m args below meth c cy D ad A nL cells slots Q σ pc (a0 :: a1 :: b :: t) (.int (iI x) :: st) := by
  intro H locs ls h1 h2 h3
  exact lv_istore_n C.1.1 C.1.2.1 d rfl h3.has hn rfl (fun ls' h' => k H locs ls' h1 h2 (Lh.set1 (show nlat ((a0 :: a1 :: b :: t)) 2 = true from hp) h'))
theorem J_istore2 (C : Cx p l e R s m args below meth c cy D ad A nL cc own Ts) {a0 a1 : Option Value} {t : List (Option Value)} {b : Option Value} {x : Int} (hn : 2 < nL) (hp : nlo a1 = true) (d : decode cc pc = .ok (.istore 2, 2)) (k : JW p l e R s m args below meth c cy D ad A nL cells slots Q σ (pc + 2) (a0 :: a1 :: some (.int (iI x)) :: t) st) : JW p l e R s m args below meth c cy D ad A nL cells slots Q σ pc (a0 :: a1 :: b :: t) (.int (iI x) :: st) := by
  intro H locs ls h1 h2 h3
  exact lv_istore C.1.1 C.1.2.1 d h3.has hn rfl (fun ls' h' => k H locs ls' h1 h2 (Lh.set1 (show nlat ((a0 :: a1 :: b :: t)) 2 = true from hp) h'))
theorem J_astore_2 (C : Cx p l e R s m args below meth c cy D ad A nL cc own Ts) {a0 a1 : Option Value} {t : List (Option Value)} {b : Option Value} {x : Nat} (hn : 2 < nL) (hp : nlo a1 = true) (d : decode cc pc = .ok (.astore_n 2, 1)) (k : JW p l e R s m args below meth c cy D ad A nL cells slots Q σ (pc + 1) (a0 :: a1 :: some (.ref x) :: t) st) : JW p l e R s m args below meth c cy D ad A nL cells slots Q σ pc (a0 :: a1 :: b :: t) (.ref x :: st) := by
  intro H locs ls h1 h2 h3
  exact lv_astore_n C.1.1 C.1.2.1 d rfl h3.has hn rfl (fun ls' h' => k H locs ls' h1 h2 (Lh.set1 (show nlat ((a0 :: a1 :: b :: t)) 2 = true from hp) h'))
theorem J_astore2 (C : Cx p l e R s m args below meth c cy D ad A nL cc own Ts) {a0 a1 : Option Value} {t : List (Option Value)} {b : Option Value} {x : Nat} (hn : 2 < nL) (hp : nlo a1 = true) (d : decode cc pc = .ok (.astore 2, 2)) (k : JW p l e R s m args below meth c cy D ad A nL cells slots Q σ (pc + 2) (a0 :: a1 :: some (.ref x) :: t) st) : JW p l e R s m args below meth c cy D ad A nL cells slots Q σ pc (a0 :: a1 :: b :: t) (.ref x :: st) := by
  intro H locs ls h1 h2 h3
  exact lv_astore C.1.1 C.1.2.1 d h3.has hn rfl (fun ls' h' => k H locs ls' h1 h2 (Lh.set1 (show nlat ((a0 :: a1 :: b :: t)) 2 = true from hp) h'))
theorem J_lstore_2 (C : Cx p l e R s m args below meth c cy D ad A nL cc own Ts) {a0 a1 : Option Value} {t : List (Option Value)} {b b2 : Option Value} {x : Int} (hn : 2 + 1 < nL) (hp : nlo a1 = true) (d : decode cc pc = .ok (.lstore_n 2, 1)) (k : JW p l e R s m args below meth c cy D ad A nL cells slots Q σ (pc + 1) (a0 :: a1 :: some (.long (lI x)) :: none :: t) st) : JW p l e R s m args below meth c cy D ad A nL cells slots Q σ pc (a0 :: a1 :: b :: b2 :: t) (.long (lI x) :: st) := by
  intro H locs ls h1 h2 h3
  exact lv_lstore_n C.1.1 C.1.2.1 d rfl h3.has hn rfl (fun ls' h' => k H locs ls' h1 h2 (Lh.set2 (show nlat ((a0 :: a1 :: b :: b2 :: t)) 2 = true from hp) h'))
theorem J_lstore2 (C : Cx p l e R s m args below meth c cy D ad A nL cc own Ts) {a0 a1 : Option Value} {t : List (Option Value)} {b b2 : Option Value} {x : Int} (hn : 2 + 1 < nL) (hp : nlo a1 = true) (d : decode cc pc = .ok (.lstore 2, 2)) (k : JW p l e R s m args below meth c cy D ad A nL cells slots Q σ (pc + 2) (a0 :: a1 :: some (.long (lI x)) :: none :: t) st) : JW p l e R s m args below meth c cy D ad A nL cells slots Q σ pc (a0 :: a1 :: b :: b2 :: t) (.long (lI x) :: st) := by
  intro H locs ls h1 h2 h3
  exact lv_lstore C.1.1 C.1.2.1 d h3.has hn rfl (fun ls' h' => k H locs ls' h1 h2 (Lh.set2 (show nlat ((a0 :: a1 :: b :: b2 :: t)) 2 = true from hp) h'))
theorem J_iinc2 (C : Cx p l e R s m args below meth c cy D ad A nL cc own Ts) {a0 a1 : Option Value} {t : List (Option Value)} {x z : Int} (hn : 2 < nL) (hp : nlo a1 = true) (d : decode cc pc = .ok (.iinc 2 z, 3)) (k : JW p l e R s m args below meth c cy D ad A nL cells slots Q σ (pc + 3) (a0 :: a1 :: some (.int (iI (x + z))) :: t) st) : JW p l e R s m args below meth c cy D ad A nL cells slots Q σ pc (a0 :: a1 :: some (.int (iI x)) :: t) st := by
  intro H locs ls h1 h2 h3
  obtain ⟨i, hi⟩ := List.getElem?_of_mem (lhL_mem.mpr (show ((a0 :: a1 :: some (.int (iI x)) :: t))[2]? = some (some (.int (iI x))) from rfl))
  exact lv_iinc (v := iI (x + z)) (k := i) C.1.1 C.1.2.1 d h3.has hi (iI_add x z) hn rfl (fun ls' h' => k H locs ls' h1 h2 (Lh.set1 (show nlat ((a0 :: a1 :: some (.int (iI x)) :: t)) 2 = true from hp) h'))
theorem J_iload_3 (C : Cx p l e R s m args below meth c cy D ad A nL cc own Ts) {a0 a1 a2 : Option Value} {t : List (Option Value)} {x : Int} (d : decode cc pc = .ok (.iload_n 3, 1)) (k : JW p l e R s m args below meth c cy D ad A nL cells slots Q σ (pc + 1) (a0 :: a1 :: a2 :: some (.int (iI x)) :: t) (.int (iI x) :: st)) : JW p l e R s m args below meth c cy D ad A nL cells slots Q σ pc (a0 :: a1 :: a2 :: some (.int (iI x)) :: t) st := by
  intro H locs ls h1 h2 h3
  exact lv_iload_n C.1.1 C.1.2.1 d rfl (h3.2.2 3 _ rfl) (k H locs ls h1 h2 h3)
theorem J_iload3 (C : Cx p l e R s m args below meth c cy D ad A nL cc own Ts) {a0 a1 a2 : Option Value} {t : List (Option Value)} {x : Int} (d : decode cc pc = .ok (.iload 3, 2)) (k : JW p l e R s m args below meth c cy D ad A nL cells slots Q σ (pc + 2) (a0 :: a1 :: a2 :: some (.int (iI x)) :: t) (.int (iI x) :: st)) : JW p l e R s m args below meth c cy D ad A nL cells slots Q σ pc (a0 :: a1 :: a2 :: some (.int (iI x)) :: t) st := by
  intro H locs ls h1 h2 h3
  exact lv_iload C.1.1 C.1.2.1 d (h3.2.2 3 _ rfl) (k H locs ls h1 h2 h3)
theorem J_lload_3 (C : Cx p l e R s m args below meth c cy D ad A nL cc own Ts) {a0 a1 a2 : Option Value} {t : List (Option Value)} {x : Int} (d : decode cc pc = .ok (.lload_n 3, 1)) (k : JW p l e R s m args below meth c cy D ad A nL cells slots Q σ (pc + 1) (a0 :: a1 :: a2 :: some (.long (lI x)) :: t) (.long (lI x) :: st)) : JW p l e R s m args below meth c cy D ad A nL cells slots Q σ pc (a0 :: a1 :: a2 :: some (.long (lI x)) :: t) st := by
  intro H locs ls h1 h2 h3
  exact lv_lload_n C.1.1 C.1.2.1 d rfl (h3.2.2 3 _ rfl) (k H locs ls h1 h2 h3)
theorem J_lload3 (C : Cx p l e R s m args below meth c cy D ad A nL cc own Ts) {a0 a1 a2 : Option Value} {t : List (Option Value)} {x : Int} (d : decode cc pc = .ok (.lload 3, 2)) (k : JW p l e R s m args below meth c cy D ad A nL cells slots Q σ (pc + 2) (a0 :: a1 :: a2 :: some (.long (lI x)) :: t) (.long (lI x) :: st)) : JW p l e R s m args below meth c cy D ad A nL cells slots Q σ pc (a0 :: a1 :: a2 :: some (.long (lI x)) :: t) st := by
  intro H locs ls h1 h2 h3
  exact lv_lload C.1.1 C.1.2.1 d (h3.2.2 3 _ rfl) (k H locs ls h1 h2 h3)
theorem J_aload_3 (C : Cx p l e R s m args below meth c cy D ad A nL cc own Ts) {a0 a1 a2 : Option Value} {t : List (Option Value)} {x : Nat} (d : decode cc pc = .ok (.aload_n 3, 1)) (k : JW p l e R s m args below meth c cy D ad A nL cells slots Q σ (pc + 1) (a0 :: a1 :: a2 :: some (.ref x) :: t) (.ref x :: st)) : JW p l e R s m args below meth c cy D ad A nL cells slots Q σ pc (a0 :: a1 :: a2 :: some (.ref x) :: t) st := by
  intro H locs ls h1 h2 h3
  exact lv_aload_n C.1.1 C.1.2.1 d rfl (h3.2.2 3 _ rfl) (k H locs ls h1 h2 h3)
theorem J_aload3 (C : Cx p l e R s m args below meth c cy D ad A nL cc own Ts) {a0 a1 a2 : Option Value} {t : List (Option Value)} {x : Nat} (d : decode cc pc = .ok (.aload 3, 2)) (k : JW p l e R s m args below meth c cy D ad A nL cells slots Q σ (pc + 2) (a0 :: a1 :: a2 :: some (.ref x) :: t) (.ref x :: st)) : JW p l e R s m args below meth c cy D ad A nL cells slots Q σ pc (a0 :: a1 :: a2 :: some (.ref x) :: t) st := by
  intro H locs ls h1 h2 h3
  exact lv_aload C.1.1 C.1.2.1 d (h3.2.2 3 _ rfl) (k H locs ls h1 h2 h3)
theorem J_istore_3 (C : Cx p l e R s m args below meth c cy D ad A nL cc own Ts) {a0 a1 a2 : Option Value} {t : List (Option Value)} {b : Option Value} {x : Int} (hn : 3 < nL) (hp : nlo a2 = true) (d : decode cc pc = .ok (.istore_n 3, 1)) (k : JW p l e R s m args below meth c cy D ad A nL cells slots Q σ (pc + 1) (a0 :: a1 :: a2 :: some (.int (iI x)) :: t) st) : JW p l e R s m args below meth c cy D ad A nL cells slots Q σ pc (a0 :: a1 :: a2 :: b :: t) (.int (iI x) :: st) := by
  intro H locs ls h1 h2 h3
  exact lv_istore_n C.1.1 C.1.2.1 d rfl h3.has hn rfl (fun ls' h' => k H locs ls' h1 h2 (Lh.set1 (show nlat ((a0 :: a1 :: a2 :: b :: t)) 3 = true from hp) h'))
theorem J_istore3 (C : Cx p l e R s m args below meth c cy D ad A nL cc own Ts) {a0 a1 a2 : Option Value} {t : List (Option Value)} {b : Option Value} {x : Int} (hn : 3 < nL) (hp : nlo a2 = true) (d : decode cc pc = .ok (.istore 3, 2)) (k : JW p l e R s m args below meth c cy D ad A nL cells slots Q σ (pc + 2) (a0 :: a1 :: a2 :: some (.int (iI x)) :: t) st) : JW p l e R s m args below meth c cy D ad A nL cells slots Q σ pc (a0 :: a1 :: a2 :: b :: t) (.int (iI x) :: st) := by
  intro H locs ls h1 h2 h3
  exact lv_istore C.1.1 C.1.2.1 d h3.has hn rfl (fun ls' h' => k H locs ls' h1 h2 (Lh.set1 (show nlat ((a0 :: a1 :: a2 :: b :: t)) 3 = true from hp) h'))
theorem J_astore_3 (C : Cx p l e R s m args below meth c cy D ad A nL cc own Ts) {a0 a1 a2 : Option Value} {t : List (Option Value)} {b : Option Value} {x : Nat} (hn : 3 < nL) (hp : nlo a2 = true) (d : decode cc pc = .ok (.astore_n 3, 1)) (k : JW p l e R s m args below meth c cy D ad A nL cells slots Q σ (pc + 1) (a0 :: a1 :: a2 :: some (.ref x) :: t) st) : JW p l e R s m args below meth c cy D ad A nL cells slots Q σ pc (a0 :: a1 :: a2 :: b :: t) (.ref x :: st) := by
  intro H locs ls h1 h2 h3
  exact lv_astore_n C.1.1 C.1.2.1 d rfl h3.has hn rfl (fun ls' h' => k H locs ls' h1 h2 (Lh.set1 (show nlat ((a0 :: a1 :: a2 :: b :: t)) 3 = true from hp) h'))
theorem J_astore3 (C : Cx p l e R s m args below meth c cy D ad A nL cc own Ts) {a0 a1 a2 : Option Value} {t : List (Option Value)} {b : Option Value} {x : Nat} (hn : 3 < nL) (hp : nlo a2 = true) (d : decode cc pc = .ok (.astore 3, 2)) (k : JW p l e R s m args below meth c cy D ad A nL cells slots Q σ (pc + 2) (a0 :: a1 :: a2 :: some (.ref x) :: t) st) : JW p l e R s m args below meth c cy D ad A nL cells slots Q σ pc (a0 :: a1 :: a2 :: b :: t) (.ref x :: st) := by
  intro H locs ls h1 h2 h3
  exact lv_astore C.1.1 C.1.2.1 d h3.has hn rfl (fun ls' h' => k H locs ls' h1 h2 (Lh.set1 (show nlat ((a0 :: a1 :: a2 :: b :: t)) 3 = true from hp) h'))
theorem J_lstore_3 (C : Cx p l e R s m args below meth c cy D ad A nL cc own Ts) {a0 a1 a2 : Option Value} {t : List (Option Value)} {b b2 : Option Value} {x : Int} (hn : 3 + 1 < nL) (hp : nlo a2 = true) (d : decode cc pc = .ok (.lstore_n 3, 1)) (k : JW p l e R s m args below meth c cy D ad A nL cells slots Q σ (pc + 1) (a0 :: a1 :: a2 :: some (.long (lI x)) :: none :: t) st) : JW p l e R s m args below meth c cy D ad A nL cells slots Q σ pc (a0 :: a1 :: a2 :: b :: b2 :: t) (.long (lI x) :: st) := by
  intro H locs ls h1 h2 h3
  exact lv_lstore_n C.1.1 C.1.2.1 d rfl h3.has hn rfl (fun ls' h' => k H locs ls' h1 h2 (Lh.set2 (show nlat ((a0 :: a1 :: a2 :: b :: b2 :: t)) 3 = true from hp) h'))
theorem J_lstore3 (C : Cx p l e R s m args below meth c cy D ad A nL cc own Ts) {a0 a1 a2 : Option Value} {t : List (Option Value)} {b b2 : Option Value} {x : Int} (hn : 3 + 1 < nL) (hp : nlo a2 = true) (d : decode cc pc = .ok (.lstore 3, 2)) (k : JW p l e R s m args below meth c cy D ad A nL cells slots Q σ (pc + 2) (a0 :: a1 :: a2 :: some (.long (lI x)) :: none :: t) st) : JW p l e R s m args below meth c cy D ad A nL cells slots Q σ pc (a0 :: a1 :: a2 :: b :: b2 :: t) (.long (lI x) :: st) := by
  intro H locs ls h1 h2 h3
  exact lv_lstore C.1.1 C.1.2.1 d h3.has hn rfl (fun ls' h' => k H locs ls' h1 h2 (Lh.set2 (show nlat ((a0 :: a1 :: a2 :: b :: b2 :: t)) 3 = true from hp) h'))
theorem J_iinc3 (C : Cx p l e R s m args below meth c cy D ad A nL cc own Ts) {a0 a1 a2 : Option Value} {t : List (Option Value)} {x z : Int} (hn : 3 < nL) (hp : nlo a2 = true) (d : decode cc pc = .ok (.iinc 3 z, 3)) (k : JW p l e R s m args below meth c cy D ad A nL cells slots Q σ (pc + 3) (a0 :: a1 :: a2 :: some (.int (iI (x + z))) :: t) st) : JW p l e R s m args below meth c cy D ad A nL cells slots Q σ pc (a0 :: a1 :: a2 :: some (.int (iI x)) :: t) st := by
  intro H locs ls h1 h2 h3
  obtain ⟨i, hi⟩ := List.getElem?_of_mem (lhL_mem.mpr (show ((a0 :: a1 :: a2 :: some (.int (iI x)) :: t))[3]? = some (some (.int (iI x))) from rfl))
  exact lv_iinc (v := iI (x + z)) (k := i) C.1.1 C.1.2.1 d h3.has hi (iI_add x z) hn rfl (fun ls' h' => k H locs ls' h1 h2 (Lh.set1 (show nlat ((a0 :: a1 :: a2 :: some (.int (iI x)) :: t)) 3 = true from hp) h'))
theorem J_iload4 (C : Cx p l e R s m args below meth c cy D ad A nL cc own Ts) {a0 a1 a2 a3 : Option Value} {t : List (Option Value)} {x : Int} (d : decode cc pc = .ok (.iload 4, 2)) (k : JW p l e R s m args below meth c cy D ad A nL cells slots Q σ (pc + 2) (a0 :: a1 :: a2 :: a3 :: some (.int (iI x)) :: t) (.int (iI x) :: st)) : JW p l e R s m args below meth c cy D ad A nL cells slots Q σ pc (a0 :: a1 :: a2 :: a3 :: some (.int (iI x)) :: t) st := by
  intro H locs ls h1 h2 h3
  exact lv_iload C.1.1 C.1.2.1 d (h3.2.2 4 _ rfl) (k H locs ls h1 h2 h3)
theorem J_lload4 (C : Cx p l e R s m args below meth c cy D ad A nL cc own Ts) {a0 a1 a2 a3 : Option Value} {t : List (Option Value)} {x : Int} (d : decode cc pc = .ok (.lload 4, 2)) (k : JW p l e R s m args below meth c cy D ad A nL cells slots Q σ (pc + 2) (a0 :: a1 :: a2 :: a3 :: some (.long (lI x)) :: t) (.long (lI x) :: st)) : JW p l e R s m args below meth c cy D ad A nL cells slots Q σ pc (a0 :: a1 :: a2 :: a3 :: some (.long (lI x)) :: t) st := by
  intro H locs ls h1 h2 h3
  exact lv_lload C.1.1 C.1.2.1 d (h3.2.2 4 _ rfl) (k H locs ls h1 h2 h3)
theorem J_aload4 (C : Cx p l e R s m args below meth c cy D ad A nL cc own Ts) {a0 a1 a2 a3 : Option Value} {t : List (Option Value)} {x : Nat} (d : decode cc pc = .ok (.aload 4, 2)) (k : JW p l e R s m args below meth c cy D ad A nL cells slots Q σ (pc + 2) (a0 :: a1 :: a2 :: a3 :: some (.ref x) :: t) (.ref x :: st)) : JW p l e R s m args below meth c cy D ad A nL cells slots Q σ pc (a0 :: a1 :: a2 :: a3 :: some (.ref x) :: t) st := by
  intro H locs ls h1 h2 h3
  exact lv_aload C.1.1 C.1.2.1 d (h3.2.2 4 _ rfl) (k H locs ls h1 h2 h3)
theorem J_istore4 (C : Cx p l e R s m args below meth c cy D ad A nL cc own Ts) {a0 a1 a2 a3 : Option Value} {t : List (Option Value)} {b : Option Value} {x : Int} (hn : 4 < nL) (hp : nlo a3 = true) (d : decode cc pc = .ok (.istore 4, 2)) (k : JW p l e R s m args below meth c cy D ad A nL cells slots Q σ (pc + 2) (a0 :: a1 :: a2 :: a3 :: some (.int (iI x)) :: t) st) : JW p l e R s m args below meth c cy D ad A nL cells slots Q σ pc (a0 :: a1 :: a2 :: a3 :: b :: t) (.int (iI x) :: st) := by
  intro H locs ls h1 h2 h3
  exact lv_istore C.1.1 C.1.2.1 d h3.has hn rfl (fun ls' h' => k H locs ls' h1 h2 (Lh.set1 (show nlat ((a0 :: a1 :: a2 :: a3 :: b :: t)) 4 = true from hp) h'))
theorem J_astore4 (C : Cx p l e R s m args below meth c cy D ad A nL cc own Ts) {a0 a1 a2 a3 : Option Value} {t : List (Option Value)} {b : Option Value} {x : Nat} (hn : 4 < nL) (hp : nlo a3 = true) (d : decode cc pc = .ok (.astore 4, 2)) (k : JW p l e R s m args below meth c cy D ad A nL cells slots Q σ (pc + 2) (a0 :: a1 :: a2 :: a3 :: some (.ref x) :: t) st) : JW p l e R s m args below meth c cy D ad A nL cells slots Q σ pc (a0 :: a1 :: a2 :: a3 :: b :: t) (.ref x :: st) := by
  intro H locs ls h1 h2 h3
  exact lv_astore C.1.1 C.1.2.1 d h3.has hn rfl (fun ls' h' => k H locs ls' h1 h2 (Lh.set1 (show nlat ((a0 :: a1 :: a2 :: a3 :: b :: t)) 4 = true from hp) h'))
theorem J_lstore4 (C : Cx p l e R s m args below meth c cy D ad A nL cc own Ts) {a0 a1 a2 a3 : Option Value} {t : List (Option Value)} {b b2 : Option Value} {x : Int} (hn : 4 + 1 < nL) (hp : nlo a3 = true) (d : decode cc pc = .ok (.lstore 4, 2)) (k : JW p l e R s m args below meth c cy D ad A nL cells slots Q σ (pc + 2) (a0 :: a1 :: a2 :: a3 :: some (.long (lI x)) :: none :: t) st) : JW p l e R s m args below meth c cy D ad A nL cells slots Q σ pc (a0 :: a1 :: a2 :: a3 :: b :: b2 :: t) (.long (lI x) :: st) := by
  intro H locs ls h1 h2 h3
  exact lv_lstore C.1.1 C.1.2.1 d h3.has hn rfl (fun ls' h' => k H locs ls' h1 h2 (Lh.set2 (show nlat ((a0 :: a1 :: a2 :: a3 :: b :: b2 :: t)) 4 = true from hp) h'))
theorem J_iinc4 (C : Cx p l e R s m args below meth c cy D ad A nL cc own Ts) {a0 a1 a2 a3 : Option Value} {t : List (Option Value)} {x z : Int} (hn : 4 < nL) (hp : nlo a3 = true) (d : decode cc pc = .ok (.iinc 4 z, 3)) (k : JW p l e R s m args below meth c cy D ad A nL cells slots Q σ (pc + 3) (a0 :: a1 :: a2 :: a3 :: some (.int (iI (x + z))) :: t) st) : JW p l e R s m args below meth c cy D ad A nL cells slots Q σ pc (a0 :: a1 :: a2 :: a3 :: some (.int (iI x)) :: t) st := by
  intro H locs ls h1 h2 h3
  obtain ⟨i, hi⟩ := List.getElem?_of_mem (lhL_mem.mpr (show ((a0 :: a1 :: a2 :: a3 :: some (.int (iI x)) :: t))[4]? = some (some (.int (iI x))) from rfl))
  exact lv_iinc (v := iI (x + z)) (k := i) C.1.1 C.1.2.1 d h3.has hi (iI_add x z) hn rfl (fun ls' h' => k H locs ls' h1 h2 (Lh.set1 (show nlat ((a0 :: a1 :: a2 :: a3 :: some (.int (iI x)) :: t)) 4 = true from hp) h'))
theorem J_iload5 (C : Cx p l e R s m args below meth c cy D ad A nL cc own Ts) {a0 a1 a2 a3 a4 : Option Value} {t : List (Option Value)} {x : Int} (d : decode cc pc = .ok (.iload 5, 2)) (k : JW p l e R s m args below meth c cy D ad A nL cells slots Q σ (pc + 2) (a0 :: a1 :: a2 :: a3 :: a4 :: some (.int (iI x)) :: t) (.int (iI x) :: st)) : JW p l e R s m args below meth c cy D ad A nL cells slots Q σ pc (a0 :: a1 :: a2 :: a3 :: a4 :: some (.int (iI x)) :: t) st := by
  intro H locs ls h1 h2 h3
  exact lv_iload C.1.1 C.1.2.1 d (h3.2.2 5 _ rfl) (k H locs ls h1 h2 h3)
theorem J_lload5 (C : Cx p l e R s m args below meth c cy D ad A nL cc own Ts) {a0 a1 a2 a3 a4 : Option Value} {t : List (Option Value)} {x : Int} (d : decode cc pc = .ok (.lload 5, 2)) (k : JW p l e R s m args below meth c cy D ad A nL cells slots Q σ (pc + 2) (a0 :: a1 :: a2 :: a3 :: a4 :: some (.long (lI x)) :: t) (.long (lI x) :: st)) : JW p l e R s m args below meth c cy D ad A nL cells slots Q σ pc (a0 :: a1 :: a2 :: a3 :: a4 :: some (.long (lI x)) :: t) st := by
  intro H locs ls h1 h2 h3
  exact lv_lload C.1.1 C.1.2.1 d (h3.2.2 5 _ rfl) (k H locs ls h1 h2 h3)
theorem J_aload5 (C : Cx p l e R s m args below meth c cy D ad A nL cc own Ts) {a0 a1 a2 a3 a4 : Option Value} {t : List (Option Value)} {x : Nat} (d : decode cc pc = .ok (.aload 5, 2)) (k : JW p l e R s m args below meth c cy D ad A nL cells slots Q σ (pc + 2) (a0 :: a1 :: a2 :: a3 :: a4 :: some (.ref x) :: t) (.ref x :: st)) : JW p l e R s m args below meth c cy D ad A nL cells slots Q σ pc (a0 :: a1 :: a2 :: a3 :: a4 :: some (.ref x) :: t) st := by
  intro H locs ls h1 h2 h3
  exact lv_aload C.1.1 C.1.2.1 d (h3.2.2 5 _ rfl) (k H locs ls h1 h2 h3)
theorem J_istore5 (C : Cx p l e R s m args below meth c cy D ad A nL cc own Ts) {a0 a1 a2 a3 a4 : Option Value} {t : List (Option Value)} {b : Option Value} {x : Int} (hn : 5 < nL) (hp : nlo a4 = true) (d : decode cc pc = .ok (.istore 5, 2)) (k : JW p l e R s m args below meth c cy D ad A nL cells slots Q σ (pc + 2) (a0 :: a1 :: a2 :: a3 :: a4 :: some (.int (iI x)) :: t) st) : JW p l e R s m args below meth c cy D ad A nL cells slots Q σ pc (a0 :: a1 :: a2 :: a3 :: a4 :: b :: t) (.int (iI x) :: st) := by
  intro H locs ls h1 h2 h3
  exact lv_istore C.1.1 C.1.2.1 d h3.has hn rfl (fun ls' h' => k H locs ls' h1 h2 (Lh.set1 (show nlat ((a0 :: a1 :: a2 :: a3 :: a4 :: b :: t)) 5 = true from hp) h'))
theorem J_astore5 (C : Cx p l e R s m args below meth c cy D ad A nL cc own Ts) {a0 a1 a2 a3 a4 : Option Value} {t : List (Option Value)} {b : Option Value} {x : Nat} (hn : 5 < nL) (hp : nlo a4 = true) (d : decode cc pc = .ok (.astore 5, 2)) (k : JW p l e R s m args below meth c cy D ad A nL cells slots Q σ (pc + 2) (a0 :: a1 :: a2 :: a3 :: a4 :: some (.ref x) :: t) st) : JW p l e R s m args below meth c cy D ad A nL cells slots Q σ pc (a0 :: a1 :: a2 :: a3 :: a4 :: b :: t) (.ref x :: st) := by
  intro H locs ls h1 h2 h3
  exact lv_astore C.1.1 C.1.2.1 d h3.has hn rfl (fun ls' h' => k H locs ls' h1 h2 (Lh.set1 (show nlat ((a0 :: a1 :: a2 :: a3 :: a4 :: b :: t)) 5 = true from hp) h'))
theorem J_lstore5 (C : Cx p l e R s m args below meth c cy D ad A nL cc own Ts) {a0 a1 a2 a3 a4 : Option Value} {t : List (Option Value)} {b b2 : Option Value} {x : Int} (hn : 5 + 1 < nL) (hp : nlo a4 = true) (d : decode cc pc = .ok (.lstore 5, 2)) (k : JW p l e R s m args below meth c cy D ad A nL cells slots Q σ (pc + 2) (a0 :: a1 :: a2 :: a3 :: a4 :: some (.long (lI x)) :: none :: t) st) : JW p l e R s m args below meth c cy D ad A nL cells slots Q σ pc (a0 :: a1 :: a2 :: a3 :: a4 :: b :: b2 :: t) (.long (lI x) :: st) := by
  intro H locs ls h1 h2 h3
  exact lv_lstore C.1.1 C.1.2.1 d h3.has hn rfl (fun ls' h' => k H locs ls' h1 h2 (Lh.set2 (show nlat ((a0 :: a1 :: a2 :: a3 :: a4 :: b :: b2 :: t)) 5 = true from hp) h'))
theorem J_iinc5 (C : Cx p l e R s m args below meth c cy D ad A nL cc own Ts) {a0 a1 a2 a3 a4 : Option Value} {t : List (Option Value)} {x z : Int} (hn : 5 < nL) (hp : nlo a4 = true) (d : decode cc pc = .ok (.iinc 5 z, 3)) (k : JW p l e R s m args below meth c cy D ad A nL cells slots Q σ (pc + 3) (a0 :: a1 :: a2 :: a3 :: a4 :: some (.int (iI (x + z))) :: t) st) : JW p l e R s m args below meth c cy D ad A nL cells slots Q σ pc (a0 :: a1 :: a2 :: a3 :: a4 :: some (.int (iI x)) :: t) st := by
  intro H locs ls h1 h2 h3
  obtain ⟨i, hi⟩ := List.getElem?_of_mem (lhL_mem.mpr (show ((a0 :: a1 :: a2 :: a3 :: a4 :: some (.int (iI x)) :: t))[5]? = some (some (.int (iI x))) from rfl))
  exact lv_iinc (v := iI (x + z)) (k := i) C.1.1 C.1.2.1 d h3.has hi (iI_add x z) hn rfl (fun ls' h' => k H locs ls' h1 h2 (Lh.set1 (show nlat ((a0 :: a1 :: a2 :: a3 :: a4 :: some (.int (iI x)) :: t)) 5 = true from hp) h'))
theorem J_iload6 (C : Cx p l e R s m args below meth c cy D ad A nL cc own Ts) {a0 a1 a2 a3 a4 a5 : Option Value} {t : List (Option Value)} {x : Int} (d : decode cc pc = .ok (.iload 6, 2)) (k : JW p l e R s m args below meth c cy D ad A nL cells slots Q σ (pc + 2) (a0 :: a1 :: a2 :: a3 :: a4 :: a5 :: some (.int (iI x)) :: t) (.int (iI x) :: st)) : JW p l e R s m args below meth c cy D ad A nL cells slots Q σ pc (a0 :: a1 :: a2 :: a3 :: a4 :: a5 :: some (.int (iI x)) :: t) st := by
  intro H locs ls h1 h2 h3
  exact lv_iload C.1.1 C.1.2.1 d (h3.2.2 6 _ rfl) (k H locs ls h1 h2 h3)
theorem J_lload6 (C : Cx p l e R s m args below meth c cy D ad A nL cc own Ts) {a0 a1 a2 a3 a4 a5 : Option Value} {t : List (Option Value)} {x : Int} (d : decode cc pc = .ok (.lload 6, 2)) (k : JW p l e R s m args below meth c cy D ad A nL cells slots Q σ (pc + 2) (a0 :: a1 :: a2 :: a3 :: a4 :: a5 :: some (.long (lI x)) :: t) (.long (lI x) :: st)) : JW p l e R s m args below meth c cy D ad A nL cells slots Q σ pc (a0 :: a1 :: a2 :: a3 :: a4 :: a5 :: some (.long (lI x)) :: t) st := by
  intro H locs ls h1 h2 h3
  exact lv_lload C.1.1 C.1.2.1 d (h3.2.2 6 _ rfl) (k H locs ls h1 h2 h3)
theorem J_aload6 (C : Cx p l e R s m args below meth c cy D ad A nL cc own Ts) {a0 a1 a2 a3 a4 a5 : Option Value} {t : List (Option Value)} {x : Nat} (d : decode cc pc = .ok (.aload 6, 2)) (k : JW p l e R s m args below meth c cy D ad A nL cells slots Q σ (pc + 2) (a0 :: a1 :: a2 :: a3 :: a4 :: a5 :: some (.ref x) :: t) (.ref x :: st)) : JW p l e R s m args below meth c cy D ad A nL cells slots Q σ pc (a0 :: a1 :: a2 :: a3 :: a4 :: a5 :: some (.ref x) :: t) st := by
  intro H locs ls h1 h2 h3
  exact lv_aload C.1.1 C.1.2.1 d (h3.2.2 6 _ rfl) (k H locs ls h1 h2 h3)
theorem J_istore6 (C : Cx p l e R s m args below meth c cy D ad A nL cc own Ts) {a0 a1 a2 a3 a4 a5 : Option Value} {t : List (Option Value)} {b : Option Value} {x : Int} (hn : 6 < nL) (hp : nlo a5 = true) (d : decode cc pc = .ok (.istore 6, 2)) (k : JW p l e R s m args below meth c cy D ad A nL cells slots Q σ (pc + 2) (a0 :: a1 :: a2 :: a3 :: a4 :: a5 :: some (.int (iI x)) :: t) st) : JW p l e R s m args below meth c cy D ad A nL cells slots Q σ pc (a0 :: a1 :: a2 :: a3 :: a4 :: a5 :: b :: t) (.int (iI x) :: st) := by
  intro H locs ls h1 h2 h3
  exact lv_istore C.1.1 C.1.2.1 d h3.has hn rfl (fun ls' h' => k H locs ls' h1 h2 (Lh.set1 (show nlat ((a0 :: a1 :: a2 :: a3 :: a4 :: a5 :: b :: t)) 6 = true from hp) h'))
theorem J_astore6 (C : Cx p l e R s m args below meth c cy D ad A nL cc own Ts) {a0 a1 a2 a3 a4 a5 : Option Value} {t : List (Option Value)} {b : Option Value} {x : Nat} (hn : 6 < nL) (hp : nlo a5 = true) (d : decode cc pc = .ok (.astore 6, 2)) (k : JW p l e R s m args below meth c cy D ad A nL cells slots Q σ (pc + 2) (a0 :: a1 :: a2 :: a3 :: a4 :: a5 :: some (.ref x) :: t) st) : JW p l e R s m args below meth c cy D ad A nL cells slots Q σ pc (a0 :: a1 :: a2 :: a3 :: a4 :: a5 :: b :: t) (.ref x :: st) := by
  intro H locs ls h1 h2 h3
  exact lv_astore C.1.1 C.1.2.1 d h3.has hn rfl (fun ls' h' => k H locs ls' h1 h2 (Lh.set1 (show nlat ((a0 :: a1 :: a2 :: a3 :: a4 :: a5 :: b :: t)) 6 = true from hp) h'))
theorem J_lstore6 (C : Cx p l e R s m args below meth c cy D ad A nL cc own Ts) {a0 a1 a2 a3 a4 a5 : Option Value} {t : List (Option Value)} {b b2 : Option Value} {x : Int} (hn : 6 + 1 < nL) (hp : nlo a5 = true) (d : decode cc pc = .ok (.lstore 6, 2)) (k : JW p l e R s m args below meth c cy D ad A nL cells slots Q σ (pc + 2) (a0 :: a1 :: a2 :: a3 :: a4 :: a5 :: some (.long (lI x)) :: none :: t) st) : JW p l e R s m args below meth c cy D ad A nL cells slots Q σ pc (a0 :: a1 :: a2 :: a3 :: a4 :: a5 :: b :: b2 :: t) (.long (lI x) :: st) := by
  intro H locs ls h1 h2 h3
  exact lv_lstore C.1.1 C.1.2.1 d h3.has hn rfl (fun ls' h' => k H locs ls' h1 h2 (Lh.set2 (show nlat ((a0 :: a1 :: a2 :: a3 :: a4 :: a5 :: b :: b2 :: t)) 6 = true from hp) h'))
theorem J_iinc6 (C : Cx p l e R s m args below meth c cy D ad A nL cc own Ts) {a0 a1 a2 a3 a4 a5 : Option Value} {t : List (Option Value)} {x z : Int} (hn : 6 < nL) (hp : nlo a5 = true) (d : decode cc pc = .ok (.iinc 6 z, 3)) (k : JW p l e R s m args below meth c cy D ad A nL cells slots Q σ (pc + 3) (a0 :: a1 :: a2 :: a3 :: a4 :: a5 :: some (.int (iI (x + z))) :: t) st) : JW p l e R s m args below meth c cy D ad A nL cells slots Q σ pc (a0 :: a1 :: a2 :: a3 :: a4 :: a5 :: some (.int (iI x)) :: t) st := by
  intro H locs ls h1 h2 h3
  obtain ⟨i, hi⟩ := List.getElem?_of_mem (lhL_mem.mpr (show ((a0 :: a1 :: a2 :: a3 :: a4 :: a5 :: some (.int (iI x)) :: t))[6]? = some (some (.int (iI x))) from rfl))
  exact lv_iinc (v := iI (x + z)) (k := i) C.1.1 C.1.2.1 d h3.has hi (iI_add x z) hn rfl (fun ls' h' => k H locs ls' h1 h2 (Lh.set1 (show nlat ((a0 :: a1 :: a2 :: a3 :: a4 :: a5 :: some (.int (iI x)) :: t)) 6 = true from hp) h'))
theorem J_iload7 (C : Cx p l e R s m args below meth c cy D ad A nL cc own Ts) {a0 a1 a2 a3 a4 a5 a6 : Option Value} {t : List (Option Value)} {x : Int} (d : decode cc pc = .ok (.iload 7, 2)) (k : JW p l e R s m args below meth c cy D ad A nL cells slots Q σ (pc + 2) (a0 :: a1 :: a2 :: a3 :: a4 :: a5 :: a6 :: some (.int (iI x)) :: t) (.int (iI x) :: st)) : JW p l e R s m args below meth c cy D ad A nL cells slots Q σ pc (a0 :: a1 :: a2 :: a3 :: a4 :: a5 :: a6 :: some (.int (iI x)) :: t) st := by
  intro H locs ls h1 h2 h3
  exact lv_iload C.1.1 C.1.2.1 d (h3.2.2 7 _ rfl) (k H locs ls h1 h2 h3)
theorem J_lload7 (C : Cx p l e R s m args below meth c cy D ad A nL cc own Ts) {a0 a1 a2 a3 a4 a5 a6 : Option Value} {t : List (Option Value)} {x : Int} (d : decode cc pc = .ok (.lload 7, 2)) (k : JW p l e R s m args below meth c cy D ad A nL cells slots Q σ (pc + 2) (a0 :: a1 :: a2 :: a3 :: a4 :: a5 :: a6 :: some (.long (lI x)) :: t) (.long (lI x) :: st)) : JW p l e R s m args below meth c cy D ad A nL cells slots Q σ pc (a0 :: a1 :: a2 :: a3 :: a4 :: a5 :: a6 :: some (.long (lI x)) :: t) st := by
  intro H locs ls h1 h2 h3
  exact lv_lload C.1.1 C.1.2.1 d (h3.2.2 7 _ rfl) (k H locs ls h1 h2 h3)
theorem J_aload7 (C : Cx p l e R s m args below meth c cy D ad A nL cc own Ts) {a0 a1 a2 a3 a4 a5 a6 : Option Value} {t : List (Option Value)} {x : Nat} (d : decode cc pc = .ok (.aload 7, 2)) (k : JW p l e R s m args below meth c cy D ad A nL cells slots Q σ (pc + 2) (a0 :: a1 :: a2 :: a3 :: a4 :: a5 :: a6 :: some (.ref x) :: t) (.ref x :: st)) : JW p l e R s m args below meth c cy D ad A nL cells slots Q σ pc (a0 :: a1 :: a2 :: a3 :: a4 :: a5 :: a6 :: some (.ref x) :: t) st := by
  intro H locs ls h1 h2 h3
  exact lv_aload C.1.1 C.1.2.1 d (h3.2.2 7 _ rfl) (k H locs ls h1 h2 h3)
theorem J_istore7 (C : Cx p l e R s m args below meth c cy D ad A nL cc own Ts) {a0 a1 a2 a3 a4 a5 a6 : Option Value} {t : List (Option Value)} {b : Option Value} {x : Int} (hn : 7 < nL) (hp : nlo a6 = true) (d : decode cc pc = .ok (.istore 7, 2)) (k : JW p l e R s m args below meth c cy D ad A nL cells slots Q σ (pc + 2) (a0 :: a1 :: a2 :: a3 :: a4 :: a5 :: a6 :: some (.int (iI x)) :: t) st) : JW p l e R s m args below meth c cy D ad A nL cells slots Q σ pc (a0 :: a1 :: a2 :: a3 :: a4 :: a5 :: a6 :: b :: t) (.int (iI x) :: st) := by
  intro H locs ls h1 h2 h3
  exact lv_istore C.1.1 C.1.2.1 d h3.has hn rfl (fun ls' h' => k H locs ls' h1 h2 (Lh.set1 (show nlat ((a0 :: a1 :: a2 :: a3 :: a4 :: a5 :: a6 :: b :: t)) 7 = true from hp) h'))
theorem J_astore7 (C : Cx p l e R s m args below meth c cy D ad A nL cc own Ts) {a0 a1 a2 a3 a4 a5 a6 : Option Value} {t : List (Option Value)} {b : Option Value} {x : Nat} (hn : 7 < nL) (hp : nlo a6 = true) (d : decode cc pc = .ok (.astore 7, 2)) (k : JW p l e R s m args below meth c cy D ad A nL cells slots Q σ (pc + 2) (a0 :: a1 :: a2 :: a3 :: a4 :: a5 :: a6 :: some (.ref x) :: t) st) : JW p l e R s m args below meth c cy D ad A nL cells slots Q σ pc (a0 :: a1 :: a2 :: a3 :: a4 :: a5 :: a6 :: b :: t) (.ref x :: st) := by
  intro H locs ls h1 h2 h3
  exact lv_astore C.1.1 C.1.2.1 d h3.has hn rfl (fun ls' h' => k H locs ls' h1 h2 (Lh.set1 (show nlat ((a0 :: a1 :: a2 :: a3 :: a4 :: a5 :: a6 :: b :: t)) 7 = true from hp) h'))
theorem J_lstore7 (C : Cx p l e R s m args below meth c cy D ad A nL cc own Ts) {a0 a1 a2 a3 a4 a5 a6 : Option Value} {t : List (Option Value)} {b b2 : Option Value} {x : Int} (hn : 7 + 1 < nL) (hp : nlo a6 = true) (d : decode cc pc = .ok (.lstore 7, 2)) (k : JW p l e R s m args below meth c cy D ad A nL cells slots Q σ (pc + 2) (a0 :: a1 :: a2 :: a3 :: a4 :: a5 :: a6 :: some (.long (lI x)) :: none :: t) st) : JW p l e R s m args below meth c cy D ad A nL cells slots Q σ pc (a0 :: a1 :: a2 :: a3 :: a4 :: a5 :: a6 :: b :: b2 :: t) (.long (lI x) :: st) := by
  intro H locs ls h1 h2 h3
  exact lv_lstore C.1.1 C.1.2.1 d h3.has hn rfl (fun ls' h' => k H locs ls' h1 h2 (Lh.set2 (show nlat ((a0 :: a1 :: a2 :: a3 :: a4 :: a5 :: a6 :: b :: b2 :: t)) 7 = true from hp) h'))
theorem J_iinc7 (C : Cx p l e R s m args below meth c cy D ad A nL cc own Ts) {a0 a1 a2 a3 a4 a5 a6 : Option Value} {t : List (Option Value)} {x z : Int} (hn : 7 < nL) (hp : nlo a6 = true) (d : decode cc pc = .ok (.iinc 7 z, 3)) (k : JW p l e R s m args below meth c cy D ad A nL cells slots Q σ (pc + 3) (a0 :: a1 :: a2 :: a3 :: a4 :: a5 :: a6 :: some (.int (iI (x + z))) :: t) st) : JW p l e R s m args below meth c cy D ad A nL cells slots Q σ pc (a0 :: a1 :: a2 :: a3 :: a4 :: a5 :: a6 :: some (.int (iI x)) :: t) st := by
  intro H locs ls h1 h2 h3
  obtain ⟨i, hi⟩ := List.getElem?_of_mem (lhL_mem.mpr (show ((a0 :: a1 :: a2 :: a3 :: a4 :: a5 :: a6 :: some (.int (iI x)) :: t))[7]? = some (some (.int (iI x))) from rfl))
  exact lv_iinc (v := iI (x + z)) (k := i) C.1.1 C.1.2.1 d h3.has hi (iI_add x z) hn rfl (fun ls' h' => k H locs ls' h1 h2 (Lh.set1 (show nlat ((a0 :: a1 :: a2 :: a3 :: a4 :: a5 :: a6 :: some (.int (iI x)) :: t)) 7 = true from hp) h'))
theorem J_iload8 (C : Cx p l e R s m args below meth c cy D ad A nL cc own Ts) {a0 a1 a2 a3 a4 a5 a6 a7 : Option Value} {t : List (Option Value)} {x : Int} (d : decode cc pc = .ok (.iload 8, 2)) (k : JW p l e R s m args below meth c cy D ad A nL cells slots Q σ (pc + 2) (a0 :: a1 :: a2 :: a3 :: a4 :: a5 :: a6 :: a7 :: some (.int (iI x)) :: t) (.int (iI x) :: st)) : JW p l e R s m args below meth c cy D ad A nL cells slots Q σ pc (a0 :: a1 :: a2 :: a3 :: a4 :: a5 :: a6 :: a7 :: some (.int (iI x)) :: t) st := by
  intro H locs ls h1 h2 h3
  exact lv_iload C.1.1 C.1.2.1 d (h3.2.2 8 _ rfl) (k H locs ls h1 h2 h3)
theorem J_lload8 (C : Cx p l e R s m args below meth c cy D ad A nL cc own Ts) {a0 a1 a2 a3 a4 a5 a6 a7 : Option Value} {t : List (Option Value)} {x : Int} (d : decode cc pc = .ok (.lload 8, 2)) (k : JW p l e R s m args below meth c cy D ad A nL cells slots Q σ (pc + 2) (a0 :: a1 :: a2 :: a3 :: a4 :: a5 :: a6 :: a7 :: some (.long (lI x)) :: t) (.long (lI x) :: st)) : JW p l e R s m args below meth c cy D ad A nL cells slots Q σ pc (a0 :: a1 :: a2 :: a3 :: a4 :: a5 :: a6 :: a7 :: some (.long (lI x)) :: t) st := by
  intro H locs ls h1 h2 h3
  exact lv_lload C.1.1 C.1.2.1 d (h3.2.2 8 _ rfl) (k H locs ls h1 h2 h3)
theorem J_aload8 (C : Cx p l e R s m args below meth c cy D ad A nL cc own Ts) {a0 a1 a2 a3 a4 a5 a6 a7 : Option Value} {t : List (Option Value)} {x : Nat} (d : decode cc pc = .ok (.aload 8, 2)) (k : JW p l e R s m args below meth c cy D ad A nL cells slots Q σ (pc + 2) (a0 :: a1 :: a2 :: a3 :: a4 :: a5 :: a6 :: a7 :: some (.ref x) :: t) (.ref x :: st)) : JW p l e R s m args below meth c cy D ad A nL cells slots Q σ pc (a0 :: a1 :: a2 :: a3 :: a4 :: a5 :: a6 :: a7 :: some (.ref x) :: t) st := by
  intro H locs ls h1 h2 h3
  exact lv_aload C.1.1 C.1.2.1 d (h3.2.2 8 _ rfl) (k H locs ls h1 h2 h3)
theorem J_istore8 (C : Cx p l e R s m args below meth c cy D ad A nL cc own Ts) {a0 a1 a2 a3 a4 a5 a6 a7 : Option Value} {t : List (Option Value)} {b : Option Value} {x : Int} (hn : 8 < nL) (hp : nlo a7 = true) (d : decode cc pc = .ok (.istore 8, 2)) (k : JW p l e R s m args below meth c cy D ad A nL cells slots Q σ (pc + 2) (a0 :: a1 :: a2 :: a3 :: a4 :: a5 :: a6 :: a7 :: some (.int (iI x)) :: t) st) : JW p l e R s m args below meth c cy D ad A nL cells slots Q σ pc (a0 :: a1 :: a2 :: a3 :: a4 :: a5 :: a6 :: a7 :: b :: t) (.int (iI x) :: st) := by
  intro H locs ls h1 h2 h3
  exact lv_istore C.1.1 C.1.2.1 d h3.has hn rfl (fun ls' h' => k H locs ls' h1 h2 (Lh.set1 (show nlat ((a0 :: a1 :: a2 :: a3 :: a4 :: a5 :: a6 :: a7 :: b :: t)) 8 = true from hp) h'))
theorem J_astore8 (C : Cx p l e R s m args below meth c cy D ad A nL cc own Ts) {a0 a1 a2 a3 a4 a5 a6 a7 : Option Value} {t : List (Option Value)} {b : Option Value} {x : Nat} (hn : 8 < nL) (hp : nlo a7 = true) (d : decode cc pc = .ok (.astore 8, 2)) (k : JW p l e R s m args below meth c cy D ad A nL cells slots Q σ (pc + 2) (a0 :: a1 :: a2 :: a3 :: a4 :: a5 :: a6 :: a7 :: some (.ref x) :: t) st) : JW p l e R s m args below meth c cy D ad A nL cells slots Q σ pc (a0 :: a1 :: a2 :: a3 :: a4 :: a5 :: a6 :: a7 :: b :: t) (.ref x :: st) := by
  intro H locs ls h1 h2 h3
  exact lv_astore C.1.1 C.1.2.1 d h3.has hn rfl (fun ls' h' => k H locs ls' h1 h2 (Lh.set1 (show nlat ((a0 :: a1 :: a2 :: a3 :: a4 :: a5 :: a6 :: a7 :: b :: t)) 8 = true from hp) h'))
theorem J_lstore8 (C : Cx p l e R s m args below meth c cy D ad A nL cc own Ts) {a0 a1 a2 a3 a4 a5 a6 a7 : Option Value} {t : List (Option Value)} {b b2 : Option Value} {x : Int} (hn : 8 + 1 < nL) (hp : nlo a7 = true) (d : decode cc pc = .ok (.lstore 8, 2)) (k : JW p l e R s m args below meth c cy D ad A nL cells slots Q σ (pc + 2) (a0 :: a1 :: a2 :: a3 :: a4 :: a5 :: a6 :: a7 :: some (.long (lI x)) :: none :: t) st) : JW p l e R s m args below meth c cy D ad A nL cells slots Q σ pc (a0 :: a1 :: a2 :: a3 :: a4 :: a5 :: a6 :: a7 :: b :: b2 :: t) (.long (lI x) :: st) := by
  intro H locs ls h1 h2 h3
  exact lv_lstore C.1.1 C.1.2.1 d h3.has hn rfl (fun ls' h' => k H locs ls' h1 h2 (Lh.set2 (show nlat ((a0 :: a1 :: a2 :: a3 :: a4 :: a5 :: a6 :: a7 :: b :: b2 :: t)) 8 = true from hp) h'))
theorem J_iinc8 (C : Cx p l e R s m args below meth c cy D ad A nL cc own Ts) {a0 a1 a2 a3 a4 a5 a6 a7 : Option Value} {t : List (Option Value)} {x z : Int} (hn : 8 < nL) (hp : nlo a7 = true) (d : decode cc pc = .ok (.iinc 8 z, 3)) (k : JW p l e R s m args below meth c cy D ad A nL cells slots Q σ (pc + 3) (a0 :: a1 :: a2 :: a3 :: a4 :: a5 :: a6 :: a7 :: some (.int (iI (x + z))) :: t) st) : JW p l e R s m args below meth c cy D ad A nL cells slots Q σ pc (a0 :: a1 :: a2 :: a3 :: a4 :: a5 :: a6 :: a7 :: some (.int (iI x)) :: t) st := by
  intro H locs ls h1 h2 h3
  obtain ⟨i, hi⟩ := List.getElem?_of_mem (lhL_mem.mpr (show ((a0 :: a1 :: a2 :: a3 :: a4 :: a5 :: a6 :: a7 :: some (.int (iI x)) :: t))[8]? = some (some (.int (iI x))) from rfl))
  exact lv_iinc (v := iI (x + z)) (k := i) C.1.1 C.1.2.1 d h3.has hi (iI_add x z) hn rfl (fun ls' h' => k H locs ls' h1 h2 (Lh.set1 (show nlat ((a0 :: a1 :: a2 :: a3 :: a4 :: a5 :: a6 :: a7 :: some (.int (iI x)) :: t)) 8 = true from hp) h'))
theorem J_iload9 (C : Cx p l e R s m args below meth c cy D ad A nL cc own Ts) {a0 a1 a2 a3 a4 a5 a6 a7 a8 : Option Value} {t : List (Option Value)} {x : Int} (d : decode cc pc = .ok (.iload 9, 2)) (k : JW p l e R s m args below meth c cy D ad A nL cells slots Q σ (pc + 2) (a0 :: a1 :: a2 :: a3 :: a4 :: a5 :: a6 :: a7 :: a8 :: some (.int (iI x)) :: t) (.int (iI x) :: st)) : JW p l e R s m args below meth c cy D ad A nL cells slots Q σ pc (a0 :: a1 :: a2 :: a3 :: a4 :: a5 :: a6 :: a7 :: a8 :: some (.int (iI x)) :: t) st := by
  intro H locs ls h1 h2 h3
  exact lv_iload C.1.1 C.1.2.1 d (h3.2.2 9 _ rfl) (k H locs ls h1 h2 h3)
theorem J_lload9 (C : Cx p l e R s m args below meth c cy D ad A nL cc own Ts) {a0 a1 a2 a3 a4 a5 a6 a7 a8 : Option Value} {t : List (Option Value)} {x : Int} (d : decode cc pc = .ok (.lload 9, 2)) (k : JW p l e R s m args below meth c cy D ad A nL cells slots Q σ (pc + 2) (a0 :: a1 :: a2 :: a3 :: a4 :: a5 :: a6 :: a7 :: a8 :: some (.long (lI x)) :: t) (.long (lI x) :: st)) : JW p l e R s m args below meth c cy D ad A nL cells slots Q σ pc (a0 :: a1 :: a2 :: a3 :: a4 :: a5 :: a6 :: a7 :: a8 :: some (.long (lI x)) :: t) st := by
  intro H locs ls h1 h2 h3
  exact lv_lload C.1.1 C.1.2.1 d (h3.2.2 9 _ rfl) (k H locs ls h1 h2 h3)
theorem J_aload9 (C : Cx p l e R s m args below meth c cy D ad A nL cc own Ts) {a0 a1 a2 a3 a4 a5 a6 a7 a8 : Option Value} {t : List (Option Value)} {x : Nat} (d : decode cc pc = .ok (.aload 9, 2)) (k : JW p l e R s m args below meth c cy D ad A nL cells slots Q σ (pc + 2) (a0 :: a1 :: a2 :: a3 :: a4 :: a5 :: a6 :: a7 :: a8 :: some (.ref x) :: t) (.ref x :: st)) : JW p l e R s m args below meth c cy D ad A nL cells slots Q σ pc (a0 :: a1 :: a2 :: a3 :: a4 :: a5 :: a6 :: a7 :: a8 :: some (.ref x) :: t) st := by
  intro H locs ls h1 h2 h3
  exact lv_aload C.1.1 C.1.2.1 d (h3.2.2 9 _ rfl) (k H locs ls h1 h2 h3)
theorem J_istore9 (C : Cx p l e R s m args below meth c cy D ad A nL cc own Ts) {a0 a1 a2 a3 a4 a5 a6 a7 a8 : Option Value} {t : List (Option Value)} {b : Option Value} {x : Int} (hn : 9 < nL) (hp : nlo a8 = true) (d : decode cc pc = .ok (.istore 9, 2)) (k : JW p l e R s m args below meth c cy D ad A nL cells slots Q σ (pc + 2) (a0 :: a1 :: a2 :: a3 :: a4 :: a5 :: a6 :: a7 :: a8 :: some (.int (iI x)) :: t) st) : JW p l e R s m args below meth c cy D ad A nL cells slots Q σ pc (a0 :: a1 :: a2 :: a3 :: a4 :: a5 :: a6 :: a7 :: a8 :: b :: t) (.int (iI x) :: st) := by
  intro H locs ls h1 h2 h3
  exact lv_istore C.1.1 C.1.2.1 d h3.has hn rfl (fun ls' h' => k H locs ls' h1 h2 (Lh.set1 (show nlat ((a0 :: a1 :: a2 :: a3 :: a4 :: a5 :: a6 :: a7 :: a8 :: b :: t)) 9 = true from hp) h'))
theorem J_astore9 (C : Cx p l e R s m args below meth c cy D ad A nL cc own Ts) {a0 a1 a2 a3 a4 a5 a6 a7 a8 : Option Value} {t : List (Option Value)} {b : Option Value} {x : Nat} (hn : 9 < nL) (hp : nlo a8 = true) (d : decode cc pc = .ok (.astore 9, 2)) (k : JW p l e R s m args below meth c cy D ad A nL cells slots Q σ (pc + 2) (a0 :: a1 :: a2 :: a3 :: a4 :: a5 :: a6 :: a7 :: a8 :: some (.ref x) :: t) st) : JW p l e R s m args below meth c cy D ad A nL cells slots Q σ pc (a0 :: a1 :: a2 :: a3 :: a4 :: a5 :: a6 :: a7 :: a8 :: b :: t) (.ref x :: st) := by
  intro H locs ls h1 h2 h3
  exact lv_astore C.1.1 C.1.2.1 d h3.has hn rfl (fun ls' h' => k H locs ls' h1 h2 (Lh.set1 (show nlat ((a0 :: a1 :: a2 :: a3 :: a4 :: a5 :: a6 :: a7 :: a8 :: b :: t)) 9 = true from hp) h'))
theorem J_lstore9 (C : Cx p l e R s m args below meth c cy D ad A nL cc own Ts) {a0 a1 a2 a3 a4 a5 a6 a7 a8 : Option Value} {t : List (Option Value)} {b b2 : Option Value} {x : Int} (hn : 9 + 1 < nL) (hp : nlo a8 = true) (d : decode cc pc = .ok (.lstore 9, 2)) (k : JW p l e R s m args below meth c cy D ad A nL cells slots Q σ (pc + 2) (a0 :: a1 :: a2 :: a3 :: a4 :: a5 :: a6 :: a7 :: a8 :: some (.long (lI x)) :: none :: t) st) : JW p l e R s m args below meth c cy D ad A nL cells slots Q σ pc (a0 :: a1 :: a2 :: a3 :: a4 :: a5 :: a6 :: a7 :: a8 :: b :: b2 :: t) (.long (lI x) :: st) := by
  intro H locs ls h1 h2 h3
  exact lv_lstore C.1.1 C.1.2.1 d h3.has hn rfl (fun ls' h' => k H locs ls' h1 h2 (Lh.set2 (show nlat ((a0 :: a1 :: a2 :: a3 :: a4 :: a5 :: a6 :: a7 :: a8 :: b :: b2 :: t)) 9 = true from hp) h'))
theorem J_iinc9 (C : Cx p l e R s m args below meth c cy D ad A nL cc own Ts) {a0 a1 a2 a3 a4 a5 a6 a7 a8 : Option Value} {t : List (Option Value)} {x z : Int} (hn : 9 < nL) (hp : nlo a8 = true) (d : decode cc pc = .ok (.iinc 9 z, 3)) (k : JW p l e R s m args below meth c cy D ad A nL cells slots Q σ (pc + 3) (a0 :: a1 :: a2 :: a3 :: a4 :: a5 :: a6 :: a7 :: a8 :: some (.int (iI (x + z))) :: t) st) : JW p l e R s m args below meth c cy D ad A nL cells slots Q σ pc (a0 :: a1 :: a2 :: a3 :: a4 :: a5 :: a6 :: a7 :: a8 :: some (.int (iI x)) :: t) st := by
  intro H locs ls h1 h2 h3
  obtain ⟨i, hi⟩ := List.getElem?_of_mem (lhL_mem.mpr (show ((a0 :: a1 :: a2 :: a3 :: a4 :: a5 :: a6 :: a7 :: a8 :: some (.int (iI x)) :: t))[9]? = some (some (.int (iI x))) from rfl))
  exact lv_iinc (v := iI (x + z)) (k := i) C.1.1 C.1.2.1 d h3.has hi (iI_add x z) hn rfl (fun ls' h' => k H locs ls' h1 h2 (Lh.set1 (show nlat ((a0 :: a1 :: a2 :: a3 :: a4 :: a5 :: a6 :: a7 :: a8 :: some (.int (iI x)) :: t)) 9 = true from hp) h'))
theorem J_less {lv' : List (Option Value)} (hs : ∀ (i : Nat) (v : Value), lv'[i]? = some (some v) → lv[i]? = some (some v)) (k : JW p l e R s m args below meth c cy D ad A nL cells slots Q σ pc lv' st) : JW p l e R s m args below meth c cy D ad A nL cells slots Q σ pc lv st := fun H locs ls h1 h2 h3 => k H locs ls h1 h2 (h3.less hs)
theorem J_widen {k n : Nat} (h1 : cells ≤ k) (h2 : slots ≤ n) (kk : JW p l e R s m args below meth c cy D ad A nL k n Q σ pc lv st) : JW p l e R s m args below meth c cy D ad A nL cells slots Q σ pc lv st := fun H locs ls a b c => W.widen h1 h2 (kk H locs ls a b c)
theorem J_eq {σ' : Sg} {lv' : List (Option Value)} {st' : List Value} (h1 : σ = σ') (h2 : lv = lv') (h3 : st = st') (kk : JW p l e R s m args below meth c cy D ad A nL cells slots Q σ' pc lv' st') : JW p l e R s m args below meth c cy D ad A nL cells slots Q σ pc lv st := by subst h1; subst h2; subst h3; exact kk
theorem one_P {H : Heap} {kd : Nat} {k : Int} {w : va_E} (h : Wd cy D ad σ H) (h0 : 0 ≤ k) (h1 : k < cnt kd) (hw : wM cy ad σ kd k = w) : va_P D vwCl [(ad kd k, w)] H := by
  intro i q hq
  cases i with
  | zero => cases hq; rw [← hw]; exact h kd k h0 h1
  | succ i => simp at hq
theorem nat_z {z : Int} (h : 0 ≤ z) : ((z.toNat : Nat) : Int) = z := by omega
theorem J_iaload (C : Cx p l e R s m args below meth c cy D ad A nL cc own Ts) {kd n : Nat} {k z : Int} (hK : IsI kd n) (hk : 0 ≤ k ∧ k < cnt kd) (hz : 0 ≤ z ∧ z < n) (d : decode cc pc = .ok (.iaload, 1)) (kk : JW p l e R s m args below meth c cy D ad A nL cells slots Q σ (pc + 1) lv (.int (iI (σ kd k z)) :: st)) : JW p l e R s m args below meth c cy D ad A nL cells slots Q σ pc lv (.int (iI z) :: .ref (ad kd k) :: st) := by
  intro H locs ls h1 h2 h3
  obtain ⟨hi, hc⟩ := iI_ix hz.1 hz.2 hK.1
  refine va_iald C.1.1 C.1.2.1 C.2.2.2.1.1 (one_P h1 hk.1 hk.2 (hK.2 cy ad σ k)) 0 0 rfl rfl hi d ?_
  rw [hc, nat_z hz.1]
  exact kk H locs ls h1 h2 h3
theorem J_baload (C : Cx p l e R s m args below meth c cy D ad A nL cc own Ts) {kd n : Nat} {k z : Int} (hK : IsZ kd n) (hk : 0 ≤ k ∧ k < cnt kd) (hz : 0 ≤ z ∧ z < n) (d : decode cc pc = .ok (.baload, 1)) (kk : JW p l e R s m args below meth c cy D ad A nL cells slots Q σ (pc + 1) lv (.int (iI (σ kd k z)) :: st)) : JW p l e R s m args below meth c cy D ad A nL cells slots Q σ pc lv (.int (iI z) :: .ref (ad kd k) :: st) := by
  intro H locs ls h1 h2 h3
  obtain ⟨hi, hc⟩ := iI_ix hz.1 hz.2 hK.1
  refine va_zald C.1.1 C.1.2.1 C.2.2.2.1.1 (one_P h1 hk.1 hk.2 (hK.2 cy ad σ k)) 0 2 rfl rfl hi d ?_
  rw [hc, nat_z hz.1]
  exact kk H locs ls h1 h2 h3
theorem J_laload (C : Cx p l e R s m args below meth c cy D ad A nL cc own Ts) {kd n : Nat} {k z : Int} (hK : IsL kd n) (hk : 0 ≤ k ∧ k < cnt kd) (hz : 0 ≤ z ∧ z < n) (d : decode cc pc = .ok (.laload, 1)) (kk : JW p l e R s m args below meth c cy D ad A nL cells slots Q σ (pc + 1) lv (.long (lI (σ kd k z)) :: st)) : JW p l e R s m args below meth c cy D ad A nL cells slots Q σ pc lv (.int (iI z) :: .ref (ad kd k) :: st) := by
  intro H locs ls h1 h2 h3
  obtain ⟨hi, hc⟩ := iI_ix hz.1 hz.2 hK.1
  refine va_lald C.1.1 C.1.2.1 C.2.2.2.1.1 (one_P h1 hk.1 hk.2 (hK.2 cy ad σ k)) 0 1 rfl rfl hi d ?_
  rw [hc, nat_z hz.1]
  exact kk H locs ls h1 h2 h3
theorem J_aaloadW (C : Cx p l e R s m args below meth c cy D ad A nL cc own Ts) {z : Int} (hz : 0 ≤ z ∧ z < 6) (d : decode cc pc = .ok (.aaload, 1)) (k : JW p l e R s m args below meth c cy D ad A nL cells slots Q σ (pc + 1) lv (.ref (ad 12 z) :: st)) : JW p l e R s m args below meth c cy D ad A nL cells slots Q σ pc lv (.int (iI z) :: .ref (ad 2 0) :: st) := by
  intro H locs ls h1 h2 h3
  obtain ⟨hi, hc⟩ := iI_ix (n := 6) hz.1 hz.2 (by decide)
  refine va_aldq (C := "JointVenture$Well") C.1.1 C.1.2.1 C.2.2.2.1.1 (one_P (kd := 2) (k := 0) h1 (by decide) (by decide) rfl) 0 3 rfl rfl hi d ?_
  rw [hc, nat_z hz.1]
  exact k H locs ls h1 h2 h3
theorem J_aaloadC (C : Cx p l e R s m args below meth c cy D ad A nL cc own Ts) {z : Int} (hz : 0 ≤ z ∧ z < 20) (d : decode cc pc = .ok (.aaload, 1)) (k : JW p l e R s m args below meth c cy D ad A nL cells slots Q σ (pc + 1) lv (.ref (ad 19 z) :: st)) : JW p l e R s m args below meth c cy D ad A nL cells slots Q σ pc lv (.int (iI z) :: .ref (ad 5 0) :: st) := by
  intro H locs ls h1 h2 h3
  obtain ⟨hi, hc⟩ := iI_ix (n := 20) hz.1 hz.2 (by decide)
  refine va_aldq (C := "JointVenture$CashCall") C.1.1 C.1.2.1 C.2.2.2.1.1 (one_P (kd := 5) (k := 0) h1 (by decide) (by decide) rfl) 0 4 rfl rfl hi d ?_
  rw [hc, nat_z hz.1]
  exact k H locs ls h1 h2 h3
theorem i32_clamp {z : Int} {n : Nat} (h0 : 0 ≤ z) (h : z < n) (hn : n ≤ 1000) : (iI z).toNatClampNeg = z.toNat := (iI_ix h0 h hn).2
theorem su_row {β : Type} (g : Int → β) {σ : Sg} {kd : Nat} {k z v : Int} (h0 : 0 ≤ z) : (fun q : Nat => if q = z.toNat then g v else g (σ kd k (q : Int))) = fun q : Nat => g (su σ kd k z v kd k (q : Int)) := by
  funext q
  unfold su
  by_cases h : q = z.toNat
  · rw [if_pos h, if_pos ⟨rfl, rfl, by omega⟩]
  · rw [if_neg h, if_neg (fun w => h (by omega))]
theorem J_iastore (C : Cx p l e R s m args below meth c cy D ad A nL cc own Ts) {kd n : Nat} {k z v : Int} (hK : IsI kd n) (hk : 0 ≤ k ∧ k < cnt kd) (hz : 0 ≤ z ∧ z < n) (d : decode cc pc = .ok (.iastore, 1)) (kk : JW p l e R s m args below meth c cy D ad A nL cells slots Q (su σ kd k z v) (pc + 1) lv st) : JW p l e R s m args below meth c cy D ad A nL cells slots Q σ pc lv (.int (iI v) :: .int (iI z) :: .ref (ad kd k) :: st) := by
  intro H locs ls h1 h2 h3
  obtain ⟨hi, hc⟩ := iI_ix hz.1 hz.2 hK.1
  have hP := h1 kd k hk.1 hk.2
  rw [hK.2 cy ad σ k] at hP
  have hP : H[ad kd k]? = some (arrV (cy 0) n (fun j => .int (iI (σ kd k (j : Int))))) := hP
  refine W.iast C.1.1 C.1.2.1 hP ((C.2.2.2.1.1.2 0 _ rfl).1 n (fun j => .int (iI (σ kd k (j : Int))))) (fun q => by cases q) (by rw [arrV_size]; exact hi) rfl rfl d fun H1 e1 zs oq => ?_
  rw [hc, arrV_store] at e1
  refine kk H1 _ ls (h1.put C.2.1 hk.1 hk.2 ?_ oq) (h2.put zs oq (C.2.2.1 _ (Or.inl ⟨kd, k, hk.1, hk.2, rfl⟩))) h3
  rw [hK.2 cy ad (su σ kd k z v) k]
  show H1[ad kd k]? = some (arrV (cy 0) n (fun j => .int (iI (su σ kd k z v kd k (j : Int)))))
  rw [e1]
  congr 2
  exact su_row (fun x => Value.int (iI x)) hz.1
theorem J_bastore (C : Cx p l e R s m args below meth c cy D ad A nL cc own Ts) {kd n : Nat} {k z v : Int} (hK : IsZ kd n) (hk : 0 ≤ k ∧ k < cnt kd) (hz : 0 ≤ z ∧ z < n) (hb : v = 0 ∨ v = 1) (d : decode cc pc = .ok (.bastore, 1)) (kk : JW p l e R s m args below meth c cy D ad A nL cells slots Q (su σ kd k z v) (pc + 1) lv st) : JW p l e R s m args below meth c cy D ad A nL cells slots Q σ pc lv (.int (iI v) :: .int (iI z) :: .ref (ad kd k) :: st) := by
  intro H locs ls h1 h2 h3
  obtain ⟨hi, hc⟩ := iI_ix hz.1 hz.2 hK.1
  have hP := h1 kd k hk.1 hk.2
  rw [hK.2 cy ad σ k] at hP
  have hP : H[ad kd k]? = some (arrV (cy 2) n (fun j => .int (iI (σ kd k (j : Int))))) := hP
  refine W.zast C.1.1 C.1.2.1 hP ((C.2.2.2.1.1.2 2 _ rfl).1 n (fun j => .int (iI (σ kd k (j : Int))))) (fun q => by cases q) (by rw [arrV_size]; exact hi) rfl rfl d fun H1 e1 zs oq => ?_
  rw [hc, arrV_store] at e1
  rw [show narrow .boolean (.int (iI v)) = .int (iI v) by rcases hb with rfl | rfl <;> rfl] at e1
  refine kk H1 _ ls (h1.put C.2.1 hk.1 hk.2 ?_ oq) (h2.put zs oq (C.2.2.1 _ (Or.inl ⟨kd, k, hk.1, hk.2, rfl⟩))) h3
  rw [hK.2 cy ad (su σ kd k z v) k]
  show H1[ad kd k]? = some (arrV (cy 2) n (fun j => .int (iI (su σ kd k z v kd k (j : Int)))))
  rw [e1]
  congr 2
  exact su_row (fun x => Value.int (iI x)) hz.1
theorem J_lastore (C : Cx p l e R s m args below meth c cy D ad A nL cc own Ts) {kd n : Nat} {k z v : Int} (hK : IsL kd n) (hk : 0 ≤ k ∧ k < cnt kd) (hz : 0 ≤ z ∧ z < n) (d : decode cc pc = .ok (.lastore, 1)) (kk : JW p l e R s m args below meth c cy D ad A nL cells slots Q (su σ kd k z v) (pc + 1) lv st) : JW p l e R s m args below meth c cy D ad A nL cells slots Q σ pc lv (.long (lI v) :: .int (iI z) :: .ref (ad kd k) :: st) := by
  intro H locs ls h1 h2 h3
  obtain ⟨hi, hc⟩ := iI_ix hz.1 hz.2 hK.1
  have hP := h1 kd k hk.1 hk.2
  rw [hK.2 cy ad σ k] at hP
  have hP : H[ad kd k]? = some (arrV (cy 1) n (fun j => .long (lI (σ kd k (j : Int))))) := hP
  refine W.last C.1.1 C.1.2.1 hP ((C.2.2.2.1.1.2 1 _ rfl).1 n (fun j => .long (lI (σ kd k (j : Int))))) (fun q => by cases q) (by rw [arrV_size]; exact hi) rfl rfl d fun H1 e1 zs oq => ?_
  rw [hc, arrV_store] at e1
  refine kk H1 _ ls (h1.put C.2.1 hk.1 hk.2 ?_ oq) (h2.put zs oq (C.2.2.1 _ (Or.inl ⟨kd, k, hk.1, hk.2, rfl⟩))) h3
  rw [hK.2 cy ad (su σ kd k z v) k]
  show H1[ad kd k]? = some (arrV (cy 1) n (fun j => .long (lI (su σ kd k z v kd k (j : Int)))))
  rw [e1]
  congr 2
  exact su_row (fun x => Value.long (lI x)) hz.1
theorem put_gen (C : Cx p l e R s m args below meth c cy D ad A nL cc own Ts) {Cn ref : String} {T : u_T} {N ci idx kd f : Nat} {k v : Int} {fsF : Sg → List Value} {ty : FieldType} (hin : ∀ w ∈ u_ws Cn T N, w ∈ Ts) (ty0 : Nat → FieldType) (hty : ∀ k, k < N → parseFieldDescriptor (T k).2.2.1 = some (ty0 k)) (hnm : ∀ a, a < N → ∀ b, b < N → a ≠ b → (T a).2.1 ≠ (T b).2.1) (hc : vwCl[ci]? = some (Cn, T, N)) (hf : f < N) (hl : Cond.fieldLink own idx ref (T f).2.1 (T f).2.2.1 ∈ Ts) (hs : (T f).1 = ref) (hfin : (T f).2.2.2 = false) (hd : parseFieldDescriptor (T f).2.2.1 = some ty) (hn : narrow ty (.int (iI v)) = .int (iI v)) (hfit : fits ty (.int (iI v)) = true) (hw : ∀ σ : Sg, wM cy ad σ kd k = .inr (ci, fsF σ)) (hlen : f < (fsF σ).length) (hset : fsF (su σ kd k f v) = (fsF σ).set f (.int (iI v))) (hk : 0 ≤ k ∧ k < cnt kd) (d : decode cc pc = .ok (.putfield idx, 3)) (kk : JW p l e R s m args below meth c cy D ad A nL cells slots Q (su σ kd k f v) (pc + 3) lv st) : JW p l e R s m args below meth c cy D ad A nL cells slots Q σ pc lv (.int (iI v) :: .ref (ad kd k) :: st) := by
  intro H locs ls h1 h2 h3
  have hK := C.2.2.2.1.1
  have hts := C.1.2.2.2.2
  have hown := C.1.2.2.2.1
  have hap := va_apart (own := own) hts hin ty0 hty hnm hK hc
  have hP := h1 kd k hk.1 hk.2
  rw [hw σ] at hP
  obtain ⟨r, g1, cell, q1, q2, q3, q4⟩ := hP
  have hr : r = (Cn, T, N) := Option.some.inj (g1.symm.trans hc)
  subst hr
  obtain ⟨hS, hfc, kC, hkC, hkind⟩ := hK.1 ci _ hc
  obtain ⟨cf, kf, fi, f9, hi, hsl⟩ := hS f hf
  have hlay := hts _ (hin _ (u_in_lay hf))
  unfold u_lay at hlay
  rw [if_neg (by rw [hfin]; decide)] at hlay
  have hst := (u_facts hfc hkC (u_lays hts hin hf) hi).1
  have h6 := u_store hfc hkC hkind hlay hi hd hn hfit
  refine W.putK C.1.1 C.1.2.1 (f := f9) ⟨hown, hts _ hl, ⟨_, _, _, (by rw [hs] at hi; exact hi)⟩, hst⟩ (by rw [q2]; exact h6) q1 q3 (by rw [hsl]; exact k2_hasslot (q4 f hf)) rfl rfl d fun H' e1 e2 e3 => ?_
  rw [hsl] at e1 ⊢
  refine kk H' _ ls (h1.put C.2.1 hk.1 hk.2 ?_ e3) (h2.put e2 e3 (C.2.2.1 _ (Or.inl ⟨kd, k, hk.1, hk.2, rfl⟩))) h3
  rw [hw, hset]
  exact ⟨_, hc, t_OB.to (V := updV (vp_V (fsF σ)) f (.int (iI v))) ⟨_, e1, q2, q3, t_set q4 hap hf _⟩ (fun j _ => vp_updV_set hlen _ j)⟩
theorem J_get_3_0 (C : Cx p l e R s m args below meth c cy D ad A nL cc own Ts) {idx : Nat} {k : Int} (hin : ∀ w ∈ wsX30, w ∈ Ts) (hl : Cond.fieldLink own idx "JointVenture" "shares" "[I" ∈ Ts) (hk : 0 ≤ k ∧ k < cnt 0) (d : decode cc pc = .ok (.getfield idx, 3)) (kk : JW p l e R s m args below meth c cy D ad A nL cells slots Q σ (pc + 3) lv (.ref (ad 1 0) :: st)) : JW p l e R s m args below meth c cy D ad A nL cells slots Q σ pc lv (.ref (ad 0 k) :: st) := by
  intro H locs ls h1 h2 h3
  exact va_get C.1.1 C.1.2.1 C.1.2.2.2.2 hin C.1.2.2.2.1 C.2.2.2.1.1 (one_P h1 hk.1 hk.2 rfl) 0 rfl rfl 0 (by decide) (C.1.2.2.2.2 _ hl) (fun _ h => h) rfl d (kk H locs ls h1 h2 h3)
theorem J_get_3_1 (C : Cx p l e R s m args below meth c cy D ad A nL cc own Ts) {idx : Nat} {k : Int} (hin : ∀ w ∈ wsX30, w ∈ Ts) (hl : Cond.fieldLink own idx "JointVenture" "newPenalty" "I" ∈ Ts) (hk : 0 ≤ k ∧ k < cnt 0) (d : decode cc pc = .ok (.getfield idx, 3)) (kk : JW p l e R s m args below meth c cy D ad A nL cells slots Q σ (pc + 3) lv (.int (iI (σ 0 k 1)) :: st)) : JW p l e R s m args below meth c cy D ad A nL cells slots Q σ pc lv (.ref (ad 0 k) :: st) := by
  intro H locs ls h1 h2 h3
  exact va_get C.1.1 C.1.2.1 C.1.2.2.2.2 hin C.1.2.2.2.1 C.2.2.2.1.1 (one_P h1 hk.1 hk.2 rfl) 0 rfl rfl 1 (by decide) (C.1.2.2.2.2 _ hl) (fun _ h => h) rfl d (kk H locs ls h1 h2 h3)
theorem J_put_3_1 (C : Cx p l e R s m args below meth c cy D ad A nL cc own Ts) {idx : Nat} {k v : Int} (hin : ∀ w ∈ wsX30, w ∈ Ts) (hl : Cond.fieldLink own idx "JointVenture" "newPenalty" "I" ∈ Ts) (hk : 0 ≤ k ∧ k < cnt 0) (d : decode cc pc = .ok (.putfield idx, 3)) (kk : JW p l e R s m args below meth c cy D ad A nL cells slots Q (su σ 0 k 1 v) (pc + 3) lv st) : JW p l e R s m args below meth c cy D ad A nL cells slots Q σ pc lv (.int (iI v) :: .ref (ad 0 k) :: st) :=
  put_gen (fsF := fun σ => [.ref (ad 1 0), .int (iI (σ 0 k 1)), .int (iI (σ 0 k 2)), .ref (ad 2 0), .int (iI (σ 0 k 4)), .ref (ad 3 0), .ref (ad 4 0), .int (iI (σ 0 k 7)), .ref (ad 5 0), .int (iI (σ 0 k 9)), .ref (ad 6 0), .ref (ad 7 0), .ref (ad 9 0), .ref (ad 10 0), .ref (ad 11 0)]) C hin tyX3 tyX3_ok nmX3 (ci := 3) rfl (by decide) hl rfl rfl (ty := .int) (by decide +kernel) rfl rfl (fun _ => rfl) (by show 1 < 15; decide) (by simp [su]) hk d kk
theorem J_get_3_2 (C : Cx p l e R s m args below meth c cy D ad A nL cc own Ts) {idx : Nat} {k : Int} (hin : ∀ w ∈ wsX30, w ∈ Ts) (hl : Cond.fieldLink own idx "JointVenture" "monthlyOverhead" "I" ∈ Ts) (hk : 0 ≤ k ∧ k < cnt 0) (d : decode cc pc = .ok (.getfield idx, 3)) (kk : JW p l e R s m args below meth c cy D ad A nL cells slots Q σ (pc + 3) lv (.int (iI (σ 0 k 2)) :: st)) : JW p l e R s m args below meth c cy D ad A nL cells slots Q σ pc lv (.ref (ad 0 k) :: st) := by
  intro H locs ls h1 h2 h3
  exact va_get C.1.1 C.1.2.1 C.1.2.2.2.2 hin C.1.2.2.2.1 C.2.2.2.1.1 (one_P h1 hk.1 hk.2 rfl) 0 rfl rfl 2 (by decide) (C.1.2.2.2.2 _ hl) (fun _ h => h) rfl d (kk H locs ls h1 h2 h3)
theorem J_put_3_2 (C : Cx p l e R s m args below meth c cy D ad A nL cc own Ts) {idx : Nat} {k v : Int} (hin : ∀ w ∈ wsX30, w ∈ Ts) (hl : Cond.fieldLink own idx "JointVenture" "monthlyOverhead" "I" ∈ Ts) (hk : 0 ≤ k ∧ k < cnt 0) (d : decode cc pc = .ok (.putfield idx, 3)) (kk : JW p l e R s m args below meth c cy D ad A nL cells slots Q (su σ 0 k 2 v) (pc + 3) lv st) : JW p l e R s m args below meth c cy D ad A nL cells slots Q σ pc lv (.int (iI v) :: .ref (ad 0 k) :: st) :=
  put_gen (fsF := fun σ => [.ref (ad 1 0), .int (iI (σ 0 k 1)), .int (iI (σ 0 k 2)), .ref (ad 2 0), .int (iI (σ 0 k 4)), .ref (ad 3 0), .ref (ad 4 0), .int (iI (σ 0 k 7)), .ref (ad 5 0), .int (iI (σ 0 k 9)), .ref (ad 6 0), .ref (ad 7 0), .ref (ad 9 0), .ref (ad 10 0), .ref (ad 11 0)]) C hin tyX3 tyX3_ok nmX3 (ci := 3) rfl (by decide) hl rfl rfl (ty := .int) (by decide +kernel) rfl rfl (fun _ => rfl) (by show 2 < 15; decide) (by simp [su]) hk d kk
theorem J_get_3_3 (C : Cx p l e R s m args below meth c cy D ad A nL cc own Ts) {idx : Nat} {k : Int} (hin : ∀ w ∈ wsX30, w ∈ Ts) (hl : Cond.fieldLink own idx "JointVenture" "wells" "[LJointVenture$Well;" ∈ Ts) (hk : 0 ≤ k ∧ k < cnt 0) (d : decode cc pc = .ok (.getfield idx, 3)) (kk : JW p l e R s m args below meth c cy D ad A nL cells slots Q σ (pc + 3) lv (.ref (ad 2 0) :: st)) : JW p l e R s m args below meth c cy D ad A nL cells slots Q σ pc lv (.ref (ad 0 k) :: st) := by
  intro H locs ls h1 h2 h3
  exact va_get C.1.1 C.1.2.1 C.1.2.2.2.2 hin C.1.2.2.2.1 C.2.2.2.1.1 (one_P h1 hk.1 hk.2 rfl) 0 rfl rfl 3 (by decide) (C.1.2.2.2.2 _ hl) (fun _ h => h) rfl d (kk H locs ls h1 h2 h3)
theorem J_get_3_4 (C : Cx p l e R s m args below meth c cy D ad A nL cc own Ts) {idx : Nat} {k : Int} (hin : ∀ w ∈ wsX30, w ∈ Ts) (hl : Cond.fieldLink own idx "JointVenture" "wellCount" "I" ∈ Ts) (hk : 0 ≤ k ∧ k < cnt 0) (d : decode cc pc = .ok (.getfield idx, 3)) (kk : JW p l e R s m args below meth c cy D ad A nL cells slots Q σ (pc + 3) lv (.int (iI (σ 0 k 4)) :: st)) : JW p l e R s m args below meth c cy D ad A nL cells slots Q σ pc lv (.ref (ad 0 k) :: st) := by
  intro H locs ls h1 h2 h3
  exact va_get C.1.1 C.1.2.1 C.1.2.2.2.2 hin C.1.2.2.2.1 C.2.2.2.1.1 (one_P h1 hk.1 hk.2 rfl) 0 rfl rfl 4 (by decide) (C.1.2.2.2.2 _ hl) (fun _ h => h) rfl d (kk H locs ls h1 h2 h3)
theorem J_put_3_4 (C : Cx p l e R s m args below meth c cy D ad A nL cc own Ts) {idx : Nat} {k v : Int} (hin : ∀ w ∈ wsX30, w ∈ Ts) (hl : Cond.fieldLink own idx "JointVenture" "wellCount" "I" ∈ Ts) (hk : 0 ≤ k ∧ k < cnt 0) (d : decode cc pc = .ok (.putfield idx, 3)) (kk : JW p l e R s m args below meth c cy D ad A nL cells slots Q (su σ 0 k 4 v) (pc + 3) lv st) : JW p l e R s m args below meth c cy D ad A nL cells slots Q σ pc lv (.int (iI v) :: .ref (ad 0 k) :: st) :=
  put_gen (fsF := fun σ => [.ref (ad 1 0), .int (iI (σ 0 k 1)), .int (iI (σ 0 k 2)), .ref (ad 2 0), .int (iI (σ 0 k 4)), .ref (ad 3 0), .ref (ad 4 0), .int (iI (σ 0 k 7)), .ref (ad 5 0), .int (iI (σ 0 k 9)), .ref (ad 6 0), .ref (ad 7 0), .ref (ad 9 0), .ref (ad 10 0), .ref (ad 11 0)]) C hin tyX3 tyX3_ok nmX3 (ci := 3) rfl (by decide) hl rfl rfl (ty := .int) (by decide +kernel) rfl rfl (fun _ => rfl) (by show 4 < 15; decide) (by simp [su]) hk d kk
theorem J_get_3_5 (C : Cx p l e R s m args below meth c cy D ad A nL cc own Ts) {idx : Nat} {k : Int} (hin : ∀ w ∈ wsX30, w ∈ Ts) (hl : Cond.fieldLink own idx "JointVenture" "voucherWells" "[I" ∈ Ts) (hk : 0 ≤ k ∧ k < cnt 0) (d : decode cc pc = .ok (.getfield idx, 3)) (kk : JW p l e R s m args below meth c cy D ad A nL cells slots Q σ (pc + 3) lv (.ref (ad 3 0) :: st)) : JW p l e R s m args below meth c cy D ad A nL cells slots Q σ pc lv (.ref (ad 0 k) :: st) := by
  intro H locs ls h1 h2 h3
  exact va_get C.1.1 C.1.2.1 C.1.2.2.2.2 hin C.1.2.2.2.1 C.2.2.2.1.1 (one_P h1 hk.1 hk.2 rfl) 0 rfl rfl 5 (by decide) (C.1.2.2.2.2 _ hl) (fun _ h => h) rfl d (kk H locs ls h1 h2 h3)
theorem J_get_3_6 (C : Cx p l e R s m args below meth c cy D ad A nL cc own Ts) {idx : Nat} {k : Int} (hin : ∀ w ∈ wsX30, w ∈ Ts) (hl : Cond.fieldLink own idx "JointVenture" "voucherAmounts" "[I" ∈ Ts) (hk : 0 ≤ k ∧ k < cnt 0) (d : decode cc pc = .ok (.getfield idx, 3)) (kk : JW p l e R s m args below meth c cy D ad A nL cells slots Q σ (pc + 3) lv (.ref (ad 4 0) :: st)) : JW p l e R s m args below meth c cy D ad A nL cells slots Q σ pc lv (.ref (ad 0 k) :: st) := by
  intro H locs ls h1 h2 h3
  exact va_get C.1.1 C.1.2.1 C.1.2.2.2.2 hin C.1.2.2.2.1 C.2.2.2.1.1 (one_P h1 hk.1 hk.2 rfl) 0 rfl rfl 6 (by decide) (C.1.2.2.2.2 _ hl) (fun _ h => h) rfl d (kk H locs ls h1 h2 h3)
theorem J_get_3_7 (C : Cx p l e R s m args below meth c cy D ad A nL cc own Ts) {idx : Nat} {k : Int} (hin : ∀ w ∈ wsX30, w ∈ Ts) (hl : Cond.fieldLink own idx "JointVenture" "voucherCount" "I" ∈ Ts) (hk : 0 ≤ k ∧ k < cnt 0) (d : decode cc pc = .ok (.getfield idx, 3)) (kk : JW p l e R s m args below meth c cy D ad A nL cells slots Q σ (pc + 3) lv (.int (iI (σ 0 k 7)) :: st)) : JW p l e R s m args below meth c cy D ad A nL cells slots Q σ pc lv (.ref (ad 0 k) :: st) := by
  intro H locs ls h1 h2 h3
  exact va_get C.1.1 C.1.2.1 C.1.2.2.2.2 hin C.1.2.2.2.1 C.2.2.2.1.1 (one_P h1 hk.1 hk.2 rfl) 0 rfl rfl 7 (by decide) (C.1.2.2.2.2 _ hl) (fun _ h => h) rfl d (kk H locs ls h1 h2 h3)
theorem J_put_3_7 (C : Cx p l e R s m args below meth c cy D ad A nL cc own Ts) {idx : Nat} {k v : Int} (hin : ∀ w ∈ wsX30, w ∈ Ts) (hl : Cond.fieldLink own idx "JointVenture" "voucherCount" "I" ∈ Ts) (hk : 0 ≤ k ∧ k < cnt 0) (d : decode cc pc = .ok (.putfield idx, 3)) (kk : JW p l e R s m args below meth c cy D ad A nL cells slots Q (su σ 0 k 7 v) (pc + 3) lv st) : JW p l e R s m args below meth c cy D ad A nL cells slots Q σ pc lv (.int (iI v) :: .ref (ad 0 k) :: st) :=
  put_gen (fsF := fun σ => [.ref (ad 1 0), .int (iI (σ 0 k 1)), .int (iI (σ 0 k 2)), .ref (ad 2 0), .int (iI (σ 0 k 4)), .ref (ad 3 0), .ref (ad 4 0), .int (iI (σ 0 k 7)), .ref (ad 5 0), .int (iI (σ 0 k 9)), .ref (ad 6 0), .ref (ad 7 0), .ref (ad 9 0), .ref (ad 10 0), .ref (ad 11 0)]) C hin tyX3 tyX3_ok nmX3 (ci := 3) rfl (by decide) hl rfl rfl (ty := .int) (by decide +kernel) rfl rfl (fun _ => rfl) (by show 7 < 15; decide) (by simp [su]) hk d kk
theorem J_get_3_8 (C : Cx p l e R s m args below meth c cy D ad A nL cc own Ts) {idx : Nat} {k : Int} (hin : ∀ w ∈ wsX30, w ∈ Ts) (hl : Cond.fieldLink own idx "JointVenture" "cashCalls" "[LJointVenture$CashCall;" ∈ Ts) (hk : 0 ≤ k ∧ k < cnt 0) (d : decode cc pc = .ok (.getfield idx, 3)) (kk : JW p l e R s m args below meth c cy D ad A nL cells slots Q σ (pc + 3) lv (.ref (ad 5 0) :: st)) : JW p l e R s m args below meth c cy D ad A nL cells slots Q σ pc lv (.ref (ad 0 k) :: st) := by
  intro H locs ls h1 h2 h3
  exact va_get C.1.1 C.1.2.1 C.1.2.2.2.2 hin C.1.2.2.2.1 C.2.2.2.1.1 (one_P h1 hk.1 hk.2 rfl) 0 rfl rfl 8 (by decide) (C.1.2.2.2.2 _ hl) (fun _ h => h) rfl d (kk H locs ls h1 h2 h3)
theorem J_get_3_9 (C : Cx p l e R s m args below meth c cy D ad A nL cc own Ts) {idx : Nat} {k : Int} (hin : ∀ w ∈ wsX30, w ∈ Ts) (hl : Cond.fieldLink own idx "JointVenture" "cashCallCount" "I" ∈ Ts) (hk : 0 ≤ k ∧ k < cnt 0) (d : decode cc pc = .ok (.getfield idx, 3)) (kk : JW p l e R s m args below meth c cy D ad A nL cells slots Q σ (pc + 3) lv (.int (iI (σ 0 k 9)) :: st)) : JW p l e R s m args below meth c cy D ad A nL cells slots Q σ pc lv (.ref (ad 0 k) :: st) := by
  intro H locs ls h1 h2 h3
  exact va_get C.1.1 C.1.2.1 C.1.2.2.2.2 hin C.1.2.2.2.1 C.2.2.2.1.1 (one_P h1 hk.1 hk.2 rfl) 0 rfl rfl 9 (by decide) (C.1.2.2.2.2 _ hl) (fun _ h => h) rfl d (kk H locs ls h1 h2 h3)
theorem J_put_3_9 (C : Cx p l e R s m args below meth c cy D ad A nL cc own Ts) {idx : Nat} {k v : Int} (hin : ∀ w ∈ wsX30, w ∈ Ts) (hl : Cond.fieldLink own idx "JointVenture" "cashCallCount" "I" ∈ Ts) (hk : 0 ≤ k ∧ k < cnt 0) (d : decode cc pc = .ok (.putfield idx, 3)) (kk : JW p l e R s m args below meth c cy D ad A nL cells slots Q (su σ 0 k 9 v) (pc + 3) lv st) : JW p l e R s m args below meth c cy D ad A nL cells slots Q σ pc lv (.int (iI v) :: .ref (ad 0 k) :: st) :=
  put_gen (fsF := fun σ => [.ref (ad 1 0), .int (iI (σ 0 k 1)), .int (iI (σ 0 k 2)), .ref (ad 2 0), .int (iI (σ 0 k 4)), .ref (ad 3 0), .ref (ad 4 0), .int (iI (σ 0 k 7)), .ref (ad 5 0), .int (iI (σ 0 k 9)), .ref (ad 6 0), .ref (ad 7 0), .ref (ad 9 0), .ref (ad 10 0), .ref (ad 11 0)]) C hin tyX3 tyX3_ok nmX3 (ci := 3) rfl (by decide) hl rfl rfl (ty := .int) (by decide +kernel) rfl rfl (fun _ => rfl) (by show 9 < 15; decide) (by simp [su]) hk d kk
theorem J_get_3_10 (C : Cx p l e R s m args below meth c cy D ad A nL cc own Ts) {idx : Nat} {k : Int} (hin : ∀ w ∈ wsX30, w ∈ Ts) (hl : Cond.fieldLink own idx "JointVenture" "owed" "[I" ∈ Ts) (hk : 0 ≤ k ∧ k < cnt 0) (d : decode cc pc = .ok (.getfield idx, 3)) (kk : JW p l e R s m args below meth c cy D ad A nL cells slots Q σ (pc + 3) lv (.ref (ad 6 0) :: st)) : JW p l e R s m args below meth c cy D ad A nL cells slots Q σ pc lv (.ref (ad 0 k) :: st) := by
  intro H locs ls h1 h2 h3
  exact va_get C.1.1 C.1.2.1 C.1.2.2.2.2 hin C.1.2.2.2.1 C.2.2.2.1.1 (one_P h1 hk.1 hk.2 rfl) 0 rfl rfl 10 (by decide) (C.1.2.2.2.2 _ hl) (fun _ h => h) rfl d (kk H locs ls h1 h2 h3)
theorem J_get_3_11 (C : Cx p l e R s m args below meth c cy D ad A nL cc own Ts) {idx : Nat} {k : Int} (hin : ∀ w ∈ wsX30, w ∈ Ts) (hl : Cond.fieldLink own idx "JointVenture" "division" "LJointVenture$Division;" ∈ Ts) (hk : 0 ≤ k ∧ k < cnt 0) (d : decode cc pc = .ok (.getfield idx, 3)) (kk : JW p l e R s m args below meth c cy D ad A nL cells slots Q σ (pc + 3) lv (.ref (ad 7 0) :: st)) : JW p l e R s m args below meth c cy D ad A nL cells slots Q σ pc lv (.ref (ad 0 k) :: st) := by
  intro H locs ls h1 h2 h3
  exact va_get C.1.1 C.1.2.1 C.1.2.2.2.2 hin C.1.2.2.2.1 C.2.2.2.1.1 (one_P h1 hk.1 hk.2 rfl) 0 rfl rfl 11 (by decide) (C.1.2.2.2.2 _ hl) (fun _ h => h) rfl d (kk H locs ls h1 h2 h3)
theorem J_get_3_12 (C : Cx p l e R s m args below meth c cy D ad A nL cc own Ts) {idx : Nat} {k : Int} (hin : ∀ w ∈ wsX30, w ∈ Ts) (hl : Cond.fieldLink own idx "JointVenture" "ownParts" "[I" ∈ Ts) (hk : 0 ≤ k ∧ k < cnt 0) (d : decode cc pc = .ok (.getfield idx, 3)) (kk : JW p l e R s m args below meth c cy D ad A nL cells slots Q σ (pc + 3) lv (.ref (ad 9 0) :: st)) : JW p l e R s m args below meth c cy D ad A nL cells slots Q σ pc lv (.ref (ad 0 k) :: st) := by
  intro H locs ls h1 h2 h3
  exact va_get C.1.1 C.1.2.1 C.1.2.2.2.2 hin C.1.2.2.2.1 C.2.2.2.1.1 (one_P h1 hk.1 hk.2 rfl) 0 rfl rfl 12 (by decide) (C.1.2.2.2.2 _ hl) (fun _ h => h) rfl d (kk H locs ls h1 h2 h3)
theorem J_get_3_13 (C : Cx p l e R s m args below meth c cy D ad A nL cc own Ts) {idx : Nat} {k : Int} (hin : ∀ w ∈ wsX30, w ∈ Ts) (hl : Cond.fieldLink own idx "JointVenture" "weights" "[I" ∈ Ts) (hk : 0 ≤ k ∧ k < cnt 0) (d : decode cc pc = .ok (.getfield idx, 3)) (kk : JW p l e R s m args below meth c cy D ad A nL cells slots Q σ (pc + 3) lv (.ref (ad 10 0) :: st)) : JW p l e R s m args below meth c cy D ad A nL cells slots Q σ pc lv (.ref (ad 0 k) :: st) := by
  intro H locs ls h1 h2 h3
  exact va_get C.1.1 C.1.2.1 C.1.2.2.2.2 hin C.1.2.2.2.1 C.2.2.2.1.1 (one_P h1 hk.1 hk.2 rfl) 0 rfl rfl 13 (by decide) (C.1.2.2.2.2 _ hl) (fun _ h => h) rfl d (kk H locs ls h1 h2 h3)
theorem J_get_3_14 (C : Cx p l e R s m args below meth c cy D ad A nL cc own Ts) {idx : Nat} {k : Int} (hin : ∀ w ∈ wsX30, w ∈ Ts) (hl : Cond.fieldLink own idx "JointVenture" "portions" "[I" ∈ Ts) (hk : 0 ≤ k ∧ k < cnt 0) (d : decode cc pc = .ok (.getfield idx, 3)) (kk : JW p l e R s m args below meth c cy D ad A nL cells slots Q σ (pc + 3) lv (.ref (ad 11 0) :: st)) : JW p l e R s m args below meth c cy D ad A nL cells slots Q σ pc lv (.ref (ad 0 k) :: st) := by
  intro H locs ls h1 h2 h3
  exact va_get C.1.1 C.1.2.1 C.1.2.2.2.2 hin C.1.2.2.2.1 C.2.2.2.1.1 (one_P h1 hk.1 hk.2 rfl) 0 rfl rfl 14 (by decide) (C.1.2.2.2.2 _ hl) (fun _ h => h) rfl d (kk H locs ls h1 h2 h3)
theorem J_get_1_0 (C : Cx p l e R s m args below meth c cy D ad A nL cc own Ts) {idx : Nat} {k : Int} (hin : ∀ w ∈ wsX10, w ∈ Ts) (hl : Cond.fieldLink own idx "JointVenture$Division" "remainders" "[J" ∈ Ts) (hk : 0 ≤ k ∧ k < cnt 7) (d : decode cc pc = .ok (.getfield idx, 3)) (kk : JW p l e R s m args below meth c cy D ad A nL cells slots Q σ (pc + 3) lv (.ref (ad 8 0) :: st)) : JW p l e R s m args below meth c cy D ad A nL cells slots Q σ pc lv (.ref (ad 7 k) :: st) := by
  intro H locs ls h1 h2 h3
  exact va_get C.1.1 C.1.2.1 C.1.2.2.2.2 hin C.1.2.2.2.1 C.2.2.2.1.1 (one_P h1 hk.1 hk.2 rfl) 0 rfl rfl 0 (by decide) (C.1.2.2.2.2 _ hl) (fun _ h => h) rfl d (kk H locs ls h1 h2 h3)
theorem J_get_2_0 (C : Cx p l e R s m args below meth c cy D ad A nL cc own Ts) {idx : Nat} {k : Int} (hin : ∀ w ∈ wsX20, w ∈ Ts) (hl : Cond.fieldLink own idx "JointVenture$Well" "penalty" "I" ∈ Ts) (hk : 0 ≤ k ∧ k < cnt 12) (d : decode cc pc = .ok (.getfield idx, 3)) (kk : JW p l e R s m args below meth c cy D ad A nL cells slots Q σ (pc + 3) lv (.int (iI (σ 12 k 0)) :: st)) : JW p l e R s m args below meth c cy D ad A nL cells slots Q σ pc lv (.ref (ad 12 k) :: st) := by
  intro H locs ls h1 h2 h3
  exact va_get C.1.1 C.1.2.1 C.1.2.2.2.2 hin C.1.2.2.2.1 C.2.2.2.1.1 (one_P h1 hk.1 hk.2 rfl) 0 rfl rfl 0 (by decide) (C.1.2.2.2.2 _ hl) (fun _ h => h) rfl d (kk H locs ls h1 h2 h3)
theorem J_put_2_0 (C : Cx p l e R s m args below meth c cy D ad A nL cc own Ts) {idx : Nat} {k v : Int} (hin : ∀ w ∈ wsX20, w ∈ Ts) (hl : Cond.fieldLink own idx "JointVenture$Well" "penalty" "I" ∈ Ts) (hk : 0 ≤ k ∧ k < cnt 12) (d : decode cc pc = .ok (.putfield idx, 3)) (kk : JW p l e R s m args below meth c cy D ad A nL cells slots Q (su σ 12 k 0 v) (pc + 3) lv st) : JW p l e R s m args below meth c cy D ad A nL cells slots Q σ pc lv (.int (iI v) :: .ref (ad 12 k) :: st) :=
  put_gen (fsF := fun σ => [.int (iI (σ 12 k 0)), .int (iI (σ 12 k 1)), .ref (ad 13 k), .ref (ad 14 k), .ref (ad 15 k), .ref (ad 16 k), .ref (ad 17 k), .ref (ad 18 k)]) C hin tyX2 tyX2_ok nmX2 (ci := 2) rfl (by decide) hl rfl rfl (ty := .int) (by decide +kernel) rfl rfl (fun _ => rfl) (by show 0 < 8; decide) (by simp [su]) hk d kk
theorem J_get_2_1 (C : Cx p l e R s m args below meth c cy D ad A nL cc own Ts) {idx : Nat} {k : Int} (hin : ∀ w ∈ wsX20, w ∈ Ts) (hl : Cond.fieldLink own idx "JointVenture$Well" "hadVoucher" "Z" ∈ Ts) (hk : 0 ≤ k ∧ k < cnt 12) (d : decode cc pc = .ok (.getfield idx, 3)) (kk : JW p l e R s m args below meth c cy D ad A nL cells slots Q σ (pc + 3) lv (.int (iI (σ 12 k 1)) :: st)) : JW p l e R s m args below meth c cy D ad A nL cells slots Q σ pc lv (.ref (ad 12 k) :: st) := by
  intro H locs ls h1 h2 h3
  exact va_get C.1.1 C.1.2.1 C.1.2.2.2.2 hin C.1.2.2.2.1 C.2.2.2.1.1 (one_P h1 hk.1 hk.2 rfl) 0 rfl rfl 1 (by decide) (C.1.2.2.2.2 _ hl) (fun _ h => h) rfl d (kk H locs ls h1 h2 h3)
theorem J_put_2_1 (C : Cx p l e R s m args below meth c cy D ad A nL cc own Ts) {idx : Nat} {k v : Int} (hb : v = 0 ∨ v = 1) (hin : ∀ w ∈ wsX20, w ∈ Ts) (hl : Cond.fieldLink own idx "JointVenture$Well" "hadVoucher" "Z" ∈ Ts) (hk : 0 ≤ k ∧ k < cnt 12) (d : decode cc pc = .ok (.putfield idx, 3)) (kk : JW p l e R s m args below meth c cy D ad A nL cells slots Q (su σ 12 k 1 v) (pc + 3) lv st) : JW p l e R s m args below meth c cy D ad A nL cells slots Q σ pc lv (.int (iI v) :: .ref (ad 12 k) :: st) :=
  put_gen (fsF := fun σ => [.int (iI (σ 12 k 0)), .int (iI (σ 12 k 1)), .ref (ad 13 k), .ref (ad 14 k), .ref (ad 15 k), .ref (ad 16 k), .ref (ad 17 k), .ref (ad 18 k)]) C hin tyX2 tyX2_ok nmX2 (ci := 2) rfl (by decide) hl rfl rfl (ty := .boolean) (by decide +kernel) (by rcases hb with rfl | rfl <;> rfl) (by rcases hb with rfl | rfl <;> rfl) (fun _ => rfl) (by show 1 < 8; decide) (by simp [su]) hk d kk
theorem J_get_2_2 (C : Cx p l e R s m args below meth c cy D ad A nL cc own Ts) {idx : Nat} {k : Int} (hin : ∀ w ∈ wsX20, w ∈ Ts) (hl : Cond.fieldLink own idx "JointVenture$Well" "electedOut" "[Z" ∈ Ts) (hk : 0 ≤ k ∧ k < cnt 12) (d : decode cc pc = .ok (.getfield idx, 3)) (kk : JW p l e R s m args below meth c cy D ad A nL cells slots Q σ (pc + 3) lv (.ref (ad 13 k) :: st)) : JW p l e R s m args below meth c cy D ad A nL cells slots Q σ pc lv (.ref (ad 12 k) :: st) := by
  intro H locs ls h1 h2 h3
  exact va_get C.1.1 C.1.2.1 C.1.2.2.2.2 hin C.1.2.2.2.1 C.2.2.2.1.1 (one_P h1 hk.1 hk.2 rfl) 0 rfl rfl 2 (by decide) (C.1.2.2.2.2 _ hl) (fun _ h => h) rfl d (kk H locs ls h1 h2 h3)
theorem J_get_2_3 (C : Cx p l e R s m args below meth c cy D ad A nL cc own Ts) {idx : Nat} {k : Int} (hin : ∀ w ∈ wsX20, w ∈ Ts) (hl : Cond.fieldLink own idx "JointVenture$Well" "out" "[Z" ∈ Ts) (hk : 0 ≤ k ∧ k < cnt 12) (d : decode cc pc = .ok (.getfield idx, 3)) (kk : JW p l e R s m args below meth c cy D ad A nL cells slots Q σ (pc + 3) lv (.ref (ad 14 k) :: st)) : JW p l e R s m args below meth c cy D ad A nL cells slots Q σ pc lv (.ref (ad 12 k) :: st) := by
  intro H locs ls h1 h2 h3
  exact va_get C.1.1 C.1.2.1 C.1.2.2.2.2 hin C.1.2.2.2.1 C.2.2.2.1.1 (one_P h1 hk.1 hk.2 rfl) 0 rfl rfl 3 (by decide) (C.1.2.2.2.2 _ hl) (fun _ h => h) rfl d (kk H locs ls h1 h2 h3)
theorem J_get_2_4 (C : Cx p l e R s m args below meth c cy D ad A nL cc own Ts) {idx : Nat} {k : Int} (hin : ∀ w ∈ wsX20, w ∈ Ts) (hl : Cond.fieldLink own idx "JointVenture$Well" "toEarn" "[J" ∈ Ts) (hk : 0 ≤ k ∧ k < cnt 12) (d : decode cc pc = .ok (.getfield idx, 3)) (kk : JW p l e R s m args below meth c cy D ad A nL cells slots Q σ (pc + 3) lv (.ref (ad 15 k) :: st)) : JW p l e R s m args below meth c cy D ad A nL cells slots Q σ pc lv (.ref (ad 12 k) :: st) := by
  intro H locs ls h1 h2 h3
  exact va_get C.1.1 C.1.2.1 C.1.2.2.2.2 hin C.1.2.2.2.1 C.2.2.2.1.1 (one_P h1 hk.1 hk.2 rfl) 0 rfl rfl 4 (by decide) (C.1.2.2.2.2 _ hl) (fun _ h => h) rfl d (kk H locs ls h1 h2 h3)
theorem J_get_2_5 (C : Cx p l e R s m args below meth c cy D ad A nL cc own Ts) {idx : Nat} {k : Int} (hin : ∀ w ∈ wsX20, w ∈ Ts) (hl : Cond.fieldLink own idx "JointVenture$Well" "backAt" "[I" ∈ Ts) (hk : 0 ≤ k ∧ k < cnt 12) (d : decode cc pc = .ok (.getfield idx, 3)) (kk : JW p l e R s m args below meth c cy D ad A nL cells slots Q σ (pc + 3) lv (.ref (ad 16 k) :: st)) : JW p l e R s m args below meth c cy D ad A nL cells slots Q σ pc lv (.ref (ad 12 k) :: st) := by
  intro H locs ls h1 h2 h3
  exact va_get C.1.1 C.1.2.1 C.1.2.2.2.2 hin C.1.2.2.2.1 C.2.2.2.1.1 (one_P h1 hk.1 hk.2 rfl) 0 rfl rfl 5 (by decide) (C.1.2.2.2.2 _ hl) (fun _ h => h) rfl d (kk H locs ls h1 h2 h3)
theorem J_get_2_6 (C : Cx p l e R s m args below meth c cy D ad A nL cc own Ts) {idx : Nat} {k : Int} (hin : ∀ w ∈ wsX20, w ∈ Ts) (hl : Cond.fieldLink own idx "JointVenture$Well" "charged" "[I" ∈ Ts) (hk : 0 ≤ k ∧ k < cnt 12) (d : decode cc pc = .ok (.getfield idx, 3)) (kk : JW p l e R s m args below meth c cy D ad A nL cells slots Q σ (pc + 3) lv (.ref (ad 17 k) :: st)) : JW p l e R s m args below meth c cy D ad A nL cells slots Q σ pc lv (.ref (ad 12 k) :: st) := by
  intro H locs ls h1 h2 h3
  exact va_get C.1.1 C.1.2.1 C.1.2.2.2.2 hin C.1.2.2.2.1 C.2.2.2.1.1 (one_P h1 hk.1 hk.2 rfl) 0 rfl rfl 6 (by decide) (C.1.2.2.2.2 _ hl) (fun _ h => h) rfl d (kk H locs ls h1 h2 h3)
theorem J_get_2_7 (C : Cx p l e R s m args below meth c cy D ad A nL cc own Ts) {idx : Nat} {k : Int} (hin : ∀ w ∈ wsX20, w ∈ Ts) (hl : Cond.fieldLink own idx "JointVenture$Well" "credited" "[I" ∈ Ts) (hk : 0 ≤ k ∧ k < cnt 12) (d : decode cc pc = .ok (.getfield idx, 3)) (kk : JW p l e R s m args below meth c cy D ad A nL cells slots Q σ (pc + 3) lv (.ref (ad 18 k) :: st)) : JW p l e R s m args below meth c cy D ad A nL cells slots Q σ pc lv (.ref (ad 12 k) :: st) := by
  intro H locs ls h1 h2 h3
  exact va_get C.1.1 C.1.2.1 C.1.2.2.2.2 hin C.1.2.2.2.1 C.2.2.2.1.1 (one_P h1 hk.1 hk.2 rfl) 0 rfl rfl 7 (by decide) (C.1.2.2.2.2 _ hl) (fun _ h => h) rfl d (kk H locs ls h1 h2 h3)
theorem J_get_0_0 (C : Cx p l e R s m args below meth c cy D ad A nL cc own Ts) {idx : Nat} {k : Int} (hin : ∀ w ∈ wsX00, w ∈ Ts) (hl : Cond.fieldLink own idx "JointVenture$CashCall" "asked" "[I" ∈ Ts) (hk : 0 ≤ k ∧ k < cnt 19) (d : decode cc pc = .ok (.getfield idx, 3)) (kk : JW p l e R s m args below meth c cy D ad A nL cells slots Q σ (pc + 3) lv (.ref (ad 20 k) :: st)) : JW p l e R s m args below meth c cy D ad A nL cells slots Q σ pc lv (.ref (ad 19 k) :: st) := by
  intro H locs ls h1 h2 h3
  exact va_get C.1.1 C.1.2.1 C.1.2.2.2.2 hin C.1.2.2.2.1 C.2.2.2.1.1 (one_P h1 hk.1 hk.2 rfl) 0 rfl rfl 0 (by decide) (C.1.2.2.2.2 _ hl) (fun _ h => h) rfl d (kk H locs ls h1 h2 h3)
theorem J_get_0_1 (C : Cx p l e R s m args below meth c cy D ad A nL cc own Ts) {idx : Nat} {k : Int} (hin : ∀ w ∈ wsX00, w ∈ Ts) (hl : Cond.fieldLink own idx "JointVenture$CashCall" "paid" "[I" ∈ Ts) (hk : 0 ≤ k ∧ k < cnt 19) (d : decode cc pc = .ok (.getfield idx, 3)) (kk : JW p l e R s m args below meth c cy D ad A nL cells slots Q σ (pc + 3) lv (.ref (ad 21 k) :: st)) : JW p l e R s m args below meth c cy D ad A nL cells slots Q σ pc lv (.ref (ad 19 k) :: st) := by
  intro H locs ls h1 h2 h3
  exact va_get C.1.1 C.1.2.1 C.1.2.2.2.2 hin C.1.2.2.2.1 C.2.2.2.1.1 (one_P h1 hk.1 hk.2 rfl) 0 rfl rfl 1 (by decide) (C.1.2.2.2.2 _ hl) (fun _ h => h) rfl d (kk H locs ls h1 h2 h3)
theorem J_get_4_0 (C : Cx p l e R s m args below meth c cy D ad A nL cc own Ts) {idx : Nat} {k : Int} (hin : ∀ w ∈ wsX40, w ∈ Ts) (hl : Cond.fieldLink own idx "JointVentureModel" "shares" "[I" ∈ Ts) (hk : 0 ≤ k ∧ k < cnt 22) (d : decode cc pc = .ok (.getfield idx, 3)) (kk : JW p l e R s m args below meth c cy D ad A nL cells slots Q σ (pc + 3) lv (.ref (ad 23 0) :: st)) : JW p l e R s m args below meth c cy D ad A nL cells slots Q σ pc lv (.ref (ad 22 k) :: st) := by
  intro H locs ls h1 h2 h3
  exact va_get C.1.1 C.1.2.1 C.1.2.2.2.2 hin C.1.2.2.2.1 C.2.2.2.1.1 (one_P h1 hk.1 hk.2 rfl) 0 rfl rfl 0 (by decide) (C.1.2.2.2.2 _ hl) (fun _ h => h) rfl d (kk H locs ls h1 h2 h3)
theorem J_get_4_1 (C : Cx p l e R s m args below meth c cy D ad A nL cc own Ts) {idx : Nat} {k : Int} (hin : ∀ w ∈ wsX40, w ∈ Ts) (hl : Cond.fieldLink own idx "JointVentureModel" "penalty" "I" ∈ Ts) (hk : 0 ≤ k ∧ k < cnt 22) (d : decode cc pc = .ok (.getfield idx, 3)) (kk : JW p l e R s m args below meth c cy D ad A nL cells slots Q σ (pc + 3) lv (.int (iI (σ 22 k 1)) :: st)) : JW p l e R s m args below meth c cy D ad A nL cells slots Q σ pc lv (.ref (ad 22 k) :: st) := by
  intro H locs ls h1 h2 h3
  exact va_get C.1.1 C.1.2.1 C.1.2.2.2.2 hin C.1.2.2.2.1 C.2.2.2.1.1 (one_P h1 hk.1 hk.2 rfl) 0 rfl rfl 1 (by decide) (C.1.2.2.2.2 _ hl) (fun _ h => h) rfl d (kk H locs ls h1 h2 h3)
theorem J_put_4_1 (C : Cx p l e R s m args below meth c cy D ad A nL cc own Ts) {idx : Nat} {k v : Int} (hin : ∀ w ∈ wsX40, w ∈ Ts) (hl : Cond.fieldLink own idx "JointVentureModel" "penalty" "I" ∈ Ts) (hk : 0 ≤ k ∧ k < cnt 22) (d : decode cc pc = .ok (.putfield idx, 3)) (kk : JW p l e R s m args below meth c cy D ad A nL cells slots Q (su σ 22 k 1 v) (pc + 3) lv st) : JW p l e R s m args below meth c cy D ad A nL cells slots Q σ pc lv (.int (iI v) :: .ref (ad 22 k) :: st) :=
  put_gen (fsF := fun σ => [.ref (ad 23 0), .int (iI (σ 22 k 1)), .int (iI (σ 22 k 2)), .ref (ad 24 0), .ref (ad 25 0), .ref (ad 26 0), .int (iI (σ 22 k 6)), .ref (ad 27 0), .ref (ad 28 0), .ref (ad 29 0), .int (iI (σ 22 k 10)), .ref (ad 30 0), .ref (ad 31 0), .int (iI (σ 22 k 13)), .ref (ad 32 0), .ref (ad 33 0), .ref (ad 34 0), .ref (ad 35 0), .ref (ad 36 0), .ref (ad 37 0), .ref (ad 38 0), .ref (ad 39 0), .ref (ad 40 0), .ref (ad 41 0), .int (iI (σ 22 k 24))]) C hin tyX4 tyX4_ok nmX4 (ci := 4) rfl (by decide) hl rfl rfl (ty := .int) (by decide +kernel) rfl rfl (fun _ => rfl) (by show 1 < 25; decide) (by simp [su]) hk d kk
theorem J_get_4_2 (C : Cx p l e R s m args below meth c cy D ad A nL cc own Ts) {idx : Nat} {k : Int} (hin : ∀ w ∈ wsX40, w ∈ Ts) (hl : Cond.fieldLink own idx "JointVentureModel" "overhead" "I" ∈ Ts) (hk : 0 ≤ k ∧ k < cnt 22) (d : decode cc pc = .ok (.getfield idx, 3)) (kk : JW p l e R s m args below meth c cy D ad A nL cells slots Q σ (pc + 3) lv (.int (iI (σ 22 k 2)) :: st)) : JW p l e R s m args below meth c cy D ad A nL cells slots Q σ pc lv (.ref (ad 22 k) :: st) := by
  intro H locs ls h1 h2 h3
  exact va_get C.1.1 C.1.2.1 C.1.2.2.2.2 hin C.1.2.2.2.1 C.2.2.2.1.1 (one_P h1 hk.1 hk.2 rfl) 0 rfl rfl 2 (by decide) (C.1.2.2.2.2 _ hl) (fun _ h => h) rfl d (kk H locs ls h1 h2 h3)
theorem J_put_4_2 (C : Cx p l e R s m args below meth c cy D ad A nL cc own Ts) {idx : Nat} {k v : Int} (hin : ∀ w ∈ wsX40, w ∈ Ts) (hl : Cond.fieldLink own idx "JointVentureModel" "overhead" "I" ∈ Ts) (hk : 0 ≤ k ∧ k < cnt 22) (d : decode cc pc = .ok (.putfield idx, 3)) (kk : JW p l e R s m args below meth c cy D ad A nL cells slots Q (su σ 22 k 2 v) (pc + 3) lv st) : JW p l e R s m args below meth c cy D ad A nL cells slots Q σ pc lv (.int (iI v) :: .ref (ad 22 k) :: st) :=
  put_gen (fsF := fun σ => [.ref (ad 23 0), .int (iI (σ 22 k 1)), .int (iI (σ 22 k 2)), .ref (ad 24 0), .ref (ad 25 0), .ref (ad 26 0), .int (iI (σ 22 k 6)), .ref (ad 27 0), .ref (ad 28 0), .ref (ad 29 0), .int (iI (σ 22 k 10)), .ref (ad 30 0), .ref (ad 31 0), .int (iI (σ 22 k 13)), .ref (ad 32 0), .ref (ad 33 0), .ref (ad 34 0), .ref (ad 35 0), .ref (ad 36 0), .ref (ad 37 0), .ref (ad 38 0), .ref (ad 39 0), .ref (ad 40 0), .ref (ad 41 0), .int (iI (σ 22 k 24))]) C hin tyX4 tyX4_ok nmX4 (ci := 4) rfl (by decide) hl rfl rfl (ty := .int) (by decide +kernel) rfl rfl (fun _ => rfl) (by show 2 < 25; decide) (by simp [su]) hk d kk
theorem J_get_4_3 (C : Cx p l e R s m args below meth c cy D ad A nL cc own Ts) {idx : Nat} {k : Int} (hin : ∀ w ∈ wsX40, w ∈ Ts) (hl : Cond.fieldLink own idx "JointVentureModel" "penalties" "[I" ∈ Ts) (hk : 0 ≤ k ∧ k < cnt 22) (d : decode cc pc = .ok (.getfield idx, 3)) (kk : JW p l e R s m args below meth c cy D ad A nL cells slots Q σ (pc + 3) lv (.ref (ad 24 0) :: st)) : JW p l e R s m args below meth c cy D ad A nL cells slots Q σ pc lv (.ref (ad 22 k) :: st) := by
  intro H locs ls h1 h2 h3
  exact va_get C.1.1 C.1.2.1 C.1.2.2.2.2 hin C.1.2.2.2.1 C.2.2.2.1.1 (one_P h1 hk.1 hk.2 rfl) 0 rfl rfl 3 (by decide) (C.1.2.2.2.2 _ hl) (fun _ h => h) rfl d (kk H locs ls h1 h2 h3)
theorem J_get_4_4 (C : Cx p l e R s m args below meth c cy D ad A nL cc own Ts) {idx : Nat} {k : Int} (hin : ∀ w ∈ wsX40, w ∈ Ts) (hl : Cond.fieldLink own idx "JointVentureModel" "touched" "[Z" ∈ Ts) (hk : 0 ≤ k ∧ k < cnt 22) (d : decode cc pc = .ok (.getfield idx, 3)) (kk : JW p l e R s m args below meth c cy D ad A nL cells slots Q σ (pc + 3) lv (.ref (ad 25 0) :: st)) : JW p l e R s m args below meth c cy D ad A nL cells slots Q σ pc lv (.ref (ad 22 k) :: st) := by
  intro H locs ls h1 h2 h3
  exact va_get C.1.1 C.1.2.1 C.1.2.2.2.2 hin C.1.2.2.2.1 C.2.2.2.1.1 (one_P h1 hk.1 hk.2 rfl) 0 rfl rfl 4 (by decide) (C.1.2.2.2.2 _ hl) (fun _ h => h) rfl d (kk H locs ls h1 h2 h3)
theorem J_get_4_5 (C : Cx p l e R s m args below meth c cy D ad A nL cc own Ts) {idx : Nat} {k : Int} (hin : ∀ w ∈ wsX40, w ∈ Ts) (hl : Cond.fieldLink own idx "JointVentureModel" "outs" "[Z" ∈ Ts) (hk : 0 ≤ k ∧ k < cnt 22) (d : decode cc pc = .ok (.getfield idx, 3)) (kk : JW p l e R s m args below meth c cy D ad A nL cells slots Q σ (pc + 3) lv (.ref (ad 26 0) :: st)) : JW p l e R s m args below meth c cy D ad A nL cells slots Q σ pc lv (.ref (ad 22 k) :: st) := by
  intro H locs ls h1 h2 h3
  exact va_get C.1.1 C.1.2.1 C.1.2.2.2.2 hin C.1.2.2.2.1 C.2.2.2.1.1 (one_P h1 hk.1 hk.2 rfl) 0 rfl rfl 5 (by decide) (C.1.2.2.2.2 _ hl) (fun _ h => h) rfl d (kk H locs ls h1 h2 h3)
theorem J_get_4_6 (C : Cx p l e R s m args below meth c cy D ad A nL cc own Ts) {idx : Nat} {k : Int} (hin : ∀ w ∈ wsX40, w ∈ Ts) (hl : Cond.fieldLink own idx "JointVentureModel" "wells" "I" ∈ Ts) (hk : 0 ≤ k ∧ k < cnt 22) (d : decode cc pc = .ok (.getfield idx, 3)) (kk : JW p l e R s m args below meth c cy D ad A nL cells slots Q σ (pc + 3) lv (.int (iI (σ 22 k 6)) :: st)) : JW p l e R s m args below meth c cy D ad A nL cells slots Q σ pc lv (.ref (ad 22 k) :: st) := by
  intro H locs ls h1 h2 h3
  exact va_get C.1.1 C.1.2.1 C.1.2.2.2.2 hin C.1.2.2.2.1 C.2.2.2.1.1 (one_P h1 hk.1 hk.2 rfl) 0 rfl rfl 6 (by decide) (C.1.2.2.2.2 _ hl) (fun _ h => h) rfl d (kk H locs ls h1 h2 h3)
theorem J_put_4_6 (C : Cx p l e R s m args below meth c cy D ad A nL cc own Ts) {idx : Nat} {k v : Int} (hin : ∀ w ∈ wsX40, w ∈ Ts) (hl : Cond.fieldLink own idx "JointVentureModel" "wells" "I" ∈ Ts) (hk : 0 ≤ k ∧ k < cnt 22) (d : decode cc pc = .ok (.putfield idx, 3)) (kk : JW p l e R s m args below meth c cy D ad A nL cells slots Q (su σ 22 k 6 v) (pc + 3) lv st) : JW p l e R s m args below meth c cy D ad A nL cells slots Q σ pc lv (.int (iI v) :: .ref (ad 22 k) :: st) :=
  put_gen (fsF := fun σ => [.ref (ad 23 0), .int (iI (σ 22 k 1)), .int (iI (σ 22 k 2)), .ref (ad 24 0), .ref (ad 25 0), .ref (ad 26 0), .int (iI (σ 22 k 6)), .ref (ad 27 0), .ref (ad 28 0), .ref (ad 29 0), .int (iI (σ 22 k 10)), .ref (ad 30 0), .ref (ad 31 0), .int (iI (σ 22 k 13)), .ref (ad 32 0), .ref (ad 33 0), .ref (ad 34 0), .ref (ad 35 0), .ref (ad 36 0), .ref (ad 37 0), .ref (ad 38 0), .ref (ad 39 0), .ref (ad 40 0), .ref (ad 41 0), .int (iI (σ 22 k 24))]) C hin tyX4 tyX4_ok nmX4 (ci := 4) rfl (by decide) hl rfl rfl (ty := .int) (by decide +kernel) rfl rfl (fun _ => rfl) (by show 6 < 25; decide) (by simp [su]) hk d kk
theorem J_get_4_7 (C : Cx p l e R s m args below meth c cy D ad A nL cc own Ts) {idx : Nat} {k : Int} (hin : ∀ w ∈ wsX40, w ∈ Ts) (hl : Cond.fieldLink own idx "JointVentureModel" "sites" "[I" ∈ Ts) (hk : 0 ≤ k ∧ k < cnt 22) (d : decode cc pc = .ok (.getfield idx, 3)) (kk : JW p l e R s m args below meth c cy D ad A nL cells slots Q σ (pc + 3) lv (.ref (ad 27 0) :: st)) : JW p l e R s m args below meth c cy D ad A nL cells slots Q σ pc lv (.ref (ad 22 k) :: st) := by
  intro H locs ls h1 h2 h3
  exact va_get C.1.1 C.1.2.1 C.1.2.2.2.2 hin C.1.2.2.2.1 C.2.2.2.1.1 (one_P h1 hk.1 hk.2 rfl) 0 rfl rfl 7 (by decide) (C.1.2.2.2.2 _ hl) (fun _ h => h) rfl d (kk H locs ls h1 h2 h3)
theorem J_get_4_8 (C : Cx p l e R s m args below meth c cy D ad A nL cc own Ts) {idx : Nat} {k : Int} (hin : ∀ w ∈ wsX40, w ∈ Ts) (hl : Cond.fieldLink own idx "JointVentureModel" "amounts" "[I" ∈ Ts) (hk : 0 ≤ k ∧ k < cnt 22) (d : decode cc pc = .ok (.getfield idx, 3)) (kk : JW p l e R s m args below meth c cy D ad A nL cells slots Q σ (pc + 3) lv (.ref (ad 28 0) :: st)) : JW p l e R s m args below meth c cy D ad A nL cells slots Q σ pc lv (.ref (ad 22 k) :: st) := by
  intro H locs ls h1 h2 h3
  exact va_get C.1.1 C.1.2.1 C.1.2.2.2.2 hin C.1.2.2.2.1 C.2.2.2.1.1 (one_P h1 hk.1 hk.2 rfl) 0 rfl rfl 8 (by decide) (C.1.2.2.2.2 _ hl) (fun _ h => h) rfl d (kk H locs ls h1 h2 h3)
theorem J_get_4_9 (C : Cx p l e R s m args below meth c cy D ad A nL cc own Ts) {idx : Nat} {k : Int} (hin : ∀ w ∈ wsX40, w ∈ Ts) (hl : Cond.fieldLink own idx "JointVentureModel" "incomes" "[Z" ∈ Ts) (hk : 0 ≤ k ∧ k < cnt 22) (d : decode cc pc = .ok (.getfield idx, 3)) (kk : JW p l e R s m args below meth c cy D ad A nL cells slots Q σ (pc + 3) lv (.ref (ad 29 0) :: st)) : JW p l e R s m args below meth c cy D ad A nL cells slots Q σ pc lv (.ref (ad 22 k) :: st) := by
  intro H locs ls h1 h2 h3
  exact va_get C.1.1 C.1.2.1 C.1.2.2.2.2 hin C.1.2.2.2.1 C.2.2.2.1.1 (one_P h1 hk.1 hk.2 rfl) 0 rfl rfl 9 (by decide) (C.1.2.2.2.2 _ hl) (fun _ h => h) rfl d (kk H locs ls h1 h2 h3)
theorem J_get_4_10 (C : Cx p l e R s m args below meth c cy D ad A nL cc own Ts) {idx : Nat} {k : Int} (hin : ∀ w ∈ wsX40, w ∈ Ts) (hl : Cond.fieldLink own idx "JointVentureModel" "vouchers" "I" ∈ Ts) (hk : 0 ≤ k ∧ k < cnt 22) (d : decode cc pc = .ok (.getfield idx, 3)) (kk : JW p l e R s m args below meth c cy D ad A nL cells slots Q σ (pc + 3) lv (.int (iI (σ 22 k 10)) :: st)) : JW p l e R s m args below meth c cy D ad A nL cells slots Q σ pc lv (.ref (ad 22 k) :: st) := by
  intro H locs ls h1 h2 h3
  exact va_get C.1.1 C.1.2.1 C.1.2.2.2.2 hin C.1.2.2.2.1 C.2.2.2.1.1 (one_P h1 hk.1 hk.2 rfl) 0 rfl rfl 10 (by decide) (C.1.2.2.2.2 _ hl) (fun _ h => h) rfl d (kk H locs ls h1 h2 h3)
theorem J_put_4_10 (C : Cx p l e R s m args below meth c cy D ad A nL cc own Ts) {idx : Nat} {k v : Int} (hin : ∀ w ∈ wsX40, w ∈ Ts) (hl : Cond.fieldLink own idx "JointVentureModel" "vouchers" "I" ∈ Ts) (hk : 0 ≤ k ∧ k < cnt 22) (d : decode cc pc = .ok (.putfield idx, 3)) (kk : JW p l e R s m args below meth c cy D ad A nL cells slots Q (su σ 22 k 10 v) (pc + 3) lv st) : JW p l e R s m args below meth c cy D ad A nL cells slots Q σ pc lv (.int (iI v) :: .ref (ad 22 k) :: st) :=
  put_gen (fsF := fun σ => [.ref (ad 23 0), .int (iI (σ 22 k 1)), .int (iI (σ 22 k 2)), .ref (ad 24 0), .ref (ad 25 0), .ref (ad 26 0), .int (iI (σ 22 k 6)), .ref (ad 27 0), .ref (ad 28 0), .ref (ad 29 0), .int (iI (σ 22 k 10)), .ref (ad 30 0), .ref (ad 31 0), .int (iI (σ 22 k 13)), .ref (ad 32 0), .ref (ad 33 0), .ref (ad 34 0), .ref (ad 35 0), .ref (ad 36 0), .ref (ad 37 0), .ref (ad 38 0), .ref (ad 39 0), .ref (ad 40 0), .ref (ad 41 0), .int (iI (σ 22 k 24))]) C hin tyX4 tyX4_ok nmX4 (ci := 4) rfl (by decide) hl rfl rfl (ty := .int) (by decide +kernel) rfl rfl (fun _ => rfl) (by show 10 < 25; decide) (by simp [su]) hk d kk
theorem J_get_4_11 (C : Cx p l e R s m args below meth c cy D ad A nL cc own Ts) {idx : Nat} {k : Int} (hin : ∀ w ∈ wsX40, w ∈ Ts) (hl : Cond.fieldLink own idx "JointVentureModel" "asks" "[I" ∈ Ts) (hk : 0 ≤ k ∧ k < cnt 22) (d : decode cc pc = .ok (.getfield idx, 3)) (kk : JW p l e R s m args below meth c cy D ad A nL cells slots Q σ (pc + 3) lv (.ref (ad 30 0) :: st)) : JW p l e R s m args below meth c cy D ad A nL cells slots Q σ pc lv (.ref (ad 22 k) :: st) := by
  intro H locs ls h1 h2 h3
  exact va_get C.1.1 C.1.2.1 C.1.2.2.2.2 hin C.1.2.2.2.1 C.2.2.2.1.1 (one_P h1 hk.1 hk.2 rfl) 0 rfl rfl 11 (by decide) (C.1.2.2.2.2 _ hl) (fun _ h => h) rfl d (kk H locs ls h1 h2 h3)
theorem J_get_4_12 (C : Cx p l e R s m args below meth c cy D ad A nL cc own Ts) {idx : Nat} {k : Int} (hin : ∀ w ∈ wsX40, w ∈ Ts) (hl : Cond.fieldLink own idx "JointVentureModel" "pays" "[I" ∈ Ts) (hk : 0 ≤ k ∧ k < cnt 22) (d : decode cc pc = .ok (.getfield idx, 3)) (kk : JW p l e R s m args below meth c cy D ad A nL cells slots Q σ (pc + 3) lv (.ref (ad 31 0) :: st)) : JW p l e R s m args below meth c cy D ad A nL cells slots Q σ pc lv (.ref (ad 22 k) :: st) := by
  intro H locs ls h1 h2 h3
  exact va_get C.1.1 C.1.2.1 C.1.2.2.2.2 hin C.1.2.2.2.1 C.2.2.2.1.1 (one_P h1 hk.1 hk.2 rfl) 0 rfl rfl 12 (by decide) (C.1.2.2.2.2 _ hl) (fun _ h => h) rfl d (kk H locs ls h1 h2 h3)
theorem J_get_4_13 (C : Cx p l e R s m args below meth c cy D ad A nL cc own Ts) {idx : Nat} {k : Int} (hin : ∀ w ∈ wsX40, w ∈ Ts) (hl : Cond.fieldLink own idx "JointVentureModel" "calls" "I" ∈ Ts) (hk : 0 ≤ k ∧ k < cnt 22) (d : decode cc pc = .ok (.getfield idx, 3)) (kk : JW p l e R s m args below meth c cy D ad A nL cells slots Q σ (pc + 3) lv (.int (iI (σ 22 k 13)) :: st)) : JW p l e R s m args below meth c cy D ad A nL cells slots Q σ pc lv (.ref (ad 22 k) :: st) := by
  intro H locs ls h1 h2 h3
  exact va_get C.1.1 C.1.2.1 C.1.2.2.2.2 hin C.1.2.2.2.1 C.2.2.2.1.1 (one_P h1 hk.1 hk.2 rfl) 0 rfl rfl 13 (by decide) (C.1.2.2.2.2 _ hl) (fun _ h => h) rfl d (kk H locs ls h1 h2 h3)
theorem J_put_4_13 (C : Cx p l e R s m args below meth c cy D ad A nL cc own Ts) {idx : Nat} {k v : Int} (hin : ∀ w ∈ wsX40, w ∈ Ts) (hl : Cond.fieldLink own idx "JointVentureModel" "calls" "I" ∈ Ts) (hk : 0 ≤ k ∧ k < cnt 22) (d : decode cc pc = .ok (.putfield idx, 3)) (kk : JW p l e R s m args below meth c cy D ad A nL cells slots Q (su σ 22 k 13 v) (pc + 3) lv st) : JW p l e R s m args below meth c cy D ad A nL cells slots Q σ pc lv (.int (iI v) :: .ref (ad 22 k) :: st) :=
  put_gen (fsF := fun σ => [.ref (ad 23 0), .int (iI (σ 22 k 1)), .int (iI (σ 22 k 2)), .ref (ad 24 0), .ref (ad 25 0), .ref (ad 26 0), .int (iI (σ 22 k 6)), .ref (ad 27 0), .ref (ad 28 0), .ref (ad 29 0), .int (iI (σ 22 k 10)), .ref (ad 30 0), .ref (ad 31 0), .int (iI (σ 22 k 13)), .ref (ad 32 0), .ref (ad 33 0), .ref (ad 34 0), .ref (ad 35 0), .ref (ad 36 0), .ref (ad 37 0), .ref (ad 38 0), .ref (ad 39 0), .ref (ad 40 0), .ref (ad 41 0), .int (iI (σ 22 k 24))]) C hin tyX4 tyX4_ok nmX4 (ci := 4) rfl (by decide) hl rfl rfl (ty := .int) (by decide +kernel) rfl rfl (fun _ => rfl) (by show 13 < 25; decide) (by simp [su]) hk d kk
theorem J_get_4_14 (C : Cx p l e R s m args below meth c cy D ad A nL cc own Ts) {idx : Nat} {k : Int} (hin : ∀ w ∈ wsX40, w ∈ Ts) (hl : Cond.fieldLink own idx "JointVentureModel" "owed" "[I" ∈ Ts) (hk : 0 ≤ k ∧ k < cnt 22) (d : decode cc pc = .ok (.getfield idx, 3)) (kk : JW p l e R s m args below meth c cy D ad A nL cells slots Q σ (pc + 3) lv (.ref (ad 32 0) :: st)) : JW p l e R s m args below meth c cy D ad A nL cells slots Q σ pc lv (.ref (ad 22 k) :: st) := by
  intro H locs ls h1 h2 h3
  exact va_get C.1.1 C.1.2.1 C.1.2.2.2.2 hin C.1.2.2.2.1 C.2.2.2.1.1 (one_P h1 hk.1 hk.2 rfl) 0 rfl rfl 14 (by decide) (C.1.2.2.2.2 _ hl) (fun _ h => h) rfl d (kk H locs ls h1 h2 h3)
theorem J_get_4_15 (C : Cx p l e R s m args below meth c cy D ad A nL cc own Ts) {idx : Nat} {k : Int} (hin : ∀ w ∈ wsX40, w ∈ Ts) (hl : Cond.fieldLink own idx "JointVentureModel" "in" "[Z" ∈ Ts) (hk : 0 ≤ k ∧ k < cnt 22) (d : decode cc pc = .ok (.getfield idx, 3)) (kk : JW p l e R s m args below meth c cy D ad A nL cells slots Q σ (pc + 3) lv (.ref (ad 33 0) :: st)) : JW p l e R s m args below meth c cy D ad A nL cells slots Q σ pc lv (.ref (ad 22 k) :: st) := by
  intro H locs ls h1 h2 h3
  exact va_get C.1.1 C.1.2.1 C.1.2.2.2.2 hin C.1.2.2.2.1 C.2.2.2.1.1 (one_P h1 hk.1 hk.2 rfl) 0 rfl rfl 15 (by decide) (C.1.2.2.2.2 _ hl) (fun _ h => h) rfl d (kk H locs ls h1 h2 h3)
theorem J_get_4_16 (C : Cx p l e R s m args below meth c cy D ad A nL cc own Ts) {idx : Nat} {k : Int} (hin : ∀ w ∈ wsX40, w ∈ Ts) (hl : Cond.fieldLink own idx "JointVentureModel" "earns" "[J" ∈ Ts) (hk : 0 ≤ k ∧ k < cnt 22) (d : decode cc pc = .ok (.getfield idx, 3)) (kk : JW p l e R s m args below meth c cy D ad A nL cells slots Q σ (pc + 3) lv (.ref (ad 34 0) :: st)) : JW p l e R s m args below meth c cy D ad A nL cells slots Q σ pc lv (.ref (ad 22 k) :: st) := by
  intro H locs ls h1 h2 h3
  exact va_get C.1.1 C.1.2.1 C.1.2.2.2.2 hin C.1.2.2.2.1 C.2.2.2.1.1 (one_P h1 hk.1 hk.2 rfl) 0 rfl rfl 16 (by decide) (C.1.2.2.2.2 _ hl) (fun _ h => h) rfl d (kk H locs ls h1 h2 h3)
theorem J_get_4_17 (C : Cx p l e R s m args below meth c cy D ad A nL cc own Ts) {idx : Nat} {k : Int} (hin : ∀ w ∈ wsX40, w ∈ Ts) (hl : Cond.fieldLink own idx "JointVentureModel" "backs" "[I" ∈ Ts) (hk : 0 ≤ k ∧ k < cnt 22) (d : decode cc pc = .ok (.getfield idx, 3)) (kk : JW p l e R s m args below meth c cy D ad A nL cells slots Q σ (pc + 3) lv (.ref (ad 35 0) :: st)) : JW p l e R s m args below meth c cy D ad A nL cells slots Q σ pc lv (.ref (ad 22 k) :: st) := by
  intro H locs ls h1 h2 h3
  exact va_get C.1.1 C.1.2.1 C.1.2.2.2.2 hin C.1.2.2.2.1 C.2.2.2.1.1 (one_P h1 hk.1 hk.2 rfl) 0 rfl rfl 17 (by decide) (C.1.2.2.2.2 _ hl) (fun _ h => h) rfl d (kk H locs ls h1 h2 h3)
theorem J_get_4_18 (C : Cx p l e R s m args below meth c cy D ad A nL cc own Ts) {idx : Nat} {k : Int} (hin : ∀ w ∈ wsX40, w ∈ Ts) (hl : Cond.fieldLink own idx "JointVentureModel" "charges" "[I" ∈ Ts) (hk : 0 ≤ k ∧ k < cnt 22) (d : decode cc pc = .ok (.getfield idx, 3)) (kk : JW p l e R s m args below meth c cy D ad A nL cells slots Q σ (pc + 3) lv (.ref (ad 36 0) :: st)) : JW p l e R s m args below meth c cy D ad A nL cells slots Q σ pc lv (.ref (ad 22 k) :: st) := by
  intro H locs ls h1 h2 h3
  exact va_get C.1.1 C.1.2.1 C.1.2.2.2.2 hin C.1.2.2.2.1 C.2.2.2.1.1 (one_P h1 hk.1 hk.2 rfl) 0 rfl rfl 18 (by decide) (C.1.2.2.2.2 _ hl) (fun _ h => h) rfl d (kk H locs ls h1 h2 h3)
theorem J_get_4_19 (C : Cx p l e R s m args below meth c cy D ad A nL cc own Ts) {idx : Nat} {k : Int} (hin : ∀ w ∈ wsX40, w ∈ Ts) (hl : Cond.fieldLink own idx "JointVentureModel" "credits" "[I" ∈ Ts) (hk : 0 ≤ k ∧ k < cnt 22) (d : decode cc pc = .ok (.getfield idx, 3)) (kk : JW p l e R s m args below meth c cy D ad A nL cells slots Q σ (pc + 3) lv (.ref (ad 37 0) :: st)) : JW p l e R s m args below meth c cy D ad A nL cells slots Q σ pc lv (.ref (ad 22 k) :: st) := by
  intro H locs ls h1 h2 h3
  exact va_get C.1.1 C.1.2.1 C.1.2.2.2.2 hin C.1.2.2.2.1 C.2.2.2.1.1 (one_P h1 hk.1 hk.2 rfl) 0 rfl rfl 19 (by decide) (C.1.2.2.2.2 _ hl) (fun _ h => h) rfl d (kk H locs ls h1 h2 h3)
theorem J_get_4_20 (C : Cx p l e R s m args below meth c cy D ad A nL cc own Ts) {idx : Nat} {k : Int} (hin : ∀ w ∈ wsX40, w ∈ Ts) (hl : Cond.fieldLink own idx "JointVentureModel" "weights" "[I" ∈ Ts) (hk : 0 ≤ k ∧ k < cnt 22) (d : decode cc pc = .ok (.getfield idx, 3)) (kk : JW p l e R s m args below meth c cy D ad A nL cells slots Q σ (pc + 3) lv (.ref (ad 38 0) :: st)) : JW p l e R s m args below meth c cy D ad A nL cells slots Q σ pc lv (.ref (ad 22 k) :: st) := by
  intro H locs ls h1 h2 h3
  exact va_get C.1.1 C.1.2.1 C.1.2.2.2.2 hin C.1.2.2.2.1 C.2.2.2.1.1 (one_P h1 hk.1 hk.2 rfl) 0 rfl rfl 20 (by decide) (C.1.2.2.2.2 _ hl) (fun _ h => h) rfl d (kk H locs ls h1 h2 h3)
theorem J_get_4_21 (C : Cx p l e R s m args below meth c cy D ad A nL cc own Ts) {idx : Nat} {k : Int} (hin : ∀ w ∈ wsX40, w ∈ Ts) (hl : Cond.fieldLink own idx "JointVentureModel" "parts" "[I" ∈ Ts) (hk : 0 ≤ k ∧ k < cnt 22) (d : decode cc pc = .ok (.getfield idx, 3)) (kk : JW p l e R s m args below meth c cy D ad A nL cells slots Q σ (pc + 3) lv (.ref (ad 39 0) :: st)) : JW p l e R s m args below meth c cy D ad A nL cells slots Q σ pc lv (.ref (ad 22 k) :: st) := by
  intro H locs ls h1 h2 h3
  exact va_get C.1.1 C.1.2.1 C.1.2.2.2.2 hin C.1.2.2.2.1 C.2.2.2.1.1 (one_P h1 hk.1 hk.2 rfl) 0 rfl rfl 21 (by decide) (C.1.2.2.2.2 _ hl) (fun _ h => h) rfl d (kk H locs ls h1 h2 h3)
theorem J_get_4_22 (C : Cx p l e R s m args below meth c cy D ad A nL cc own Ts) {idx : Nat} {k : Int} (hin : ∀ w ∈ wsX40, w ∈ Ts) (hl : Cond.fieldLink own idx "JointVentureModel" "own" "[I" ∈ Ts) (hk : 0 ≤ k ∧ k < cnt 22) (d : decode cc pc = .ok (.getfield idx, 3)) (kk : JW p l e R s m args below meth c cy D ad A nL cells slots Q σ (pc + 3) lv (.ref (ad 40 0) :: st)) : JW p l e R s m args below meth c cy D ad A nL cells slots Q σ pc lv (.ref (ad 22 k) :: st) := by
  intro H locs ls h1 h2 h3
  exact va_get C.1.1 C.1.2.1 C.1.2.2.2.2 hin C.1.2.2.2.1 C.2.2.2.1.1 (one_P h1 hk.1 hk.2 rfl) 0 rfl rfl 22 (by decide) (C.1.2.2.2.2 _ hl) (fun _ h => h) rfl d (kk H locs ls h1 h2 h3)
theorem J_get_4_23 (C : Cx p l e R s m args below meth c cy D ad A nL cc own Ts) {idx : Nat} {k : Int} (hin : ∀ w ∈ wsX40, w ∈ Ts) (hl : Cond.fieldLink own idx "JointVentureModel" "rests" "[J" ∈ Ts) (hk : 0 ≤ k ∧ k < cnt 22) (d : decode cc pc = .ok (.getfield idx, 3)) (kk : JW p l e R s m args below meth c cy D ad A nL cells slots Q σ (pc + 3) lv (.ref (ad 41 0) :: st)) : JW p l e R s m args below meth c cy D ad A nL cells slots Q σ pc lv (.ref (ad 22 k) :: st) := by
  intro H locs ls h1 h2 h3
  exact va_get C.1.1 C.1.2.1 C.1.2.2.2.2 hin C.1.2.2.2.1 C.2.2.2.1.1 (one_P h1 hk.1 hk.2 rfl) 0 rfl rfl 23 (by decide) (C.1.2.2.2.2 _ hl) (fun _ h => h) rfl d (kk H locs ls h1 h2 h3)
theorem J_get_4_24 (C : Cx p l e R s m args below meth c cy D ad A nL cc own Ts) {idx : Nat} {k : Int} (hin : ∀ w ∈ wsX40, w ∈ Ts) (hl : Cond.fieldLink own idx "JointVentureModel" "last" "I" ∈ Ts) (hk : 0 ≤ k ∧ k < cnt 22) (d : decode cc pc = .ok (.getfield idx, 3)) (kk : JW p l e R s m args below meth c cy D ad A nL cells slots Q σ (pc + 3) lv (.int (iI (σ 22 k 24)) :: st)) : JW p l e R s m args below meth c cy D ad A nL cells slots Q σ pc lv (.ref (ad 22 k) :: st) := by
  intro H locs ls h1 h2 h3
  exact va_get C.1.1 C.1.2.1 C.1.2.2.2.2 hin C.1.2.2.2.1 C.2.2.2.1.1 (one_P h1 hk.1 hk.2 rfl) 0 rfl rfl 24 (by decide) (C.1.2.2.2.2 _ hl) (fun _ h => h) rfl d (kk H locs ls h1 h2 h3)
theorem J_put_4_24 (C : Cx p l e R s m args below meth c cy D ad A nL cc own Ts) {idx : Nat} {k v : Int} (hin : ∀ w ∈ wsX40, w ∈ Ts) (hl : Cond.fieldLink own idx "JointVentureModel" "last" "I" ∈ Ts) (hk : 0 ≤ k ∧ k < cnt 22) (d : decode cc pc = .ok (.putfield idx, 3)) (kk : JW p l e R s m args below meth c cy D ad A nL cells slots Q (su σ 22 k 24 v) (pc + 3) lv st) : JW p l e R s m args below meth c cy D ad A nL cells slots Q σ pc lv (.int (iI v) :: .ref (ad 22 k) :: st) :=
  put_gen (fsF := fun σ => [.ref (ad 23 0), .int (iI (σ 22 k 1)), .int (iI (σ 22 k 2)), .ref (ad 24 0), .ref (ad 25 0), .ref (ad 26 0), .int (iI (σ 22 k 6)), .ref (ad 27 0), .ref (ad 28 0), .ref (ad 29 0), .int (iI (σ 22 k 10)), .ref (ad 30 0), .ref (ad 31 0), .int (iI (σ 22 k 13)), .ref (ad 32 0), .ref (ad 33 0), .ref (ad 34 0), .ref (ad 35 0), .ref (ad 36 0), .ref (ad 37 0), .ref (ad 38 0), .ref (ad 39 0), .ref (ad 40 0), .ref (ad 41 0), .int (iI (σ 22 k 24))]) C hin tyX4 tyX4_ok nmX4 (ci := 4) rfl (by decide) hl rfl rfl (ty := .int) (by decide +kernel) rfl rfl (fun _ => rfl) (by show 24 < 25; decide) (by simp [su]) hk d kk
theorem thw_face : thw.all (fun w => w.keepsFace && w.onTables) = true := by decide +kernel
theorem thw_ot : thw.all vx_ot = true := by decide +kernel
theorem before_warm {w : Cond} (hk : w.keepsFace = true) (ho : w.onTables = true) {a a' : Array Value} {s U : State} (hW : s.WarmedH U.vm) (h : w.before a s = true) : w.before a' U = true :=
  va_tabs (u := s.setVm U.vm) ho rfl (Cond.before_shiftedFace (State.Shifted.of_warmed hW) w hk h)
theorem Sx.warm {H : Heap} {U : State} (hW : s.WarmedH U.vm) (h : Sx cy D ad s H) : Sx cy D ad U H := by
  obtain ⟨g1, g2, g3, g4, g5, g6⟩ := h
  refine ⟨va_K.moved hW.alike g1, vx_Zq.moved hW.alike g2, vx_Zq.moved hW.alike g3, fun q hq => ?_, fun w hw => ?_, fun E hE T hT hn => va_Nc.moved hW.alike (g6 E hE T hT hn)⟩
  · obtain ⟨a, ha⟩ := g4 q hq
    exact ⟨a, vk_R.warm hW ha⟩
  · have h1 := List.all_eq_true.mp thw_face w hw
    simp only [Bool.and_eq_true] at h1
    exact before_warm h1.1 h1.2 hW (g5 w hw)
theorem Sx.calling {U : State} {g : JFrame} {mk : MethodId} {a : Array Value} {H : Heap} (h : Sx cy D ad U H) : Sx cy D ad (U.calling g mk a) H := by
  obtain ⟨g1, g2, g3, g4, g5, g6⟩ := h
  refine ⟨va_K.moved (u := U) (Vm.Alike.refl U.vm) g1, vx_Zq.moved (u := U) (Vm.Alike.refl U.vm) g2, vx_Zq.moved (u := U) (Vm.Alike.refl U.vm) g3, fun q hq => ?_, fun w hw => ?_, fun E hE T hT hn => va_Nc.moved (u := U) (Vm.Alike.refl U.vm) (g6 E hE T hT hn)⟩
  · obtain ⟨b, hb⟩ := g4 q hq
    exact ⟨b, vk_R.same (u := U) rfl hb⟩
  · have h1 := List.all_eq_true.mp thw_face w hw
    simp only [Bool.and_eq_true] at h1
    exact va_tabs (u := U) h1.2 rfl (g5 w hw)
theorem Zq_up {C n d : String} {U : State} {H : Heap} (h : vx_Zq C n d (Aw ad) U H) : vx_Zq C n d (Ar ad H.size) U H := by
  have key : ∀ (a : Nat) (cell : Cell), H[a]? = some cell → ¬ Aw ad a → ¬ Ar ad H.size a := by
    intro a cell hc ha z
    have hl : a < H.size := (Array.getElem?_eq_some_iff.mp hc).1
    exact z.elim ha (fun z => by omega)
  obtain ⟨h1, c0, k0, i0, f0, a0, cell0, e1, e2, e3, e4, e5, e6, e7, e8, e9, e10⟩ := h
  refine ⟨?_, c0, k0, i0, f0, a0, cell0, e1, e2, e3, e4, e5, e6, e7, e8, e9, key _ _ e5 e10⟩
  rcases h1 with ⟨cf, kf, fi, f, a, cell, u1, u2, u3, u4, u5, u6, u7, u8⟩ | ⟨t, cf, kf, fi, f, a, cell, u1, u2, u3, u4, u5, u6, u7, u8⟩
  · exact Or.inl ⟨cf, kf, fi, f, a, cell, u1, u2, u3, u4, u5, u6, u7, key _ _ u5 u8⟩
  · exact Or.inr ⟨t, cf, kf, fi, f, a, cell, u1, u2, u3, u4, u5, u6, u7, key _ _ u5 u8⟩
theorem Sx.at_ {H0 H : Heap} {U : State} {locs : List Loc} (hA : ∀ q, A q → Ar ad H0.size q) (hS : va_S A H0 H locs) (h : Sx cy D ad U H0) : Sx cy D ad U H := by
  obtain ⟨g1, g2, g3, g4, g5, g6⟩ := h
  have kept : ∀ q : Nat, q < H0.size → ¬ Ar ad H0.size q → H[q]? = H0[q]? := fun q h1 h2 => hS.2.1 q h1 (fun z => h2 (hA q z))
  exact ⟨g1, vx_Zq.narrow (vx_Zq.kept (Zq_up g2) kept) (fun q z => Or.inl z), vx_Zq.narrow (vx_Zq.kept (Zq_up g3) kept) (fun q z => Or.inl z), g4, g5, g6⟩
abbrev PcW (cy : Nat → ClassId) (D : va_G) (ad : Ad) (σ : Sg) (av : List Value) (sz : Nat) : Array Value → State → Prop := va_Pc av (fun U => U.heap.size = sz ∧ Wd cy D ad σ U.heap ∧ Sx cy D ad U U.heap)
abbrev QcI (cy : Nat → ClassId) (D : va_G) (ad : Ad) (post : Int → Sg → Prop) (sz : Nat) : Array Value → State → Outcome → State → Prop := va_Qi (fun (r : Int32) (σ' : Sg) => ∃ z : Int, r = iI z ∧ post z σ') (fun (σ' : Sg) (t : State) => Wd cy D ad σ' t.heap) (Ar ad sz)
abbrev QcL (cy : Nat → ClassId) (D : va_G) (ad : Ad) (post : Int → Sg → Prop) (sz : Nat) : Array Value → State → Outcome → State → Prop := va_Ql (fun (r : Int64) (σ' : Sg) => ∃ z : Int, r = lI z ∧ post z σ') (fun (σ' : Sg) (t : State) => Wd cy D ad σ' t.heap) (Ar ad sz)
abbrev QcV (cy : Nat → ClassId) (D : va_G) (ad : Ad) (post : Sg → Prop) (sz : Nat) : Array Value → State → Outcome → State → Prop := va_Qv (fun (σ' : Sg) => post σ') (fun (σ' : Sg) (t : State) => Wd cy D ad σ' t.heap) (Ar ad sz)
abbrev XcW (cy : Nat → ClassId) (D : va_G) (ad : Ad) (xp : String → Sg → Prop) (sz : Nat) : String → State → State → Prop := vx_X (fun (u : Sg × String) => xp u.2 u.1) (fun (E : String) (u : Sg × String) (t : State) => E = u.2 ∧ Wd cy D ad u.1 t.heap) (Ar ad sz)
theorem J_forb {av : List Value} {sz : Nat} : FrameBlind (PcW cy D ad σ av sz) := fun _ _ _ _ q => ⟨q.1, q.2.1, q.2.2.1, q.2.2.2.calling⟩
theorem J_recv {Cn : String} {kd : Nat} {k : Int} {H : Heap} (hr : Rcv Cn kd) (hk : 0 ≤ k ∧ k < cnt kd) (hK : va_K D vwCl (tysO cy) s) (h1 : Wd cy D ad σ H) : ∃ cell : Cell, H[ad kd k]? = some cell ∧ cell.vm.isStatics = false ∧ s.vm.findClass Cn = some cell.cls := by
  obtain ⟨ci, T, N, hc, hw⟩ := hr
  obtain ⟨fs, hfs⟩ := hw cy ad σ k
  exact va_recv (q := (Cn, T, N)) hK (one_P h1 hk.1 hk.2 hfs) hc (q0 := 0) rfl
theorem J_nlt (hf : (fun _ : Nat => True) 0) : True := trivial
def KI (l : Launch) (y : MethodName) (ws : List Cond) (rm : Room) (cy : Nat → ClassId) (D : va_G) (ad : Ad) (σ : Sg) (av : List Value) (post : Int → Sg → Prop) (mc ms : Nat) : Prop := ∀ sz : Nat, Met l y ws rm (PcW cy D ad σ av sz) (QcI cy D ad post sz) mc ms (Ar ad sz)
def XI (l : Launch) (y : MethodName) (ws : List Cond) (rm : Room) (cy : Nat → ClassId) (D : va_G) (ad : Ad) (σ : Sg) (av : List Value) (post : Int → Sg → Prop) (xp : String → Sg → Prop) (mc ms : Nat) : Prop := ∀ sz : Nat, vx_Met l y ws rm (PcW cy D ad σ av sz) (QcI cy D ad post sz) (XcW cy D ad xp sz) mc ms (Ar ad sz)
def KL (l : Launch) (y : MethodName) (ws : List Cond) (rm : Room) (cy : Nat → ClassId) (D : va_G) (ad : Ad) (σ : Sg) (av : List Value) (post : Int → Sg → Prop) (mc ms : Nat) : Prop := ∀ sz : Nat, Met l y ws rm (PcW cy D ad σ av sz) (QcL cy D ad post sz) mc ms (Ar ad sz)
def XL (l : Launch) (y : MethodName) (ws : List Cond) (rm : Room) (cy : Nat → ClassId) (D : va_G) (ad : Ad) (σ : Sg) (av : List Value) (post : Int → Sg → Prop) (xp : String → Sg → Prop) (mc ms : Nat) : Prop := ∀ sz : Nat, vx_Met l y ws rm (PcW cy D ad σ av sz) (QcL cy D ad post sz) (XcW cy D ad xp sz) mc ms (Ar ad sz)
def KV (l : Launch) (y : MethodName) (ws : List Cond) (rm : Room) (cy : Nat → ClassId) (D : va_G) (ad : Ad) (σ : Sg) (av : List Value) (post : Sg → Prop) (mc ms : Nat) : Prop := ∀ sz : Nat, Met l y ws rm (PcW cy D ad σ av sz) (QcV cy D ad post sz) mc ms (Ar ad sz)
def XV (l : Launch) (y : MethodName) (ws : List Cond) (rm : Room) (cy : Nat → ClassId) (D : va_G) (ad : Ad) (σ : Sg) (av : List Value) (post : Sg → Prop) (xp : String → Sg → Prop) (mc ms : Nat) : Prop := ∀ sz : Nat, vx_Met l y ws rm (PcW cy D ad σ av sz) (QcV cy D ad post sz) (XcW cy D ad xp sz) mc ms (Ar ad sz)
theorem J_KVI (C : Cx p l e R s m args below meth c cy D ad A nL cc own Ts) {y : MethodName} {bytes : ByteArray} {maxL mc ms n idx : Nat} {ret : Option FieldType} {ws' : List Cond} {rm : Room} {As rest : List Value} {Cn : String} {kd : Nat} {k : Int} {post : Int → Sg → Prop} (hM : KI l y ws' rm cy D ad σ (.ref (ad kd k) :: As) post mc ms) (cw : CallW R s args own Cn idx y bytes maxL ret ws' rm mc ms n) (hr : Rcv Cn kd) (hk : 0 ≤ k ∧ k < cnt kd) (hst : st = As.reverse ++ .ref (ad kd k) :: rest) (hn : As.length = n) (hW : (rest.map fun v => v.category).sum ≤ 8) (d : decode cc pc = .ok (.invokevirtual idx, 3)) (hf : cells + mc ≤ R.cells ∧ slots + ms ≤ R.slots) (kk : ∀ (z : Int) (σ' : Sg), post z σ' → JW p l e R s m args below meth c cy D ad A nL (cells + mc) (slots + ms) Q σ' (pc + 3) lv (.int (iI z) :: rest)) : JW p l e R s m args below meth c cy D ad A nL cells slots Q σ pc lv st := by
  intro H locs ls h1 h2 h3
  subst hst
  have hA : ∀ q, Ar ad H.size q → A q := fun q hq => C.2.2.1 q (hq.imp id (fun z => Nat.le_trans h2.1 z))
  refine va_calli (va_runV (As := As) (rest := rest) C.1 (hM H.size) cw ⟨J_forb, J_recv hr hk C.2.2.2.1.1 h1, fun U hU hW => ⟨rfl, by rw [hU], by rw [hU]; exact h1, by rw [hU]; exact (Sx.at_ C.2.2.2.2.2.2 h2 C.2.2.2.1).warm hW⟩⟩ rfl hn h3.1 rfl (lv_room hW) d hf) h2 (fun q _ h => hA q h) hA ?_
  rintro r σ' t H1 locs1 ht hvm ⟨z, rfl, hp⟩ hB hz1 hk1 hS
  rw [ht] at hB
  exact kk z σ' hp H1 locs1 ls hB hS h3
theorem J_KSI (C : Cx p l e R s m args below meth c cy D ad A nL cc own Ts) {y : MethodName} {bytes : ByteArray} {maxL mc ms n idx : Nat} {ret : Option FieldType} {ws' : List Cond} {rm : Room} {As rest : List Value} {post : Int → Sg → Prop} (hM : KI l y ws' rm cy D ad σ As post mc ms) (cw : CallB R s args own idx y bytes maxL ret ws' rm mc ms n ∧ (Cond.static y).before args s = true) (hst : st = As.reverse ++ rest) (hn : As.length = n) (hW : (rest.map fun v => v.category).sum ≤ 8) (d : decode cc pc = .ok (.invokestatic idx, 3)) (hf : cells + mc ≤ R.cells ∧ slots + ms ≤ R.slots) (kk : ∀ (z : Int) (σ' : Sg), post z σ' → JW p l e R s m args below meth c cy D ad A nL (cells + mc) (slots + ms) Q σ' (pc + 3) lv (.int (iI z) :: rest)) : JW p l e R s m args below meth c cy D ad A nL cells slots Q σ pc lv st := by
  intro H locs ls h1 h2 h3
  subst hst
  have hA : ∀ q, Ar ad H.size q → A q := fun q hq => C.2.2.1 q (hq.imp id (fun z => Nat.le_trans h2.1 z))
  refine va_calli (va_runS (As := As) (rest := rest) C.1 (hM H.size) cw ⟨J_forb, fun U hU hW => ⟨rfl, by rw [hU], by rw [hU]; exact h1, by rw [hU]; exact (Sx.at_ C.2.2.2.2.2.2 h2 C.2.2.2.1).warm hW⟩⟩ rfl hn h3.1 rfl (lv_room hW) d hf) h2 (fun q _ h => hA q h) hA ?_
  rintro r σ' t H1 locs1 ht hvm ⟨z, rfl, hp⟩ hB hz1 hk1 hS
  rw [ht] at hB
  exact kk z σ' hp H1 locs1 ls hB hS h3
theorem J_KWI (C : Cx p l e R s m args below meth c cy D ad A nL cc own Ts) {y : MethodName} {bytes : ByteArray} {maxL mc ms n idx : Nat} {ret : Option FieldType} {ws' : List Cond} {rm : Room} {As rest : List Value} {hh : List (Nat × Nat × Nat × Nat)} {post : Int → Sg → Prop} (hM : KI l y ws' rm cy D ad σ As post mc ms) (cw : vx_CSW R s args own idx y bytes maxL ret hh ws' rm mc ms n) (hst : st = As.reverse ++ rest) (hn : As.length = n) (hW : (rest.map fun v => v.category).sum ≤ 8) (d : decode cc pc = .ok (.invokestatic idx, 3)) (hf : cells + mc ≤ R.cells ∧ slots + ms ≤ R.slots) (kk : ∀ (z : Int) (σ' : Sg), post z σ' → JW p l e R s m args below meth c cy D ad A nL (cells + mc) (slots + ms) Q σ' (pc + 3) lv (.int (iI z) :: rest)) : JW p l e R s m args below meth c cy D ad A nL cells slots Q σ pc lv st := by
  intro H locs ls h1 h2 h3
  subst hst
  have hA : ∀ q, Ar ad H.size q → A q := fun q hq => C.2.2.1 q (hq.imp id (fun z => Nat.le_trans h2.1 z))
  refine va_calli (vx_runSW (As := As) (rest := rest) C.1 (hM H.size) cw ⟨J_forb, fun U hU hW => ⟨rfl, by rw [hU], by rw [hU]; exact h1, by rw [hU]; exact (Sx.at_ C.2.2.2.2.2.2 h2 C.2.2.2.1).warm hW⟩⟩ rfl hn h3.1 rfl (lv_room hW) d hf) h2 (fun q _ h => hA q h) hA ?_
  rintro r σ' t H1 locs1 ht hvm ⟨z, rfl, hp⟩ hB hz1 hk1 hS
  rw [ht] at hB
  exact kk z σ' hp H1 locs1 ls hB hS h3
theorem J_XVI (C : Cx p l e R s m args below meth c cy D ad A nL cc own Ts) {y : MethodName} {bytes : ByteArray} {maxL mc ms n idx : Nat} {ret : Option FieldType} {ws' : List Cond} {rm : Room} {As rest : List Value} {Cn : String} {kd : Nat} {k : Int} {post : Int → Sg → Prop} {xp : String → Sg → Prop} (hM : XI l y ws' rm cy D ad σ (.ref (ad kd k) :: As) post xp mc ms) (cw : CallW R s args own Cn idx y bytes maxL ret ws' rm mc ms n) (hr : Rcv Cn kd) (hk : 0 ≤ k ∧ k < cnt kd) (hst : st = As.reverse ++ .ref (ad kd k) :: rest) (hn : As.length = n) (hW : (rest.map fun v => v.category).sum ≤ 8) (d : decode cc pc = .ok (.invokevirtual idx, 3)) (hf : cells + mc ≤ R.cells ∧ slots + ms ≤ R.slots) (kx : ∀ (E : String) (σ' : Sg), xp E σ' → JX p l e R s m args below meth c cy D ad A nL (cells + mc) (slots + ms) Q σ' pc lv rest E) (kk : ∀ (z : Int) (σ' : Sg), post z σ' → JW p l e R s m args below meth c cy D ad A nL (cells + mc) (slots + ms) Q σ' (pc + 3) lv (.int (iI z) :: rest)) : JW p l e R s m args below meth c cy D ad A nL cells slots Q σ pc lv st := by
  intro H locs ls h1 h2 h3
  subst hst
  have hA : ∀ q, Ar ad H.size q → A q := fun q hq => C.2.2.1 q (hq.imp id (fun z => Nat.le_trans h2.1 z))
  refine vx_calli (vx_runV (As := As) (rest := rest) C.1 (hM H.size) cw ⟨J_forb, J_recv hr hk C.2.2.2.1.1 h1, fun U hU hW => ⟨rfl, by rw [hU], by rw [hU]; exact h1, by rw [hU]; exact (Sx.at_ C.2.2.2.2.2.2 h2 C.2.2.2.1).warm hW⟩⟩ rfl hn h3.1 rfl (lv_room hW) d hf) h2 (fun q _ h => hA q h) hA (fun q _ h => hA q h) ?_ ?_
  · rintro E ce q9 ⟨σ', E'⟩ t H1 locs1 ht hvm hp ⟨hE, hB⟩ hz1 hk1 hS hc9 hv9 hcl9
    rw [ht] at hB
    dsimp only at hE hp hB
    subst hE
    exact kx _ σ' hp H1 locs1 ls ce q9 hB hS h3 hc9 hv9 hcl9
  · rintro r σ' t H1 locs1 ht hvm ⟨z, rfl, hp⟩ hB hz1 hk1 hS
    rw [ht] at hB
    exact kk z σ' hp H1 locs1 ls hB hS h3
theorem J_XSI (C : Cx p l e R s m args below meth c cy D ad A nL cc own Ts) {y : MethodName} {bytes : ByteArray} {maxL mc ms n idx : Nat} {ret : Option FieldType} {ws' : List Cond} {rm : Room} {As rest : List Value} {post : Int → Sg → Prop} {xp : String → Sg → Prop} (hM : XI l y ws' rm cy D ad σ As post xp mc ms) (cw : CallB R s args own idx y bytes maxL ret ws' rm mc ms n ∧ (Cond.static y).before args s = true) (hst : st = As.reverse ++ rest) (hn : As.length = n) (hW : (rest.map fun v => v.category).sum ≤ 8) (d : decode cc pc = .ok (.invokestatic idx, 3)) (hf : cells + mc ≤ R.cells ∧ slots + ms ≤ R.slots) (kx : ∀ (E : String) (σ' : Sg), xp E σ' → JX p l e R s m args below meth c cy D ad A nL (cells + mc) (slots + ms) Q σ' pc lv rest E) (kk : ∀ (z : Int) (σ' : Sg), post z σ' → JW p l e R s m args below meth c cy D ad A nL (cells + mc) (slots + ms) Q σ' (pc + 3) lv (.int (iI z) :: rest)) : JW p l e R s m args below meth c cy D ad A nL cells slots Q σ pc lv st := by
  intro H locs ls h1 h2 h3
  subst hst
  have hA : ∀ q, Ar ad H.size q → A q := fun q hq => C.2.2.1 q (hq.imp id (fun z => Nat.le_trans h2.1 z))
  refine vx_calli (vx_runS (As := As) (rest := rest) C.1 (hM H.size) cw ⟨J_forb, fun U hU hW => ⟨rfl, by rw [hU], by rw [hU]; exact h1, by rw [hU]; exact (Sx.at_ C.2.2.2.2.2.2 h2 C.2.2.2.1).warm hW⟩⟩ rfl hn h3.1 rfl (lv_room hW) d hf) h2 (fun q _ h => hA q h) hA (fun q _ h => hA q h) ?_ ?_
  · rintro E ce q9 ⟨σ', E'⟩ t H1 locs1 ht hvm hp ⟨hE, hB⟩ hz1 hk1 hS hc9 hv9 hcl9
    rw [ht] at hB
    dsimp only at hE hp hB
    subst hE
    exact kx _ σ' hp H1 locs1 ls ce q9 hB hS h3 hc9 hv9 hcl9
  · rintro r σ' t H1 locs1 ht hvm ⟨z, rfl, hp⟩ hB hz1 hk1 hS
    rw [ht] at hB
    exact kk z σ' hp H1 locs1 ls hB hS h3
theorem J_KVL (C : Cx p l e R s m args below meth c cy D ad A nL cc own Ts) {y : MethodName} {bytes : ByteArray} {maxL mc ms n idx : Nat} {ret : Option FieldType} {ws' : List Cond} {rm : Room} {As rest : List Value} {Cn : String} {kd : Nat} {k : Int} {post : Int → Sg → Prop} (hM : KL l y ws' rm cy D ad σ (.ref (ad kd k) :: As) post mc ms) (cw : CallW R s args own Cn idx y bytes maxL ret ws' rm mc ms n) (hr : Rcv Cn kd) (hk : 0 ≤ k ∧ k < cnt kd) (hst : st = As.reverse ++ .ref (ad kd k) :: rest) (hn : As.length = n) (hW : (rest.map fun v => v.category).sum ≤ 8) (d : decode cc pc = .ok (.invokevirtual idx, 3)) (hf : cells + mc ≤ R.cells ∧ slots + ms ≤ R.slots) (kk : ∀ (z : Int) (σ' : Sg), post z σ' → JW p l e R s m args below meth c cy D ad A nL (cells + mc) (slots + ms) Q σ' (pc + 3) lv (.long (lI z) :: rest)) : JW p l e R s m args below meth c cy D ad A nL cells slots Q σ pc lv st := by
  intro H locs ls h1 h2 h3
  subst hst
  have hA : ∀ q, Ar ad H.size q → A q := fun q hq => C.2.2.1 q (hq.imp id (fun z => Nat.le_trans h2.1 z))
  refine va_calll (va_runV (As := As) (rest := rest) C.1 (hM H.size) cw ⟨J_forb, J_recv hr hk C.2.2.2.1.1 h1, fun U hU hW => ⟨rfl, by rw [hU], by rw [hU]; exact h1, by rw [hU]; exact (Sx.at_ C.2.2.2.2.2.2 h2 C.2.2.2.1).warm hW⟩⟩ rfl hn h3.1 rfl (lv_room hW) d hf) h2 (fun q _ h => hA q h) hA ?_
  rintro r σ' t H1 locs1 ht hvm ⟨z, rfl, hp⟩ hB hz1 hk1 hS
  rw [ht] at hB
  exact kk z σ' hp H1 locs1 ls hB hS h3
theorem J_KSL (C : Cx p l e R s m args below meth c cy D ad A nL cc own Ts) {y : MethodName} {bytes : ByteArray} {maxL mc ms n idx : Nat} {ret : Option FieldType} {ws' : List Cond} {rm : Room} {As rest : List Value} {post : Int → Sg → Prop} (hM : KL l y ws' rm cy D ad σ As post mc ms) (cw : CallB R s args own idx y bytes maxL ret ws' rm mc ms n ∧ (Cond.static y).before args s = true) (hst : st = As.reverse ++ rest) (hn : As.length = n) (hW : (rest.map fun v => v.category).sum ≤ 8) (d : decode cc pc = .ok (.invokestatic idx, 3)) (hf : cells + mc ≤ R.cells ∧ slots + ms ≤ R.slots) (kk : ∀ (z : Int) (σ' : Sg), post z σ' → JW p l e R s m args below meth c cy D ad A nL (cells + mc) (slots + ms) Q σ' (pc + 3) lv (.long (lI z) :: rest)) : JW p l e R s m args below meth c cy D ad A nL cells slots Q σ pc lv st := by
  intro H locs ls h1 h2 h3
  subst hst
  have hA : ∀ q, Ar ad H.size q → A q := fun q hq => C.2.2.1 q (hq.imp id (fun z => Nat.le_trans h2.1 z))
  refine va_calll (va_runS (As := As) (rest := rest) C.1 (hM H.size) cw ⟨J_forb, fun U hU hW => ⟨rfl, by rw [hU], by rw [hU]; exact h1, by rw [hU]; exact (Sx.at_ C.2.2.2.2.2.2 h2 C.2.2.2.1).warm hW⟩⟩ rfl hn h3.1 rfl (lv_room hW) d hf) h2 (fun q _ h => hA q h) hA ?_
  rintro r σ' t H1 locs1 ht hvm ⟨z, rfl, hp⟩ hB hz1 hk1 hS
  rw [ht] at hB
  exact kk z σ' hp H1 locs1 ls hB hS h3
theorem J_KWL (C : Cx p l e R s m args below meth c cy D ad A nL cc own Ts) {y : MethodName} {bytes : ByteArray} {maxL mc ms n idx : Nat} {ret : Option FieldType} {ws' : List Cond} {rm : Room} {As rest : List Value} {hh : List (Nat × Nat × Nat × Nat)} {post : Int → Sg → Prop} (hM : KL l y ws' rm cy D ad σ As post mc ms) (cw : vx_CSW R s args own idx y bytes maxL ret hh ws' rm mc ms n) (hst : st = As.reverse ++ rest) (hn : As.length = n) (hW : (rest.map fun v => v.category).sum ≤ 8) (d : decode cc pc = .ok (.invokestatic idx, 3)) (hf : cells + mc ≤ R.cells ∧ slots + ms ≤ R.slots) (kk : ∀ (z : Int) (σ' : Sg), post z σ' → JW p l e R s m args below meth c cy D ad A nL (cells + mc) (slots + ms) Q σ' (pc + 3) lv (.long (lI z) :: rest)) : JW p l e R s m args below meth c cy D ad A nL cells slots Q σ pc lv st := by
  intro H locs ls h1 h2 h3
  subst hst
  have hA : ∀ q, Ar ad H.size q → A q := fun q hq => C.2.2.1 q (hq.imp id (fun z => Nat.le_trans h2.1 z))
  refine va_calll (vx_runSW (As := As) (rest := rest) C.1 (hM H.size) cw ⟨J_forb, fun U hU hW => ⟨rfl, by rw [hU], by rw [hU]; exact h1, by rw [hU]; exact (Sx.at_ C.2.2.2.2.2.2 h2 C.2.2.2.1).warm hW⟩⟩ rfl hn h3.1 rfl (lv_room hW) d hf) h2 (fun q _ h => hA q h) hA ?_
  rintro r σ' t H1 locs1 ht hvm ⟨z, rfl, hp⟩ hB hz1 hk1 hS
  rw [ht] at hB
  exact kk z σ' hp H1 locs1 ls hB hS h3
theorem J_XVL (C : Cx p l e R s m args below meth c cy D ad A nL cc own Ts) {y : MethodName} {bytes : ByteArray} {maxL mc ms n idx : Nat} {ret : Option FieldType} {ws' : List Cond} {rm : Room} {As rest : List Value} {Cn : String} {kd : Nat} {k : Int} {post : Int → Sg → Prop} {xp : String → Sg → Prop} (hM : XL l y ws' rm cy D ad σ (.ref (ad kd k) :: As) post xp mc ms) (cw : CallW R s args own Cn idx y bytes maxL ret ws' rm mc ms n) (hr : Rcv Cn kd) (hk : 0 ≤ k ∧ k < cnt kd) (hst : st = As.reverse ++ .ref (ad kd k) :: rest) (hn : As.length = n) (hW : (rest.map fun v => v.category).sum ≤ 8) (d : decode cc pc = .ok (.invokevirtual idx, 3)) (hf : cells + mc ≤ R.cells ∧ slots + ms ≤ R.slots) (kx : ∀ (E : String) (σ' : Sg), xp E σ' → JX p l e R s m args below meth c cy D ad A nL (cells + mc) (slots + ms) Q σ' pc lv rest E) (kk : ∀ (z : Int) (σ' : Sg), post z σ' → JW p l e R s m args below meth c cy D ad A nL (cells + mc) (slots + ms) Q σ' (pc + 3) lv (.long (lI z) :: rest)) : JW p l e R s m args below meth c cy D ad A nL cells slots Q σ pc lv st := by
  intro H locs ls h1 h2 h3
  subst hst
  have hA : ∀ q, Ar ad H.size q → A q := fun q hq => C.2.2.1 q (hq.imp id (fun z => Nat.le_trans h2.1 z))
  refine vx_calll (vx_runV (As := As) (rest := rest) C.1 (hM H.size) cw ⟨J_forb, J_recv hr hk C.2.2.2.1.1 h1, fun U hU hW => ⟨rfl, by rw [hU], by rw [hU]; exact h1, by rw [hU]; exact (Sx.at_ C.2.2.2.2.2.2 h2 C.2.2.2.1).warm hW⟩⟩ rfl hn h3.1 rfl (lv_room hW) d hf) h2 (fun q _ h => hA q h) hA (fun q _ h => hA q h) ?_ ?_
  · rintro E ce q9 ⟨σ', E'⟩ t H1 locs1 ht hvm hp ⟨hE, hB⟩ hz1 hk1 hS hc9 hv9 hcl9
    rw [ht] at hB
    dsimp only at hE hp hB
    subst hE
    exact kx _ σ' hp H1 locs1 ls ce q9 hB hS h3 hc9 hv9 hcl9
  · rintro r σ' t H1 locs1 ht hvm ⟨z, rfl, hp⟩ hB hz1 hk1 hS
    rw [ht] at hB
    exact kk z σ' hp H1 locs1 ls hB hS h3
theorem J_XSL (C : Cx p l e R s m args below meth c cy D ad A nL cc own Ts) {y : MethodName} {bytes : ByteArray} {maxL mc ms n idx : Nat} {ret : Option FieldType} {ws' : List Cond} {rm : Room} {As rest : List Value} {post : Int → Sg → Prop} {xp : String → Sg → Prop} (hM : XL l y ws' rm cy D ad σ As post xp mc ms) (cw : CallB R s args own idx y bytes maxL ret ws' rm mc ms n ∧ (Cond.static y).before args s = true) (hst : st = As.reverse ++ rest) (hn : As.length = n) (hW : (rest.map fun v => v.category).sum ≤ 8) (d : decode cc pc = .ok (.invokestatic idx, 3)) (hf : cells + mc ≤ R.cells ∧ slots + ms ≤ R.slots) (kx : ∀ (E : String) (σ' : Sg), xp E σ' → JX p l e R s m args below meth c cy D ad A nL (cells + mc) (slots + ms) Q σ' pc lv rest E) (kk : ∀ (z : Int) (σ' : Sg), post z σ' → JW p l e R s m args below meth c cy D ad A nL (cells + mc) (slots + ms) Q σ' (pc + 3) lv (.long (lI z) :: rest)) : JW p l e R s m args below meth c cy D ad A nL cells slots Q σ pc lv st := by
  intro H locs ls h1 h2 h3
  subst hst
  have hA : ∀ q, Ar ad H.size q → A q := fun q hq => C.2.2.1 q (hq.imp id (fun z => Nat.le_trans h2.1 z))
  refine vx_calll (vx_runS (As := As) (rest := rest) C.1 (hM H.size) cw ⟨J_forb, fun U hU hW => ⟨rfl, by rw [hU], by rw [hU]; exact h1, by rw [hU]; exact (Sx.at_ C.2.2.2.2.2.2 h2 C.2.2.2.1).warm hW⟩⟩ rfl hn h3.1 rfl (lv_room hW) d hf) h2 (fun q _ h => hA q h) hA (fun q _ h => hA q h) ?_ ?_
  · rintro E ce q9 ⟨σ', E'⟩ t H1 locs1 ht hvm hp ⟨hE, hB⟩ hz1 hk1 hS hc9 hv9 hcl9
    rw [ht] at hB
    dsimp only at hE hp hB
    subst hE
    exact kx _ σ' hp H1 locs1 ls ce q9 hB hS h3 hc9 hv9 hcl9
  · rintro r σ' t H1 locs1 ht hvm ⟨z, rfl, hp⟩ hB hz1 hk1 hS
    rw [ht] at hB
    exact kk z σ' hp H1 locs1 ls hB hS h3
theorem J_KVV (C : Cx p l e R s m args below meth c cy D ad A nL cc own Ts) {y : MethodName} {bytes : ByteArray} {maxL mc ms n idx : Nat} {ret : Option FieldType} {ws' : List Cond} {rm : Room} {As rest : List Value} {Cn : String} {kd : Nat} {k : Int} {post : Sg → Prop} (hM : KV l y ws' rm cy D ad σ (.ref (ad kd k) :: As) post mc ms) (cw : CallW R s args own Cn idx y bytes maxL ret ws' rm mc ms n) (hr : Rcv Cn kd) (hk : 0 ≤ k ∧ k < cnt kd) (hst : st = As.reverse ++ .ref (ad kd k) :: rest) (hn : As.length = n) (hW : (rest.map fun v => v.category).sum ≤ 8) (d : decode cc pc = .ok (.invokevirtual idx, 3)) (hf : cells + mc ≤ R.cells ∧ slots + ms ≤ R.slots) (kk : ∀ (σ' : Sg), post σ' → JW p l e R s m args below meth c cy D ad A nL (cells + mc) (slots + ms) Q σ' (pc + 3) lv (rest)) : JW p l e R s m args below meth c cy D ad A nL cells slots Q σ pc lv st := by
  intro H locs ls h1 h2 h3
  subst hst
  have hA : ∀ q, Ar ad H.size q → A q := fun q hq => C.2.2.1 q (hq.imp id (fun z => Nat.le_trans h2.1 z))
  refine va_callv (va_runV (As := As) (rest := rest) C.1 (hM H.size) cw ⟨J_forb, J_recv hr hk C.2.2.2.1.1 h1, fun U hU hW => ⟨rfl, by rw [hU], by rw [hU]; exact h1, by rw [hU]; exact (Sx.at_ C.2.2.2.2.2.2 h2 C.2.2.2.1).warm hW⟩⟩ rfl hn h3.1 rfl (lv_room hW) d hf) h2 (fun q _ h => hA q h) hA ?_
  rintro σ' t H1 locs1 ht hvm hp hB hz1 hk1 hS
  rw [ht] at hB
  exact kk σ' hp H1 locs1 ls hB hS h3
theorem J_KSV (C : Cx p l e R s m args below meth c cy D ad A nL cc own Ts) {y : MethodName} {bytes : ByteArray} {maxL mc ms n idx : Nat} {ret : Option FieldType} {ws' : List Cond} {rm : Room} {As rest : List Value} {post : Sg → Prop} (hM : KV l y ws' rm cy D ad σ As post mc ms) (cw : CallB R s args own idx y bytes maxL ret ws' rm mc ms n ∧ (Cond.static y).before args s = true) (hst : st = As.reverse ++ rest) (hn : As.length = n) (hW : (rest.map fun v => v.category).sum ≤ 8) (d : decode cc pc = .ok (.invokestatic idx, 3)) (hf : cells + mc ≤ R.cells ∧ slots + ms ≤ R.slots) (kk : ∀ (σ' : Sg), post σ' → JW p l e R s m args below meth c cy D ad A nL (cells + mc) (slots + ms) Q σ' (pc + 3) lv (rest)) : JW p l e R s m args below meth c cy D ad A nL cells slots Q σ pc lv st := by
  intro H locs ls h1 h2 h3
  subst hst
  have hA : ∀ q, Ar ad H.size q → A q := fun q hq => C.2.2.1 q (hq.imp id (fun z => Nat.le_trans h2.1 z))
  refine va_callv (va_runS (As := As) (rest := rest) C.1 (hM H.size) cw ⟨J_forb, fun U hU hW => ⟨rfl, by rw [hU], by rw [hU]; exact h1, by rw [hU]; exact (Sx.at_ C.2.2.2.2.2.2 h2 C.2.2.2.1).warm hW⟩⟩ rfl hn h3.1 rfl (lv_room hW) d hf) h2 (fun q _ h => hA q h) hA ?_
  rintro σ' t H1 locs1 ht hvm hp hB hz1 hk1 hS
  rw [ht] at hB
  exact kk σ' hp H1 locs1 ls hB hS h3
theorem J_KWV (C : Cx p l e R s m args below meth c cy D ad A nL cc own Ts) {y : MethodName} {bytes : ByteArray} {maxL mc ms n idx : Nat} {ret : Option FieldType} {ws' : List Cond} {rm : Room} {As rest : List Value} {hh : List (Nat × Nat × Nat × Nat)} {post : Sg → Prop} (hM : KV l y ws' rm cy D ad σ As post mc ms) (cw : vx_CSW R s args own idx y bytes maxL ret hh ws' rm mc ms n) (hst : st = As.reverse ++ rest) (hn : As.length = n) (hW : (rest.map fun v => v.category).sum ≤ 8) (d : decode cc pc = .ok (.invokestatic idx, 3)) (hf : cells + mc ≤ R.cells ∧ slots + ms ≤ R.slots) (kk : ∀ (σ' : Sg), post σ' → JW p l e R s m args below meth c cy D ad A nL (cells + mc) (slots + ms) Q σ' (pc + 3) lv (rest)) : JW p l e R s m args below meth c cy D ad A nL cells slots Q σ pc lv st := by
  intro H locs ls h1 h2 h3
  subst hst
  have hA : ∀ q, Ar ad H.size q → A q := fun q hq => C.2.2.1 q (hq.imp id (fun z => Nat.le_trans h2.1 z))
  refine va_callv (vx_runSW (As := As) (rest := rest) C.1 (hM H.size) cw ⟨J_forb, fun U hU hW => ⟨rfl, by rw [hU], by rw [hU]; exact h1, by rw [hU]; exact (Sx.at_ C.2.2.2.2.2.2 h2 C.2.2.2.1).warm hW⟩⟩ rfl hn h3.1 rfl (lv_room hW) d hf) h2 (fun q _ h => hA q h) hA ?_
  rintro σ' t H1 locs1 ht hvm hp hB hz1 hk1 hS
  rw [ht] at hB
  exact kk σ' hp H1 locs1 ls hB hS h3
theorem J_XVV (C : Cx p l e R s m args below meth c cy D ad A nL cc own Ts) {y : MethodName} {bytes : ByteArray} {maxL mc ms n idx : Nat} {ret : Option FieldType} {ws' : List Cond} {rm : Room} {As rest : List Value} {Cn : String} {kd : Nat} {k : Int} {post : Sg → Prop} {xp : String → Sg → Prop} (hM : XV l y ws' rm cy D ad σ (.ref (ad kd k) :: As) post xp mc ms) (cw : CallW R s args own Cn idx y bytes maxL ret ws' rm mc ms n) (hr : Rcv Cn kd) (hk : 0 ≤ k ∧ k < cnt kd) (hst : st = As.reverse ++ .ref (ad kd k) :: rest) (hn : As.length = n) (hW : (rest.map fun v => v.category).sum ≤ 8) (d : decode cc pc = .ok (.invokevirtual idx, 3)) (hf : cells + mc ≤ R.cells ∧ slots + ms ≤ R.slots) (kx : ∀ (E : String) (σ' : Sg), xp E σ' → JX p l e R s m args below meth c cy D ad A nL (cells + mc) (slots + ms) Q σ' pc lv rest E) (kk : ∀ (σ' : Sg), post σ' → JW p l e R s m args below meth c cy D ad A nL (cells + mc) (slots + ms) Q σ' (pc + 3) lv (rest)) : JW p l e R s m args below meth c cy D ad A nL cells slots Q σ pc lv st := by
  intro H locs ls h1 h2 h3
  subst hst
  have hA : ∀ q, Ar ad H.size q → A q := fun q hq => C.2.2.1 q (hq.imp id (fun z => Nat.le_trans h2.1 z))
  refine vx_callv (vx_runV (As := As) (rest := rest) C.1 (hM H.size) cw ⟨J_forb, J_recv hr hk C.2.2.2.1.1 h1, fun U hU hW => ⟨rfl, by rw [hU], by rw [hU]; exact h1, by rw [hU]; exact (Sx.at_ C.2.2.2.2.2.2 h2 C.2.2.2.1).warm hW⟩⟩ rfl hn h3.1 rfl (lv_room hW) d hf) h2 (fun q _ h => hA q h) hA (fun q _ h => hA q h) ?_ ?_
  · rintro E ce q9 ⟨σ', E'⟩ t H1 locs1 ht hvm hp ⟨hE, hB⟩ hz1 hk1 hS hc9 hv9 hcl9
    rw [ht] at hB
    dsimp only at hE hp hB
    subst hE
    exact kx _ σ' hp H1 locs1 ls ce q9 hB hS h3 hc9 hv9 hcl9
  · rintro σ' t H1 locs1 ht hvm hp hB hz1 hk1 hS
    rw [ht] at hB
    exact kk σ' hp H1 locs1 ls hB hS h3
theorem J_XSV (C : Cx p l e R s m args below meth c cy D ad A nL cc own Ts) {y : MethodName} {bytes : ByteArray} {maxL mc ms n idx : Nat} {ret : Option FieldType} {ws' : List Cond} {rm : Room} {As rest : List Value} {post : Sg → Prop} {xp : String → Sg → Prop} (hM : XV l y ws' rm cy D ad σ As post xp mc ms) (cw : CallB R s args own idx y bytes maxL ret ws' rm mc ms n ∧ (Cond.static y).before args s = true) (hst : st = As.reverse ++ rest) (hn : As.length = n) (hW : (rest.map fun v => v.category).sum ≤ 8) (d : decode cc pc = .ok (.invokestatic idx, 3)) (hf : cells + mc ≤ R.cells ∧ slots + ms ≤ R.slots) (kx : ∀ (E : String) (σ' : Sg), xp E σ' → JX p l e R s m args below meth c cy D ad A nL (cells + mc) (slots + ms) Q σ' pc lv rest E) (kk : ∀ (σ' : Sg), post σ' → JW p l e R s m args below meth c cy D ad A nL (cells + mc) (slots + ms) Q σ' (pc + 3) lv (rest)) : JW p l e R s m args below meth c cy D ad A nL cells slots Q σ pc lv st := by
  intro H locs ls h1 h2 h3
  subst hst
  have hA : ∀ q, Ar ad H.size q → A q := fun q hq => C.2.2.1 q (hq.imp id (fun z => Nat.le_trans h2.1 z))
  refine vx_callv (vx_runS (As := As) (rest := rest) C.1 (hM H.size) cw ⟨J_forb, fun U hU hW => ⟨rfl, by rw [hU], by rw [hU]; exact h1, by rw [hU]; exact (Sx.at_ C.2.2.2.2.2.2 h2 C.2.2.2.1).warm hW⟩⟩ rfl hn h3.1 rfl (lv_room hW) d hf) h2 (fun q _ h => hA q h) hA (fun q _ h => hA q h) ?_ ?_
  · rintro E ce q9 ⟨σ', E'⟩ t H1 locs1 ht hvm hp ⟨hE, hB⟩ hz1 hk1 hS hc9 hv9 hcl9
    rw [ht] at hB
    dsimp only at hE hp hB
    subst hE
    exact kx _ σ' hp H1 locs1 ls ce q9 hB hS h3 hc9 hv9 hcl9
  · rintro σ' t H1 locs1 ht hvm hp hB hz1 hk1 hS
    rw [ht] at hB
    exact kk σ' hp H1 locs1 ls hB hS h3
theorem J_retI {l : Launch} (C : Cx p l e R s m args below meth c cy D ad (Ar ad s.heap.size) nL cc own Ts) {post : Int → Sg → Prop} {mc ms : Nat} {z : Int} (hr : meth.sig.returnType = some .int) (hc : cells ≤ mc) (hs : slots ≤ ms) (d : decode cc pc = .ok (.ireturn, 1)) (hp : post z σ) : JW p l e R s m args below meth c cy D ad (Ar ad s.heap.size) nL cells slots (MQ below (QcI cy D ad post s.heap.size) args s mc ms (Ar ad s.heap.size)) σ pc lv [.int (iI z)] := by
  intro H locs ls h1 h2 h3
  refine W.widen hc hs ?_
  exact W.iret C.1.1 C.1.2.1 hr (fun t ht hW => ⟨⟨_, σ, rfl, ⟨z, rfl, hp⟩, by show Wd cy D ad σ t.heap; rw [ht]; exact h1⟩, h2.F ht⟩) h2.2.2 d C.2.2.2.2.1
theorem J_retZ {l : Launch} (C : Cx p l e R s m args below meth c cy D ad (Ar ad s.heap.size) nL cc own Ts) {post : Int → Sg → Prop} {mc ms : Nat} {z : Int} (hr : meth.sig.returnType = some .boolean) (hb : z = 0 ∨ z = 1) (hc : cells ≤ mc) (hs : slots ≤ ms) (d : decode cc pc = .ok (.ireturn, 1)) (hp : post z σ) : JW p l e R s m args below meth c cy D ad (Ar ad s.heap.size) nL cells slots (MQ below (QcI cy D ad post s.heap.size) args s mc ms (Ar ad s.heap.size)) σ pc lv [.int (iI z)] := by
  intro H locs ls h1 h2 h3
  refine W.widen hc hs ?_
  exact W.zret C.1.1 C.1.2.1 hr (by rcases hb with rfl | rfl <;> rfl) (fun t ht hW => ⟨⟨_, σ, rfl, ⟨z, rfl, hp⟩, by show Wd cy D ad σ t.heap; rw [ht]; exact h1⟩, h2.F ht⟩) h2.2.2 d C.2.2.2.2.1
theorem J_retL {l : Launch} (C : Cx p l e R s m args below meth c cy D ad (Ar ad s.heap.size) nL cc own Ts) {post : Int → Sg → Prop} {mc ms : Nat} {z : Int} (hr : meth.sig.returnType = some .long) (hc : cells ≤ mc) (hs : slots ≤ ms) (d : decode cc pc = .ok (.lreturn, 1)) (hp : post z σ) : JW p l e R s m args below meth c cy D ad (Ar ad s.heap.size) nL cells slots (MQ below (QcL cy D ad post s.heap.size) args s mc ms (Ar ad s.heap.size)) σ pc lv [.long (lI z)] := by
  intro H locs ls h1 h2 h3
  refine W.widen hc hs ?_
  exact W.lret C.1.1 C.1.2.1 hr (fun t ht hW => ⟨⟨_, σ, rfl, ⟨z, rfl, hp⟩, by show Wd cy D ad σ t.heap; rw [ht]; exact h1⟩, h2.F ht⟩) h2.2.2 d C.2.2.2.2.1
theorem J_retV {l : Launch} (C : Cx p l e R s m args below meth c cy D ad (Ar ad s.heap.size) nL cc own Ts) {post : Sg → Prop} {mc ms : Nat} (hr : meth.sig.returnType = none) (hc : cells ≤ mc) (hs : slots ≤ ms) (d : decode cc pc = .ok (.return_, 1)) (hp : post σ) : JW p l e R s m args below meth c cy D ad (Ar ad s.heap.size) nL cells slots (MQ below (QcV cy D ad post s.heap.size) args s mc ms (Ar ad s.heap.size)) σ pc lv [] := by
  intro H locs ls h1 h2 h3
  refine W.widen hc hs ?_
  exact W.vret C.1.1 C.1.2.1 hr (fun t ht hW => ⟨⟨σ, rfl, hp, by show Wd cy D ad σ t.heap; rw [ht]; exact h1⟩, h2.F ht⟩) h2.2.2 d C.2.2.2.2.1
theorem J_vx {Qc : Array Value → State → Outcome → State → Prop} {XC : String → State → State → Prop} {mc ms : Nat} {free : Addr → Prop} (k : JW p l e R s m args below meth c cy D ad A nL cells slots (MQ below Qc args s mc ms free) σ pc lv st) : JW p l e R s m args below meth c cy D ad A nL cells slots (vx_MQ below Qc XC args s mc ms free) σ pc lv st := fun H locs ls h1 h2 h3 => vx_ret (k H locs ls h1 h2 h3)
theorem J_out {l : Launch} (C : Cx p l e R s m args below meth c cy D ad (Ar ad s.heap.size) nL cc own Ts) {Qc : Array Value → State → Outcome → State → Prop} {xp : String → Sg → Prop} {mc ms : Nat} {E : String} (hT : ∀ x ∈ c.exceptionTable.toList, False) (hc : cells ≤ mc) (hs : slots ≤ ms) (hp : xp E σ) : JX p l e R s m args below meth c cy D ad (Ar ad s.heap.size) nL cells slots (vx_MQ below Qc (XcW cy D ad xp s.heap.size) args s mc ms (Ar ad s.heap.size)) σ pc lv st E := by
  intro H locs ls ce q h1 h2 h3 hc9 hv9 hcl9
  exact vx_out (fun x hx => (hT x hx).elim) C.2.2.2.2.1 hc9 hv9 hcl9 (fun t ht hW => ⟨(σ, E), hp, ⟨rfl, by show Wd cy D ad σ t.heap; rw [ht]; exact h1⟩, h2.F ht⟩) h2.2.2 hc hs
theorem thw_IAE : ∀ w ∈ vx_atS RX3 76 nIAE nms, w ∈ thw := by
  intro w hw
  unfold thw
  exact List.mem_append_left _ hw
theorem J_throw_IAE {l : Launch} (C : Cx p l e R s m args below meth c cy D ad (Ar ad s.heap.size) nL cc RX3 Ts) {Qc : Array Value → State → Outcome → State → Prop} {xp : String → Sg → Prop} {mc ms ik is : Nat} {text : String} (hT : ∀ x ∈ c.exceptionTable.toList, False) (hk : Cond.classLink RX3 ik nIAE ∈ Ts) (hi : Cond.initialized nIAE ∈ Ts) (hstr : (is, text) ∈ strs) (hc : cells + 1 ≤ mc) (hs : slots + 6 ≤ ms) (hrf : 5 < R.frames) (hrl : 82 ≤ R.locals) (hf : cells + 1 ≤ R.cells ∧ slots + 6 ≤ R.slots) (d0 : decode cc pc = .ok (.new ik, 3)) (d3 : decode cc (pc + 3) = .ok (.dup, 1)) (d4 : decode cc (pc + 4) = .ok (.ldc is, 2)) (d6 : decode cc (pc + 6) = .ok (.invokespecial 76, 3)) (d9 : decode cc (pc + 9) = .ok (.athrow, 1)) (hp : xp nIAE σ) : JW p l e R s m args below meth c cy D ad (Ar ad s.heap.size) nL cells slots (vx_MQ below Qc (XcW cy D ad xp s.heap.size) args s mc ms (Ar ad s.heap.size)) σ pc lv [] := by
  intro H locs ls h1 h2 h3
  obtain ⟨sa, hsa⟩ := C.2.2.2.1.2.2.2.1 (is, text) hstr
  refine vx_throwS (cls := nIAE) (text := text) (names := nms) (sa := sa) (ik := ik) (is := is) (ic := 76) C.1.1 C.1.2.1 C.2.2.2.2.2.1 C.1.2.2.2.1 (by decide +kernel) (by decide +kernel) (C.1.2.2.2.2 _ hk) (C.1.2.2.2.2 _ hi) hsa (fun w hw => ?_) (fun w hw => ?_) (Zq_up C.2.2.2.1.2.1) (Zq_up C.2.2.2.1.2.2.1) h2 (h3.1.trans C.1.2.2.1.symm) d0 d3 d4 d6 d9 (fun x hx => (hT x hx).elim) hrf hrl hf.1 hf.2 C.2.2.2.2.1 (fun t hW hz hk9 => ?_) h2.2.2 hc hs
  · have h5 := List.all_eq_true.mp thw_face w (thw_IAE w hw)
    simp only [Bool.and_eq_true] at h5
    exact va_tabs (u := s) h5.2 rfl (C.2.2.2.1.2.2.2.2.1 w (thw_IAE w hw))
  · rcases List.mem_cons.mp hw with rfl | hw
    · rfl
    · rcases List.mem_cons.mp hw with rfl | hw
      · rfl
      · exact List.all_eq_true.mp thw_ot w (thw_IAE w hw)
  · refine ⟨(σ, nIAE), hp, ⟨rfl, fun a b e1 e2 => (h1 a b e1 e2).kept (hk9 _ (h1 a b e1 e2).lt)⟩, Nat.le_trans h2.1 hz, fun q e1 e2 => ?_⟩
    rw [hk9 q (Nat.lt_of_lt_of_le e1 h2.1)]
    exact h2.2.1 q e1 e2
theorem thw_ISE : ∀ w ∈ vx_atS RX3 83 nISE nms, w ∈ thw := by
  intro w hw
  unfold thw
  exact List.mem_append_right _ (List.mem_append_left _ hw)
theorem J_throw_ISE {l : Launch} (C : Cx p l e R s m args below meth c cy D ad (Ar ad s.heap.size) nL cc RX3 Ts) {Qc : Array Value → State → Outcome → State → Prop} {xp : String → Sg → Prop} {mc ms ik is : Nat} {text : String} (hT : ∀ x ∈ c.exceptionTable.toList, False) (hk : Cond.classLink RX3 ik nISE ∈ Ts) (hi : Cond.initialized nISE ∈ Ts) (hstr : (is, text) ∈ strs) (hc : cells + 1 ≤ mc) (hs : slots + 6 ≤ ms) (hrf : 5 < R.frames) (hrl : 82 ≤ R.locals) (hf : cells + 1 ≤ R.cells ∧ slots + 6 ≤ R.slots) (d0 : decode cc pc = .ok (.new ik, 3)) (d3 : decode cc (pc + 3) = .ok (.dup, 1)) (d4 : decode cc (pc + 4) = .ok (.ldc is, 2)) (d6 : decode cc (pc + 6) = .ok (.invokespecial 83, 3)) (d9 : decode cc (pc + 9) = .ok (.athrow, 1)) (hp : xp nISE σ) : JW p l e R s m args below meth c cy D ad (Ar ad s.heap.size) nL cells slots (vx_MQ below Qc (XcW cy D ad xp s.heap.size) args s mc ms (Ar ad s.heap.size)) σ pc lv [] := by
  intro H locs ls h1 h2 h3
  obtain ⟨sa, hsa⟩ := C.2.2.2.1.2.2.2.1 (is, text) hstr
  refine vx_throwS (cls := nISE) (text := text) (names := nms) (sa := sa) (ik := ik) (is := is) (ic := 83) C.1.1 C.1.2.1 C.2.2.2.2.2.1 C.1.2.2.2.1 (by decide +kernel) (by decide +kernel) (C.1.2.2.2.2 _ hk) (C.1.2.2.2.2 _ hi) hsa (fun w hw => ?_) (fun w hw => ?_) (Zq_up C.2.2.2.1.2.1) (Zq_up C.2.2.2.1.2.2.1) h2 (h3.1.trans C.1.2.2.1.symm) d0 d3 d4 d6 d9 (fun x hx => (hT x hx).elim) hrf hrl hf.1 hf.2 C.2.2.2.2.1 (fun t hW hz hk9 => ?_) h2.2.2 hc hs
  · have h5 := List.all_eq_true.mp thw_face w (thw_ISE w hw)
    simp only [Bool.and_eq_true] at h5
    exact va_tabs (u := s) h5.2 rfl (C.2.2.2.1.2.2.2.2.1 w (thw_ISE w hw))
  · rcases List.mem_cons.mp hw with rfl | hw
    · rfl
    · rcases List.mem_cons.mp hw with rfl | hw
      · rfl
      · exact List.all_eq_true.mp thw_ot w (thw_ISE w hw)
  · refine ⟨(σ, nISE), hp, ⟨rfl, fun a b e1 e2 => (h1 a b e1 e2).kept (hk9 _ (h1 a b e1 e2).lt)⟩, Nat.le_trans h2.1 hz, fun q e1 e2 => ?_⟩
    rw [hk9 q (Nat.lt_of_lt_of_le e1 h2.1)]
    exact h2.2.1 q e1 e2
theorem thw_IOE : ∀ w ∈ vx_atS RX3 200 nIOE nms, w ∈ thw := by
  intro w hw
  unfold thw
  exact List.mem_append_right _ (List.mem_append_right _ hw)
theorem J_throw_IOE {l : Launch} (C : Cx p l e R s m args below meth c cy D ad (Ar ad s.heap.size) nL cc RX3 Ts) {Qc : Array Value → State → Outcome → State → Prop} {xp : String → Sg → Prop} {mc ms ik is : Nat} {text : String} (hT : ∀ x ∈ c.exceptionTable.toList, False) (hk : Cond.classLink RX3 ik nIOE ∈ Ts) (hi : Cond.initialized nIOE ∈ Ts) (hstr : (is, text) ∈ strs) (hc : cells + 1 ≤ mc) (hs : slots + 6 ≤ ms) (hrf : 5 < R.frames) (hrl : 82 ≤ R.locals) (hf : cells + 1 ≤ R.cells ∧ slots + 6 ≤ R.slots) (d0 : decode cc pc = .ok (.new ik, 3)) (d3 : decode cc (pc + 3) = .ok (.dup, 1)) (d4 : decode cc (pc + 4) = .ok (.ldc is, 2)) (d6 : decode cc (pc + 6) = .ok (.invokespecial 200, 3)) (d9 : decode cc (pc + 9) = .ok (.athrow, 1)) (hp : xp nIOE σ) : JW p l e R s m args below meth c cy D ad (Ar ad s.heap.size) nL cells slots (vx_MQ below Qc (XcW cy D ad xp s.heap.size) args s mc ms (Ar ad s.heap.size)) σ pc lv [] := by
  intro H locs ls h1 h2 h3
  obtain ⟨sa, hsa⟩ := C.2.2.2.1.2.2.2.1 (is, text) hstr
  refine vx_throwS (cls := nIOE) (text := text) (names := nms) (sa := sa) (ik := ik) (is := is) (ic := 200) C.1.1 C.1.2.1 C.2.2.2.2.2.1 C.1.2.2.2.1 (by decide +kernel) (by decide +kernel) (C.1.2.2.2.2 _ hk) (C.1.2.2.2.2 _ hi) hsa (fun w hw => ?_) (fun w hw => ?_) (Zq_up C.2.2.2.1.2.1) (Zq_up C.2.2.2.1.2.2.1) h2 (h3.1.trans C.1.2.2.1.symm) d0 d3 d4 d6 d9 (fun x hx => (hT x hx).elim) hrf hrl hf.1 hf.2 C.2.2.2.2.1 (fun t hW hz hk9 => ?_) h2.2.2 hc hs
  · have h5 := List.all_eq_true.mp thw_face w (thw_IOE w hw)
    simp only [Bool.and_eq_true] at h5
    exact va_tabs (u := s) h5.2 rfl (C.2.2.2.1.2.2.2.2.1 w (thw_IOE w hw))
  · rcases List.mem_cons.mp hw with rfl | hw
    · rfl
    · rcases List.mem_cons.mp hw with rfl | hw
      · rfl
      · exact List.all_eq_true.mp thw_ot w (thw_IOE w hw)
  · refine ⟨(σ, nIOE), hp, ⟨rfl, fun a b e1 e2 => (h1 a b e1 e2).kept (hk9 _ (h1 a b e1 e2).lt)⟩, Nat.le_trans h2.1 hz, fun q e1 e2 => ?_⟩
    rw [hk9 q (Nat.lt_of_lt_of_le e1 h2.1)]
    exact h2.2.1 q e1 e2
theorem KI.of {l : Launch} {y : MethodName} {ws ws0 : List Cond} {rm : Room} {cc : ByteArray} {maxL : Nat} {ret : Option FieldType} {σ : Sg} {av : List Value} {post : Int → Sg → Prop} {mc ms : Nat} {lv0 : List (Option Value)} (hl : l.stackTraces = false) (hI : Inj ad) (hy : plainName y.cls = true) (hw : ws = Cond.code y cc maxL ret :: ws0) (hlen : (lg_sl av).length ≤ maxL) (hlv : lhL lv0 = lv_args 0 av)
    (body : ∀ (p : Program) (e : Env) (s : State) (m : MethodId) (args : Array Value) (below : List Frame) (meth : Method) (c : Code), Cx p l e rm s m args below meth c cy D ad (Ar ad s.heap.size) maxL cc y.cls ws → meth.sig.returnType = ret → JW p l e rm s m args below meth c cy D ad (Ar ad s.heap.size) maxL 0 0 (MQ below (QcI cy D ad post s.heap.size) args s mc ms (Ar ad s.heap.size)) σ 0 lv0 []) : KI l y ws rm cy D ad σ av post mc ms := by
  intro sz
  refine Met.ofW (cc := cc) (maxL := maxL) (ret := ret) hy hw ?_
  intro p e s m args below meth c s₁ B hml hv
  obtain ⟨rfl, hsz, hP, hX⟩ := hv
  subst hsz
  have C : Cx p l e rm s m av.toArray below meth c cy D ad (Ar ad s.heap.size) maxL cc y.cls ws := ⟨⟨B.exec, B.bytes, hml, findClass_of_methodNamed B.named, atoms_spec (ws := ws) B.pre⟩, hI, fun _ h => h, hX, B.notSynchronized, hl, fun _ h => h⟩
  have hl := lv_entry av (n := maxL) hlen
  rw [lg_entry_eq]
  generalize (lg_sl av ++ List.replicate (maxL - (lg_sl av).length) Slot.unset).toArray = ls at hl ⊢
  exact body p e s m av.toArray below meth c C B.returns s.heap [] ls hP va_S.rf ⟨hl.1, hl.2.1, fun i v h => hl.2.2 (i, v) (by rw [← hlv]; exact lhL_mem.mpr h)⟩
theorem XI.of {l : Launch} {y : MethodName} {ws ws0 : List Cond} {rm : Room} {cc : ByteArray} {maxL : Nat} {ret : Option FieldType} {σ : Sg} {av : List Value} {post : Int → Sg → Prop} {xp : String → Sg → Prop} {mc ms : Nat} {lv0 : List (Option Value)} (hl : l.stackTraces = false) (hI : Inj ad) (hy : plainName y.cls = true) (hw : ws = Cond.code y cc maxL ret :: ws0) (hlen : (lg_sl av).length ≤ maxL) (hlv : lhL lv0 = lv_args 0 av)
    (body : ∀ (p : Program) (e : Env) (s : State) (m : MethodId) (args : Array Value) (below : List Frame) (meth : Method) (c : Code), Cx p l e rm s m args below meth c cy D ad (Ar ad s.heap.size) maxL cc y.cls ws → meth.sig.returnType = ret → (∀ x ∈ c.exceptionTable.toList, False) → JW p l e rm s m args below meth c cy D ad (Ar ad s.heap.size) maxL 0 0 (vx_MQ below (QcI cy D ad post s.heap.size) (XcW cy D ad xp s.heap.size) args s mc ms (Ar ad s.heap.size)) σ 0 lv0 []) : XI l y ws rm cy D ad σ av post xp mc ms := by
  intro sz
  refine vx_ofW (cc := cc) (maxL := maxL) (ret := ret) hy hw ?_
  intro p e s m args below meth c s₁ B hml hT hv
  obtain ⟨rfl, hsz, hP, hX⟩ := hv
  subst hsz
  have C : Cx p l e rm s m av.toArray below meth c cy D ad (Ar ad s.heap.size) maxL cc y.cls ws := ⟨⟨B.exec, B.bytes, hml, findClass_of_methodNamed B.named, atoms_spec (ws := ws) B.pre⟩, hI, fun _ h => h, hX, B.notSynchronized, hl, fun _ h => h⟩
  have hl := lv_entry av (n := maxL) hlen
  rw [lg_entry_eq]
  generalize (lg_sl av ++ List.replicate (maxL - (lg_sl av).length) Slot.unset).toArray = ls at hl ⊢
  exact body p e s m av.toArray below meth c C B.returns hT s.heap [] ls hP va_S.rf ⟨hl.1, hl.2.1, fun i v h => hl.2.2 (i, v) (by rw [← hlv]; exact lhL_mem.mpr h)⟩
theorem WI.of {l : Launch} {y : MethodName} {ws ws0 : List Cond} {rm : Room} {cc : ByteArray} {maxL : Nat} {ret : Option FieldType} {hh : List (Nat × Nat × Nat × Nat)} {σ : Sg} {av : List Value} {post : Int → Sg → Prop} {mc ms : Nat} {lv0 : List (Option Value)} (hl : l.stackTraces = false) (hI : Inj ad) (hy : plainName y.cls = true) (hw : ws = Cond.codeWith y cc maxL ret hh :: ws0) (hlen : (lg_sl av).length ≤ maxL) (hlv : lhL lv0 = lv_args 0 av)
    (body : ∀ (p : Program) (e : Env) (s : State) (m : MethodId) (args : Array Value) (below : List Frame) (meth : Method) (c : Code), Cx p l e rm s m args below meth c cy D ad (Ar ad s.heap.size) maxL cc y.cls ws → meth.sig.returnType = ret → c.exceptionTable.toList = tableOf hh → JW p l e rm s m args below meth c cy D ad (Ar ad s.heap.size) maxL 0 0 (MQ below (QcI cy D ad post s.heap.size) args s mc ms (Ar ad s.heap.size)) σ 0 lv0 []) : KI l y ws rm cy D ad σ av post mc ms := by
  intro sz
  refine va_MetW (cc := cc) (maxL := maxL) (ret := ret) (hh := hh) hy hw ?_
  intro p e s m args below meth c s₁ B hml hv
  obtain ⟨rfl, hsz, hP, hX⟩ := hv
  subst hsz
  have C : Cx p l e rm s m av.toArray below meth c cy D ad (Ar ad s.heap.size) maxL cc y.cls ws := ⟨⟨B.exec, B.bytes, hml, findClass_of_methodNamed B.named, atoms_spec (ws := ws) B.pre⟩, hI, fun _ h => h, hX, B.notSynchronized, hl, fun _ h => h⟩
  have hl := lv_entry av (n := maxL) hlen
  rw [lg_entry_eq]
  generalize (lg_sl av ++ List.replicate (maxL - (lg_sl av).length) Slot.unset).toArray = ls at hl ⊢
  exact body p e s m av.toArray below meth c C B.returns (vx_table (x := y) B (atoms_spec (ws := ws) B.pre _ (by rw [hw]; exact List.mem_cons_self))) s.heap [] ls hP va_S.rf ⟨hl.1, hl.2.1, fun i v h => hl.2.2 (i, v) (by rw [← hlv]; exact lhL_mem.mpr h)⟩
theorem KL.of {l : Launch} {y : MethodName} {ws ws0 : List Cond} {rm : Room} {cc : ByteArray} {maxL : Nat} {ret : Option FieldType} {σ : Sg} {av : List Value} {post : Int → Sg → Prop} {mc ms : Nat} {lv0 : List (Option Value)} (hl : l.stackTraces = false) (hI : Inj ad) (hy : plainName y.cls = true) (hw : ws = Cond.code y cc maxL ret :: ws0) (hlen : (lg_sl av).length ≤ maxL) (hlv : lhL lv0 = lv_args 0 av)
    (body : ∀ (p : Program) (e : Env) (s : State) (m : MethodId) (args : Array Value) (below : List Frame) (meth : Method) (c : Code), Cx p l e rm s m args below meth c cy D ad (Ar ad s.heap.size) maxL cc y.cls ws → meth.sig.returnType = ret → JW p l e rm s m args below meth c cy D ad (Ar ad s.heap.size) maxL 0 0 (MQ below (QcL cy D ad post s.heap.size) args s mc ms (Ar ad s.heap.size)) σ 0 lv0 []) : KL l y ws rm cy D ad σ av post mc ms := by
  intro sz
  refine Met.ofW (cc := cc) (maxL := maxL) (ret := ret) hy hw ?_
  intro p e s m args below meth c s₁ B hml hv
  obtain ⟨rfl, hsz, hP, hX⟩ := hv
  subst hsz
  have C : Cx p l e rm s m av.toArray below meth c cy D ad (Ar ad s.heap.size) maxL cc y.cls ws := ⟨⟨B.exec, B.bytes, hml, findClass_of_methodNamed B.named, atoms_spec (ws := ws) B.pre⟩, hI, fun _ h => h, hX, B.notSynchronized, hl, fun _ h => h⟩
  have hl := lv_entry av (n := maxL) hlen
  rw [lg_entry_eq]
  generalize (lg_sl av ++ List.replicate (maxL - (lg_sl av).length) Slot.unset).toArray = ls at hl ⊢
  exact body p e s m av.toArray below meth c C B.returns s.heap [] ls hP va_S.rf ⟨hl.1, hl.2.1, fun i v h => hl.2.2 (i, v) (by rw [← hlv]; exact lhL_mem.mpr h)⟩
theorem XL.of {l : Launch} {y : MethodName} {ws ws0 : List Cond} {rm : Room} {cc : ByteArray} {maxL : Nat} {ret : Option FieldType} {σ : Sg} {av : List Value} {post : Int → Sg → Prop} {xp : String → Sg → Prop} {mc ms : Nat} {lv0 : List (Option Value)} (hl : l.stackTraces = false) (hI : Inj ad) (hy : plainName y.cls = true) (hw : ws = Cond.code y cc maxL ret :: ws0) (hlen : (lg_sl av).length ≤ maxL) (hlv : lhL lv0 = lv_args 0 av)
    (body : ∀ (p : Program) (e : Env) (s : State) (m : MethodId) (args : Array Value) (below : List Frame) (meth : Method) (c : Code), Cx p l e rm s m args below meth c cy D ad (Ar ad s.heap.size) maxL cc y.cls ws → meth.sig.returnType = ret → (∀ x ∈ c.exceptionTable.toList, False) → JW p l e rm s m args below meth c cy D ad (Ar ad s.heap.size) maxL 0 0 (vx_MQ below (QcL cy D ad post s.heap.size) (XcW cy D ad xp s.heap.size) args s mc ms (Ar ad s.heap.size)) σ 0 lv0 []) : XL l y ws rm cy D ad σ av post xp mc ms := by
  intro sz
  refine vx_ofW (cc := cc) (maxL := maxL) (ret := ret) hy hw ?_
  intro p e s m args below meth c s₁ B hml hT hv
  obtain ⟨rfl, hsz, hP, hX⟩ := hv
  subst hsz
  have C : Cx p l e rm s m av.toArray below meth c cy D ad (Ar ad s.heap.size) maxL cc y.cls ws := ⟨⟨B.exec, B.bytes, hml, findClass_of_methodNamed B.named, atoms_spec (ws := ws) B.pre⟩, hI, fun _ h => h, hX, B.notSynchronized, hl, fun _ h => h⟩
  have hl := lv_entry av (n := maxL) hlen
  rw [lg_entry_eq]
  generalize (lg_sl av ++ List.replicate (maxL - (lg_sl av).length) Slot.unset).toArray = ls at hl ⊢
  exact body p e s m av.toArray below meth c C B.returns hT s.heap [] ls hP va_S.rf ⟨hl.1, hl.2.1, fun i v h => hl.2.2 (i, v) (by rw [← hlv]; exact lhL_mem.mpr h)⟩
theorem WL.of {l : Launch} {y : MethodName} {ws ws0 : List Cond} {rm : Room} {cc : ByteArray} {maxL : Nat} {ret : Option FieldType} {hh : List (Nat × Nat × Nat × Nat)} {σ : Sg} {av : List Value} {post : Int → Sg → Prop} {mc ms : Nat} {lv0 : List (Option Value)} (hl : l.stackTraces = false) (hI : Inj ad) (hy : plainName y.cls = true) (hw : ws = Cond.codeWith y cc maxL ret hh :: ws0) (hlen : (lg_sl av).length ≤ maxL) (hlv : lhL lv0 = lv_args 0 av)
    (body : ∀ (p : Program) (e : Env) (s : State) (m : MethodId) (args : Array Value) (below : List Frame) (meth : Method) (c : Code), Cx p l e rm s m args below meth c cy D ad (Ar ad s.heap.size) maxL cc y.cls ws → meth.sig.returnType = ret → c.exceptionTable.toList = tableOf hh → JW p l e rm s m args below meth c cy D ad (Ar ad s.heap.size) maxL 0 0 (MQ below (QcL cy D ad post s.heap.size) args s mc ms (Ar ad s.heap.size)) σ 0 lv0 []) : KL l y ws rm cy D ad σ av post mc ms := by
  intro sz
  refine va_MetW (cc := cc) (maxL := maxL) (ret := ret) (hh := hh) hy hw ?_
  intro p e s m args below meth c s₁ B hml hv
  obtain ⟨rfl, hsz, hP, hX⟩ := hv
  subst hsz
  have C : Cx p l e rm s m av.toArray below meth c cy D ad (Ar ad s.heap.size) maxL cc y.cls ws := ⟨⟨B.exec, B.bytes, hml, findClass_of_methodNamed B.named, atoms_spec (ws := ws) B.pre⟩, hI, fun _ h => h, hX, B.notSynchronized, hl, fun _ h => h⟩
  have hl := lv_entry av (n := maxL) hlen
  rw [lg_entry_eq]
  generalize (lg_sl av ++ List.replicate (maxL - (lg_sl av).length) Slot.unset).toArray = ls at hl ⊢
  exact body p e s m av.toArray below meth c C B.returns (vx_table (x := y) B (atoms_spec (ws := ws) B.pre _ (by rw [hw]; exact List.mem_cons_self))) s.heap [] ls hP va_S.rf ⟨hl.1, hl.2.1, fun i v h => hl.2.2 (i, v) (by rw [← hlv]; exact lhL_mem.mpr h)⟩
theorem KV.of {l : Launch} {y : MethodName} {ws ws0 : List Cond} {rm : Room} {cc : ByteArray} {maxL : Nat} {ret : Option FieldType} {σ : Sg} {av : List Value} {post : Sg → Prop} {mc ms : Nat} {lv0 : List (Option Value)} (hl : l.stackTraces = false) (hI : Inj ad) (hy : plainName y.cls = true) (hw : ws = Cond.code y cc maxL ret :: ws0) (hlen : (lg_sl av).length ≤ maxL) (hlv : lhL lv0 = lv_args 0 av)
    (body : ∀ (p : Program) (e : Env) (s : State) (m : MethodId) (args : Array Value) (below : List Frame) (meth : Method) (c : Code), Cx p l e rm s m args below meth c cy D ad (Ar ad s.heap.size) maxL cc y.cls ws → meth.sig.returnType = ret → JW p l e rm s m args below meth c cy D ad (Ar ad s.heap.size) maxL 0 0 (MQ below (QcV cy D ad post s.heap.size) args s mc ms (Ar ad s.heap.size)) σ 0 lv0 []) : KV l y ws rm cy D ad σ av post mc ms := by
  intro sz
  refine Met.ofW (cc := cc) (maxL := maxL) (ret := ret) hy hw ?_
  intro p e s m args below meth c s₁ B hml hv
  obtain ⟨rfl, hsz, hP, hX⟩ := hv
  subst hsz
  have C : Cx p l e rm s m av.toArray below meth c cy D ad (Ar ad s.heap.size) maxL cc y.cls ws := ⟨⟨B.exec, B.bytes, hml, findClass_of_methodNamed B.named, atoms_spec (ws := ws) B.pre⟩, hI, fun _ h => h, hX, B.notSynchronized, hl, fun _ h => h⟩
  have hl := lv_entry av (n := maxL) hlen
  rw [lg_entry_eq]
  generalize (lg_sl av ++ List.replicate (maxL - (lg_sl av).length) Slot.unset).toArray = ls at hl ⊢
  exact body p e s m av.toArray below meth c C B.returns s.heap [] ls hP va_S.rf ⟨hl.1, hl.2.1, fun i v h => hl.2.2 (i, v) (by rw [← hlv]; exact lhL_mem.mpr h)⟩
theorem XV.of {l : Launch} {y : MethodName} {ws ws0 : List Cond} {rm : Room} {cc : ByteArray} {maxL : Nat} {ret : Option FieldType} {σ : Sg} {av : List Value} {post : Sg → Prop} {xp : String → Sg → Prop} {mc ms : Nat} {lv0 : List (Option Value)} (hl : l.stackTraces = false) (hI : Inj ad) (hy : plainName y.cls = true) (hw : ws = Cond.code y cc maxL ret :: ws0) (hlen : (lg_sl av).length ≤ maxL) (hlv : lhL lv0 = lv_args 0 av)
    (body : ∀ (p : Program) (e : Env) (s : State) (m : MethodId) (args : Array Value) (below : List Frame) (meth : Method) (c : Code), Cx p l e rm s m args below meth c cy D ad (Ar ad s.heap.size) maxL cc y.cls ws → meth.sig.returnType = ret → (∀ x ∈ c.exceptionTable.toList, False) → JW p l e rm s m args below meth c cy D ad (Ar ad s.heap.size) maxL 0 0 (vx_MQ below (QcV cy D ad post s.heap.size) (XcW cy D ad xp s.heap.size) args s mc ms (Ar ad s.heap.size)) σ 0 lv0 []) : XV l y ws rm cy D ad σ av post xp mc ms := by
  intro sz
  refine vx_ofW (cc := cc) (maxL := maxL) (ret := ret) hy hw ?_
  intro p e s m args below meth c s₁ B hml hT hv
  obtain ⟨rfl, hsz, hP, hX⟩ := hv
  subst hsz
  have C : Cx p l e rm s m av.toArray below meth c cy D ad (Ar ad s.heap.size) maxL cc y.cls ws := ⟨⟨B.exec, B.bytes, hml, findClass_of_methodNamed B.named, atoms_spec (ws := ws) B.pre⟩, hI, fun _ h => h, hX, B.notSynchronized, hl, fun _ h => h⟩
  have hl := lv_entry av (n := maxL) hlen
  rw [lg_entry_eq]
  generalize (lg_sl av ++ List.replicate (maxL - (lg_sl av).length) Slot.unset).toArray = ls at hl ⊢
  exact body p e s m av.toArray below meth c C B.returns hT s.heap [] ls hP va_S.rf ⟨hl.1, hl.2.1, fun i v h => hl.2.2 (i, v) (by rw [← hlv]; exact lhL_mem.mpr h)⟩
theorem WV.of {l : Launch} {y : MethodName} {ws ws0 : List Cond} {rm : Room} {cc : ByteArray} {maxL : Nat} {ret : Option FieldType} {hh : List (Nat × Nat × Nat × Nat)} {σ : Sg} {av : List Value} {post : Sg → Prop} {mc ms : Nat} {lv0 : List (Option Value)} (hl : l.stackTraces = false) (hI : Inj ad) (hy : plainName y.cls = true) (hw : ws = Cond.codeWith y cc maxL ret hh :: ws0) (hlen : (lg_sl av).length ≤ maxL) (hlv : lhL lv0 = lv_args 0 av)
    (body : ∀ (p : Program) (e : Env) (s : State) (m : MethodId) (args : Array Value) (below : List Frame) (meth : Method) (c : Code), Cx p l e rm s m args below meth c cy D ad (Ar ad s.heap.size) maxL cc y.cls ws → meth.sig.returnType = ret → c.exceptionTable.toList = tableOf hh → JW p l e rm s m args below meth c cy D ad (Ar ad s.heap.size) maxL 0 0 (MQ below (QcV cy D ad post s.heap.size) args s mc ms (Ar ad s.heap.size)) σ 0 lv0 []) : KV l y ws rm cy D ad σ av post mc ms := by
  intro sz
  refine va_MetW (cc := cc) (maxL := maxL) (ret := ret) (hh := hh) hy hw ?_
  intro p e s m args below meth c s₁ B hml hv
  obtain ⟨rfl, hsz, hP, hX⟩ := hv
  subst hsz
  have C : Cx p l e rm s m av.toArray below meth c cy D ad (Ar ad s.heap.size) maxL cc y.cls ws := ⟨⟨B.exec, B.bytes, hml, findClass_of_methodNamed B.named, atoms_spec (ws := ws) B.pre⟩, hI, fun _ h => h, hX, B.notSynchronized, hl, fun _ h => h⟩
  have hl := lv_entry av (n := maxL) hlen
  rw [lg_entry_eq]
  generalize (lg_sl av ++ List.replicate (maxL - (lg_sl av).length) Slot.unset).toArray = ls at hl ⊢
  exact body p e s m av.toArray below meth c C B.returns (vx_table (x := y) B (atoms_spec (ws := ws) B.pre _ (by rw [hw]; exact List.mem_cons_self))) s.heap [] ls hP va_S.rf ⟨hl.1, hl.2.1, fun i v h => hl.2.2 (i, v) (by rw [← hlv]; exact lhL_mem.mpr h)⟩
theorem thw_cast : ∀ E ∈ [nIAE, nISE, nIOE], Cond.castable E E ∈ thw := by decide +kernel
theorem J_catch (C : Cx p l e R s m args below meth c cy D ad A nL cc own Ts) {E : String} (pre : List ExceptionTableEntry) (x : ExceptionTableEntry) (suf : List ExceptionTableEntry) (hsplit : c.exceptionTable.toList = pre ++ x :: suf) (hE : E ∈ [nIAE, nISE, nIOE]) (hpass : ∀ z ∈ pre, z.catchType ≠ 0 ∧ ∃ nm : String, nm ∈ [nIAE, nISE, nIOE] ∧ Cond.classLink own z.catchType nm ∈ Ts ∧ E ≠ nm) (hx : covers x pc = true) (h0 : x.catchType ≠ 0) (hl : Cond.classLink own x.catchType E ∈ Ts) (kk : ∀ q : Nat, JW p l e R s m args below meth c cy D ad A nL cells slots Q σ x.handlerPc lv [.ref q]) : JX p l e R s m args below meth c cy D ad A nL cells slots Q σ pc lv st E := by
  intro H locs ls ce q h1 h2 h3 hc9 hv9 hcl9
  refine vx_catch (name := E) C.1.2.2.2.1 pre x suf hsplit (fun z hz => ?_) hx h0 (C.1.2.2.2.2 _ hl) ?_ hc9 hv9 hcl9 (kk q H locs ls h1 h2 h3)
  · obtain ⟨g1, nm, g2, g3, g4⟩ := hpass z hz
    exact Or.inr ⟨g1, nm, C.1.2.2.2.2 _ g3, C.2.2.2.1.2.2.2.2.2 E hE nm g2 g4⟩
  · have g := thw_cast E hE
    have h5 := List.all_eq_true.mp thw_face _ g
    simp only [Bool.and_eq_true] at h5
    exact va_tabs (u := s) h5.2 rfl (C.2.2.2.1.2.2.2.2.1 _ g)
end JJ
